def sf_start (x : Int32) (i : Nat) (I : MI) : MI := uI I 31 i (if x ≤ nI i then 0 else if hb (I 7 i = 0) = 0 then 0 else 1)
def sp_start (I : MI) (x am fe : Int32) : MI := lp (sf_start x) 12 0 (uI (uI I 38 0 am) 39 0 fe)
set_option maxHeartbeats 4000000 in
set_option maxRecDepth 100000 in
theorem m_X4_start {l : Launch} {D : va_G} {b0 : Nat} {I : MI} {J : MJ} {P : MI} {N : MJ} {o : Int64} {x am fe : Int32} (hfe : hw_bo fe) : hM l yX4_start cX4_start 5 none rX4_start D b0 [.ref (hw_ad b0 16 0), .int x, .int am, .int fe] I J P N o none (sp_start I x am fe) J P N o := by
  refine hw_Mof (by decide) [(0, .ref _), (1, .int _), (2, .int _), (3, .int _)] rfl (Nat.le_of_ble_eq_true rfl) ?_
  intro p e s m args below meth c C hr hlk hnm
  refine hq_aload_n (q := 0) C dX4_start_0 rfl rfl ?_
  refine hq_iload_n (q := 2) C dX4_start_1 rfl rfl ?_
  refine hq_putI (f := 16) (g := 38) (Nc := 1) (Ns := 11) C fl_X4_39 dX4_start_2 rfl rfl rfl rfl rfl (by decide) Nat.one_pos rfl rfl ?_
  refine hq_aload_n (q := 0) C dX4_start_5 rfl rfl ?_
  refine hq_iload_n (q := 3) C dX4_start_6 rfl rfl ?_
  refine hq_putI (f := 16) (g := 39) (Nc := 1) (Ns := 11) C fl_X4_43 dX4_start_7 rfl rfl rfl rfl rfl (by decide) Nat.one_pos (hw_bon hfe) (hw_bof hfe) ?_
  refine hq_iconst (y := 0) C dX4_start_10 (by decide) ?_
  refine hq_istore (L' := [(4, .int _), (0, .ref _), (1, .int _), (2, .int _), (3, .int _)]) C dX4_start_11 (by decide) rfl ?_
  refine hq_perm [0, 1, 2, 3, 4] (L' := [(4, .int (nI 0)), (0, .ref (hw_ad b0 16 0)), (1, .int x), (2, .int am), (3, .int fe)]) rfl ?_
  refine lp_back (sf_start x) (fun (i : Nat) (σ : MI) => hw_V p l e rX4_start s m args below meth c (MQ below (hw_Q D b0 false (hw_n o) none (hw_vl b0 (sp_start I x am fe) J P N o)) args s 0 0 (fun q => b0 ≤ q)) D b0 5 false 0 0 (hw_n o) 13 [(4, .int (nI i)), (0, .ref (hw_ad b0 16 0)), (1, .int x), (2, .int am), (3, .int fe)] [] (hw_vl b0 σ J P N o)) (fun _ _ => True) 12 ?_ (fun _ _ _ _ => trivial) 12 0 (uI (uI I 38 0 am) 39 0 fe) (by omega) trivial ?_
  · intro i σ hi hinv k
    refine hq_iload (q := 0) C dX4_start_13 rfl ?_
    refine hq_bipush (y := 12) C dX4_start_15 (by decide) ?_
    refine hq_icmp_ge (tgt := 57) C dX4_start_17 (by decide) (fun c_17 => absurd c_17 (nI_ge (b := 12) hi (by decide))) (fun c_17 => ?_)
    refine hq_aload_n (q := 1) C dX4_start_20 rfl rfl ?_
    refine hq_getR (f := 16) (g := 17) (Nc := 1) (Ns := 11) C fr_X4_9 dX4_start_21 rfl rfl rfl rfl rfl (by decide) Nat.one_pos ?_
    refine hq_iload (q := 0) C dX4_start_24 rfl ?_
    refine hq_iload (q := 0) C dX4_start_26 rfl ?_
    refine hq_iload_n (q := 2) C dX4_start_28 rfl rfl ?_
    refine hq_icmp_ge (tgt := 49) C dX4_start_29 (by decide) (fun c_29 => ?_) (fun c_29 => ?_)
    · refine hq_iconst (y := 0) C dX4_start_49 (by decide) ?_
      refine hq_zastI0 (f := 17) (g := 31) (Nc := 1) (Ns := 12) C dX4_start_50 rfl rfl rfl rfl rfl rfl (by first | rfl | assumption) (by first | assumption | omega) Nat.one_pos (by decide) ?_
      refine hq_iinc (q := 0) (y := nI (_ + 1)) (L' := [(4, .int _), (0, .ref _), (1, .int _), (2, .int _), (3, .int _)]) C dX4_start_51 rfl (hw_inc _) (by decide) rfl ?_
      refine hq_goto (tgt := 13) C dX4_start_54 (by decide) ?_
      exact hq_fin [0, 1, 2, 3, 4] (by first | rfl | (simp only [sf_start, c_29, ↓reduceIte, not_true_eq_false, not_false_eq_true]; rfl) | simp [lv_pick, sf_start, c_29]) (by first | rfl | (simp only [sf_start, c_29, ↓reduceIte, not_true_eq_false, not_false_eq_true]; done) | (simp only [sf_start, c_29, ↓reduceIte, not_true_eq_false, not_false_eq_true]; rfl) | simp [sf_start, c_29]) (by first | rfl | (simp only [sf_start, c_29, ↓reduceIte, not_true_eq_false, not_false_eq_true]; done) | (simp only [sf_start, c_29, ↓reduceIte, not_true_eq_false, not_false_eq_true]; rfl) | simp [sf_start, c_29]) (by first | rfl | (simp only [sf_start, c_29, ↓reduceIte, not_true_eq_false, not_false_eq_true]; done) | (simp only [sf_start, c_29, ↓reduceIte, not_true_eq_false, not_false_eq_true]; rfl) | simp [sf_start, c_29]) (by first | rfl | (simp only [sf_start, c_29, ↓reduceIte, not_true_eq_false, not_false_eq_true]; done) | (simp only [sf_start, c_29, ↓reduceIte, not_true_eq_false, not_false_eq_true]; rfl) | simp [sf_start, c_29]) (by first | rfl | (simp only [sf_start, c_29, ↓reduceIte, not_true_eq_false, not_false_eq_true]; done) | (simp only [sf_start, c_29, ↓reduceIte, not_true_eq_false, not_false_eq_true]; rfl) | simp [sf_start, c_29]) k
    · refine hq_aload_n (q := 1) C dX4_start_32 rfl rfl ?_
      refine hq_getR (f := 16) (g := 1) (Nc := 1) (Ns := 11) C fr_X4_31 dX4_start_33 rfl rfl rfl rfl rfl (by decide) Nat.one_pos ?_
      refine hq_iload (q := 0) C dX4_start_36 rfl ?_
      refine hq_aaldBR0 (f := 1) (g := 2) (Nc := 1) (Ns := 12) C dX4_start_38 rfl rfl rfl rfl rfl rfl (by first | rfl | assumption) (by first | assumption | omega) Nat.one_pos ?_
      refine hq_cVr (As := []) (rm := rX0_isGood) (f := 2) (Nc := 12) C (m_X0_isGood (by first | assumption | omega)) wv_X0_isGood ml_X4_47 rfl rfl rfl (by first | assumption | omega) rfl rfl rfl rfl ⟨Nat.le_of_ble_eq_true rfl, Nat.le_of_ble_eq_true rfl⟩ (Nat.le_of_ble_eq_true rfl) ⟨Nat.le_of_ble_eq_true rfl, Nat.le_of_ble_eq_true rfl⟩ dX4_start_39 ?_
      refine hq_if_eq (tgt := 49) C dX4_start_42 (by decide) (fun c_42 => ?_) (fun c_42 => ?_)
      · refine hq_iconst (y := 0) C dX4_start_49 (by decide) ?_
        refine hq_zastI0 (f := 17) (g := 31) (Nc := 1) (Ns := 12) C dX4_start_50 rfl rfl rfl rfl rfl rfl (by first | rfl | assumption) (by first | assumption | omega) Nat.one_pos (by decide) ?_
        refine hq_iinc (q := 0) (y := nI (_ + 1)) (L' := [(4, .int _), (0, .ref _), (1, .int _), (2, .int _), (3, .int _)]) C dX4_start_51 rfl (hw_inc _) (by decide) rfl ?_
        refine hq_goto (tgt := 13) C dX4_start_54 (by decide) ?_
        exact hq_fin [0, 1, 2, 3, 4] (by first | rfl | (simp only [sf_start, c_29, c_42, ↓reduceIte, not_true_eq_false, not_false_eq_true]; rfl) | simp [lv_pick, sf_start, c_29, c_42]) (by first | rfl | (simp only [sf_start, c_29, c_42, ↓reduceIte, not_true_eq_false, not_false_eq_true]; done) | (simp only [sf_start, c_29, c_42, ↓reduceIte, not_true_eq_false, not_false_eq_true]; rfl) | simp [sf_start, c_29, c_42]) (by first | rfl | (simp only [sf_start, c_29, c_42, ↓reduceIte, not_true_eq_false, not_false_eq_true]; done) | (simp only [sf_start, c_29, c_42, ↓reduceIte, not_true_eq_false, not_false_eq_true]; rfl) | simp [sf_start, c_29, c_42]) (by first | rfl | (simp only [sf_start, c_29, c_42, ↓reduceIte, not_true_eq_false, not_false_eq_true]; done) | (simp only [sf_start, c_29, c_42, ↓reduceIte, not_true_eq_false, not_false_eq_true]; rfl) | simp [sf_start, c_29, c_42]) (by first | rfl | (simp only [sf_start, c_29, c_42, ↓reduceIte, not_true_eq_false, not_false_eq_true]; done) | (simp only [sf_start, c_29, c_42, ↓reduceIte, not_true_eq_false, not_false_eq_true]; rfl) | simp [sf_start, c_29, c_42]) (by first | rfl | (simp only [sf_start, c_29, c_42, ↓reduceIte, not_true_eq_false, not_false_eq_true]; done) | (simp only [sf_start, c_29, c_42, ↓reduceIte, not_true_eq_false, not_false_eq_true]; rfl) | simp [sf_start, c_29, c_42]) k
      · refine hq_iconst (y := 1) C dX4_start_45 (by decide) ?_
        refine hq_goto (tgt := 50) C dX4_start_46 (by decide) ?_
        refine hq_zastI0 (f := 17) (g := 31) (Nc := 1) (Ns := 12) C dX4_start_50 rfl rfl rfl rfl rfl rfl (by first | rfl | assumption) (by first | assumption | omega) Nat.one_pos (by decide) ?_
        refine hq_iinc (q := 0) (y := nI (_ + 1)) (L' := [(4, .int _), (0, .ref _), (1, .int _), (2, .int _), (3, .int _)]) C dX4_start_51 rfl (hw_inc _) (by decide) rfl ?_
        refine hq_goto (tgt := 13) C dX4_start_54 (by decide) ?_
        exact hq_fin [0, 1, 2, 3, 4] (by first | rfl | (simp only [sf_start, c_29, c_42, ↓reduceIte, not_true_eq_false, not_false_eq_true]; rfl) | simp [lv_pick, sf_start, c_29, c_42]) (by first | rfl | (simp only [sf_start, c_29, c_42, ↓reduceIte, not_true_eq_false, not_false_eq_true]; done) | (simp only [sf_start, c_29, c_42, ↓reduceIte, not_true_eq_false, not_false_eq_true]; rfl) | simp [sf_start, c_29, c_42]) (by first | rfl | (simp only [sf_start, c_29, c_42, ↓reduceIte, not_true_eq_false, not_false_eq_true]; done) | (simp only [sf_start, c_29, c_42, ↓reduceIte, not_true_eq_false, not_false_eq_true]; rfl) | simp [sf_start, c_29, c_42]) (by first | rfl | (simp only [sf_start, c_29, c_42, ↓reduceIte, not_true_eq_false, not_false_eq_true]; done) | (simp only [sf_start, c_29, c_42, ↓reduceIte, not_true_eq_false, not_false_eq_true]; rfl) | simp [sf_start, c_29, c_42]) (by first | rfl | (simp only [sf_start, c_29, c_42, ↓reduceIte, not_true_eq_false, not_false_eq_true]; done) | (simp only [sf_start, c_29, c_42, ↓reduceIte, not_true_eq_false, not_false_eq_true]; rfl) | simp [sf_start, c_29, c_42]) (by first | rfl | (simp only [sf_start, c_29, c_42, ↓reduceIte, not_true_eq_false, not_false_eq_true]; done) | (simp only [sf_start, c_29, c_42, ↓reduceIte, not_true_eq_false, not_false_eq_true]; rfl) | simp [sf_start, c_29, c_42]) k
  · refine hq_iload (q := 0) C dX4_start_13 rfl ?_
    refine hq_bipush (y := 12) C dX4_start_15 (by decide) ?_
    refine hq_icmp_ge (tgt := 57) C dX4_start_17 (by decide) (fun c_17 => ?_) (fun c_17 => absurd (nI_le (Nat.le_refl 12) (by decide)) c_17)
    exact hq_vret C hr hlk dX4_start_57 rfl
set_option maxHeartbeats 4000000 in
set_option maxRecDepth 100000 in
theorem m_X4_leaveOut {l : Launch} {D : va_G} {b0 : Nat} {I : MI} {J : MJ} {P : MI} {N : MJ} {o : Int64} {b : Nat} {x : Int32} (hx : x = nI b) (hb9 : b < 12) : hM l yX4_leaveOut cX4_leaveOut 2 none rX4_leaveOut D b0 [.ref (hw_ad b0 16 0), .int x] I J P N o none (uI I 31 b 0) J P N o := by
  refine hw_Mof (by decide) [(0, .ref _), (1, .int _)] rfl (Nat.le_of_ble_eq_true rfl) ?_
  intro p e s m args below meth c C hr hlk hnm
  refine hq_aload_n (q := 0) C dX4_leaveOut_0 rfl rfl ?_
  refine hq_getR (f := 16) (g := 17) (Nc := 1) (Ns := 11) C fr_X4_9 dX4_leaveOut_1 rfl rfl rfl rfl rfl (by decide) Nat.one_pos ?_
  refine hq_iload_n (q := 1) C dX4_leaveOut_4 rfl rfl ?_
  refine hq_iconst (y := 0) C dX4_leaveOut_5 (by decide) ?_
  refine hq_zastI0 (f := 17) (g := 31) (Nc := 1) (Ns := 12) C dX4_leaveOut_6 rfl rfl rfl rfl rfl rfl (by first | rfl | assumption) (by first | assumption | omega) Nat.one_pos (by decide) ?_
  exact hq_vret C hr hlk dX4_leaveOut_7 rfl
def sp_fee (I : MI) (b : Nat) : Int32 := I 38 0 * I 6 b / 1000
set_option maxHeartbeats 4000000 in
set_option maxRecDepth 100000 in
theorem m_X4_feeOf {l : Launch} {D : va_G} {b0 : Nat} {I : MI} {J : MJ} {P : MI} {N : MJ} {o : Int64} {b : Nat} {x : Int32} (hx : x = nI b) (hb9 : b < 12) : hM l yX4_feeOf cX4_feeOf 2 (some .int) rX4_feeOf D b0 [.ref (hw_ad b0 16 0), .int x] I J P N o (some (.int (sp_fee I b))) I J P N o := by
  refine hw_Mof (by decide) [(0, .ref _), (1, .int _)] rfl (Nat.le_of_ble_eq_true rfl) ?_
  intro p e s m args below meth c C hr hlk hnm
  refine hq_aload_n (q := 0) C dX4_feeOf_0 rfl rfl ?_
  refine hq_getI (f := 16) (g := 38) (Nc := 1) (Ns := 11) C fr_X4_39 dX4_feeOf_1 rfl rfl rfl rfl rfl (by decide) Nat.one_pos ?_
  refine hq_aload_n (q := 0) C dX4_feeOf_4 rfl rfl ?_
  refine hq_getR (f := 16) (g := 1) (Nc := 1) (Ns := 11) C fr_X4_31 dX4_feeOf_5 rfl rfl rfl rfl rfl (by decide) Nat.one_pos ?_
  refine hq_iload_n (q := 1) C dX4_feeOf_8 rfl rfl ?_
  refine hq_aaldBR0 (f := 1) (g := 2) (Nc := 1) (Ns := 12) C dX4_feeOf_9 rfl rfl rfl rfl rfl rfl (by first | rfl | assumption) (by first | assumption | omega) Nat.one_pos ?_
  refine hq_getI (f := 2) (g := 6) (Nc := 12) (Ns := 8) C fr_X4_67 dX4_feeOf_10 rfl rfl rfl rfl rfl (by decide) (by first | assumption | omega) ?_
  refine hq_imul C dX4_feeOf_13 ?_
  refine hq_sipush (y := 1000) C dX4_feeOf_14 (by decide) ?_
  refine hq_idiv C dX4_feeOf_17 (by decide) ?_
  exact hq_iret C hr hlk dX4_feeOf_18 rfl rfl
def sp_owe (I : MI) (J : MJ) (d c : Nat) : Int32 := hb (J 1 (12 * d + c) + (I 38 0).toInt64 + (I 34 c).toInt64 ≤ (sp_lim I c d (I 39 0)).toInt64)
set_option maxHeartbeats 4000000 in
set_option maxRecDepth 100000 in
theorem m_X4_canOwe {l : Launch} {D : va_G} {b0 : Nat} {I : MI} {J : MJ} {P : MI} {N : MJ} {o : Int64} {d c : Nat} {x y : Int32} (hx : x = nI d) (hd : d < 12) (hy : y = nI c) (hc : c < 12) : hM l yX4_canOwe cX4_canOwe 5 (some .boolean) rX4_canOwe D b0 [.ref (hw_ad b0 16 0), .int x, .int y] I J P N o (some (.int (sp_owe I J d c))) I J P N o := by
  refine hw_Mof (by decide) [(0, .ref _), (1, .int _), (2, .int _)] rfl (Nat.le_of_ble_eq_true rfl) ?_
  intro p e s m args below meth c C hr hlk hnm
  refine hq_aload_n (q := 0) C dX4_canOwe_0 rfl rfl ?_
  refine hq_getR (f := 16) (g := 11) (Nc := 1) (Ns := 11) C fr_X4_35 dX4_canOwe_1 rfl rfl rfl rfl rfl (by decide) Nat.one_pos ?_
  refine hq_getR (f := 11) (g := 12) (Nc := 1) (Ns := 2) C fr_X4_70 dX4_canOwe_4 rfl rfl rfl rfl rfl (by decide) Nat.one_pos ?_
  refine hq_iload_n (q := 1) C dX4_canOwe_7 rfl rfl ?_
  refine hq_aaldJR0 (f := 12) (g := 13) (Nc := 1) (Ns := 12) C dX4_canOwe_8 rfl rfl rfl rfl rfl rfl (by first | rfl | assumption) (by first | assumption | omega) Nat.one_pos ?_
  refine hq_iload_n (q := 2) C dX4_canOwe_9 rfl rfl ?_
  refine hq_laldJw (f := 13) (g := 1) (w := 12) (Nc := 12) (Ns := 12) C dX4_canOwe_10 rfl rfl rfl ⟨rfl, by decide⟩ rfl rfl (by first | rfl | assumption) (by first | assumption | omega) (by first | assumption | omega) ?_
  refine hq_aload_n (q := 0) C dX4_canOwe_11 rfl rfl ?_
  refine hq_getI (f := 16) (g := 38) (Nc := 1) (Ns := 11) C fr_X4_39 dX4_canOwe_12 rfl rfl rfl rfl rfl (by decide) Nat.one_pos ?_
  refine hq_i2l C dX4_canOwe_15 ?_
  refine hq_ladd C dX4_canOwe_16 ?_
  refine hq_aload_n (q := 0) C dX4_canOwe_17 rfl rfl ?_
  refine hq_getR (f := 16) (g := 20) (Nc := 1) (Ns := 11) C fr_X4_21 dX4_canOwe_18 rfl rfl rfl rfl rfl (by decide) Nat.one_pos ?_
  refine hq_iload_n (q := 2) C dX4_canOwe_21 rfl rfl ?_
  refine hq_ialdI0 (f := 20) (g := 34) (Nc := 1) (Ns := 12) C dX4_canOwe_22 rfl rfl rfl rfl rfl rfl (by first | rfl | assumption) (by first | assumption | omega) Nat.one_pos ?_
  refine hq_i2l C dX4_canOwe_23 ?_
  refine hq_ladd C dX4_canOwe_24 ?_
  refine hq_lstore_n (L' := [(3, .long _), (0, .ref _), (1, .int _), (2, .int _)]) C dX4_canOwe_25 rfl (by decide) rfl ?_
  refine hq_lload_n (q := 0) C dX4_canOwe_26 rfl rfl ?_
  refine hq_aload_n (q := 1) C dX4_canOwe_27 rfl rfl ?_
  refine hq_getR (f := 16) (g := 1) (Nc := 1) (Ns := 11) C fr_X4_31 dX4_canOwe_28 rfl rfl rfl rfl rfl (by decide) Nat.one_pos ?_
  refine hq_iload_n (q := 3) C dX4_canOwe_31 rfl rfl ?_
  refine hq_aaldBR0 (f := 1) (g := 2) (Nc := 1) (Ns := 12) C dX4_canOwe_32 rfl rfl rfl rfl rfl rfl (by first | rfl | assumption) (by first | assumption | omega) Nat.one_pos ?_
  refine hq_iload_n (q := 2) C dX4_canOwe_33 rfl rfl ?_
  refine hq_aload_n (q := 1) C dX4_canOwe_34 rfl rfl ?_
  refine hq_getI (f := 16) (g := 39) (Nc := 1) (Ns := 11) C fr_X4_43 dX4_canOwe_35 rfl rfl rfl rfl rfl (by decide) Nat.one_pos ?_
  refine hq_cVr (As := [.int _, .int _]) (rm := rX0_limitNow) (f := 2) (Nc := 12) C (m_X0_limitNow (by first | assumption | omega) (by first | rfl | assumption) (by first | assumption | omega)) wv_X0_limitNow ml_X4_76 rfl rfl rfl (by first | assumption | omega) rfl rfl rfl rfl ⟨Nat.le_of_ble_eq_true rfl, Nat.le_of_ble_eq_true rfl⟩ (Nat.le_of_ble_eq_true rfl) ⟨Nat.le_of_ble_eq_true rfl, Nat.le_of_ble_eq_true rfl⟩ dX4_canOwe_38 ?_
  refine hq_i2l C dX4_canOwe_41 ?_
  refine hq_lcmp C dX4_canOwe_42 ?_
  refine hq_if_gt (tgt := 50) C dX4_canOwe_43 (by decide) (fun c_43 => ?_) (fun c_43 => ?_)
  · refine hq_iconst (y := 0) C dX4_canOwe_50 (by decide) ?_
    exact hq_zret C hr hlk dX4_canOwe_51 (by decide) (hb_f (Int64.not_le.mpr ((lg_cmp_gt _ _).mp c_43))).symm rfl
  · refine hq_iconst (y := 1) C dX4_canOwe_46 (by decide) ?_
    refine hq_goto (tgt := 51) C dX4_canOwe_47 (by decide) ?_
    exact hq_zret C hr hlk dX4_canOwe_51 (by decide) (hb_t (Int64.not_lt.mp (fun z => c_43 ((lg_cmp_gt _ _).mpr z)))).symm rfl
def sf_sa (i : Nat) (I : MI) : MI := uI (uI I 32 i 0) 33 i 0
def sp_sat (I : MI) (b : Nat) : MI := uI (uI (uI (lp sf_sa 12 0 I) 32 b 1) 34 b (sp_fee (uI (lp sf_sa 12 0 I) 32 b 1) b)) 35 b 1
set_option maxHeartbeats 4000000 in
set_option maxRecDepth 100000 in
theorem m_X4_startAt {l : Launch} {D : va_G} {b0 : Nat} {I : MI} {J : MJ} {P : MI} {N : MJ} {o : Int64} {b : Nat} {x : Int32} (hx : x = nI b) (hb9 : b < 12) : hM l yX4_startAt cX4_startAt 3 none rX4_startAt D b0 [.ref (hw_ad b0 16 0), .int x] I J P N o none (sp_sat I b) J P N o := by
  refine hw_Mof (by decide) [(0, .ref _), (1, .int _)] rfl (Nat.le_of_ble_eq_true rfl) ?_
  intro p e s m args below meth c C hr hlk hnm
  refine hq_iconst (y := 0) C dX4_startAt_0 (by decide) ?_
  refine hq_istore_n (L' := [(2, .int _), (0, .ref _), (1, .int _)]) C dX4_startAt_1 rfl (by decide) rfl ?_
  refine hq_perm [0, 1, 2] (L' := [(2, .int (nI 0)), (0, .ref (hw_ad b0 16 0)), (1, .int x)]) rfl ?_
  refine lp_back sf_sa (fun (i : Nat) (σ : MI) => hw_V p l e rX4_startAt s m args below meth c (MQ below (hw_Q D b0 false (hw_n o) none (hw_vl b0 (sp_sat I b) J P N o)) args s 0 0 (fun q => b0 ≤ q)) D b0 3 false 0 0 (hw_n o) 2 [(2, .int (nI i)), (0, .ref (hw_ad b0 16 0)), (1, .int x)] [] (hw_vl b0 σ J P N o)) (fun _ _ => True) 12 ?_ (fun _ _ _ _ => trivial) 12 0 I (by omega) trivial ?_
  · intro i σ hi hinv k
    refine hq_iload_n (q := 0) C dX4_startAt_2 rfl rfl ?_
    refine hq_bipush (y := 12) C dX4_startAt_3 (by decide) ?_
    refine hq_icmp_ge (tgt := 28) C dX4_startAt_5 (by decide) (fun c_5 => absurd c_5 (nI_ge (b := 12) hi (by decide))) (fun c_5 => ?_)
    refine hq_aload_n (q := 1) C dX4_startAt_8 rfl rfl ?_
    refine hq_getR (f := 16) (g := 18) (Nc := 1) (Ns := 11) C fr_X4_15 dX4_startAt_9 rfl rfl rfl rfl rfl (by decide) Nat.one_pos ?_
    refine hq_iload_n (q := 0) C dX4_startAt_12 rfl rfl ?_
    refine hq_iconst (y := 0) C dX4_startAt_13 (by decide) ?_
    refine hq_zastI0 (f := 18) (g := 32) (Nc := 1) (Ns := 12) C dX4_startAt_14 rfl rfl rfl rfl rfl rfl (by first | rfl | assumption) (by first | assumption | omega) Nat.one_pos (by decide) ?_
    refine hq_aload_n (q := 1) C dX4_startAt_15 rfl rfl ?_
    refine hq_getR (f := 16) (g := 19) (Nc := 1) (Ns := 11) C fr_X4_18 dX4_startAt_16 rfl rfl rfl rfl rfl (by decide) Nat.one_pos ?_
    refine hq_iload_n (q := 0) C dX4_startAt_19 rfl rfl ?_
    refine hq_iconst (y := 0) C dX4_startAt_20 (by decide) ?_
    refine hq_zastI0 (f := 19) (g := 33) (Nc := 1) (Ns := 12) C dX4_startAt_21 rfl rfl rfl rfl rfl rfl (by first | rfl | assumption) (by first | assumption | omega) Nat.one_pos (by decide) ?_
    refine hq_iinc (q := 0) (y := nI (_ + 1)) (L' := [(2, .int _), (0, .ref _), (1, .int _)]) C dX4_startAt_22 rfl (hw_inc _) (by decide) rfl ?_
    refine hq_goto (tgt := 2) C dX4_startAt_25 (by decide) ?_
    exact hq_fin [0, 1, 2] (by first | rfl | (simp only [sf_sa, ↓reduceIte, not_true_eq_false, not_false_eq_true]; rfl) | simp [lv_pick, sf_sa]) (by first | rfl | simp [sf_sa]) (by first | rfl | simp [sf_sa]) (by first | rfl | simp [sf_sa]) (by first | rfl | simp [sf_sa]) (by first | rfl | simp [sf_sa]) k
  · refine hq_iload_n (q := 0) C dX4_startAt_2 rfl rfl ?_
    refine hq_bipush (y := 12) C dX4_startAt_3 (by decide) ?_
    refine hq_icmp_ge (tgt := 28) C dX4_startAt_5 (by decide) (fun c_5 => ?_) (fun c_5 => absurd (nI_le (Nat.le_refl 12) (by decide)) c_5)
    refine hq_aload_n (q := 1) C dX4_startAt_28 rfl rfl ?_
    refine hq_getR (f := 16) (g := 18) (Nc := 1) (Ns := 11) C fr_X4_15 dX4_startAt_29 rfl rfl rfl rfl rfl (by decide) Nat.one_pos ?_
    refine hq_iload_n (q := 2) C dX4_startAt_32 rfl rfl ?_
    refine hq_iconst (y := 1) C dX4_startAt_33 (by decide) ?_
    refine hq_zastI0 (f := 18) (g := 32) (Nc := 1) (Ns := 12) C dX4_startAt_34 rfl rfl rfl rfl rfl rfl (by first | rfl | assumption) (by first | assumption | omega) Nat.one_pos (by decide) ?_
    refine hq_aload_n (q := 1) C dX4_startAt_35 rfl rfl ?_
    refine hq_getR (f := 16) (g := 20) (Nc := 1) (Ns := 11) C fr_X4_21 dX4_startAt_36 rfl rfl rfl rfl rfl (by decide) Nat.one_pos ?_
    refine hq_iload_n (q := 2) C dX4_startAt_39 rfl rfl ?_
    refine hq_aload_n (q := 1) C dX4_startAt_40 rfl rfl ?_
    refine hq_iload_n (q := 2) C dX4_startAt_41 rfl rfl ?_
    refine hq_cVr (As := [.int _]) (rm := rX4_feeOf) (f := 16) (Nc := 1) C (m_X4_feeOf (by first | rfl | assumption) (by first | assumption | omega)) wv_X4_feeOf ml_X4_80 rfl rfl rfl Nat.one_pos rfl rfl rfl rfl ⟨Nat.le_of_ble_eq_true rfl, Nat.le_of_ble_eq_true rfl⟩ (Nat.le_of_ble_eq_true rfl) ⟨Nat.le_of_ble_eq_true rfl, Nat.le_of_ble_eq_true rfl⟩ dX4_startAt_42 ?_
    refine hq_iastI0 (f := 20) (g := 34) (Nc := 1) (Ns := 12) C dX4_startAt_45 rfl rfl rfl rfl rfl rfl (by first | rfl | assumption) (by first | assumption | omega) Nat.one_pos ?_
    refine hq_aload_n (q := 1) C dX4_startAt_46 rfl rfl ?_
    refine hq_getR (f := 16) (g := 21) (Nc := 1) (Ns := 11) C fr_X4_25 dX4_startAt_47 rfl rfl rfl rfl rfl (by decide) Nat.one_pos ?_
    refine hq_iload_n (q := 2) C dX4_startAt_50 rfl rfl ?_
    refine hq_iconst (y := 1) C dX4_startAt_51 (by decide) ?_
    refine hq_iastI0 (f := 21) (g := 35) (Nc := 1) (Ns := 12) C dX4_startAt_52 rfl rfl rfl rfl rfl rfl (by first | rfl | assumption) (by first | assumption | omega) Nat.one_pos ?_
    exact hq_vret C hr hlk dX4_startAt_53 rfl
def sp_bet (I : MI) (fe ct : Int32) (k : Nat) : Int32 := if fe < I 34 k then 1 else if ¬ fe = I 34 k then 0 else if I 35 k ≤ ct then 0 else 1
set_option maxHeartbeats 4000000 in
set_option maxRecDepth 100000 in
theorem m_X4_isBetter {l : Launch} {D : va_G} {b0 : Nat} {I : MI} {J : MJ} {P : MI} {N : MJ} {o : Int64} {k : Nat} {x y z : Int32} (hz : z = nI k) (hk : k < 12) : hM l yX4_isBetter cX4_isBetter 4 (some .boolean) rX4_isBetter D b0 [.ref (hw_ad b0 16 0), .int x, .int y, .int z] I J P N o (some (.int (sp_bet I x y k))) I J P N o := by
  refine hw_Mof (by decide) [(0, .ref _), (1, .int _), (2, .int _), (3, .int _)] rfl (Nat.le_of_ble_eq_true rfl) ?_
  intro p e s m args below meth c C hr hlk hnm
  refine hq_iload_n (q := 1) C dX4_isBetter_0 rfl rfl ?_
  refine hq_aload_n (q := 0) C dX4_isBetter_1 rfl rfl ?_
  refine hq_getR (f := 16) (g := 20) (Nc := 1) (Ns := 11) C fr_X4_21 dX4_isBetter_2 rfl rfl rfl rfl rfl (by decide) Nat.one_pos ?_
  refine hq_iload_n (q := 3) C dX4_isBetter_5 rfl rfl ?_
  refine hq_ialdI0 (f := 20) (g := 34) (Nc := 1) (Ns := 12) C dX4_isBetter_6 rfl rfl rfl rfl rfl rfl (by first | rfl | assumption) (by first | assumption | omega) Nat.one_pos ?_
  refine hq_icmp_lt (tgt := 30) C dX4_isBetter_7 (by decide) (fun c_7 => ?_) (fun c_7 => ?_)
  · refine hq_iconst (y := 1) C dX4_isBetter_30 (by decide) ?_
    refine hq_goto (tgt := 35) C dX4_isBetter_31 (by decide) ?_
    exact hq_zret C hr hlk dX4_isBetter_35 (by decide) (by simp [sp_bet, c_7]) rfl
  · refine hq_iload_n (q := 1) C dX4_isBetter_10 rfl rfl ?_
    refine hq_aload_n (q := 0) C dX4_isBetter_11 rfl rfl ?_
    refine hq_getR (f := 16) (g := 20) (Nc := 1) (Ns := 11) C fr_X4_21 dX4_isBetter_12 rfl rfl rfl rfl rfl (by decide) Nat.one_pos ?_
    refine hq_iload_n (q := 3) C dX4_isBetter_15 rfl rfl ?_
    refine hq_ialdI0 (f := 20) (g := 34) (Nc := 1) (Ns := 12) C dX4_isBetter_16 rfl rfl rfl rfl rfl rfl (by first | rfl | assumption) (by first | assumption | omega) Nat.one_pos ?_
    refine hq_icmp_ne (tgt := 34) C dX4_isBetter_17 (by decide) (fun c_17 => ?_) (fun c_17 => ?_)
    · refine hq_iconst (y := 0) C dX4_isBetter_34 (by decide) ?_
      exact hq_zret C hr hlk dX4_isBetter_35 (by decide) (by simp [sp_bet, c_7, c_17]) rfl
    · refine hq_iload_n (q := 2) C dX4_isBetter_20 rfl rfl ?_
      refine hq_aload_n (q := 0) C dX4_isBetter_21 rfl rfl ?_
      refine hq_getR (f := 16) (g := 21) (Nc := 1) (Ns := 11) C fr_X4_25 dX4_isBetter_22 rfl rfl rfl rfl rfl (by decide) Nat.one_pos ?_
      refine hq_iload_n (q := 3) C dX4_isBetter_25 rfl rfl ?_
      refine hq_ialdI0 (f := 21) (g := 35) (Nc := 1) (Ns := 12) C dX4_isBetter_26 rfl rfl rfl rfl rfl rfl (by first | rfl | assumption) (by first | assumption | omega) Nat.one_pos ?_
      refine hq_icmp_ge (tgt := 34) C dX4_isBetter_27 (by decide) (fun c_27 => ?_) (fun c_27 => ?_)
      · refine hq_iconst (y := 0) C dX4_isBetter_34 (by decide) ?_
        exact hq_zret C hr hlk dX4_isBetter_35 (by decide) (by simp [sp_bet, c_7, c_17, c_27]) rfl
      · refine hq_iconst (y := 1) C dX4_isBetter_30 (by decide) ?_
        refine hq_goto (tgt := 35) C dX4_isBetter_31 (by decide) ?_
        exact hq_zret C hr hlk dX4_isBetter_35 (by decide) (by simp [sp_bet, c_7, c_17, c_27]) rfl
def sf_bu (I : MI) (i : Nat) (b : Int32) : Int32 := if I 32 i = 0 then b else if ¬ I 33 i = 0 then b else if b = -1 then nI i else if sp_bet I (I 34 i) (I 35 i) b.toNatClampNeg = 0 then b else nI i
def sp_bu (I : MI) : Int32 := lp (sf_bu I) 12 0 (-1)
def hw_br (b : Int32) : Prop := b = -1 ∨ ∃ k : Nat, k < 12 ∧ b = nI k
theorem hw_br.x {b : Int32} (h : hw_br b) (h1 : ¬ b = -1) : b = nI b.toNatClampNeg := by
  rcases h with h | ⟨k, h2, h3⟩
  · exact absurd h h1
  · rw [h3, nI_clamp (by omega)]
theorem hw_br.b {b : Int32} (h : hw_br b) (h1 : ¬ b = -1) : b.toNatClampNeg < 12 := by
  rcases h with h | ⟨k, h2, h3⟩
  · exact absurd h h1
  · rw [h3, nI_clamp (by omega)]; exact h2
theorem sf_bu_br (I : MI) (i : Nat) (b : Int32) (h : i < 12) (hb9 : hw_br b) : hw_br (sf_bu I i b) := by
  unfold sf_bu
  repeat' split
  all_goals first | exact hb9 | exact Or.inr ⟨i, h, rfl⟩
theorem sp_bu_br (I : MI) : hw_br (sp_bu I) := lp_inv (sf_bu I) (fun _ b => hw_br b) 12 (fun i b h hb9 => sf_bu_br I i b h hb9) 12 0 (-1) rfl (Or.inl rfl)
set_option maxHeartbeats 4000000 in
set_option maxRecDepth 100000 in
theorem m_X4_bestUnsettled {l : Launch} {D : va_G} {b0 : Nat} {I : MI} {J : MJ} {P : MI} {N : MJ} {o : Int64}  : hM l yX4_bestUnsettled cX4_bestUnsettled 3 (some .int) rX4_bestUnsettled D b0 [.ref (hw_ad b0 16 0)] I J P N o (some (.int (sp_bu I))) I J P N o := by
  refine hw_Mof (by decide) [(0, .ref _)] rfl (Nat.le_of_ble_eq_true rfl) ?_
  intro p e s m args below meth c C hr hlk hnm
  refine hq_iconst (y := -1) C dX4_bestUnsettled_0 (by decide) ?_
  refine hq_istore_n (L' := [(1, .int _), (0, .ref _)]) C dX4_bestUnsettled_1 rfl (by decide) rfl ?_
  refine hq_iconst (y := 0) C dX4_bestUnsettled_2 (by decide) ?_
  refine hq_istore_n (L' := [(2, .int _), (1, .int _), (0, .ref _)]) C dX4_bestUnsettled_3 rfl (by decide) rfl ?_
  refine hq_perm [0, 1, 2] (L' := [(2, .int (nI 0)), (1, .int (-1)), (0, .ref (hw_ad b0 16 0))]) rfl ?_
  refine lp_back (sf_bu I) (fun (i : Nat) (σ : Int32) => hw_V p l e rX4_bestUnsettled s m args below meth c (MQ below (hw_Q D b0 false (hw_n o) (some (.int (sp_bu I))) (hw_vl b0 I J P N o)) args s 0 0 (fun q => b0 ≤ q)) D b0 3 false 0 0 (hw_n o) 4 [(2, .int (nI i)), (1, .int σ), (0, .ref (hw_ad b0 16 0))] [] (hw_vl b0 I J P N o)) (fun _ b => hw_br b) 12 ?_ (fun i b h hb9 => sf_bu_br I i b h hb9) 12 0 (-1) (by omega) (Or.inl rfl) ?_
  · intro i σ hi hinv k
    refine hq_iload_n (q := 0) C dX4_bestUnsettled_4 rfl rfl ?_
    refine hq_bipush (y := 12) C dX4_bestUnsettled_5 (by decide) ?_
    refine hq_icmp_ge (tgt := 61) C dX4_bestUnsettled_7 (by decide) (fun c_7 => absurd c_7 (nI_ge (b := 12) hi (by decide))) (fun c_7 => ?_)
    refine hq_aload_n (q := 2) C dX4_bestUnsettled_10 rfl rfl ?_
    refine hq_getR (f := 16) (g := 18) (Nc := 1) (Ns := 11) C fr_X4_15 dX4_bestUnsettled_11 rfl rfl rfl rfl rfl (by decide) Nat.one_pos ?_
    refine hq_iload_n (q := 0) C dX4_bestUnsettled_14 rfl rfl ?_
    refine hq_zaldI0 (f := 18) (g := 32) (Nc := 1) (Ns := 12) C dX4_bestUnsettled_15 rfl rfl rfl rfl rfl rfl (by first | rfl | assumption) (by first | assumption | omega) Nat.one_pos ?_
    refine hq_if_eq (tgt := 55) C dX4_bestUnsettled_16 (by decide) (fun c_16 => ?_) (fun c_16 => ?_)
    · refine hq_iinc (q := 0) (y := nI (_ + 1)) (L' := [(2, .int _), (1, .int _), (0, .ref _)]) C dX4_bestUnsettled_55 rfl (hw_inc _) (by decide) rfl ?_
      refine hq_goto (tgt := 4) C dX4_bestUnsettled_58 (by decide) ?_
      exact hq_fin [0, 1, 2] (by first | rfl | (simp only [sf_bu, c_16, ↓reduceIte, not_true_eq_false, not_false_eq_true]; rfl) | simp [lv_pick, sf_bu, c_16]) (by first | rfl | (simp only [sf_bu, c_16, ↓reduceIte, not_true_eq_false, not_false_eq_true]; done) | (simp only [sf_bu, c_16, ↓reduceIte, not_true_eq_false, not_false_eq_true]; rfl) | simp [sf_bu, c_16]) (by first | rfl | (simp only [sf_bu, c_16, ↓reduceIte, not_true_eq_false, not_false_eq_true]; done) | (simp only [sf_bu, c_16, ↓reduceIte, not_true_eq_false, not_false_eq_true]; rfl) | simp [sf_bu, c_16]) (by first | rfl | (simp only [sf_bu, c_16, ↓reduceIte, not_true_eq_false, not_false_eq_true]; done) | (simp only [sf_bu, c_16, ↓reduceIte, not_true_eq_false, not_false_eq_true]; rfl) | simp [sf_bu, c_16]) (by first | rfl | (simp only [sf_bu, c_16, ↓reduceIte, not_true_eq_false, not_false_eq_true]; done) | (simp only [sf_bu, c_16, ↓reduceIte, not_true_eq_false, not_false_eq_true]; rfl) | simp [sf_bu, c_16]) (by first | rfl | (simp only [sf_bu, c_16, ↓reduceIte, not_true_eq_false, not_false_eq_true]; done) | (simp only [sf_bu, c_16, ↓reduceIte, not_true_eq_false, not_false_eq_true]; rfl) | simp [sf_bu, c_16]) k
    · refine hq_aload_n (q := 2) C dX4_bestUnsettled_19 rfl rfl ?_
      refine hq_getR (f := 16) (g := 19) (Nc := 1) (Ns := 11) C fr_X4_18 dX4_bestUnsettled_20 rfl rfl rfl rfl rfl (by decide) Nat.one_pos ?_
      refine hq_iload_n (q := 0) C dX4_bestUnsettled_23 rfl rfl ?_
      refine hq_zaldI0 (f := 19) (g := 33) (Nc := 1) (Ns := 12) C dX4_bestUnsettled_24 rfl rfl rfl rfl rfl rfl (by first | rfl | assumption) (by first | assumption | omega) Nat.one_pos ?_
      refine hq_if_ne (tgt := 55) C dX4_bestUnsettled_25 (by decide) (fun c_25 => ?_) (fun c_25 => ?_)
      · refine hq_iinc (q := 0) (y := nI (_ + 1)) (L' := [(2, .int _), (1, .int _), (0, .ref _)]) C dX4_bestUnsettled_55 rfl (hw_inc _) (by decide) rfl ?_
        refine hq_goto (tgt := 4) C dX4_bestUnsettled_58 (by decide) ?_
        exact hq_fin [0, 1, 2] (by first | rfl | (simp only [sf_bu, c_16, c_25, ↓reduceIte, not_true_eq_false, not_false_eq_true]; rfl) | simp [lv_pick, sf_bu, c_16, c_25]) (by first | rfl | (simp only [sf_bu, c_16, c_25, ↓reduceIte, not_true_eq_false, not_false_eq_true]; done) | (simp only [sf_bu, c_16, c_25, ↓reduceIte, not_true_eq_false, not_false_eq_true]; rfl) | simp [sf_bu, c_16, c_25]) (by first | rfl | (simp only [sf_bu, c_16, c_25, ↓reduceIte, not_true_eq_false, not_false_eq_true]; done) | (simp only [sf_bu, c_16, c_25, ↓reduceIte, not_true_eq_false, not_false_eq_true]; rfl) | simp [sf_bu, c_16, c_25]) (by first | rfl | (simp only [sf_bu, c_16, c_25, ↓reduceIte, not_true_eq_false, not_false_eq_true]; done) | (simp only [sf_bu, c_16, c_25, ↓reduceIte, not_true_eq_false, not_false_eq_true]; rfl) | simp [sf_bu, c_16, c_25]) (by first | rfl | (simp only [sf_bu, c_16, c_25, ↓reduceIte, not_true_eq_false, not_false_eq_true]; done) | (simp only [sf_bu, c_16, c_25, ↓reduceIte, not_true_eq_false, not_false_eq_true]; rfl) | simp [sf_bu, c_16, c_25]) (by first | rfl | (simp only [sf_bu, c_16, c_25, ↓reduceIte, not_true_eq_false, not_false_eq_true]; done) | (simp only [sf_bu, c_16, c_25, ↓reduceIte, not_true_eq_false, not_false_eq_true]; rfl) | simp [sf_bu, c_16, c_25]) k
      · refine hq_iload_n (q := 1) C dX4_bestUnsettled_28 rfl rfl ?_
        refine hq_iconst (y := -1) C dX4_bestUnsettled_29 (by decide) ?_
        refine hq_icmp_eq (tgt := 53) C dX4_bestUnsettled_30 (by decide) (fun c_30 => ?_) (fun c_30 => ?_)
        · refine hq_iload_n (q := 0) C dX4_bestUnsettled_53 rfl rfl ?_
          refine hq_istore_n (L' := [(1, .int _), (2, .int _), (0, .ref _)]) C dX4_bestUnsettled_54 rfl (by decide) rfl ?_
          refine hq_iinc (q := 1) (y := nI (_ + 1)) (L' := [(2, .int _), (1, .int _), (0, .ref _)]) C dX4_bestUnsettled_55 rfl (hw_inc _) (by decide) rfl ?_
          refine hq_goto (tgt := 4) C dX4_bestUnsettled_58 (by decide) ?_
          exact hq_fin [0, 1, 2] (by first | rfl | (simp only [sf_bu, c_16, c_25, c_30, ↓reduceIte, not_true_eq_false, not_false_eq_true]; rfl) | simp [lv_pick, sf_bu, c_16, c_25, c_30]) (by first | rfl | (simp only [sf_bu, c_16, c_25, c_30, ↓reduceIte, not_true_eq_false, not_false_eq_true]; done) | (simp only [sf_bu, c_16, c_25, c_30, ↓reduceIte, not_true_eq_false, not_false_eq_true]; rfl) | simp [sf_bu, c_16, c_25, c_30]) (by first | rfl | (simp only [sf_bu, c_16, c_25, c_30, ↓reduceIte, not_true_eq_false, not_false_eq_true]; done) | (simp only [sf_bu, c_16, c_25, c_30, ↓reduceIte, not_true_eq_false, not_false_eq_true]; rfl) | simp [sf_bu, c_16, c_25, c_30]) (by first | rfl | (simp only [sf_bu, c_16, c_25, c_30, ↓reduceIte, not_true_eq_false, not_false_eq_true]; done) | (simp only [sf_bu, c_16, c_25, c_30, ↓reduceIte, not_true_eq_false, not_false_eq_true]; rfl) | simp [sf_bu, c_16, c_25, c_30]) (by first | rfl | (simp only [sf_bu, c_16, c_25, c_30, ↓reduceIte, not_true_eq_false, not_false_eq_true]; done) | (simp only [sf_bu, c_16, c_25, c_30, ↓reduceIte, not_true_eq_false, not_false_eq_true]; rfl) | simp [sf_bu, c_16, c_25, c_30]) (by first | rfl | (simp only [sf_bu, c_16, c_25, c_30, ↓reduceIte, not_true_eq_false, not_false_eq_true]; done) | (simp only [sf_bu, c_16, c_25, c_30, ↓reduceIte, not_true_eq_false, not_false_eq_true]; rfl) | simp [sf_bu, c_16, c_25, c_30]) k
        · refine hq_aload_n (q := 2) C dX4_bestUnsettled_33 rfl rfl ?_
          refine hq_aload_n (q := 2) C dX4_bestUnsettled_34 rfl rfl ?_
          refine hq_getR (f := 16) (g := 20) (Nc := 1) (Ns := 11) C fr_X4_21 dX4_bestUnsettled_35 rfl rfl rfl rfl rfl (by decide) Nat.one_pos ?_
          refine hq_iload_n (q := 0) C dX4_bestUnsettled_38 rfl rfl ?_
          refine hq_ialdI0 (f := 20) (g := 34) (Nc := 1) (Ns := 12) C dX4_bestUnsettled_39 rfl rfl rfl rfl rfl rfl (by first | rfl | assumption) (by first | assumption | omega) Nat.one_pos ?_
          refine hq_aload_n (q := 2) C dX4_bestUnsettled_40 rfl rfl ?_
          refine hq_getR (f := 16) (g := 21) (Nc := 1) (Ns := 11) C fr_X4_25 dX4_bestUnsettled_41 rfl rfl rfl rfl rfl (by decide) Nat.one_pos ?_
          refine hq_iload_n (q := 0) C dX4_bestUnsettled_44 rfl rfl ?_
          refine hq_ialdI0 (f := 21) (g := 35) (Nc := 1) (Ns := 12) C dX4_bestUnsettled_45 rfl rfl rfl rfl rfl rfl (by first | rfl | assumption) (by first | assumption | omega) Nat.one_pos ?_
          refine hq_iload_n (q := 1) C dX4_bestUnsettled_46 rfl rfl ?_
          refine hq_cVr (As := [.int _, .int _, .int _]) (rm := rX4_isBetter) (f := 16) (Nc := 1) C (m_X4_isBetter (k := σ.toNatClampNeg) (hinv.x c_30) (hinv.b c_30)) wv_X4_isBetter ml_X4_84 rfl rfl rfl Nat.one_pos rfl rfl rfl rfl ⟨Nat.le_of_ble_eq_true rfl, Nat.le_of_ble_eq_true rfl⟩ (Nat.le_of_ble_eq_true rfl) ⟨Nat.le_of_ble_eq_true rfl, Nat.le_of_ble_eq_true rfl⟩ dX4_bestUnsettled_47 ?_
          refine hq_if_eq (tgt := 55) C dX4_bestUnsettled_50 (by decide) (fun c_50 => ?_) (fun c_50 => ?_)
          · refine hq_iinc (q := 0) (y := nI (_ + 1)) (L' := [(2, .int _), (1, .int _), (0, .ref _)]) C dX4_bestUnsettled_55 rfl (hw_inc _) (by decide) rfl ?_
            refine hq_goto (tgt := 4) C dX4_bestUnsettled_58 (by decide) ?_
            exact hq_fin [0, 1, 2] (by first | rfl | (simp only [sf_bu, c_16, c_25, c_30, c_50, ↓reduceIte, not_true_eq_false, not_false_eq_true]; rfl) | simp [lv_pick, sf_bu, c_16, c_25, c_30, c_50]) (by first | rfl | (simp only [sf_bu, c_16, c_25, c_30, c_50, ↓reduceIte, not_true_eq_false, not_false_eq_true]; done) | (simp only [sf_bu, c_16, c_25, c_30, c_50, ↓reduceIte, not_true_eq_false, not_false_eq_true]; rfl) | simp [sf_bu, c_16, c_25, c_30, c_50]) (by first | rfl | (simp only [sf_bu, c_16, c_25, c_30, c_50, ↓reduceIte, not_true_eq_false, not_false_eq_true]; done) | (simp only [sf_bu, c_16, c_25, c_30, c_50, ↓reduceIte, not_true_eq_false, not_false_eq_true]; rfl) | simp [sf_bu, c_16, c_25, c_30, c_50]) (by first | rfl | (simp only [sf_bu, c_16, c_25, c_30, c_50, ↓reduceIte, not_true_eq_false, not_false_eq_true]; done) | (simp only [sf_bu, c_16, c_25, c_30, c_50, ↓reduceIte, not_true_eq_false, not_false_eq_true]; rfl) | simp [sf_bu, c_16, c_25, c_30, c_50]) (by first | rfl | (simp only [sf_bu, c_16, c_25, c_30, c_50, ↓reduceIte, not_true_eq_false, not_false_eq_true]; done) | (simp only [sf_bu, c_16, c_25, c_30, c_50, ↓reduceIte, not_true_eq_false, not_false_eq_true]; rfl) | simp [sf_bu, c_16, c_25, c_30, c_50]) (by first | rfl | (simp only [sf_bu, c_16, c_25, c_30, c_50, ↓reduceIte, not_true_eq_false, not_false_eq_true]; done) | (simp only [sf_bu, c_16, c_25, c_30, c_50, ↓reduceIte, not_true_eq_false, not_false_eq_true]; rfl) | simp [sf_bu, c_16, c_25, c_30, c_50]) k
          · refine hq_iload_n (q := 0) C dX4_bestUnsettled_53 rfl rfl ?_
            refine hq_istore_n (L' := [(1, .int _), (2, .int _), (0, .ref _)]) C dX4_bestUnsettled_54 rfl (by decide) rfl ?_
            refine hq_iinc (q := 1) (y := nI (_ + 1)) (L' := [(2, .int _), (1, .int _), (0, .ref _)]) C dX4_bestUnsettled_55 rfl (hw_inc _) (by decide) rfl ?_
            refine hq_goto (tgt := 4) C dX4_bestUnsettled_58 (by decide) ?_
            exact hq_fin [0, 1, 2] (by first | rfl | (simp only [sf_bu, c_16, c_25, c_30, c_50, ↓reduceIte, not_true_eq_false, not_false_eq_true]; rfl) | simp [lv_pick, sf_bu, c_16, c_25, c_30, c_50]) (by first | rfl | (simp only [sf_bu, c_16, c_25, c_30, c_50, ↓reduceIte, not_true_eq_false, not_false_eq_true]; done) | (simp only [sf_bu, c_16, c_25, c_30, c_50, ↓reduceIte, not_true_eq_false, not_false_eq_true]; rfl) | simp [sf_bu, c_16, c_25, c_30, c_50]) (by first | rfl | (simp only [sf_bu, c_16, c_25, c_30, c_50, ↓reduceIte, not_true_eq_false, not_false_eq_true]; done) | (simp only [sf_bu, c_16, c_25, c_30, c_50, ↓reduceIte, not_true_eq_false, not_false_eq_true]; rfl) | simp [sf_bu, c_16, c_25, c_30, c_50]) (by first | rfl | (simp only [sf_bu, c_16, c_25, c_30, c_50, ↓reduceIte, not_true_eq_false, not_false_eq_true]; done) | (simp only [sf_bu, c_16, c_25, c_30, c_50, ↓reduceIte, not_true_eq_false, not_false_eq_true]; rfl) | simp [sf_bu, c_16, c_25, c_30, c_50]) (by first | rfl | (simp only [sf_bu, c_16, c_25, c_30, c_50, ↓reduceIte, not_true_eq_false, not_false_eq_true]; done) | (simp only [sf_bu, c_16, c_25, c_30, c_50, ↓reduceIte, not_true_eq_false, not_false_eq_true]; rfl) | simp [sf_bu, c_16, c_25, c_30, c_50]) (by first | rfl | (simp only [sf_bu, c_16, c_25, c_30, c_50, ↓reduceIte, not_true_eq_false, not_false_eq_true]; done) | (simp only [sf_bu, c_16, c_25, c_30, c_50, ↓reduceIte, not_true_eq_false, not_false_eq_true]; rfl) | simp [sf_bu, c_16, c_25, c_30, c_50]) k
  · refine hq_iload_n (q := 0) C dX4_bestUnsettled_4 rfl rfl ?_
    refine hq_bipush (y := 12) C dX4_bestUnsettled_5 (by decide) ?_
    refine hq_icmp_ge (tgt := 61) C dX4_bestUnsettled_7 (by decide) (fun c_7 => ?_) (fun c_7 => absurd (nI_le (Nat.le_refl 12) (by decide)) c_7)
    refine hq_iload_n (q := 1) C dX4_bestUnsettled_61 rfl rfl ?_
    exact hq_iret C hr hlk dX4_bestUnsettled_62 rfl rfl
def sf_rf (J : MJ) (c i : Nat) (I : MI) : MI := if I 31 i = 0 then I else if ¬ I 33 i = 0 then I else if sp_owe I J i c = 0 then I else if I 32 i = 0 then uI (uI (uI I 32 i 1) 34 i (I 34 c + sp_fee I i)) 35 i (I 35 c + 1) else if sp_bet I (I 34 c + sp_fee I i) (I 35 c + 1) i = 0 then I else uI (uI (uI I 32 i 1) 34 i (I 34 c + sp_fee I i)) 35 i (I 35 c + 1)
def sp_rfb (I : MI) (J : MJ) : MI := if sp_bu I = -1 then I else lp (sf_rf J (sp_bu I).toNatClampNeg) 12 0 (uI I 33 (sp_bu I).toNatClampNeg 1)
set_option maxHeartbeats 4000000 in
set_option maxRecDepth 100000 in
theorem m_X4_reachFromBest {l : Launch} {D : va_G} {b0 : Nat} {I : MI} {J : MJ} {P : MI} {N : MJ} {o : Int64}  : hM l yX4_reachFromBest cX4_reachFromBest 5 none rX4_reachFromBest D b0 [.ref (hw_ad b0 16 0)] I J P N o none (sp_rfb I J) J P N o := by
  refine hw_Mof (by decide) [(0, .ref _)] rfl (Nat.le_of_ble_eq_true rfl) ?_
  intro p e s m args below meth c C hr hlk hnm
  refine hq_aload_n (q := 0) C dX4_reachFromBest_0 rfl rfl ?_
  refine hq_cVr (As := []) (rm := rX4_bestUnsettled) (f := 16) (Nc := 1) C m_X4_bestUnsettled wv_X4_bestUnsettled ml_X4_88 rfl rfl rfl Nat.one_pos rfl rfl rfl rfl ⟨Nat.le_of_ble_eq_true rfl, Nat.le_of_ble_eq_true rfl⟩ (Nat.le_of_ble_eq_true rfl) ⟨Nat.le_of_ble_eq_true rfl, Nat.le_of_ble_eq_true rfl⟩ dX4_reachFromBest_1 ?_
  refine hq_istore_n (L' := [(1, .int _), (0, .ref _)]) C dX4_reachFromBest_4 rfl (by decide) rfl ?_
  refine hq_iload_n (q := 0) C dX4_reachFromBest_5 rfl rfl ?_
  refine hq_iconst (y := -1) C dX4_reachFromBest_6 (by decide) ?_
  refine hq_icmp_ne (tgt := 11) C dX4_reachFromBest_7 (by decide) (fun c_7 => ?_) (fun c_7 => ?_)
  · refine hq_aload_n (q := 1) C dX4_reachFromBest_11 rfl rfl ?_
    refine hq_getR (f := 16) (g := 19) (Nc := 1) (Ns := 11) C fr_X4_18 dX4_reachFromBest_12 rfl rfl rfl rfl rfl (by decide) Nat.one_pos ?_
    refine hq_iload_n (q := 0) C dX4_reachFromBest_15 rfl rfl ?_
    refine hq_iconst (y := 1) C dX4_reachFromBest_16 (by decide) ?_
    refine hq_zastI0 (f := 19) (g := 33) (Nc := 1) (Ns := 12) C dX4_reachFromBest_17 rfl rfl rfl rfl rfl rfl ((sp_bu_br I).x c_7) ((sp_bu_br I).b c_7) Nat.one_pos (by decide) ?_
    refine hq_iconst (y := 0) C dX4_reachFromBest_18 (by decide) ?_
    refine hq_istore_n (L' := [(2, .int _), (1, .int _), (0, .ref _)]) C dX4_reachFromBest_19 rfl (by decide) rfl ?_
    have hcx := (sp_bu_br I).x c_7
    have hcb := (sp_bu_br I).b c_7
    rw [show sp_rfb I J = lp (sf_rf J (sp_bu I).toNatClampNeg) 12 0 (uI I 33 (sp_bu I).toNatClampNeg 1) from if_neg c_7]
    generalize hcc : (sp_bu I).toNatClampNeg = cd at hcx hcb ⊢
    refine hq_perm [0, 1, 2] (L' := [(2, .int (nI 0)), (1, .int (sp_bu I)), (0, .ref (hw_ad b0 16 0))]) rfl ?_
    refine lp_back (sf_rf J cd) (fun (i : Nat) (σ : MI) => hw_V p l e rX4_reachFromBest s m args below meth c (MQ below (hw_Q D b0 false (hw_n o) none (hw_vl b0 (lp (sf_rf J cd) 12 0 (uI I 33 cd 1)) J P N o)) args s 0 0 (fun q => b0 ≤ q)) D b0 5 false 0 0 (hw_n o) 20 [(2, .int (nI i)), (1, .int (sp_bu I)), (0, .ref (hw_ad b0 16 0))] [] (hw_vl b0 σ J P N o)) (fun _ _ => True) 12 ?_ (fun _ _ _ _ => trivial) 12 0 (uI I 33 cd 1) (by omega) trivial ?_
    · intro i σ hi hinv k
      refine hq_iload_n (q := 0) C dX4_reachFromBest_20 rfl rfl ?_
      refine hq_bipush (y := 12) C dX4_reachFromBest_21 (by decide) ?_
      refine hq_icmp_ge (tgt := 124) C dX4_reachFromBest_23 (by decide) (fun c_23 => absurd c_23 (nI_ge (b := 12) hi (by decide))) (fun c_23 => ?_)
      refine hq_aload_n (q := 2) C dX4_reachFromBest_26 rfl rfl ?_
      refine hq_getR (f := 16) (g := 17) (Nc := 1) (Ns := 11) C fr_X4_9 dX4_reachFromBest_27 rfl rfl rfl rfl rfl (by decide) Nat.one_pos ?_
      refine hq_iload_n (q := 0) C dX4_reachFromBest_30 rfl rfl ?_
      refine hq_zaldI0 (f := 17) (g := 31) (Nc := 1) (Ns := 12) C dX4_reachFromBest_31 rfl rfl rfl rfl rfl rfl (by first | rfl | assumption) (by first | assumption | omega) Nat.one_pos ?_
      refine hq_if_eq (tgt := 118) C dX4_reachFromBest_32 (by decide) (fun c_32 => ?_) (fun c_32 => ?_)
      · refine hq_iinc (q := 0) (y := nI (_ + 1)) (L' := [(2, .int _), (1, .int _), (0, .ref _)]) C dX4_reachFromBest_118 rfl (hw_inc _) (by decide) rfl ?_
        refine hq_goto (tgt := 20) C dX4_reachFromBest_121 (by decide) ?_
        exact hq_fin [0, 1, 2] (by first | rfl | (simp only [sf_rf, c_32, ↓reduceIte, not_true_eq_false, not_false_eq_true]; rfl) | simp [lv_pick, sf_rf, c_32]) (by first | rfl | (simp only [sf_rf, c_32, ↓reduceIte, not_true_eq_false, not_false_eq_true]; done) | (simp only [sf_rf, c_32, ↓reduceIte, not_true_eq_false, not_false_eq_true]; rfl) | simp [sf_rf, c_32]) (by first | rfl | (simp only [sf_rf, c_32, ↓reduceIte, not_true_eq_false, not_false_eq_true]; done) | (simp only [sf_rf, c_32, ↓reduceIte, not_true_eq_false, not_false_eq_true]; rfl) | simp [sf_rf, c_32]) (by first | rfl | (simp only [sf_rf, c_32, ↓reduceIte, not_true_eq_false, not_false_eq_true]; done) | (simp only [sf_rf, c_32, ↓reduceIte, not_true_eq_false, not_false_eq_true]; rfl) | simp [sf_rf, c_32]) (by first | rfl | (simp only [sf_rf, c_32, ↓reduceIte, not_true_eq_false, not_false_eq_true]; done) | (simp only [sf_rf, c_32, ↓reduceIte, not_true_eq_false, not_false_eq_true]; rfl) | simp [sf_rf, c_32]) (by first | rfl | (simp only [sf_rf, c_32, ↓reduceIte, not_true_eq_false, not_false_eq_true]; done) | (simp only [sf_rf, c_32, ↓reduceIte, not_true_eq_false, not_false_eq_true]; rfl) | simp [sf_rf, c_32]) k
      · refine hq_aload_n (q := 2) C dX4_reachFromBest_35 rfl rfl ?_
        refine hq_getR (f := 16) (g := 19) (Nc := 1) (Ns := 11) C fr_X4_18 dX4_reachFromBest_36 rfl rfl rfl rfl rfl (by decide) Nat.one_pos ?_
        refine hq_iload_n (q := 0) C dX4_reachFromBest_39 rfl rfl ?_
        refine hq_zaldI0 (f := 19) (g := 33) (Nc := 1) (Ns := 12) C dX4_reachFromBest_40 rfl rfl rfl rfl rfl rfl (by first | rfl | assumption) (by first | assumption | omega) Nat.one_pos ?_
        refine hq_if_ne (tgt := 118) C dX4_reachFromBest_41 (by decide) (fun c_41 => ?_) (fun c_41 => ?_)
        · refine hq_iinc (q := 0) (y := nI (_ + 1)) (L' := [(2, .int _), (1, .int _), (0, .ref _)]) C dX4_reachFromBest_118 rfl (hw_inc _) (by decide) rfl ?_
          refine hq_goto (tgt := 20) C dX4_reachFromBest_121 (by decide) ?_
          exact hq_fin [0, 1, 2] (by first | rfl | (simp only [sf_rf, c_32, c_41, ↓reduceIte, not_true_eq_false, not_false_eq_true]; rfl) | simp [lv_pick, sf_rf, c_32, c_41]) (by first | rfl | (simp only [sf_rf, c_32, c_41, ↓reduceIte, not_true_eq_false, not_false_eq_true]; done) | (simp only [sf_rf, c_32, c_41, ↓reduceIte, not_true_eq_false, not_false_eq_true]; rfl) | simp [sf_rf, c_32, c_41]) (by first | rfl | (simp only [sf_rf, c_32, c_41, ↓reduceIte, not_true_eq_false, not_false_eq_true]; done) | (simp only [sf_rf, c_32, c_41, ↓reduceIte, not_true_eq_false, not_false_eq_true]; rfl) | simp [sf_rf, c_32, c_41]) (by first | rfl | (simp only [sf_rf, c_32, c_41, ↓reduceIte, not_true_eq_false, not_false_eq_true]; done) | (simp only [sf_rf, c_32, c_41, ↓reduceIte, not_true_eq_false, not_false_eq_true]; rfl) | simp [sf_rf, c_32, c_41]) (by first | rfl | (simp only [sf_rf, c_32, c_41, ↓reduceIte, not_true_eq_false, not_false_eq_true]; done) | (simp only [sf_rf, c_32, c_41, ↓reduceIte, not_true_eq_false, not_false_eq_true]; rfl) | simp [sf_rf, c_32, c_41]) (by first | rfl | (simp only [sf_rf, c_32, c_41, ↓reduceIte, not_true_eq_false, not_false_eq_true]; done) | (simp only [sf_rf, c_32, c_41, ↓reduceIte, not_true_eq_false, not_false_eq_true]; rfl) | simp [sf_rf, c_32, c_41]) k
        · refine hq_aload_n (q := 2) C dX4_reachFromBest_44 rfl rfl ?_
          refine hq_iload_n (q := 0) C dX4_reachFromBest_45 rfl rfl ?_
          refine hq_iload_n (q := 1) C dX4_reachFromBest_46 rfl rfl ?_
          refine hq_cVr (As := [.int _, .int _]) (rm := rX4_canOwe) (f := 16) (Nc := 1) C (m_X4_canOwe (by first | rfl | assumption) (by first | assumption | omega) (by first | rfl | assumption) (by first | assumption | omega)) wv_X4_canOwe ml_X4_92 rfl rfl rfl Nat.one_pos rfl rfl rfl rfl ⟨Nat.le_of_ble_eq_true rfl, Nat.le_of_ble_eq_true rfl⟩ (Nat.le_of_ble_eq_true rfl) ⟨Nat.le_of_ble_eq_true rfl, Nat.le_of_ble_eq_true rfl⟩ dX4_reachFromBest_47 ?_
          refine hq_if_eq (tgt := 118) C dX4_reachFromBest_50 (by decide) (fun c_50 => ?_) (fun c_50 => ?_)
          · refine hq_iinc (q := 0) (y := nI (_ + 1)) (L' := [(2, .int _), (1, .int _), (0, .ref _)]) C dX4_reachFromBest_118 rfl (hw_inc _) (by decide) rfl ?_
            refine hq_goto (tgt := 20) C dX4_reachFromBest_121 (by decide) ?_
            exact hq_fin [0, 1, 2] (by first | rfl | (simp only [sf_rf, c_32, c_41, c_50, ↓reduceIte, not_true_eq_false, not_false_eq_true]; rfl) | simp [lv_pick, sf_rf, c_32, c_41, c_50]) (by first | rfl | (simp only [sf_rf, c_32, c_41, c_50, ↓reduceIte, not_true_eq_false, not_false_eq_true]; done) | (simp only [sf_rf, c_32, c_41, c_50, ↓reduceIte, not_true_eq_false, not_false_eq_true]; rfl) | simp [sf_rf, c_32, c_41, c_50]) (by first | rfl | (simp only [sf_rf, c_32, c_41, c_50, ↓reduceIte, not_true_eq_false, not_false_eq_true]; done) | (simp only [sf_rf, c_32, c_41, c_50, ↓reduceIte, not_true_eq_false, not_false_eq_true]; rfl) | simp [sf_rf, c_32, c_41, c_50]) (by first | rfl | (simp only [sf_rf, c_32, c_41, c_50, ↓reduceIte, not_true_eq_false, not_false_eq_true]; done) | (simp only [sf_rf, c_32, c_41, c_50, ↓reduceIte, not_true_eq_false, not_false_eq_true]; rfl) | simp [sf_rf, c_32, c_41, c_50]) (by first | rfl | (simp only [sf_rf, c_32, c_41, c_50, ↓reduceIte, not_true_eq_false, not_false_eq_true]; done) | (simp only [sf_rf, c_32, c_41, c_50, ↓reduceIte, not_true_eq_false, not_false_eq_true]; rfl) | simp [sf_rf, c_32, c_41, c_50]) (by first | rfl | (simp only [sf_rf, c_32, c_41, c_50, ↓reduceIte, not_true_eq_false, not_false_eq_true]; done) | (simp only [sf_rf, c_32, c_41, c_50, ↓reduceIte, not_true_eq_false, not_false_eq_true]; rfl) | simp [sf_rf, c_32, c_41, c_50]) k
          · refine hq_aload_n (q := 2) C dX4_reachFromBest_53 rfl rfl ?_
            refine hq_getR (f := 16) (g := 20) (Nc := 1) (Ns := 11) C fr_X4_21 dX4_reachFromBest_54 rfl rfl rfl rfl rfl (by decide) Nat.one_pos ?_
            refine hq_iload_n (q := 1) C dX4_reachFromBest_57 rfl rfl ?_
            refine hq_ialdI0 (f := 20) (g := 34) (Nc := 1) (Ns := 12) C dX4_reachFromBest_58 rfl rfl rfl rfl rfl rfl (by first | rfl | assumption) (by first | assumption | omega) Nat.one_pos ?_
            refine hq_aload_n (q := 2) C dX4_reachFromBest_59 rfl rfl ?_
            refine hq_iload_n (q := 0) C dX4_reachFromBest_60 rfl rfl ?_
            refine hq_cVr (As := [.int _]) (rm := rX4_feeOf) (f := 16) (Nc := 1) C (m_X4_feeOf (by first | rfl | assumption) (by first | assumption | omega)) wv_X4_feeOf ml_X4_80 rfl rfl rfl Nat.one_pos rfl rfl rfl rfl ⟨Nat.le_of_ble_eq_true rfl, Nat.le_of_ble_eq_true rfl⟩ (Nat.le_of_ble_eq_true rfl) ⟨Nat.le_of_ble_eq_true rfl, Nat.le_of_ble_eq_true rfl⟩ dX4_reachFromBest_61 ?_
            refine hq_iadd C dX4_reachFromBest_64 ?_
            refine hq_istore_n (L' := [(3, .int _), (2, .int _), (1, .int _), (0, .ref _)]) C dX4_reachFromBest_65 rfl (by decide) rfl ?_
            refine hq_aload_n (q := 3) C dX4_reachFromBest_66 rfl rfl ?_
            refine hq_getR (f := 16) (g := 21) (Nc := 1) (Ns := 11) C fr_X4_25 dX4_reachFromBest_67 rfl rfl rfl rfl rfl (by decide) Nat.one_pos ?_
            refine hq_iload_n (q := 2) C dX4_reachFromBest_70 rfl rfl ?_
            refine hq_ialdI0 (f := 21) (g := 35) (Nc := 1) (Ns := 12) C dX4_reachFromBest_71 rfl rfl rfl rfl rfl rfl (by first | rfl | assumption) (by first | assumption | omega) Nat.one_pos ?_
            refine hq_iconst (y := 1) C dX4_reachFromBest_72 (by decide) ?_
            refine hq_iadd C dX4_reachFromBest_73 ?_
            refine hq_istore (L' := [(4, .int _), (3, .int _), (2, .int _), (1, .int _), (0, .ref _)]) C dX4_reachFromBest_74 (by decide) rfl ?_
            refine hq_aload_n (q := 4) C dX4_reachFromBest_76 rfl rfl ?_
            refine hq_getR (f := 16) (g := 18) (Nc := 1) (Ns := 11) C fr_X4_15 dX4_reachFromBest_77 rfl rfl rfl rfl rfl (by decide) Nat.one_pos ?_
            refine hq_iload_n (q := 2) C dX4_reachFromBest_80 rfl rfl ?_
            refine hq_zaldI0 (f := 18) (g := 32) (Nc := 1) (Ns := 12) C dX4_reachFromBest_81 rfl rfl rfl rfl rfl rfl (by first | rfl | assumption) (by first | assumption | omega) Nat.one_pos ?_
            refine hq_if_eq (tgt := 96) C dX4_reachFromBest_82 (by decide) (fun c_82 => ?_) (fun c_82 => ?_)
            · refine hq_aload_n (q := 4) C dX4_reachFromBest_96 rfl rfl ?_
              refine hq_getR (f := 16) (g := 18) (Nc := 1) (Ns := 11) C fr_X4_15 dX4_reachFromBest_97 rfl rfl rfl rfl rfl (by decide) Nat.one_pos ?_
              refine hq_iload_n (q := 2) C dX4_reachFromBest_100 rfl rfl ?_
              refine hq_iconst (y := 1) C dX4_reachFromBest_101 (by decide) ?_
              refine hq_zastI0 (f := 18) (g := 32) (Nc := 1) (Ns := 12) C dX4_reachFromBest_102 rfl rfl rfl rfl rfl rfl (by first | rfl | assumption) (by first | assumption | omega) Nat.one_pos (by decide) ?_
              refine hq_aload_n (q := 4) C dX4_reachFromBest_103 rfl rfl ?_
              refine hq_getR (f := 16) (g := 20) (Nc := 1) (Ns := 11) C fr_X4_21 dX4_reachFromBest_104 rfl rfl rfl rfl rfl (by decide) Nat.one_pos ?_
              refine hq_iload_n (q := 2) C dX4_reachFromBest_107 rfl rfl ?_
              refine hq_iload_n (q := 1) C dX4_reachFromBest_108 rfl rfl ?_
              refine hq_iastI0 (f := 20) (g := 34) (Nc := 1) (Ns := 12) C dX4_reachFromBest_109 rfl rfl rfl rfl rfl rfl (by first | rfl | assumption) (by first | assumption | omega) Nat.one_pos ?_
              refine hq_aload_n (q := 4) C dX4_reachFromBest_110 rfl rfl ?_
              refine hq_getR (f := 16) (g := 21) (Nc := 1) (Ns := 11) C fr_X4_25 dX4_reachFromBest_111 rfl rfl rfl rfl rfl (by decide) Nat.one_pos ?_
              refine hq_iload_n (q := 2) C dX4_reachFromBest_114 rfl rfl ?_
              refine hq_iload (q := 0) C dX4_reachFromBest_115 rfl ?_
              refine hq_iastI0 (f := 21) (g := 35) (Nc := 1) (Ns := 12) C dX4_reachFromBest_117 rfl rfl rfl rfl rfl rfl (by first | rfl | assumption) (by first | assumption | omega) Nat.one_pos ?_
              refine hq_iinc (q := 2) (y := nI (_ + 1)) (L' := [(2, .int _), (4, .int _), (3, .int _), (1, .int _), (0, .ref _)]) C dX4_reachFromBest_118 rfl (hw_inc _) (by decide) rfl ?_
              refine hq_goto (tgt := 20) C dX4_reachFromBest_121 (by decide) ?_
              exact hq_fin [0, 3, 4] (by first | rfl | (simp only [sf_rf, c_32, c_41, c_50, c_82, ↓reduceIte, not_true_eq_false, not_false_eq_true]; rfl) | simp [lv_pick, sf_rf, c_32, c_41, c_50, c_82]) (by first | rfl | (simp only [sf_rf, c_32, c_41, c_50, c_82, ↓reduceIte, not_true_eq_false, not_false_eq_true]; done) | (simp only [sf_rf, c_32, c_41, c_50, c_82, ↓reduceIte, not_true_eq_false, not_false_eq_true]; rfl) | simp [sf_rf, c_32, c_41, c_50, c_82]) (by first | rfl | (simp only [sf_rf, c_32, c_41, c_50, c_82, ↓reduceIte, not_true_eq_false, not_false_eq_true]; done) | (simp only [sf_rf, c_32, c_41, c_50, c_82, ↓reduceIte, not_true_eq_false, not_false_eq_true]; rfl) | simp [sf_rf, c_32, c_41, c_50, c_82]) (by first | rfl | (simp only [sf_rf, c_32, c_41, c_50, c_82, ↓reduceIte, not_true_eq_false, not_false_eq_true]; done) | (simp only [sf_rf, c_32, c_41, c_50, c_82, ↓reduceIte, not_true_eq_false, not_false_eq_true]; rfl) | simp [sf_rf, c_32, c_41, c_50, c_82]) (by first | rfl | (simp only [sf_rf, c_32, c_41, c_50, c_82, ↓reduceIte, not_true_eq_false, not_false_eq_true]; done) | (simp only [sf_rf, c_32, c_41, c_50, c_82, ↓reduceIte, not_true_eq_false, not_false_eq_true]; rfl) | simp [sf_rf, c_32, c_41, c_50, c_82]) (by first | rfl | (simp only [sf_rf, c_32, c_41, c_50, c_82, ↓reduceIte, not_true_eq_false, not_false_eq_true]; done) | (simp only [sf_rf, c_32, c_41, c_50, c_82, ↓reduceIte, not_true_eq_false, not_false_eq_true]; rfl) | simp [sf_rf, c_32, c_41, c_50, c_82]) k
            · refine hq_aload_n (q := 4) C dX4_reachFromBest_85 rfl rfl ?_
              refine hq_iload_n (q := 1) C dX4_reachFromBest_86 rfl rfl ?_
              refine hq_iload (q := 0) C dX4_reachFromBest_87 rfl ?_
              refine hq_iload_n (q := 2) C dX4_reachFromBest_89 rfl rfl ?_
              refine hq_cVr (As := [.int _, .int _, .int _]) (rm := rX4_isBetter) (f := 16) (Nc := 1) C (m_X4_isBetter (by first | rfl | assumption) (by first | assumption | omega)) wv_X4_isBetter ml_X4_84 rfl rfl rfl Nat.one_pos rfl rfl rfl rfl ⟨Nat.le_of_ble_eq_true rfl, Nat.le_of_ble_eq_true rfl⟩ (Nat.le_of_ble_eq_true rfl) ⟨Nat.le_of_ble_eq_true rfl, Nat.le_of_ble_eq_true rfl⟩ dX4_reachFromBest_90 ?_
              refine hq_if_eq (tgt := 118) C dX4_reachFromBest_93 (by decide) (fun c_93 => ?_) (fun c_93 => ?_)
              · refine hq_iinc (q := 2) (y := nI (_ + 1)) (L' := [(2, .int _), (4, .int _), (3, .int _), (1, .int _), (0, .ref _)]) C dX4_reachFromBest_118 rfl (hw_inc _) (by decide) rfl ?_
                refine hq_goto (tgt := 20) C dX4_reachFromBest_121 (by decide) ?_
                exact hq_fin [0, 3, 4] (by first | rfl | (simp only [sf_rf, c_32, c_41, c_50, c_82, c_93, ↓reduceIte, not_true_eq_false, not_false_eq_true]; rfl) | simp [lv_pick, sf_rf, c_32, c_41, c_50, c_82, c_93]) (by first | rfl | (simp only [sf_rf, c_32, c_41, c_50, c_82, c_93, ↓reduceIte, not_true_eq_false, not_false_eq_true]; done) | (simp only [sf_rf, c_32, c_41, c_50, c_82, c_93, ↓reduceIte, not_true_eq_false, not_false_eq_true]; rfl) | simp [sf_rf, c_32, c_41, c_50, c_82, c_93]) (by first | rfl | (simp only [sf_rf, c_32, c_41, c_50, c_82, c_93, ↓reduceIte, not_true_eq_false, not_false_eq_true]; done) | (simp only [sf_rf, c_32, c_41, c_50, c_82, c_93, ↓reduceIte, not_true_eq_false, not_false_eq_true]; rfl) | simp [sf_rf, c_32, c_41, c_50, c_82, c_93]) (by first | rfl | (simp only [sf_rf, c_32, c_41, c_50, c_82, c_93, ↓reduceIte, not_true_eq_false, not_false_eq_true]; done) | (simp only [sf_rf, c_32, c_41, c_50, c_82, c_93, ↓reduceIte, not_true_eq_false, not_false_eq_true]; rfl) | simp [sf_rf, c_32, c_41, c_50, c_82, c_93]) (by first | rfl | (simp only [sf_rf, c_32, c_41, c_50, c_82, c_93, ↓reduceIte, not_true_eq_false, not_false_eq_true]; done) | (simp only [sf_rf, c_32, c_41, c_50, c_82, c_93, ↓reduceIte, not_true_eq_false, not_false_eq_true]; rfl) | simp [sf_rf, c_32, c_41, c_50, c_82, c_93]) (by first | rfl | (simp only [sf_rf, c_32, c_41, c_50, c_82, c_93, ↓reduceIte, not_true_eq_false, not_false_eq_true]; done) | (simp only [sf_rf, c_32, c_41, c_50, c_82, c_93, ↓reduceIte, not_true_eq_false, not_false_eq_true]; rfl) | simp [sf_rf, c_32, c_41, c_50, c_82, c_93]) k
              · refine hq_aload_n (q := 4) C dX4_reachFromBest_96 rfl rfl ?_
                refine hq_getR (f := 16) (g := 18) (Nc := 1) (Ns := 11) C fr_X4_15 dX4_reachFromBest_97 rfl rfl rfl rfl rfl (by decide) Nat.one_pos ?_
                refine hq_iload_n (q := 2) C dX4_reachFromBest_100 rfl rfl ?_
                refine hq_iconst (y := 1) C dX4_reachFromBest_101 (by decide) ?_
                refine hq_zastI0 (f := 18) (g := 32) (Nc := 1) (Ns := 12) C dX4_reachFromBest_102 rfl rfl rfl rfl rfl rfl (by first | rfl | assumption) (by first | assumption | omega) Nat.one_pos (by decide) ?_
                refine hq_aload_n (q := 4) C dX4_reachFromBest_103 rfl rfl ?_
                refine hq_getR (f := 16) (g := 20) (Nc := 1) (Ns := 11) C fr_X4_21 dX4_reachFromBest_104 rfl rfl rfl rfl rfl (by decide) Nat.one_pos ?_
                refine hq_iload_n (q := 2) C dX4_reachFromBest_107 rfl rfl ?_
                refine hq_iload_n (q := 1) C dX4_reachFromBest_108 rfl rfl ?_
                refine hq_iastI0 (f := 20) (g := 34) (Nc := 1) (Ns := 12) C dX4_reachFromBest_109 rfl rfl rfl rfl rfl rfl (by first | rfl | assumption) (by first | assumption | omega) Nat.one_pos ?_
                refine hq_aload_n (q := 4) C dX4_reachFromBest_110 rfl rfl ?_
                refine hq_getR (f := 16) (g := 21) (Nc := 1) (Ns := 11) C fr_X4_25 dX4_reachFromBest_111 rfl rfl rfl rfl rfl (by decide) Nat.one_pos ?_
                refine hq_iload_n (q := 2) C dX4_reachFromBest_114 rfl rfl ?_
                refine hq_iload (q := 0) C dX4_reachFromBest_115 rfl ?_
                refine hq_iastI0 (f := 21) (g := 35) (Nc := 1) (Ns := 12) C dX4_reachFromBest_117 rfl rfl rfl rfl rfl rfl (by first | rfl | assumption) (by first | assumption | omega) Nat.one_pos ?_
                refine hq_iinc (q := 2) (y := nI (_ + 1)) (L' := [(2, .int _), (4, .int _), (3, .int _), (1, .int _), (0, .ref _)]) C dX4_reachFromBest_118 rfl (hw_inc _) (by decide) rfl ?_
                refine hq_goto (tgt := 20) C dX4_reachFromBest_121 (by decide) ?_
                exact hq_fin [0, 3, 4] (by first | rfl | (simp only [sf_rf, c_32, c_41, c_50, c_82, c_93, ↓reduceIte, not_true_eq_false, not_false_eq_true]; rfl) | simp [lv_pick, sf_rf, c_32, c_41, c_50, c_82, c_93]) (by first | rfl | (simp only [sf_rf, c_32, c_41, c_50, c_82, c_93, ↓reduceIte, not_true_eq_false, not_false_eq_true]; done) | (simp only [sf_rf, c_32, c_41, c_50, c_82, c_93, ↓reduceIte, not_true_eq_false, not_false_eq_true]; rfl) | simp [sf_rf, c_32, c_41, c_50, c_82, c_93]) (by first | rfl | (simp only [sf_rf, c_32, c_41, c_50, c_82, c_93, ↓reduceIte, not_true_eq_false, not_false_eq_true]; done) | (simp only [sf_rf, c_32, c_41, c_50, c_82, c_93, ↓reduceIte, not_true_eq_false, not_false_eq_true]; rfl) | simp [sf_rf, c_32, c_41, c_50, c_82, c_93]) (by first | rfl | (simp only [sf_rf, c_32, c_41, c_50, c_82, c_93, ↓reduceIte, not_true_eq_false, not_false_eq_true]; done) | (simp only [sf_rf, c_32, c_41, c_50, c_82, c_93, ↓reduceIte, not_true_eq_false, not_false_eq_true]; rfl) | simp [sf_rf, c_32, c_41, c_50, c_82, c_93]) (by first | rfl | (simp only [sf_rf, c_32, c_41, c_50, c_82, c_93, ↓reduceIte, not_true_eq_false, not_false_eq_true]; done) | (simp only [sf_rf, c_32, c_41, c_50, c_82, c_93, ↓reduceIte, not_true_eq_false, not_false_eq_true]; rfl) | simp [sf_rf, c_32, c_41, c_50, c_82, c_93]) (by first | rfl | (simp only [sf_rf, c_32, c_41, c_50, c_82, c_93, ↓reduceIte, not_true_eq_false, not_false_eq_true]; done) | (simp only [sf_rf, c_32, c_41, c_50, c_82, c_93, ↓reduceIte, not_true_eq_false, not_false_eq_true]; rfl) | simp [sf_rf, c_32, c_41, c_50, c_82, c_93]) k
    · refine hq_iload_n (q := 0) C dX4_reachFromBest_20 rfl rfl ?_
      refine hq_bipush (y := 12) C dX4_reachFromBest_21 (by decide) ?_
      refine hq_icmp_ge (tgt := 124) C dX4_reachFromBest_23 (by decide) (fun c_23 => ?_) (fun c_23 => absurd (nI_le (Nat.le_refl 12) (by decide)) c_23)
      exact hq_vret C hr hlk dX4_reachFromBest_124 rfl
  · exact hq_vret C hr hlk dX4_reachFromBest_10 (by rw [show sp_rfb I J = I from if_pos c_7])
