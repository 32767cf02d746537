def sp_nq (I : MI) (J : MJ) (b i : Nat) : Bool := decide (¬ I 32 i = 0) && (decide (I 35 i + 1 = I 35 b) && (decide (I 34 i + sp_fee I b = I 34 b) && decide (¬ sp_owe I J b i = 0)))
def sp_nx (I : MI) (J : MJ) (b : Nat) : Nat → Nat → Int32
  | 0, _ => -1
  | n + 1, i => if sp_nq I J b i = true then nI i else sp_nx I J b n (i + 1)
theorem sp_nx_br (I : MI) (J : MJ) (b : Nat) : ∀ n i : Nat, i + n = 12 → hw_br (sp_nx I J b n i) := by
  intro n
  induction n with
  | zero => intro i _; exact Or.inl rfl
  | succ n ih =>
    intro i h
    unfold sp_nx
    split
    · exact Or.inr ⟨i, by omega, rfl⟩
    · exact ih (i + 1) (by omega)
set_option maxHeartbeats 4000000 in
set_option maxRecDepth 100000 in
theorem m_X4_nextOf {l : Launch} {D : va_G} {b0 : Nat} {I : MI} {J : MJ} {P : MI} {N : MJ} {o : Int64} {b : Nat} {x : Int32} (hx : x = nI b) (hb9 : b < 12) : hM l yX4_nextOf cX4_nextOf 3 (some .int) rX4_nextOf D b0 [.ref (hw_ad b0 16 0), .int x] I J P N o (some (.int (sp_nx I J b 12 0))) I J P N o := by
  refine hw_Mof (by decide) [(0, .ref _), (1, .int _)] rfl (Nat.le_of_ble_eq_true rfl) ?_
  intro p e s m args below meth c C hr hlk hnm
  refine hq_iconst (y := 0) C dX4_nextOf_0 (by decide) ?_
  refine hq_istore_n (L' := [(2, .int _), (0, .ref _), (1, .int _)]) C dX4_nextOf_1 rfl (by decide) rfl ?_
  have key : ∀ (r i : Nat), i + r = 12 → hw_V p l e rX4_nextOf s m args below meth c (MQ below (hw_Q D b0 false (hw_n o) (some (.int (sp_nx I J b r i))) (hw_vl b0 I J P N o)) args s 0 0 (fun q => b0 ≤ q)) D b0 3 false 0 0 (hw_n o) 2 [(2, .int (nI i)), (0, .ref (hw_ad b0 16 0)), (1, .int x)] [] (hw_vl b0 I J P N o) := by
    intro r
    induction r with
    | zero =>
      intro i hi
      have e9 : i = 12 := by omega
      subst e9
      refine hq_iload_n (q := 0) C dX4_nextOf_2 rfl rfl ?_
      refine hq_bipush (y := 12) C dX4_nextOf_3 (by decide) ?_
      refine hq_icmp_ge (tgt := 72) C dX4_nextOf_5 (by decide) (fun c_5 => ?_) (fun c_5 => absurd (nI_le (Nat.le_refl 12) (by decide)) c_5)
      refine hq_iconst (y := -1) C dX4_nextOf_72 (by decide) ?_
      exact hq_iret C hr hlk dX4_nextOf_73 rfl rfl
    | succ r ih =>
      intro i hi
      have hi2 : i < 12 := by omega
      refine hq_iload_n (q := 0) C dX4_nextOf_2 rfl rfl ?_
      refine hq_bipush (y := 12) C dX4_nextOf_3 (by decide) ?_
      refine hq_icmp_ge (tgt := 72) C dX4_nextOf_5 (by decide) (fun c_5 => absurd c_5 (nI_ge (b := 12) hi2 (by decide))) (fun c_5 => ?_)
      refine hq_aload_n (q := 1) C dX4_nextOf_8 rfl rfl ?_
      refine hq_getR (f := 16) (g := 18) (Nc := 1) (Ns := 11) C fr_X4_15 dX4_nextOf_9 rfl rfl rfl rfl rfl (by decide) Nat.one_pos ?_
      refine hq_iload_n (q := 0) C dX4_nextOf_12 rfl rfl ?_
      refine hq_zaldI0 (f := 18) (g := 32) (Nc := 1) (Ns := 12) C dX4_nextOf_13 rfl rfl rfl rfl rfl rfl (by first | rfl | assumption) (by first | assumption | omega) Nat.one_pos ?_
      refine hq_if_eq (tgt := 66) C dX4_nextOf_14 (by decide) (fun c_14 => ?_) (fun c_14 => ?_)
      · refine hq_iinc (q := 0) (y := nI (_ + 1)) (L' := [(2, .int _), (0, .ref _), (1, .int _)]) C dX4_nextOf_66 rfl (hw_inc _) (by decide) rfl ?_
        refine hq_goto (tgt := 2) C dX4_nextOf_69 (by decide) ?_
        rw [show sp_nx I J b (r + 1) i = sp_nx I J b r (i + 1) from by simp [sp_nx, sp_nq, c_14]]
        refine hq_perm [0, 1, 2] (L' := [(2, .int (nI (i + 1))), (0, .ref (hw_ad b0 16 0)), (1, .int x)]) rfl ?_
        exact ih (i + 1) (by omega)
      · refine hq_aload_n (q := 1) C dX4_nextOf_17 rfl rfl ?_
        refine hq_getR (f := 16) (g := 21) (Nc := 1) (Ns := 11) C fr_X4_25 dX4_nextOf_18 rfl rfl rfl rfl rfl (by decide) Nat.one_pos ?_
        refine hq_iload_n (q := 0) C dX4_nextOf_21 rfl rfl ?_
        refine hq_ialdI0 (f := 21) (g := 35) (Nc := 1) (Ns := 12) C dX4_nextOf_22 rfl rfl rfl rfl rfl rfl (by first | rfl | assumption) (by first | assumption | omega) Nat.one_pos ?_
        refine hq_iconst (y := 1) C dX4_nextOf_23 (by decide) ?_
        refine hq_iadd C dX4_nextOf_24 ?_
        refine hq_aload_n (q := 1) C dX4_nextOf_25 rfl rfl ?_
        refine hq_getR (f := 16) (g := 21) (Nc := 1) (Ns := 11) C fr_X4_25 dX4_nextOf_26 rfl rfl rfl rfl rfl (by decide) Nat.one_pos ?_
        refine hq_iload_n (q := 2) C dX4_nextOf_29 rfl rfl ?_
        refine hq_ialdI0 (f := 21) (g := 35) (Nc := 1) (Ns := 12) C dX4_nextOf_30 rfl rfl rfl rfl rfl rfl (by first | rfl | assumption) (by first | assumption | omega) Nat.one_pos ?_
        refine hq_icmp_ne (tgt := 66) C dX4_nextOf_31 (by decide) (fun c_31 => ?_) (fun c_31 => ?_)
        · refine hq_iinc (q := 0) (y := nI (_ + 1)) (L' := [(2, .int _), (0, .ref _), (1, .int _)]) C dX4_nextOf_66 rfl (hw_inc _) (by decide) rfl ?_
          refine hq_goto (tgt := 2) C dX4_nextOf_69 (by decide) ?_
          rw [show sp_nx I J b (r + 1) i = sp_nx I J b r (i + 1) from by simp [sp_nx, sp_nq, c_14, c_31]]
          refine hq_perm [0, 1, 2] (L' := [(2, .int (nI (i + 1))), (0, .ref (hw_ad b0 16 0)), (1, .int x)]) rfl ?_
          exact ih (i + 1) (by omega)
        · refine hq_aload_n (q := 1) C dX4_nextOf_34 rfl rfl ?_
          refine hq_getR (f := 16) (g := 20) (Nc := 1) (Ns := 11) C fr_X4_21 dX4_nextOf_35 rfl rfl rfl rfl rfl (by decide) Nat.one_pos ?_
          refine hq_iload_n (q := 0) C dX4_nextOf_38 rfl rfl ?_
          refine hq_ialdI0 (f := 20) (g := 34) (Nc := 1) (Ns := 12) C dX4_nextOf_39 rfl rfl rfl rfl rfl rfl (by first | rfl | assumption) (by first | assumption | omega) Nat.one_pos ?_
          refine hq_aload_n (q := 1) C dX4_nextOf_40 rfl rfl ?_
          refine hq_iload_n (q := 2) C dX4_nextOf_41 rfl rfl ?_
          refine hq_cVr (As := [.int _]) (rm := rX4_feeOf) (f := 16) (Nc := 1) C (m_X4_feeOf (by first | rfl | assumption) (by first | assumption | omega)) wv_X4_feeOf ml_X4_80 rfl rfl rfl Nat.one_pos rfl rfl rfl rfl ⟨Nat.le_of_ble_eq_true rfl, Nat.le_of_ble_eq_true rfl⟩ (Nat.le_of_ble_eq_true rfl) ⟨Nat.le_of_ble_eq_true rfl, Nat.le_of_ble_eq_true rfl⟩ dX4_nextOf_42 ?_
          refine hq_iadd C dX4_nextOf_45 ?_
          refine hq_aload_n (q := 1) C dX4_nextOf_46 rfl rfl ?_
          refine hq_getR (f := 16) (g := 20) (Nc := 1) (Ns := 11) C fr_X4_21 dX4_nextOf_47 rfl rfl rfl rfl rfl (by decide) Nat.one_pos ?_
          refine hq_iload_n (q := 2) C dX4_nextOf_50 rfl rfl ?_
          refine hq_ialdI0 (f := 20) (g := 34) (Nc := 1) (Ns := 12) C dX4_nextOf_51 rfl rfl rfl rfl rfl rfl (by first | rfl | assumption) (by first | assumption | omega) Nat.one_pos ?_
          refine hq_icmp_ne (tgt := 66) C dX4_nextOf_52 (by decide) (fun c_52 => ?_) (fun c_52 => ?_)
          · refine hq_iinc (q := 0) (y := nI (_ + 1)) (L' := [(2, .int _), (0, .ref _), (1, .int _)]) C dX4_nextOf_66 rfl (hw_inc _) (by decide) rfl ?_
            refine hq_goto (tgt := 2) C dX4_nextOf_69 (by decide) ?_
            rw [show sp_nx I J b (r + 1) i = sp_nx I J b r (i + 1) from by simp [sp_nx, sp_nq, c_14, c_31, c_52]]
            refine hq_perm [0, 1, 2] (L' := [(2, .int (nI (i + 1))), (0, .ref (hw_ad b0 16 0)), (1, .int x)]) rfl ?_
            exact ih (i + 1) (by omega)
          · refine hq_aload_n (q := 1) C dX4_nextOf_55 rfl rfl ?_
            refine hq_iload_n (q := 2) C dX4_nextOf_56 rfl rfl ?_
            refine hq_iload_n (q := 0) C dX4_nextOf_57 rfl rfl ?_
            refine hq_cVr (As := [.int _, .int _]) (rm := rX4_canOwe) (f := 16) (Nc := 1) C (m_X4_canOwe (by first | rfl | assumption) (by first | assumption | omega) (by first | rfl | assumption) (by first | assumption | omega)) wv_X4_canOwe ml_X4_92 rfl rfl rfl Nat.one_pos rfl rfl rfl rfl ⟨Nat.le_of_ble_eq_true rfl, Nat.le_of_ble_eq_true rfl⟩ (Nat.le_of_ble_eq_true rfl) ⟨Nat.le_of_ble_eq_true rfl, Nat.le_of_ble_eq_true rfl⟩ dX4_nextOf_58 ?_
            refine hq_if_eq (tgt := 66) C dX4_nextOf_61 (by decide) (fun c_61 => ?_) (fun c_61 => ?_)
            · refine hq_iinc (q := 0) (y := nI (_ + 1)) (L' := [(2, .int _), (0, .ref _), (1, .int _)]) C dX4_nextOf_66 rfl (hw_inc _) (by decide) rfl ?_
              refine hq_goto (tgt := 2) C dX4_nextOf_69 (by decide) ?_
              rw [show sp_nx I J b (r + 1) i = sp_nx I J b r (i + 1) from by simp [sp_nx, sp_nq, c_14, c_31, c_52, c_61]]
              refine hq_perm [0, 1, 2] (L' := [(2, .int (nI (i + 1))), (0, .ref (hw_ad b0 16 0)), (1, .int x)]) rfl ?_
              exact ih (i + 1) (by omega)
            · refine hq_iload_n (q := 0) C dX4_nextOf_64 rfl rfl ?_
              exact hq_iret C hr hlk dX4_nextOf_65 (by simp [sp_nx, sp_nq, c_14, c_31, c_52, c_61]) rfl
  refine hq_perm [0, 1, 2] (L' := [(2, .int (nI 0)), (0, .ref (hw_ad b0 16 0)), (1, .int x)]) rfl ?_
  exact key 12 0 rfl
def sp_fl (J : MJ) (y : Int32) : Nat → Nat → Int32 → MI → MI
  | 0, _, _, I => I
  | n + 1, i, x, I => if x = -1 then I else sp_fl J y n (i + 1) (if x = y then -1 else sp_nx (uI (uI I 36 i x) 37 0 (nI (i + 1))) J x.toNatClampNeg 12 0) (uI (uI I 36 i x) 37 0 (nI (i + 1)))
def sp_fol (I : MI) (J : MJ) (x y : Int32) : MI := sp_fl J y 12 0 x I
set_option maxHeartbeats 4000000 in
set_option maxRecDepth 100000 in
theorem m_X4_follow {l : Launch} {D : va_G} {b0 : Nat} {I : MI} {J : MJ} {P : MI} {N : MJ} {o : Int64} {x y : Int32} (hx : hw_br x) : hM l yX4_follow cX4_follow 5 none rX4_follow D b0 [.ref (hw_ad b0 16 0), .int x, .int y] I J P N o none (sp_fol I J x y) J P N o := by
  refine hw_Mof (by decide) [(0, .ref _), (1, .int _), (2, .int _)] rfl (Nat.le_of_ble_eq_true rfl) ?_
  intro p e s m args below meth c C hr hlk hnm
  refine hq_iload_n (q := 1) C dX4_follow_0 rfl rfl ?_
  refine hq_istore_n (L' := [(3, .int _), (0, .ref _), (1, .int _), (2, .int _)]) C dX4_follow_1 rfl (by decide) rfl ?_
  refine hq_iconst (y := 0) C dX4_follow_2 (by decide) ?_
  refine hq_istore (L' := [(4, .int _), (3, .int _), (0, .ref _), (1, .int _), (2, .int _)]) C dX4_follow_3 (by decide) rfl ?_
  have key : ∀ (r i : Nat) (w : Int32) (I : MI), i + r = 12 → hw_br w → hw_V p l e rX4_follow s m args below meth c (MQ below (hw_Q D b0 false (hw_n o) none (hw_vl b0 (sp_fl J y r i w I) J P N o)) args s 0 0 (fun q => b0 ≤ q)) D b0 5 false 0 0 (hw_n o) 5 [(4, .int (nI i)), (3, .int w), (0, .ref (hw_ad b0 16 0)), (1, .int x), (2, .int y)] [] (hw_vl b0 I J P N o) := by
    intro r
    induction r with
    | zero =>
      intro i w I hi hw
      have e9 : i = 12 := by omega
      subst e9
      refine hq_iload (q := 0) C dX4_follow_5 rfl ?_
      refine hq_bipush (y := 12) C dX4_follow_7 (by decide) ?_
      refine hq_icmp_ge (tgt := 54) C dX4_follow_9 (by decide) (fun c_9 => ?_) (fun c_9 => absurd (nI_le (Nat.le_refl 12) (by decide)) c_9)
      exact hq_vret C hr hlk dX4_follow_54 rfl
    | succ r ih =>
      intro i w I hi hw
      have hi2 : i < 12 := by omega
      refine hq_iload (q := 0) C dX4_follow_5 rfl ?_
      refine hq_bipush (y := 12) C dX4_follow_7 (by decide) ?_
      refine hq_icmp_ge (tgt := 54) C dX4_follow_9 (by decide) (fun c_9 => absurd c_9 (nI_ge (b := 12) hi2 (by decide))) (fun c_9 => ?_)
      refine hq_iload_n (q := 1) C dX4_follow_12 rfl rfl ?_
      refine hq_iconst (y := -1) C dX4_follow_13 (by decide) ?_
      refine hq_icmp_eq (tgt := 54) C dX4_follow_14 (by decide) (fun c_14 => ?_) (fun c_14 => ?_)
      · exact hq_vret C hr hlk dX4_follow_54 (by rw [show sp_fl J y (r + 1) i w I = I from by simp [sp_fl, c_14]])
      · refine hq_aload_n (q := 2) C dX4_follow_17 rfl rfl ?_
        refine hq_getR (f := 16) (g := 22) (Nc := 1) (Ns := 11) C fr_X4_28 dX4_follow_18 rfl rfl rfl rfl rfl (by decide) Nat.one_pos ?_
        refine hq_iload (q := 0) C dX4_follow_21 rfl ?_
        refine hq_iload_n (q := 1) C dX4_follow_23 rfl rfl ?_
        refine hq_iastI0 (f := 22) (g := 36) (Nc := 1) (Ns := 12) C dX4_follow_24 rfl rfl rfl rfl rfl rfl (by first | rfl | assumption) (by first | assumption | omega) Nat.one_pos ?_
        refine hq_aload_n (q := 2) C dX4_follow_25 rfl rfl ?_
        refine hq_iload (q := 0) C dX4_follow_26 rfl ?_
        refine hq_iconst (y := 1) C dX4_follow_28 (by decide) ?_
        refine hq_iadd C dX4_follow_29 ?_
        refine hq_st (st' := [.int (nI (i + 1)), .ref (hw_ad b0 16 0)]) (congrArg (fun z => [Value.int z, _]) (nI_1 i)) ?_
        refine hq_putI (f := 16) (g := 37) (Nc := 1) (Ns := 11) C fl_X4_53 dX4_follow_30 rfl rfl rfl rfl rfl (by decide) Nat.one_pos rfl rfl ?_
        refine hq_iload_n (q := 1) C dX4_follow_33 rfl rfl ?_
        refine hq_iload_n (q := 4) C dX4_follow_34 rfl rfl ?_
        refine hq_icmp_ne (tgt := 42) C dX4_follow_35 (by decide) (fun c_35 => ?_) (fun c_35 => ?_)
        · refine hq_aload_n (q := 2) C dX4_follow_42 rfl rfl ?_
          refine hq_iload_n (q := 1) C dX4_follow_43 rfl rfl ?_
          refine hq_cVr (As := [.int _]) (rm := rX4_nextOf) (f := 16) (Nc := 1) C (m_X4_nextOf (b := w.toNatClampNeg) (hw.x c_14) (hw.b c_14)) wv_X4_nextOf ml_X4_96 rfl rfl rfl Nat.one_pos rfl rfl rfl rfl ⟨Nat.le_of_ble_eq_true rfl, Nat.le_of_ble_eq_true rfl⟩ (Nat.le_of_ble_eq_true rfl) ⟨Nat.le_of_ble_eq_true rfl, Nat.le_of_ble_eq_true rfl⟩ dX4_follow_44 ?_
          refine hq_istore_n (L' := [(3, .int _), (4, .int _), (0, .ref _), (1, .int _), (2, .int _)]) C dX4_follow_47 rfl (by decide) rfl ?_
          refine hq_iinc (q := 1) (y := nI (_ + 1)) (L' := [(4, .int _), (3, .int _), (0, .ref _), (1, .int _), (2, .int _)]) C dX4_follow_48 rfl (hw_inc _) (by decide) rfl ?_
          refine hq_goto (tgt := 5) C dX4_follow_51 (by decide) ?_
          by_cases c9 : w = y
          · rw [show sp_fl J y (r + 1) i w I = sp_fl J y r (i + 1) (-1) (uI (uI I 36 i w) 37 0 (nI (i + 1))) from by simp only [sp_fl]; rw [if_neg c_14, if_pos c9]]
            first | (refine hq_perm [0, 1, 2, 3, 4] (L' := [(4, .int (nI (i + 1))), (3, .int (-1)), (0, .ref (hw_ad b0 16 0)), (1, .int x), (2, .int y)]) rfl ?_; exact ih (i + 1) (-1) _ (by omega) (Or.inl rfl)) | exact absurd c9 c_35
          · rw [show sp_fl J y (r + 1) i w I = sp_fl J y r (i + 1) (sp_nx (uI (uI I 36 i w) 37 0 (nI (i + 1))) J w.toNatClampNeg 12 0) (uI (uI I 36 i w) 37 0 (nI (i + 1))) from by simp only [sp_fl]; rw [if_neg c_14, if_neg c9]]
            first | (refine hq_perm [0, 1, 2, 3, 4] (L' := [(4, .int (nI (i + 1))), (3, .int (sp_nx (uI (uI I 36 i w) 37 0 (nI (i + 1))) J w.toNatClampNeg 12 0)), (0, .ref (hw_ad b0 16 0)), (1, .int x), (2, .int y)]) rfl ?_; exact ih (i + 1) _ _ (by omega) (sp_nx_br _ _ _ 12 0 rfl)) | exact absurd c_35 c9
        · refine hq_iconst (y := -1) C dX4_follow_38 (by decide) ?_
          refine hq_goto (tgt := 47) C dX4_follow_39 (by decide) ?_
          refine hq_istore_n (L' := [(3, .int _), (4, .int _), (0, .ref _), (1, .int _), (2, .int _)]) C dX4_follow_47 rfl (by decide) rfl ?_
          refine hq_iinc (q := 1) (y := nI (_ + 1)) (L' := [(4, .int _), (3, .int _), (0, .ref _), (1, .int _), (2, .int _)]) C dX4_follow_48 rfl (hw_inc _) (by decide) rfl ?_
          refine hq_goto (tgt := 5) C dX4_follow_51 (by decide) ?_
          by_cases c9 : w = y
          · rw [show sp_fl J y (r + 1) i w I = sp_fl J y r (i + 1) (-1) (uI (uI I 36 i w) 37 0 (nI (i + 1))) from by simp only [sp_fl]; rw [if_neg c_14, if_pos c9]]
            first | (refine hq_perm [0, 1, 2, 3, 4] (L' := [(4, .int (nI (i + 1))), (3, .int (-1)), (0, .ref (hw_ad b0 16 0)), (1, .int x), (2, .int y)]) rfl ?_; exact ih (i + 1) (-1) _ (by omega) (Or.inl rfl)) | exact absurd c9 c_35
          · rw [show sp_fl J y (r + 1) i w I = sp_fl J y r (i + 1) (sp_nx (uI (uI I 36 i w) 37 0 (nI (i + 1))) J w.toNatClampNeg 12 0) (uI (uI I 36 i w) 37 0 (nI (i + 1))) from by simp only [sp_fl]; rw [if_neg c_14, if_neg c9]]
            first | (refine hq_perm [0, 1, 2, 3, 4] (L' := [(4, .int (nI (i + 1))), (3, .int (sp_nx (uI (uI I 36 i w) 37 0 (nI (i + 1))) J w.toNatClampNeg 12 0)), (0, .ref (hw_ad b0 16 0)), (1, .int x), (2, .int y)]) rfl ?_; exact ih (i + 1) _ _ (by omega) (sp_nx_br _ _ _ 12 0 rfl)) | exact absurd c_35 c9
  refine hq_perm [0, 1, 2, 3, 4] (L' := [(4, .int (nI 0)), (3, .int x), (0, .ref (hw_ad b0 16 0)), (1, .int x), (2, .int y)]) rfl ?_
  exact key 12 0 x I rfl hx
def sp_find (I : MI) (J : MJ) (a b : Nat) : Int32 × MI :=
  if uI I 37 0 0 31 a = 0 then (0, uI I 37 0 0) else if uI I 37 0 0 31 b = 0 then (0, uI I 37 0 0)
  else if lp (fun _ I => sp_rfb I J) 12 0 (sp_sat (uI I 37 0 0) b) 32 a = 0 then (0, lp (fun _ I => sp_rfb I J) 12 0 (sp_sat (uI I 37 0 0) b))
  else (1, sp_fol (lp (fun _ I => sp_rfb I J) 12 0 (sp_sat (uI I 37 0 0) b)) J (nI a) (nI b))
set_option maxHeartbeats 4000000 in
set_option maxRecDepth 100000 in
theorem m_X4_find {l : Launch} {D : va_G} {b0 : Nat} {I : MI} {J : MJ} {P : MI} {N : MJ} {o : Int64} {a b : Nat} {x y : Int32} (hx : x = nI a) (ha : a < 12) (hy : y = nI b) (hb9 : b < 12) : hM l yX4_find cX4_find 4 (some .boolean) rX4_find D b0 [.ref (hw_ad b0 16 0), .int x, .int y] I J P N o (some (.int (sp_find I J a b).1)) (sp_find I J a b).2 J P N o := by
  subst hx
  subst hy
  refine hw_Mof (by decide) [(0, .ref _), (1, .int _), (2, .int _)] rfl (Nat.le_of_ble_eq_true rfl) ?_
  intro p e s m args below meth c C hr hlk hnm
  refine hq_aload_n (q := 0) C dX4_find_0 rfl rfl ?_
  refine hq_iconst (y := 0) C dX4_find_1 (by decide) ?_
  refine hq_putI (f := 16) (g := 37) (Nc := 1) (Ns := 11) C fl_X4_53 dX4_find_2 rfl rfl rfl rfl rfl (by decide) Nat.one_pos rfl rfl ?_
  refine hq_aload_n (q := 0) C dX4_find_5 rfl rfl ?_
  refine hq_getR (f := 16) (g := 17) (Nc := 1) (Ns := 11) C fr_X4_9 dX4_find_6 rfl rfl rfl rfl rfl (by decide) Nat.one_pos ?_
  refine hq_iload_n (q := 1) C dX4_find_9 rfl rfl ?_
  refine hq_zaldI0 (f := 17) (g := 31) (Nc := 1) (Ns := 12) C dX4_find_10 rfl rfl rfl rfl rfl rfl (by first | rfl | assumption) (by first | assumption | omega) Nat.one_pos ?_
  refine hq_if_eq (tgt := 23) C dX4_find_11 (by decide) (fun c_11 => ?_) (fun c_11 => ?_)
  · refine hq_iconst (y := 0) C dX4_find_23 (by decide) ?_
    exact hq_zret C hr hlk dX4_find_24 (by decide) (by simp [sp_find, c_11]) (by simp [sp_find, c_11])
  · refine hq_aload_n (q := 0) C dX4_find_14 rfl rfl ?_
    refine hq_getR (f := 16) (g := 17) (Nc := 1) (Ns := 11) C fr_X4_9 dX4_find_15 rfl rfl rfl rfl rfl (by decide) Nat.one_pos ?_
    refine hq_iload_n (q := 2) C dX4_find_18 rfl rfl ?_
    refine hq_zaldI0 (f := 17) (g := 31) (Nc := 1) (Ns := 12) C dX4_find_19 rfl rfl rfl rfl rfl rfl (by first | rfl | assumption) (by first | assumption | omega) Nat.one_pos ?_
    refine hq_if_ne (tgt := 25) C dX4_find_20 (by decide) (fun c_20 => ?_) (fun c_20 => ?_)
    · refine hq_aload_n (q := 0) C dX4_find_25 rfl rfl ?_
      refine hq_iload_n (q := 2) C dX4_find_26 rfl rfl ?_
      refine hq_cVv (As := [.int _]) (rm := rX4_startAt) (f := 16) (Nc := 1) C (m_X4_startAt (by first | rfl | assumption) (by first | assumption | omega)) wv_X4_startAt ml_X4_56 rfl rfl rfl Nat.one_pos rfl rfl rfl rfl ⟨Nat.le_of_ble_eq_true rfl, Nat.le_of_ble_eq_true rfl⟩ (Nat.le_of_ble_eq_true rfl) ⟨Nat.le_of_ble_eq_true rfl, Nat.le_of_ble_eq_true rfl⟩ dX4_find_27 ?_
      refine hq_iconst (y := 0) C dX4_find_30 (by decide) ?_
      refine hq_istore_n (L' := [(3, .int _), (0, .ref _), (1, .int _), (2, .int _)]) C dX4_find_31 rfl (by decide) rfl ?_
      refine hq_perm [0, 1, 2, 3] (L' := [(3, .int (nI 0)), (0, .ref (hw_ad b0 16 0)), (1, .int (nI a)), (2, .int (nI b))]) rfl ?_
      refine lp_back (fun _ I => sp_rfb I J) (fun (i : Nat) (σ : MI) => hw_V p l e rX4_find s m args below meth c (MQ below (hw_Q D b0 false (hw_n o) (some (.int (sp_find I J a b).1)) (hw_vl b0 (sp_find I J a b).2 J P N o)) args s 0 0 (fun q => b0 ≤ q)) D b0 4 false 0 0 (hw_n o) 32 [(3, .int (nI i)), (0, .ref (hw_ad b0 16 0)), (1, .int (nI a)), (2, .int (nI b))] [] (hw_vl b0 σ J P N o)) (fun _ _ => True) 12 ?_ (fun _ _ _ _ => trivial) 12 0 (sp_sat (uI I 37 0 0) b) (by omega) trivial ?_
      · intro i σ hi hinv k
        refine hq_iload_n (q := 0) C dX4_find_32 rfl rfl ?_
        refine hq_bipush (y := 12) C dX4_find_33 (by decide) ?_
        refine hq_icmp_ge (tgt := 48) C dX4_find_35 (by decide) (fun c_35 => absurd c_35 (nI_ge (b := 12) hi (by decide))) (fun c_35 => ?_)
        refine hq_aload_n (q := 1) C dX4_find_38 rfl rfl ?_
        refine hq_cVv (As := []) (rm := rX4_reachFromBest) (f := 16) (Nc := 1) C m_X4_reachFromBest wv_X4_reachFromBest ml_X4_60 rfl rfl rfl Nat.one_pos rfl rfl rfl rfl ⟨Nat.le_of_ble_eq_true rfl, Nat.le_of_ble_eq_true rfl⟩ (Nat.le_of_ble_eq_true rfl) ⟨Nat.le_of_ble_eq_true rfl, Nat.le_of_ble_eq_true rfl⟩ dX4_find_39 ?_
        refine hq_iinc (q := 0) (y := nI (_ + 1)) (L' := [(3, .int _), (0, .ref _), (1, .int _), (2, .int _)]) C dX4_find_42 rfl (hw_inc _) (by decide) rfl ?_
        refine hq_goto (tgt := 32) C dX4_find_45 (by decide) ?_
        exact hq_fin [0, 1, 2, 3] rfl rfl rfl rfl rfl rfl k
      · refine hq_iload_n (q := 0) C dX4_find_32 rfl rfl ?_
        refine hq_bipush (y := 12) C dX4_find_33 (by decide) ?_
        refine hq_icmp_ge (tgt := 48) C dX4_find_35 (by decide) (fun c_35 => ?_) (fun c_35 => absurd (nI_le (Nat.le_refl 12) (by decide)) c_35)
        refine hq_aload_n (q := 1) C dX4_find_48 rfl rfl ?_
        refine hq_getR (f := 16) (g := 18) (Nc := 1) (Ns := 11) C fr_X4_15 dX4_find_49 rfl rfl rfl rfl rfl (by decide) Nat.one_pos ?_
        refine hq_iload_n (q := 2) C dX4_find_52 rfl rfl ?_
        refine hq_zaldI0 (f := 18) (g := 32) (Nc := 1) (Ns := 12) C dX4_find_53 rfl rfl rfl rfl rfl rfl (by first | rfl | assumption) (by first | assumption | omega) Nat.one_pos ?_
        refine hq_if_ne (tgt := 59) C dX4_find_54 (by decide) (fun c_54 => ?_) (fun c_54 => ?_)
        · refine hq_aload_n (q := 1) C dX4_find_59 rfl rfl ?_
          refine hq_iload_n (q := 2) C dX4_find_60 rfl rfl ?_
          refine hq_iload_n (q := 3) C dX4_find_61 rfl rfl ?_
          refine hq_cVv (As := [.int _, .int _]) (rm := rX4_follow) (f := 16) (Nc := 1) C (m_X4_follow (Or.inr ⟨a, ha, rfl⟩)) wv_X4_follow ml_X4_63 rfl rfl rfl Nat.one_pos rfl rfl rfl rfl ⟨Nat.le_of_ble_eq_true rfl, Nat.le_of_ble_eq_true rfl⟩ (Nat.le_of_ble_eq_true rfl) ⟨Nat.le_of_ble_eq_true rfl, Nat.le_of_ble_eq_true rfl⟩ dX4_find_62 ?_
          refine hq_iconst (y := 1) C dX4_find_65 (by decide) ?_
          exact hq_zret C hr hlk dX4_find_66 (by decide) (by simp [sp_find, c_11, c_20, c_54]) (by simp [sp_find, c_11, c_20, c_54])
        · refine hq_iconst (y := 0) C dX4_find_57 (by decide) ?_
          exact hq_zret C hr hlk dX4_find_58 (by decide) (by simp [sp_find, c_11, c_20, c_54]) (by rw [show (sp_find I J a b).2 = _ from by simp only [sp_find, if_neg c_11, if_neg c_20, if_pos c_54]; rfl])
    · refine hq_iconst (y := 0) C dX4_find_23 (by decide) ?_
      exact hq_zret C hr hlk dX4_find_24 (by decide) (by simp [sp_find, c_11, c_20]) (by simp [sp_find, c_11, c_20])
set_option maxHeartbeats 4000000 in
set_option maxRecDepth 100000 in
theorem m_X4_allFees {l : Launch} {D : va_G} {b0 : Nat} {I : MI} {J : MJ} {P : MI} {N : MJ} {o : Int64} {n : Nat} (hn : I 37 0 = nI n) (hn2 : n ≤ 12) (hp : ∀ k, k < n → ∃ b, b < 12 ∧ I 36 k = nI b) : hM l yX4_allFees cX4_allFees 1 (some .int) rX4_allFees D b0 [.ref (hw_ad b0 16 0)] I J P N o (some (.int (if 0 < n then I 34 (I 36 0).toNatClampNeg else 0))) I J P N o := by
  have hpx : ∀ k, k < n → I 36 k = nI (I 36 k).toNatClampNeg := fun k hk => by
    obtain ⟨b, h1, h2⟩ := hp k hk
    rw [h2, nI_clamp (by omega)]
  have hpb : ∀ k, k < n → (I 36 k).toNatClampNeg < 12 := fun k hk => by
    obtain ⟨b, h1, h2⟩ := hp k hk
    rw [h2, nI_clamp (by omega)]
    exact h1
  have hlt : ¬ I 37 0 ≤ 0 → 0 < n := fun z => by
    rcases Nat.lt_or_ge 0 n with q | q
    · exact q
    · exact absurd (by rw [hn, show n = 0 by omega]; exact Int32.le_refl _) z
  have hge : I 37 0 ≤ 0 → ¬ 0 < n := fun z q => nI_nle q (by omega) (by rw [← hn]; exact z)
  refine hw_Mof (by decide) [(0, .ref _)] rfl (Nat.le_of_ble_eq_true rfl) ?_
  intro p e s m args below meth c C hr hlk hnm
  refine hq_aload_n (q := 0) C dX4_allFees_0 rfl rfl ?_
  refine hq_getI (f := 16) (g := 37) (Nc := 1) (Ns := 11) C fr_X4_53 dX4_allFees_1 rfl rfl rfl rfl rfl (by decide) Nat.one_pos ?_
  refine hq_if_le (tgt := 21) C dX4_allFees_4 (by decide) (fun c_4 => ?_) (fun c_4 => ?_)
  · refine hq_iconst (y := 0) C dX4_allFees_21 (by decide) ?_
    exact hq_iret C hr hlk dX4_allFees_22 (if_neg (hge c_4)).symm rfl
  · refine hq_aload_n (q := 0) C dX4_allFees_7 rfl rfl ?_
    refine hq_getR (f := 16) (g := 20) (Nc := 1) (Ns := 11) C fr_X4_21 dX4_allFees_8 rfl rfl rfl rfl rfl (by decide) Nat.one_pos ?_
    refine hq_aload_n (q := 0) C dX4_allFees_11 rfl rfl ?_
    refine hq_getR (f := 16) (g := 22) (Nc := 1) (Ns := 11) C fr_X4_28 dX4_allFees_12 rfl rfl rfl rfl rfl (by decide) Nat.one_pos ?_
    refine hq_iconst (y := 0) C dX4_allFees_15 (by decide) ?_
    refine hq_ialdI0 (f := 22) (a := 0) (g := 36) (Nc := 1) (Ns := 12) C dX4_allFees_16 rfl rfl rfl rfl rfl rfl rfl (by decide) Nat.one_pos ?_
    refine hq_ialdI0 (f := 20) (g := 34) (Nc := 1) (Ns := 12) C dX4_allFees_17 rfl rfl rfl rfl rfl rfl (hpx 0 (hlt c_4)) (hpb 0 (hlt c_4)) Nat.one_pos ?_
    refine hq_goto (tgt := 22) C dX4_allFees_18 (by decide) ?_
    exact hq_iret C hr hlk dX4_allFees_22 (if_pos (hlt c_4)).symm rfl
set_option maxHeartbeats 4000000 in
set_option maxRecDepth 100000 in
theorem m_X4_feesBehindFirst {l : Launch} {D : va_G} {b0 : Nat} {I : MI} {J : MJ} {P : MI} {N : MJ} {o : Int64} {n : Nat} (hn : I 37 0 = nI n) (hn2 : n ≤ 12) (hp : ∀ k, k < n → ∃ b, b < 12 ∧ I 36 k = nI b) : hM l yX4_feesBehindFirst cX4_feesBehindFirst 1 (some .int) rX4_feesBehindFirst D b0 [.ref (hw_ad b0 16 0)] I J P N o (some (.int (if 1 < n then I 34 (I 36 1).toNatClampNeg else 0))) I J P N o := by
  have hpx : ∀ k, k < n → I 36 k = nI (I 36 k).toNatClampNeg := fun k hk => by
    obtain ⟨b, h1, h2⟩ := hp k hk
    rw [h2, nI_clamp (by omega)]
  have hpb : ∀ k, k < n → (I 36 k).toNatClampNeg < 12 := fun k hk => by
    obtain ⟨b, h1, h2⟩ := hp k hk
    rw [h2, nI_clamp (by omega)]
    exact h1
  have hlt : ¬ I 37 0 ≤ 1 → 1 < n := fun z => by
    rcases Nat.lt_or_ge 1 n with q | q
    · exact q
    · exact absurd (by rw [hn]; exact nI_le (a := n) (b := 1) q (by decide)) z
  have hge : I 37 0 ≤ 1 → ¬ 1 < n := fun z q => nI_ge (a := 1) (b := n) q (by omega) (by rw [← hn]; exact z)
  refine hw_Mof (by decide) [(0, .ref _)] rfl (Nat.le_of_ble_eq_true rfl) ?_
  intro p e s m args below meth c C hr hlk hnm
  refine hq_aload_n (q := 0) C dX4_feesBehindFirst_0 rfl rfl ?_
  refine hq_getI (f := 16) (g := 37) (Nc := 1) (Ns := 11) C fr_X4_53 dX4_feesBehindFirst_1 rfl rfl rfl rfl rfl (by decide) Nat.one_pos ?_
  refine hq_iconst (y := 1) C dX4_feesBehindFirst_4 (by decide) ?_
  refine hq_icmp_le (tgt := 22) C dX4_feesBehindFirst_5 (by decide) (fun c_5 => ?_) (fun c_5 => ?_)
  · refine hq_iconst (y := 0) C dX4_feesBehindFirst_22 (by decide) ?_
    exact hq_iret C hr hlk dX4_feesBehindFirst_23 (if_neg (hge c_5)).symm rfl
  · refine hq_aload_n (q := 0) C dX4_feesBehindFirst_8 rfl rfl ?_
    refine hq_getR (f := 16) (g := 20) (Nc := 1) (Ns := 11) C fr_X4_21 dX4_feesBehindFirst_9 rfl rfl rfl rfl rfl (by decide) Nat.one_pos ?_
    refine hq_aload_n (q := 0) C dX4_feesBehindFirst_12 rfl rfl ?_
    refine hq_getR (f := 16) (g := 22) (Nc := 1) (Ns := 11) C fr_X4_28 dX4_feesBehindFirst_13 rfl rfl rfl rfl rfl (by decide) Nat.one_pos ?_
    refine hq_iconst (y := 1) C dX4_feesBehindFirst_16 (by decide) ?_
    refine hq_ialdI0 (f := 22) (a := 1) (g := 36) (Nc := 1) (Ns := 12) C dX4_feesBehindFirst_17 rfl rfl rfl rfl rfl rfl rfl (by decide) Nat.one_pos ?_
    refine hq_ialdI0 (f := 20) (g := 34) (Nc := 1) (Ns := 12) C dX4_feesBehindFirst_18 rfl rfl rfl rfl rfl rfl (hpx 1 (hlt c_5)) (hpb 1 (hlt c_5)) Nat.one_pos ?_
    refine hq_goto (tgt := 23) C dX4_feesBehindFirst_19 (by decide) ?_
    exact hq_iret C hr hlk dX4_feesBehindFirst_23 (if_pos (hlt c_5)).symm rfl
