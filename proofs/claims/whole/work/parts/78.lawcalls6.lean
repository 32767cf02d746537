/-! the law: calls 20 to 23 -/
theorem dlaw_1523 : decode code 1523 = .ok (.aload_n 1, 1) := by decide +kernel
theorem gA_1524 : gA 1524 (1) := by
  unfold gA
  decide +kernel
theorem gA_1530 : gA 1530 (2) := by
  unfold gA
  decide +kernel
theorem dlaw_1536 : decode code 1536 = .ok (.aload_n 3, 1) := by decide +kernel
theorem dlaw_1537 : decode code 1537 = .ok (.invokestatic 170, 3) := by decide +kernel
theorem dlaw_1540 : decode code 1540 = .ok (.istore 5, 2) := by decide +kernel
theorem dlaw_1542 : decode code 1542 = .ok (.aload_n 2, 1) := by decide +kernel
theorem gA_1543 : gA 1543 (1) := by
  unfold gA
  decide +kernel
theorem gA_1549 : gA 1549 (2) := by
  unfold gA
  decide +kernel
theorem dlaw_1555 : decode code 1555 = .ok (.invokevirtual 172, 3) := by decide +kernel
theorem dlaw_1558 : decode code 1558 = .ok (.istore 6, 2) := by decide +kernel
theorem gT_1560 : gT 1560 := by
  unfold gT
  decide +kernel
theorem gI_1571 : gI 1571 (139) := by
  unfold gI
  decide +kernel
theorem dlaw_1591 : decode code 1591 = .ok (.aload_n 1, 1) := by decide +kernel
theorem gA_1592 : gA 1592 (1) := by
  unfold gA
  decide +kernel
theorem gA_1598 : gA 1598 (2) := by
  unfold gA
  decide +kernel
theorem dlaw_1604 : decode code 1604 = .ok (.aload_n 3, 1) := by decide +kernel
theorem dlaw_1605 : decode code 1605 = .ok (.invokestatic 173, 3) := by decide +kernel
theorem dlaw_1608 : decode code 1608 = .ok (.istore 5, 2) := by decide +kernel
theorem dlaw_1610 : decode code 1610 = .ok (.aload_n 2, 1) := by decide +kernel
theorem gA_1611 : gA 1611 (1) := by
  unfold gA
  decide +kernel
theorem gA_1617 : gA 1617 (2) := by
  unfold gA
  decide +kernel
theorem dlaw_1623 : decode code 1623 = .ok (.invokevirtual 175, 3) := by decide +kernel
theorem dlaw_1626 : decode code 1626 = .ok (.istore 6, 2) := by decide +kernel
theorem gT_1628 : gT 1628 := by
  unfold gT
  decide +kernel
theorem gI_1639 : gI 1639 (71) := by
  unfold gI
  decide +kernel
theorem dlaw_1659 : decode code 1659 = .ok (.aload_n 1, 1) := by decide +kernel
theorem dlaw_1660 : decode code 1660 = .ok (.invokevirtual 176, 3) := by decide +kernel
theorem dlaw_1663 : decode code 1663 = .ok (.aload_n 2, 1) := by decide +kernel
theorem dlaw_1664 : decode code 1664 = .ok (.invokevirtual 179, 3) := by decide +kernel
theorem dlaw_1667 : decode code 1667 = .ok (.if_icmp .eq 60, 3) := by decide +kernel
theorem dlaw_1672 : decode code 1672 = .ok (.aload_n 1, 1) := by decide +kernel
theorem gA_1673 : gA 1673 (1) := by
  unfold gA
  decide +kernel
theorem dlaw_1679 : decode code 1679 = .ok (.aload_n 3, 1) := by decide +kernel
theorem dlaw_1680 : decode code 1680 = .ok (.invokestatic 180, 3) := by decide +kernel
theorem dlaw_1683 : decode code 1683 = .ok (.istore 5, 2) := by decide +kernel
theorem dlaw_1685 : decode code 1685 = .ok (.aload_n 2, 1) := by decide +kernel
theorem gA_1686 : gA 1686 (1) := by
  unfold gA
  decide +kernel
theorem dlaw_1692 : decode code 1692 = .ok (.invokevirtual 182, 3) := by decide +kernel
theorem dlaw_1695 : decode code 1695 = .ok (.lstore 6, 2) := by decide +kernel
theorem gT_1697 : gT 1697 := by
  unfold gT
  decide +kernel
theorem gL_1708 : gL 1708 (3) := by
  unfold gL
  decide +kernel
set_option maxRecDepth 100000 in
theorem lc_wayOf {p : Program} {l : Launch} {e : Env} {s : State} {m : MethodId} {args : Array Value} {below : List Frame} {meth : Method} {c : Code} {Q : State → Prop} {D : va_G} {b0 b L9 ka kb i k nb no nc : Nat} {xs : Nat → Int32} {I : MI} {J : MJ} {P : MI} {N : MJ} {o : Int64} (hlt : l.stackTraces = false) (C : hw_C p s m args c D b0 code RL 8) (X : lwX s b0 b L9 xs) (hi : i + 6 ≤ L9) (hk : k ≤ 512) (hf : ka + 9 ≤ 601024 ∧ kb + 54 ≤ 7293034) (h : IV k nb no nc I J P N) (kk : lwK p l e s m args below meth c Q D b0 b (ka + 9) (kb + 54) i (k + 1)) : hw_V p l e room_1 s m args below meth c Q D b0 8 false ka kb 271 1523 (lL b0 b i) [] (hw_vl b0 I J P N o) := by
  refine hq_aload_n (q := 1) C dlaw_1523 rfl rfl ?_
  refine lw_arg (q0 := 0) (q4 := 4) (j := 1) C X (by decide) gA_1524 rfl rfl (by omega) ?_
  refine lw_arg (q0 := 0) (q4 := 4) (j := 2) C X (by decide) gA_1530 rfl rfl (by omega) ?_
  refine hq_aload_n (q := 3) C dlaw_1536 rfl rfl ?_
  obtain ⟨e9, nb', no', nc', I', J', o', r, P', N', hL9, hM9, hp, ho, hn⟩ := sd_wayOf (o := o) (D := D) (b0 := b0) hlt (x := xs (i + 1)) (y := xs (i + 2)) h (by omega)
  refine lw_call (rm := rL_wayOf) (As := [.ref _, .int _, .int _, .ref _]) (st := []) C hL9 ws_L_wayOf ml_L_170 rfl rfl ⟨Nat.le_of_ble_eq_true rfl, Nat.le_of_ble_eq_true rfl⟩ (Nat.le_of_ble_eq_true rfl) ⟨Nat.le_of_ble_eq_true rfl, Nat.le_of_ble_eq_true rfl⟩ hf dlaw_1537 ?_
  refine hq_istore (L' := (5, .int e9) :: lL b0 b i) C dlaw_1540 (by decide) rfl ?_
  refine hq_aload_n (q := 3) C dlaw_1542 rfl rfl ?_
  refine lw_arg (q0 := 1) (q4 := 5) (j := 1) C X (by decide) gA_1543 rfl rfl (by omega) ?_
  refine lw_arg (q0 := 1) (q4 := 5) (j := 2) C X (by decide) gA_1549 rfl rfl (by omega) ?_
  refine hq_cVr (As := [.int _, .int _]) (rm := rX6_wayOf) (f := 26) (Nc := 1) C hM9 wv_X6_wayOf ml_L_172 rfl rfl rfl Nat.one_pos rfl rfl rfl rfl ⟨Nat.le_of_ble_eq_true rfl, Nat.le_of_ble_eq_true rfl⟩ (Nat.le_of_ble_eq_true rfl) hf dlaw_1555 ?_
  refine hq_istore (L' := (6, .int r) :: (5, .int e9) :: lL b0 b i) C dlaw_1558 (by decide) rfl ?_
  refine lw_thr (q2 := 4) (q5 := 1) C gT_1560 rfl rfl hp hf ?_
  refine lw_endI (q3 := 5) (q5 := 1) (q6 := 0) C gI_1571 (by decide) rfl rfl rfl ho ?_
  refine hq_perm [2, 3, 4, 5, 6] (L' := lL b0 b i) rfl ?_
  exact kk _ _ _ _ _ _ _ _ hn
set_option maxRecDepth 100000 in
theorem lc_orderOf {p : Program} {l : Launch} {e : Env} {s : State} {m : MethodId} {args : Array Value} {below : List Frame} {meth : Method} {c : Code} {Q : State → Prop} {D : va_G} {b0 b L9 ka kb i k nb no nc : Nat} {xs : Nat → Int32} {I : MI} {J : MJ} {P : MI} {N : MJ} {o : Int64} (hlt : l.stackTraces = false) (C : hw_C p s m args c D b0 code RL 8) (X : lwX s b0 b L9 xs) (hi : i + 6 ≤ L9) (hk : k ≤ 512) (hf : ka + 9 ≤ 601024 ∧ kb + 54 ≤ 7293034) (h : IV k nb no nc I J P N) (kk : lwK p l e s m args below meth c Q D b0 b (ka + 9) (kb + 54) i (k + 1)) : hw_V p l e room_1 s m args below meth c Q D b0 8 false ka kb 271 1591 (lL b0 b i) [] (hw_vl b0 I J P N o) := by
  refine hq_aload_n (q := 1) C dlaw_1591 rfl rfl ?_
  refine lw_arg (q0 := 0) (q4 := 4) (j := 1) C X (by decide) gA_1592 rfl rfl (by omega) ?_
  refine lw_arg (q0 := 0) (q4 := 4) (j := 2) C X (by decide) gA_1598 rfl rfl (by omega) ?_
  refine hq_aload_n (q := 3) C dlaw_1604 rfl rfl ?_
  obtain ⟨e9, nb', no', nc', I', J', o', r, P', N', hL9, hM9, hp, ho, hn⟩ := sd_orderOf (o := o) (D := D) (b0 := b0) hlt (x := xs (i + 1)) (y := xs (i + 2)) h (by omega)
  refine lw_call (rm := rL_orderOf) (As := [.ref _, .int _, .int _, .ref _]) (st := []) C hL9 ws_L_orderOf ml_L_173 rfl rfl ⟨Nat.le_of_ble_eq_true rfl, Nat.le_of_ble_eq_true rfl⟩ (Nat.le_of_ble_eq_true rfl) ⟨Nat.le_of_ble_eq_true rfl, Nat.le_of_ble_eq_true rfl⟩ hf dlaw_1605 ?_
  refine hq_istore (L' := (5, .int e9) :: lL b0 b i) C dlaw_1608 (by decide) rfl ?_
  refine hq_aload_n (q := 3) C dlaw_1610 rfl rfl ?_
  refine lw_arg (q0 := 1) (q4 := 5) (j := 1) C X (by decide) gA_1611 rfl rfl (by omega) ?_
  refine lw_arg (q0 := 1) (q4 := 5) (j := 2) C X (by decide) gA_1617 rfl rfl (by omega) ?_
  refine hq_cVr (As := [.int _, .int _]) (rm := rX6_orderOf) (f := 26) (Nc := 1) C hM9 wv_X6_orderOf ml_L_175 rfl rfl rfl Nat.one_pos rfl rfl rfl rfl ⟨Nat.le_of_ble_eq_true rfl, Nat.le_of_ble_eq_true rfl⟩ (Nat.le_of_ble_eq_true rfl) hf dlaw_1623 ?_
  refine hq_istore (L' := (6, .int r) :: (5, .int e9) :: lL b0 b i) C dlaw_1626 (by decide) rfl ?_
  refine lw_thr (q2 := 4) (q5 := 1) C gT_1628 rfl rfl hp hf ?_
  refine lw_endI (q3 := 5) (q5 := 1) (q6 := 0) C gI_1639 (by decide) rfl rfl rfl ho ?_
  refine hq_perm [2, 3, 4, 5, 6] (L' := lL b0 b i) rfl ?_
  exact kk _ _ _ _ _ _ _ _ hn
set_option maxRecDepth 100000 in
theorem lc_inquiry {p : Program} {l : Launch} {e : Env} {s : State} {m : MethodId} {args : Array Value} {below : List Frame} {meth : Method} {c : Code} {Q : State → Prop} {D : va_G} {b0 b L9 ka kb i k nb no nc : Nat} {xs : Nat → Int32} {I : MI} {J : MJ} {P : MI} {N : MJ} {o : Int64} (hlt : l.stackTraces = false) (C : hw_C p s m args c D b0 code RL 8) (X : lwX s b0 b L9 xs) (hi : i + 6 ≤ L9) (hk : k ≤ 512) (hf : ka + 9 ≤ 601024 ∧ kb + 54 ≤ 7293034) (h : IV k nb no nc I J P N) (kk : lwK p l e s m args below meth c Q D b0 b (ka + 9) (kb + 54) i (k + 1)) : hw_V p l e room_1 s m args below meth c Q D b0 8 false ka kb 271 1659 (lL b0 b i) [] (hw_vl b0 I J P N o) := by
  refine hq_aload_n (q := 1) C dlaw_1659 rfl rfl ?_
  refine hq_cVr (As := []) (rm := rX5_inquiry) (f := 0) (Nc := 1) C (m_X5_inquiry h.ci.1.1.1 h.ci.1.1.2) wv_X5_inquiry ml_L_176 rfl rfl rfl Nat.one_pos rfl rfl rfl rfl ⟨Nat.le_of_ble_eq_true rfl, Nat.le_of_ble_eq_true rfl⟩ (Nat.le_of_ble_eq_true rfl) ⟨by show ka + 0 ≤ 601024; omega, by show kb + 0 ≤ 7293034; omega⟩ dlaw_1660 ?_
  refine hq_aload_n (q := 2) C dlaw_1663 rfl rfl ?_
  refine hq_cVr (As := []) (rm := rX6_inquiry) (f := 26) (Nc := 1) C (m_X6_inquiry ((h.ints 0 0 (by unfold shd; omega)).trans h.ci.1.1.1) h.ci.1.1.2) wv_X6_inquiry ml_L_179 rfl rfl rfl Nat.one_pos rfl rfl rfl rfl ⟨Nat.le_of_ble_eq_true rfl, Nat.le_of_ble_eq_true rfl⟩ (Nat.le_of_ble_eq_true rfl) ⟨by show ka + 0 ≤ 601024; omega, by show kb + 0 ≤ 7293034; omega⟩ dlaw_1664 ?_
  refine hq_widen (ka' := ka + 9) (kb' := kb + 54) (by omega) (by omega) ?_
  refine hq_icmp_eq (tgt := 1727) C dlaw_1667 (by decide) (fun _ => ?_) (fun q => absurd (inq_same h.ints h.debts h.ci.1.1.2) q)
  exact kk _ _ _ _ _ _ _ _ (h.th 0)
set_option maxRecDepth 100000 in
theorem lc_sum {p : Program} {l : Launch} {e : Env} {s : State} {m : MethodId} {args : Array Value} {below : List Frame} {meth : Method} {c : Code} {Q : State → Prop} {D : va_G} {b0 b L9 ka kb i k nb no nc : Nat} {xs : Nat → Int32} {I : MI} {J : MJ} {P : MI} {N : MJ} {o : Int64} (hlt : l.stackTraces = false) (C : hw_C p s m args c D b0 code RL 8) (X : lwX s b0 b L9 xs) (hi : i + 6 ≤ L9) (hk : k ≤ 512) (hf : ka + 9 ≤ 601024 ∧ kb + 54 ≤ 7293034) (h : IV k nb no nc I J P N) (kk : lwK p l e s m args below meth c Q D b0 b (ka + 9) (kb + 54) i (k + 1)) : hw_V p l e room_1 s m args below meth c Q D b0 8 false ka kb 271 1672 (lL b0 b i) [] (hw_vl b0 I J P N o) := by
  refine hq_aload_n (q := 1) C dlaw_1672 rfl rfl ?_
  refine lw_arg (q0 := 0) (q4 := 4) (j := 1) C X (by decide) gA_1673 rfl rfl (by omega) ?_
  refine hq_aload_n (q := 3) C dlaw_1679 rfl rfl ?_
  obtain ⟨e9, nb', no', nc', I', J', o', r, P', N', hL9, hM9, hp, ho, hn⟩ := sd_sum (o := o) (D := D) (b0 := b0) hlt (x := xs (i + 1)) h (by omega)
  refine lw_call (rm := rL_sum) (As := [.ref _, .int _, .ref _]) (st := []) C hL9 ws_L_sum ml_L_180 rfl rfl ⟨Nat.le_of_ble_eq_true rfl, Nat.le_of_ble_eq_true rfl⟩ (Nat.le_of_ble_eq_true rfl) ⟨Nat.le_of_ble_eq_true rfl, Nat.le_of_ble_eq_true rfl⟩ hf dlaw_1680 ?_
  refine hq_istore (L' := (5, .int e9) :: lL b0 b i) C dlaw_1683 (by decide) rfl ?_
  refine hq_aload_n (q := 3) C dlaw_1685 rfl rfl ?_
  refine lw_arg (q0 := 1) (q4 := 5) (j := 1) C X (by decide) gA_1686 rfl rfl (by omega) ?_
  refine hq_cVr (As := [.int _]) (rm := rX6_sum) (f := 26) (Nc := 1) C hM9 wv_X6_sum ml_L_182 rfl rfl rfl Nat.one_pos rfl rfl rfl rfl ⟨Nat.le_of_ble_eq_true rfl, Nat.le_of_ble_eq_true rfl⟩ (Nat.le_of_ble_eq_true rfl) hf dlaw_1692 ?_
  refine hq_lstore (L' := (6, .long r) :: (5, .int e9) :: lL b0 b i) C dlaw_1695 (by decide) rfl ?_
  refine lw_thr (q2 := 4) (q5 := 1) C gT_1697 rfl rfl hp hf ?_
  refine lw_endL (q3 := 5) (q5 := 1) (q6 := 0) C gL_1708 (by decide) rfl rfl rfl ho ?_
  refine hq_perm [2, 3, 4, 5, 6] (L' := lL b0 b i) rfl ?_
  exact kk _ _ _ _ _ _ _ _ hn
