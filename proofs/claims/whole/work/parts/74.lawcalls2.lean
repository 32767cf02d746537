/-! the law: calls 4 to 7 -/
theorem dlaw_401 : decode code 401 = .ok (.aload_n 1, 1) := by decide +kernel
theorem gA_402 : gA 402 (1) := by
  unfold gA
  decide +kernel
theorem dlaw_408 : decode code 408 = .ok (.aload_n 3, 1) := by decide +kernel
theorem dlaw_409 : decode code 409 = .ok (.invokestatic 116, 3) := by decide +kernel
theorem dlaw_412 : decode code 412 = .ok (.istore 5, 2) := by decide +kernel
theorem dlaw_414 : decode code 414 = .ok (.aload_n 2, 1) := by decide +kernel
theorem gA_415 : gA 415 (1) := by
  unfold gA
  decide +kernel
theorem dlaw_421 : decode code 421 = .ok (.invokevirtual 119, 3) := by decide +kernel
theorem dlaw_424 : decode code 424 = .ok (.istore 6, 2) := by decide +kernel
theorem gT_426 : gT 426 := by
  unfold gT
  decide +kernel
theorem gI_437 : gI 437 (1273) := by
  unfold gI
  decide +kernel
theorem dlaw_457 : decode code 457 = .ok (.aload_n 1, 1) := by decide +kernel
theorem gA_458 : gA 458 (1) := by
  unfold gA
  decide +kernel
theorem dlaw_464 : decode code 464 = .ok (.aload_n 3, 1) := by decide +kernel
theorem dlaw_465 : decode code 465 = .ok (.invokestatic 120, 3) := by decide +kernel
theorem dlaw_468 : decode code 468 = .ok (.istore 5, 2) := by decide +kernel
theorem dlaw_470 : decode code 470 = .ok (.aload_n 2, 1) := by decide +kernel
theorem gA_471 : gA 471 (1) := by
  unfold gA
  decide +kernel
theorem dlaw_477 : decode code 477 = .ok (.invokevirtual 122, 3) := by decide +kernel
theorem dlaw_480 : decode code 480 = .ok (.istore 6, 2) := by decide +kernel
theorem gT_482 : gT 482 := by
  unfold gT
  decide +kernel
theorem gI_493 : gI 493 (1217) := by
  unfold gI
  decide +kernel
theorem dlaw_513 : decode code 513 = .ok (.aload_n 1, 1) := by decide +kernel
theorem gA_514 : gA 514 (1) := by
  unfold gA
  decide +kernel
theorem gA_520 : gA 520 (2) := by
  unfold gA
  decide +kernel
theorem gA_526 : gA 526 (3) := by
  unfold gA
  decide +kernel
theorem gA_532 : gA 532 (4) := by
  unfold gA
  decide +kernel
theorem gA_538 : gA 538 (5) := by
  unfold gA
  decide +kernel
theorem dlaw_544 : decode code 544 = .ok (.aload_n 3, 1) := by decide +kernel
theorem dlaw_545 : decode code 545 = .ok (.invokestatic 123, 3) := by decide +kernel
theorem dlaw_548 : decode code 548 = .ok (.istore 5, 2) := by decide +kernel
theorem dlaw_550 : decode code 550 = .ok (.aload_n 2, 1) := by decide +kernel
theorem gA_551 : gA 551 (1) := by
  unfold gA
  decide +kernel
theorem gA_557 : gA 557 (2) := by
  unfold gA
  decide +kernel
theorem gA_563 : gA 563 (3) := by
  unfold gA
  decide +kernel
theorem gA_569 : gA 569 (4) := by
  unfold gA
  decide +kernel
theorem gA_575 : gA 575 (5) := by
  unfold gA
  decide +kernel
theorem dlaw_581 : decode code 581 = .ok (.invokevirtual 126, 3) := by decide +kernel
theorem dlaw_584 : decode code 584 = .ok (.istore 6, 2) := by decide +kernel
theorem gT_586 : gT 586 := by
  unfold gT
  decide +kernel
theorem gI_597 : gI 597 (1113) := by
  unfold gI
  decide +kernel
theorem dlaw_617 : decode code 617 = .ok (.aload_n 1, 1) := by decide +kernel
theorem gA_618 : gA 618 (1) := by
  unfold gA
  decide +kernel
theorem gA_624 : gA 624 (2) := by
  unfold gA
  decide +kernel
theorem dlaw_630 : decode code 630 = .ok (.aload_n 3, 1) := by decide +kernel
theorem dlaw_631 : decode code 631 = .ok (.invokestatic 127, 3) := by decide +kernel
theorem dlaw_634 : decode code 634 = .ok (.istore 5, 2) := by decide +kernel
theorem dlaw_636 : decode code 636 = .ok (.aload_n 2, 1) := by decide +kernel
theorem gA_637 : gA 637 (1) := by
  unfold gA
  decide +kernel
theorem gA_643 : gA 643 (2) := by
  unfold gA
  decide +kernel
theorem dlaw_649 : decode code 649 = .ok (.invokevirtual 129, 3) := by decide +kernel
theorem dlaw_652 : decode code 652 = .ok (.istore 6, 2) := by decide +kernel
theorem gT_654 : gT 654 := by
  unfold gT
  decide +kernel
theorem gI_665 : gI 665 (1045) := by
  unfold gI
  decide +kernel
set_option maxRecDepth 100000 in
theorem lc_breakWord {p : Program} {l : Launch} {e : Env} {s : State} {m : MethodId} {args : Array Value} {below : List Frame} {meth : Method} {c : Code} {Q : State → Prop} {D : va_G} {b0 b L9 ka kb i k nb no nc : Nat} {xs : Nat → Int32} {I : MI} {J : MJ} {P : MI} {N : MJ} {o : Int64} (hlt : l.stackTraces = false) (C : hw_C p s m args c D b0 code RL 8) (X : lwX s b0 b L9 xs) (hi : i + 6 ≤ L9) (hk : k ≤ 512) (hf : ka + 9 ≤ 601024 ∧ kb + 54 ≤ 7293034) (h : IV k nb no nc I J P N) (kk : lwK p l e s m args below meth c Q D b0 b (ka + 9) (kb + 54) i (k + 1)) : hw_V p l e room_1 s m args below meth c Q D b0 8 false ka kb 271 401 (lL b0 b i) [] (hw_vl b0 I J P N o) := by
  refine hq_aload_n (q := 1) C dlaw_401 rfl rfl ?_
  refine lw_arg (q0 := 0) (q4 := 4) (j := 1) C X (by decide) gA_402 rfl rfl (by omega) ?_
  refine hq_aload_n (q := 3) C dlaw_408 rfl rfl ?_
  obtain ⟨e9, nb', no', nc', I', J', o', r, P', N', hL9, hM9, hp, ho, hn⟩ := sd_breakWord (o := o) (D := D) (b0 := b0) hlt (x := xs (i + 1)) h (by omega)
  refine lw_call (rm := rL_breakWord) (As := [.ref _, .int _, .ref _]) (st := []) C hL9 ws_L_breakWord ml_L_116 rfl rfl ⟨Nat.le_of_ble_eq_true rfl, Nat.le_of_ble_eq_true rfl⟩ (Nat.le_of_ble_eq_true rfl) ⟨Nat.le_of_ble_eq_true rfl, Nat.le_of_ble_eq_true rfl⟩ hf dlaw_409 ?_
  refine hq_istore (L' := (5, .int e9) :: lL b0 b i) C dlaw_412 (by decide) rfl ?_
  refine hq_aload_n (q := 3) C dlaw_414 rfl rfl ?_
  refine lw_arg (q0 := 1) (q4 := 5) (j := 1) C X (by decide) gA_415 rfl rfl (by omega) ?_
  refine hq_cVr (As := [.int _]) (rm := rX6_breakWord) (f := 26) (Nc := 1) C hM9 wv_X6_breakWord ml_L_119 rfl rfl rfl Nat.one_pos rfl rfl rfl rfl ⟨Nat.le_of_ble_eq_true rfl, Nat.le_of_ble_eq_true rfl⟩ (Nat.le_of_ble_eq_true rfl) hf dlaw_421 ?_
  refine hq_istore (L' := (6, .int r) :: (5, .int e9) :: lL b0 b i) C dlaw_424 (by decide) rfl ?_
  refine lw_thr (q2 := 4) (q5 := 1) C gT_426 rfl rfl hp hf ?_
  refine lw_endI (q3 := 5) (q5 := 1) (q6 := 0) C gI_437 (by decide) rfl rfl rfl ho ?_
  refine hq_perm [2, 3, 4, 5, 6] (L' := lL b0 b i) rfl ?_
  exact kk _ _ _ _ _ _ _ _ hn
set_option maxRecDepth 100000 in
theorem lc_raid {p : Program} {l : Launch} {e : Env} {s : State} {m : MethodId} {args : Array Value} {below : List Frame} {meth : Method} {c : Code} {Q : State → Prop} {D : va_G} {b0 b L9 ka kb i k nb no nc : Nat} {xs : Nat → Int32} {I : MI} {J : MJ} {P : MI} {N : MJ} {o : Int64} (hlt : l.stackTraces = false) (C : hw_C p s m args c D b0 code RL 8) (X : lwX s b0 b L9 xs) (hi : i + 6 ≤ L9) (hk : k ≤ 512) (hf : ka + 9 ≤ 601024 ∧ kb + 54 ≤ 7293034) (h : IV k nb no nc I J P N) (kk : lwK p l e s m args below meth c Q D b0 b (ka + 9) (kb + 54) i (k + 1)) : hw_V p l e room_1 s m args below meth c Q D b0 8 false ka kb 271 457 (lL b0 b i) [] (hw_vl b0 I J P N o) := by
  refine hq_aload_n (q := 1) C dlaw_457 rfl rfl ?_
  refine lw_arg (q0 := 0) (q4 := 4) (j := 1) C X (by decide) gA_458 rfl rfl (by omega) ?_
  refine hq_aload_n (q := 3) C dlaw_464 rfl rfl ?_
  obtain ⟨e9, nb', no', nc', I', J', o', r, P', N', hL9, hM9, hp, ho, hn⟩ := sd_raid (o := o) (D := D) (b0 := b0) hlt (x := xs (i + 1)) h (by omega)
  refine lw_call (rm := rL_raid) (As := [.ref _, .int _, .ref _]) (st := []) C hL9 ws_L_raid ml_L_120 rfl rfl ⟨Nat.le_of_ble_eq_true rfl, Nat.le_of_ble_eq_true rfl⟩ (Nat.le_of_ble_eq_true rfl) ⟨Nat.le_of_ble_eq_true rfl, Nat.le_of_ble_eq_true rfl⟩ hf dlaw_465 ?_
  refine hq_istore (L' := (5, .int e9) :: lL b0 b i) C dlaw_468 (by decide) rfl ?_
  refine hq_aload_n (q := 3) C dlaw_470 rfl rfl ?_
  refine lw_arg (q0 := 1) (q4 := 5) (j := 1) C X (by decide) gA_471 rfl rfl (by omega) ?_
  refine hq_cVr (As := [.int _]) (rm := rX6_raid) (f := 26) (Nc := 1) C hM9 wv_X6_raid ml_L_122 rfl rfl rfl Nat.one_pos rfl rfl rfl rfl ⟨Nat.le_of_ble_eq_true rfl, Nat.le_of_ble_eq_true rfl⟩ (Nat.le_of_ble_eq_true rfl) hf dlaw_477 ?_
  refine hq_istore (L' := (6, .int r) :: (5, .int e9) :: lL b0 b i) C dlaw_480 (by decide) rfl ?_
  refine lw_thr (q2 := 4) (q5 := 1) C gT_482 rfl rfl hp hf ?_
  refine lw_endI (q3 := 5) (q5 := 1) (q6 := 0) C gI_493 (by decide) rfl rfl rfl ho ?_
  refine hq_perm [2, 3, 4, 5, 6] (L' := lL b0 b i) rfl ?_
  exact kk _ _ _ _ _ _ _ _ hn
set_option maxRecDepth 100000 in
theorem lc_order {p : Program} {l : Launch} {e : Env} {s : State} {m : MethodId} {args : Array Value} {below : List Frame} {meth : Method} {c : Code} {Q : State → Prop} {D : va_G} {b0 b L9 ka kb i k nb no nc : Nat} {xs : Nat → Int32} {I : MI} {J : MJ} {P : MI} {N : MJ} {o : Int64} (hlt : l.stackTraces = false) (C : hw_C p s m args c D b0 code RL 8) (X : lwX s b0 b L9 xs) (hi : i + 6 ≤ L9) (hk : k ≤ 512) (hf : ka + 9 ≤ 601024 ∧ kb + 54 ≤ 7293034) (h : IV k nb no nc I J P N) (kk : lwK p l e s m args below meth c Q D b0 b (ka + 9) (kb + 54) i (k + 1)) : hw_V p l e room_1 s m args below meth c Q D b0 8 false ka kb 271 513 (lL b0 b i) [] (hw_vl b0 I J P N o) := by
  refine hq_aload_n (q := 1) C dlaw_513 rfl rfl ?_
  refine lw_arg (q0 := 0) (q4 := 4) (j := 1) C X (by decide) gA_514 rfl rfl (by omega) ?_
  refine lw_arg (q0 := 0) (q4 := 4) (j := 2) C X (by decide) gA_520 rfl rfl (by omega) ?_
  refine lw_arg (q0 := 0) (q4 := 4) (j := 3) C X (by decide) gA_526 rfl rfl (by omega) ?_
  refine lw_arg (q0 := 0) (q4 := 4) (j := 4) C X (by decide) gA_532 rfl rfl (by omega) ?_
  refine lw_arg (q0 := 0) (q4 := 4) (j := 5) C X (by decide) gA_538 rfl rfl (by omega) ?_
  refine hq_aload_n (q := 3) C dlaw_544 rfl rfl ?_
  obtain ⟨e9, nb', no', nc', I', J', o', r, P', N', hL9, hM9, hp, ho, hn⟩ := sd_order (o := o) (D := D) (b0 := b0) hlt (x := xs (i + 1)) (y := xs (i + 2)) (z := xs (i + 3)) (w := xs (i + 4)) (v := xs (i + 5)) h (by omega)
  refine lw_call (rm := rL_order) (As := [.ref _, .int _, .int _, .int _, .int _, .int _, .ref _]) (st := []) C hL9 ws_L_order ml_L_123 rfl rfl ⟨Nat.le_of_ble_eq_true rfl, Nat.le_of_ble_eq_true rfl⟩ (Nat.le_of_ble_eq_true rfl) ⟨Nat.le_of_ble_eq_true rfl, Nat.le_of_ble_eq_true rfl⟩ hf dlaw_545 ?_
  refine hq_istore (L' := (5, .int e9) :: lL b0 b i) C dlaw_548 (by decide) rfl ?_
  refine hq_aload_n (q := 3) C dlaw_550 rfl rfl ?_
  refine lw_arg (q0 := 1) (q4 := 5) (j := 1) C X (by decide) gA_551 rfl rfl (by omega) ?_
  refine lw_arg (q0 := 1) (q4 := 5) (j := 2) C X (by decide) gA_557 rfl rfl (by omega) ?_
  refine lw_arg (q0 := 1) (q4 := 5) (j := 3) C X (by decide) gA_563 rfl rfl (by omega) ?_
  refine lw_arg (q0 := 1) (q4 := 5) (j := 4) C X (by decide) gA_569 rfl rfl (by omega) ?_
  refine lw_arg (q0 := 1) (q4 := 5) (j := 5) C X (by decide) gA_575 rfl rfl (by omega) ?_
  refine hq_cVr (As := [.int _, .int _, .int _, .int _, .int _]) (rm := rX6_order) (f := 26) (Nc := 1) C hM9 wv_X6_order ml_L_126 rfl rfl rfl Nat.one_pos rfl rfl rfl rfl ⟨Nat.le_of_ble_eq_true rfl, Nat.le_of_ble_eq_true rfl⟩ (Nat.le_of_ble_eq_true rfl) hf dlaw_581 ?_
  refine hq_istore (L' := (6, .int r) :: (5, .int e9) :: lL b0 b i) C dlaw_584 (by decide) rfl ?_
  refine lw_thr (q2 := 4) (q5 := 1) C gT_586 rfl rfl hp hf ?_
  refine lw_endI (q3 := 5) (q5 := 1) (q6 := 0) C gI_597 (by decide) rfl rfl rfl ho ?_
  refine hq_perm [2, 3, 4, 5, 6] (L' := lL b0 b i) rfl ?_
  exact kk _ _ _ _ _ _ _ _ hn
set_option maxRecDepth 100000 in
theorem lc_fetch {p : Program} {l : Launch} {e : Env} {s : State} {m : MethodId} {args : Array Value} {below : List Frame} {meth : Method} {c : Code} {Q : State → Prop} {D : va_G} {b0 b L9 ka kb i k nb no nc : Nat} {xs : Nat → Int32} {I : MI} {J : MJ} {P : MI} {N : MJ} {o : Int64} (hlt : l.stackTraces = false) (C : hw_C p s m args c D b0 code RL 8) (X : lwX s b0 b L9 xs) (hi : i + 6 ≤ L9) (hk : k ≤ 512) (hf : ka + 9 ≤ 601024 ∧ kb + 54 ≤ 7293034) (h : IV k nb no nc I J P N) (kk : lwK p l e s m args below meth c Q D b0 b (ka + 9) (kb + 54) i (k + 1)) : hw_V p l e room_1 s m args below meth c Q D b0 8 false ka kb 271 617 (lL b0 b i) [] (hw_vl b0 I J P N o) := by
  refine hq_aload_n (q := 1) C dlaw_617 rfl rfl ?_
  refine lw_arg (q0 := 0) (q4 := 4) (j := 1) C X (by decide) gA_618 rfl rfl (by omega) ?_
  refine lw_arg (q0 := 0) (q4 := 4) (j := 2) C X (by decide) gA_624 rfl rfl (by omega) ?_
  refine hq_aload_n (q := 3) C dlaw_630 rfl rfl ?_
  obtain ⟨e9, nb', no', nc', I', J', o', r, P', N', hL9, hM9, hp, ho, hn⟩ := sd_fetch (o := o) (D := D) (b0 := b0) hlt (x := xs (i + 1)) (y := xs (i + 2)) h (by omega)
  refine lw_call (rm := rL_fetch) (As := [.ref _, .int _, .int _, .ref _]) (st := []) C hL9 ws_L_fetch ml_L_127 rfl rfl ⟨Nat.le_of_ble_eq_true rfl, Nat.le_of_ble_eq_true rfl⟩ (Nat.le_of_ble_eq_true rfl) ⟨Nat.le_of_ble_eq_true rfl, Nat.le_of_ble_eq_true rfl⟩ hf dlaw_631 ?_
  refine hq_istore (L' := (5, .int e9) :: lL b0 b i) C dlaw_634 (by decide) rfl ?_
  refine hq_aload_n (q := 3) C dlaw_636 rfl rfl ?_
  refine lw_arg (q0 := 1) (q4 := 5) (j := 1) C X (by decide) gA_637 rfl rfl (by omega) ?_
  refine lw_arg (q0 := 1) (q4 := 5) (j := 2) C X (by decide) gA_643 rfl rfl (by omega) ?_
  refine hq_cVr (As := [.int _, .int _]) (rm := rX6_fetch) (f := 26) (Nc := 1) C hM9 wv_X6_fetch ml_L_129 rfl rfl rfl Nat.one_pos rfl rfl rfl rfl ⟨Nat.le_of_ble_eq_true rfl, Nat.le_of_ble_eq_true rfl⟩ (Nat.le_of_ble_eq_true rfl) hf dlaw_649 ?_
  refine hq_istore (L' := (6, .int r) :: (5, .int e9) :: lL b0 b i) C dlaw_652 (by decide) rfl ?_
  refine lw_thr (q2 := 4) (q5 := 1) C gT_654 rfl rfl hp hf ?_
  refine lw_endI (q3 := 5) (q5 := 1) (q6 := 0) C gI_665 (by decide) rfl rfl rfl ho ?_
  refine hq_perm [2, 3, 4, 5, 6] (L' := lL b0 b i) rfl ?_
  exact kk _ _ _ _ _ _ _ _ hn
