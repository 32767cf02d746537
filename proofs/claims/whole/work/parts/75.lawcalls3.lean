/-! the law: calls 8 to 11 -/
theorem dlaw_685 : decode code 685 = .ok (.aload_n 1, 1) := by decide +kernel
theorem gA_686 : gA 686 (1) := by
  unfold gA
  decide +kernel
theorem dlaw_692 : decode code 692 = .ok (.aload_n 3, 1) := by decide +kernel
theorem dlaw_693 : decode code 693 = .ok (.invokestatic 130, 3) := by decide +kernel
theorem dlaw_696 : decode code 696 = .ok (.istore 5, 2) := by decide +kernel
theorem dlaw_698 : decode code 698 = .ok (.aload_n 2, 1) := by decide +kernel
theorem gA_699 : gA 699 (1) := by
  unfold gA
  decide +kernel
theorem dlaw_705 : decode code 705 = .ok (.invokevirtual 132, 3) := by decide +kernel
theorem dlaw_708 : decode code 708 = .ok (.istore 6, 2) := by decide +kernel
theorem gT_710 : gT 710 := by
  unfold gT
  decide +kernel
theorem gI_721 : gI 721 (989) := by
  unfold gI
  decide +kernel
theorem dlaw_741 : decode code 741 = .ok (.aload_n 1, 1) := by decide +kernel
theorem gA_742 : gA 742 (1) := by
  unfold gA
  decide +kernel
theorem gA_748 : gA 748 (2) := by
  unfold gA
  decide +kernel
theorem gA_754 : gA 754 (3) := by
  unfold gA
  decide +kernel
theorem dlaw_760 : decode code 760 = .ok (.aload_n 3, 1) := by decide +kernel
theorem dlaw_761 : decode code 761 = .ok (.invokestatic 133, 3) := by decide +kernel
theorem dlaw_764 : decode code 764 = .ok (.istore 5, 2) := by decide +kernel
theorem dlaw_766 : decode code 766 = .ok (.aload_n 2, 1) := by decide +kernel
theorem gA_767 : gA 767 (1) := by
  unfold gA
  decide +kernel
theorem gA_773 : gA 773 (2) := by
  unfold gA
  decide +kernel
theorem gA_779 : gA 779 (3) := by
  unfold gA
  decide +kernel
theorem dlaw_785 : decode code 785 = .ok (.invokevirtual 135, 3) := by decide +kernel
theorem dlaw_788 : decode code 788 = .ok (.istore 6, 2) := by decide +kernel
theorem gT_790 : gT 790 := by
  unfold gT
  decide +kernel
theorem gI_801 : gI 801 (909) := by
  unfold gI
  decide +kernel
theorem dlaw_821 : decode code 821 = .ok (.aload_n 1, 1) := by decide +kernel
theorem gA_822 : gA 822 (1) := by
  unfold gA
  decide +kernel
theorem gA_828 : gA 828 (2) := by
  unfold gA
  decide +kernel
theorem gA_834 : gA 834 (3) := by
  unfold gA
  decide +kernel
theorem dlaw_840 : decode code 840 = .ok (.aload_n 3, 1) := by decide +kernel
theorem dlaw_841 : decode code 841 = .ok (.invokestatic 136, 3) := by decide +kernel
theorem dlaw_844 : decode code 844 = .ok (.istore 5, 2) := by decide +kernel
theorem dlaw_846 : decode code 846 = .ok (.aload_n 2, 1) := by decide +kernel
theorem gA_847 : gA 847 (1) := by
  unfold gA
  decide +kernel
theorem gA_853 : gA 853 (2) := by
  unfold gA
  decide +kernel
theorem gA_859 : gA 859 (3) := by
  unfold gA
  decide +kernel
theorem dlaw_865 : decode code 865 = .ok (.invokevirtual 138, 3) := by decide +kernel
theorem dlaw_868 : decode code 868 = .ok (.istore 6, 2) := by decide +kernel
theorem gT_870 : gT 870 := by
  unfold gT
  decide +kernel
theorem gI_881 : gI 881 (829) := by
  unfold gI
  decide +kernel
theorem dlaw_901 : decode code 901 = .ok (.aload_n 1, 1) := by decide +kernel
theorem gA_902 : gA 902 (1) := by
  unfold gA
  decide +kernel
theorem gA_908 : gA 908 (2) := by
  unfold gA
  decide +kernel
theorem gA_914 : gA 914 (3) := by
  unfold gA
  decide +kernel
theorem gA_920 : gA 920 (4) := by
  unfold gA
  decide +kernel
theorem dlaw_926 : decode code 926 = .ok (.aload_n 3, 1) := by decide +kernel
theorem dlaw_927 : decode code 927 = .ok (.invokestatic 139, 3) := by decide +kernel
theorem dlaw_930 : decode code 930 = .ok (.istore 5, 2) := by decide +kernel
theorem dlaw_932 : decode code 932 = .ok (.aload_n 2, 1) := by decide +kernel
theorem gA_933 : gA 933 (1) := by
  unfold gA
  decide +kernel
theorem gA_939 : gA 939 (2) := by
  unfold gA
  decide +kernel
theorem gA_945 : gA 945 (3) := by
  unfold gA
  decide +kernel
theorem gA_951 : gA 951 (4) := by
  unfold gA
  decide +kernel
theorem dlaw_957 : decode code 957 = .ok (.invokevirtual 142, 3) := by decide +kernel
theorem dlaw_960 : decode code 960 = .ok (.istore 6, 2) := by decide +kernel
theorem gT_962 : gT 962 := by
  unfold gT
  decide +kernel
theorem gI_973 : gI 973 (737) := by
  unfold gI
  decide +kernel
set_option maxRecDepth 100000 in
theorem lc_pass {p : Program} {l : Launch} {e : Env} {s : State} {m : MethodId} {args : Array Value} {below : List Frame} {meth : Method} {c : Code} {Q : State → Prop} {D : va_G} {b0 b L9 ka kb i k nb no nc : Nat} {xs : Nat → Int32} {I : MI} {J : MJ} {P : MI} {N : MJ} {o : Int64} (hlt : l.stackTraces = false) (C : hw_C p s m args c D b0 code RL 8) (X : lwX s b0 b L9 xs) (hi : i + 6 ≤ L9) (hk : k ≤ 512) (hf : ka + 9 ≤ 601024 ∧ kb + 54 ≤ 7293034) (h : IV k nb no nc I J P N) (kk : lwK p l e s m args below meth c Q D b0 b (ka + 9) (kb + 54) i (k + 1)) : hw_V p l e room_1 s m args below meth c Q D b0 8 false ka kb 271 685 (lL b0 b i) [] (hw_vl b0 I J P N o) := by
  refine hq_aload_n (q := 1) C dlaw_685 rfl rfl ?_
  refine lw_arg (q0 := 0) (q4 := 4) (j := 1) C X (by decide) gA_686 rfl rfl (by omega) ?_
  refine hq_aload_n (q := 3) C dlaw_692 rfl rfl ?_
  obtain ⟨e9, nb', no', nc', I', J', o', r, P', N', hL9, hM9, hp, ho, hn⟩ := sd_pass (o := o) (D := D) (b0 := b0) hlt (x := xs (i + 1)) h (by omega)
  refine lw_call (rm := rL_pass) (As := [.ref _, .int _, .ref _]) (st := []) C hL9 ws_L_pass ml_L_130 rfl rfl ⟨Nat.le_of_ble_eq_true rfl, Nat.le_of_ble_eq_true rfl⟩ (Nat.le_of_ble_eq_true rfl) ⟨Nat.le_of_ble_eq_true rfl, Nat.le_of_ble_eq_true rfl⟩ hf dlaw_693 ?_
  refine hq_istore (L' := (5, .int e9) :: lL b0 b i) C dlaw_696 (by decide) rfl ?_
  refine hq_aload_n (q := 3) C dlaw_698 rfl rfl ?_
  refine lw_arg (q0 := 1) (q4 := 5) (j := 1) C X (by decide) gA_699 rfl rfl (by omega) ?_
  refine hq_cVr (As := [.int _]) (rm := rX6_pass) (f := 26) (Nc := 1) C hM9 wv_X6_pass ml_L_132 rfl rfl rfl Nat.one_pos rfl rfl rfl rfl ⟨Nat.le_of_ble_eq_true rfl, Nat.le_of_ble_eq_true rfl⟩ (Nat.le_of_ble_eq_true rfl) hf dlaw_705 ?_
  refine hq_istore (L' := (6, .int r) :: (5, .int e9) :: lL b0 b i) C dlaw_708 (by decide) rfl ?_
  refine lw_thr (q2 := 4) (q5 := 1) C gT_710 rfl rfl hp hf ?_
  refine lw_endI (q3 := 5) (q5 := 1) (q6 := 0) C gI_721 (by decide) rfl rfl rfl ho ?_
  refine hq_perm [2, 3, 4, 5, 6] (L' := lL b0 b i) rfl ?_
  exact kk _ _ _ _ _ _ _ _ hn
set_option maxRecDepth 100000 in
theorem lc_pay {p : Program} {l : Launch} {e : Env} {s : State} {m : MethodId} {args : Array Value} {below : List Frame} {meth : Method} {c : Code} {Q : State → Prop} {D : va_G} {b0 b L9 ka kb i k nb no nc : Nat} {xs : Nat → Int32} {I : MI} {J : MJ} {P : MI} {N : MJ} {o : Int64} (hlt : l.stackTraces = false) (C : hw_C p s m args c D b0 code RL 8) (X : lwX s b0 b L9 xs) (hi : i + 6 ≤ L9) (hk : k ≤ 512) (hf : ka + 9 ≤ 601024 ∧ kb + 54 ≤ 7293034) (h : IV k nb no nc I J P N) (kk : lwK p l e s m args below meth c Q D b0 b (ka + 9) (kb + 54) i (k + 1)) : hw_V p l e room_1 s m args below meth c Q D b0 8 false ka kb 271 741 (lL b0 b i) [] (hw_vl b0 I J P N o) := by
  refine hq_aload_n (q := 1) C dlaw_741 rfl rfl ?_
  refine lw_arg (q0 := 0) (q4 := 4) (j := 1) C X (by decide) gA_742 rfl rfl (by omega) ?_
  refine lw_arg (q0 := 0) (q4 := 4) (j := 2) C X (by decide) gA_748 rfl rfl (by omega) ?_
  refine lw_arg (q0 := 0) (q4 := 4) (j := 3) C X (by decide) gA_754 rfl rfl (by omega) ?_
  refine hq_aload_n (q := 3) C dlaw_760 rfl rfl ?_
  obtain ⟨e9, nb', no', nc', I', J', o', r, P', N', hL9, hM9, hp, ho, hn⟩ := sd_pay (o := o) (D := D) (b0 := b0) hlt (x := xs (i + 1)) (y := xs (i + 2)) (z := xs (i + 3)) h (by omega)
  refine lw_call (rm := rL_pay) (As := [.ref _, .int _, .int _, .int _, .ref _]) (st := []) C hL9 ws_L_pay ml_L_133 rfl rfl ⟨Nat.le_of_ble_eq_true rfl, Nat.le_of_ble_eq_true rfl⟩ (Nat.le_of_ble_eq_true rfl) ⟨Nat.le_of_ble_eq_true rfl, Nat.le_of_ble_eq_true rfl⟩ hf dlaw_761 ?_
  refine hq_istore (L' := (5, .int e9) :: lL b0 b i) C dlaw_764 (by decide) rfl ?_
  refine hq_aload_n (q := 3) C dlaw_766 rfl rfl ?_
  refine lw_arg (q0 := 1) (q4 := 5) (j := 1) C X (by decide) gA_767 rfl rfl (by omega) ?_
  refine lw_arg (q0 := 1) (q4 := 5) (j := 2) C X (by decide) gA_773 rfl rfl (by omega) ?_
  refine lw_arg (q0 := 1) (q4 := 5) (j := 3) C X (by decide) gA_779 rfl rfl (by omega) ?_
  refine hq_cVr (As := [.int _, .int _, .int _]) (rm := rX6_pay) (f := 26) (Nc := 1) C hM9 wv_X6_pay ml_L_135 rfl rfl rfl Nat.one_pos rfl rfl rfl rfl ⟨Nat.le_of_ble_eq_true rfl, Nat.le_of_ble_eq_true rfl⟩ (Nat.le_of_ble_eq_true rfl) hf dlaw_785 ?_
  refine hq_istore (L' := (6, .int r) :: (5, .int e9) :: lL b0 b i) C dlaw_788 (by decide) rfl ?_
  refine lw_thr (q2 := 4) (q5 := 1) C gT_790 rfl rfl hp hf ?_
  refine lw_endI (q3 := 5) (q5 := 1) (q6 := 0) C gI_801 (by decide) rfl rfl rfl ho ?_
  refine hq_perm [2, 3, 4, 5, 6] (L' := lL b0 b i) rfl ?_
  exact kk _ _ _ _ _ _ _ _ hn
set_option maxRecDepth 100000 in
theorem lc_deliver {p : Program} {l : Launch} {e : Env} {s : State} {m : MethodId} {args : Array Value} {below : List Frame} {meth : Method} {c : Code} {Q : State → Prop} {D : va_G} {b0 b L9 ka kb i k nb no nc : Nat} {xs : Nat → Int32} {I : MI} {J : MJ} {P : MI} {N : MJ} {o : Int64} (hlt : l.stackTraces = false) (C : hw_C p s m args c D b0 code RL 8) (X : lwX s b0 b L9 xs) (hi : i + 6 ≤ L9) (hk : k ≤ 512) (hf : ka + 9 ≤ 601024 ∧ kb + 54 ≤ 7293034) (h : IV k nb no nc I J P N) (kk : lwK p l e s m args below meth c Q D b0 b (ka + 9) (kb + 54) i (k + 1)) : hw_V p l e room_1 s m args below meth c Q D b0 8 false ka kb 271 821 (lL b0 b i) [] (hw_vl b0 I J P N o) := by
  refine hq_aload_n (q := 1) C dlaw_821 rfl rfl ?_
  refine lw_arg (q0 := 0) (q4 := 4) (j := 1) C X (by decide) gA_822 rfl rfl (by omega) ?_
  refine lw_arg (q0 := 0) (q4 := 4) (j := 2) C X (by decide) gA_828 rfl rfl (by omega) ?_
  refine lw_arg (q0 := 0) (q4 := 4) (j := 3) C X (by decide) gA_834 rfl rfl (by omega) ?_
  refine hq_aload_n (q := 3) C dlaw_840 rfl rfl ?_
  obtain ⟨e9, nb', no', nc', I', J', o', r, P', N', hL9, hM9, hp, ho, hn⟩ := sd_deliver (o := o) (D := D) (b0 := b0) hlt (x := xs (i + 1)) (y := xs (i + 2)) (z := xs (i + 3)) h (by omega)
  refine lw_call (rm := rL_deliver) (As := [.ref _, .int _, .int _, .int _, .ref _]) (st := []) C hL9 ws_L_deliver ml_L_136 rfl rfl ⟨Nat.le_of_ble_eq_true rfl, Nat.le_of_ble_eq_true rfl⟩ (Nat.le_of_ble_eq_true rfl) ⟨Nat.le_of_ble_eq_true rfl, Nat.le_of_ble_eq_true rfl⟩ hf dlaw_841 ?_
  refine hq_istore (L' := (5, .int e9) :: lL b0 b i) C dlaw_844 (by decide) rfl ?_
  refine hq_aload_n (q := 3) C dlaw_846 rfl rfl ?_
  refine lw_arg (q0 := 1) (q4 := 5) (j := 1) C X (by decide) gA_847 rfl rfl (by omega) ?_
  refine lw_arg (q0 := 1) (q4 := 5) (j := 2) C X (by decide) gA_853 rfl rfl (by omega) ?_
  refine lw_arg (q0 := 1) (q4 := 5) (j := 3) C X (by decide) gA_859 rfl rfl (by omega) ?_
  refine hq_cVr (As := [.int _, .int _, .int _]) (rm := rX6_deliver) (f := 26) (Nc := 1) C hM9 wv_X6_deliver ml_L_138 rfl rfl rfl Nat.one_pos rfl rfl rfl rfl ⟨Nat.le_of_ble_eq_true rfl, Nat.le_of_ble_eq_true rfl⟩ (Nat.le_of_ble_eq_true rfl) hf dlaw_865 ?_
  refine hq_istore (L' := (6, .int r) :: (5, .int e9) :: lL b0 b i) C dlaw_868 (by decide) rfl ?_
  refine lw_thr (q2 := 4) (q5 := 1) C gT_870 rfl rfl hp hf ?_
  refine lw_endI (q3 := 5) (q5 := 1) (q6 := 0) C gI_881 (by decide) rfl rfl rfl ho ?_
  refine hq_perm [2, 3, 4, 5, 6] (L' := lL b0 b i) rfl ?_
  exact kk _ _ _ _ _ _ _ _ hn
set_option maxRecDepth 100000 in
theorem lc_courier {p : Program} {l : Launch} {e : Env} {s : State} {m : MethodId} {args : Array Value} {below : List Frame} {meth : Method} {c : Code} {Q : State → Prop} {D : va_G} {b0 b L9 ka kb i k nb no nc : Nat} {xs : Nat → Int32} {I : MI} {J : MJ} {P : MI} {N : MJ} {o : Int64} (hlt : l.stackTraces = false) (C : hw_C p s m args c D b0 code RL 8) (X : lwX s b0 b L9 xs) (hi : i + 6 ≤ L9) (hk : k ≤ 512) (hf : ka + 9 ≤ 601024 ∧ kb + 54 ≤ 7293034) (h : IV k nb no nc I J P N) (kk : lwK p l e s m args below meth c Q D b0 b (ka + 9) (kb + 54) i (k + 1)) : hw_V p l e room_1 s m args below meth c Q D b0 8 false ka kb 271 901 (lL b0 b i) [] (hw_vl b0 I J P N o) := by
  refine hq_aload_n (q := 1) C dlaw_901 rfl rfl ?_
  refine lw_arg (q0 := 0) (q4 := 4) (j := 1) C X (by decide) gA_902 rfl rfl (by omega) ?_
  refine lw_arg (q0 := 0) (q4 := 4) (j := 2) C X (by decide) gA_908 rfl rfl (by omega) ?_
  refine lw_arg (q0 := 0) (q4 := 4) (j := 3) C X (by decide) gA_914 rfl rfl (by omega) ?_
  refine lw_arg (q0 := 0) (q4 := 4) (j := 4) C X (by decide) gA_920 rfl rfl (by omega) ?_
  refine hq_aload_n (q := 3) C dlaw_926 rfl rfl ?_
  obtain ⟨e9, nb', no', nc', I', J', o', r, P', N', hL9, hM9, hp, ho, hn⟩ := sd_courier (o := o) (D := D) (b0 := b0) hlt (x := xs (i + 1)) (y := xs (i + 2)) (z := xs (i + 3)) (w := xs (i + 4)) h (by omega)
  refine lw_call (rm := rL_courier) (As := [.ref _, .int _, .int _, .int _, .int _, .ref _]) (st := []) C hL9 ws_L_courier ml_L_139 rfl rfl ⟨Nat.le_of_ble_eq_true rfl, Nat.le_of_ble_eq_true rfl⟩ (Nat.le_of_ble_eq_true rfl) ⟨Nat.le_of_ble_eq_true rfl, Nat.le_of_ble_eq_true rfl⟩ hf dlaw_927 ?_
  refine hq_istore (L' := (5, .int e9) :: lL b0 b i) C dlaw_930 (by decide) rfl ?_
  refine hq_aload_n (q := 3) C dlaw_932 rfl rfl ?_
  refine lw_arg (q0 := 1) (q4 := 5) (j := 1) C X (by decide) gA_933 rfl rfl (by omega) ?_
  refine lw_arg (q0 := 1) (q4 := 5) (j := 2) C X (by decide) gA_939 rfl rfl (by omega) ?_
  refine lw_arg (q0 := 1) (q4 := 5) (j := 3) C X (by decide) gA_945 rfl rfl (by omega) ?_
  refine lw_arg (q0 := 1) (q4 := 5) (j := 4) C X (by decide) gA_951 rfl rfl (by omega) ?_
  refine hq_cVr (As := [.int _, .int _, .int _, .int _]) (rm := rX6_courier) (f := 26) (Nc := 1) C hM9 wv_X6_courier ml_L_142 rfl rfl rfl Nat.one_pos rfl rfl rfl rfl ⟨Nat.le_of_ble_eq_true rfl, Nat.le_of_ble_eq_true rfl⟩ (Nat.le_of_ble_eq_true rfl) hf dlaw_957 ?_
  refine hq_istore (L' := (6, .int r) :: (5, .int e9) :: lL b0 b i) C dlaw_960 (by decide) rfl ?_
  refine lw_thr (q2 := 4) (q5 := 1) C gT_962 rfl rfl hp hf ?_
  refine lw_endI (q3 := 5) (q5 := 1) (q6 := 0) C gI_973 (by decide) rfl rfl rfl ho ?_
  refine hq_perm [2, 3, 4, 5, 6] (L' := lL b0 b i) rfl ?_
  exact kk _ _ _ _ _ _ _ _ hn
