/-! the law: calls 12 to 15 -/
theorem dlaw_993 : decode code 993 = .ok (.aload_n 1, 1) := by decide +kernel
theorem gA_994 : gA 994 (1) := by
  unfold gA
  decide +kernel
theorem dlaw_1000 : decode code 1000 = .ok (.aload_n 3, 1) := by decide +kernel
theorem dlaw_1001 : decode code 1001 = .ok (.invokestatic 143, 3) := by decide +kernel
theorem dlaw_1004 : decode code 1004 = .ok (.istore 5, 2) := by decide +kernel
theorem dlaw_1006 : decode code 1006 = .ok (.aload_n 2, 1) := by decide +kernel
theorem gA_1007 : gA 1007 (1) := by
  unfold gA
  decide +kernel
theorem dlaw_1013 : decode code 1013 = .ok (.invokevirtual 145, 3) := by decide +kernel
theorem dlaw_1016 : decode code 1016 = .ok (.istore 6, 2) := by decide +kernel
theorem gT_1018 : gT 1018 := by
  unfold gT
  decide +kernel
theorem gI_1029 : gI 1029 (681) := by
  unfold gI
  decide +kernel
theorem dlaw_1049 : decode code 1049 = .ok (.aload_n 1, 1) := by decide +kernel
theorem dlaw_1050 : decode code 1050 = .ok (.invokevirtual 146, 3) := by decide +kernel
theorem dlaw_1053 : decode code 1053 = .ok (.aload_n 2, 1) := by decide +kernel
theorem dlaw_1054 : decode code 1054 = .ok (.invokevirtual 150, 3) := by decide +kernel
theorem dlaw_1057 : decode code 1057 = .ok (.lcmp, 1) := by decide +kernel
theorem dlaw_1058 : decode code 1058 = .ok (.ifCond .eq 669, 3) := by decide +kernel
theorem dlaw_1063 : decode code 1063 = .ok (.aload_n 1, 1) := by decide +kernel
theorem gA_1064 : gA 1064 (1) := by
  unfold gA
  decide +kernel
theorem gA_1070 : gA 1070 (2) := by
  unfold gA
  decide +kernel
theorem dlaw_1076 : decode code 1076 = .ok (.aload_n 3, 1) := by decide +kernel
theorem dlaw_1077 : decode code 1077 = .ok (.invokestatic 151, 3) := by decide +kernel
theorem dlaw_1080 : decode code 1080 = .ok (.istore 5, 2) := by decide +kernel
theorem dlaw_1082 : decode code 1082 = .ok (.aload_n 2, 1) := by decide +kernel
theorem gA_1083 : gA 1083 (1) := by
  unfold gA
  decide +kernel
theorem gA_1089 : gA 1089 (2) := by
  unfold gA
  decide +kernel
theorem dlaw_1095 : decode code 1095 = .ok (.invokevirtual 153, 3) := by decide +kernel
theorem dlaw_1098 : decode code 1098 = .ok (.istore 6, 2) := by decide +kernel
theorem gT_1100 : gT 1100 := by
  unfold gT
  decide +kernel
theorem gI_1111 : gI 1111 (599) := by
  unfold gI
  decide +kernel
theorem dlaw_1131 : decode code 1131 = .ok (.aload_n 1, 1) := by decide +kernel
theorem gA_1132 : gA 1132 (1) := by
  unfold gA
  decide +kernel
theorem dlaw_1138 : decode code 1138 = .ok (.aload_n 3, 1) := by decide +kernel
theorem dlaw_1139 : decode code 1139 = .ok (.invokestatic 154, 3) := by decide +kernel
theorem dlaw_1142 : decode code 1142 = .ok (.istore 5, 2) := by decide +kernel
theorem dlaw_1144 : decode code 1144 = .ok (.aload_n 2, 1) := by decide +kernel
theorem gA_1145 : gA 1145 (1) := by
  unfold gA
  decide +kernel
theorem dlaw_1151 : decode code 1151 = .ok (.invokevirtual 156, 3) := by decide +kernel
theorem dlaw_1154 : decode code 1154 = .ok (.istore 6, 2) := by decide +kernel
theorem gT_1156 : gT 1156 := by
  unfold gT
  decide +kernel
theorem gZ_1167 : gZ 1167 (536) := by
  unfold gZ
  decide +kernel
set_option maxRecDepth 100000 in
theorem lc_rob {p : Program} {l : Launch} {e : Env} {s : State} {m : MethodId} {args : Array Value} {below : List Frame} {meth : Method} {c : Code} {Q : State → Prop} {D : va_G} {b0 b L9 ka kb i k nb no nc : Nat} {xs : Nat → Int32} {I : MI} {J : MJ} {P : MI} {N : MJ} {o : Int64} (hlt : l.stackTraces = false) (C : hw_C p s m args c D b0 code RL 8) (X : lwX s b0 b L9 xs) (hi : i + 6 ≤ L9) (hk : k ≤ 512) (hf : ka + 9 ≤ 601024 ∧ kb + 54 ≤ 7293034) (h : IV k nb no nc I J P N) (kk : lwK p l e s m args below meth c Q D b0 b (ka + 9) (kb + 54) i (k + 1)) : hw_V p l e room_1 s m args below meth c Q D b0 8 false ka kb 271 993 (lL b0 b i) [] (hw_vl b0 I J P N o) := by
  refine hq_aload_n (q := 1) C dlaw_993 rfl rfl ?_
  refine lw_arg (q0 := 0) (q4 := 4) (j := 1) C X (by decide) gA_994 rfl rfl (by omega) ?_
  refine hq_aload_n (q := 3) C dlaw_1000 rfl rfl ?_
  obtain ⟨e9, nb', no', nc', I', J', o', r, P', N', hL9, hM9, hp, ho, hn⟩ := sd_rob (o := o) (D := D) (b0 := b0) hlt (x := xs (i + 1)) h (by omega)
  refine lw_call (rm := rL_rob) (As := [.ref _, .int _, .ref _]) (st := []) C hL9 ws_L_rob ml_L_143 rfl rfl ⟨Nat.le_of_ble_eq_true rfl, Nat.le_of_ble_eq_true rfl⟩ (Nat.le_of_ble_eq_true rfl) ⟨Nat.le_of_ble_eq_true rfl, Nat.le_of_ble_eq_true rfl⟩ hf dlaw_1001 ?_
  refine hq_istore (L' := (5, .int e9) :: lL b0 b i) C dlaw_1004 (by decide) rfl ?_
  refine hq_aload_n (q := 3) C dlaw_1006 rfl rfl ?_
  refine lw_arg (q0 := 1) (q4 := 5) (j := 1) C X (by decide) gA_1007 rfl rfl (by omega) ?_
  refine hq_cVr (As := [.int _]) (rm := rX6_rob) (f := 26) (Nc := 1) C hM9 wv_X6_rob ml_L_145 rfl rfl rfl Nat.one_pos rfl rfl rfl rfl ⟨Nat.le_of_ble_eq_true rfl, Nat.le_of_ble_eq_true rfl⟩ (Nat.le_of_ble_eq_true rfl) hf dlaw_1013 ?_
  refine hq_istore (L' := (6, .int r) :: (5, .int e9) :: lL b0 b i) C dlaw_1016 (by decide) rfl ?_
  refine lw_thr (q2 := 4) (q5 := 1) C gT_1018 rfl rfl hp hf ?_
  refine lw_endI (q3 := 5) (q5 := 1) (q6 := 0) C gI_1029 (by decide) rfl rfl rfl ho ?_
  refine hq_perm [2, 3, 4, 5, 6] (L' := lL b0 b i) rfl ?_
  exact kk _ _ _ _ _ _ _ _ hn
set_option maxRecDepth 100000 in
theorem lc_ring {p : Program} {l : Launch} {e : Env} {s : State} {m : MethodId} {args : Array Value} {below : List Frame} {meth : Method} {c : Code} {Q : State → Prop} {D : va_G} {b0 b L9 ka kb i k nb no nc : Nat} {xs : Nat → Int32} {I : MI} {J : MJ} {P : MI} {N : MJ} {o : Int64} (hlt : l.stackTraces = false) (C : hw_C p s m args c D b0 code RL 8) (X : lwX s b0 b L9 xs) (hi : i + 6 ≤ L9) (hk : k ≤ 512) (hf : ka + 9 ≤ 601024 ∧ kb + 54 ≤ 7293034) (h : IV k nb no nc I J P N) (kk : lwK p l e s m args below meth c Q D b0 b (ka + 9) (kb + 54) i (k + 1)) : hw_V p l e room_1 s m args below meth c Q D b0 8 false ka kb 271 1049 (lL b0 b i) [] (hw_vl b0 I J P N o) := by
  refine hq_aload_n (q := 1) C dlaw_1049 rfl rfl ?_
  refine hq_cVr (As := []) (rm := rX5_ring) (f := 0) (Nc := 1) C (m_X5_ring h.ci.1.1.1 h.ci.1.1.2) wv_X5_ring ml_L_146 rfl rfl rfl Nat.one_pos rfl rfl rfl rfl ⟨Nat.le_of_ble_eq_true rfl, Nat.le_of_ble_eq_true rfl⟩ (Nat.le_of_ble_eq_true rfl) ⟨by show ka + 0 ≤ 601024; omega, by show kb + 0 ≤ 7293034; omega⟩ dlaw_1050 ?_
  refine hq_aload_n (q := 2) C dlaw_1053 rfl rfl ?_
  refine hq_cVr (As := []) (rm := rX6_ring) (f := 26) (Nc := 1) C (m_X6_ring ((h.ints 0 0 (by unfold shd; omega)).trans h.ci.1.1.1) h.ci.1.1.2) wv_X6_ring ml_L_150 rfl rfl rfl Nat.one_pos rfl rfl rfl rfl ⟨Nat.le_of_ble_eq_true rfl, Nat.le_of_ble_eq_true rfl⟩ (Nat.le_of_ble_eq_true rfl) ⟨by show ka + 0 ≤ 601024; omega, by show kb + 0 ≤ 7293034; omega⟩ dlaw_1054 ?_
  refine hq_widen (ka' := ka + 9) (kb' := kb + 54) (by omega) (by omega) ?_
  refine hq_lcmp C dlaw_1057 ?_
  refine hq_if_eq (tgt := 1727) C dlaw_1058 (by decide) (fun _ => ?_) (fun q => absurd ((lg_cmp_eq _ _).mpr (v_ring h (by omega)).1) q)
  exact kk _ _ _ _ _ _ _ _ (v_ring h (by omega)).2
set_option maxRecDepth 100000 in
theorem lc_law {p : Program} {l : Launch} {e : Env} {s : State} {m : MethodId} {args : Array Value} {below : List Frame} {meth : Method} {c : Code} {Q : State → Prop} {D : va_G} {b0 b L9 ka kb i k nb no nc : Nat} {xs : Nat → Int32} {I : MI} {J : MJ} {P : MI} {N : MJ} {o : Int64} (hlt : l.stackTraces = false) (C : hw_C p s m args c D b0 code RL 8) (X : lwX s b0 b L9 xs) (hi : i + 6 ≤ L9) (hk : k ≤ 512) (hf : ka + 9 ≤ 601024 ∧ kb + 54 ≤ 7293034) (h : IV k nb no nc I J P N) (kk : lwK p l e s m args below meth c Q D b0 b (ka + 9) (kb + 54) i (k + 1)) : hw_V p l e room_1 s m args below meth c Q D b0 8 false ka kb 271 1063 (lL b0 b i) [] (hw_vl b0 I J P N o) := by
  refine hq_aload_n (q := 1) C dlaw_1063 rfl rfl ?_
  refine lw_arg (q0 := 0) (q4 := 4) (j := 1) C X (by decide) gA_1064 rfl rfl (by omega) ?_
  refine lw_arg (q0 := 0) (q4 := 4) (j := 2) C X (by decide) gA_1070 rfl rfl (by omega) ?_
  refine hq_aload_n (q := 3) C dlaw_1076 rfl rfl ?_
  obtain ⟨e9, nb', no', nc', I', J', o', r, P', N', hL9, hM9, hp, ho, hn⟩ := sd_law (o := o) (D := D) (b0 := b0) hlt (x := xs (i + 1)) (y := xs (i + 2)) h (by omega)
  refine lw_call (rm := rL_law) (As := [.ref _, .int _, .int _, .ref _]) (st := []) C hL9 ws_L_law ml_L_151 rfl rfl ⟨Nat.le_of_ble_eq_true rfl, Nat.le_of_ble_eq_true rfl⟩ (Nat.le_of_ble_eq_true rfl) ⟨Nat.le_of_ble_eq_true rfl, Nat.le_of_ble_eq_true rfl⟩ hf dlaw_1077 ?_
  refine hq_istore (L' := (5, .int e9) :: lL b0 b i) C dlaw_1080 (by decide) rfl ?_
  refine hq_aload_n (q := 3) C dlaw_1082 rfl rfl ?_
  refine lw_arg (q0 := 1) (q4 := 5) (j := 1) C X (by decide) gA_1083 rfl rfl (by omega) ?_
  refine lw_arg (q0 := 1) (q4 := 5) (j := 2) C X (by decide) gA_1089 rfl rfl (by omega) ?_
  refine hq_cVr (As := [.int _, .int _]) (rm := rX6_law) (f := 26) (Nc := 1) C hM9 wv_X6_law ml_L_153 rfl rfl rfl Nat.one_pos rfl rfl rfl rfl ⟨Nat.le_of_ble_eq_true rfl, Nat.le_of_ble_eq_true rfl⟩ (Nat.le_of_ble_eq_true rfl) hf dlaw_1095 ?_
  refine hq_istore (L' := (6, .int r) :: (5, .int e9) :: lL b0 b i) C dlaw_1098 (by decide) rfl ?_
  refine lw_thr (q2 := 4) (q5 := 1) C gT_1100 rfl rfl hp hf ?_
  refine lw_endI (q3 := 5) (q5 := 1) (q6 := 0) C gI_1111 (by decide) rfl rfl rfl ho ?_
  refine hq_perm [2, 3, 4, 5, 6] (L' := lL b0 b i) rfl ?_
  exact kk _ _ _ _ _ _ _ _ hn
set_option maxRecDepth 100000 in
theorem lc_list {p : Program} {l : Launch} {e : Env} {s : State} {m : MethodId} {args : Array Value} {below : List Frame} {meth : Method} {c : Code} {Q : State → Prop} {D : va_G} {b0 b L9 ka kb i k nb no nc : Nat} {xs : Nat → Int32} {I : MI} {J : MJ} {P : MI} {N : MJ} {o : Int64} (hlt : l.stackTraces = false) (C : hw_C p s m args c D b0 code RL 8) (X : lwX s b0 b L9 xs) (hi : i + 6 ≤ L9) (hk : k ≤ 512) (hf : ka + 9 ≤ 601024 ∧ kb + 54 ≤ 7293034) (h : IV k nb no nc I J P N) (kk : lwK p l e s m args below meth c Q D b0 b (ka + 9) (kb + 54) i (k + 1)) : hw_V p l e room_1 s m args below meth c Q D b0 8 false ka kb 271 1131 (lL b0 b i) [] (hw_vl b0 I J P N o) := by
  refine hq_aload_n (q := 1) C dlaw_1131 rfl rfl ?_
  refine lw_arg (q0 := 0) (q4 := 4) (j := 1) C X (by decide) gA_1132 rfl rfl (by omega) ?_
  refine hq_aload_n (q := 3) C dlaw_1138 rfl rfl ?_
  obtain ⟨e9, nb', no', nc', I', J', o', r, P', N', hL9, hM9, hp, ho, hn⟩ := sd_list (o := o) (D := D) (b0 := b0) hlt (x := xs (i + 1)) h (by omega)
  refine lw_call (rm := rL_list) (As := [.ref _, .int _, .ref _]) (st := []) C hL9 ws_L_list ml_L_154 rfl rfl ⟨Nat.le_of_ble_eq_true rfl, Nat.le_of_ble_eq_true rfl⟩ (Nat.le_of_ble_eq_true rfl) ⟨Nat.le_of_ble_eq_true rfl, Nat.le_of_ble_eq_true rfl⟩ hf dlaw_1139 ?_
  refine hq_istore (L' := (5, .int e9) :: lL b0 b i) C dlaw_1142 (by decide) rfl ?_
  refine hq_aload_n (q := 3) C dlaw_1144 rfl rfl ?_
  refine lw_arg (q0 := 1) (q4 := 5) (j := 1) C X (by decide) gA_1145 rfl rfl (by omega) ?_
  refine hq_cVr (As := [.int _]) (rm := rX6_list) (f := 26) (Nc := 1) C hM9 wv_X6_list ml_L_156 rfl rfl rfl Nat.one_pos rfl rfl rfl rfl ⟨Nat.le_of_ble_eq_true rfl, Nat.le_of_ble_eq_true rfl⟩ (Nat.le_of_ble_eq_true rfl) hf dlaw_1151 ?_
  refine hq_istore (L' := (6, .int r) :: (5, .int e9) :: lL b0 b i) C dlaw_1154 (by decide) rfl ?_
  refine lw_thr (q2 := 4) (q5 := 1) C gT_1156 rfl rfl hp hf ?_
  refine lw_endZ (q3 := 5) (q5 := 1) (q6 := 0) C gZ_1167 (by decide) rfl rfl rfl ho ?_
  refine hq_perm [2, 3, 4, 5, 6] (L' := lL b0 b i) rfl ?_
  exact kk _ _ _ _ _ _ _ _ hn
