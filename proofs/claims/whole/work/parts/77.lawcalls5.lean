/-! the law: calls 16 to 19 -/
theorem dlaw_1194 : decode code 1194 = .ok (.aload_n 1, 1) := by decide +kernel
theorem gA_1195 : gA 1195 (1) := by
  unfold gA
  decide +kernel
theorem gA_1201 : gA 1201 (2) := by
  unfold gA
  decide +kernel
theorem dlaw_1207 : decode code 1207 = .ok (.aload_n 3, 1) := by decide +kernel
theorem dlaw_1208 : decode code 1208 = .ok (.invokestatic 157, 3) := by decide +kernel
theorem dlaw_1211 : decode code 1211 = .ok (.istore 5, 2) := by decide +kernel
theorem dlaw_1213 : decode code 1213 = .ok (.aload_n 2, 1) := by decide +kernel
theorem gA_1214 : gA 1214 (1) := by
  unfold gA
  decide +kernel
theorem gA_1220 : gA 1220 (2) := by
  unfold gA
  decide +kernel
theorem dlaw_1226 : decode code 1226 = .ok (.invokevirtual 159, 3) := by decide +kernel
theorem dlaw_1229 : decode code 1229 = .ok (.lstore 6, 2) := by decide +kernel
theorem gT_1231 : gT 1231 := by
  unfold gT
  decide +kernel
theorem gL_1242 : gL 1242 (469) := by
  unfold gL
  decide +kernel
theorem dlaw_1261 : decode code 1261 = .ok (.aload_n 1, 1) := by decide +kernel
theorem gA_1262 : gA 1262 (1) := by
  unfold gA
  decide +kernel
theorem gA_1268 : gA 1268 (2) := by
  unfold gA
  decide +kernel
theorem gA_1274 : gA 1274 (3) := by
  unfold gA
  decide +kernel
theorem gB_1280 : gB 1280 := by
  unfold gB
  decide +kernel
theorem dlaw_1288 : decode code 1288 = .ok (.aload_n 3, 1) := by decide +kernel
theorem dlaw_1289 : decode code 1289 = .ok (.invokestatic 160, 3) := by decide +kernel
theorem dlaw_1292 : decode code 1292 = .ok (.istore 5, 2) := by decide +kernel
theorem dlaw_1294 : decode code 1294 = .ok (.aload_n 2, 1) := by decide +kernel
theorem gA_1295 : gA 1295 (1) := by
  unfold gA
  decide +kernel
theorem gA_1301 : gA 1301 (2) := by
  unfold gA
  decide +kernel
theorem gA_1307 : gA 1307 (3) := by
  unfold gA
  decide +kernel
theorem gB_1313 : gB 1313 := by
  unfold gB
  decide +kernel
theorem dlaw_1321 : decode code 1321 = .ok (.invokevirtual 163, 3) := by decide +kernel
theorem dlaw_1324 : decode code 1324 = .ok (.lstore 6, 2) := by decide +kernel
theorem gT_1326 : gT 1326 := by
  unfold gT
  decide +kernel
theorem gL_1337 : gL 1337 (374) := by
  unfold gL
  decide +kernel
theorem dlaw_1356 : decode code 1356 = .ok (.aload_n 1, 1) := by decide +kernel
theorem gA_1357 : gA 1357 (1) := by
  unfold gA
  decide +kernel
theorem gA_1363 : gA 1363 (2) := by
  unfold gA
  decide +kernel
theorem dlaw_1369 : decode code 1369 = .ok (.aload_n 3, 1) := by decide +kernel
theorem dlaw_1370 : decode code 1370 = .ok (.invokestatic 164, 3) := by decide +kernel
theorem dlaw_1373 : decode code 1373 = .ok (.istore 5, 2) := by decide +kernel
theorem dlaw_1375 : decode code 1375 = .ok (.aload_n 2, 1) := by decide +kernel
theorem gA_1376 : gA 1376 (1) := by
  unfold gA
  decide +kernel
theorem gA_1382 : gA 1382 (2) := by
  unfold gA
  decide +kernel
theorem dlaw_1388 : decode code 1388 = .ok (.invokevirtual 166, 3) := by decide +kernel
theorem dlaw_1391 : decode code 1391 = .ok (.istore 6, 2) := by decide +kernel
theorem gT_1393 : gT 1393 := by
  unfold gT
  decide +kernel
theorem gZ_1404 : gZ 1404 (299) := by
  unfold gZ
  decide +kernel
theorem dlaw_1431 : decode code 1431 = .ok (.aload_n 1, 1) := by decide +kernel
theorem gA_1432 : gA 1432 (1) := by
  unfold gA
  decide +kernel
theorem gA_1438 : gA 1438 (2) := by
  unfold gA
  decide +kernel
theorem gA_1444 : gA 1444 (3) := by
  unfold gA
  decide +kernel
theorem gA_1450 : gA 1450 (4) := by
  unfold gA
  decide +kernel
theorem dlaw_1456 : decode code 1456 = .ok (.aload_n 3, 1) := by decide +kernel
theorem dlaw_1457 : decode code 1457 = .ok (.invokestatic 167, 3) := by decide +kernel
theorem dlaw_1460 : decode code 1460 = .ok (.istore 5, 2) := by decide +kernel
theorem dlaw_1462 : decode code 1462 = .ok (.aload_n 2, 1) := by decide +kernel
theorem gA_1463 : gA 1463 (1) := by
  unfold gA
  decide +kernel
theorem gA_1469 : gA 1469 (2) := by
  unfold gA
  decide +kernel
theorem gA_1475 : gA 1475 (3) := by
  unfold gA
  decide +kernel
theorem gA_1481 : gA 1481 (4) := by
  unfold gA
  decide +kernel
theorem dlaw_1487 : decode code 1487 = .ok (.invokevirtual 169, 3) := by decide +kernel
theorem dlaw_1490 : decode code 1490 = .ok (.istore 6, 2) := by decide +kernel
theorem gT_1492 : gT 1492 := by
  unfold gT
  decide +kernel
theorem gI_1503 : gI 1503 (207) := by
  unfold gI
  decide +kernel
set_option maxRecDepth 100000 in
theorem lc_brokerOf {p : Program} {l : Launch} {e : Env} {s : State} {m : MethodId} {args : Array Value} {below : List Frame} {meth : Method} {c : Code} {Q : State → Prop} {D : va_G} {b0 b L9 ka kb i k nb no nc : Nat} {xs : Nat → Int32} {I : MI} {J : MJ} {P : MI} {N : MJ} {o : Int64} (hlt : l.stackTraces = false) (C : hw_C p s m args c D b0 code RL 8) (X : lwX s b0 b L9 xs) (hi : i + 6 ≤ L9) (hk : k ≤ 512) (hf : ka + 9 ≤ 601024 ∧ kb + 54 ≤ 7293034) (h : IV k nb no nc I J P N) (kk : lwK p l e s m args below meth c Q D b0 b (ka + 9) (kb + 54) i (k + 1)) : hw_V p l e room_1 s m args below meth c Q D b0 8 false ka kb 271 1194 (lL b0 b i) [] (hw_vl b0 I J P N o) := by
  refine hq_aload_n (q := 1) C dlaw_1194 rfl rfl ?_
  refine lw_arg (q0 := 0) (q4 := 4) (j := 1) C X (by decide) gA_1195 rfl rfl (by omega) ?_
  refine lw_arg (q0 := 0) (q4 := 4) (j := 2) C X (by decide) gA_1201 rfl rfl (by omega) ?_
  refine hq_aload_n (q := 3) C dlaw_1207 rfl rfl ?_
  obtain ⟨e9, nb', no', nc', I', J', o', r, P', N', hL9, hM9, hp, ho, hn⟩ := sd_brokerOf (o := o) (D := D) (b0 := b0) hlt (x := xs (i + 1)) (y := xs (i + 2)) h (by omega)
  refine lw_call (rm := rL_brokerOf) (As := [.ref _, .int _, .int _, .ref _]) (st := []) C hL9 ws_L_brokerOf ml_L_157 rfl rfl ⟨Nat.le_of_ble_eq_true rfl, Nat.le_of_ble_eq_true rfl⟩ (Nat.le_of_ble_eq_true rfl) ⟨Nat.le_of_ble_eq_true rfl, Nat.le_of_ble_eq_true rfl⟩ hf dlaw_1208 ?_
  refine hq_istore (L' := (5, .int e9) :: lL b0 b i) C dlaw_1211 (by decide) rfl ?_
  refine hq_aload_n (q := 3) C dlaw_1213 rfl rfl ?_
  refine lw_arg (q0 := 1) (q4 := 5) (j := 1) C X (by decide) gA_1214 rfl rfl (by omega) ?_
  refine lw_arg (q0 := 1) (q4 := 5) (j := 2) C X (by decide) gA_1220 rfl rfl (by omega) ?_
  refine hq_cVr (As := [.int _, .int _]) (rm := rX6_brokerOf) (f := 26) (Nc := 1) C hM9 wv_X6_brokerOf ml_L_159 rfl rfl rfl Nat.one_pos rfl rfl rfl rfl ⟨Nat.le_of_ble_eq_true rfl, Nat.le_of_ble_eq_true rfl⟩ (Nat.le_of_ble_eq_true rfl) hf dlaw_1226 ?_
  refine hq_lstore (L' := (6, .long r) :: (5, .int e9) :: lL b0 b i) C dlaw_1229 (by decide) rfl ?_
  refine lw_thr (q2 := 4) (q5 := 1) C gT_1231 rfl rfl hp hf ?_
  refine lw_endL (q3 := 5) (q5 := 1) (q6 := 0) C gL_1242 (by decide) rfl rfl rfl ho ?_
  refine hq_perm [2, 3, 4, 5, 6] (L' := lL b0 b i) rfl ?_
  exact kk _ _ _ _ _ _ _ _ hn
set_option maxRecDepth 100000 in
theorem lc_debt {p : Program} {l : Launch} {e : Env} {s : State} {m : MethodId} {args : Array Value} {below : List Frame} {meth : Method} {c : Code} {Q : State → Prop} {D : va_G} {b0 b L9 ka kb i k nb no nc : Nat} {xs : Nat → Int32} {I : MI} {J : MJ} {P : MI} {N : MJ} {o : Int64} (hlt : l.stackTraces = false) (C : hw_C p s m args c D b0 code RL 8) (X : lwX s b0 b L9 xs) (hi : i + 6 ≤ L9) (hk : k ≤ 512) (hf : ka + 9 ≤ 601024 ∧ kb + 54 ≤ 7293034) (h : IV k nb no nc I J P N) (kk : lwK p l e s m args below meth c Q D b0 b (ka + 9) (kb + 54) i (k + 1)) : hw_V p l e room_1 s m args below meth c Q D b0 8 false ka kb 271 1261 (lL b0 b i) [] (hw_vl b0 I J P N o) := by
  refine hq_aload_n (q := 1) C dlaw_1261 rfl rfl ?_
  refine lw_arg (q0 := 0) (q4 := 4) (j := 1) C X (by decide) gA_1262 rfl rfl (by omega) ?_
  refine lw_arg (q0 := 0) (q4 := 4) (j := 2) C X (by decide) gA_1268 rfl rfl (by omega) ?_
  refine lw_arg (q0 := 0) (q4 := 4) (j := 3) C X (by decide) gA_1274 rfl rfl (by omega) ?_
  refine lw_bool C gB_1280 (fun w1280 hw1280 ew1280 => ?_)
  refine hq_aload_n (q := 3) C dlaw_1288 rfl rfl ?_
  obtain ⟨e9, nb', no', nc', I', J', o', r, P', N', hL9, hM9, hp, ho, hn⟩ := sd_debt (o := o) (D := D) (b0 := b0) hlt (x := xs (i + 1)) (y := xs (i + 2)) (z := w1280) h (by omega)
  refine lw_call (rm := rL_debt) (As := [.ref _, .int _, .int _, .int _, .ref _]) (st := []) C hL9 ws_L_debt ml_L_160 rfl rfl ⟨Nat.le_of_ble_eq_true rfl, Nat.le_of_ble_eq_true rfl⟩ (Nat.le_of_ble_eq_true rfl) ⟨Nat.le_of_ble_eq_true rfl, Nat.le_of_ble_eq_true rfl⟩ hf dlaw_1289 ?_
  refine hq_istore (L' := (5, .int e9) :: lL b0 b i) C dlaw_1292 (by decide) rfl ?_
  refine hq_aload_n (q := 3) C dlaw_1294 rfl rfl ?_
  refine lw_arg (q0 := 1) (q4 := 5) (j := 1) C X (by decide) gA_1295 rfl rfl (by omega) ?_
  refine lw_arg (q0 := 1) (q4 := 5) (j := 2) C X (by decide) gA_1301 rfl rfl (by omega) ?_
  refine lw_arg (q0 := 1) (q4 := 5) (j := 3) C X (by decide) gA_1307 rfl rfl (by omega) ?_
  refine lw_bool C gB_1313 (fun w1313 hw1313 ew1313 => ?_)
  cases ew1313.trans ew1280.symm
  refine hq_cVr (As := [.int _, .int _, .int _]) (rm := rX6_debt) (f := 26) (Nc := 1) C hM9 wv_X6_debt ml_L_163 rfl rfl rfl Nat.one_pos rfl rfl rfl rfl ⟨Nat.le_of_ble_eq_true rfl, Nat.le_of_ble_eq_true rfl⟩ (Nat.le_of_ble_eq_true rfl) hf dlaw_1321 ?_
  refine hq_lstore (L' := (6, .long r) :: (5, .int e9) :: lL b0 b i) C dlaw_1324 (by decide) rfl ?_
  refine lw_thr (q2 := 4) (q5 := 1) C gT_1326 rfl rfl hp hf ?_
  refine lw_endL (q3 := 5) (q5 := 1) (q6 := 0) C gL_1337 (by decide) rfl rfl rfl ho ?_
  refine hq_perm [2, 3, 4, 5, 6] (L' := lL b0 b i) rfl ?_
  exact kk _ _ _ _ _ _ _ _ hn
set_option maxRecDepth 100000 in
theorem lc_agree {p : Program} {l : Launch} {e : Env} {s : State} {m : MethodId} {args : Array Value} {below : List Frame} {meth : Method} {c : Code} {Q : State → Prop} {D : va_G} {b0 b L9 ka kb i k nb no nc : Nat} {xs : Nat → Int32} {I : MI} {J : MJ} {P : MI} {N : MJ} {o : Int64} (hlt : l.stackTraces = false) (C : hw_C p s m args c D b0 code RL 8) (X : lwX s b0 b L9 xs) (hi : i + 6 ≤ L9) (hk : k ≤ 512) (hf : ka + 9 ≤ 601024 ∧ kb + 54 ≤ 7293034) (h : IV k nb no nc I J P N) (kk : lwK p l e s m args below meth c Q D b0 b (ka + 9) (kb + 54) i (k + 1)) : hw_V p l e room_1 s m args below meth c Q D b0 8 false ka kb 271 1356 (lL b0 b i) [] (hw_vl b0 I J P N o) := by
  refine hq_aload_n (q := 1) C dlaw_1356 rfl rfl ?_
  refine lw_arg (q0 := 0) (q4 := 4) (j := 1) C X (by decide) gA_1357 rfl rfl (by omega) ?_
  refine lw_arg (q0 := 0) (q4 := 4) (j := 2) C X (by decide) gA_1363 rfl rfl (by omega) ?_
  refine hq_aload_n (q := 3) C dlaw_1369 rfl rfl ?_
  obtain ⟨e9, nb', no', nc', I', J', o', r, P', N', hL9, hM9, hp, ho, hn⟩ := sd_agree (o := o) (D := D) (b0 := b0) hlt (x := xs (i + 1)) (y := xs (i + 2)) h (by omega)
  refine lw_call (rm := rL_agree) (As := [.ref _, .int _, .int _, .ref _]) (st := []) C hL9 ws_L_agree ml_L_164 rfl rfl ⟨Nat.le_of_ble_eq_true rfl, Nat.le_of_ble_eq_true rfl⟩ (Nat.le_of_ble_eq_true rfl) ⟨Nat.le_of_ble_eq_true rfl, Nat.le_of_ble_eq_true rfl⟩ hf dlaw_1370 ?_
  refine hq_istore (L' := (5, .int e9) :: lL b0 b i) C dlaw_1373 (by decide) rfl ?_
  refine hq_aload_n (q := 3) C dlaw_1375 rfl rfl ?_
  refine lw_arg (q0 := 1) (q4 := 5) (j := 1) C X (by decide) gA_1376 rfl rfl (by omega) ?_
  refine lw_arg (q0 := 1) (q4 := 5) (j := 2) C X (by decide) gA_1382 rfl rfl (by omega) ?_
  refine hq_cVr (As := [.int _, .int _]) (rm := rX6_agree) (f := 26) (Nc := 1) C hM9 wv_X6_agree ml_L_166 rfl rfl rfl Nat.one_pos rfl rfl rfl rfl ⟨Nat.le_of_ble_eq_true rfl, Nat.le_of_ble_eq_true rfl⟩ (Nat.le_of_ble_eq_true rfl) hf dlaw_1388 ?_
  refine hq_istore (L' := (6, .int r) :: (5, .int e9) :: lL b0 b i) C dlaw_1391 (by decide) rfl ?_
  refine lw_thr (q2 := 4) (q5 := 1) C gT_1393 rfl rfl hp hf ?_
  refine lw_endZ (q3 := 5) (q5 := 1) (q6 := 0) C gZ_1404 (by decide) rfl rfl rfl ho ?_
  refine hq_perm [2, 3, 4, 5, 6] (L' := lL b0 b i) rfl ?_
  exact kk _ _ _ _ _ _ _ _ hn
set_option maxRecDepth 100000 in
theorem lc_way {p : Program} {l : Launch} {e : Env} {s : State} {m : MethodId} {args : Array Value} {below : List Frame} {meth : Method} {c : Code} {Q : State → Prop} {D : va_G} {b0 b L9 ka kb i k nb no nc : Nat} {xs : Nat → Int32} {I : MI} {J : MJ} {P : MI} {N : MJ} {o : Int64} (hlt : l.stackTraces = false) (C : hw_C p s m args c D b0 code RL 8) (X : lwX s b0 b L9 xs) (hi : i + 6 ≤ L9) (hk : k ≤ 512) (hf : ka + 9 ≤ 601024 ∧ kb + 54 ≤ 7293034) (h : IV k nb no nc I J P N) (kk : lwK p l e s m args below meth c Q D b0 b (ka + 9) (kb + 54) i (k + 1)) : hw_V p l e room_1 s m args below meth c Q D b0 8 false ka kb 271 1431 (lL b0 b i) [] (hw_vl b0 I J P N o) := by
  refine hq_aload_n (q := 1) C dlaw_1431 rfl rfl ?_
  refine lw_arg (q0 := 0) (q4 := 4) (j := 1) C X (by decide) gA_1432 rfl rfl (by omega) ?_
  refine lw_arg (q0 := 0) (q4 := 4) (j := 2) C X (by decide) gA_1438 rfl rfl (by omega) ?_
  refine lw_arg (q0 := 0) (q4 := 4) (j := 3) C X (by decide) gA_1444 rfl rfl (by omega) ?_
  refine lw_arg (q0 := 0) (q4 := 4) (j := 4) C X (by decide) gA_1450 rfl rfl (by omega) ?_
  refine hq_aload_n (q := 3) C dlaw_1456 rfl rfl ?_
  obtain ⟨e9, nb', no', nc', I', J', o', r, P', N', hL9, hM9, hp, ho, hn⟩ := sd_way (o := o) (D := D) (b0 := b0) hlt (x := xs (i + 1)) (y := xs (i + 2)) (z := xs (i + 3)) (w := xs (i + 4)) h (by omega)
  refine lw_call (rm := rL_way) (As := [.ref _, .int _, .int _, .int _, .int _, .ref _]) (st := []) C hL9 ws_L_way ml_L_167 rfl rfl ⟨Nat.le_of_ble_eq_true rfl, Nat.le_of_ble_eq_true rfl⟩ (Nat.le_of_ble_eq_true rfl) ⟨Nat.le_of_ble_eq_true rfl, Nat.le_of_ble_eq_true rfl⟩ hf dlaw_1457 ?_
  refine hq_istore (L' := (5, .int e9) :: lL b0 b i) C dlaw_1460 (by decide) rfl ?_
  refine hq_aload_n (q := 3) C dlaw_1462 rfl rfl ?_
  refine lw_arg (q0 := 1) (q4 := 5) (j := 1) C X (by decide) gA_1463 rfl rfl (by omega) ?_
  refine lw_arg (q0 := 1) (q4 := 5) (j := 2) C X (by decide) gA_1469 rfl rfl (by omega) ?_
  refine lw_arg (q0 := 1) (q4 := 5) (j := 3) C X (by decide) gA_1475 rfl rfl (by omega) ?_
  refine lw_arg (q0 := 1) (q4 := 5) (j := 4) C X (by decide) gA_1481 rfl rfl (by omega) ?_
  refine hq_cVr (As := [.int _, .int _, .int _, .int _]) (rm := rX6_way) (f := 26) (Nc := 1) C hM9 wv_X6_way ml_L_169 rfl rfl rfl Nat.one_pos rfl rfl rfl rfl ⟨Nat.le_of_ble_eq_true rfl, Nat.le_of_ble_eq_true rfl⟩ (Nat.le_of_ble_eq_true rfl) hf dlaw_1487 ?_
  refine hq_istore (L' := (6, .int r) :: (5, .int e9) :: lL b0 b i) C dlaw_1490 (by decide) rfl ?_
  refine lw_thr (q2 := 4) (q5 := 1) C gT_1492 rfl rfl hp hf ?_
  refine lw_endI (q3 := 5) (q5 := 1) (q6 := 0) C gI_1503 (by decide) rfl rfl rfl ho ?_
  refine hq_perm [2, 3, 4, 5, 6] (L' := lL b0 b i) rfl ?_
  exact kk _ _ _ _ _ _ _ _ hn
