/-! the law: calls 0 to 3 -/
theorem dlaw_152 : decode code 152 = .ok (.aload_n 1, 1) := by decide +kernel
theorem gA_153 : gA 153 (1) := by
  unfold gA
  decide +kernel
theorem gA_159 : gA 159 (2) := by
  unfold gA
  decide +kernel
theorem gA_165 : gA 165 (3) := by
  unfold gA
  decide +kernel
theorem dlaw_171 : decode code 171 = .ok (.aload_n 3, 1) := by decide +kernel
theorem dlaw_172 : decode code 172 = .ok (.invokestatic 93, 3) := by decide +kernel
theorem dlaw_175 : decode code 175 = .ok (.istore 5, 2) := by decide +kernel
theorem dlaw_177 : decode code 177 = .ok (.aload_n 2, 1) := by decide +kernel
theorem gA_178 : gA 178 (1) := by
  unfold gA
  decide +kernel
theorem gA_184 : gA 184 (2) := by
  unfold gA
  decide +kernel
theorem gA_190 : gA 190 (3) := by
  unfold gA
  decide +kernel
theorem dlaw_196 : decode code 196 = .ok (.invokevirtual 98, 3) := by decide +kernel
theorem dlaw_199 : decode code 199 = .ok (.istore 6, 2) := by decide +kernel
theorem gT_201 : gT 201 := by
  unfold gT
  decide +kernel
theorem gI_212 : gI 212 (1498) := by
  unfold gI
  decide +kernel
theorem dlaw_232 : decode code 232 = .ok (.aload_n 1, 1) := by decide +kernel
theorem gA_233 : gA 233 (1) := by
  unfold gA
  decide +kernel
theorem gA_239 : gA 239 (2) := by
  unfold gA
  decide +kernel
theorem dlaw_245 : decode code 245 = .ok (.aload_n 3, 1) := by decide +kernel
theorem dlaw_246 : decode code 246 = .ok (.invokestatic 103, 3) := by decide +kernel
theorem dlaw_249 : decode code 249 = .ok (.istore 5, 2) := by decide +kernel
theorem dlaw_251 : decode code 251 = .ok (.aload_n 2, 1) := by decide +kernel
theorem gA_252 : gA 252 (1) := by
  unfold gA
  decide +kernel
theorem gA_258 : gA 258 (2) := by
  unfold gA
  decide +kernel
theorem dlaw_264 : decode code 264 = .ok (.invokevirtual 106, 3) := by decide +kernel
theorem dlaw_267 : decode code 267 = .ok (.istore 6, 2) := by decide +kernel
theorem gT_269 : gT 269 := by
  unfold gT
  decide +kernel
theorem gI_280 : gI 280 (1430) := by
  unfold gI
  decide +kernel
theorem dlaw_300 : decode code 300 = .ok (.aload_n 1, 1) := by decide +kernel
theorem gA_301 : gA 301 (1) := by
  unfold gA
  decide +kernel
theorem gA_307 : gA 307 (2) := by
  unfold gA
  decide +kernel
theorem gA_313 : gA 313 (3) := by
  unfold gA
  decide +kernel
theorem gA_319 : gA 319 (4) := by
  unfold gA
  decide +kernel
theorem gB_325 : gB 325 := by
  unfold gB
  decide +kernel
theorem dlaw_333 : decode code 333 = .ok (.invokestatic 107, 3) := by decide +kernel
theorem dlaw_336 : decode code 336 = .ok (.istore 5, 2) := by decide +kernel
theorem dlaw_338 : decode code 338 = .ok (.aload_n 2, 1) := by decide +kernel
theorem gA_339 : gA 339 (1) := by
  unfold gA
  decide +kernel
theorem gA_345 : gA 345 (2) := by
  unfold gA
  decide +kernel
theorem gA_351 : gA 351 (3) := by
  unfold gA
  decide +kernel
theorem gA_357 : gA 357 (4) := by
  unfold gA
  decide +kernel
theorem gB_363 : gB 363 := by
  unfold gB
  decide +kernel
theorem dlaw_371 : decode code 371 = .ok (.invokevirtual 110, 3) := by decide +kernel
theorem gT_374 : gT 374 := by
  unfold gT
  decide +kernel
theorem dlaw_385 : decode code 385 = .ok (.goto 1342, 3) := by decide +kernel
theorem dlaw_388 : decode code 388 = .ok (.aload_n 1, 1) := by decide +kernel
theorem dlaw_389 : decode code 389 = .ok (.invokevirtual 111, 3) := by decide +kernel
theorem dlaw_392 : decode code 392 = .ok (.aload_n 2, 1) := by decide +kernel
theorem dlaw_393 : decode code 393 = .ok (.invokevirtual 115, 3) := by decide +kernel
theorem dlaw_396 : decode code 396 = .ok (.if_icmp .eq 1331, 3) := by decide +kernel
set_option maxRecDepth 100000 in
theorem lc_broker {p : Program} {l : Launch} {e : Env} {s : State} {m : MethodId} {args : Array Value} {below : List Frame} {meth : Method} {c : Code} {Q : State → Prop} {D : va_G} {b0 b L9 ka kb i k nb no nc : Nat} {xs : Nat → Int32} {I : MI} {J : MJ} {P : MI} {N : MJ} {o : Int64} (hlt : l.stackTraces = false) (C : hw_C p s m args c D b0 code RL 8) (X : lwX s b0 b L9 xs) (hi : i + 6 ≤ L9) (hk : k ≤ 512) (hf : ka + 9 ≤ 601024 ∧ kb + 54 ≤ 7293034) (h : IV k nb no nc I J P N) (kk : lwK p l e s m args below meth c Q D b0 b (ka + 9) (kb + 54) i (k + 1)) : hw_V p l e room_1 s m args below meth c Q D b0 8 false ka kb 271 152 (lL b0 b i) [] (hw_vl b0 I J P N o) := by
  refine hq_aload_n (q := 1) C dlaw_152 rfl rfl ?_
  refine lw_arg (q0 := 0) (q4 := 4) (j := 1) C X (by decide) gA_153 rfl rfl (by omega) ?_
  refine lw_arg (q0 := 0) (q4 := 4) (j := 2) C X (by decide) gA_159 rfl rfl (by omega) ?_
  refine lw_arg (q0 := 0) (q4 := 4) (j := 3) C X (by decide) gA_165 rfl rfl (by omega) ?_
  refine hq_aload_n (q := 3) C dlaw_171 rfl rfl ?_
  obtain ⟨e9, nb', no', nc', I', J', o', r, P', N', hL9, hM9, hp, ho, hn⟩ := sd_broker (o := o) (D := D) (b0 := b0) hlt (x := xs (i + 1)) (y := xs (i + 2)) (z := xs (i + 3)) h (by omega)
  refine lw_call (rm := rL_broker) (As := [.ref _, .int _, .int _, .int _, .ref _]) (st := []) C hL9 ws_L_broker ml_L_93 rfl rfl ⟨Nat.le_of_ble_eq_true rfl, Nat.le_of_ble_eq_true rfl⟩ (Nat.le_of_ble_eq_true rfl) ⟨Nat.le_of_ble_eq_true rfl, Nat.le_of_ble_eq_true rfl⟩ hf dlaw_172 ?_
  refine hq_istore (L' := (5, .int e9) :: lL b0 b i) C dlaw_175 (by decide) rfl ?_
  refine hq_aload_n (q := 3) C dlaw_177 rfl rfl ?_
  refine lw_arg (q0 := 1) (q4 := 5) (j := 1) C X (by decide) gA_178 rfl rfl (by omega) ?_
  refine lw_arg (q0 := 1) (q4 := 5) (j := 2) C X (by decide) gA_184 rfl rfl (by omega) ?_
  refine lw_arg (q0 := 1) (q4 := 5) (j := 3) C X (by decide) gA_190 rfl rfl (by omega) ?_
  refine hq_cVr (As := [.int _, .int _, .int _]) (rm := rX6_broker) (f := 26) (Nc := 1) C hM9 wv_X6_broker ml_L_98 rfl rfl rfl Nat.one_pos rfl rfl rfl rfl ⟨Nat.le_of_ble_eq_true rfl, Nat.le_of_ble_eq_true rfl⟩ (Nat.le_of_ble_eq_true rfl) hf dlaw_196 ?_
  refine hq_istore (L' := (6, .int r) :: (5, .int e9) :: lL b0 b i) C dlaw_199 (by decide) rfl ?_
  refine lw_thr (q2 := 4) (q5 := 1) C gT_201 rfl rfl hp hf ?_
  refine lw_endI (q3 := 5) (q5 := 1) (q6 := 0) C gI_212 (by decide) rfl rfl rfl ho ?_
  refine hq_perm [2, 3, 4, 5, 6] (L' := lL b0 b i) rfl ?_
  exact kk _ _ _ _ _ _ _ _ hn
set_option maxRecDepth 100000 in
theorem lc_rate {p : Program} {l : Launch} {e : Env} {s : State} {m : MethodId} {args : Array Value} {below : List Frame} {meth : Method} {c : Code} {Q : State → Prop} {D : va_G} {b0 b L9 ka kb i k nb no nc : Nat} {xs : Nat → Int32} {I : MI} {J : MJ} {P : MI} {N : MJ} {o : Int64} (hlt : l.stackTraces = false) (C : hw_C p s m args c D b0 code RL 8) (X : lwX s b0 b L9 xs) (hi : i + 6 ≤ L9) (hk : k ≤ 512) (hf : ka + 9 ≤ 601024 ∧ kb + 54 ≤ 7293034) (h : IV k nb no nc I J P N) (kk : lwK p l e s m args below meth c Q D b0 b (ka + 9) (kb + 54) i (k + 1)) : hw_V p l e room_1 s m args below meth c Q D b0 8 false ka kb 271 232 (lL b0 b i) [] (hw_vl b0 I J P N o) := by
  refine hq_aload_n (q := 1) C dlaw_232 rfl rfl ?_
  refine lw_arg (q0 := 0) (q4 := 4) (j := 1) C X (by decide) gA_233 rfl rfl (by omega) ?_
  refine lw_arg (q0 := 0) (q4 := 4) (j := 2) C X (by decide) gA_239 rfl rfl (by omega) ?_
  refine hq_aload_n (q := 3) C dlaw_245 rfl rfl ?_
  obtain ⟨e9, nb', no', nc', I', J', o', r, P', N', hL9, hM9, hp, ho, hn⟩ := sd_rate (o := o) (D := D) (b0 := b0) hlt (x := xs (i + 1)) (y := xs (i + 2)) h (by omega)
  refine lw_call (rm := rL_rate) (As := [.ref _, .int _, .int _, .ref _]) (st := []) C hL9 ws_L_rate ml_L_103 rfl rfl ⟨Nat.le_of_ble_eq_true rfl, Nat.le_of_ble_eq_true rfl⟩ (Nat.le_of_ble_eq_true rfl) ⟨Nat.le_of_ble_eq_true rfl, Nat.le_of_ble_eq_true rfl⟩ hf dlaw_246 ?_
  refine hq_istore (L' := (5, .int e9) :: lL b0 b i) C dlaw_249 (by decide) rfl ?_
  refine hq_aload_n (q := 3) C dlaw_251 rfl rfl ?_
  refine lw_arg (q0 := 1) (q4 := 5) (j := 1) C X (by decide) gA_252 rfl rfl (by omega) ?_
  refine lw_arg (q0 := 1) (q4 := 5) (j := 2) C X (by decide) gA_258 rfl rfl (by omega) ?_
  refine hq_cVr (As := [.int _, .int _]) (rm := rX6_rate) (f := 26) (Nc := 1) C hM9 wv_X6_rate ml_L_106 rfl rfl rfl Nat.one_pos rfl rfl rfl rfl ⟨Nat.le_of_ble_eq_true rfl, Nat.le_of_ble_eq_true rfl⟩ (Nat.le_of_ble_eq_true rfl) hf dlaw_264 ?_
  refine hq_istore (L' := (6, .int r) :: (5, .int e9) :: lL b0 b i) C dlaw_267 (by decide) rfl ?_
  refine lw_thr (q2 := 4) (q5 := 1) C gT_269 rfl rfl hp hf ?_
  refine lw_endI (q3 := 5) (q5 := 1) (q6 := 0) C gI_280 (by decide) rfl rfl rfl ho ?_
  refine hq_perm [2, 3, 4, 5, 6] (L' := lL b0 b i) rfl ?_
  exact kk _ _ _ _ _ _ _ _ hn
set_option maxRecDepth 100000 in
theorem lc_trust {p : Program} {l : Launch} {e : Env} {s : State} {m : MethodId} {args : Array Value} {below : List Frame} {meth : Method} {c : Code} {Q : State → Prop} {D : va_G} {b0 b L9 ka kb i k nb no nc : Nat} {xs : Nat → Int32} {I : MI} {J : MJ} {P : MI} {N : MJ} {o : Int64} (hlt : l.stackTraces = false) (C : hw_C p s m args c D b0 code RL 8) (X : lwX s b0 b L9 xs) (hi : i + 6 ≤ L9) (hk : k ≤ 512) (hf : ka + 9 ≤ 601024 ∧ kb + 54 ≤ 7293034) (h : IV k nb no nc I J P N) (kk : lwK p l e s m args below meth c Q D b0 b (ka + 9) (kb + 54) i (k + 1)) : hw_V p l e room_1 s m args below meth c Q D b0 8 false ka kb 271 300 (lL b0 b i) [] (hw_vl b0 I J P N o) := by
  refine hq_aload_n (q := 1) C dlaw_300 rfl rfl ?_
  refine lw_arg (q0 := 0) (q4 := 4) (j := 1) C X (by decide) gA_301 rfl rfl (by omega) ?_
  refine lw_arg (q0 := 0) (q4 := 4) (j := 2) C X (by decide) gA_307 rfl rfl (by omega) ?_
  refine lw_arg (q0 := 0) (q4 := 4) (j := 3) C X (by decide) gA_313 rfl rfl (by omega) ?_
  refine lw_arg (q0 := 0) (q4 := 4) (j := 4) C X (by decide) gA_319 rfl rfl (by omega) ?_
  refine lw_bool C gB_325 (fun w325 hw325 ew325 => ?_)
  obtain ⟨e9, nb', no', nc', I', J', o', P', N', hL9, hM9, hp, hn⟩ := sd_trust (o := o) (D := D) (b0 := b0) hlt (x := xs (i + 1)) (y := xs (i + 2)) (z := xs (i + 3)) (w := w325) hw325 h (by omega)
  refine lw_call (rm := rL_trust) (As := [.ref _, .int _, .int _, .int _, .int _]) (st := []) C hL9 ws_L_trust ml_L_107 rfl rfl ⟨Nat.le_of_ble_eq_true rfl, Nat.le_of_ble_eq_true rfl⟩ (Nat.le_of_ble_eq_true rfl) ⟨Nat.le_of_ble_eq_true rfl, Nat.le_of_ble_eq_true rfl⟩ hf dlaw_333 ?_
  refine hq_istore (L' := (5, .int e9) :: lL b0 b i) C dlaw_336 (by decide) rfl ?_
  refine hq_aload_n (q := 3) C dlaw_338 rfl rfl ?_
  refine lw_arg (q0 := 1) (q4 := 5) (j := 1) C X (by decide) gA_339 rfl rfl (by omega) ?_
  refine lw_arg (q0 := 1) (q4 := 5) (j := 2) C X (by decide) gA_345 rfl rfl (by omega) ?_
  refine lw_arg (q0 := 1) (q4 := 5) (j := 3) C X (by decide) gA_351 rfl rfl (by omega) ?_
  refine lw_arg (q0 := 1) (q4 := 5) (j := 4) C X (by decide) gA_357 rfl rfl (by omega) ?_
  refine lw_bool C gB_363 (fun w363 hw363 ew363 => ?_)
  cases ew363.trans ew325.symm
  refine hq_cVv (As := [.int _, .int _, .int _, .int _]) (rm := rX6_trust) (f := 26) (Nc := 1) C hM9 wv_X6_trust ml_L_110 rfl rfl rfl Nat.one_pos rfl rfl rfl rfl ⟨Nat.le_of_ble_eq_true rfl, Nat.le_of_ble_eq_true rfl⟩ (Nat.le_of_ble_eq_true rfl) hf dlaw_371 ?_
  refine lw_thr (q2 := 3) (q5 := 0) C gT_374 rfl rfl hp hf ?_
  refine hq_goto (tgt := 1727) C dlaw_385 (by decide) ?_
  refine hq_perm [1, 2, 3, 4, 5] (L' := lL b0 b i) rfl ?_
  exact kk _ _ _ _ _ _ _ _ hn
set_option maxRecDepth 100000 in
theorem lc_festival {p : Program} {l : Launch} {e : Env} {s : State} {m : MethodId} {args : Array Value} {below : List Frame} {meth : Method} {c : Code} {Q : State → Prop} {D : va_G} {b0 b L9 ka kb i k nb no nc : Nat} {xs : Nat → Int32} {I : MI} {J : MJ} {P : MI} {N : MJ} {o : Int64} (hlt : l.stackTraces = false) (C : hw_C p s m args c D b0 code RL 8) (X : lwX s b0 b L9 xs) (hi : i + 6 ≤ L9) (hk : k ≤ 512) (hf : ka + 9 ≤ 601024 ∧ kb + 54 ≤ 7293034) (h : IV k nb no nc I J P N) (kk : lwK p l e s m args below meth c Q D b0 b (ka + 9) (kb + 54) i (k + 1)) : hw_V p l e room_1 s m args below meth c Q D b0 8 false ka kb 271 388 (lL b0 b i) [] (hw_vl b0 I J P N o) := by
  refine hq_aload_n (q := 1) C dlaw_388 rfl rfl ?_
  refine hq_cVr (As := []) (rm := rX5_festival) (f := 0) (Nc := 1) C (m_X5_festival h.ci) wv_X5_festival ml_L_111 rfl rfl rfl Nat.one_pos rfl rfl rfl rfl ⟨Nat.le_of_ble_eq_true rfl, Nat.le_of_ble_eq_true rfl⟩ (Nat.le_of_ble_eq_true rfl) ⟨by show ka + 0 ≤ 601024; omega, by show kb + 0 ≤ 7293034; omega⟩ dlaw_389 ?_
  refine hq_aload_n (q := 2) C dlaw_392 rfl rfl ?_
  refine hq_cVr (As := []) (rm := rX6_festival) (f := 26) (Nc := 1) C m_X6_festival wv_X6_festival ml_L_115 rfl rfl rfl Nat.one_pos rfl rfl rfl rfl ⟨Nat.le_of_ble_eq_true rfl, Nat.le_of_ble_eq_true rfl⟩ (Nat.le_of_ble_eq_true rfl) ⟨by show ka + 0 ≤ 601024; omega, by show kb + 0 ≤ 7293034; omega⟩ dlaw_393 ?_
  refine hq_widen (ka' := ka + 9) (kb' := kb + 54) (by omega) (by omega) ?_
  have e4 : P 4 0 = I 4 0 := h.ints 4 0 (by unfold shd; omega)
  refine hq_icmp_eq (tgt := 1727) C dlaw_396 (by decide) (fun _ => ?_) (fun q => absurd (by rw [e4]) q)
  have hz : hw_bo (if I 4 0 = 0 then 1 else 0) := by
    by_cases z : I 4 0 = 0
    · rw [if_pos z]; exact Or.inr rfl
    · rw [if_neg z]; exact Or.inl rfl
  refine kk nb no nc _ _ _ _ _ ?_
  have := v_festival h hz
  unfold i_festival pp_festival
  rw [e4]
  exact this
