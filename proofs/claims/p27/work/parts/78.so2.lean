/-! the law: is a hall so: the loop over orders, the end -/
set_option maxHeartbeats 4000000 in
set_option maxRecDepth 100000 in
theorem so_ord_n {p : Program} {l : Launch} {e : Env} {s : State} {m : MethodId} {args : Array Value} {below : List Frame} {meth : Method} {c : Code} {Q : State → Prop} {D : va_G} {b0 ka kb k nb no nc : Nat} {I P X : MI} {J N Y : MJ} {o told W : Int64} (hlt : l.stackTraces = false) (C : hw_C p s m args c D b0 cL_isSo RL 12) (h : IV k nb no nc I J P N) {i : Nat} {G : Int64} (hi : i < 40) (hf : ka + 16 ≤ 2720 ∧ kb + 96 ≤ 16320) (he : e_orderOf I (nI i) 0 = some eI) (kk : hw_V p l e rS s m args below meth c Q D b0 12 false (ka + 16) (kb + 96) (hw_n o) 193 [(8, .int (nI (i + 1))), (3, .int 1), (6, .long G), (4, .long W), (0, .ref (hw_ad b0 0 0)), (1, .long told)] [] (hw_vl b0 I J X Y o)) : hw_V p l e rS s m args below meth c Q D b0 12 false ka kb (hw_n o) 193 [(8, .int (nI i)), (3, .int 1), (6, .long G), (4, .long W), (0, .ref (hw_ad b0 0 0)), (1, .long told)] [] (hw_vl b0 I J X Y o) := by
  obtain ⟨hf1, hf2⟩ := hf
  refine hq_iload (q := 0) C dL_isSo_193 rfl ?_
  refine hq_bipush (y := 40) C dL_isSo_195 (by decide) ?_
  refine hq_icmp_ge (tgt := 332) C dL_isSo_197 (by decide) (fun c_197 => absurd c_197 (nI_ge (b := 40) (by omega) (by omega))) (fun c_197 => ?_)
  refine hq_iload_n (q := 1) C dL_isSo_200 rfl rfl ?_
  refine hq_if_eq (tgt := 332) C dL_isSo_201 (by decide) (fun c_201 => absurd c_201 (by decide)) (fun _ => ?_)
  refine hq_aload_n (q := 4) C dL_isSo_204 rfl rfl ?_
  refine hq_iload (q := 0) C dL_isSo_205 rfl ?_
  refine hq_iconst (y := 0) C dL_isSo_207 (by decide) ?_
  refine hq_cSLr (As := [.ref _, .int _, .int _]) (rm := rL_orderOf) (Cn := "") C ((w_orderOf_no h he) l D b0 X Y o hlt) ws_L_orderOf ml_L_144 rfl rfl rfl rfl ⟨Nat.le_of_ble_eq_true rfl, Nat.le_of_ble_eq_true rfl⟩ (Nat.le_of_ble_eq_true rfl) ⟨by show ka + 2 ≤ 2720; omega, by show kb + 12 ≤ 16320; omega⟩ dL_isSo_208 ?_
  refine hq_lstore (L' := [(9, .long _), (8, .int _), (3, .int _), (6, .long _), (4, .long _), (0, .ref _), (1, .long _)]) C dL_isSo_211 (by decide) rfl ?_
  refine hq_lload (q := 0) C dL_isSo_213 rfl ?_
  refine hq_lconst (y := 0) C dL_isSo_215 rfl ?_
  refine hq_lcmp C dL_isSo_216 ?_
  refine hq_if_lt (tgt := 326) C dL_isSo_217 (by decide) (fun c_217 => ?_) (fun c_217 => absurd (by decide) c_217)
  refine hq_iinc (q := 1) (y := nI (_ + 1)) (L' := [(8, .int _), (9, .long _), (3, .int _), (6, .long _), (4, .long _), (0, .ref _), (1, .long _)]) C dL_isSo_326 rfl (hw_inc _) (by decide) rfl ?_
  refine hq_goto (tgt := 193) C dL_isSo_329 (by decide) ?_
  refine hq_perm [0, 2, 3, 4, 5, 6] (L' := [(8, .int (nI (i + 1))), (3, .int 1), (6, .long G), (4, .long W), (0, .ref (hw_ad b0 0 0)), (1, .long told)]) rfl ?_
  exact hq_widen (by show ka + 2 ≤ ka + 16; omega) (by show kb + 12 ≤ kb + 96; omega) kk
set_option maxHeartbeats 4000000 in
set_option maxRecDepth 100000 in
theorem so_ord_a {p : Program} {l : Launch} {e : Env} {s : State} {m : MethodId} {args : Array Value} {below : List Frame} {meth : Method} {c : Code} {Q : State → Prop} {D : va_G} {b0 ka kb k nb no nc : Nat} {I P X : MI} {J N Y : MJ} {o told W : Int64} (hlt : l.stackTraces = false) (C : hw_C p s m args c D b0 cL_isSo RL 12) (h : IV k nb no nc I J P N) {i pl w0 w1 : Nat} {sv am gn : Int32} {G : Int64} (hi : i < 40) (hf : ka + 16 ≤ 2720 ∧ kb + 96 ≤ 16320) (he0 : e_orderOf I (nI i) 0 = none) (he1 : e_orderOf I (nI i) 1 = none) (he2 : e_orderOf I (nI i) 2 = none) (he3 : e_orderOf I (nI i) 3 = none) (hv0 : r_orderOf I (nI i) 0 = sv) (hv1 : r_orderOf I (nI i) 1 = am) (hv2 : r_orderOf I (nI i) 2 = gn) (hv3 : r_orderOf I (nI i) 3 = nI pl) (hx0 : ¬ lg_cmp sv.toInt64 0 < 0) (hx5 : ¬ 0 < lg_cmp sv.toInt64 5) (hge : ¬ gn < am) (hw0 : e_wayOf I (nI i) (nI pl) = none) (hu0 : r_wayOf I (nI i) (nI pl) = nI w0) (hw9 : w0 < 12) (hs1 : ¬ lg_cmp sv.toInt64 1 = 0) (hs0 : lg_cmp sv.toInt64 0 = 0) (hw1 : e_wayOf I (nI i) (nI pl + 1) = none) (hu1 : r_wayOf I (nI i) (nI pl + 1) = nI w1) (hw8 : w1 < 12) (kk : hw_V p l e rS s m args below meth c Q D b0 12 false (ka + 16) (kb + 96) (hw_n o) 193 [(8, .int (nI (i + 1))), (3, .int 1), (6, .long (G + gn.toInt64)), (4, .long W), (0, .ref (hw_ad b0 0 0)), (1, .long told)] [] (hw_vl b0 I J X Y o)) : hw_V p l e rS s m args below meth c Q D b0 12 false ka kb (hw_n o) 193 [(8, .int (nI i)), (3, .int 1), (6, .long G), (4, .long W), (0, .ref (hw_ad b0 0 0)), (1, .long told)] [] (hw_vl b0 I J X Y o) := by
  obtain ⟨hf1, hf2⟩ := hf
  refine hq_iload (q := 0) C dL_isSo_193 rfl ?_
  refine hq_bipush (y := 40) C dL_isSo_195 (by decide) ?_
  refine hq_icmp_ge (tgt := 332) C dL_isSo_197 (by decide) (fun c_197 => absurd c_197 (nI_ge (b := 40) (by omega) (by omega))) (fun c_197 => ?_)
  refine hq_iload_n (q := 1) C dL_isSo_200 rfl rfl ?_
  refine hq_if_eq (tgt := 332) C dL_isSo_201 (by decide) (fun c_201 => absurd c_201 (by decide)) (fun _ => ?_)
  refine hq_aload_n (q := 4) C dL_isSo_204 rfl rfl ?_
  refine hq_iload (q := 0) C dL_isSo_205 rfl ?_
  refine hq_iconst (y := 0) C dL_isSo_207 (by decide) ?_
  refine hq_cSLr (As := [.ref _, .int _, .int _]) (rm := rL_orderOf) (Cn := "") C ((w_orderOf h he0 hv0) l D b0 X Y o hlt) ws_L_orderOf ml_L_144 rfl rfl rfl rfl ⟨Nat.le_of_ble_eq_true rfl, Nat.le_of_ble_eq_true rfl⟩ (Nat.le_of_ble_eq_true rfl) ⟨by show ka + 2 ≤ 2720; omega, by show kb + 12 ≤ 16320; omega⟩ dL_isSo_208 ?_
  refine hq_lstore (L' := [(9, .long _), (8, .int _), (3, .int _), (6, .long _), (4, .long _), (0, .ref _), (1, .long _)]) C dL_isSo_211 (by decide) rfl ?_
  refine hq_lload (q := 0) C dL_isSo_213 rfl ?_
  refine hq_lconst (y := 0) C dL_isSo_215 rfl ?_
  refine hq_lcmp C dL_isSo_216 ?_
  refine hq_if_lt (tgt := 326) C dL_isSo_217 (by decide) (fun c_217 => absurd c_217 hx0) (fun c_217 => ?_)
  refine hq_lload (q := 3) C dL_isSo_220 rfl ?_
  refine hq_aload_n (q := 5) C dL_isSo_222 rfl rfl ?_
  refine hq_iload (q := 1) C dL_isSo_223 rfl ?_
  refine hq_iconst (y := 2) C dL_isSo_225 (by decide) ?_
  refine hq_cVXr (As := [.int _, .int _]) (rm := rX5_orderOf) (f := 0) (Nc := 1) C (d_orderOf hlt h he2 hv2) wv_X5_orderOf ml_L_85 rfl rfl rfl Nat.one_pos rfl rfl rfl rfl ⟨Nat.le_of_ble_eq_true rfl, Nat.le_of_ble_eq_true rfl⟩ (Nat.le_of_ble_eq_true rfl) ⟨by show ka + 2 + 2 ≤ 2720; omega, by show kb + 12 + 12 ≤ 16320; omega⟩ dL_isSo_226 (fun _ => ?_) (fun E9 x9 => by cases x9)
  refine hq_i2l C dL_isSo_229 ?_
  refine hq_ladd C dL_isSo_230 ?_
  refine hq_lstore (L' := [(6, .long _), (9, .long _), (8, .int _), (3, .int _), (4, .long _), (0, .ref _), (1, .long _)]) C dL_isSo_231 (by decide) rfl ?_
  refine hq_aload_n (q := 5) C dL_isSo_233 rfl rfl ?_
  refine hq_iload (q := 2) C dL_isSo_234 rfl ?_
  refine hq_iconst (y := 3) C dL_isSo_236 (by decide) ?_
  refine hq_cVXr (As := [.int _, .int _]) (rm := rX5_orderOf) (f := 0) (Nc := 1) C (d_orderOf hlt h he3 hv3) wv_X5_orderOf ml_L_85 rfl rfl rfl Nat.one_pos rfl rfl rfl rfl ⟨Nat.le_of_ble_eq_true rfl, Nat.le_of_ble_eq_true rfl⟩ (Nat.le_of_ble_eq_true rfl) ⟨by show ka + 2 + 2 + 2 ≤ 2720; omega, by show kb + 12 + 12 + 12 ≤ 16320; omega⟩ dL_isSo_237 (fun _ => ?_) (fun E9 x9 => by cases x9)
  refine hq_istore (L' := [(11, .int _), (6, .long _), (9, .long _), (8, .int _), (3, .int _), (4, .long _), (0, .ref _), (1, .long _)]) C dL_isSo_240 (by decide) rfl ?_
  refine hq_lload (q := 2) C dL_isSo_242 rfl ?_
  refine hq_ldc2 C wc_L_157 dL_isSo_244 ?_
  refine hq_lcmp C dL_isSo_247 ?_
  refine hq_if_gt (tgt := 324) C dL_isSo_248 (by decide) (fun c_248 => absurd c_248 hx5) (fun c_248 => ?_)
  refine hq_aload_n (q := 6) C dL_isSo_251 rfl rfl ?_
  refine hq_iload (q := 3) C dL_isSo_252 rfl ?_
  refine hq_iconst (y := 2) C dL_isSo_254 (by decide) ?_
  refine hq_cVXr (As := [.int _, .int _]) (rm := rX5_orderOf) (f := 0) (Nc := 1) C (d_orderOf hlt h he2 hv2) wv_X5_orderOf ml_L_85 rfl rfl rfl Nat.one_pos rfl rfl rfl rfl ⟨Nat.le_of_ble_eq_true rfl, Nat.le_of_ble_eq_true rfl⟩ (Nat.le_of_ble_eq_true rfl) ⟨by show ka + 2 + 2 + 2 + 2 ≤ 2720; omega, by show kb + 12 + 12 + 12 + 12 ≤ 16320; omega⟩ dL_isSo_255 (fun _ => ?_) (fun E9 x9 => by cases x9)
  refine hq_aload_n (q := 6) C dL_isSo_258 rfl rfl ?_
  refine hq_iload (q := 3) C dL_isSo_259 rfl ?_
  refine hq_iconst (y := 1) C dL_isSo_261 (by decide) ?_
  refine hq_cVXr (As := [.int _, .int _]) (rm := rX5_orderOf) (f := 0) (Nc := 1) C (d_orderOf hlt h he1 hv1) wv_X5_orderOf ml_L_85 rfl rfl rfl Nat.one_pos rfl rfl rfl rfl ⟨Nat.le_of_ble_eq_true rfl, Nat.le_of_ble_eq_true rfl⟩ (Nat.le_of_ble_eq_true rfl) ⟨by show ka + 2 + 2 + 2 + 2 + 2 ≤ 2720; omega, by show kb + 12 + 12 + 12 + 12 + 12 ≤ 16320; omega⟩ dL_isSo_262 (fun _ => ?_) (fun E9 x9 => by cases x9)
  refine hq_icmp_lt (tgt := 324) C dL_isSo_265 (by decide) (fun c_265 => absurd c_265 hge) (fun c_265 => ?_)
  refine hq_aload_n (q := 6) C dL_isSo_268 rfl rfl ?_
  refine hq_iload (q := 3) C dL_isSo_269 rfl ?_
  refine hq_iload (q := 0) C dL_isSo_271 rfl ?_
  refine hq_cVXr (As := [.int _, .int _]) (rm := rX5_wayOf) (f := 0) (Nc := 1) C (d_wayOf hlt h hw0 hu0) wv_X5_wayOf ml_L_82 rfl rfl rfl Nat.one_pos rfl rfl rfl rfl ⟨Nat.le_of_ble_eq_true rfl, Nat.le_of_ble_eq_true rfl⟩ (Nat.le_of_ble_eq_true rfl) ⟨by show ka + 2 + 2 + 2 + 2 + 2 + 2 ≤ 2720; omega, by show kb + 12 + 12 + 12 + 12 + 12 + 12 ≤ 16320; omega⟩ dL_isSo_273 (fun _ => ?_) (fun E9 x9 => by cases x9)
  refine hq_if_lt (tgt := 324) C dL_isSo_276 (by decide) (fun c_276 => absurd c_276 (nI_pos (by omega))) (fun c_276 => ?_)
  refine hq_lload (q := 2) C dL_isSo_279 rfl ?_
  refine hq_lconst (y := 1) C dL_isSo_281 rfl ?_
  refine hq_lcmp C dL_isSo_282 ?_
  refine hq_if_ne (tgt := 300) C dL_isSo_283 (by decide) (fun c_283 => ?_) (fun c_283 => absurd c_283 hs1)
  refine hq_lload (q := 2) C dL_isSo_300 rfl ?_
  refine hq_lconst (y := 0) C dL_isSo_302 rfl ?_
  refine hq_lcmp C dL_isSo_303 ?_
  refine hq_if_ne (tgt := 320) C dL_isSo_304 (by decide) (fun c_304 => absurd hs0 c_304) (fun c_304 => ?_)
  refine hq_aload_n (q := 6) C dL_isSo_307 rfl rfl ?_
  refine hq_iload (q := 3) C dL_isSo_308 rfl ?_
  refine hq_iload (q := 0) C dL_isSo_310 rfl ?_
  refine hq_iconst (y := 1) C dL_isSo_312 (by decide) ?_
  refine hq_iadd C dL_isSo_313 ?_
  refine hq_cVXr (As := [.int _, .int _]) (rm := rX5_wayOf) (f := 0) (Nc := 1) C (d_wayOf hlt h hw1 hu1) wv_X5_wayOf ml_L_82 rfl rfl rfl Nat.one_pos rfl rfl rfl rfl ⟨Nat.le_of_ble_eq_true rfl, Nat.le_of_ble_eq_true rfl⟩ (Nat.le_of_ble_eq_true rfl) ⟨by show ka + 2 + 2 + 2 + 2 + 2 + 2 + 2 ≤ 2720; omega, by show kb + 12 + 12 + 12 + 12 + 12 + 12 + 12 ≤ 16320; omega⟩ dL_isSo_314 (fun _ => ?_) (fun E9 x9 => by cases x9)
  refine hq_if_lt (tgt := 324) C dL_isSo_317 (by decide) (fun c_317 => absurd c_317 (nI_pos (by omega))) (fun c_317 => ?_)
  refine hq_iconst (y := 1) C dL_isSo_320 (by decide) ?_
  refine hq_goto (tgt := 325) C dL_isSo_321 (by decide) ?_
  refine hq_istore_n (L' := [(3, .int _), (11, .int _), (6, .long _), (9, .long _), (8, .int _), (4, .long _), (0, .ref _), (1, .long _)]) C dL_isSo_325 rfl (by decide) rfl ?_
  refine hq_iinc (q := 4) (y := nI (_ + 1)) (L' := [(8, .int _), (3, .int _), (11, .int _), (6, .long _), (9, .long _), (4, .long _), (0, .ref _), (1, .long _)]) C dL_isSo_326 rfl (hw_inc _) (by decide) rfl ?_
  refine hq_goto (tgt := 193) C dL_isSo_329 (by decide) ?_
  refine hq_perm [0, 1, 3, 5, 6, 7] (L' := [(8, .int (nI (i + 1))), (3, .int 1), (6, .long (G + gn.toInt64)), (4, .long W), (0, .ref (hw_ad b0 0 0)), (1, .long told)]) rfl ?_
  exact hq_widen (by show ka + 2 + 2 + 2 + 2 + 2 + 2 + 2 ≤ ka + 16; omega) (by show kb + 12 + 12 + 12 + 12 + 12 + 12 + 12 ≤ kb + 96; omega) kk
set_option maxHeartbeats 4000000 in
set_option maxRecDepth 100000 in
theorem so_ord_b {p : Program} {l : Launch} {e : Env} {s : State} {m : MethodId} {args : Array Value} {below : List Frame} {meth : Method} {c : Code} {Q : State → Prop} {D : va_G} {b0 ka kb k nb no nc : Nat} {I P X : MI} {J N Y : MJ} {o told W : Int64} (hlt : l.stackTraces = false) (C : hw_C p s m args c D b0 cL_isSo RL 12) (h : IV k nb no nc I J P N) {i pl w0 : Nat} {sv am gn : Int32} {G : Int64} (hi : i < 40) (hf : ka + 16 ≤ 2720 ∧ kb + 96 ≤ 16320) (he0 : e_orderOf I (nI i) 0 = none) (he1 : e_orderOf I (nI i) 1 = none) (he2 : e_orderOf I (nI i) 2 = none) (he3 : e_orderOf I (nI i) 3 = none) (hv0 : r_orderOf I (nI i) 0 = sv) (hv1 : r_orderOf I (nI i) 1 = am) (hv2 : r_orderOf I (nI i) 2 = gn) (hv3 : r_orderOf I (nI i) 3 = nI pl) (hx0 : ¬ lg_cmp sv.toInt64 0 < 0) (hx5 : ¬ 0 < lg_cmp sv.toInt64 5) (hge : ¬ gn < am) (hw0 : e_wayOf I (nI i) (nI pl) = none) (hu0 : r_wayOf I (nI i) (nI pl) = nI w0) (hw9 : w0 < 12) (hs1 : lg_cmp sv.toInt64 1 = 0) (hs0 : ¬ lg_cmp sv.toInt64 0 = 0) (hw1 : e_wayOf I (nI i) (nI pl + 1) = none) (hu1 : r_wayOf I (nI i) (nI pl + 1) = -1) (kk : hw_V p l e rS s m args below meth c Q D b0 12 false (ka + 16) (kb + 96) (hw_n o) 193 [(8, .int (nI (i + 1))), (3, .int 1), (6, .long (G + gn.toInt64)), (4, .long W), (0, .ref (hw_ad b0 0 0)), (1, .long told)] [] (hw_vl b0 I J X Y o)) : hw_V p l e rS s m args below meth c Q D b0 12 false ka kb (hw_n o) 193 [(8, .int (nI i)), (3, .int 1), (6, .long G), (4, .long W), (0, .ref (hw_ad b0 0 0)), (1, .long told)] [] (hw_vl b0 I J X Y o) := by
  obtain ⟨hf1, hf2⟩ := hf
  refine hq_iload (q := 0) C dL_isSo_193 rfl ?_
  refine hq_bipush (y := 40) C dL_isSo_195 (by decide) ?_
  refine hq_icmp_ge (tgt := 332) C dL_isSo_197 (by decide) (fun c_197 => absurd c_197 (nI_ge (b := 40) (by omega) (by omega))) (fun c_197 => ?_)
  refine hq_iload_n (q := 1) C dL_isSo_200 rfl rfl ?_
  refine hq_if_eq (tgt := 332) C dL_isSo_201 (by decide) (fun c_201 => absurd c_201 (by decide)) (fun _ => ?_)
  refine hq_aload_n (q := 4) C dL_isSo_204 rfl rfl ?_
  refine hq_iload (q := 0) C dL_isSo_205 rfl ?_
  refine hq_iconst (y := 0) C dL_isSo_207 (by decide) ?_
  refine hq_cSLr (As := [.ref _, .int _, .int _]) (rm := rL_orderOf) (Cn := "") C ((w_orderOf h he0 hv0) l D b0 X Y o hlt) ws_L_orderOf ml_L_144 rfl rfl rfl rfl ⟨Nat.le_of_ble_eq_true rfl, Nat.le_of_ble_eq_true rfl⟩ (Nat.le_of_ble_eq_true rfl) ⟨by show ka + 2 ≤ 2720; omega, by show kb + 12 ≤ 16320; omega⟩ dL_isSo_208 ?_
  refine hq_lstore (L' := [(9, .long _), (8, .int _), (3, .int _), (6, .long _), (4, .long _), (0, .ref _), (1, .long _)]) C dL_isSo_211 (by decide) rfl ?_
  refine hq_lload (q := 0) C dL_isSo_213 rfl ?_
  refine hq_lconst (y := 0) C dL_isSo_215 rfl ?_
  refine hq_lcmp C dL_isSo_216 ?_
  refine hq_if_lt (tgt := 326) C dL_isSo_217 (by decide) (fun c_217 => absurd c_217 hx0) (fun c_217 => ?_)
  refine hq_lload (q := 3) C dL_isSo_220 rfl ?_
  refine hq_aload_n (q := 5) C dL_isSo_222 rfl rfl ?_
  refine hq_iload (q := 1) C dL_isSo_223 rfl ?_
  refine hq_iconst (y := 2) C dL_isSo_225 (by decide) ?_
  refine hq_cVXr (As := [.int _, .int _]) (rm := rX5_orderOf) (f := 0) (Nc := 1) C (d_orderOf hlt h he2 hv2) wv_X5_orderOf ml_L_85 rfl rfl rfl Nat.one_pos rfl rfl rfl rfl ⟨Nat.le_of_ble_eq_true rfl, Nat.le_of_ble_eq_true rfl⟩ (Nat.le_of_ble_eq_true rfl) ⟨by show ka + 2 + 2 ≤ 2720; omega, by show kb + 12 + 12 ≤ 16320; omega⟩ dL_isSo_226 (fun _ => ?_) (fun E9 x9 => by cases x9)
  refine hq_i2l C dL_isSo_229 ?_
  refine hq_ladd C dL_isSo_230 ?_
  refine hq_lstore (L' := [(6, .long _), (9, .long _), (8, .int _), (3, .int _), (4, .long _), (0, .ref _), (1, .long _)]) C dL_isSo_231 (by decide) rfl ?_
  refine hq_aload_n (q := 5) C dL_isSo_233 rfl rfl ?_
  refine hq_iload (q := 2) C dL_isSo_234 rfl ?_
  refine hq_iconst (y := 3) C dL_isSo_236 (by decide) ?_
  refine hq_cVXr (As := [.int _, .int _]) (rm := rX5_orderOf) (f := 0) (Nc := 1) C (d_orderOf hlt h he3 hv3) wv_X5_orderOf ml_L_85 rfl rfl rfl Nat.one_pos rfl rfl rfl rfl ⟨Nat.le_of_ble_eq_true rfl, Nat.le_of_ble_eq_true rfl⟩ (Nat.le_of_ble_eq_true rfl) ⟨by show ka + 2 + 2 + 2 ≤ 2720; omega, by show kb + 12 + 12 + 12 ≤ 16320; omega⟩ dL_isSo_237 (fun _ => ?_) (fun E9 x9 => by cases x9)
  refine hq_istore (L' := [(11, .int _), (6, .long _), (9, .long _), (8, .int _), (3, .int _), (4, .long _), (0, .ref _), (1, .long _)]) C dL_isSo_240 (by decide) rfl ?_
  refine hq_lload (q := 2) C dL_isSo_242 rfl ?_
  refine hq_ldc2 C wc_L_157 dL_isSo_244 ?_
  refine hq_lcmp C dL_isSo_247 ?_
  refine hq_if_gt (tgt := 324) C dL_isSo_248 (by decide) (fun c_248 => absurd c_248 hx5) (fun c_248 => ?_)
  refine hq_aload_n (q := 6) C dL_isSo_251 rfl rfl ?_
  refine hq_iload (q := 3) C dL_isSo_252 rfl ?_
  refine hq_iconst (y := 2) C dL_isSo_254 (by decide) ?_
  refine hq_cVXr (As := [.int _, .int _]) (rm := rX5_orderOf) (f := 0) (Nc := 1) C (d_orderOf hlt h he2 hv2) wv_X5_orderOf ml_L_85 rfl rfl rfl Nat.one_pos rfl rfl rfl rfl ⟨Nat.le_of_ble_eq_true rfl, Nat.le_of_ble_eq_true rfl⟩ (Nat.le_of_ble_eq_true rfl) ⟨by show ka + 2 + 2 + 2 + 2 ≤ 2720; omega, by show kb + 12 + 12 + 12 + 12 ≤ 16320; omega⟩ dL_isSo_255 (fun _ => ?_) (fun E9 x9 => by cases x9)
  refine hq_aload_n (q := 6) C dL_isSo_258 rfl rfl ?_
  refine hq_iload (q := 3) C dL_isSo_259 rfl ?_
  refine hq_iconst (y := 1) C dL_isSo_261 (by decide) ?_
  refine hq_cVXr (As := [.int _, .int _]) (rm := rX5_orderOf) (f := 0) (Nc := 1) C (d_orderOf hlt h he1 hv1) wv_X5_orderOf ml_L_85 rfl rfl rfl Nat.one_pos rfl rfl rfl rfl ⟨Nat.le_of_ble_eq_true rfl, Nat.le_of_ble_eq_true rfl⟩ (Nat.le_of_ble_eq_true rfl) ⟨by show ka + 2 + 2 + 2 + 2 + 2 ≤ 2720; omega, by show kb + 12 + 12 + 12 + 12 + 12 ≤ 16320; omega⟩ dL_isSo_262 (fun _ => ?_) (fun E9 x9 => by cases x9)
  refine hq_icmp_lt (tgt := 324) C dL_isSo_265 (by decide) (fun c_265 => absurd c_265 hge) (fun c_265 => ?_)
  refine hq_aload_n (q := 6) C dL_isSo_268 rfl rfl ?_
  refine hq_iload (q := 3) C dL_isSo_269 rfl ?_
  refine hq_iload (q := 0) C dL_isSo_271 rfl ?_
  refine hq_cVXr (As := [.int _, .int _]) (rm := rX5_wayOf) (f := 0) (Nc := 1) C (d_wayOf hlt h hw0 hu0) wv_X5_wayOf ml_L_82 rfl rfl rfl Nat.one_pos rfl rfl rfl rfl ⟨Nat.le_of_ble_eq_true rfl, Nat.le_of_ble_eq_true rfl⟩ (Nat.le_of_ble_eq_true rfl) ⟨by show ka + 2 + 2 + 2 + 2 + 2 + 2 ≤ 2720; omega, by show kb + 12 + 12 + 12 + 12 + 12 + 12 ≤ 16320; omega⟩ dL_isSo_273 (fun _ => ?_) (fun E9 x9 => by cases x9)
  refine hq_if_lt (tgt := 324) C dL_isSo_276 (by decide) (fun c_276 => absurd c_276 (nI_pos (by omega))) (fun c_276 => ?_)
  refine hq_lload (q := 2) C dL_isSo_279 rfl ?_
  refine hq_lconst (y := 1) C dL_isSo_281 rfl ?_
  refine hq_lcmp C dL_isSo_282 ?_
  refine hq_if_ne (tgt := 300) C dL_isSo_283 (by decide) (fun c_283 => absurd hs1 c_283) (fun c_283 => ?_)
  refine hq_aload_n (q := 6) C dL_isSo_286 rfl rfl ?_
  refine hq_iload (q := 3) C dL_isSo_287 rfl ?_
  refine hq_iload (q := 0) C dL_isSo_289 rfl ?_
  refine hq_iconst (y := 1) C dL_isSo_291 (by decide) ?_
  refine hq_iadd C dL_isSo_292 ?_
  refine hq_cVXr (As := [.int _, .int _]) (rm := rX5_wayOf) (f := 0) (Nc := 1) C (d_wayOf hlt h hw1 hu1) wv_X5_wayOf ml_L_82 rfl rfl rfl Nat.one_pos rfl rfl rfl rfl ⟨Nat.le_of_ble_eq_true rfl, Nat.le_of_ble_eq_true rfl⟩ (Nat.le_of_ble_eq_true rfl) ⟨by show ka + 2 + 2 + 2 + 2 + 2 + 2 + 2 ≤ 2720; omega, by show kb + 12 + 12 + 12 + 12 + 12 + 12 + 12 ≤ 16320; omega⟩ dL_isSo_293 (fun _ => ?_) (fun E9 x9 => by cases x9)
  refine hq_iconst (y := -1) C dL_isSo_296 (by decide) ?_
  refine hq_icmp_ne (tgt := 324) C dL_isSo_297 (by decide) (fun c_297 => absurd rfl c_297) (fun c_297 => ?_)
  refine hq_lload (q := 2) C dL_isSo_300 rfl ?_
  refine hq_lconst (y := 0) C dL_isSo_302 rfl ?_
  refine hq_lcmp C dL_isSo_303 ?_
  refine hq_if_ne (tgt := 320) C dL_isSo_304 (by decide) (fun c_304 => ?_) (fun c_304 => absurd c_304 hs0)
  refine hq_iconst (y := 1) C dL_isSo_320 (by decide) ?_
  refine hq_goto (tgt := 325) C dL_isSo_321 (by decide) ?_
  refine hq_istore_n (L' := [(3, .int _), (11, .int _), (6, .long _), (9, .long _), (8, .int _), (4, .long _), (0, .ref _), (1, .long _)]) C dL_isSo_325 rfl (by decide) rfl ?_
  refine hq_iinc (q := 4) (y := nI (_ + 1)) (L' := [(8, .int _), (3, .int _), (11, .int _), (6, .long _), (9, .long _), (4, .long _), (0, .ref _), (1, .long _)]) C dL_isSo_326 rfl (hw_inc _) (by decide) rfl ?_
  refine hq_goto (tgt := 193) C dL_isSo_329 (by decide) ?_
  refine hq_perm [0, 1, 3, 5, 6, 7] (L' := [(8, .int (nI (i + 1))), (3, .int 1), (6, .long (G + gn.toInt64)), (4, .long W), (0, .ref (hw_ad b0 0 0)), (1, .long told)]) rfl ?_
  exact hq_widen (by show ka + 2 + 2 + 2 + 2 + 2 + 2 + 2 ≤ ka + 16; omega) (by show kb + 12 + 12 + 12 + 12 + 12 + 12 + 12 ≤ kb + 96; omega) kk
set_option maxHeartbeats 4000000 in
set_option maxRecDepth 100000 in
theorem so_ord_c {p : Program} {l : Launch} {e : Env} {s : State} {m : MethodId} {args : Array Value} {below : List Frame} {meth : Method} {c : Code} {Q : State → Prop} {D : va_G} {b0 ka kb k nb no nc : Nat} {I P X : MI} {J N Y : MJ} {o told W : Int64} (hlt : l.stackTraces = false) (C : hw_C p s m args c D b0 cL_isSo RL 12) (h : IV k nb no nc I J P N) {i pl w0 : Nat} {sv am gn : Int32} {G : Int64} (hi : i < 40) (hf : ka + 16 ≤ 2720 ∧ kb + 96 ≤ 16320) (he0 : e_orderOf I (nI i) 0 = none) (he1 : e_orderOf I (nI i) 1 = none) (he2 : e_orderOf I (nI i) 2 = none) (he3 : e_orderOf I (nI i) 3 = none) (hv0 : r_orderOf I (nI i) 0 = sv) (hv1 : r_orderOf I (nI i) 1 = am) (hv2 : r_orderOf I (nI i) 2 = gn) (hv3 : r_orderOf I (nI i) 3 = nI pl) (hx0 : ¬ lg_cmp sv.toInt64 0 < 0) (hx5 : ¬ 0 < lg_cmp sv.toInt64 5) (hge : ¬ gn < am) (hw0 : e_wayOf I (nI i) (nI pl) = none) (hu0 : r_wayOf I (nI i) (nI pl) = nI w0) (hw9 : w0 < 12) (hs1 : ¬ lg_cmp sv.toInt64 1 = 0) (hs0 : ¬ lg_cmp sv.toInt64 0 = 0) (kk : hw_V p l e rS s m args below meth c Q D b0 12 false (ka + 16) (kb + 96) (hw_n o) 193 [(8, .int (nI (i + 1))), (3, .int 1), (6, .long (G + gn.toInt64)), (4, .long W), (0, .ref (hw_ad b0 0 0)), (1, .long told)] [] (hw_vl b0 I J X Y o)) : hw_V p l e rS s m args below meth c Q D b0 12 false ka kb (hw_n o) 193 [(8, .int (nI i)), (3, .int 1), (6, .long G), (4, .long W), (0, .ref (hw_ad b0 0 0)), (1, .long told)] [] (hw_vl b0 I J X Y o) := by
  obtain ⟨hf1, hf2⟩ := hf
  refine hq_iload (q := 0) C dL_isSo_193 rfl ?_
  refine hq_bipush (y := 40) C dL_isSo_195 (by decide) ?_
  refine hq_icmp_ge (tgt := 332) C dL_isSo_197 (by decide) (fun c_197 => absurd c_197 (nI_ge (b := 40) (by omega) (by omega))) (fun c_197 => ?_)
  refine hq_iload_n (q := 1) C dL_isSo_200 rfl rfl ?_
  refine hq_if_eq (tgt := 332) C dL_isSo_201 (by decide) (fun c_201 => absurd c_201 (by decide)) (fun _ => ?_)
  refine hq_aload_n (q := 4) C dL_isSo_204 rfl rfl ?_
  refine hq_iload (q := 0) C dL_isSo_205 rfl ?_
  refine hq_iconst (y := 0) C dL_isSo_207 (by decide) ?_
  refine hq_cSLr (As := [.ref _, .int _, .int _]) (rm := rL_orderOf) (Cn := "") C ((w_orderOf h he0 hv0) l D b0 X Y o hlt) ws_L_orderOf ml_L_144 rfl rfl rfl rfl ⟨Nat.le_of_ble_eq_true rfl, Nat.le_of_ble_eq_true rfl⟩ (Nat.le_of_ble_eq_true rfl) ⟨by show ka + 2 ≤ 2720; omega, by show kb + 12 ≤ 16320; omega⟩ dL_isSo_208 ?_
  refine hq_lstore (L' := [(9, .long _), (8, .int _), (3, .int _), (6, .long _), (4, .long _), (0, .ref _), (1, .long _)]) C dL_isSo_211 (by decide) rfl ?_
  refine hq_lload (q := 0) C dL_isSo_213 rfl ?_
  refine hq_lconst (y := 0) C dL_isSo_215 rfl ?_
  refine hq_lcmp C dL_isSo_216 ?_
  refine hq_if_lt (tgt := 326) C dL_isSo_217 (by decide) (fun c_217 => absurd c_217 hx0) (fun c_217 => ?_)
  refine hq_lload (q := 3) C dL_isSo_220 rfl ?_
  refine hq_aload_n (q := 5) C dL_isSo_222 rfl rfl ?_
  refine hq_iload (q := 1) C dL_isSo_223 rfl ?_
  refine hq_iconst (y := 2) C dL_isSo_225 (by decide) ?_
  refine hq_cVXr (As := [.int _, .int _]) (rm := rX5_orderOf) (f := 0) (Nc := 1) C (d_orderOf hlt h he2 hv2) wv_X5_orderOf ml_L_85 rfl rfl rfl Nat.one_pos rfl rfl rfl rfl ⟨Nat.le_of_ble_eq_true rfl, Nat.le_of_ble_eq_true rfl⟩ (Nat.le_of_ble_eq_true rfl) ⟨by show ka + 2 + 2 ≤ 2720; omega, by show kb + 12 + 12 ≤ 16320; omega⟩ dL_isSo_226 (fun _ => ?_) (fun E9 x9 => by cases x9)
  refine hq_i2l C dL_isSo_229 ?_
  refine hq_ladd C dL_isSo_230 ?_
  refine hq_lstore (L' := [(6, .long _), (9, .long _), (8, .int _), (3, .int _), (4, .long _), (0, .ref _), (1, .long _)]) C dL_isSo_231 (by decide) rfl ?_
  refine hq_aload_n (q := 5) C dL_isSo_233 rfl rfl ?_
  refine hq_iload (q := 2) C dL_isSo_234 rfl ?_
  refine hq_iconst (y := 3) C dL_isSo_236 (by decide) ?_
  refine hq_cVXr (As := [.int _, .int _]) (rm := rX5_orderOf) (f := 0) (Nc := 1) C (d_orderOf hlt h he3 hv3) wv_X5_orderOf ml_L_85 rfl rfl rfl Nat.one_pos rfl rfl rfl rfl ⟨Nat.le_of_ble_eq_true rfl, Nat.le_of_ble_eq_true rfl⟩ (Nat.le_of_ble_eq_true rfl) ⟨by show ka + 2 + 2 + 2 ≤ 2720; omega, by show kb + 12 + 12 + 12 ≤ 16320; omega⟩ dL_isSo_237 (fun _ => ?_) (fun E9 x9 => by cases x9)
  refine hq_istore (L' := [(11, .int _), (6, .long _), (9, .long _), (8, .int _), (3, .int _), (4, .long _), (0, .ref _), (1, .long _)]) C dL_isSo_240 (by decide) rfl ?_
  refine hq_lload (q := 2) C dL_isSo_242 rfl ?_
  refine hq_ldc2 C wc_L_157 dL_isSo_244 ?_
  refine hq_lcmp C dL_isSo_247 ?_
  refine hq_if_gt (tgt := 324) C dL_isSo_248 (by decide) (fun c_248 => absurd c_248 hx5) (fun c_248 => ?_)
  refine hq_aload_n (q := 6) C dL_isSo_251 rfl rfl ?_
  refine hq_iload (q := 3) C dL_isSo_252 rfl ?_
  refine hq_iconst (y := 2) C dL_isSo_254 (by decide) ?_
  refine hq_cVXr (As := [.int _, .int _]) (rm := rX5_orderOf) (f := 0) (Nc := 1) C (d_orderOf hlt h he2 hv2) wv_X5_orderOf ml_L_85 rfl rfl rfl Nat.one_pos rfl rfl rfl rfl ⟨Nat.le_of_ble_eq_true rfl, Nat.le_of_ble_eq_true rfl⟩ (Nat.le_of_ble_eq_true rfl) ⟨by show ka + 2 + 2 + 2 + 2 ≤ 2720; omega, by show kb + 12 + 12 + 12 + 12 ≤ 16320; omega⟩ dL_isSo_255 (fun _ => ?_) (fun E9 x9 => by cases x9)
  refine hq_aload_n (q := 6) C dL_isSo_258 rfl rfl ?_
  refine hq_iload (q := 3) C dL_isSo_259 rfl ?_
  refine hq_iconst (y := 1) C dL_isSo_261 (by decide) ?_
  refine hq_cVXr (As := [.int _, .int _]) (rm := rX5_orderOf) (f := 0) (Nc := 1) C (d_orderOf hlt h he1 hv1) wv_X5_orderOf ml_L_85 rfl rfl rfl Nat.one_pos rfl rfl rfl rfl ⟨Nat.le_of_ble_eq_true rfl, Nat.le_of_ble_eq_true rfl⟩ (Nat.le_of_ble_eq_true rfl) ⟨by show ka + 2 + 2 + 2 + 2 + 2 ≤ 2720; omega, by show kb + 12 + 12 + 12 + 12 + 12 ≤ 16320; omega⟩ dL_isSo_262 (fun _ => ?_) (fun E9 x9 => by cases x9)
  refine hq_icmp_lt (tgt := 324) C dL_isSo_265 (by decide) (fun c_265 => absurd c_265 hge) (fun c_265 => ?_)
  refine hq_aload_n (q := 6) C dL_isSo_268 rfl rfl ?_
  refine hq_iload (q := 3) C dL_isSo_269 rfl ?_
  refine hq_iload (q := 0) C dL_isSo_271 rfl ?_
  refine hq_cVXr (As := [.int _, .int _]) (rm := rX5_wayOf) (f := 0) (Nc := 1) C (d_wayOf hlt h hw0 hu0) wv_X5_wayOf ml_L_82 rfl rfl rfl Nat.one_pos rfl rfl rfl rfl ⟨Nat.le_of_ble_eq_true rfl, Nat.le_of_ble_eq_true rfl⟩ (Nat.le_of_ble_eq_true rfl) ⟨by show ka + 2 + 2 + 2 + 2 + 2 + 2 ≤ 2720; omega, by show kb + 12 + 12 + 12 + 12 + 12 + 12 ≤ 16320; omega⟩ dL_isSo_273 (fun _ => ?_) (fun E9 x9 => by cases x9)
  refine hq_if_lt (tgt := 324) C dL_isSo_276 (by decide) (fun c_276 => absurd c_276 (nI_pos (by omega))) (fun c_276 => ?_)
  refine hq_lload (q := 2) C dL_isSo_279 rfl ?_
  refine hq_lconst (y := 1) C dL_isSo_281 rfl ?_
  refine hq_lcmp C dL_isSo_282 ?_
  refine hq_if_ne (tgt := 300) C dL_isSo_283 (by decide) (fun c_283 => ?_) (fun c_283 => absurd c_283 hs1)
  refine hq_lload (q := 2) C dL_isSo_300 rfl ?_
  refine hq_lconst (y := 0) C dL_isSo_302 rfl ?_
  refine hq_lcmp C dL_isSo_303 ?_
  refine hq_if_ne (tgt := 320) C dL_isSo_304 (by decide) (fun c_304 => ?_) (fun c_304 => absurd c_304 hs0)
  refine hq_iconst (y := 1) C dL_isSo_320 (by decide) ?_
  refine hq_goto (tgt := 325) C dL_isSo_321 (by decide) ?_
  refine hq_istore_n (L' := [(3, .int _), (11, .int _), (6, .long _), (9, .long _), (8, .int _), (4, .long _), (0, .ref _), (1, .long _)]) C dL_isSo_325 rfl (by decide) rfl ?_
  refine hq_iinc (q := 4) (y := nI (_ + 1)) (L' := [(8, .int _), (3, .int _), (11, .int _), (6, .long _), (9, .long _), (4, .long _), (0, .ref _), (1, .long _)]) C dL_isSo_326 rfl (hw_inc _) (by decide) rfl ?_
  refine hq_goto (tgt := 193) C dL_isSo_329 (by decide) ?_
  refine hq_perm [0, 1, 3, 5, 6, 7] (L' := [(8, .int (nI (i + 1))), (3, .int 1), (6, .long (G + gn.toInt64)), (4, .long W), (0, .ref (hw_ad b0 0 0)), (1, .long told)]) rfl ?_
  exact hq_widen (by show ka + 2 + 2 + 2 + 2 + 2 + 2 ≤ ka + 16; omega) (by show kb + 12 + 12 + 12 + 12 + 12 + 12 ≤ kb + 96; omega) kk
theorem so_ord {p : Program} {l : Launch} {e : Env} {s : State} {m : MethodId} {args : Array Value} {below : List Frame} {meth : Method} {c : Code} {Q : State → Prop} {D : va_G} {b0 ka kb k nb no nc : Nat} {I P X : MI} {J N Y : MJ} {o told W : Int64} (hlt : l.stackTraces = false) (C : hw_C p s m args c D b0 cL_isSo RL 12) (h : IV k nb no nc I J P N) {i : Nat} {G : Int64} (hi : i < 40) (hg : GI nb no nc P) (hf : ka + 16 ≤ 2720 ∧ kb + 96 ≤ 16320) (kk : hw_V p l e rS s m args below meth c Q D b0 12 false (ka + 16) (kb + 96) (hw_n o) 193 [(8, .int (nI (i + 1))), (3, .int 1), (6, .long (G + gv I no i)), (4, .long W), (0, .ref (hw_ad b0 0 0)), (1, .long told)] [] (hw_vl b0 I J X Y o)) : hw_V p l e rS s m args below meth c Q D b0 12 false ka kb (hw_n o) 193 [(8, .int (nI i)), (3, .int 1), (6, .long G), (4, .long W), (0, .ref (hw_ad b0 0 0)), (1, .long told)] [] (hw_vl b0 I J X Y o) := by
  have hoc : I 1 0 = nI no := h.ci.1.2.1.1
  have hno : no ≤ 40 := h.ci.1.2.1.2
  have ti : tn (nI i) = i := nI_clamp (by omega)
  by_cases c1 : i < no
  · have hx := ix_y (g := 1) hoc hno c1
    have eo : ∀ y : Int32, sx_rg y 0 5 = none → e_orderOf I (nI i) y = none := fun y hy => by simp [e_orderOf, hx_or, hx, hy]
    have gvy : gv I no i = (I 14 i).toInt64 := if_pos c1
    rw [gvy] at kk
    have hor := h.ci.1.2.2.2.2.2.1 i c1
    have hln := hor.1.1
    have hpl := hor.2.2.2
    have h17 := hor.2.2.1
    have h19 := hor.1.2.1
    have hok := hor.1.2.2
    obtain ⟨s9, s5, es⟩ := h.1.2.2.1.2 i c1
    have p16 : P 16 i = I 16 i := h.ints 16 i (by unfold shd; omega)
    have p17 : P 17 i = I 17 i := h.ints 17 i (by unfold shd; omega)
    have p19 : P 19 i = I 19 i := h.ints 19 i (by unfold shd; omega)
    have epl : hw_pl P i = hw_pl I i := by unfold hw_pl; rw [p17]
    have eln : hw_ln P i = hw_ln I i := by unfold hw_ln; rw [p19]
    have hgm : ¬ I 14 i < I 12 i := by
      have := hg.2.2 i c1
      rw [h.ints 12 i (by unfold shd; omega), h.ints 14 i (by unfold shd; omega)] at this
      exact Int32.not_lt.mpr this
    have hst0 : I 16 i = 0 → hw_pl I i < hw_ln I i := fun z => by
      rw [← epl, ← eln]
      exact h.pv.2.2.2.2.2 i c1 (p16.trans z)
    have hst1 : I 16 i = 1 → hw_pl I i = hw_ln I i := fun z => by
      rw [← epl, ← eln]
      exact hg.1 i c1 (p16.trans z)
    have v0 : r_orderOf I (nI i) 0 = nI s9 := by
      show I 16 (tn (nI i)) = nI s9
      rw [ti]
      exact es
    have v1 : r_orderOf I (nI i) 1 = I 12 i := by
      show I 12 (tn (nI i)) = I 12 i
      rw [ti]
    have v2 : r_orderOf I (nI i) 2 = I 14 i := by
      show I 14 (tn (nI i)) = I 14 i
      rw [ti]
    generalize hw_pl I i = pl at *
    generalize hw_ln I i = ln at *
    have v3 : r_orderOf I (nI i) 3 = nI pl := by
      show I 17 (tn (nI i)) = nI pl
      rw [ti, h17]
    have wy : ∀ q : Nat, q < 100 → e_wayOf I (nI i) (nI q) = none := fun q hq => by
      have : sx_pl (nI q) = none := if_pos (nI_pos' (by omega))
      simp [e_wayOf, hx_or, hx, this]
    have wr : ∀ q : Nat, q ≤ ln → ∃ w : Nat, w < 12 ∧ r_wayOf I (nI i) (nI q) = nI w := fun q hq => by
      obtain ⟨w, w1, w2⟩ := hok q hq
      refine ⟨w, w1, ?_⟩
      unfold r_wayOf
      rw [ti, show tn (nI q) = q from nI_clamp (by omega), h19, if_neg (nI_ge (by omega) (by omega))]
      exact w2
    have wn : r_wayOf I (nI i) (nI (ln + 1)) = -1 := by
      unfold r_wayOf
      rw [ti, h19, if_pos (nI_le (by omega) (by omega))]
    obtain ⟨w0, hw9, hu0⟩ := wr pl hpl
    have e17 : nI pl + 1 = nI (pl + 1) := nI_1 pl
    rcases (show s9 = 0 ∨ s9 = 1 ∨ s9 = 2 ∨ s9 = 3 ∨ s9 = 4 ∨ s9 = 5 by omega) with rfl | rfl | rfl | rfl | rfl | rfl
    · have hlt2 := hst0 es
      obtain ⟨w1, hw8, hu1⟩ := wr (pl + 1) (by omega)
      exact so_ord_a hlt C h hi hf (eo 0 (by decide)) (eo 1 (by decide)) (eo 2 (by decide)) (eo 3 (by decide)) v0 v1 v2 v3 (by decide) (by decide) hgm (wy pl (by omega)) hu0 hw9 (by decide) (by decide) (by rw [e17]; exact wy _ (by omega)) (by rw [e17]; exact hu1) hw8 kk
    · have hlt2 := hst1 es
      subst hlt2
      exact so_ord_b hlt C h hi hf (eo 0 (by decide)) (eo 1 (by decide)) (eo 2 (by decide)) (eo 3 (by decide)) v0 v1 v2 v3 (by decide) (by decide) hgm (wy _ (by omega)) hu0 hw9 (by decide) (by decide) (by rw [e17]; exact wy _ (by omega)) (by rw [e17]; exact wn) kk
    all_goals exact so_ord_c hlt C h hi hf (eo 0 (by decide)) (eo 1 (by decide)) (eo 2 (by decide)) (eo 3 (by decide)) v0 v1 v2 v3 (by decide) (by decide) hgm (wy pl (by omega)) hu0 hw9 (by decide) (by decide) kk
  · have hx := ix_n (g := 1) hoc hno (show no ≤ i by omega) (by omega)
    have e9 : G + gv I no i = G := by
      rw [show gv I no i = 0 from if_neg c1]
      grind
    rw [e9] at kk
    exact so_ord_n hlt C h hi hf (by simp [e_orderOf, hx_or, hx]) kk
theorem so_orders {p : Program} {l : Launch} {e : Env} {s : State} {m : MethodId} {args : Array Value} {below : List Frame} {meth : Method} {c : Code} {Q : State → Prop} {D : va_G} {b0 ka kb k nb no nc : Nat} {I P X : MI} {J N Y : MJ} {o told W : Int64} (hlt : l.stackTraces = false) (C : hw_C p s m args c D b0 cL_isSo RL 12) (h : IV k nb no nc I J P N) (hg : GI nb no nc P) (hf : ka + 640 ≤ 2720 ∧ kb + 3840 ≤ 16320) (kk : hw_V p l e rS s m args below meth c Q D b0 12 false (ka + 640) (kb + 3840) (hw_n o) 332 [(8, .int (nI 40)), (3, .int 1), (6, .long (SM (gv I no) 40)), (4, .long W), (0, .ref (hw_ad b0 0 0)), (1, .long told)] [] (hw_vl b0 I J X Y o)) : ∀ r i : Nat, r + i = 40 → hw_V p l e rS s m args below meth c Q D b0 12 false (ka + 16 * i) (kb + 96 * i) (hw_n o) 193 [(8, .int (nI i)), (3, .int 1), (6, .long (SM (gv I no) i)), (4, .long W), (0, .ref (hw_ad b0 0 0)), (1, .long told)] [] (hw_vl b0 I J X Y o) := by
  intro r
  induction r with
  | zero =>
    intro i hi
    obtain rfl : i = 40 := by omega
    refine hq_iload (q := 0) C dL_isSo_193 rfl ?_
    refine hq_bipush (y := 40) C dL_isSo_195 (by decide) ?_
    refine hq_icmp_ge (tgt := 332) C dL_isSo_197 (by decide) (fun _ => ?_) (fun c_9 => absurd (show (40 : Int32) ≤ nI 40 by decide) c_9)
    exact hq_widen (by omega) (by omega) kk
  | succ r ih =>
    intro i hi
    have := ih (i + 1) (by omega)
    rw [SM_s] at this
    exact so_ord hlt C h (by omega) hg ⟨by omega, by omega⟩ (hq_widen (by omega) (by omega) this)
set_option maxHeartbeats 4000000 in
set_option maxRecDepth 100000 in
theorem m_L_isSo {l : Launch} {D : va_G} {b0 k nb no nc : Nat} {I P X : MI} {J N Y : MJ} {o : Int64} (hlt : l.stackTraces = false) (h : IV k nb no nc I J P N) (hk9 : k ≤ 150) (hg : GI nb no nc P) : hw_MX l yL_isSo wL_isSo rS D b0 (hw_n o) [.ref (hw_ad b0 0 0), .long (gm nb nc P N)] (hw_vl b0 I J X Y o) none (some (.int 1)) (hw_vl b0 I J X Y o) rS.cells rS.slots := by
  have hbc : I 0 0 = nI nb := h.ci.1.1.1
  have hnb : nb ≤ 12 := h.ci.1.1.2
  have hno : no ≤ 40 := h.ci.1.2.1.2
  have hg0 : SM (gv I no) 40 = r_sum I J 0 nb no nc := gave_eq I hno
  have hW : SM (wv J nb) 12 = r_sum I J 6 nb no nc := worth_eq h.2.1.2.2.2.2.2.2.1 h.ci.2.2.2 (by omega) hnb
  have he12 : e_debt I 12 0 = some eI := by
    have := ix_n (I := I) (g := 0) (a := 12) hbc (by omega) hnb (by omega)
    have h12 : sx_ix 12 (I 0 0) = some eI := this
    simp [e_debt, hx_or, h12]
  refine hw_MXof (by decide) [(0, .ref _), (1, .long _)] rfl (Nat.le_of_ble_eq_true rfl) ?_
  intro p e s m args below meth c C hr hlk ht
  have kend : hw_V p l e rS s m args below meth c (vx_MQ below (hw_QX D b0 (hw_n o) none (some (.int 1)) (hw_vl b0 I J X Y o)) (hw_XC D b0 (hw_n o) none (hw_vl b0 I J X Y o)) args s rS.cells rS.slots (fun q => b0 ≤ q)) D b0 12 false 2704 16224 (hw_n o) 332 [(8, .int (nI 40)), (3, .int 1), (6, .long (SM (gv I no) 40)), (4, .long (SM (wv J nb) 12)), (0, .ref (hw_ad b0 0 0)), (1, .long (gm nb nc P N))] [] (hw_vl b0 I J X Y o) := by
    refine hq_iload_n (q := 1) C dL_isSo_332 rfl rfl ?_
    refine hq_if_eq (tgt := 438) C dL_isSo_333 (by decide) (fun c_333 => absurd c_333 (by decide)) (fun _ => ?_)
    refine hq_lload (q := 2) C dL_isSo_336 rfl ?_
    refine hq_aload_n (q := 4) C dL_isSo_338 rfl rfl ?_
    refine hq_iconst (y := 0) C dL_isSo_339 (by decide) ?_
    refine hq_cVXr (As := [.int _]) (rm := rX5_sum) (f := 0) (Nc := 1) C (d_sum hlt h (x := 0) (by decide) rfl) wv_X5_sum ml_L_88 rfl rfl rfl Nat.one_pos rfl rfl rfl rfl ⟨Nat.le_of_ble_eq_true rfl, Nat.le_of_ble_eq_true rfl⟩ (Nat.le_of_ble_eq_true rfl) ⟨Nat.le_of_ble_eq_true rfl, Nat.le_of_ble_eq_true rfl⟩ dL_isSo_340 (fun _ => ?_) (fun E9 x9 => by cases x9)
    refine hq_lcmp C dL_isSo_343 ?_
    refine hq_if_ne (tgt := 438) C dL_isSo_344 (by decide) (fun c_344 => absurd ((lg_cmp_eq _ _).mpr hg0) c_344) (fun c_344 => ?_)
    refine hq_aload_n (q := 4) C dL_isSo_347 rfl rfl ?_
    refine hq_bipush (y := 6) C dL_isSo_348 (by decide) ?_
    refine hq_cVXr (As := [.int _]) (rm := rX5_sum) (f := 0) (Nc := 1) C (d_sum hlt h (x := 6) (by decide) rfl) wv_X5_sum ml_L_88 rfl rfl rfl Nat.one_pos rfl rfl rfl rfl ⟨Nat.le_of_ble_eq_true rfl, Nat.le_of_ble_eq_true rfl⟩ (Nat.le_of_ble_eq_true rfl) ⟨Nat.le_of_ble_eq_true rfl, Nat.le_of_ble_eq_true rfl⟩ dL_isSo_350 (fun _ => ?_) (fun E9 x9 => by cases x9)
    refine hq_lload_n (q := 5) C dL_isSo_353 rfl rfl ?_
    refine hq_aload_n (q := 4) C dL_isSo_354 rfl rfl ?_
    refine hq_iconst (y := 0) C dL_isSo_355 (by decide) ?_
    refine hq_cVXr (As := [.int _]) (rm := rX5_sum) (f := 0) (Nc := 1) C (d_sum hlt h (x := 0) (by decide) rfl) wv_X5_sum ml_L_88 rfl rfl rfl Nat.one_pos rfl rfl rfl rfl ⟨Nat.le_of_ble_eq_true rfl, Nat.le_of_ble_eq_true rfl⟩ (Nat.le_of_ble_eq_true rfl) ⟨Nat.le_of_ble_eq_true rfl, Nat.le_of_ble_eq_true rfl⟩ dL_isSo_356 (fun _ => ?_) (fun E9 x9 => by cases x9)
    refine hq_ladd C dL_isSo_359 ?_
    refine hq_aload_n (q := 4) C dL_isSo_360 rfl rfl ?_
    refine hq_iconst (y := 1) C dL_isSo_361 (by decide) ?_
    refine hq_cVXr (As := [.int _]) (rm := rX5_sum) (f := 0) (Nc := 1) C (d_sum hlt h (x := 1) (by decide) rfl) wv_X5_sum ml_L_88 rfl rfl rfl Nat.one_pos rfl rfl rfl rfl ⟨Nat.le_of_ble_eq_true rfl, Nat.le_of_ble_eq_true rfl⟩ (Nat.le_of_ble_eq_true rfl) ⟨Nat.le_of_ble_eq_true rfl, Nat.le_of_ble_eq_true rfl⟩ dL_isSo_362 (fun _ => ?_) (fun E9 x9 => by cases x9)
    refine hq_lsub C dL_isSo_365 ?_
    refine hq_aload_n (q := 4) C dL_isSo_366 rfl rfl ?_
    refine hq_iconst (y := 2) C dL_isSo_367 (by decide) ?_
    refine hq_cVXr (As := [.int _]) (rm := rX5_sum) (f := 0) (Nc := 1) C (d_sum hlt h (x := 2) (by decide) rfl) wv_X5_sum ml_L_88 rfl rfl rfl Nat.one_pos rfl rfl rfl rfl ⟨Nat.le_of_ble_eq_true rfl, Nat.le_of_ble_eq_true rfl⟩ (Nat.le_of_ble_eq_true rfl) ⟨Nat.le_of_ble_eq_true rfl, Nat.le_of_ble_eq_true rfl⟩ dL_isSo_368 (fun _ => ?_) (fun E9 x9 => by cases x9)
    refine hq_lsub C dL_isSo_371 ?_
    refine hq_aload_n (q := 4) C dL_isSo_372 rfl rfl ?_
    refine hq_iconst (y := 3) C dL_isSo_373 (by decide) ?_
    refine hq_cVXr (As := [.int _]) (rm := rX5_sum) (f := 0) (Nc := 1) C (d_sum hlt h (x := 3) (by decide) rfl) wv_X5_sum ml_L_88 rfl rfl rfl Nat.one_pos rfl rfl rfl rfl ⟨Nat.le_of_ble_eq_true rfl, Nat.le_of_ble_eq_true rfl⟩ (Nat.le_of_ble_eq_true rfl) ⟨Nat.le_of_ble_eq_true rfl, Nat.le_of_ble_eq_true rfl⟩ dL_isSo_374 (fun _ => ?_) (fun E9 x9 => by cases x9)
    refine hq_lsub C dL_isSo_377 ?_
    refine hq_aload_n (q := 4) C dL_isSo_378 rfl rfl ?_
    refine hq_iconst (y := 4) C dL_isSo_379 (by decide) ?_
    refine hq_cVXr (As := [.int _]) (rm := rX5_sum) (f := 0) (Nc := 1) C (d_sum hlt h (x := 4) (by decide) rfl) wv_X5_sum ml_L_88 rfl rfl rfl Nat.one_pos rfl rfl rfl rfl ⟨Nat.le_of_ble_eq_true rfl, Nat.le_of_ble_eq_true rfl⟩ (Nat.le_of_ble_eq_true rfl) ⟨Nat.le_of_ble_eq_true rfl, Nat.le_of_ble_eq_true rfl⟩ dL_isSo_380 (fun _ => ?_) (fun E9 x9 => by cases x9)
    refine hq_lsub C dL_isSo_383 ?_
    refine hq_aload_n (q := 4) C dL_isSo_384 rfl rfl ?_
    refine hq_iconst (y := 5) C dL_isSo_385 (by decide) ?_
    refine hq_cVXr (As := [.int _]) (rm := rX5_sum) (f := 0) (Nc := 1) C (d_sum hlt h (x := 5) (by decide) rfl) wv_X5_sum ml_L_88 rfl rfl rfl Nat.one_pos rfl rfl rfl rfl ⟨Nat.le_of_ble_eq_true rfl, Nat.le_of_ble_eq_true rfl⟩ (Nat.le_of_ble_eq_true rfl) ⟨Nat.le_of_ble_eq_true rfl, Nat.le_of_ble_eq_true rfl⟩ dL_isSo_386 (fun _ => ?_) (fun E9 x9 => by cases x9)
    refine hq_lsub C dL_isSo_389 ?_
    refine hq_lcmp C dL_isSo_390 ?_
    refine hq_if_ne (tgt := 438) C dL_isSo_391 (by decide) (fun c_391 => absurd ((lg_cmp_eq _ _).mpr (money_eq h)) c_391) (fun c_391 => ?_)
    refine hq_lload (q := 3) C dL_isSo_394 rfl ?_
    refine hq_aload_n (q := 4) C dL_isSo_396 rfl rfl ?_
    refine hq_bipush (y := 6) C dL_isSo_397 (by decide) ?_
    refine hq_cVXr (As := [.int _]) (rm := rX5_sum) (f := 0) (Nc := 1) C (d_sum hlt h (x := 6) (by decide) rfl) wv_X5_sum ml_L_88 rfl rfl rfl Nat.one_pos rfl rfl rfl rfl ⟨Nat.le_of_ble_eq_true rfl, Nat.le_of_ble_eq_true rfl⟩ (Nat.le_of_ble_eq_true rfl) ⟨Nat.le_of_ble_eq_true rfl, Nat.le_of_ble_eq_true rfl⟩ dL_isSo_399 (fun _ => ?_) (fun E9 x9 => by cases x9)
    refine hq_lcmp C dL_isSo_402 ?_
    refine hq_if_ne (tgt := 438) C dL_isSo_403 (by decide) (fun c_403 => absurd ((lg_cmp_eq _ _).mpr hW) c_403) (fun c_403 => ?_)
    refine hq_aload_n (q := 4) C dL_isSo_406 rfl rfl ?_
    refine hq_bipush (y := 8) C dL_isSo_407 (by decide) ?_
    refine hq_cSLr (As := [.ref _, .int _]) (rm := rL_sum) (Cn := "") C ((w_sum_no h (x := 8) (by decide)) l D b0 X Y o hlt) ws_L_sum ml_L_146 rfl rfl rfl rfl ⟨Nat.le_of_ble_eq_true rfl, Nat.le_of_ble_eq_true rfl⟩ (Nat.le_of_ble_eq_true rfl) ⟨Nat.le_of_ble_eq_true rfl, Nat.le_of_ble_eq_true rfl⟩ dL_isSo_409 ?_
    refine hq_ldc2 C wc_L_16 dL_isSo_412 ?_
    refine hq_lcmp C dL_isSo_415 ?_
    refine hq_if_ne (tgt := 438) C dL_isSo_416 (by decide) (fun c_416 => absurd ((lg_cmp_eq _ _).mpr rfl) c_416) (fun c_416 => ?_)
    refine hq_aload_n (q := 4) C dL_isSo_419 rfl rfl ?_
    refine hq_bipush (y := 12) C dL_isSo_420 (by decide) ?_
    refine hq_iconst (y := 0) C dL_isSo_422 (by decide) ?_
    refine hq_iconst (y := 1) C dL_isSo_423 (by decide) ?_
    refine hq_cSLr (As := [.ref _, .int _, .int _, .int _]) (rm := rL_debt) (Cn := "") C ((w_debt_no h he12) l D b0 X Y o hlt) ws_L_debt ml_L_148 rfl rfl rfl rfl ⟨Nat.le_of_ble_eq_true rfl, Nat.le_of_ble_eq_true rfl⟩ (Nat.le_of_ble_eq_true rfl) ⟨Nat.le_of_ble_eq_true rfl, Nat.le_of_ble_eq_true rfl⟩ dL_isSo_424 ?_
    refine hq_ldc2 C wc_L_16 dL_isSo_427 ?_
    refine hq_lcmp C dL_isSo_430 ?_
    refine hq_if_ne (tgt := 438) C dL_isSo_431 (by decide) (fun c_431 => absurd ((lg_cmp_eq _ _).mpr rfl) c_431) (fun c_431 => ?_)
    refine hq_iconst (y := 1) C dL_isSo_434 (by decide) ?_
    refine hq_goto (tgt := 439) C dL_isSo_435 (by decide) ?_
    exact hq_zretX C hr hlk dL_isSo_439 rfl (by decide) rfl rfl (Nat.le_of_ble_eq_true rfl) (Nat.le_of_ble_eq_true rfl)
  have k190 : hw_V p l e rS s m args below meth c (vx_MQ below (hw_QX D b0 (hw_n o) none (some (.int 1)) (hw_vl b0 I J X Y o)) (hw_XC D b0 (hw_n o) none (hw_vl b0 I J X Y o)) args s rS.cells rS.slots (fun q => b0 ≤ q)) D b0 12 false 2064 12384 (hw_n o) 190 [(8, .int (nI 12)), (3, .int 1), (4, .long (SM (wv J nb) 12)), (6, .long 0), (0, .ref (hw_ad b0 0 0)), (1, .long (gm nb nc P N))] [] (hw_vl b0 I J X Y o) := by
    refine hq_iconst (y := nI 0) C dL_isSo_190 (by decide) ?_
    refine hq_istore (L' := (8, .int (nI 0)) :: [(3, .int 1), (4, .long (SM (wv J nb) 12)), (6, .long 0), (0, .ref (hw_ad b0 0 0)), (1, .long (gm nb nc P N))]) C dL_isSo_191 (by decide) rfl ?_
    refine hq_perm [0, 1, 3, 2, 4, 5] (L' := [(8, .int (nI 0)), (3, .int 1), (6, .long (SM (gv I no) 0)), (4, .long (SM (wv J nb) 12)), (0, .ref (hw_ad b0 0 0)), (1, .long (gm nb nc P N))]) rfl ?_
    exact so_orders (ka := 2064) (kb := 12384) (W := SM (wv J nb) 12) hlt C h hg ⟨by decide, by decide⟩ kend 40 0 rfl
  refine hq_iconst (y := 1) C dL_isSo_0 (by decide) ?_
  refine hq_istore_n (L' := [(3, .int _), (0, .ref _), (1, .long _)]) C dL_isSo_1 rfl (by decide) rfl ?_
  refine hq_lconst (y := 0) C dL_isSo_2 rfl ?_
  refine hq_lstore (L' := [(4, .long _), (3, .int _), (0, .ref _), (1, .long _)]) C dL_isSo_3 (by decide) rfl ?_
  refine hq_lconst (y := 0) C dL_isSo_5 rfl ?_
  refine hq_lstore (L' := [(6, .long _), (4, .long _), (3, .int _), (0, .ref _), (1, .long _)]) C dL_isSo_6 (by decide) rfl ?_
  refine hq_iconst (y := 0) C dL_isSo_8 (by decide) ?_
  refine hq_istore (L' := [(8, .int _), (6, .long _), (4, .long _), (3, .int _), (0, .ref _), (1, .long _)]) C dL_isSo_9 (by decide) rfl ?_
  refine hq_perm [0, 3, 2, 1, 4, 5] (L' := [(8, .int (nI 0)), (3, .int 1), (4, .long (SM (wv J nb) 0)), (6, .long 0), (0, .ref (hw_ad b0 0 0)), (1, .long (gm nb nc P N))]) rfl ?_
  exact so_outer (ka := 0) (kb := 0) (W := 0) hlt C h hk9 ⟨by decide, by decide⟩ k190 12 0 rfl
