/-! the law's act: each case -/
set_option maxHeartbeats 4000000 in
set_option maxRecDepth 100000 in
theorem ca_broker_1 {v : Int32} (hd : sp_low (v >>> ((26 : Int32) &&& 31)) 14 = 0) (hj : tsB (sp_low v 32) 159 620 0 30 #[137, 137, 181, 205, 205, 205, 205, 251, 283, 325, 325, 325, 325, 325, 370, 370, 370, 370, 394, 394, 394, 435, 445, 455, 485, 507, 512, 521, 548, 572, 597] 296 = true) {I I' : MI} {J J' : MJ} {r : Int64} (hK : kL_broker ((sp_low (v >>> ((14 : Int32) &&& 31)) 10) - 1) (v >>> ((9 : Int32) &&& 31)) (v >>> ((3 : Int32) &&& 31)) I J r I' J') : kA v I J r I' J' := by
  intro l D b0 P N o hlt
  refine hw_MXof (by decide) [(0, .ref _), (1, .int _)] rfl (Nat.le_of_ble_eq_true rfl) ?_
  intro p e s m args below meth c C hr hlk ht
  refine act_pre1 hd C ?_
  refine hq_ts (tgt := 296) C dL_act_159 hj ?_
  refine hq_aload_n (q := 6) C dL_act_296 rfl rfl ?_
  refine hq_iload (q := 1) C dL_act_297 rfl ?_
  refine hq_iload_n (q := 5) C dL_act_299 rfl rfl ?_
  refine hq_if_eq (tgt := 308) C dL_act_300 (by decide) (fun c_300 => absurd c_300 (by decide)) (fun _ => ?_)
  refine hq_iload (q := 0) C dL_act_303 rfl ?_
  refine hq_goto (tgt := 318) C dL_act_305 (by decide) ?_
  refine hq_iload_n (q := 5) C dL_act_318 rfl rfl ?_
  refine hq_if_eq (tgt := 328) C dL_act_319 (by decide) (fun c_319 => absurd c_319 (by decide)) (fun _ => ?_)
  refine hq_iload_n (q := 7) C dL_act_322 rfl rfl ?_
  refine hq_iconst (y := 3) C dL_act_323 (by decide) ?_
  refine hq_ishr C dL_act_324 ?_
  refine hq_goto (tgt := 336) C dL_act_325 (by decide) ?_
  refine hq_cSLr (As := [.ref _, .int _, .int _, .int _]) (rm := rL_broker) (Cn := "") C (hK l D b0 P N o hlt) ws_L_broker ml_L_97 rfl rfl rfl rfl ⟨Nat.le_of_ble_eq_true rfl, Nat.le_of_ble_eq_true rfl⟩ (Nat.le_of_ble_eq_true rfl) ⟨Nat.le_of_ble_eq_true rfl, Nat.le_of_ble_eq_true rfl⟩ dL_act_336 ?_
  exact hq_lretX C hr hlk dL_act_339 rfl rfl rfl (Nat.le_of_ble_eq_true rfl) (Nat.le_of_ble_eq_true rfl)
set_option maxHeartbeats 4000000 in
set_option maxRecDepth 100000 in
theorem ca_rate_1 {v : Int32} (hd : sp_low (v >>> ((26 : Int32) &&& 31)) 14 = 0) (hj : tsB (sp_low v 32) 159 620 0 30 #[137, 137, 181, 205, 205, 205, 205, 251, 283, 325, 325, 325, 325, 325, 370, 370, 370, 370, 394, 394, 394, 435, 445, 455, 485, 507, 512, 521, 548, 572, 597] 340 = true) {I I' : MI} {J J' : MJ} {r : Int64} (hK : kL_rate ((sp_low (v >>> ((5 : Int32) &&& 31)) 15) - 2) (v >>> ((9 : Int32) &&& 31)) I J r I' J') : kA v I J r I' J' := by
  intro l D b0 P N o hlt
  refine hw_MXof (by decide) [(0, .ref _), (1, .int _)] rfl (Nat.le_of_ble_eq_true rfl) ?_
  intro p e s m args below meth c C hr hlk ht
  refine act_pre1 hd C ?_
  refine hq_ts (tgt := 340) C dL_act_159 hj ?_
  refine hq_aload_n (q := 6) C dL_act_340 rfl rfl ?_
  refine hq_iload_n (q := 4) C dL_act_341 rfl rfl ?_
  refine hq_iload_n (q := 5) C dL_act_342 rfl rfl ?_
  refine hq_if_eq (tgt := 351) C dL_act_343 (by decide) (fun c_343 => absurd c_343 (by decide)) (fun _ => ?_)
  refine hq_iload (q := 0) C dL_act_346 rfl ?_
  refine hq_goto (tgt := 360) C dL_act_348 (by decide) ?_
  refine hq_cSLr (As := [.ref _, .int _, .int _]) (rm := rL_rate) (Cn := "") C (hK l D b0 P N o hlt) ws_L_rate ml_L_100 rfl rfl rfl rfl ⟨Nat.le_of_ble_eq_true rfl, Nat.le_of_ble_eq_true rfl⟩ (Nat.le_of_ble_eq_true rfl) ⟨Nat.le_of_ble_eq_true rfl, Nat.le_of_ble_eq_true rfl⟩ dL_act_360 ?_
  exact hq_lretX C hr hlk dL_act_363 rfl rfl rfl (Nat.le_of_ble_eq_true rfl) (Nat.le_of_ble_eq_true rfl)
set_option maxHeartbeats 4000000 in
set_option maxRecDepth 100000 in
theorem ca_trust_1_1 {v : Int32} (hd : sp_low (v >>> ((26 : Int32) &&& 31)) 14 = 0) (hj : tsB (sp_low v 32) 159 620 0 30 #[137, 137, 181, 205, 205, 205, 205, 251, 283, 325, 325, 325, 325, 325, 370, 370, 370, 370, 394, 394, 394, 435, 445, 455, 485, 507, 512, 521, 548, 572, 597] 364 = true) (hb : ((v >>> ((20 : Int32) &&& 31)) &&& 1) = 1) {I I' : MI} {J J' : MJ} {r : Int64} (hK : kL_trust ((sp_low (v >>> ((5 : Int32) &&& 31)) 15) - 2) ((sp_low (v >>> ((8 : Int32) &&& 31)) 15) - 2) (v >>> ((9 : Int32) &&& 31)) 1 I J r I' J') : kA v I J r I' J' := by
  intro l D b0 P N o hlt
  refine hw_MXof (by decide) [(0, .ref _), (1, .int _)] rfl (Nat.le_of_ble_eq_true rfl) ?_
  intro p e s m args below meth c C hr hlk ht
  refine act_pre1 hd C ?_
  refine hq_ts (tgt := 364) C dL_act_159 hj ?_
  refine hq_aload_n (q := 6) C dL_act_364 rfl rfl ?_
  refine hq_iload_n (q := 4) C dL_act_365 rfl rfl ?_
  refine hq_iload (q := 3) C dL_act_366 rfl ?_
  refine hq_iload_n (q := 5) C dL_act_368 rfl rfl ?_
  refine hq_if_eq (tgt := 377) C dL_act_369 (by decide) (fun c_369 => absurd c_369 (by decide)) (fun _ => ?_)
  refine hq_iload (q := 0) C dL_act_372 rfl ?_
  refine hq_goto (tgt := 391) C dL_act_374 (by decide) ?_
  refine hq_iload_n (q := 7) C dL_act_391 rfl rfl ?_
  refine hq_bipush (y := 20) C dL_act_392 (by decide) ?_
  refine hq_ishr C dL_act_394 ?_
  refine hq_iconst (y := 1) C dL_act_395 (by decide) ?_
  refine hq_iand C dL_act_396 ?_
  refine hq_iconst (y := 1) C dL_act_397 (by decide) ?_
  refine hq_icmp_ne (tgt := 405) C dL_act_398 (by decide) (fun c_398 => absurd hb c_398) (fun c_398 => ?_)
  refine hq_iconst (y := 1) C dL_act_401 (by decide) ?_
  refine hq_goto (tgt := 406) C dL_act_402 (by decide) ?_
  refine hq_cSLr (As := [.ref _, .int _, .int _, .int _, .int _]) (rm := rL_trust) (Cn := "") C (hK l D b0 P N o hlt) ws_L_trust ml_L_103 rfl rfl rfl rfl ⟨Nat.le_of_ble_eq_true rfl, Nat.le_of_ble_eq_true rfl⟩ (Nat.le_of_ble_eq_true rfl) ⟨Nat.le_of_ble_eq_true rfl, Nat.le_of_ble_eq_true rfl⟩ dL_act_406 ?_
  exact hq_lretX C hr hlk dL_act_409 rfl rfl rfl (Nat.le_of_ble_eq_true rfl) (Nat.le_of_ble_eq_true rfl)
set_option maxHeartbeats 4000000 in
set_option maxRecDepth 100000 in
theorem ca_trust_1_0 {v : Int32} (hd : sp_low (v >>> ((26 : Int32) &&& 31)) 14 = 0) (hj : tsB (sp_low v 32) 159 620 0 30 #[137, 137, 181, 205, 205, 205, 205, 251, 283, 325, 325, 325, 325, 325, 370, 370, 370, 370, 394, 394, 394, 435, 445, 455, 485, 507, 512, 521, 548, 572, 597] 364 = true) (hb : ¬ ((v >>> ((20 : Int32) &&& 31)) &&& 1) = 1) {I I' : MI} {J J' : MJ} {r : Int64} (hK : kL_trust ((sp_low (v >>> ((5 : Int32) &&& 31)) 15) - 2) ((sp_low (v >>> ((8 : Int32) &&& 31)) 15) - 2) (v >>> ((9 : Int32) &&& 31)) 0 I J r I' J') : kA v I J r I' J' := by
  intro l D b0 P N o hlt
  refine hw_MXof (by decide) [(0, .ref _), (1, .int _)] rfl (Nat.le_of_ble_eq_true rfl) ?_
  intro p e s m args below meth c C hr hlk ht
  refine act_pre1 hd C ?_
  refine hq_ts (tgt := 364) C dL_act_159 hj ?_
  refine hq_aload_n (q := 6) C dL_act_364 rfl rfl ?_
  refine hq_iload_n (q := 4) C dL_act_365 rfl rfl ?_
  refine hq_iload (q := 3) C dL_act_366 rfl ?_
  refine hq_iload_n (q := 5) C dL_act_368 rfl rfl ?_
  refine hq_if_eq (tgt := 377) C dL_act_369 (by decide) (fun c_369 => absurd c_369 (by decide)) (fun _ => ?_)
  refine hq_iload (q := 0) C dL_act_372 rfl ?_
  refine hq_goto (tgt := 391) C dL_act_374 (by decide) ?_
  refine hq_iload_n (q := 7) C dL_act_391 rfl rfl ?_
  refine hq_bipush (y := 20) C dL_act_392 (by decide) ?_
  refine hq_ishr C dL_act_394 ?_
  refine hq_iconst (y := 1) C dL_act_395 (by decide) ?_
  refine hq_iand C dL_act_396 ?_
  refine hq_iconst (y := 1) C dL_act_397 (by decide) ?_
  refine hq_icmp_ne (tgt := 405) C dL_act_398 (by decide) (fun c_398 => ?_) (fun c_398 => absurd c_398 hb)
  refine hq_iconst (y := 0) C dL_act_405 (by decide) ?_
  refine hq_cSLr (As := [.ref _, .int _, .int _, .int _, .int _]) (rm := rL_trust) (Cn := "") C (hK l D b0 P N o hlt) ws_L_trust ml_L_103 rfl rfl rfl rfl ⟨Nat.le_of_ble_eq_true rfl, Nat.le_of_ble_eq_true rfl⟩ (Nat.le_of_ble_eq_true rfl) ⟨Nat.le_of_ble_eq_true rfl, Nat.le_of_ble_eq_true rfl⟩ dL_act_406 ?_
  exact hq_lretX C hr hlk dL_act_409 rfl rfl rfl (Nat.le_of_ble_eq_true rfl) (Nat.le_of_ble_eq_true rfl)
set_option maxHeartbeats 4000000 in
set_option maxRecDepth 100000 in
theorem ca_breakWord_1 {v : Int32} (hd : sp_low (v >>> ((26 : Int32) &&& 31)) 14 = 0) (hj : tsB (sp_low v 32) 159 620 0 30 #[137, 137, 181, 205, 205, 205, 205, 251, 283, 325, 325, 325, 325, 325, 370, 370, 370, 370, 394, 394, 394, 435, 445, 455, 485, 507, 512, 521, 548, 572, 597] 410 = true) (hb : (sp_low (v >>> ((16 : Int32) &&& 31)) 3) = 0) {I I' : MI} {J J' : MJ} {r : Int64} (hK : kL_breakWord ((sp_low (v >>> ((5 : Int32) &&& 31)) 15) - 2) I J r I' J') : kA v I J r I' J' := by
  intro l D b0 P N o hlt
  refine hw_MXof (by decide) [(0, .ref _), (1, .int _)] rfl (Nat.le_of_ble_eq_true rfl) ?_
  intro p e s m args below meth c C hr hlk ht
  refine act_pre1 hd C ?_
  refine hq_ts (tgt := 410) C dL_act_159 hj ?_
  refine hq_iload_n (q := 7) C dL_act_410 rfl rfl ?_
  refine hq_bipush (y := 16) C dL_act_411 (by decide) ?_
  refine hq_ishr C dL_act_413 ?_
  refine hq_iconst (y := 3) C dL_act_414 (by decide) ?_
  refine hq_cSr (As := [.int _, .int _]) (rm := rL_low) (Cn := "") C (m_L_low (by decide)) ws_L_low ml_L_92 rfl rfl rfl rfl ⟨Nat.le_of_ble_eq_true rfl, Nat.le_of_ble_eq_true rfl⟩ (Nat.le_of_ble_eq_true rfl) ⟨Nat.le_of_ble_eq_true rfl, Nat.le_of_ble_eq_true rfl⟩ dL_act_415 ?_
  refine hq_if_ne (tgt := 429) C dL_act_418 (by decide) (fun c_418 => absurd hb c_418) (fun c_418 => ?_)
  refine hq_aload_n (q := 6) C dL_act_421 rfl rfl ?_
  refine hq_iload_n (q := 4) C dL_act_422 rfl rfl ?_
  refine hq_cSLr (As := [.ref _, .int _]) (rm := rL_breakWord) (Cn := "") C (hK l D b0 P N o hlt) ws_L_breakWord ml_L_106 rfl rfl rfl rfl ⟨Nat.le_of_ble_eq_true rfl, Nat.le_of_ble_eq_true rfl⟩ (Nat.le_of_ble_eq_true rfl) ⟨Nat.le_of_ble_eq_true rfl, Nat.le_of_ble_eq_true rfl⟩ dL_act_423 ?_
  refine hq_goto (tgt := 441) C dL_act_426 (by decide) ?_
  exact hq_lretX C hr hlk dL_act_441 rfl rfl rfl (Nat.le_of_ble_eq_true rfl) (Nat.le_of_ble_eq_true rfl)
set_option maxHeartbeats 4000000 in
set_option maxRecDepth 100000 in
theorem ca_festival_1 {v : Int32} (hd : sp_low (v >>> ((26 : Int32) &&& 31)) 14 = 0) (hj : tsB (sp_low v 32) 159 620 0 30 #[137, 137, 181, 205, 205, 205, 205, 251, 283, 325, 325, 325, 325, 325, 370, 370, 370, 370, 394, 394, 394, 435, 445, 455, 485, 507, 512, 521, 548, 572, 597] 410 = true) (hb : ¬ (sp_low (v >>> ((16 : Int32) &&& 31)) 3) = 0) {I I' : MI} {J J' : MJ} {r : Int64} {z : Int32} (hK : ∀ (l : Launch) (D : va_G) (b0 : Nat) (P : MI) (N : MJ) (o : Int64), hM l yX5_festival cX5_festival 1 (some .boolean) rX5_festival D b0 [.ref (hw_ad b0 0 0)] I J P N o (some (.int z)) I' J' P N o) : kA v I J (if z = 0 then 0 else 1) I' J' := by
  intro l D b0 P N o hlt
  refine hw_MXof (by decide) [(0, .ref _), (1, .int _)] rfl (Nat.le_of_ble_eq_true rfl) ?_
  intro p e s m args below meth c C hr hlk ht
  refine act_pre1 hd C ?_
  refine hq_ts (tgt := 410) C dL_act_159 hj ?_
  refine hq_iload_n (q := 7) C dL_act_410 rfl rfl ?_
  refine hq_bipush (y := 16) C dL_act_411 (by decide) ?_
  refine hq_ishr C dL_act_413 ?_
  refine hq_iconst (y := 3) C dL_act_414 (by decide) ?_
  refine hq_cSr (As := [.int _, .int _]) (rm := rL_low) (Cn := "") C (m_L_low (by decide)) ws_L_low ml_L_92 rfl rfl rfl rfl ⟨Nat.le_of_ble_eq_true rfl, Nat.le_of_ble_eq_true rfl⟩ (Nat.le_of_ble_eq_true rfl) ⟨Nat.le_of_ble_eq_true rfl, Nat.le_of_ble_eq_true rfl⟩ dL_act_415 ?_
  refine hq_if_ne (tgt := 429) C dL_act_418 (by decide) (fun c_418 => ?_) (fun c_418 => absurd c_418 hb)
  refine hq_aload_n (q := 6) C dL_act_429 rfl rfl ?_
  refine hq_cVr (As := []) (rm := rX5_festival) (f := 0) (Nc := 1) C (hK l D b0 P N o) wv_X5_festival ml_L_109 rfl rfl rfl Nat.one_pos rfl rfl rfl rfl ⟨Nat.le_of_ble_eq_true rfl, Nat.le_of_ble_eq_true rfl⟩ (Nat.le_of_ble_eq_true rfl) ⟨Nat.le_of_ble_eq_true rfl, Nat.le_of_ble_eq_true rfl⟩ dL_act_430 ?_
  refine hq_if_eq (tgt := 440) C dL_act_433 (by decide) (fun c_433 => ?_) (fun c_433 => ?_)
  · refine hq_lconst (y := 0) C dL_act_440 rfl ?_
    exact hq_lretX C hr hlk dL_act_441 rfl (by rw [if_pos c_433]) rfl (Nat.le_of_ble_eq_true rfl) (Nat.le_of_ble_eq_true rfl)
  · refine hq_lconst (y := 1) C dL_act_436 rfl ?_
    refine hq_goto (tgt := 441) C dL_act_437 (by decide) ?_
    exact hq_lretX C hr hlk dL_act_441 rfl (by rw [if_neg c_433]) rfl (Nat.le_of_ble_eq_true rfl) (Nat.le_of_ble_eq_true rfl)
set_option maxHeartbeats 4000000 in
set_option maxRecDepth 100000 in
theorem ca_raid_1 {v : Int32} (hd : sp_low (v >>> ((26 : Int32) &&& 31)) 14 = 0) (hj : tsB (sp_low v 32) 159 620 0 30 #[137, 137, 181, 205, 205, 205, 205, 251, 283, 325, 325, 325, 325, 325, 370, 370, 370, 370, 394, 394, 394, 435, 445, 455, 485, 507, 512, 521, 548, 572, 597] 442 = true) (hb : (sp_low (v >>> ((16 : Int32) &&& 31)) 2) = 0) {I I' : MI} {J J' : MJ} {r : Int64} (hK : kL_raid ((sp_low (v >>> ((5 : Int32) &&& 31)) 15) - 2) I J r I' J') : kA v I J r I' J' := by
  intro l D b0 P N o hlt
  refine hw_MXof (by decide) [(0, .ref _), (1, .int _)] rfl (Nat.le_of_ble_eq_true rfl) ?_
  intro p e s m args below meth c C hr hlk ht
  refine act_pre1 hd C ?_
  refine hq_ts (tgt := 442) C dL_act_159 hj ?_
  refine hq_iload_n (q := 7) C dL_act_442 rfl rfl ?_
  refine hq_bipush (y := 16) C dL_act_443 (by decide) ?_
  refine hq_ishr C dL_act_445 ?_
  refine hq_iconst (y := 2) C dL_act_446 (by decide) ?_
  refine hq_cSr (As := [.int _, .int _]) (rm := rL_low) (Cn := "") C (m_L_low (by decide)) ws_L_low ml_L_92 rfl rfl rfl rfl ⟨Nat.le_of_ble_eq_true rfl, Nat.le_of_ble_eq_true rfl⟩ (Nat.le_of_ble_eq_true rfl) ⟨Nat.le_of_ble_eq_true rfl, Nat.le_of_ble_eq_true rfl⟩ dL_act_447 ?_
  refine hq_if_ne (tgt := 461) C dL_act_450 (by decide) (fun c_450 => absurd hb c_450) (fun c_450 => ?_)
  refine hq_aload_n (q := 6) C dL_act_453 rfl rfl ?_
  refine hq_iload_n (q := 4) C dL_act_454 rfl rfl ?_
  refine hq_cSLr (As := [.ref _, .int _]) (rm := rL_raid) (Cn := "") C (hK l D b0 P N o hlt) ws_L_raid ml_L_113 rfl rfl rfl rfl ⟨Nat.le_of_ble_eq_true rfl, Nat.le_of_ble_eq_true rfl⟩ (Nat.le_of_ble_eq_true rfl) ⟨Nat.le_of_ble_eq_true rfl, Nat.le_of_ble_eq_true rfl⟩ dL_act_455 ?_
  refine hq_goto (tgt := 483) C dL_act_458 (by decide) ?_
  exact hq_lretX C hr hlk dL_act_483 rfl rfl rfl (Nat.le_of_ble_eq_true rfl) (Nat.le_of_ble_eq_true rfl)
set_option maxHeartbeats 4000000 in
set_option maxRecDepth 100000 in
theorem ca_list_1 {v : Int32} (hd : sp_low (v >>> ((26 : Int32) &&& 31)) 14 = 0) (hj : tsB (sp_low v 32) 159 620 0 30 #[137, 137, 181, 205, 205, 205, 205, 251, 283, 325, 325, 325, 325, 325, 370, 370, 370, 370, 394, 394, 394, 435, 445, 455, 485, 507, 512, 521, 548, 572, 597] 442 = true) (hb : ¬ (sp_low (v >>> ((16 : Int32) &&& 31)) 2) = 0) {I I' : MI} {J J' : MJ} {r : Int64} (hK : kL_list (v >>> ((9 : Int32) &&& 31)) I J r I' J') : kA v I J r I' J' := by
  intro l D b0 P N o hlt
  refine hw_MXof (by decide) [(0, .ref _), (1, .int _)] rfl (Nat.le_of_ble_eq_true rfl) ?_
  intro p e s m args below meth c C hr hlk ht
  refine act_pre1 hd C ?_
  refine hq_ts (tgt := 442) C dL_act_159 hj ?_
  refine hq_iload_n (q := 7) C dL_act_442 rfl rfl ?_
  refine hq_bipush (y := 16) C dL_act_443 (by decide) ?_
  refine hq_ishr C dL_act_445 ?_
  refine hq_iconst (y := 2) C dL_act_446 (by decide) ?_
  refine hq_cSr (As := [.int _, .int _]) (rm := rL_low) (Cn := "") C (m_L_low (by decide)) ws_L_low ml_L_92 rfl rfl rfl rfl ⟨Nat.le_of_ble_eq_true rfl, Nat.le_of_ble_eq_true rfl⟩ (Nat.le_of_ble_eq_true rfl) ⟨Nat.le_of_ble_eq_true rfl, Nat.le_of_ble_eq_true rfl⟩ dL_act_447 ?_
  refine hq_if_ne (tgt := 461) C dL_act_450 (by decide) (fun c_450 => ?_) (fun c_450 => absurd c_450 hb)
  refine hq_aload_n (q := 6) C dL_act_461 rfl rfl ?_
  refine hq_iload_n (q := 5) C dL_act_462 rfl rfl ?_
  refine hq_if_eq (tgt := 471) C dL_act_463 (by decide) (fun c_463 => absurd c_463 (by decide)) (fun _ => ?_)
  refine hq_iload (q := 0) C dL_act_466 rfl ?_
  refine hq_goto (tgt := 480) C dL_act_468 (by decide) ?_
  refine hq_cSLr (As := [.ref _, .int _]) (rm := rL_list) (Cn := "") C (hK l D b0 P N o hlt) ws_L_list ml_L_115 rfl rfl rfl rfl ⟨Nat.le_of_ble_eq_true rfl, Nat.le_of_ble_eq_true rfl⟩ (Nat.le_of_ble_eq_true rfl) ⟨Nat.le_of_ble_eq_true rfl, Nat.le_of_ble_eq_true rfl⟩ dL_act_480 ?_
  exact hq_lretX C hr hlk dL_act_483 rfl rfl rfl (Nat.le_of_ble_eq_true rfl) (Nat.le_of_ble_eq_true rfl)
set_option maxHeartbeats 4000000 in
set_option maxRecDepth 100000 in
theorem ca_order_1 {v : Int32} (hd : sp_low (v >>> ((26 : Int32) &&& 31)) 14 = 0) (hj : tsB (sp_low v 32) 159 620 0 30 #[137, 137, 181, 205, 205, 205, 205, 251, 283, 325, 325, 325, 325, 325, 370, 370, 370, 370, 394, 394, 394, 435, 445, 455, 485, 507, 512, 521, 548, 572, 597] 484 = true) {I I' : MI} {J J' : MJ} {r : Int64} (hK : kL_order ((sp_low (v >>> ((5 : Int32) &&& 31)) 15) - 2) ((sp_low (v >>> ((8 : Int32) &&& 31)) 15) - 2) (v >>> ((9 : Int32) &&& 31)) ((sp_low (v >>> ((14 : Int32) &&& 31)) 10) - 1) (v >>> ((3 : Int32) &&& 31)) I J r I' J') : kA v I J r I' J' := by
  intro l D b0 P N o hlt
  refine hw_MXof (by decide) [(0, .ref _), (1, .int _)] rfl (Nat.le_of_ble_eq_true rfl) ?_
  intro p e s m args below meth c C hr hlk ht
  refine act_pre1 hd C ?_
  refine hq_ts (tgt := 484) C dL_act_159 hj ?_
  refine hq_aload_n (q := 6) C dL_act_484 rfl rfl ?_
  refine hq_iload_n (q := 4) C dL_act_485 rfl rfl ?_
  refine hq_iload (q := 3) C dL_act_486 rfl ?_
  refine hq_iload (q := 0) C dL_act_488 rfl ?_
  refine hq_iload_n (q := 5) C dL_act_490 rfl rfl ?_
  refine hq_if_eq (tgt := 499) C dL_act_491 (by decide) (fun c_491 => absurd c_491 (by decide)) (fun _ => ?_)
  refine hq_iload (q := 1) C dL_act_494 rfl ?_
  refine hq_goto (tgt := 508) C dL_act_496 (by decide) ?_
  refine hq_iload_n (q := 5) C dL_act_508 rfl rfl ?_
  refine hq_if_eq (tgt := 518) C dL_act_509 (by decide) (fun c_509 => absurd c_509 (by decide)) (fun _ => ?_)
  refine hq_iload_n (q := 7) C dL_act_512 rfl rfl ?_
  refine hq_iconst (y := 3) C dL_act_513 (by decide) ?_
  refine hq_ishr C dL_act_514 ?_
  refine hq_goto (tgt := 525) C dL_act_515 (by decide) ?_
  refine hq_cSLr (As := [.ref _, .int _, .int _, .int _, .int _, .int _]) (rm := rL_order) (Cn := "") C (hK l D b0 P N o hlt) ws_L_order ml_L_117 rfl rfl rfl rfl ⟨Nat.le_of_ble_eq_true rfl, Nat.le_of_ble_eq_true rfl⟩ (Nat.le_of_ble_eq_true rfl) ⟨Nat.le_of_ble_eq_true rfl, Nat.le_of_ble_eq_true rfl⟩ dL_act_525 ?_
  exact hq_lretX C hr hlk dL_act_528 rfl rfl rfl (Nat.le_of_ble_eq_true rfl) (Nat.le_of_ble_eq_true rfl)
set_option maxHeartbeats 4000000 in
set_option maxRecDepth 100000 in
theorem ca_fetch_1 {v : Int32} (hd : sp_low (v >>> ((26 : Int32) &&& 31)) 14 = 0) (hj : tsB (sp_low v 32) 159 620 0 30 #[137, 137, 181, 205, 205, 205, 205, 251, 283, 325, 325, 325, 325, 325, 370, 370, 370, 370, 394, 394, 394, 435, 445, 455, 485, 507, 512, 521, 548, 572, 597] 529 = true) {I I' : MI} {J J' : MJ} {r : Int64} (hK : kL_fetch ((sp_low (v >>> ((11 : Int32) &&& 31)) 44) - 2) (v >>> ((9 : Int32) &&& 31)) I J r I' J') : kA v I J r I' J' := by
  intro l D b0 P N o hlt
  refine hw_MXof (by decide) [(0, .ref _), (1, .int _)] rfl (Nat.le_of_ble_eq_true rfl) ?_
  intro p e s m args below meth c C hr hlk ht
  refine act_pre1 hd C ?_
  refine hq_ts (tgt := 529) C dL_act_159 hj ?_
  refine hq_aload_n (q := 6) C dL_act_529 rfl rfl ?_
  refine hq_iload (q := 2) C dL_act_530 rfl ?_
  refine hq_iload_n (q := 5) C dL_act_532 rfl rfl ?_
  refine hq_if_eq (tgt := 541) C dL_act_533 (by decide) (fun c_533 => absurd c_533 (by decide)) (fun _ => ?_)
  refine hq_iload (q := 0) C dL_act_536 rfl ?_
  refine hq_goto (tgt := 549) C dL_act_538 (by decide) ?_
  refine hq_cSLr (As := [.ref _, .int _, .int _]) (rm := rL_fetch) (Cn := "") C (hK l D b0 P N o hlt) ws_L_fetch ml_L_120 rfl rfl rfl rfl ⟨Nat.le_of_ble_eq_true rfl, Nat.le_of_ble_eq_true rfl⟩ (Nat.le_of_ble_eq_true rfl) ⟨Nat.le_of_ble_eq_true rfl, Nat.le_of_ble_eq_true rfl⟩ dL_act_549 ?_
  exact hq_lretX C hr hlk dL_act_552 rfl rfl rfl (Nat.le_of_ble_eq_true rfl) (Nat.le_of_ble_eq_true rfl)
set_option maxHeartbeats 4000000 in
set_option maxRecDepth 100000 in
theorem ca_pass_1 {v : Int32} (hd : sp_low (v >>> ((26 : Int32) &&& 31)) 14 = 0) (hj : tsB (sp_low v 32) 159 620 0 30 #[137, 137, 181, 205, 205, 205, 205, 251, 283, 325, 325, 325, 325, 325, 370, 370, 370, 370, 394, 394, 394, 435, 445, 455, 485, 507, 512, 521, 548, 572, 597] 553 = true) {I I' : MI} {J J' : MJ} {r : Int64} (hK : kL_pass (v >>> ((9 : Int32) &&& 31)) I J r I' J') : kA v I J r I' J' := by
  intro l D b0 P N o hlt
  refine hw_MXof (by decide) [(0, .ref _), (1, .int _)] rfl (Nat.le_of_ble_eq_true rfl) ?_
  intro p e s m args below meth c C hr hlk ht
  refine act_pre1 hd C ?_
  refine hq_ts (tgt := 553) C dL_act_159 hj ?_
  refine hq_aload_n (q := 6) C dL_act_553 rfl rfl ?_
  refine hq_iload_n (q := 5) C dL_act_554 rfl rfl ?_
  refine hq_if_eq (tgt := 563) C dL_act_555 (by decide) (fun c_555 => absurd c_555 (by decide)) (fun _ => ?_)
  refine hq_iload (q := 0) C dL_act_558 rfl ?_
  refine hq_goto (tgt := 590) C dL_act_560 (by decide) ?_
  refine hq_cSLr (As := [.ref _, .int _]) (rm := rL_pass) (Cn := "") C (hK l D b0 P N o hlt) ws_L_pass ml_L_122 rfl rfl rfl rfl ⟨Nat.le_of_ble_eq_true rfl, Nat.le_of_ble_eq_true rfl⟩ (Nat.le_of_ble_eq_true rfl) ⟨Nat.le_of_ble_eq_true rfl, Nat.le_of_ble_eq_true rfl⟩ dL_act_590 ?_
  exact hq_lretX C hr hlk dL_act_593 rfl rfl rfl (Nat.le_of_ble_eq_true rfl) (Nat.le_of_ble_eq_true rfl)
set_option maxHeartbeats 4000000 in
set_option maxRecDepth 100000 in
theorem ca_pay_1 {v : Int32} (hd : sp_low (v >>> ((26 : Int32) &&& 31)) 14 = 0) (hj : tsB (sp_low v 32) 159 620 0 30 #[137, 137, 181, 205, 205, 205, 205, 251, 283, 325, 325, 325, 325, 325, 370, 370, 370, 370, 394, 394, 394, 435, 445, 455, 485, 507, 512, 521, 548, 572, 597] 594 = true) {I I' : MI} {J J' : MJ} {r : Int64} (hK : kL_pay ((sp_low (v >>> ((5 : Int32) &&& 31)) 15) - 2) ((sp_low (v >>> ((8 : Int32) &&& 31)) 15) - 2) (v >>> ((9 : Int32) &&& 31)) I J r I' J') : kA v I J r I' J' := by
  intro l D b0 P N o hlt
  refine hw_MXof (by decide) [(0, .ref _), (1, .int _)] rfl (Nat.le_of_ble_eq_true rfl) ?_
  intro p e s m args below meth c C hr hlk ht
  refine act_pre1 hd C ?_
  refine hq_ts (tgt := 594) C dL_act_159 hj ?_
  refine hq_aload_n (q := 6) C dL_act_594 rfl rfl ?_
  refine hq_iload_n (q := 4) C dL_act_595 rfl rfl ?_
  refine hq_iload (q := 3) C dL_act_596 rfl ?_
  refine hq_iload (q := 0) C dL_act_598 rfl ?_
  refine hq_cSLr (As := [.ref _, .int _, .int _, .int _]) (rm := rL_pay) (Cn := "") C (hK l D b0 P N o hlt) ws_L_pay ml_L_124 rfl rfl rfl rfl ⟨Nat.le_of_ble_eq_true rfl, Nat.le_of_ble_eq_true rfl⟩ (Nat.le_of_ble_eq_true rfl) ⟨Nat.le_of_ble_eq_true rfl, Nat.le_of_ble_eq_true rfl⟩ dL_act_600 ?_
  exact hq_lretX C hr hlk dL_act_603 rfl rfl rfl (Nat.le_of_ble_eq_true rfl) (Nat.le_of_ble_eq_true rfl)
set_option maxHeartbeats 4000000 in
set_option maxRecDepth 100000 in
theorem ca_deliver_1 {v : Int32} (hd : sp_low (v >>> ((26 : Int32) &&& 31)) 14 = 0) (hj : tsB (sp_low v 32) 159 620 0 30 #[137, 137, 181, 205, 205, 205, 205, 251, 283, 325, 325, 325, 325, 325, 370, 370, 370, 370, 394, 394, 394, 435, 445, 455, 485, 507, 512, 521, 548, 572, 597] 604 = true) {I I' : MI} {J J' : MJ} {r : Int64} (hK : kL_deliver ((sp_low (v >>> ((5 : Int32) &&& 31)) 15) - 2) ((sp_low (v >>> ((8 : Int32) &&& 31)) 15) - 2) (v >>> ((9 : Int32) &&& 31)) I J r I' J') : kA v I J r I' J' := by
  intro l D b0 P N o hlt
  refine hw_MXof (by decide) [(0, .ref _), (1, .int _)] rfl (Nat.le_of_ble_eq_true rfl) ?_
  intro p e s m args below meth c C hr hlk ht
  refine act_pre1 hd C ?_
  refine hq_ts (tgt := 604) C dL_act_159 hj ?_
  refine hq_aload_n (q := 6) C dL_act_604 rfl rfl ?_
  refine hq_iload_n (q := 4) C dL_act_605 rfl rfl ?_
  refine hq_iload (q := 3) C dL_act_606 rfl ?_
  refine hq_iload (q := 0) C dL_act_608 rfl ?_
  refine hq_cSLr (As := [.ref _, .int _, .int _, .int _]) (rm := rL_deliver) (Cn := "") C (hK l D b0 P N o hlt) ws_L_deliver ml_L_126 rfl rfl rfl rfl ⟨Nat.le_of_ble_eq_true rfl, Nat.le_of_ble_eq_true rfl⟩ (Nat.le_of_ble_eq_true rfl) ⟨Nat.le_of_ble_eq_true rfl, Nat.le_of_ble_eq_true rfl⟩ dL_act_610 ?_
  exact hq_lretX C hr hlk dL_act_613 rfl rfl rfl (Nat.le_of_ble_eq_true rfl) (Nat.le_of_ble_eq_true rfl)
set_option maxHeartbeats 4000000 in
set_option maxRecDepth 100000 in
theorem ca_courier_1 {v : Int32} (hd : sp_low (v >>> ((26 : Int32) &&& 31)) 14 = 0) (hj : tsB (sp_low v 32) 159 620 0 30 #[137, 137, 181, 205, 205, 205, 205, 251, 283, 325, 325, 325, 325, 325, 370, 370, 370, 370, 394, 394, 394, 435, 445, 455, 485, 507, 512, 521, 548, 572, 597] 614 = true) {I I' : MI} {J J' : MJ} {r : Int64} (hK : kL_courier ((sp_low (v >>> ((5 : Int32) &&& 31)) 15) - 2) ((sp_low (v >>> ((8 : Int32) &&& 31)) 15) - 2) (v >>> ((9 : Int32) &&& 31)) (v >>> ((3 : Int32) &&& 31)) I J r I' J') : kA v I J r I' J' := by
  intro l D b0 P N o hlt
  refine hw_MXof (by decide) [(0, .ref _), (1, .int _)] rfl (Nat.le_of_ble_eq_true rfl) ?_
  intro p e s m args below meth c C hr hlk ht
  refine act_pre1 hd C ?_
  refine hq_ts (tgt := 614) C dL_act_159 hj ?_
  refine hq_aload_n (q := 6) C dL_act_614 rfl rfl ?_
  refine hq_iload_n (q := 4) C dL_act_615 rfl rfl ?_
  refine hq_iload (q := 3) C dL_act_616 rfl ?_
  refine hq_iload (q := 0) C dL_act_618 rfl ?_
  refine hq_iload_n (q := 5) C dL_act_620 rfl rfl ?_
  refine hq_if_eq (tgt := 630) C dL_act_621 (by decide) (fun c_621 => absurd c_621 (by decide)) (fun _ => ?_)
  refine hq_iload_n (q := 7) C dL_act_624 rfl rfl ?_
  refine hq_iconst (y := 3) C dL_act_625 (by decide) ?_
  refine hq_ishr C dL_act_626 ?_
  refine hq_goto (tgt := 640) C dL_act_627 (by decide) ?_
  refine hq_cSLr (As := [.ref _, .int _, .int _, .int _, .int _]) (rm := rL_courier) (Cn := "") C (hK l D b0 P N o hlt) ws_L_courier ml_L_128 rfl rfl rfl rfl ⟨Nat.le_of_ble_eq_true rfl, Nat.le_of_ble_eq_true rfl⟩ (Nat.le_of_ble_eq_true rfl) ⟨Nat.le_of_ble_eq_true rfl, Nat.le_of_ble_eq_true rfl⟩ dL_act_640 ?_
  exact hq_lretX C hr hlk dL_act_643 rfl rfl rfl (Nat.le_of_ble_eq_true rfl) (Nat.le_of_ble_eq_true rfl)
set_option maxHeartbeats 4000000 in
set_option maxRecDepth 100000 in
theorem ca_rob_1 {v : Int32} (hd : sp_low (v >>> ((26 : Int32) &&& 31)) 14 = 0) (hj : tsB (sp_low v 32) 159 620 0 30 #[137, 137, 181, 205, 205, 205, 205, 251, 283, 325, 325, 325, 325, 325, 370, 370, 370, 370, 394, 394, 394, 435, 445, 455, 485, 507, 512, 521, 548, 572, 597] 644 = true) {I I' : MI} {J J' : MJ} {r : Int64} (hK : kL_rob ((sp_low (v >>> ((11 : Int32) &&& 31)) 44) - 2) I J r I' J') : kA v I J r I' J' := by
  intro l D b0 P N o hlt
  refine hw_MXof (by decide) [(0, .ref _), (1, .int _)] rfl (Nat.le_of_ble_eq_true rfl) ?_
  intro p e s m args below meth c C hr hlk ht
  refine act_pre1 hd C ?_
  refine hq_ts (tgt := 644) C dL_act_159 hj ?_
  refine hq_aload_n (q := 6) C dL_act_644 rfl rfl ?_
  refine hq_iload_n (q := 5) C dL_act_645 rfl rfl ?_
  refine hq_if_eq (tgt := 654) C dL_act_646 (by decide) (fun c_646 => absurd c_646 (by decide)) (fun _ => ?_)
  refine hq_iload (q := 2) C dL_act_649 rfl ?_
  refine hq_goto (tgt := 662) C dL_act_651 (by decide) ?_
  refine hq_cSLr (As := [.ref _, .int _]) (rm := rL_rob) (Cn := "") C (hK l D b0 P N o hlt) ws_L_rob ml_L_131 rfl rfl rfl rfl ⟨Nat.le_of_ble_eq_true rfl, Nat.le_of_ble_eq_true rfl⟩ (Nat.le_of_ble_eq_true rfl) ⟨Nat.le_of_ble_eq_true rfl, Nat.le_of_ble_eq_true rfl⟩ dL_act_662 ?_
  exact hq_lretX C hr hlk dL_act_665 rfl rfl rfl (Nat.le_of_ble_eq_true rfl) (Nat.le_of_ble_eq_true rfl)
set_option maxHeartbeats 4000000 in
set_option maxRecDepth 100000 in
theorem ca_ring_1 {v : Int32} (hd : sp_low (v >>> ((26 : Int32) &&& 31)) 14 = 0) (hj : tsB (sp_low v 32) 159 620 0 30 #[137, 137, 181, 205, 205, 205, 205, 251, 283, 325, 325, 325, 325, 325, 370, 370, 370, 370, 394, 394, 394, 435, 445, 455, 485, 507, 512, 521, 548, 572, 597] 666 = true) {I I' : MI} {J J' : MJ} {r : Int64} (hK : ∀ (l : Launch) (D : va_G) (b0 : Nat) (P : MI) (N : MJ) (o : Int64), hM l yX5_ring cX5_ring 6 (some .long) rX5_ring D b0 [.ref (hw_ad b0 0 0)] I J P N o (some (.long r)) I' J' P N o) : kA v I J r I' J' := by
  intro l D b0 P N o hlt
  refine hw_MXof (by decide) [(0, .ref _), (1, .int _)] rfl (Nat.le_of_ble_eq_true rfl) ?_
  intro p e s m args below meth c C hr hlk ht
  refine act_pre1 hd C ?_
  refine hq_ts (tgt := 666) C dL_act_159 hj ?_
  refine hq_aload_n (q := 6) C dL_act_666 rfl rfl ?_
  refine hq_cVr (As := []) (rm := rX5_ring) (f := 0) (Nc := 1) C (hK l D b0 P N o) wv_X5_ring ml_L_133 rfl rfl rfl Nat.one_pos rfl rfl rfl rfl ⟨Nat.le_of_ble_eq_true rfl, Nat.le_of_ble_eq_true rfl⟩ (Nat.le_of_ble_eq_true rfl) ⟨Nat.le_of_ble_eq_true rfl, Nat.le_of_ble_eq_true rfl⟩ dL_act_667 ?_
  exact hq_lretX C hr hlk dL_act_670 rfl rfl rfl (Nat.le_of_ble_eq_true rfl) (Nat.le_of_ble_eq_true rfl)
set_option maxHeartbeats 4000000 in
set_option maxRecDepth 100000 in
theorem ca_lawOf_1 {v : Int32} (hd : sp_low (v >>> ((26 : Int32) &&& 31)) 14 = 0) (hj : tsB (sp_low v 32) 159 620 0 30 #[137, 137, 181, 205, 205, 205, 205, 251, 283, 325, 325, 325, 325, 325, 370, 370, 370, 370, 394, 394, 394, 435, 445, 455, 485, 507, 512, 521, 548, 572, 597] 671 = true) {I I' : MI} {J J' : MJ} {r : Int64} (hK : kL_lawOf ((sp_low (v >>> ((14 : Int32) &&& 31)) 10) - 1) (v >>> ((9 : Int32) &&& 31)) I J r I' J') : kA v I J r I' J' := by
  intro l D b0 P N o hlt
  refine hw_MXof (by decide) [(0, .ref _), (1, .int _)] rfl (Nat.le_of_ble_eq_true rfl) ?_
  intro p e s m args below meth c C hr hlk ht
  refine act_pre1 hd C ?_
  refine hq_ts (tgt := 671) C dL_act_159 hj ?_
  refine hq_aload_n (q := 6) C dL_act_671 rfl rfl ?_
  refine hq_iload (q := 1) C dL_act_672 rfl ?_
  refine hq_iload (q := 0) C dL_act_674 rfl ?_
  refine hq_cSLr (As := [.ref _, .int _, .int _]) (rm := rL_lawOf) (Cn := "") C (hK l D b0 P N o hlt) ws_L_lawOf ml_L_137 rfl rfl rfl rfl ⟨Nat.le_of_ble_eq_true rfl, Nat.le_of_ble_eq_true rfl⟩ (Nat.le_of_ble_eq_true rfl) ⟨Nat.le_of_ble_eq_true rfl, Nat.le_of_ble_eq_true rfl⟩ dL_act_676 ?_
  exact hq_lretX C hr hlk dL_act_679 rfl rfl rfl (Nat.le_of_ble_eq_true rfl) (Nat.le_of_ble_eq_true rfl)
set_option maxHeartbeats 4000000 in
set_option maxRecDepth 100000 in
theorem ca_way_1 {v : Int32} (hd : sp_low (v >>> ((26 : Int32) &&& 31)) 14 = 0) (hj : tsB (sp_low v 32) 159 620 0 30 #[137, 137, 181, 205, 205, 205, 205, 251, 283, 325, 325, 325, 325, 325, 370, 370, 370, 370, 394, 394, 394, 435, 445, 455, 485, 507, 512, 521, 548, 572, 597] 680 = true) {I I' : MI} {J J' : MJ} {r : Int64} (hK : kL_way ((sp_low (v >>> ((5 : Int32) &&& 31)) 15) - 2) ((sp_low (v >>> ((8 : Int32) &&& 31)) 15) - 2) (v >>> ((9 : Int32) &&& 31)) ((sp_low (v >>> ((14 : Int32) &&& 31)) 10) - 1) I J r I' J') : kA v I J r I' J' := by
  intro l D b0 P N o hlt
  refine hw_MXof (by decide) [(0, .ref _), (1, .int _)] rfl (Nat.le_of_ble_eq_true rfl) ?_
  intro p e s m args below meth c C hr hlk ht
  refine act_pre1 hd C ?_
  refine hq_ts (tgt := 680) C dL_act_159 hj ?_
  refine hq_aload_n (q := 6) C dL_act_680 rfl rfl ?_
  refine hq_iload_n (q := 4) C dL_act_681 rfl rfl ?_
  refine hq_iload (q := 3) C dL_act_682 rfl ?_
  refine hq_iload (q := 0) C dL_act_684 rfl ?_
  refine hq_iload_n (q := 5) C dL_act_686 rfl rfl ?_
  refine hq_if_eq (tgt := 695) C dL_act_687 (by decide) (fun c_687 => absurd c_687 (by decide)) (fun _ => ?_)
  refine hq_iload (q := 1) C dL_act_690 rfl ?_
  refine hq_goto (tgt := 703) C dL_act_692 (by decide) ?_
  refine hq_cSLr (As := [.ref _, .int _, .int _, .int _, .int _]) (rm := rL_way) (Cn := "") C (hK l D b0 P N o hlt) ws_L_way ml_L_140 rfl rfl rfl rfl ⟨Nat.le_of_ble_eq_true rfl, Nat.le_of_ble_eq_true rfl⟩ (Nat.le_of_ble_eq_true rfl) ⟨Nat.le_of_ble_eq_true rfl, Nat.le_of_ble_eq_true rfl⟩ dL_act_703 ?_
  exact hq_lretX C hr hlk dL_act_706 rfl rfl rfl (Nat.le_of_ble_eq_true rfl) (Nat.le_of_ble_eq_true rfl)
set_option maxHeartbeats 4000000 in
set_option maxRecDepth 100000 in
theorem ca_wayOf_1 {v : Int32} (hd : sp_low (v >>> ((26 : Int32) &&& 31)) 14 = 0) (hj : tsB (sp_low v 32) 159 620 0 30 #[137, 137, 181, 205, 205, 205, 205, 251, 283, 325, 325, 325, 325, 325, 370, 370, 370, 370, 394, 394, 394, 435, 445, 455, 485, 507, 512, 521, 548, 572, 597] 707 = true) {I I' : MI} {J J' : MJ} {r : Int64} (hK : kL_wayOf ((sp_low (v >>> ((11 : Int32) &&& 31)) 44) - 2) ((sp_low (v >>> ((14 : Int32) &&& 31)) 10) - 1) I J r I' J') : kA v I J r I' J' := by
  intro l D b0 P N o hlt
  refine hw_MXof (by decide) [(0, .ref _), (1, .int _)] rfl (Nat.le_of_ble_eq_true rfl) ?_
  intro p e s m args below meth c C hr hlk ht
  refine act_pre1 hd C ?_
  refine hq_ts (tgt := 707) C dL_act_159 hj ?_
  refine hq_aload_n (q := 6) C dL_act_707 rfl rfl ?_
  refine hq_iload (q := 2) C dL_act_708 rfl ?_
  refine hq_iload_n (q := 5) C dL_act_710 rfl rfl ?_
  refine hq_if_eq (tgt := 719) C dL_act_711 (by decide) (fun c_711 => absurd c_711 (by decide)) (fun _ => ?_)
  refine hq_iload (q := 1) C dL_act_714 rfl ?_
  refine hq_goto (tgt := 727) C dL_act_716 (by decide) ?_
  refine hq_cSLr (As := [.ref _, .int _, .int _]) (rm := rL_wayOf) (Cn := "") C (hK l D b0 P N o hlt) ws_L_wayOf ml_L_142 rfl rfl rfl rfl ⟨Nat.le_of_ble_eq_true rfl, Nat.le_of_ble_eq_true rfl⟩ (Nat.le_of_ble_eq_true rfl) ⟨Nat.le_of_ble_eq_true rfl, Nat.le_of_ble_eq_true rfl⟩ dL_act_727 ?_
  exact hq_lretX C hr hlk dL_act_730 rfl rfl rfl (Nat.le_of_ble_eq_true rfl) (Nat.le_of_ble_eq_true rfl)
set_option maxHeartbeats 4000000 in
set_option maxRecDepth 100000 in
theorem ca_orderOf_1 {v : Int32} (hd : sp_low (v >>> ((26 : Int32) &&& 31)) 14 = 0) (hj : tsB (sp_low v 32) 159 620 0 30 #[137, 137, 181, 205, 205, 205, 205, 251, 283, 325, 325, 325, 325, 325, 370, 370, 370, 370, 394, 394, 394, 435, 445, 455, 485, 507, 512, 521, 548, 572, 597] 731 = true) {I I' : MI} {J J' : MJ} {r : Int64} (hK : kL_orderOf ((sp_low (v >>> ((11 : Int32) &&& 31)) 44) - 2) (v >>> ((9 : Int32) &&& 31)) I J r I' J') : kA v I J r I' J' := by
  intro l D b0 P N o hlt
  refine hw_MXof (by decide) [(0, .ref _), (1, .int _)] rfl (Nat.le_of_ble_eq_true rfl) ?_
  intro p e s m args below meth c C hr hlk ht
  refine act_pre1 hd C ?_
  refine hq_ts (tgt := 731) C dL_act_159 hj ?_
  refine hq_aload_n (q := 6) C dL_act_731 rfl rfl ?_
  refine hq_iload (q := 2) C dL_act_732 rfl ?_
  refine hq_iload_n (q := 5) C dL_act_734 rfl rfl ?_
  refine hq_if_eq (tgt := 743) C dL_act_735 (by decide) (fun c_735 => absurd c_735 (by decide)) (fun _ => ?_)
  refine hq_iload (q := 0) C dL_act_738 rfl ?_
  refine hq_goto (tgt := 752) C dL_act_740 (by decide) ?_
  refine hq_cSLr (As := [.ref _, .int _, .int _]) (rm := rL_orderOf) (Cn := "") C (hK l D b0 P N o hlt) ws_L_orderOf ml_L_144 rfl rfl rfl rfl ⟨Nat.le_of_ble_eq_true rfl, Nat.le_of_ble_eq_true rfl⟩ (Nat.le_of_ble_eq_true rfl) ⟨Nat.le_of_ble_eq_true rfl, Nat.le_of_ble_eq_true rfl⟩ dL_act_752 ?_
  exact hq_lretX C hr hlk dL_act_755 rfl rfl rfl (Nat.le_of_ble_eq_true rfl) (Nat.le_of_ble_eq_true rfl)
set_option maxHeartbeats 4000000 in
set_option maxRecDepth 100000 in
theorem ca_sum_1 {v : Int32} (hd : sp_low (v >>> ((26 : Int32) &&& 31)) 14 = 0) (hj : tsB (sp_low v 32) 159 620 0 30 #[137, 137, 181, 205, 205, 205, 205, 251, 283, 325, 325, 325, 325, 325, 370, 370, 370, 370, 394, 394, 394, 435, 445, 455, 485, 507, 512, 521, 548, 572, 597] 756 = true) {I I' : MI} {J J' : MJ} {r : Int64} (hK : kL_sum (v >>> ((9 : Int32) &&& 31)) I J r I' J') : kA v I J r I' J' := by
  intro l D b0 P N o hlt
  refine hw_MXof (by decide) [(0, .ref _), (1, .int _)] rfl (Nat.le_of_ble_eq_true rfl) ?_
  intro p e s m args below meth c C hr hlk ht
  refine act_pre1 hd C ?_
  refine hq_ts (tgt := 756) C dL_act_159 hj ?_
  refine hq_aload_n (q := 6) C dL_act_756 rfl rfl ?_
  refine hq_iload_n (q := 5) C dL_act_757 rfl rfl ?_
  refine hq_if_eq (tgt := 766) C dL_act_758 (by decide) (fun c_758 => absurd c_758 (by decide)) (fun _ => ?_)
  refine hq_iload (q := 0) C dL_act_761 rfl ?_
  refine hq_goto (tgt := 775) C dL_act_763 (by decide) ?_
  refine hq_cSLr (As := [.ref _, .int _]) (rm := rL_sum) (Cn := "") C (hK l D b0 P N o hlt) ws_L_sum ml_L_146 rfl rfl rfl rfl ⟨Nat.le_of_ble_eq_true rfl, Nat.le_of_ble_eq_true rfl⟩ (Nat.le_of_ble_eq_true rfl) ⟨Nat.le_of_ble_eq_true rfl, Nat.le_of_ble_eq_true rfl⟩ dL_act_775 ?_
  exact hq_lretX C hr hlk dL_act_778 rfl rfl rfl (Nat.le_of_ble_eq_true rfl) (Nat.le_of_ble_eq_true rfl)
set_option maxHeartbeats 4000000 in
set_option maxRecDepth 100000 in
theorem ca_debt_1_1 {v : Int32} (hd : sp_low (v >>> ((26 : Int32) &&& 31)) 14 = 0) (hj : tsB (sp_low v 32) 159 620 0 30 #[137, 137, 181, 205, 205, 205, 205, 251, 283, 325, 325, 325, 325, 325, 370, 370, 370, 370, 394, 394, 394, 435, 445, 455, 485, 507, 512, 521, 548, 572, 597] 779 = true) (hb : ((v >>> ((20 : Int32) &&& 31)) &&& 1) = 1) {I I' : MI} {J J' : MJ} {r : Int64} (hK : kL_debt ((sp_low (v >>> ((5 : Int32) &&& 31)) 15) - 2) ((sp_low (v >>> ((8 : Int32) &&& 31)) 15) - 2) 1 I J r I' J') : kA v I J r I' J' := by
  intro l D b0 P N o hlt
  refine hw_MXof (by decide) [(0, .ref _), (1, .int _)] rfl (Nat.le_of_ble_eq_true rfl) ?_
  intro p e s m args below meth c C hr hlk ht
  refine act_pre1 hd C ?_
  refine hq_ts (tgt := 779) C dL_act_159 hj ?_
  refine hq_aload_n (q := 6) C dL_act_779 rfl rfl ?_
  refine hq_iload_n (q := 4) C dL_act_780 rfl rfl ?_
  refine hq_iload (q := 3) C dL_act_781 rfl ?_
  refine hq_iload_n (q := 7) C dL_act_783 rfl rfl ?_
  refine hq_bipush (y := 20) C dL_act_784 (by decide) ?_
  refine hq_ishr C dL_act_786 ?_
  refine hq_iconst (y := 1) C dL_act_787 (by decide) ?_
  refine hq_iand C dL_act_788 ?_
  refine hq_iconst (y := 1) C dL_act_789 (by decide) ?_
  refine hq_icmp_ne (tgt := 797) C dL_act_790 (by decide) (fun c_790 => absurd hb c_790) (fun c_790 => ?_)
  refine hq_iconst (y := 1) C dL_act_793 (by decide) ?_
  refine hq_goto (tgt := 798) C dL_act_794 (by decide) ?_
  refine hq_cSLr (As := [.ref _, .int _, .int _, .int _]) (rm := rL_debt) (Cn := "") C (hK l D b0 P N o hlt) ws_L_debt ml_L_148 rfl rfl rfl rfl ⟨Nat.le_of_ble_eq_true rfl, Nat.le_of_ble_eq_true rfl⟩ (Nat.le_of_ble_eq_true rfl) ⟨Nat.le_of_ble_eq_true rfl, Nat.le_of_ble_eq_true rfl⟩ dL_act_798 ?_
  exact hq_lretX C hr hlk dL_act_801 rfl rfl rfl (Nat.le_of_ble_eq_true rfl) (Nat.le_of_ble_eq_true rfl)
set_option maxHeartbeats 4000000 in
set_option maxRecDepth 100000 in
theorem ca_debt_1_0 {v : Int32} (hd : sp_low (v >>> ((26 : Int32) &&& 31)) 14 = 0) (hj : tsB (sp_low v 32) 159 620 0 30 #[137, 137, 181, 205, 205, 205, 205, 251, 283, 325, 325, 325, 325, 325, 370, 370, 370, 370, 394, 394, 394, 435, 445, 455, 485, 507, 512, 521, 548, 572, 597] 779 = true) (hb : ¬ ((v >>> ((20 : Int32) &&& 31)) &&& 1) = 1) {I I' : MI} {J J' : MJ} {r : Int64} (hK : kL_debt ((sp_low (v >>> ((5 : Int32) &&& 31)) 15) - 2) ((sp_low (v >>> ((8 : Int32) &&& 31)) 15) - 2) 0 I J r I' J') : kA v I J r I' J' := by
  intro l D b0 P N o hlt
  refine hw_MXof (by decide) [(0, .ref _), (1, .int _)] rfl (Nat.le_of_ble_eq_true rfl) ?_
  intro p e s m args below meth c C hr hlk ht
  refine act_pre1 hd C ?_
  refine hq_ts (tgt := 779) C dL_act_159 hj ?_
  refine hq_aload_n (q := 6) C dL_act_779 rfl rfl ?_
  refine hq_iload_n (q := 4) C dL_act_780 rfl rfl ?_
  refine hq_iload (q := 3) C dL_act_781 rfl ?_
  refine hq_iload_n (q := 7) C dL_act_783 rfl rfl ?_
  refine hq_bipush (y := 20) C dL_act_784 (by decide) ?_
  refine hq_ishr C dL_act_786 ?_
  refine hq_iconst (y := 1) C dL_act_787 (by decide) ?_
  refine hq_iand C dL_act_788 ?_
  refine hq_iconst (y := 1) C dL_act_789 (by decide) ?_
  refine hq_icmp_ne (tgt := 797) C dL_act_790 (by decide) (fun c_790 => ?_) (fun c_790 => absurd c_790 hb)
  refine hq_iconst (y := 0) C dL_act_797 (by decide) ?_
  refine hq_cSLr (As := [.ref _, .int _, .int _, .int _]) (rm := rL_debt) (Cn := "") C (hK l D b0 P N o hlt) ws_L_debt ml_L_148 rfl rfl rfl rfl ⟨Nat.le_of_ble_eq_true rfl, Nat.le_of_ble_eq_true rfl⟩ (Nat.le_of_ble_eq_true rfl) ⟨Nat.le_of_ble_eq_true rfl, Nat.le_of_ble_eq_true rfl⟩ dL_act_798 ?_
  exact hq_lretX C hr hlk dL_act_801 rfl rfl rfl (Nat.le_of_ble_eq_true rfl) (Nat.le_of_ble_eq_true rfl)
set_option maxHeartbeats 4000000 in
set_option maxRecDepth 100000 in
theorem ca_broker_0 {v : Int32} (hd : ¬ sp_low (v >>> ((26 : Int32) &&& 31)) 14 = 0) (hj : tsB (sp_low v 32) 159 620 0 30 #[137, 137, 181, 205, 205, 205, 205, 251, 283, 325, 325, 325, 325, 325, 370, 370, 370, 370, 394, 394, 394, 435, 445, 455, 485, 507, 512, 521, 548, 572, 597] 296 = true) {I I' : MI} {J J' : MJ} {r : Int64} (hK : kL_broker (sp_low (v >>> ((14 : Int32) &&& 31)) 3) (sp_low (v >>> ((9 : Int32) &&& 31)) 3000) (sp_low (v >>> ((3 : Int32) &&& 31)) 60) I J r I' J') : kA v I J r I' J' := by
  intro l D b0 P N o hlt
  refine hw_MXof (by decide) [(0, .ref _), (1, .int _)] rfl (Nat.le_of_ble_eq_true rfl) ?_
  intro p e s m args below meth c C hr hlk ht
  refine act_pre0 hd C ?_
  refine hq_ts (tgt := 296) C dL_act_159 hj ?_
  refine hq_aload_n (q := 6) C dL_act_296 rfl rfl ?_
  refine hq_iload (q := 1) C dL_act_297 rfl ?_
  refine hq_iload_n (q := 5) C dL_act_299 rfl rfl ?_
  refine hq_if_eq (tgt := 308) C dL_act_300 (by decide) (fun _ => ?_) (fun c_300 => absurd c_300 (by decide))
  refine hq_iload_n (q := 7) C dL_act_308 rfl rfl ?_
  refine hq_bipush (y := 9) C dL_act_309 (by decide) ?_
  refine hq_ishr C dL_act_311 ?_
  refine hq_sipush (y := 3000) C dL_act_312 (by decide) ?_
  refine hq_cSr (As := [.int _, .int _]) (rm := rL_low) (Cn := "") C (m_L_low (by decide)) ws_L_low ml_L_92 rfl rfl rfl rfl ⟨Nat.le_of_ble_eq_true rfl, Nat.le_of_ble_eq_true rfl⟩ (Nat.le_of_ble_eq_true rfl) ⟨Nat.le_of_ble_eq_true rfl, Nat.le_of_ble_eq_true rfl⟩ dL_act_315 ?_
  refine hq_iload_n (q := 5) C dL_act_318 rfl rfl ?_
  refine hq_if_eq (tgt := 328) C dL_act_319 (by decide) (fun _ => ?_) (fun c_319 => absurd c_319 (by decide))
  refine hq_iload_n (q := 7) C dL_act_328 rfl rfl ?_
  refine hq_iconst (y := 3) C dL_act_329 (by decide) ?_
  refine hq_ishr C dL_act_330 ?_
  refine hq_bipush (y := 60) C dL_act_331 (by decide) ?_
  refine hq_cSr (As := [.int _, .int _]) (rm := rL_low) (Cn := "") C (m_L_low (by decide)) ws_L_low ml_L_92 rfl rfl rfl rfl ⟨Nat.le_of_ble_eq_true rfl, Nat.le_of_ble_eq_true rfl⟩ (Nat.le_of_ble_eq_true rfl) ⟨Nat.le_of_ble_eq_true rfl, Nat.le_of_ble_eq_true rfl⟩ dL_act_333 ?_
  refine hq_cSLr (As := [.ref _, .int _, .int _, .int _]) (rm := rL_broker) (Cn := "") C (hK l D b0 P N o hlt) ws_L_broker ml_L_97 rfl rfl rfl rfl ⟨Nat.le_of_ble_eq_true rfl, Nat.le_of_ble_eq_true rfl⟩ (Nat.le_of_ble_eq_true rfl) ⟨Nat.le_of_ble_eq_true rfl, Nat.le_of_ble_eq_true rfl⟩ dL_act_336 ?_
  exact hq_lretX C hr hlk dL_act_339 rfl rfl rfl (Nat.le_of_ble_eq_true rfl) (Nat.le_of_ble_eq_true rfl)
set_option maxHeartbeats 4000000 in
set_option maxRecDepth 100000 in
theorem ca_rate_0 {v : Int32} (hd : ¬ sp_low (v >>> ((26 : Int32) &&& 31)) 14 = 0) (hj : tsB (sp_low v 32) 159 620 0 30 #[137, 137, 181, 205, 205, 205, 205, 251, 283, 325, 325, 325, 325, 325, 370, 370, 370, 370, 394, 394, 394, 435, 445, 455, 485, 507, 512, 521, 548, 572, 597] 340 = true) {I I' : MI} {J J' : MJ} {r : Int64} (hK : kL_rate (sp_low (v >>> ((5 : Int32) &&& 31)) 5) (sp_low (v >>> ((9 : Int32) &&& 31)) 60) I J r I' J') : kA v I J r I' J' := by
  intro l D b0 P N o hlt
  refine hw_MXof (by decide) [(0, .ref _), (1, .int _)] rfl (Nat.le_of_ble_eq_true rfl) ?_
  intro p e s m args below meth c C hr hlk ht
  refine act_pre0 hd C ?_
  refine hq_ts (tgt := 340) C dL_act_159 hj ?_
  refine hq_aload_n (q := 6) C dL_act_340 rfl rfl ?_
  refine hq_iload_n (q := 4) C dL_act_341 rfl rfl ?_
  refine hq_iload_n (q := 5) C dL_act_342 rfl rfl ?_
  refine hq_if_eq (tgt := 351) C dL_act_343 (by decide) (fun _ => ?_) (fun c_343 => absurd c_343 (by decide))
  refine hq_iload_n (q := 7) C dL_act_351 rfl rfl ?_
  refine hq_bipush (y := 9) C dL_act_352 (by decide) ?_
  refine hq_ishr C dL_act_354 ?_
  refine hq_bipush (y := 60) C dL_act_355 (by decide) ?_
  refine hq_cSr (As := [.int _, .int _]) (rm := rL_low) (Cn := "") C (m_L_low (by decide)) ws_L_low ml_L_92 rfl rfl rfl rfl ⟨Nat.le_of_ble_eq_true rfl, Nat.le_of_ble_eq_true rfl⟩ (Nat.le_of_ble_eq_true rfl) ⟨Nat.le_of_ble_eq_true rfl, Nat.le_of_ble_eq_true rfl⟩ dL_act_357 ?_
  refine hq_cSLr (As := [.ref _, .int _, .int _]) (rm := rL_rate) (Cn := "") C (hK l D b0 P N o hlt) ws_L_rate ml_L_100 rfl rfl rfl rfl ⟨Nat.le_of_ble_eq_true rfl, Nat.le_of_ble_eq_true rfl⟩ (Nat.le_of_ble_eq_true rfl) ⟨Nat.le_of_ble_eq_true rfl, Nat.le_of_ble_eq_true rfl⟩ dL_act_360 ?_
  exact hq_lretX C hr hlk dL_act_363 rfl rfl rfl (Nat.le_of_ble_eq_true rfl) (Nat.le_of_ble_eq_true rfl)
set_option maxHeartbeats 4000000 in
set_option maxRecDepth 100000 in
theorem ca_trust_0_1 {v : Int32} (hd : ¬ sp_low (v >>> ((26 : Int32) &&& 31)) 14 = 0) (hj : tsB (sp_low v 32) 159 620 0 30 #[137, 137, 181, 205, 205, 205, 205, 251, 283, 325, 325, 325, 325, 325, 370, 370, 370, 370, 394, 394, 394, 435, 445, 455, 485, 507, 512, 521, 548, 572, 597] 364 = true) (hb : ((v >>> ((20 : Int32) &&& 31)) &&& 1) = 1) {I I' : MI} {J J' : MJ} {r : Int64} (hK : kL_trust (sp_low (v >>> ((5 : Int32) &&& 31)) 5) (sp_low (v >>> ((8 : Int32) &&& 31)) 5) (500 + (sp_low (v >>> ((9 : Int32) &&& 31)) 3000)) 1 I J r I' J') : kA v I J r I' J' := by
  intro l D b0 P N o hlt
  refine hw_MXof (by decide) [(0, .ref _), (1, .int _)] rfl (Nat.le_of_ble_eq_true rfl) ?_
  intro p e s m args below meth c C hr hlk ht
  refine act_pre0 hd C ?_
  refine hq_ts (tgt := 364) C dL_act_159 hj ?_
  refine hq_aload_n (q := 6) C dL_act_364 rfl rfl ?_
  refine hq_iload_n (q := 4) C dL_act_365 rfl rfl ?_
  refine hq_iload (q := 3) C dL_act_366 rfl ?_
  refine hq_iload_n (q := 5) C dL_act_368 rfl rfl ?_
  refine hq_if_eq (tgt := 377) C dL_act_369 (by decide) (fun _ => ?_) (fun c_369 => absurd c_369 (by decide))
  refine hq_sipush (y := 500) C dL_act_377 (by decide) ?_
  refine hq_iload_n (q := 7) C dL_act_380 rfl rfl ?_
  refine hq_bipush (y := 9) C dL_act_381 (by decide) ?_
  refine hq_ishr C dL_act_383 ?_
  refine hq_sipush (y := 3000) C dL_act_384 (by decide) ?_
  refine hq_cSr (As := [.int _, .int _]) (rm := rL_low) (Cn := "") C (m_L_low (by decide)) ws_L_low ml_L_92 rfl rfl rfl rfl ⟨Nat.le_of_ble_eq_true rfl, Nat.le_of_ble_eq_true rfl⟩ (Nat.le_of_ble_eq_true rfl) ⟨Nat.le_of_ble_eq_true rfl, Nat.le_of_ble_eq_true rfl⟩ dL_act_387 ?_
  refine hq_iadd C dL_act_390 ?_
  refine hq_iload_n (q := 7) C dL_act_391 rfl rfl ?_
  refine hq_bipush (y := 20) C dL_act_392 (by decide) ?_
  refine hq_ishr C dL_act_394 ?_
  refine hq_iconst (y := 1) C dL_act_395 (by decide) ?_
  refine hq_iand C dL_act_396 ?_
  refine hq_iconst (y := 1) C dL_act_397 (by decide) ?_
  refine hq_icmp_ne (tgt := 405) C dL_act_398 (by decide) (fun c_398 => absurd hb c_398) (fun c_398 => ?_)
  refine hq_iconst (y := 1) C dL_act_401 (by decide) ?_
  refine hq_goto (tgt := 406) C dL_act_402 (by decide) ?_
  refine hq_cSLr (As := [.ref _, .int _, .int _, .int _, .int _]) (rm := rL_trust) (Cn := "") C (hK l D b0 P N o hlt) ws_L_trust ml_L_103 rfl rfl rfl rfl ⟨Nat.le_of_ble_eq_true rfl, Nat.le_of_ble_eq_true rfl⟩ (Nat.le_of_ble_eq_true rfl) ⟨Nat.le_of_ble_eq_true rfl, Nat.le_of_ble_eq_true rfl⟩ dL_act_406 ?_
  exact hq_lretX C hr hlk dL_act_409 rfl rfl rfl (Nat.le_of_ble_eq_true rfl) (Nat.le_of_ble_eq_true rfl)
set_option maxHeartbeats 4000000 in
set_option maxRecDepth 100000 in
theorem ca_trust_0_0 {v : Int32} (hd : ¬ sp_low (v >>> ((26 : Int32) &&& 31)) 14 = 0) (hj : tsB (sp_low v 32) 159 620 0 30 #[137, 137, 181, 205, 205, 205, 205, 251, 283, 325, 325, 325, 325, 325, 370, 370, 370, 370, 394, 394, 394, 435, 445, 455, 485, 507, 512, 521, 548, 572, 597] 364 = true) (hb : ¬ ((v >>> ((20 : Int32) &&& 31)) &&& 1) = 1) {I I' : MI} {J J' : MJ} {r : Int64} (hK : kL_trust (sp_low (v >>> ((5 : Int32) &&& 31)) 5) (sp_low (v >>> ((8 : Int32) &&& 31)) 5) (500 + (sp_low (v >>> ((9 : Int32) &&& 31)) 3000)) 0 I J r I' J') : kA v I J r I' J' := by
  intro l D b0 P N o hlt
  refine hw_MXof (by decide) [(0, .ref _), (1, .int _)] rfl (Nat.le_of_ble_eq_true rfl) ?_
  intro p e s m args below meth c C hr hlk ht
  refine act_pre0 hd C ?_
  refine hq_ts (tgt := 364) C dL_act_159 hj ?_
  refine hq_aload_n (q := 6) C dL_act_364 rfl rfl ?_
  refine hq_iload_n (q := 4) C dL_act_365 rfl rfl ?_
  refine hq_iload (q := 3) C dL_act_366 rfl ?_
  refine hq_iload_n (q := 5) C dL_act_368 rfl rfl ?_
  refine hq_if_eq (tgt := 377) C dL_act_369 (by decide) (fun _ => ?_) (fun c_369 => absurd c_369 (by decide))
  refine hq_sipush (y := 500) C dL_act_377 (by decide) ?_
  refine hq_iload_n (q := 7) C dL_act_380 rfl rfl ?_
  refine hq_bipush (y := 9) C dL_act_381 (by decide) ?_
  refine hq_ishr C dL_act_383 ?_
  refine hq_sipush (y := 3000) C dL_act_384 (by decide) ?_
  refine hq_cSr (As := [.int _, .int _]) (rm := rL_low) (Cn := "") C (m_L_low (by decide)) ws_L_low ml_L_92 rfl rfl rfl rfl ⟨Nat.le_of_ble_eq_true rfl, Nat.le_of_ble_eq_true rfl⟩ (Nat.le_of_ble_eq_true rfl) ⟨Nat.le_of_ble_eq_true rfl, Nat.le_of_ble_eq_true rfl⟩ dL_act_387 ?_
  refine hq_iadd C dL_act_390 ?_
  refine hq_iload_n (q := 7) C dL_act_391 rfl rfl ?_
  refine hq_bipush (y := 20) C dL_act_392 (by decide) ?_
  refine hq_ishr C dL_act_394 ?_
  refine hq_iconst (y := 1) C dL_act_395 (by decide) ?_
  refine hq_iand C dL_act_396 ?_
  refine hq_iconst (y := 1) C dL_act_397 (by decide) ?_
  refine hq_icmp_ne (tgt := 405) C dL_act_398 (by decide) (fun c_398 => ?_) (fun c_398 => absurd c_398 hb)
  refine hq_iconst (y := 0) C dL_act_405 (by decide) ?_
  refine hq_cSLr (As := [.ref _, .int _, .int _, .int _, .int _]) (rm := rL_trust) (Cn := "") C (hK l D b0 P N o hlt) ws_L_trust ml_L_103 rfl rfl rfl rfl ⟨Nat.le_of_ble_eq_true rfl, Nat.le_of_ble_eq_true rfl⟩ (Nat.le_of_ble_eq_true rfl) ⟨Nat.le_of_ble_eq_true rfl, Nat.le_of_ble_eq_true rfl⟩ dL_act_406 ?_
  exact hq_lretX C hr hlk dL_act_409 rfl rfl rfl (Nat.le_of_ble_eq_true rfl) (Nat.le_of_ble_eq_true rfl)
set_option maxHeartbeats 4000000 in
set_option maxRecDepth 100000 in
theorem ca_breakWord_0 {v : Int32} (hd : ¬ sp_low (v >>> ((26 : Int32) &&& 31)) 14 = 0) (hj : tsB (sp_low v 32) 159 620 0 30 #[137, 137, 181, 205, 205, 205, 205, 251, 283, 325, 325, 325, 325, 325, 370, 370, 370, 370, 394, 394, 394, 435, 445, 455, 485, 507, 512, 521, 548, 572, 597] 410 = true) (hb : (sp_low (v >>> ((16 : Int32) &&& 31)) 3) = 0) {I I' : MI} {J J' : MJ} {r : Int64} (hK : kL_breakWord (sp_low (v >>> ((5 : Int32) &&& 31)) 5) I J r I' J') : kA v I J r I' J' := by
  intro l D b0 P N o hlt
  refine hw_MXof (by decide) [(0, .ref _), (1, .int _)] rfl (Nat.le_of_ble_eq_true rfl) ?_
  intro p e s m args below meth c C hr hlk ht
  refine act_pre0 hd C ?_
  refine hq_ts (tgt := 410) C dL_act_159 hj ?_
  refine hq_iload_n (q := 7) C dL_act_410 rfl rfl ?_
  refine hq_bipush (y := 16) C dL_act_411 (by decide) ?_
  refine hq_ishr C dL_act_413 ?_
  refine hq_iconst (y := 3) C dL_act_414 (by decide) ?_
  refine hq_cSr (As := [.int _, .int _]) (rm := rL_low) (Cn := "") C (m_L_low (by decide)) ws_L_low ml_L_92 rfl rfl rfl rfl ⟨Nat.le_of_ble_eq_true rfl, Nat.le_of_ble_eq_true rfl⟩ (Nat.le_of_ble_eq_true rfl) ⟨Nat.le_of_ble_eq_true rfl, Nat.le_of_ble_eq_true rfl⟩ dL_act_415 ?_
  refine hq_if_ne (tgt := 429) C dL_act_418 (by decide) (fun c_418 => absurd hb c_418) (fun c_418 => ?_)
  refine hq_aload_n (q := 6) C dL_act_421 rfl rfl ?_
  refine hq_iload_n (q := 4) C dL_act_422 rfl rfl ?_
  refine hq_cSLr (As := [.ref _, .int _]) (rm := rL_breakWord) (Cn := "") C (hK l D b0 P N o hlt) ws_L_breakWord ml_L_106 rfl rfl rfl rfl ⟨Nat.le_of_ble_eq_true rfl, Nat.le_of_ble_eq_true rfl⟩ (Nat.le_of_ble_eq_true rfl) ⟨Nat.le_of_ble_eq_true rfl, Nat.le_of_ble_eq_true rfl⟩ dL_act_423 ?_
  refine hq_goto (tgt := 441) C dL_act_426 (by decide) ?_
  exact hq_lretX C hr hlk dL_act_441 rfl rfl rfl (Nat.le_of_ble_eq_true rfl) (Nat.le_of_ble_eq_true rfl)
set_option maxHeartbeats 4000000 in
set_option maxRecDepth 100000 in
theorem ca_festival_0 {v : Int32} (hd : ¬ sp_low (v >>> ((26 : Int32) &&& 31)) 14 = 0) (hj : tsB (sp_low v 32) 159 620 0 30 #[137, 137, 181, 205, 205, 205, 205, 251, 283, 325, 325, 325, 325, 325, 370, 370, 370, 370, 394, 394, 394, 435, 445, 455, 485, 507, 512, 521, 548, 572, 597] 410 = true) (hb : ¬ (sp_low (v >>> ((16 : Int32) &&& 31)) 3) = 0) {I I' : MI} {J J' : MJ} {r : Int64} {z : Int32} (hK : ∀ (l : Launch) (D : va_G) (b0 : Nat) (P : MI) (N : MJ) (o : Int64), hM l yX5_festival cX5_festival 1 (some .boolean) rX5_festival D b0 [.ref (hw_ad b0 0 0)] I J P N o (some (.int z)) I' J' P N o) : kA v I J (if z = 0 then 0 else 1) I' J' := by
  intro l D b0 P N o hlt
  refine hw_MXof (by decide) [(0, .ref _), (1, .int _)] rfl (Nat.le_of_ble_eq_true rfl) ?_
  intro p e s m args below meth c C hr hlk ht
  refine act_pre0 hd C ?_
  refine hq_ts (tgt := 410) C dL_act_159 hj ?_
  refine hq_iload_n (q := 7) C dL_act_410 rfl rfl ?_
  refine hq_bipush (y := 16) C dL_act_411 (by decide) ?_
  refine hq_ishr C dL_act_413 ?_
  refine hq_iconst (y := 3) C dL_act_414 (by decide) ?_
  refine hq_cSr (As := [.int _, .int _]) (rm := rL_low) (Cn := "") C (m_L_low (by decide)) ws_L_low ml_L_92 rfl rfl rfl rfl ⟨Nat.le_of_ble_eq_true rfl, Nat.le_of_ble_eq_true rfl⟩ (Nat.le_of_ble_eq_true rfl) ⟨Nat.le_of_ble_eq_true rfl, Nat.le_of_ble_eq_true rfl⟩ dL_act_415 ?_
  refine hq_if_ne (tgt := 429) C dL_act_418 (by decide) (fun c_418 => ?_) (fun c_418 => absurd c_418 hb)
  refine hq_aload_n (q := 6) C dL_act_429 rfl rfl ?_
  refine hq_cVr (As := []) (rm := rX5_festival) (f := 0) (Nc := 1) C (hK l D b0 P N o) wv_X5_festival ml_L_109 rfl rfl rfl Nat.one_pos rfl rfl rfl rfl ⟨Nat.le_of_ble_eq_true rfl, Nat.le_of_ble_eq_true rfl⟩ (Nat.le_of_ble_eq_true rfl) ⟨Nat.le_of_ble_eq_true rfl, Nat.le_of_ble_eq_true rfl⟩ dL_act_430 ?_
  refine hq_if_eq (tgt := 440) C dL_act_433 (by decide) (fun c_433 => ?_) (fun c_433 => ?_)
  · refine hq_lconst (y := 0) C dL_act_440 rfl ?_
    exact hq_lretX C hr hlk dL_act_441 rfl (by rw [if_pos c_433]) rfl (Nat.le_of_ble_eq_true rfl) (Nat.le_of_ble_eq_true rfl)
  · refine hq_lconst (y := 1) C dL_act_436 rfl ?_
    refine hq_goto (tgt := 441) C dL_act_437 (by decide) ?_
    exact hq_lretX C hr hlk dL_act_441 rfl (by rw [if_neg c_433]) rfl (Nat.le_of_ble_eq_true rfl) (Nat.le_of_ble_eq_true rfl)
set_option maxHeartbeats 4000000 in
set_option maxRecDepth 100000 in
theorem ca_raid_0 {v : Int32} (hd : ¬ sp_low (v >>> ((26 : Int32) &&& 31)) 14 = 0) (hj : tsB (sp_low v 32) 159 620 0 30 #[137, 137, 181, 205, 205, 205, 205, 251, 283, 325, 325, 325, 325, 325, 370, 370, 370, 370, 394, 394, 394, 435, 445, 455, 485, 507, 512, 521, 548, 572, 597] 442 = true) (hb : (sp_low (v >>> ((16 : Int32) &&& 31)) 2) = 0) {I I' : MI} {J J' : MJ} {r : Int64} (hK : kL_raid (sp_low (v >>> ((5 : Int32) &&& 31)) 5) I J r I' J') : kA v I J r I' J' := by
  intro l D b0 P N o hlt
  refine hw_MXof (by decide) [(0, .ref _), (1, .int _)] rfl (Nat.le_of_ble_eq_true rfl) ?_
  intro p e s m args below meth c C hr hlk ht
  refine act_pre0 hd C ?_
  refine hq_ts (tgt := 442) C dL_act_159 hj ?_
  refine hq_iload_n (q := 7) C dL_act_442 rfl rfl ?_
  refine hq_bipush (y := 16) C dL_act_443 (by decide) ?_
  refine hq_ishr C dL_act_445 ?_
  refine hq_iconst (y := 2) C dL_act_446 (by decide) ?_
  refine hq_cSr (As := [.int _, .int _]) (rm := rL_low) (Cn := "") C (m_L_low (by decide)) ws_L_low ml_L_92 rfl rfl rfl rfl ⟨Nat.le_of_ble_eq_true rfl, Nat.le_of_ble_eq_true rfl⟩ (Nat.le_of_ble_eq_true rfl) ⟨Nat.le_of_ble_eq_true rfl, Nat.le_of_ble_eq_true rfl⟩ dL_act_447 ?_
  refine hq_if_ne (tgt := 461) C dL_act_450 (by decide) (fun c_450 => absurd hb c_450) (fun c_450 => ?_)
  refine hq_aload_n (q := 6) C dL_act_453 rfl rfl ?_
  refine hq_iload_n (q := 4) C dL_act_454 rfl rfl ?_
  refine hq_cSLr (As := [.ref _, .int _]) (rm := rL_raid) (Cn := "") C (hK l D b0 P N o hlt) ws_L_raid ml_L_113 rfl rfl rfl rfl ⟨Nat.le_of_ble_eq_true rfl, Nat.le_of_ble_eq_true rfl⟩ (Nat.le_of_ble_eq_true rfl) ⟨Nat.le_of_ble_eq_true rfl, Nat.le_of_ble_eq_true rfl⟩ dL_act_455 ?_
  refine hq_goto (tgt := 483) C dL_act_458 (by decide) ?_
  exact hq_lretX C hr hlk dL_act_483 rfl rfl rfl (Nat.le_of_ble_eq_true rfl) (Nat.le_of_ble_eq_true rfl)
set_option maxHeartbeats 4000000 in
set_option maxRecDepth 100000 in
theorem ca_list_0 {v : Int32} (hd : ¬ sp_low (v >>> ((26 : Int32) &&& 31)) 14 = 0) (hj : tsB (sp_low v 32) 159 620 0 30 #[137, 137, 181, 205, 205, 205, 205, 251, 283, 325, 325, 325, 325, 325, 370, 370, 370, 370, 394, 394, 394, 435, 445, 455, 485, 507, 512, 521, 548, 572, 597] 442 = true) (hb : ¬ (sp_low (v >>> ((16 : Int32) &&& 31)) 2) = 0) {I I' : MI} {J J' : MJ} {r : Int64} (hK : kL_list (sp_low (v >>> ((9 : Int32) &&& 31)) 20) I J r I' J') : kA v I J r I' J' := by
  intro l D b0 P N o hlt
  refine hw_MXof (by decide) [(0, .ref _), (1, .int _)] rfl (Nat.le_of_ble_eq_true rfl) ?_
  intro p e s m args below meth c C hr hlk ht
  refine act_pre0 hd C ?_
  refine hq_ts (tgt := 442) C dL_act_159 hj ?_
  refine hq_iload_n (q := 7) C dL_act_442 rfl rfl ?_
  refine hq_bipush (y := 16) C dL_act_443 (by decide) ?_
  refine hq_ishr C dL_act_445 ?_
  refine hq_iconst (y := 2) C dL_act_446 (by decide) ?_
  refine hq_cSr (As := [.int _, .int _]) (rm := rL_low) (Cn := "") C (m_L_low (by decide)) ws_L_low ml_L_92 rfl rfl rfl rfl ⟨Nat.le_of_ble_eq_true rfl, Nat.le_of_ble_eq_true rfl⟩ (Nat.le_of_ble_eq_true rfl) ⟨Nat.le_of_ble_eq_true rfl, Nat.le_of_ble_eq_true rfl⟩ dL_act_447 ?_
  refine hq_if_ne (tgt := 461) C dL_act_450 (by decide) (fun c_450 => ?_) (fun c_450 => absurd c_450 hb)
  refine hq_aload_n (q := 6) C dL_act_461 rfl rfl ?_
  refine hq_iload_n (q := 5) C dL_act_462 rfl rfl ?_
  refine hq_if_eq (tgt := 471) C dL_act_463 (by decide) (fun _ => ?_) (fun c_463 => absurd c_463 (by decide))
  refine hq_iload_n (q := 7) C dL_act_471 rfl rfl ?_
  refine hq_bipush (y := 9) C dL_act_472 (by decide) ?_
  refine hq_ishr C dL_act_474 ?_
  refine hq_bipush (y := 20) C dL_act_475 (by decide) ?_
  refine hq_cSr (As := [.int _, .int _]) (rm := rL_low) (Cn := "") C (m_L_low (by decide)) ws_L_low ml_L_92 rfl rfl rfl rfl ⟨Nat.le_of_ble_eq_true rfl, Nat.le_of_ble_eq_true rfl⟩ (Nat.le_of_ble_eq_true rfl) ⟨Nat.le_of_ble_eq_true rfl, Nat.le_of_ble_eq_true rfl⟩ dL_act_477 ?_
  refine hq_cSLr (As := [.ref _, .int _]) (rm := rL_list) (Cn := "") C (hK l D b0 P N o hlt) ws_L_list ml_L_115 rfl rfl rfl rfl ⟨Nat.le_of_ble_eq_true rfl, Nat.le_of_ble_eq_true rfl⟩ (Nat.le_of_ble_eq_true rfl) ⟨Nat.le_of_ble_eq_true rfl, Nat.le_of_ble_eq_true rfl⟩ dL_act_480 ?_
  exact hq_lretX C hr hlk dL_act_483 rfl rfl rfl (Nat.le_of_ble_eq_true rfl) (Nat.le_of_ble_eq_true rfl)
set_option maxHeartbeats 4000000 in
set_option maxRecDepth 100000 in
theorem ca_order_0 {v : Int32} (hd : ¬ sp_low (v >>> ((26 : Int32) &&& 31)) 14 = 0) (hj : tsB (sp_low v 32) 159 620 0 30 #[137, 137, 181, 205, 205, 205, 205, 251, 283, 325, 325, 325, 325, 325, 370, 370, 370, 370, 394, 394, 394, 435, 445, 455, 485, 507, 512, 521, 548, 572, 597] 484 = true) {I I' : MI} {J J' : MJ} {r : Int64} (hK : kL_order (sp_low (v >>> ((5 : Int32) &&& 31)) 5) (sp_low (v >>> ((8 : Int32) &&& 31)) 5) (1 + (sp_low (v >>> ((9 : Int32) &&& 31)) 600)) (sp_low (v >>> ((14 : Int32) &&& 31)) 20) (sp_low (v >>> ((3 : Int32) &&& 31)) 2) I J r I' J') : kA v I J r I' J' := by
  intro l D b0 P N o hlt
  refine hw_MXof (by decide) [(0, .ref _), (1, .int _)] rfl (Nat.le_of_ble_eq_true rfl) ?_
  intro p e s m args below meth c C hr hlk ht
  refine act_pre0 hd C ?_
  refine hq_ts (tgt := 484) C dL_act_159 hj ?_
  refine hq_aload_n (q := 6) C dL_act_484 rfl rfl ?_
  refine hq_iload_n (q := 4) C dL_act_485 rfl rfl ?_
  refine hq_iload (q := 3) C dL_act_486 rfl ?_
  refine hq_iload (q := 0) C dL_act_488 rfl ?_
  refine hq_iload_n (q := 5) C dL_act_490 rfl rfl ?_
  refine hq_if_eq (tgt := 499) C dL_act_491 (by decide) (fun _ => ?_) (fun c_491 => absurd c_491 (by decide))
  refine hq_iload_n (q := 7) C dL_act_499 rfl rfl ?_
  refine hq_bipush (y := 14) C dL_act_500 (by decide) ?_
  refine hq_ishr C dL_act_502 ?_
  refine hq_bipush (y := 20) C dL_act_503 (by decide) ?_
  refine hq_cSr (As := [.int _, .int _]) (rm := rL_low) (Cn := "") C (m_L_low (by decide)) ws_L_low ml_L_92 rfl rfl rfl rfl ⟨Nat.le_of_ble_eq_true rfl, Nat.le_of_ble_eq_true rfl⟩ (Nat.le_of_ble_eq_true rfl) ⟨Nat.le_of_ble_eq_true rfl, Nat.le_of_ble_eq_true rfl⟩ dL_act_505 ?_
  refine hq_iload_n (q := 5) C dL_act_508 rfl rfl ?_
  refine hq_if_eq (tgt := 518) C dL_act_509 (by decide) (fun _ => ?_) (fun c_509 => absurd c_509 (by decide))
  refine hq_iload_n (q := 7) C dL_act_518 rfl rfl ?_
  refine hq_iconst (y := 3) C dL_act_519 (by decide) ?_
  refine hq_ishr C dL_act_520 ?_
  refine hq_iconst (y := 2) C dL_act_521 (by decide) ?_
  refine hq_cSr (As := [.int _, .int _]) (rm := rL_low) (Cn := "") C (m_L_low (by decide)) ws_L_low ml_L_92 rfl rfl rfl rfl ⟨Nat.le_of_ble_eq_true rfl, Nat.le_of_ble_eq_true rfl⟩ (Nat.le_of_ble_eq_true rfl) ⟨Nat.le_of_ble_eq_true rfl, Nat.le_of_ble_eq_true rfl⟩ dL_act_522 ?_
  refine hq_cSLr (As := [.ref _, .int _, .int _, .int _, .int _, .int _]) (rm := rL_order) (Cn := "") C (hK l D b0 P N o hlt) ws_L_order ml_L_117 rfl rfl rfl rfl ⟨Nat.le_of_ble_eq_true rfl, Nat.le_of_ble_eq_true rfl⟩ (Nat.le_of_ble_eq_true rfl) ⟨Nat.le_of_ble_eq_true rfl, Nat.le_of_ble_eq_true rfl⟩ dL_act_525 ?_
  exact hq_lretX C hr hlk dL_act_528 rfl rfl rfl (Nat.le_of_ble_eq_true rfl) (Nat.le_of_ble_eq_true rfl)
set_option maxHeartbeats 4000000 in
set_option maxRecDepth 100000 in
theorem ca_fetch_0 {v : Int32} (hd : ¬ sp_low (v >>> ((26 : Int32) &&& 31)) 14 = 0) (hj : tsB (sp_low v 32) 159 620 0 30 #[137, 137, 181, 205, 205, 205, 205, 251, 283, 325, 325, 325, 325, 325, 370, 370, 370, 370, 394, 394, 394, 435, 445, 455, 485, 507, 512, 521, 548, 572, 597] 529 = true) {I I' : MI} {J J' : MJ} {r : Int64} (hK : kL_fetch (sp_low (v >>> ((11 : Int32) &&& 31)) 8) (sp_low (v >>> ((9 : Int32) &&& 31)) 2) I J r I' J') : kA v I J r I' J' := by
  intro l D b0 P N o hlt
  refine hw_MXof (by decide) [(0, .ref _), (1, .int _)] rfl (Nat.le_of_ble_eq_true rfl) ?_
  intro p e s m args below meth c C hr hlk ht
  refine act_pre0 hd C ?_
  refine hq_ts (tgt := 529) C dL_act_159 hj ?_
  refine hq_aload_n (q := 6) C dL_act_529 rfl rfl ?_
  refine hq_iload (q := 2) C dL_act_530 rfl ?_
  refine hq_iload_n (q := 5) C dL_act_532 rfl rfl ?_
  refine hq_if_eq (tgt := 541) C dL_act_533 (by decide) (fun _ => ?_) (fun c_533 => absurd c_533 (by decide))
  refine hq_iload_n (q := 7) C dL_act_541 rfl rfl ?_
  refine hq_bipush (y := 9) C dL_act_542 (by decide) ?_
  refine hq_ishr C dL_act_544 ?_
  refine hq_iconst (y := 2) C dL_act_545 (by decide) ?_
  refine hq_cSr (As := [.int _, .int _]) (rm := rL_low) (Cn := "") C (m_L_low (by decide)) ws_L_low ml_L_92 rfl rfl rfl rfl ⟨Nat.le_of_ble_eq_true rfl, Nat.le_of_ble_eq_true rfl⟩ (Nat.le_of_ble_eq_true rfl) ⟨Nat.le_of_ble_eq_true rfl, Nat.le_of_ble_eq_true rfl⟩ dL_act_546 ?_
  refine hq_cSLr (As := [.ref _, .int _, .int _]) (rm := rL_fetch) (Cn := "") C (hK l D b0 P N o hlt) ws_L_fetch ml_L_120 rfl rfl rfl rfl ⟨Nat.le_of_ble_eq_true rfl, Nat.le_of_ble_eq_true rfl⟩ (Nat.le_of_ble_eq_true rfl) ⟨Nat.le_of_ble_eq_true rfl, Nat.le_of_ble_eq_true rfl⟩ dL_act_549 ?_
  exact hq_lretX C hr hlk dL_act_552 rfl rfl rfl (Nat.le_of_ble_eq_true rfl) (Nat.le_of_ble_eq_true rfl)
set_option maxHeartbeats 4000000 in
set_option maxRecDepth 100000 in
theorem ca_pass_0_1 {v : Int32} (hd : ¬ sp_low (v >>> ((26 : Int32) &&& 31)) 14 = 0) (hj : tsB (sp_low v 32) 159 620 0 30 #[137, 137, 181, 205, 205, 205, 205, 251, 283, 325, 325, 325, 325, 325, 370, 370, 370, 370, 394, 394, 394, 435, 445, 455, 485, 507, 512, 521, 548, 572, 597] 553 = true) (hb : (sp_low (v >>> ((13 : Int32) &&& 31)) 5) = 0) {I I' : MI} {J J' : MJ} {r : Int64} (hK : kL_pass (1 + (sp_low (v >>> ((9 : Int32) &&& 31)) 200)) I J r I' J') : kA v I J r I' J' := by
  intro l D b0 P N o hlt
  refine hw_MXof (by decide) [(0, .ref _), (1, .int _)] rfl (Nat.le_of_ble_eq_true rfl) ?_
  intro p e s m args below meth c C hr hlk ht
  refine act_pre0 hd C ?_
  refine hq_ts (tgt := 553) C dL_act_159 hj ?_
  refine hq_aload_n (q := 6) C dL_act_553 rfl rfl ?_
  refine hq_iload_n (q := 5) C dL_act_554 rfl rfl ?_
  refine hq_if_eq (tgt := 563) C dL_act_555 (by decide) (fun _ => ?_) (fun c_555 => absurd c_555 (by decide))
  refine hq_iconst (y := 1) C dL_act_563 (by decide) ?_
  refine hq_iload_n (q := 7) C dL_act_564 rfl rfl ?_
  refine hq_bipush (y := 9) C dL_act_565 (by decide) ?_
  refine hq_ishr C dL_act_567 ?_
  refine hq_iload_n (q := 7) C dL_act_568 rfl rfl ?_
  refine hq_bipush (y := 13) C dL_act_569 (by decide) ?_
  refine hq_ishr C dL_act_571 ?_
  refine hq_iconst (y := 5) C dL_act_572 (by decide) ?_
  refine hq_cSr (As := [.int _, .int _]) (rm := rL_low) (Cn := "") C (m_L_low (by decide)) ws_L_low ml_L_92 rfl rfl rfl rfl ⟨Nat.le_of_ble_eq_true rfl, Nat.le_of_ble_eq_true rfl⟩ (Nat.le_of_ble_eq_true rfl) ⟨Nat.le_of_ble_eq_true rfl, Nat.le_of_ble_eq_true rfl⟩ dL_act_573 ?_
  refine hq_if_ne (tgt := 585) C dL_act_576 (by decide) (fun c_576 => absurd hb c_576) (fun c_576 => ?_)
  refine hq_sipush (y := 200) C dL_act_579 (by decide) ?_
  refine hq_goto (tgt := 586) C dL_act_582 (by decide) ?_
  refine hq_cSr (As := [.int _, .int _]) (rm := rL_low) (Cn := "") C (m_L_low (by decide)) ws_L_low ml_L_92 rfl rfl rfl rfl ⟨Nat.le_of_ble_eq_true rfl, Nat.le_of_ble_eq_true rfl⟩ (Nat.le_of_ble_eq_true rfl) ⟨Nat.le_of_ble_eq_true rfl, Nat.le_of_ble_eq_true rfl⟩ dL_act_586 ?_
  refine hq_iadd C dL_act_589 ?_
  refine hq_cSLr (As := [.ref _, .int _]) (rm := rL_pass) (Cn := "") C (hK l D b0 P N o hlt) ws_L_pass ml_L_122 rfl rfl rfl rfl ⟨Nat.le_of_ble_eq_true rfl, Nat.le_of_ble_eq_true rfl⟩ (Nat.le_of_ble_eq_true rfl) ⟨Nat.le_of_ble_eq_true rfl, Nat.le_of_ble_eq_true rfl⟩ dL_act_590 ?_
  exact hq_lretX C hr hlk dL_act_593 rfl rfl rfl (Nat.le_of_ble_eq_true rfl) (Nat.le_of_ble_eq_true rfl)
set_option maxHeartbeats 4000000 in
set_option maxRecDepth 100000 in
theorem ca_pass_0_0 {v : Int32} (hd : ¬ sp_low (v >>> ((26 : Int32) &&& 31)) 14 = 0) (hj : tsB (sp_low v 32) 159 620 0 30 #[137, 137, 181, 205, 205, 205, 205, 251, 283, 325, 325, 325, 325, 325, 370, 370, 370, 370, 394, 394, 394, 435, 445, 455, 485, 507, 512, 521, 548, 572, 597] 553 = true) (hb : ¬ (sp_low (v >>> ((13 : Int32) &&& 31)) 5) = 0) {I I' : MI} {J J' : MJ} {r : Int64} (hK : kL_pass (1 + (sp_low (v >>> ((9 : Int32) &&& 31)) 3)) I J r I' J') : kA v I J r I' J' := by
  intro l D b0 P N o hlt
  refine hw_MXof (by decide) [(0, .ref _), (1, .int _)] rfl (Nat.le_of_ble_eq_true rfl) ?_
  intro p e s m args below meth c C hr hlk ht
  refine act_pre0 hd C ?_
  refine hq_ts (tgt := 553) C dL_act_159 hj ?_
  refine hq_aload_n (q := 6) C dL_act_553 rfl rfl ?_
  refine hq_iload_n (q := 5) C dL_act_554 rfl rfl ?_
  refine hq_if_eq (tgt := 563) C dL_act_555 (by decide) (fun _ => ?_) (fun c_555 => absurd c_555 (by decide))
  refine hq_iconst (y := 1) C dL_act_563 (by decide) ?_
  refine hq_iload_n (q := 7) C dL_act_564 rfl rfl ?_
  refine hq_bipush (y := 9) C dL_act_565 (by decide) ?_
  refine hq_ishr C dL_act_567 ?_
  refine hq_iload_n (q := 7) C dL_act_568 rfl rfl ?_
  refine hq_bipush (y := 13) C dL_act_569 (by decide) ?_
  refine hq_ishr C dL_act_571 ?_
  refine hq_iconst (y := 5) C dL_act_572 (by decide) ?_
  refine hq_cSr (As := [.int _, .int _]) (rm := rL_low) (Cn := "") C (m_L_low (by decide)) ws_L_low ml_L_92 rfl rfl rfl rfl ⟨Nat.le_of_ble_eq_true rfl, Nat.le_of_ble_eq_true rfl⟩ (Nat.le_of_ble_eq_true rfl) ⟨Nat.le_of_ble_eq_true rfl, Nat.le_of_ble_eq_true rfl⟩ dL_act_573 ?_
  refine hq_if_ne (tgt := 585) C dL_act_576 (by decide) (fun c_576 => ?_) (fun c_576 => absurd c_576 hb)
  refine hq_iconst (y := 3) C dL_act_585 (by decide) ?_
  refine hq_cSr (As := [.int _, .int _]) (rm := rL_low) (Cn := "") C (m_L_low (by decide)) ws_L_low ml_L_92 rfl rfl rfl rfl ⟨Nat.le_of_ble_eq_true rfl, Nat.le_of_ble_eq_true rfl⟩ (Nat.le_of_ble_eq_true rfl) ⟨Nat.le_of_ble_eq_true rfl, Nat.le_of_ble_eq_true rfl⟩ dL_act_586 ?_
  refine hq_iadd C dL_act_589 ?_
  refine hq_cSLr (As := [.ref _, .int _]) (rm := rL_pass) (Cn := "") C (hK l D b0 P N o hlt) ws_L_pass ml_L_122 rfl rfl rfl rfl ⟨Nat.le_of_ble_eq_true rfl, Nat.le_of_ble_eq_true rfl⟩ (Nat.le_of_ble_eq_true rfl) ⟨Nat.le_of_ble_eq_true rfl, Nat.le_of_ble_eq_true rfl⟩ dL_act_590 ?_
  exact hq_lretX C hr hlk dL_act_593 rfl rfl rfl (Nat.le_of_ble_eq_true rfl) (Nat.le_of_ble_eq_true rfl)
set_option maxHeartbeats 4000000 in
set_option maxRecDepth 100000 in
theorem ca_pay_0 {v : Int32} (hd : ¬ sp_low (v >>> ((26 : Int32) &&& 31)) 14 = 0) (hj : tsB (sp_low v 32) 159 620 0 30 #[137, 137, 181, 205, 205, 205, 205, 251, 283, 325, 325, 325, 325, 325, 370, 370, 370, 370, 394, 394, 394, 435, 445, 455, 485, 507, 512, 521, 548, 572, 597] 594 = true) {I I' : MI} {J J' : MJ} {r : Int64} (hK : kL_pay (sp_low (v >>> ((5 : Int32) &&& 31)) 5) (sp_low (v >>> ((8 : Int32) &&& 31)) 5) (1 + (sp_low (v >>> ((9 : Int32) &&& 31)) 600)) I J r I' J') : kA v I J r I' J' := by
  intro l D b0 P N o hlt
  refine hw_MXof (by decide) [(0, .ref _), (1, .int _)] rfl (Nat.le_of_ble_eq_true rfl) ?_
  intro p e s m args below meth c C hr hlk ht
  refine act_pre0 hd C ?_
  refine hq_ts (tgt := 594) C dL_act_159 hj ?_
  refine hq_aload_n (q := 6) C dL_act_594 rfl rfl ?_
  refine hq_iload_n (q := 4) C dL_act_595 rfl rfl ?_
  refine hq_iload (q := 3) C dL_act_596 rfl ?_
  refine hq_iload (q := 0) C dL_act_598 rfl ?_
  refine hq_cSLr (As := [.ref _, .int _, .int _, .int _]) (rm := rL_pay) (Cn := "") C (hK l D b0 P N o hlt) ws_L_pay ml_L_124 rfl rfl rfl rfl ⟨Nat.le_of_ble_eq_true rfl, Nat.le_of_ble_eq_true rfl⟩ (Nat.le_of_ble_eq_true rfl) ⟨Nat.le_of_ble_eq_true rfl, Nat.le_of_ble_eq_true rfl⟩ dL_act_600 ?_
  exact hq_lretX C hr hlk dL_act_603 rfl rfl rfl (Nat.le_of_ble_eq_true rfl) (Nat.le_of_ble_eq_true rfl)
set_option maxHeartbeats 4000000 in
set_option maxRecDepth 100000 in
theorem ca_deliver_0 {v : Int32} (hd : ¬ sp_low (v >>> ((26 : Int32) &&& 31)) 14 = 0) (hj : tsB (sp_low v 32) 159 620 0 30 #[137, 137, 181, 205, 205, 205, 205, 251, 283, 325, 325, 325, 325, 325, 370, 370, 370, 370, 394, 394, 394, 435, 445, 455, 485, 507, 512, 521, 548, 572, 597] 604 = true) {I I' : MI} {J J' : MJ} {r : Int64} (hK : kL_deliver (sp_low (v >>> ((5 : Int32) &&& 31)) 5) (sp_low (v >>> ((8 : Int32) &&& 31)) 5) (1 + (sp_low (v >>> ((9 : Int32) &&& 31)) 600)) I J r I' J') : kA v I J r I' J' := by
  intro l D b0 P N o hlt
  refine hw_MXof (by decide) [(0, .ref _), (1, .int _)] rfl (Nat.le_of_ble_eq_true rfl) ?_
  intro p e s m args below meth c C hr hlk ht
  refine act_pre0 hd C ?_
  refine hq_ts (tgt := 604) C dL_act_159 hj ?_
  refine hq_aload_n (q := 6) C dL_act_604 rfl rfl ?_
  refine hq_iload_n (q := 4) C dL_act_605 rfl rfl ?_
  refine hq_iload (q := 3) C dL_act_606 rfl ?_
  refine hq_iload (q := 0) C dL_act_608 rfl ?_
  refine hq_cSLr (As := [.ref _, .int _, .int _, .int _]) (rm := rL_deliver) (Cn := "") C (hK l D b0 P N o hlt) ws_L_deliver ml_L_126 rfl rfl rfl rfl ⟨Nat.le_of_ble_eq_true rfl, Nat.le_of_ble_eq_true rfl⟩ (Nat.le_of_ble_eq_true rfl) ⟨Nat.le_of_ble_eq_true rfl, Nat.le_of_ble_eq_true rfl⟩ dL_act_610 ?_
  exact hq_lretX C hr hlk dL_act_613 rfl rfl rfl (Nat.le_of_ble_eq_true rfl) (Nat.le_of_ble_eq_true rfl)
set_option maxHeartbeats 4000000 in
set_option maxRecDepth 100000 in
theorem ca_courier_0 {v : Int32} (hd : ¬ sp_low (v >>> ((26 : Int32) &&& 31)) 14 = 0) (hj : tsB (sp_low v 32) 159 620 0 30 #[137, 137, 181, 205, 205, 205, 205, 251, 283, 325, 325, 325, 325, 325, 370, 370, 370, 370, 394, 394, 394, 435, 445, 455, 485, 507, 512, 521, 548, 572, 597] 614 = true) {I I' : MI} {J J' : MJ} {r : Int64} (hK : kL_courier (sp_low (v >>> ((5 : Int32) &&& 31)) 5) (sp_low (v >>> ((8 : Int32) &&& 31)) 5) (1 + (sp_low (v >>> ((9 : Int32) &&& 31)) 600)) (1 + (sp_low (v >>> ((3 : Int32) &&& 31)) 9)) I J r I' J') : kA v I J r I' J' := by
  intro l D b0 P N o hlt
  refine hw_MXof (by decide) [(0, .ref _), (1, .int _)] rfl (Nat.le_of_ble_eq_true rfl) ?_
  intro p e s m args below meth c C hr hlk ht
  refine act_pre0 hd C ?_
  refine hq_ts (tgt := 614) C dL_act_159 hj ?_
  refine hq_aload_n (q := 6) C dL_act_614 rfl rfl ?_
  refine hq_iload_n (q := 4) C dL_act_615 rfl rfl ?_
  refine hq_iload (q := 3) C dL_act_616 rfl ?_
  refine hq_iload (q := 0) C dL_act_618 rfl ?_
  refine hq_iload_n (q := 5) C dL_act_620 rfl rfl ?_
  refine hq_if_eq (tgt := 630) C dL_act_621 (by decide) (fun _ => ?_) (fun c_621 => absurd c_621 (by decide))
  refine hq_iconst (y := 1) C dL_act_630 (by decide) ?_
  refine hq_iload_n (q := 7) C dL_act_631 rfl rfl ?_
  refine hq_iconst (y := 3) C dL_act_632 (by decide) ?_
  refine hq_ishr C dL_act_633 ?_
  refine hq_bipush (y := 9) C dL_act_634 (by decide) ?_
  refine hq_cSr (As := [.int _, .int _]) (rm := rL_low) (Cn := "") C (m_L_low (by decide)) ws_L_low ml_L_92 rfl rfl rfl rfl ⟨Nat.le_of_ble_eq_true rfl, Nat.le_of_ble_eq_true rfl⟩ (Nat.le_of_ble_eq_true rfl) ⟨Nat.le_of_ble_eq_true rfl, Nat.le_of_ble_eq_true rfl⟩ dL_act_636 ?_
  refine hq_iadd C dL_act_639 ?_
  refine hq_cSLr (As := [.ref _, .int _, .int _, .int _, .int _]) (rm := rL_courier) (Cn := "") C (hK l D b0 P N o hlt) ws_L_courier ml_L_128 rfl rfl rfl rfl ⟨Nat.le_of_ble_eq_true rfl, Nat.le_of_ble_eq_true rfl⟩ (Nat.le_of_ble_eq_true rfl) ⟨Nat.le_of_ble_eq_true rfl, Nat.le_of_ble_eq_true rfl⟩ dL_act_640 ?_
  exact hq_lretX C hr hlk dL_act_643 rfl rfl rfl (Nat.le_of_ble_eq_true rfl) (Nat.le_of_ble_eq_true rfl)
set_option maxHeartbeats 4000000 in
set_option maxRecDepth 100000 in
theorem ca_rob_0 {v : Int32} (hd : ¬ sp_low (v >>> ((26 : Int32) &&& 31)) 14 = 0) (hj : tsB (sp_low v 32) 159 620 0 30 #[137, 137, 181, 205, 205, 205, 205, 251, 283, 325, 325, 325, 325, 325, 370, 370, 370, 370, 394, 394, 394, 435, 445, 455, 485, 507, 512, 521, 548, 572, 597] 644 = true) {I I' : MI} {J J' : MJ} {r : Int64} (hK : kL_rob (sp_low (v >>> ((11 : Int32) &&& 31)) 5) I J r I' J') : kA v I J r I' J' := by
  intro l D b0 P N o hlt
  refine hw_MXof (by decide) [(0, .ref _), (1, .int _)] rfl (Nat.le_of_ble_eq_true rfl) ?_
  intro p e s m args below meth c C hr hlk ht
  refine act_pre0 hd C ?_
  refine hq_ts (tgt := 644) C dL_act_159 hj ?_
  refine hq_aload_n (q := 6) C dL_act_644 rfl rfl ?_
  refine hq_iload_n (q := 5) C dL_act_645 rfl rfl ?_
  refine hq_if_eq (tgt := 654) C dL_act_646 (by decide) (fun _ => ?_) (fun c_646 => absurd c_646 (by decide))
  refine hq_iload_n (q := 7) C dL_act_654 rfl rfl ?_
  refine hq_bipush (y := 11) C dL_act_655 (by decide) ?_
  refine hq_ishr C dL_act_657 ?_
  refine hq_iconst (y := 5) C dL_act_658 (by decide) ?_
  refine hq_cSr (As := [.int _, .int _]) (rm := rL_low) (Cn := "") C (m_L_low (by decide)) ws_L_low ml_L_92 rfl rfl rfl rfl ⟨Nat.le_of_ble_eq_true rfl, Nat.le_of_ble_eq_true rfl⟩ (Nat.le_of_ble_eq_true rfl) ⟨Nat.le_of_ble_eq_true rfl, Nat.le_of_ble_eq_true rfl⟩ dL_act_659 ?_
  refine hq_cSLr (As := [.ref _, .int _]) (rm := rL_rob) (Cn := "") C (hK l D b0 P N o hlt) ws_L_rob ml_L_131 rfl rfl rfl rfl ⟨Nat.le_of_ble_eq_true rfl, Nat.le_of_ble_eq_true rfl⟩ (Nat.le_of_ble_eq_true rfl) ⟨Nat.le_of_ble_eq_true rfl, Nat.le_of_ble_eq_true rfl⟩ dL_act_662 ?_
  exact hq_lretX C hr hlk dL_act_665 rfl rfl rfl (Nat.le_of_ble_eq_true rfl) (Nat.le_of_ble_eq_true rfl)
set_option maxHeartbeats 4000000 in
set_option maxRecDepth 100000 in
theorem ca_ring_0 {v : Int32} (hd : ¬ sp_low (v >>> ((26 : Int32) &&& 31)) 14 = 0) (hj : tsB (sp_low v 32) 159 620 0 30 #[137, 137, 181, 205, 205, 205, 205, 251, 283, 325, 325, 325, 325, 325, 370, 370, 370, 370, 394, 394, 394, 435, 445, 455, 485, 507, 512, 521, 548, 572, 597] 666 = true) {I I' : MI} {J J' : MJ} {r : Int64} (hK : ∀ (l : Launch) (D : va_G) (b0 : Nat) (P : MI) (N : MJ) (o : Int64), hM l yX5_ring cX5_ring 6 (some .long) rX5_ring D b0 [.ref (hw_ad b0 0 0)] I J P N o (some (.long r)) I' J' P N o) : kA v I J r I' J' := by
  intro l D b0 P N o hlt
  refine hw_MXof (by decide) [(0, .ref _), (1, .int _)] rfl (Nat.le_of_ble_eq_true rfl) ?_
  intro p e s m args below meth c C hr hlk ht
  refine act_pre0 hd C ?_
  refine hq_ts (tgt := 666) C dL_act_159 hj ?_
  refine hq_aload_n (q := 6) C dL_act_666 rfl rfl ?_
  refine hq_cVr (As := []) (rm := rX5_ring) (f := 0) (Nc := 1) C (hK l D b0 P N o) wv_X5_ring ml_L_133 rfl rfl rfl Nat.one_pos rfl rfl rfl rfl ⟨Nat.le_of_ble_eq_true rfl, Nat.le_of_ble_eq_true rfl⟩ (Nat.le_of_ble_eq_true rfl) ⟨Nat.le_of_ble_eq_true rfl, Nat.le_of_ble_eq_true rfl⟩ dL_act_667 ?_
  exact hq_lretX C hr hlk dL_act_670 rfl rfl rfl (Nat.le_of_ble_eq_true rfl) (Nat.le_of_ble_eq_true rfl)
set_option maxHeartbeats 4000000 in
set_option maxRecDepth 100000 in
theorem ca_lawOf_0 {v : Int32} (hd : ¬ sp_low (v >>> ((26 : Int32) &&& 31)) 14 = 0) (hj : tsB (sp_low v 32) 159 620 0 30 #[137, 137, 181, 205, 205, 205, 205, 251, 283, 325, 325, 325, 325, 325, 370, 370, 370, 370, 394, 394, 394, 435, 445, 455, 485, 507, 512, 521, 548, 572, 597] 671 = true) {I I' : MI} {J J' : MJ} {r : Int64} (hK : kL_lawOf (sp_low (v >>> ((14 : Int32) &&& 31)) 3) (1 + (sp_low (v >>> ((9 : Int32) &&& 31)) 600)) I J r I' J') : kA v I J r I' J' := by
  intro l D b0 P N o hlt
  refine hw_MXof (by decide) [(0, .ref _), (1, .int _)] rfl (Nat.le_of_ble_eq_true rfl) ?_
  intro p e s m args below meth c C hr hlk ht
  refine act_pre0 hd C ?_
  refine hq_ts (tgt := 671) C dL_act_159 hj ?_
  refine hq_aload_n (q := 6) C dL_act_671 rfl rfl ?_
  refine hq_iload (q := 1) C dL_act_672 rfl ?_
  refine hq_iload (q := 0) C dL_act_674 rfl ?_
  refine hq_cSLr (As := [.ref _, .int _, .int _]) (rm := rL_lawOf) (Cn := "") C (hK l D b0 P N o hlt) ws_L_lawOf ml_L_137 rfl rfl rfl rfl ⟨Nat.le_of_ble_eq_true rfl, Nat.le_of_ble_eq_true rfl⟩ (Nat.le_of_ble_eq_true rfl) ⟨Nat.le_of_ble_eq_true rfl, Nat.le_of_ble_eq_true rfl⟩ dL_act_676 ?_
  exact hq_lretX C hr hlk dL_act_679 rfl rfl rfl (Nat.le_of_ble_eq_true rfl) (Nat.le_of_ble_eq_true rfl)
set_option maxHeartbeats 4000000 in
set_option maxRecDepth 100000 in
theorem ca_way_0 {v : Int32} (hd : ¬ sp_low (v >>> ((26 : Int32) &&& 31)) 14 = 0) (hj : tsB (sp_low v 32) 159 620 0 30 #[137, 137, 181, 205, 205, 205, 205, 251, 283, 325, 325, 325, 325, 325, 370, 370, 370, 370, 394, 394, 394, 435, 445, 455, 485, 507, 512, 521, 548, 572, 597] 680 = true) {I I' : MI} {J J' : MJ} {r : Int64} (hK : kL_way (sp_low (v >>> ((5 : Int32) &&& 31)) 5) (sp_low (v >>> ((8 : Int32) &&& 31)) 5) (1 + (sp_low (v >>> ((9 : Int32) &&& 31)) 600)) (sp_low (v >>> ((14 : Int32) &&& 31)) 4) I J r I' J') : kA v I J r I' J' := by
  intro l D b0 P N o hlt
  refine hw_MXof (by decide) [(0, .ref _), (1, .int _)] rfl (Nat.le_of_ble_eq_true rfl) ?_
  intro p e s m args below meth c C hr hlk ht
  refine act_pre0 hd C ?_
  refine hq_ts (tgt := 680) C dL_act_159 hj ?_
  refine hq_aload_n (q := 6) C dL_act_680 rfl rfl ?_
  refine hq_iload_n (q := 4) C dL_act_681 rfl rfl ?_
  refine hq_iload (q := 3) C dL_act_682 rfl ?_
  refine hq_iload (q := 0) C dL_act_684 rfl ?_
  refine hq_iload_n (q := 5) C dL_act_686 rfl rfl ?_
  refine hq_if_eq (tgt := 695) C dL_act_687 (by decide) (fun _ => ?_) (fun c_687 => absurd c_687 (by decide))
  refine hq_iload_n (q := 7) C dL_act_695 rfl rfl ?_
  refine hq_bipush (y := 14) C dL_act_696 (by decide) ?_
  refine hq_ishr C dL_act_698 ?_
  refine hq_iconst (y := 4) C dL_act_699 (by decide) ?_
  refine hq_cSr (As := [.int _, .int _]) (rm := rL_low) (Cn := "") C (m_L_low (by decide)) ws_L_low ml_L_92 rfl rfl rfl rfl ⟨Nat.le_of_ble_eq_true rfl, Nat.le_of_ble_eq_true rfl⟩ (Nat.le_of_ble_eq_true rfl) ⟨Nat.le_of_ble_eq_true rfl, Nat.le_of_ble_eq_true rfl⟩ dL_act_700 ?_
  refine hq_cSLr (As := [.ref _, .int _, .int _, .int _, .int _]) (rm := rL_way) (Cn := "") C (hK l D b0 P N o hlt) ws_L_way ml_L_140 rfl rfl rfl rfl ⟨Nat.le_of_ble_eq_true rfl, Nat.le_of_ble_eq_true rfl⟩ (Nat.le_of_ble_eq_true rfl) ⟨Nat.le_of_ble_eq_true rfl, Nat.le_of_ble_eq_true rfl⟩ dL_act_703 ?_
  exact hq_lretX C hr hlk dL_act_706 rfl rfl rfl (Nat.le_of_ble_eq_true rfl) (Nat.le_of_ble_eq_true rfl)
set_option maxHeartbeats 4000000 in
set_option maxRecDepth 100000 in
theorem ca_wayOf_0 {v : Int32} (hd : ¬ sp_low (v >>> ((26 : Int32) &&& 31)) 14 = 0) (hj : tsB (sp_low v 32) 159 620 0 30 #[137, 137, 181, 205, 205, 205, 205, 251, 283, 325, 325, 325, 325, 325, 370, 370, 370, 370, 394, 394, 394, 435, 445, 455, 485, 507, 512, 521, 548, 572, 597] 707 = true) {I I' : MI} {J J' : MJ} {r : Int64} (hK : kL_wayOf (sp_low (v >>> ((11 : Int32) &&& 31)) 8) (sp_low (v >>> ((14 : Int32) &&& 31)) 4) I J r I' J') : kA v I J r I' J' := by
  intro l D b0 P N o hlt
  refine hw_MXof (by decide) [(0, .ref _), (1, .int _)] rfl (Nat.le_of_ble_eq_true rfl) ?_
  intro p e s m args below meth c C hr hlk ht
  refine act_pre0 hd C ?_
  refine hq_ts (tgt := 707) C dL_act_159 hj ?_
  refine hq_aload_n (q := 6) C dL_act_707 rfl rfl ?_
  refine hq_iload (q := 2) C dL_act_708 rfl ?_
  refine hq_iload_n (q := 5) C dL_act_710 rfl rfl ?_
  refine hq_if_eq (tgt := 719) C dL_act_711 (by decide) (fun _ => ?_) (fun c_711 => absurd c_711 (by decide))
  refine hq_iload_n (q := 7) C dL_act_719 rfl rfl ?_
  refine hq_bipush (y := 14) C dL_act_720 (by decide) ?_
  refine hq_ishr C dL_act_722 ?_
  refine hq_iconst (y := 4) C dL_act_723 (by decide) ?_
  refine hq_cSr (As := [.int _, .int _]) (rm := rL_low) (Cn := "") C (m_L_low (by decide)) ws_L_low ml_L_92 rfl rfl rfl rfl ⟨Nat.le_of_ble_eq_true rfl, Nat.le_of_ble_eq_true rfl⟩ (Nat.le_of_ble_eq_true rfl) ⟨Nat.le_of_ble_eq_true rfl, Nat.le_of_ble_eq_true rfl⟩ dL_act_724 ?_
  refine hq_cSLr (As := [.ref _, .int _, .int _]) (rm := rL_wayOf) (Cn := "") C (hK l D b0 P N o hlt) ws_L_wayOf ml_L_142 rfl rfl rfl rfl ⟨Nat.le_of_ble_eq_true rfl, Nat.le_of_ble_eq_true rfl⟩ (Nat.le_of_ble_eq_true rfl) ⟨Nat.le_of_ble_eq_true rfl, Nat.le_of_ble_eq_true rfl⟩ dL_act_727 ?_
  exact hq_lretX C hr hlk dL_act_730 rfl rfl rfl (Nat.le_of_ble_eq_true rfl) (Nat.le_of_ble_eq_true rfl)
set_option maxHeartbeats 4000000 in
set_option maxRecDepth 100000 in
theorem ca_orderOf_0 {v : Int32} (hd : ¬ sp_low (v >>> ((26 : Int32) &&& 31)) 14 = 0) (hj : tsB (sp_low v 32) 159 620 0 30 #[137, 137, 181, 205, 205, 205, 205, 251, 283, 325, 325, 325, 325, 325, 370, 370, 370, 370, 394, 394, 394, 435, 445, 455, 485, 507, 512, 521, 548, 572, 597] 731 = true) {I I' : MI} {J J' : MJ} {r : Int64} (hK : kL_orderOf (sp_low (v >>> ((11 : Int32) &&& 31)) 8) (sp_low (v >>> ((9 : Int32) &&& 31)) 6) I J r I' J') : kA v I J r I' J' := by
  intro l D b0 P N o hlt
  refine hw_MXof (by decide) [(0, .ref _), (1, .int _)] rfl (Nat.le_of_ble_eq_true rfl) ?_
  intro p e s m args below meth c C hr hlk ht
  refine act_pre0 hd C ?_
  refine hq_ts (tgt := 731) C dL_act_159 hj ?_
  refine hq_aload_n (q := 6) C dL_act_731 rfl rfl ?_
  refine hq_iload (q := 2) C dL_act_732 rfl ?_
  refine hq_iload_n (q := 5) C dL_act_734 rfl rfl ?_
  refine hq_if_eq (tgt := 743) C dL_act_735 (by decide) (fun _ => ?_) (fun c_735 => absurd c_735 (by decide))
  refine hq_iload_n (q := 7) C dL_act_743 rfl rfl ?_
  refine hq_bipush (y := 9) C dL_act_744 (by decide) ?_
  refine hq_ishr C dL_act_746 ?_
  refine hq_bipush (y := 6) C dL_act_747 (by decide) ?_
  refine hq_cSr (As := [.int _, .int _]) (rm := rL_low) (Cn := "") C (m_L_low (by decide)) ws_L_low ml_L_92 rfl rfl rfl rfl ⟨Nat.le_of_ble_eq_true rfl, Nat.le_of_ble_eq_true rfl⟩ (Nat.le_of_ble_eq_true rfl) ⟨Nat.le_of_ble_eq_true rfl, Nat.le_of_ble_eq_true rfl⟩ dL_act_749 ?_
  refine hq_cSLr (As := [.ref _, .int _, .int _]) (rm := rL_orderOf) (Cn := "") C (hK l D b0 P N o hlt) ws_L_orderOf ml_L_144 rfl rfl rfl rfl ⟨Nat.le_of_ble_eq_true rfl, Nat.le_of_ble_eq_true rfl⟩ (Nat.le_of_ble_eq_true rfl) ⟨Nat.le_of_ble_eq_true rfl, Nat.le_of_ble_eq_true rfl⟩ dL_act_752 ?_
  exact hq_lretX C hr hlk dL_act_755 rfl rfl rfl (Nat.le_of_ble_eq_true rfl) (Nat.le_of_ble_eq_true rfl)
set_option maxHeartbeats 4000000 in
set_option maxRecDepth 100000 in
theorem ca_sum_0 {v : Int32} (hd : ¬ sp_low (v >>> ((26 : Int32) &&& 31)) 14 = 0) (hj : tsB (sp_low v 32) 159 620 0 30 #[137, 137, 181, 205, 205, 205, 205, 251, 283, 325, 325, 325, 325, 325, 370, 370, 370, 370, 394, 394, 394, 435, 445, 455, 485, 507, 512, 521, 548, 572, 597] 756 = true) {I I' : MI} {J J' : MJ} {r : Int64} (hK : kL_sum (sp_low (v >>> ((9 : Int32) &&& 31)) 8) I J r I' J') : kA v I J r I' J' := by
  intro l D b0 P N o hlt
  refine hw_MXof (by decide) [(0, .ref _), (1, .int _)] rfl (Nat.le_of_ble_eq_true rfl) ?_
  intro p e s m args below meth c C hr hlk ht
  refine act_pre0 hd C ?_
  refine hq_ts (tgt := 756) C dL_act_159 hj ?_
  refine hq_aload_n (q := 6) C dL_act_756 rfl rfl ?_
  refine hq_iload_n (q := 5) C dL_act_757 rfl rfl ?_
  refine hq_if_eq (tgt := 766) C dL_act_758 (by decide) (fun _ => ?_) (fun c_758 => absurd c_758 (by decide))
  refine hq_iload_n (q := 7) C dL_act_766 rfl rfl ?_
  refine hq_bipush (y := 9) C dL_act_767 (by decide) ?_
  refine hq_ishr C dL_act_769 ?_
  refine hq_bipush (y := 8) C dL_act_770 (by decide) ?_
  refine hq_cSr (As := [.int _, .int _]) (rm := rL_low) (Cn := "") C (m_L_low (by decide)) ws_L_low ml_L_92 rfl rfl rfl rfl ⟨Nat.le_of_ble_eq_true rfl, Nat.le_of_ble_eq_true rfl⟩ (Nat.le_of_ble_eq_true rfl) ⟨Nat.le_of_ble_eq_true rfl, Nat.le_of_ble_eq_true rfl⟩ dL_act_772 ?_
  refine hq_cSLr (As := [.ref _, .int _]) (rm := rL_sum) (Cn := "") C (hK l D b0 P N o hlt) ws_L_sum ml_L_146 rfl rfl rfl rfl ⟨Nat.le_of_ble_eq_true rfl, Nat.le_of_ble_eq_true rfl⟩ (Nat.le_of_ble_eq_true rfl) ⟨Nat.le_of_ble_eq_true rfl, Nat.le_of_ble_eq_true rfl⟩ dL_act_775 ?_
  exact hq_lretX C hr hlk dL_act_778 rfl rfl rfl (Nat.le_of_ble_eq_true rfl) (Nat.le_of_ble_eq_true rfl)
set_option maxHeartbeats 4000000 in
set_option maxRecDepth 100000 in
theorem ca_debt_0_1 {v : Int32} (hd : ¬ sp_low (v >>> ((26 : Int32) &&& 31)) 14 = 0) (hj : tsB (sp_low v 32) 159 620 0 30 #[137, 137, 181, 205, 205, 205, 205, 251, 283, 325, 325, 325, 325, 325, 370, 370, 370, 370, 394, 394, 394, 435, 445, 455, 485, 507, 512, 521, 548, 572, 597] 779 = true) (hb : ((v >>> ((20 : Int32) &&& 31)) &&& 1) = 1) {I I' : MI} {J J' : MJ} {r : Int64} (hK : kL_debt (sp_low (v >>> ((5 : Int32) &&& 31)) 5) (sp_low (v >>> ((8 : Int32) &&& 31)) 5) 1 I J r I' J') : kA v I J r I' J' := by
  intro l D b0 P N o hlt
  refine hw_MXof (by decide) [(0, .ref _), (1, .int _)] rfl (Nat.le_of_ble_eq_true rfl) ?_
  intro p e s m args below meth c C hr hlk ht
  refine act_pre0 hd C ?_
  refine hq_ts (tgt := 779) C dL_act_159 hj ?_
  refine hq_aload_n (q := 6) C dL_act_779 rfl rfl ?_
  refine hq_iload_n (q := 4) C dL_act_780 rfl rfl ?_
  refine hq_iload (q := 3) C dL_act_781 rfl ?_
  refine hq_iload_n (q := 7) C dL_act_783 rfl rfl ?_
  refine hq_bipush (y := 20) C dL_act_784 (by decide) ?_
  refine hq_ishr C dL_act_786 ?_
  refine hq_iconst (y := 1) C dL_act_787 (by decide) ?_
  refine hq_iand C dL_act_788 ?_
  refine hq_iconst (y := 1) C dL_act_789 (by decide) ?_
  refine hq_icmp_ne (tgt := 797) C dL_act_790 (by decide) (fun c_790 => absurd hb c_790) (fun c_790 => ?_)
  refine hq_iconst (y := 1) C dL_act_793 (by decide) ?_
  refine hq_goto (tgt := 798) C dL_act_794 (by decide) ?_
  refine hq_cSLr (As := [.ref _, .int _, .int _, .int _]) (rm := rL_debt) (Cn := "") C (hK l D b0 P N o hlt) ws_L_debt ml_L_148 rfl rfl rfl rfl ⟨Nat.le_of_ble_eq_true rfl, Nat.le_of_ble_eq_true rfl⟩ (Nat.le_of_ble_eq_true rfl) ⟨Nat.le_of_ble_eq_true rfl, Nat.le_of_ble_eq_true rfl⟩ dL_act_798 ?_
  exact hq_lretX C hr hlk dL_act_801 rfl rfl rfl (Nat.le_of_ble_eq_true rfl) (Nat.le_of_ble_eq_true rfl)
set_option maxHeartbeats 4000000 in
set_option maxRecDepth 100000 in
theorem ca_debt_0_0 {v : Int32} (hd : ¬ sp_low (v >>> ((26 : Int32) &&& 31)) 14 = 0) (hj : tsB (sp_low v 32) 159 620 0 30 #[137, 137, 181, 205, 205, 205, 205, 251, 283, 325, 325, 325, 325, 325, 370, 370, 370, 370, 394, 394, 394, 435, 445, 455, 485, 507, 512, 521, 548, 572, 597] 779 = true) (hb : ¬ ((v >>> ((20 : Int32) &&& 31)) &&& 1) = 1) {I I' : MI} {J J' : MJ} {r : Int64} (hK : kL_debt (sp_low (v >>> ((5 : Int32) &&& 31)) 5) (sp_low (v >>> ((8 : Int32) &&& 31)) 5) 0 I J r I' J') : kA v I J r I' J' := by
  intro l D b0 P N o hlt
  refine hw_MXof (by decide) [(0, .ref _), (1, .int _)] rfl (Nat.le_of_ble_eq_true rfl) ?_
  intro p e s m args below meth c C hr hlk ht
  refine act_pre0 hd C ?_
  refine hq_ts (tgt := 779) C dL_act_159 hj ?_
  refine hq_aload_n (q := 6) C dL_act_779 rfl rfl ?_
  refine hq_iload_n (q := 4) C dL_act_780 rfl rfl ?_
  refine hq_iload (q := 3) C dL_act_781 rfl ?_
  refine hq_iload_n (q := 7) C dL_act_783 rfl rfl ?_
  refine hq_bipush (y := 20) C dL_act_784 (by decide) ?_
  refine hq_ishr C dL_act_786 ?_
  refine hq_iconst (y := 1) C dL_act_787 (by decide) ?_
  refine hq_iand C dL_act_788 ?_
  refine hq_iconst (y := 1) C dL_act_789 (by decide) ?_
  refine hq_icmp_ne (tgt := 797) C dL_act_790 (by decide) (fun c_790 => ?_) (fun c_790 => absurd c_790 hb)
  refine hq_iconst (y := 0) C dL_act_797 (by decide) ?_
  refine hq_cSLr (As := [.ref _, .int _, .int _, .int _]) (rm := rL_debt) (Cn := "") C (hK l D b0 P N o hlt) ws_L_debt ml_L_148 rfl rfl rfl rfl ⟨Nat.le_of_ble_eq_true rfl, Nat.le_of_ble_eq_true rfl⟩ (Nat.le_of_ble_eq_true rfl) ⟨Nat.le_of_ble_eq_true rfl, Nat.le_of_ble_eq_true rfl⟩ dL_act_798 ?_
  exact hq_lretX C hr hlk dL_act_801 rfl rfl rfl (Nat.le_of_ble_eq_true rfl) (Nat.le_of_ble_eq_true rfl)
