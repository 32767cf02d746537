abbrev rX4_find : Room := { frames := 4, cells := 0, slots := 0, locals := 92 }
abbrev wX4_find : Cond := .code yX4_find cX4_find 4 (some .boolean)
theorem wv_X4_find : hw_WV RX4 yX4_find wX4_find 2 := ⟨⟨hw_in 507 (by decide +kernel) rfl, hw_in 505 (by decide +kernel) rfl, hw_in 506 (by decide +kernel) rfl, hw_in 40 (by decide +kernel) rfl⟩, by decide +kernel⟩
abbrev rX4_allFees : Room := { frames := 0, cells := 0, slots := 0, locals := 0 }
abbrev wX4_allFees : Cond := .code yX4_allFees cX4_allFees 1 (some .int)
theorem wv_X4_allFees : hw_WV RX4 yX4_allFees wX4_allFees 0 := ⟨⟨hw_in 593 (by decide +kernel) rfl, hw_in 591 (by decide +kernel) rfl, hw_in 592 (by decide +kernel) rfl, hw_in 40 (by decide +kernel) rfl⟩, by decide +kernel⟩
abbrev rX4_feesBehindFirst : Room := { frames := 0, cells := 0, slots := 0, locals := 0 }
abbrev wX4_feesBehindFirst : Cond := .code yX4_feesBehindFirst cX4_feesBehindFirst 1 (some .int)
theorem wv_X4_feesBehindFirst : hw_WV RX4 yX4_feesBehindFirst wX4_feesBehindFirst 0 := ⟨⟨hw_in 547 (by decide +kernel) rfl, hw_in 545 (by decide +kernel) rfl, hw_in 546 (by decide +kernel) rfl, hw_in 40 (by decide +kernel) rfl⟩, by decide +kernel⟩
abbrev rX4_feeOf : Room := { frames := 0, cells := 0, slots := 0, locals := 0 }
abbrev wX4_feeOf : Cond := .code yX4_feeOf cX4_feeOf 2 (some .int)
theorem wv_X4_feeOf : hw_WV RX4 yX4_feeOf wX4_feeOf 1 := ⟨⟨hw_in 515 (by decide +kernel) rfl, hw_in 514 (by decide +kernel) rfl, hw_in 13 (by decide +kernel) rfl, hw_in 40 (by decide +kernel) rfl⟩, by decide +kernel⟩
abbrev rX4_canOwe : Room := { frames := 1, cells := 0, slots := 0, locals := 22 }
abbrev wX4_canOwe : Cond := .code yX4_canOwe cX4_canOwe 5 (some .boolean)
theorem wv_X4_canOwe : hw_WV RX4 yX4_canOwe wX4_canOwe 2 := ⟨⟨hw_in 531 (by decide +kernel) rfl, hw_in 530 (by decide +kernel) rfl, hw_in 17 (by decide +kernel) rfl, hw_in 40 (by decide +kernel) rfl⟩, by decide +kernel⟩
abbrev rX4_startAt : Room := { frames := 1, cells := 0, slots := 0, locals := 21 }
abbrev wX4_startAt : Cond := .code yX4_startAt cX4_startAt 3 none
theorem wv_X4_startAt : hw_WV RX4 yX4_startAt wX4_startAt 1 := ⟨⟨hw_in 511 (by decide +kernel) rfl, hw_in 510 (by decide +kernel) rfl, hw_in 12 (by decide +kernel) rfl, hw_in 40 (by decide +kernel) rfl⟩, by decide +kernel⟩
abbrev rX4_bestUnsettled : Room := { frames := 1, cells := 0, slots := 0, locals := 23 }
abbrev wX4_bestUnsettled : Cond := .code yX4_bestUnsettled cX4_bestUnsettled 3 (some .int)
theorem wv_X4_bestUnsettled : hw_WV RX4 yX4_bestUnsettled wX4_bestUnsettled 0 := ⟨⟨hw_in 523 (by decide +kernel) rfl, hw_in 522 (by decide +kernel) rfl, hw_in 15 (by decide +kernel) rfl, hw_in 40 (by decide +kernel) rfl⟩, by decide +kernel⟩
abbrev rX4_isBetter : Room := { frames := 0, cells := 0, slots := 0, locals := 0 }
abbrev wX4_isBetter : Cond := .code yX4_isBetter cX4_isBetter 4 (some .boolean)
theorem wv_X4_isBetter : hw_WV RX4 yX4_isBetter wX4_isBetter 3 := ⟨⟨hw_in 527 (by decide +kernel) rfl, hw_in 526 (by decide +kernel) rfl, hw_in 16 (by decide +kernel) rfl, hw_in 40 (by decide +kernel) rfl⟩, by decide +kernel⟩
abbrev rX4_reachFromBest : Room := { frames := 2, cells := 0, slots := 0, locals := 46 }
abbrev wX4_reachFromBest : Cond := .code yX4_reachFromBest cX4_reachFromBest 5 none
theorem wv_X4_reachFromBest : hw_WV RX4 yX4_reachFromBest wX4_reachFromBest 0 := ⟨⟨hw_in 519 (by decide +kernel) rfl, hw_in 518 (by decide +kernel) rfl, hw_in 14 (by decide +kernel) rfl, hw_in 40 (by decide +kernel) rfl⟩, by decide +kernel⟩
abbrev rX4_follow : Room := { frames := 3, cells := 0, slots := 0, locals := 68 }
abbrev wX4_follow : Cond := .code yX4_follow cX4_follow 5 none
theorem wv_X4_follow : hw_WV RX4 yX4_follow wX4_follow 2 := ⟨⟨hw_in 539 (by decide +kernel) rfl, hw_in 538 (by decide +kernel) rfl, hw_in 18 (by decide +kernel) rfl, hw_in 40 (by decide +kernel) rfl⟩, by decide +kernel⟩
abbrev rX4_nextOf : Room := { frames := 2, cells := 0, slots := 0, locals := 46 }
abbrev wX4_nextOf : Cond := .code yX4_nextOf cX4_nextOf 3 (some .int)
theorem wv_X4_nextOf : hw_WV RX4 yX4_nextOf wX4_nextOf 1 := ⟨⟨hw_in 543 (by decide +kernel) rfl, hw_in 542 (by decide +kernel) rfl, hw_in 19 (by decide +kernel) rfl, hw_in 40 (by decide +kernel) rfl⟩, by decide +kernel⟩
abbrev rL_cell : Room := { frames := 0, cells := 0, slots := 0, locals := 0 }
abbrev wL_cell : Cond := .code yL_cell cL_cell 2 (some .int)
theorem ws_L_cell : hw_WS yL_cell wL_cell 2 := ⟨⟨hw_in 373 (by decide +kernel) rfl, hw_in 372 (by decide +kernel) rfl, hw_in 34 (by decide +kernel) rfl⟩, by decide +kernel⟩
abbrev rL_low : Room := { frames := 0, cells := 0, slots := 0, locals := 0 }
abbrev wL_low : Cond := .code yL_low cL_low 2 (some .int)
theorem ws_L_low : hw_WS yL_low wL_low 2 := ⟨⟨hw_in 376 (by decide +kernel) rfl, hw_in 375 (by decide +kernel) rfl, hw_in 34 (by decide +kernel) rfl⟩, by decide +kernel⟩
abbrev rL_broker : Room := { frames := 8, cells := 4, slots := 24, locals := 128 }
abbrev rL_rate : Room := { frames := 8, cells := 2, slots := 12, locals := 127 }
abbrev rL_trust : Room := { frames := 9, cells := 4, slots := 24, locals := 149 }
abbrev rL_breakWord : Room := { frames := 8, cells := 2, slots := 12, locals := 183 }
abbrev rL_raid : Room := { frames := 8, cells := 2, slots := 12, locals := 185 }
abbrev rL_order : Room := { frames := 9, cells := 9, slots := 54, locals := 164 }
abbrev rL_fetch : Room := { frames := 8, cells := 4, slots := 24, locals := 128 }
abbrev rL_pass : Room := { frames := 8, cells := 1, slots := 6, locals := 134 }
abbrev rL_pay : Room := { frames := 9, cells := 7, slots := 42, locals := 148 }
abbrev rL_deliver : Room := { frames := 9, cells := 6, slots := 36, locals := 148 }
abbrev rL_courier : Room := { frames := 9, cells := 7, slots := 42, locals := 150 }
abbrev rL_rob : Room := { frames := 8, cells := 2, slots := 12, locals := 124 }
abbrev rL_lawOf : Room := { frames := 8, cells := 2, slots := 12, locals := 126 }
abbrev rL_list : Room := { frames := 8, cells := 1, slots := 6, locals := 124 }
abbrev rL_brokerOf : Room := { frames := 8, cells := 2, slots := 12, locals := 126 }
abbrev rL_debt : Room := { frames := 8, cells := 2, slots := 12, locals := 126 }
abbrev rL_way : Room := { frames := 9, cells := 5, slots := 30, locals := 162 }
abbrev rL_wayOf : Room := { frames := 8, cells := 2, slots := 12, locals := 125 }
abbrev rL_orderOf : Room := { frames := 8, cells := 2, slots := 12, locals := 127 }
abbrev rL_sum : Room := { frames := 8, cells := 1, slots := 6, locals := 125 }
abbrev rL_act : Room := { frames := 10, cells := 65, slots := 390, locals := 207 }
abbrev wL_act : Cond := .code yL_act cL_act 8 (some .long)
set_option maxRecDepth 100000 in
theorem ws_L_act : hw_WS yL_act wL_act 2 := ⟨⟨hw_in2 (List.mem_of_getElem? (i := 106) rfl) rfl, hw_in 379 (by decide +kernel) rfl, hw_in 34 (by decide +kernel) rfl⟩, by decide +kernel⟩
abbrev rL_areAlike : Room := { frames := 9, cells := 18, slots := 108, locals := 150 }
abbrev wL_areAlike : Cond := .code yL_areAlike cL_areAlike 5 (some .boolean)
set_option maxRecDepth 100000 in
theorem ws_L_areAlike : hw_WS yL_areAlike wL_areAlike 3 := ⟨⟨hw_in3 (List.mem_of_getElem? (i := 223) rfl) rfl, hw_in 736 (by decide +kernel) rfl, hw_in 34 (by decide +kernel) rfl⟩, by decide +kernel⟩
abbrev rL_isSo : Room := { frames := 9, cells := 46, slots := 276, locals := 150 }
abbrev wL_isSo : Cond := .code yL_isSo cL_isSo 12 (some .boolean)
set_option maxRecDepth 100000 in
theorem ws_L_isSo : hw_WS yL_isSo wL_isSo 2 := ⟨⟨hw_in4 (List.mem_of_getElem? (i := 5) rfl) rfl, hw_in 758 (by decide +kernel) rfl, hw_in 34 (by decide +kernel) rfl⟩, by decide +kernel⟩
theorem ml_L_159 : Cond.methodLink RL 159 yX5_init ∈ hw_TB := hw_in 50 (by decide +kernel) rfl
theorem ml_X5_39 : Cond.methodLink RX5 39 yX4_init ∈ hw_TB := hw_in 185 (by decide +kernel) rfl
theorem ml_L_88 : Cond.methodLink RL 88 yX5_sum ∈ hw_TB := hw_in 272 (by decide +kernel) rfl
theorem ml_X5_62 : Cond.methodLink RX5 62 yX5_requireRange ∈ hw_TB := hw_in 276 (by decide +kernel) rfl
theorem ml_X5_227 : Cond.methodLink RX5 227 yX5_sumGiven ∈ hw_TB := hw_in 347 (by decide +kernel) rfl
theorem ml_X5_231 : Cond.methodLink RX5 231 yX5_sumPaidOut ∈ hw_TB := hw_in 351 (by decide +kernel) rfl
theorem ml_X5_234 : Cond.methodLink RX5 234 yX5_sumGivenIn ∈ hw_TB := hw_in 355 (by decide +kernel) rfl
theorem ml_X5_237 : Cond.methodLink RX5 237 yX5_sumRobbed ∈ hw_TB := hw_in 359 (by decide +kernel) rfl
theorem ml_X5_240 : Cond.methodLink RX5 240 yX5_sumOnRoad ∈ hw_TB := hw_in 363 (by decide +kernel) rfl
theorem ml_X5_243 : Cond.methodLink RX5 243 yX5_sumCash ∈ hw_TB := hw_in 367 (by decide +kernel) rfl
theorem ml_L_160 : Cond.methodLink RL 160 yL_cell ∈ hw_TB := hw_in 371 (by decide +kernel) rfl
theorem ml_L_92 : Cond.methodLink RL 92 yL_low ∈ hw_TB := hw_in 374 (by decide +kernel) rfl
theorem ml_L_164 : Cond.methodLink RL 164 yL_act ∈ hw_TB := hw_in 378 (by decide +kernel) rfl
theorem ml_L_97 : Cond.methodLink RL 97 yL_broker ∈ hw_TB := hw_in 381 (by decide +kernel) rfl
theorem ml_L_8 : Cond.methodLink RL 8 yX5_broker ∈ hw_TB := hw_in 387 (by decide +kernel) rfl
theorem ml_X5_58 : Cond.methodLink RX5 58 yX5_requireIndex ∈ hw_TB := hw_in 391 (by decide +kernel) rfl
theorem ml_X5_70 : Cond.methodLink RX5 70 yX5_requireState ∈ hw_TB := hw_in 410 (by decide +kernel) rfl
theorem ml_L_100 : Cond.methodLink RL 100 yL_rate ∈ hw_TB := hw_in 430 (by decide +kernel) rfl
theorem ml_L_22 : Cond.methodLink RL 22 yX5_rate ∈ hw_TB := hw_in 433 (by decide +kernel) rfl
theorem ml_L_103 : Cond.methodLink RL 103 yL_trust ∈ hw_TB := hw_in 437 (by decide +kernel) rfl
theorem ml_L_26 : Cond.methodLink RL 26 yX5_trust ∈ hw_TB := hw_in 440 (by decide +kernel) rfl
theorem ml_X5_84 : Cond.methodLink RX5 84 yX5_requireTwoBrokers ∈ hw_TB := hw_in 444 (by decide +kernel) rfl
theorem ml_L_106 : Cond.methodLink RL 106 yL_breakWord ∈ hw_TB := hw_in 449 (by decide +kernel) rfl
theorem ml_L_30 : Cond.methodLink RL 30 yX5_breakWord ∈ hw_TB := hw_in 452 (by decide +kernel) rfl
theorem ml_X5_100 : Cond.methodLink RX5 100 yX5_loseOrdersFrom ∈ hw_TB := hw_in 456 (by decide +kernel) rfl
theorem ml_X5_294 : Cond.methodLink RX5 294 yX3_firstBroker ∈ hw_TB := hw_in 460 (by decide +kernel) rfl
theorem ml_X5_287 : Cond.methodLink RX5 287 yX5_takeBack ∈ hw_TB := hw_in 464 (by decide +kernel) rfl
theorem ml_X5_281 : Cond.methodLink RX5 281 yX2_change ∈ hw_TB := hw_in 468 (by decide +kernel) rfl
theorem ml_X5_284 : Cond.methodLink RX5 284 yX2_write ∈ hw_TB := hw_in 472 (by decide +kernel) rfl
theorem ml_X5_104 : Cond.methodLink RX5 104 yX5_avoid ∈ hw_TB := hw_in 476 (by decide +kernel) rfl
theorem ml_X5_297 : Cond.methodLink RX5 297 yX3_isStillToPass ∈ hw_TB := hw_in 480 (by decide +kernel) rfl
theorem ml_X5_301 : Cond.methodLink RX5 301 yX5_lookAnew ∈ hw_TB := hw_in 484 (by decide +kernel) rfl
theorem ml_X5_267 : Cond.methodLink RX5 267 yX4_start ∈ hw_TB := hw_in 488 (by decide +kernel) rfl
theorem ml_X4_47 : Cond.methodLink RX4 47 yX0_isGood ∈ hw_TB := hw_in 492 (by decide +kernel) rfl
theorem ml_X5_304 : Cond.methodLink RX5 304 yX4_leaveOut ∈ hw_TB := hw_in 496 (by decide +kernel) rfl
theorem ml_X5_159 : Cond.methodLink RX5 159 yX3_lastBroker ∈ hw_TB := hw_in 500 (by decide +kernel) rfl
theorem ml_X5_271 : Cond.methodLink RX5 271 yX4_find ∈ hw_TB := hw_in 504 (by decide +kernel) rfl
theorem ml_X4_56 : Cond.methodLink RX4 56 yX4_startAt ∈ hw_TB := hw_in 508 (by decide +kernel) rfl
theorem ml_X4_80 : Cond.methodLink RX4 80 yX4_feeOf ∈ hw_TB := hw_in 512 (by decide +kernel) rfl
theorem ml_X4_60 : Cond.methodLink RX4 60 yX4_reachFromBest ∈ hw_TB := hw_in 516 (by decide +kernel) rfl
theorem ml_X4_88 : Cond.methodLink RX4 88 yX4_bestUnsettled ∈ hw_TB := hw_in 520 (by decide +kernel) rfl
theorem ml_X4_84 : Cond.methodLink RX4 84 yX4_isBetter ∈ hw_TB := hw_in 524 (by decide +kernel) rfl
theorem ml_X4_92 : Cond.methodLink RX4 92 yX4_canOwe ∈ hw_TB := hw_in 528 (by decide +kernel) rfl
theorem ml_X4_76 : Cond.methodLink RX4 76 yX0_limitNow ∈ hw_TB := hw_in 532 (by decide +kernel) rfl
theorem ml_X4_63 : Cond.methodLink RX4 63 yX4_follow ∈ hw_TB := hw_in 536 (by decide +kernel) rfl
theorem ml_X4_96 : Cond.methodLink RX4 96 yX4_nextOf ∈ hw_TB := hw_in 540 (by decide +kernel) rfl
theorem ml_X5_307 : Cond.methodLink RX5 307 yX4_feesBehindFirst ∈ hw_TB := hw_in 544 (by decide +kernel) rfl
theorem ml_X5_148 : Cond.methodLink RX5 148 yX3_takeWay ∈ hw_TB := hw_in 548 (by decide +kernel) rfl
theorem ml_X5_152 : Cond.methodLink RX5 152 yX5_letArise ∈ hw_TB := hw_in 552 (by decide +kernel) rfl
theorem ml_X5_291 : Cond.methodLink RX5 291 yX5_endForward ∈ hw_TB := hw_in 556 (by decide +kernel) rfl
theorem ml_L_109 : Cond.methodLink RL 109 yX5_festival ∈ hw_TB := hw_in 560 (by decide +kernel) rfl
theorem ml_L_113 : Cond.methodLink RL 113 yL_raid ∈ hw_TB := hw_in 564 (by decide +kernel) rfl
theorem ml_L_34 : Cond.methodLink RL 34 yX5_raid ∈ hw_TB := hw_in 567 (by decide +kernel) rfl
theorem ml_X5_108 : Cond.methodLink RX5 108 yX0_isGood ∈ hw_TB := hw_in 571 (by decide +kernel) rfl
theorem ml_L_115 : Cond.methodLink RL 115 yL_list ∈ hw_TB := hw_in 572 (by decide +kernel) rfl
theorem ml_L_63 : Cond.methodLink RL 63 yX5_list ∈ hw_TB := hw_in 575 (by decide +kernel) rfl
theorem ml_L_117 : Cond.methodLink RL 117 yL_order ∈ hw_TB := hw_in 579 (by decide +kernel) rfl
theorem ml_L_37 : Cond.methodLink RL 37 yX5_order ∈ hw_TB := hw_in 582 (by decide +kernel) rfl
theorem ml_X5_127 : Cond.methodLink RX5 127 yX5_findWay ∈ hw_TB := hw_in 586 (by decide +kernel) rfl
theorem ml_X5_141 : Cond.methodLink RX5 141 yX4_allFees ∈ hw_TB := hw_in 590 (by decide +kernel) rfl
theorem ml_X5_156 : Cond.methodLink RX5 156 yX5_tellTown ∈ hw_TB := hw_in 594 (by decide +kernel) rfl
theorem ml_L_120 : Cond.methodLink RL 120 yL_fetch ∈ hw_TB := hw_in 598 (by decide +kernel) rfl
theorem ml_L_41 : Cond.methodLink RL 41 yX5_fetch ∈ hw_TB := hw_in 601 (by decide +kernel) rfl
theorem ml_X5_165 : Cond.methodLink RX5 165 yX5_goBack ∈ hw_TB := hw_in 605 (by decide +kernel) rfl
theorem ml_L_122 : Cond.methodLink RL 122 yL_pass ∈ hw_TB := hw_in 609 (by decide +kernel) rfl
theorem ml_L_44 : Cond.methodLink RL 44 yX5_pass ∈ hw_TB := hw_in 612 (by decide +kernel) rfl
theorem ml_X5_168 : Cond.methodLink RX5 168 yX5_passHour ∈ hw_TB := hw_in 616 (by decide +kernel) rfl
theorem ml_X5_310 : Cond.methodLink RX5 310 yX5_endRaids ∈ hw_TB := hw_in 620 (by decide +kernel) rfl
theorem ml_X5_313 : Cond.methodLink RX5 313 yX5_moveMessages ∈ hw_TB := hw_in 624 (by decide +kernel) rfl
theorem ml_X5_316 : Cond.methodLink RX5 316 yX5_sendBackOld ∈ hw_TB := hw_in 628 (by decide +kernel) rfl
theorem ml_X5_325 : Cond.methodLink RX5 325 yX3_isOpen ∈ hw_TB := hw_in 632 (by decide +kernel) rfl
theorem ml_X5_319 : Cond.methodLink RX5 319 yX5_giveBack ∈ hw_TB := hw_in 636 (by decide +kernel) rfl
theorem ml_X5_322 : Cond.methodLink RX5 322 yX5_receiveCouriers ∈ hw_TB := hw_in 640 (by decide +kernel) rfl
theorem ml_X5_175 : Cond.methodLink RX5 175 yX2_changeKnown ∈ hw_TB := hw_in 644 (by decide +kernel) rfl
theorem ml_X2_19 : Cond.methodLink RX2 19 yX2_change ∈ hw_TB := hw_in 648 (by decide +kernel) rfl
theorem ml_X2_23 : Cond.methodLink RX2 23 yX2_write ∈ hw_TB := hw_in 649 (by decide +kernel) rfl
theorem ml_L_124 : Cond.methodLink RL 124 yL_pay ∈ hw_TB := hw_in 650 (by decide +kernel) rfl
theorem ml_L_47 : Cond.methodLink RL 47 yX5_pay ∈ hw_TB := hw_in 653 (by decide +kernel) rfl
theorem ml_L_126 : Cond.methodLink RL 126 yL_deliver ∈ hw_TB := hw_in 657 (by decide +kernel) rfl
theorem ml_L_50 : Cond.methodLink RL 50 yX5_deliver ∈ hw_TB := hw_in 660 (by decide +kernel) rfl
theorem ml_L_128 : Cond.methodLink RL 128 yL_courier ∈ hw_TB := hw_in 664 (by decide +kernel) rfl
theorem ml_L_53 : Cond.methodLink RL 53 yX5_courier ∈ hw_TB := hw_in 667 (by decide +kernel) rfl
theorem ml_L_131 : Cond.methodLink RL 131 yL_rob ∈ hw_TB := hw_in 671 (by decide +kernel) rfl
theorem ml_L_57 : Cond.methodLink RL 57 yX5_rob ∈ hw_TB := hw_in 674 (by decide +kernel) rfl
theorem ml_L_133 : Cond.methodLink RL 133 yX5_ring ∈ hw_TB := hw_in 678 (by decide +kernel) rfl
theorem ml_X5_198 : Cond.methodLink RX5 198 yX5_clearRing ∈ hw_TB := hw_in 682 (by decide +kernel) rfl
theorem ml_L_137 : Cond.methodLink RL 137 yL_lawOf ∈ hw_TB := hw_in 689 (by decide +kernel) rfl
theorem ml_L_60 : Cond.methodLink RL 60 yX5_law ∈ hw_TB := hw_in 692 (by decide +kernel) rfl
theorem ml_L_140 : Cond.methodLink RL 140 yL_way ∈ hw_TB := hw_in 696 (by decide +kernel) rfl
theorem ml_L_79 : Cond.methodLink RL 79 yX5_way ∈ hw_TB := hw_in 699 (by decide +kernel) rfl
theorem ml_X5_209 : Cond.methodLink RX5 209 yX5_requirePlace ∈ hw_TB := hw_in 703 (by decide +kernel) rfl
theorem ml_L_142 : Cond.methodLink RL 142 yL_wayOf ∈ hw_TB := hw_in 707 (by decide +kernel) rfl
theorem ml_L_82 : Cond.methodLink RL 82 yX5_wayOf ∈ hw_TB := hw_in 710 (by decide +kernel) rfl
theorem ml_X5_218 : Cond.methodLink RX5 218 yX3_brokerAt ∈ hw_TB := hw_in 714 (by decide +kernel) rfl
theorem ml_L_144 : Cond.methodLink RL 144 yL_orderOf ∈ hw_TB := hw_in 718 (by decide +kernel) rfl
theorem ml_L_85 : Cond.methodLink RL 85 yX5_orderOf ∈ hw_TB := hw_in 721 (by decide +kernel) rfl
theorem ml_L_146 : Cond.methodLink RL 146 yL_sum ∈ hw_TB := hw_in 725 (by decide +kernel) rfl
theorem ml_L_148 : Cond.methodLink RL 148 yL_debt ∈ hw_TB := hw_in 728 (by decide +kernel) rfl
theorem ml_L_71 : Cond.methodLink RL 71 yX5_debt ∈ hw_TB := hw_in 731 (by decide +kernel) rfl
theorem ml_L_167 : Cond.methodLink RL 167 yL_areAlike ∈ hw_TB := hw_in 735 (by decide +kernel) rfl
theorem ml_L_151 : Cond.methodLink RL 151 yX5_inquiry ∈ hw_TB := hw_in 738 (by decide +kernel) rfl
theorem ml_X5_224 : Cond.methodLink RX5 224 yX5_namedByBook ∈ hw_TB := hw_in 742 (by decide +kernel) rfl
theorem ml_L_155 : Cond.methodLink RL 155 yL_brokerOf ∈ hw_TB := hw_in 746 (by decide +kernel) rfl
theorem ml_L_67 : Cond.methodLink RL 67 yX5_brokerOf ∈ hw_TB := hw_in 749 (by decide +kernel) rfl
theorem ml_X5_202 : Cond.methodLink RX5 202 yX5_worthOf ∈ hw_TB := hw_in 753 (by decide +kernel) rfl
theorem ml_L_171 : Cond.methodLink RL 171 yL_isSo ∈ hw_TB := hw_in 757 (by decide +kernel) rfl
theorem ml_L_75 : Cond.methodLink RL 75 yX5_agree ∈ hw_TB := hw_in 760 (by decide +kernel) rfl
