theorem wv_X5_rob : hw_WV RX5 yX5_rob wX5_rob 1 := ⟨⟨hw_in 677 (by decide +kernel) rfl, hw_in 675 (by decide +kernel) rfl, hw_in 676 (by decide +kernel) rfl, hw_in 35 (by decide +kernel) rfl⟩, by decide +kernel⟩
abbrev rX5_ring : Room := { frames := 3, cells := 0, slots := 0, locals := 73 }
abbrev wX5_ring : Cond := .code yX5_ring cX5_ring 6 (some .long)
theorem wv_X5_ring : hw_WV RX5 yX5_ring wX5_ring 0 := ⟨⟨hw_in 681 (by decide +kernel) rfl, hw_in 679 (by decide +kernel) rfl, hw_in 680 (by decide +kernel) rfl, hw_in 35 (by decide +kernel) rfl⟩, by decide +kernel⟩
abbrev rX5_law : Room := { frames := 7, cells := 2, slots := 12, locals := 104 }
abbrev wX5_law : Cond := .code yX5_law cX5_law 3 (some .int)
theorem wv_X5_law : hw_WV RX5 yX5_law wX5_law 2 := ⟨⟨hw_in 695 (by decide +kernel) rfl, hw_in 693 (by decide +kernel) rfl, hw_in 694 (by decide +kernel) rfl, hw_in 35 (by decide +kernel) rfl⟩, by decide +kernel⟩
abbrev rX5_list : Room := { frames := 7, cells := 1, slots := 6, locals := 103 }
abbrev wX5_list : Cond := .code yX5_list cX5_list 2 (some .boolean)
theorem wv_X5_list : hw_WV RX5 yX5_list wX5_list 1 := ⟨⟨hw_in 578 (by decide +kernel) rfl, hw_in 576 (by decide +kernel) rfl, hw_in 577 (by decide +kernel) rfl, hw_in 35 (by decide +kernel) rfl⟩, by decide +kernel⟩
abbrev rX5_brokerOf : Room := { frames := 7, cells := 2, slots := 12, locals := 104 }
abbrev wX5_brokerOf : Cond := .code yX5_brokerOf cX5_brokerOf 3 (some .long)
theorem wv_X5_brokerOf : hw_WV RX5 yX5_brokerOf wX5_brokerOf 2 := ⟨⟨hw_in 752 (by decide +kernel) rfl, hw_in 750 (by decide +kernel) rfl, hw_in 751 (by decide +kernel) rfl, hw_in 35 (by decide +kernel) rfl⟩, by decide +kernel⟩
abbrev rX5_debt : Room := { frames := 7, cells := 2, slots := 12, locals := 103 }
abbrev wX5_debt : Cond := .code yX5_debt cX5_debt 4 (some .long)
theorem wv_X5_debt : hw_WV RX5 yX5_debt wX5_debt 3 := ⟨⟨hw_in 734 (by decide +kernel) rfl, hw_in 732 (by decide +kernel) rfl, hw_in 733 (by decide +kernel) rfl, hw_in 35 (by decide +kernel) rfl⟩, by decide +kernel⟩
abbrev rX5_agree : Room := { frames := 7, cells := 2, slots := 12, locals := 103 }
abbrev wX5_agree : Cond := .code yX5_agree cX5_agree 3 (some .boolean)
theorem wv_X5_agree : hw_WV RX5 yX5_agree wX5_agree 2 := ⟨⟨hw_in 763 (by decide +kernel) rfl, hw_in 761 (by decide +kernel) rfl, hw_in 762 (by decide +kernel) rfl, hw_in 35 (by decide +kernel) rfl⟩, by decide +kernel⟩
abbrev rX5_way : Room := { frames := 8, cells := 5, slots := 30, locals := 138 }
abbrev wX5_way : Cond := .code yX5_way cX5_way 5 (some .int)
theorem wv_X5_way : hw_WV RX5 yX5_way wX5_way 4 := ⟨⟨hw_in 702 (by decide +kernel) rfl, hw_in 700 (by decide +kernel) rfl, hw_in 701 (by decide +kernel) rfl, hw_in 35 (by decide +kernel) rfl⟩, by decide +kernel⟩
abbrev rX5_wayOf : Room := { frames := 7, cells := 2, slots := 12, locals := 103 }
abbrev wX5_wayOf : Cond := .code yX5_wayOf cX5_wayOf 3 (some .int)
theorem wv_X5_wayOf : hw_WV RX5 yX5_wayOf wX5_wayOf 2 := ⟨⟨hw_in 713 (by decide +kernel) rfl, hw_in 711 (by decide +kernel) rfl, hw_in 712 (by decide +kernel) rfl, hw_in 35 (by decide +kernel) rfl⟩, by decide +kernel⟩
abbrev rX5_orderOf : Room := { frames := 7, cells := 2, slots := 12, locals := 104 }
abbrev wX5_orderOf : Cond := .code yX5_orderOf cX5_orderOf 4 (some .int)
theorem wv_X5_orderOf : hw_WV RX5 yX5_orderOf wX5_orderOf 2 := ⟨⟨hw_in 724 (by decide +kernel) rfl, hw_in 722 (by decide +kernel) rfl, hw_in 723 (by decide +kernel) rfl, hw_in 35 (by decide +kernel) rfl⟩, by decide +kernel⟩
abbrev rX5_inquiry : Room := { frames := 1, cells := 0, slots := 0, locals := 23 }
abbrev wX5_inquiry : Cond := .code yX5_inquiry cX5_inquiry 4 (some .int)
theorem wv_X5_inquiry : hw_WV RX5 yX5_inquiry wX5_inquiry 0 := ⟨⟨hw_in 741 (by decide +kernel) rfl, hw_in 739 (by decide +kernel) rfl, hw_in 740 (by decide +kernel) rfl, hw_in 35 (by decide +kernel) rfl⟩, by decide +kernel⟩
abbrev rX5_sum : Room := { frames := 7, cells := 1, slots := 6, locals := 104 }
abbrev wX5_sum : Cond := .code yX5_sum cX5_sum 2 (some .long)
theorem wv_X5_sum : hw_WV RX5 yX5_sum wX5_sum 1 := ⟨⟨hw_in 275 (by decide +kernel) rfl, hw_in 273 (by decide +kernel) rfl, hw_in 274 (by decide +kernel) rfl, hw_in 35 (by decide +kernel) rfl⟩, by decide +kernel⟩
abbrev rX5_requireIndex : Room := { frames := 6, cells := 1, slots := 6, locals := 82 }
abbrev wX5_requireIndex : Cond := .code yX5_requireIndex cX5_requireIndex 2 none
theorem ws_X5_requireIndex : hw_WS yX5_requireIndex wX5_requireIndex 2 := ⟨⟨hw_in 393 (by decide +kernel) rfl, hw_in 392 (by decide +kernel) rfl, hw_in 35 (by decide +kernel) rfl⟩, by decide +kernel⟩
abbrev rX5_requirePlace : Room := { frames := 6, cells := 1, slots := 6, locals := 82 }
abbrev wX5_requirePlace : Cond := .code yX5_requirePlace cX5_requirePlace 1 none
theorem ws_X5_requirePlace : hw_WS yX5_requirePlace wX5_requirePlace 1 := ⟨⟨hw_in 705 (by decide +kernel) rfl, hw_in 704 (by decide +kernel) rfl, hw_in 35 (by decide +kernel) rfl⟩, by decide +kernel⟩
abbrev rX5_requireRange : Room := { frames := 6, cells := 1, slots := 6, locals := 82 }
abbrev wX5_requireRange : Cond := .code yX5_requireRange cX5_requireRange 3 none
theorem ws_X5_requireRange : hw_WS yX5_requireRange wX5_requireRange 3 := ⟨⟨hw_in 278 (by decide +kernel) rfl, hw_in 277 (by decide +kernel) rfl, hw_in 35 (by decide +kernel) rfl⟩, by decide +kernel⟩
abbrev rX5_requireState : Room := { frames := 6, cells := 1, slots := 6, locals := 82 }
abbrev wX5_requireState : Cond := .code yX5_requireState cX5_requireState 1 none
theorem ws_X5_requireState : hw_WS yX5_requireState wX5_requireState 1 := ⟨⟨hw_in 412 (by decide +kernel) rfl, hw_in 411 (by decide +kernel) rfl, hw_in 35 (by decide +kernel) rfl⟩, by decide +kernel⟩
abbrev rX5_requireTwoBrokers : Room := { frames := 7, cells := 3, slots := 18, locals := 103 }
abbrev wX5_requireTwoBrokers : Cond := .code yX5_requireTwoBrokers cX5_requireTwoBrokers 3 none
theorem wv_X5_requireTwoBrokers : hw_WV RX5 yX5_requireTwoBrokers wX5_requireTwoBrokers 2 := ⟨⟨hw_in 447 (by decide +kernel) rfl, hw_in 446 (by decide +kernel) rfl, hw_in 7 (by decide +kernel) rfl, hw_in 35 (by decide +kernel) rfl⟩, by decide +kernel⟩
abbrev rX5_findWay : Room := { frames := 5, cells := 0, slots := 0, locals := 115 }
abbrev wX5_findWay : Cond := .code yX5_findWay cX5_findWay 4 (some .boolean)
theorem wv_X5_findWay : hw_WV RX5 yX5_findWay wX5_findWay 3 := ⟨⟨hw_in 589 (by decide +kernel) rfl, hw_in 588 (by decide +kernel) rfl, hw_in 22 (by decide +kernel) rfl, hw_in 35 (by decide +kernel) rfl⟩, by decide +kernel⟩
abbrev rX5_letArise : Room := { frames := 1, cells := 0, slots := 0, locals := 24 }
abbrev wX5_letArise : Cond := .code yX5_letArise cX5_letArise 5 none
theorem wv_X5_letArise : hw_WV RX5 yX5_letArise wX5_letArise 1 := ⟨⟨hw_in 555 (by decide +kernel) rfl, hw_in 554 (by decide +kernel) rfl, hw_in 20 (by decide +kernel) rfl, hw_in 35 (by decide +kernel) rfl⟩, by decide +kernel⟩
abbrev rX5_takeBack : Room := { frames := 1, cells := 0, slots := 0, locals := 24 }
abbrev wX5_takeBack : Cond := .code yX5_takeBack cX5_takeBack 7 none
theorem wv_X5_takeBack : hw_WV RX5 yX5_takeBack wX5_takeBack 3 := ⟨⟨hw_in 467 (by decide +kernel) rfl, hw_in 466 (by decide +kernel) rfl, hw_in 9 (by decide +kernel) rfl, hw_in 35 (by decide +kernel) rfl⟩, by decide +kernel⟩
abbrev rX5_goBack : Room := { frames := 2, cells := 0, slots := 0, locals := 50 }
abbrev wX5_goBack : Cond := .code yX5_goBack cX5_goBack 2 none
theorem wv_X5_goBack : hw_WV RX5 yX5_goBack wX5_goBack 1 := ⟨⟨hw_in 608 (by decide +kernel) rfl, hw_in 607 (by decide +kernel) rfl, hw_in 24 (by decide +kernel) rfl, hw_in 35 (by decide +kernel) rfl⟩, by decide +kernel⟩
abbrev rX5_endForward : Room := { frames := 1, cells := 0, slots := 0, locals := 20 }
abbrev wX5_endForward : Cond := .code yX5_endForward cX5_endForward 2 none
theorem wv_X5_endForward : hw_WV RX5 yX5_endForward wX5_endForward 1 := ⟨⟨hw_in 559 (by decide +kernel) rfl, hw_in 558 (by decide +kernel) rfl, hw_in 21 (by decide +kernel) rfl, hw_in 35 (by decide +kernel) rfl⟩, by decide +kernel⟩
abbrev rX5_loseOrdersFrom : Room := { frames := 2, cells := 0, slots := 0, locals := 50 }
abbrev wX5_loseOrdersFrom : Cond := .code yX5_loseOrdersFrom cX5_loseOrdersFrom 5 (some .int)
theorem wv_X5_loseOrdersFrom : hw_WV RX5 yX5_loseOrdersFrom wX5_loseOrdersFrom 1 := ⟨⟨hw_in 459 (by decide +kernel) rfl, hw_in 458 (by decide +kernel) rfl, hw_in 8 (by decide +kernel) rfl, hw_in 35 (by decide +kernel) rfl⟩, by decide +kernel⟩
abbrev rX5_avoid : Room := { frames := 6, cells := 0, slots := 0, locals := 139 }
abbrev wX5_avoid : Cond := .code yX5_avoid cX5_avoid 3 none
theorem wv_X5_avoid : hw_WV RX5 yX5_avoid wX5_avoid 1 := ⟨⟨hw_in 479 (by decide +kernel) rfl, hw_in 478 (by decide +kernel) rfl, hw_in 10 (by decide +kernel) rfl, hw_in 35 (by decide +kernel) rfl⟩, by decide +kernel⟩
abbrev rX5_lookAnew : Room := { frames := 5, cells := 0, slots := 0, locals := 115 }
abbrev wX5_lookAnew : Cond := .code yX5_lookAnew cX5_lookAnew 5 none
theorem wv_X5_lookAnew : hw_WV RX5 yX5_lookAnew wX5_lookAnew 1 := ⟨⟨hw_in 487 (by decide +kernel) rfl, hw_in 486 (by decide +kernel) rfl, hw_in 11 (by decide +kernel) rfl, hw_in 35 (by decide +kernel) rfl⟩, by decide +kernel⟩
abbrev rX5_tellTown : Room := { frames := 0, cells := 0, slots := 0, locals := 0 }
abbrev wX5_tellTown : Cond := .code yX5_tellTown cX5_tellTown 3 none
theorem wv_X5_tellTown : hw_WV RX5 yX5_tellTown wX5_tellTown 2 := ⟨⟨hw_in 597 (by decide +kernel) rfl, hw_in 596 (by decide +kernel) rfl, hw_in 23 (by decide +kernel) rfl, hw_in 35 (by decide +kernel) rfl⟩, by decide +kernel⟩
abbrev rX5_passHour : Room := { frames := 4, cells := 0, slots := 0, locals := 92 }
abbrev wX5_passHour : Cond := .code yX5_passHour cX5_passHour 1 none
theorem wv_X5_passHour : hw_WV RX5 yX5_passHour wX5_passHour 0 := ⟨⟨hw_in 619 (by decide +kernel) rfl, hw_in 618 (by decide +kernel) rfl, hw_in 25 (by decide +kernel) rfl, hw_in 35 (by decide +kernel) rfl⟩, by decide +kernel⟩
abbrev rX5_endRaids : Room := { frames := 0, cells := 0, slots := 0, locals := 0 }
abbrev wX5_endRaids : Cond := .code yX5_endRaids cX5_endRaids 2 none
theorem wv_X5_endRaids : hw_WV RX5 yX5_endRaids wX5_endRaids 0 := ⟨⟨hw_in 623 (by decide +kernel) rfl, hw_in 622 (by decide +kernel) rfl, hw_in 26 (by decide +kernel) rfl, hw_in 35 (by decide +kernel) rfl⟩, by decide +kernel⟩
abbrev rX5_moveMessages : Room := { frames := 1, cells := 0, slots := 0, locals := 24 }
abbrev wX5_moveMessages : Cond := .code yX5_moveMessages cX5_moveMessages 5 none
theorem wv_X5_moveMessages : hw_WV RX5 yX5_moveMessages wX5_moveMessages 0 := ⟨⟨hw_in 627 (by decide +kernel) rfl, hw_in 626 (by decide +kernel) rfl, hw_in 27 (by decide +kernel) rfl, hw_in 35 (by decide +kernel) rfl⟩, by decide +kernel⟩
abbrev rX5_sendBackOld : Room := { frames := 3, cells := 0, slots := 0, locals := 71 }
abbrev wX5_sendBackOld : Cond := .code yX5_sendBackOld cX5_sendBackOld 2 none
theorem wv_X5_sendBackOld : hw_WV RX5 yX5_sendBackOld wX5_sendBackOld 0 := ⟨⟨hw_in 631 (by decide +kernel) rfl, hw_in 630 (by decide +kernel) rfl, hw_in 28 (by decide +kernel) rfl, hw_in 35 (by decide +kernel) rfl⟩, by decide +kernel⟩
abbrev rX5_giveBack : Room := { frames := 1, cells := 0, slots := 0, locals := 20 }
abbrev wX5_giveBack : Cond := .code yX5_giveBack cX5_giveBack 4 none
theorem wv_X5_giveBack : hw_WV RX5 yX5_giveBack wX5_giveBack 0 := ⟨⟨hw_in 639 (by decide +kernel) rfl, hw_in 638 (by decide +kernel) rfl, hw_in 29 (by decide +kernel) rfl, hw_in 35 (by decide +kernel) rfl⟩, by decide +kernel⟩
abbrev rX5_receiveCouriers : Room := { frames := 2, cells := 0, slots := 0, locals := 48 }
abbrev wX5_receiveCouriers : Cond := .code yX5_receiveCouriers cX5_receiveCouriers 3 none
theorem wv_X5_receiveCouriers : hw_WV RX5 yX5_receiveCouriers wX5_receiveCouriers 0 := ⟨⟨hw_in 643 (by decide +kernel) rfl, hw_in 642 (by decide +kernel) rfl, hw_in 30 (by decide +kernel) rfl, hw_in 35 (by decide +kernel) rfl⟩, by decide +kernel⟩
abbrev rX5_clearRing : Room := { frames := 2, cells := 0, slots := 0, locals := 48 }
abbrev wX5_clearRing : Cond := .code yX5_clearRing cX5_clearRing 6 (some .long)
theorem wv_X5_clearRing : hw_WV RX5 yX5_clearRing wX5_clearRing 3 := ⟨⟨hw_in 685 (by decide +kernel) rfl, hw_in 684 (by decide +kernel) rfl, hw_in 31 (by decide +kernel) rfl, hw_in 35 (by decide +kernel) rfl⟩, by decide +kernel⟩
abbrev rX5_worthOf : Room := { frames := 0, cells := 0, slots := 0, locals := 0 }
abbrev wX5_worthOf : Cond := .code yX5_worthOf cX5_worthOf 5 (some .long)
theorem wv_X5_worthOf : hw_WV RX5 yX5_worthOf wX5_worthOf 1 := ⟨⟨hw_in 756 (by decide +kernel) rfl, hw_in 755 (by decide +kernel) rfl, hw_in 33 (by decide +kernel) rfl, hw_in 35 (by decide +kernel) rfl⟩, by decide +kernel⟩
abbrev rX5_namedByBook : Room := { frames := 0, cells := 0, slots := 0, locals := 0 }
abbrev wX5_namedByBook : Cond := .code yX5_namedByBook cX5_namedByBook 4 (some .int)
theorem wv_X5_namedByBook : hw_WV RX5 yX5_namedByBook wX5_namedByBook 1 := ⟨⟨hw_in 745 (by decide +kernel) rfl, hw_in 744 (by decide +kernel) rfl, hw_in 32 (by decide +kernel) rfl, hw_in 35 (by decide +kernel) rfl⟩, by decide +kernel⟩
abbrev rX5_sumGiven : Room := { frames := 0, cells := 0, slots := 0, locals := 0 }
abbrev wX5_sumGiven : Cond := .code yX5_sumGiven cX5_sumGiven 4 (some .long)
theorem wv_X5_sumGiven : hw_WV RX5 yX5_sumGiven wX5_sumGiven 0 := ⟨⟨hw_in 350 (by decide +kernel) rfl, hw_in 349 (by decide +kernel) rfl, hw_in 1 (by decide +kernel) rfl, hw_in 35 (by decide +kernel) rfl⟩, by decide +kernel⟩
abbrev rX5_sumGivenIn : Room := { frames := 0, cells := 0, slots := 0, locals := 0 }
abbrev wX5_sumGivenIn : Cond := .code yX5_sumGivenIn cX5_sumGivenIn 5 (some .long)
theorem wv_X5_sumGivenIn : hw_WV RX5 yX5_sumGivenIn wX5_sumGivenIn 1 := ⟨⟨hw_in 358 (by decide +kernel) rfl, hw_in 357 (by decide +kernel) rfl, hw_in 3 (by decide +kernel) rfl, hw_in 35 (by decide +kernel) rfl⟩, by decide +kernel⟩
abbrev rX5_sumPaidOut : Room := { frames := 0, cells := 0, slots := 0, locals := 0 }
abbrev wX5_sumPaidOut : Cond := .code yX5_sumPaidOut cX5_sumPaidOut 4 (some .long)
theorem wv_X5_sumPaidOut : hw_WV RX5 yX5_sumPaidOut wX5_sumPaidOut 0 := ⟨⟨hw_in 354 (by decide +kernel) rfl, hw_in 353 (by decide +kernel) rfl, hw_in 2 (by decide +kernel) rfl, hw_in 35 (by decide +kernel) rfl⟩, by decide +kernel⟩
abbrev rX5_sumRobbed : Room := { frames := 0, cells := 0, slots := 0, locals := 0 }
abbrev wX5_sumRobbed : Cond := .code yX5_sumRobbed cX5_sumRobbed 4 (some .long)
theorem wv_X5_sumRobbed : hw_WV RX5 yX5_sumRobbed wX5_sumRobbed 0 := ⟨⟨hw_in 362 (by decide +kernel) rfl, hw_in 361 (by decide +kernel) rfl, hw_in 4 (by decide +kernel) rfl, hw_in 35 (by decide +kernel) rfl⟩, by decide +kernel⟩
abbrev rX5_sumOnRoad : Room := { frames := 0, cells := 0, slots := 0, locals := 0 }
abbrev wX5_sumOnRoad : Cond := .code yX5_sumOnRoad cX5_sumOnRoad 4 (some .long)
theorem wv_X5_sumOnRoad : hw_WV RX5 yX5_sumOnRoad wX5_sumOnRoad 0 := ⟨⟨hw_in 366 (by decide +kernel) rfl, hw_in 365 (by decide +kernel) rfl, hw_in 5 (by decide +kernel) rfl, hw_in 35 (by decide +kernel) rfl⟩, by decide +kernel⟩
abbrev rX5_sumCash : Room := { frames := 0, cells := 0, slots := 0, locals := 0 }
abbrev wX5_sumCash : Cond := .code yX5_sumCash cX5_sumCash 4 (some .long)
theorem wv_X5_sumCash : hw_WV RX5 yX5_sumCash wX5_sumCash 0 := ⟨⟨hw_in 370 (by decide +kernel) rfl, hw_in 369 (by decide +kernel) rfl, hw_in 6 (by decide +kernel) rfl, hw_in 35 (by decide +kernel) rfl⟩, by decide +kernel⟩
abbrev rX0_init : Room := { frames := 1, cells := 0, slots := 0, locals := 16 }
abbrev wX0_init : Cond := .code yX0_init cX0_init 1 none
theorem wi_X0_init : hw_WI yX0_init wX0_init 0 := ⟨⟨hw_in 61 (by decide +kernel) rfl, hw_in 60 (by decide +kernel) rfl, hw_in 36 (by decide +kernel) rfl⟩, by decide +kernel⟩
abbrev rX0_isGood : Room := { frames := 0, cells := 0, slots := 0, locals := 0 }
abbrev wX0_isGood : Cond := .code yX0_isGood cX0_isGood 1 (some .boolean)
theorem wv_X0_isGood : hw_WV RX0 yX0_isGood wX0_isGood 0 := ⟨⟨hw_in 495 (by decide +kernel) rfl, hw_in 493 (by decide +kernel) rfl, hw_in 494 (by decide +kernel) rfl, hw_in 36 (by decide +kernel) rfl⟩, by decide +kernel⟩
abbrev rX0_limitNow : Room := { frames := 0, cells := 0, slots := 0, locals := 0 }
abbrev wX0_limitNow : Cond := .code yX0_limitNow cX0_limitNow 3 (some .int)
theorem wv_X0_limitNow : hw_WV RX0 yX0_limitNow wX0_limitNow 2 := ⟨⟨hw_in 535 (by decide +kernel) rfl, hw_in 533 (by decide +kernel) rfl, hw_in 534 (by decide +kernel) rfl, hw_in 36 (by decide +kernel) rfl⟩, by decide +kernel⟩
abbrev rX1_init : Room := { frames := 1, cells := 0, slots := 0, locals := 16 }
abbrev wX1_init : Cond := .code yX1_init cX1_init 1 none
theorem wi_X1_init : hw_WI yX1_init wX1_init 0 := ⟨⟨hw_in 143 (by decide +kernel) rfl, hw_in 142 (by decide +kernel) rfl, hw_in 38 (by decide +kernel) rfl⟩, by decide +kernel⟩
abbrev rX2_init : Room := { frames := 1, cells := 0, slots := 0, locals := 16 }
abbrev wX2_init : Cond := .code yX2_init cX2_init 1 none
theorem wi_X2_init : hw_WI yX2_init wX2_init 0 := ⟨⟨hw_in 168 (by decide +kernel) rfl, hw_in 167 (by decide +kernel) rfl, hw_in 39 (by decide +kernel) rfl⟩, by decide +kernel⟩
abbrev rX2_change : Room := { frames := 0, cells := 0, slots := 0, locals := 0 }
abbrev wX2_change : Cond := .code yX2_change cX2_change 5 none
theorem wv_X2_change : hw_WV RX2 yX2_change wX2_change 3 := ⟨⟨hw_in 471 (by decide +kernel) rfl, hw_in 469 (by decide +kernel) rfl, hw_in 470 (by decide +kernel) rfl, hw_in 39 (by decide +kernel) rfl⟩, by decide +kernel⟩
abbrev rX2_write : Room := { frames := 0, cells := 0, slots := 0, locals := 0 }
abbrev wX2_write : Cond := .code yX2_write cX2_write 5 none
theorem wv_X2_write : hw_WV RX2 yX2_write wX2_write 3 := ⟨⟨hw_in 475 (by decide +kernel) rfl, hw_in 473 (by decide +kernel) rfl, hw_in 474 (by decide +kernel) rfl, hw_in 39 (by decide +kernel) rfl⟩, by decide +kernel⟩
abbrev rX2_changeKnown : Room := { frames := 1, cells := 0, slots := 0, locals := 24 }
abbrev wX2_changeKnown : Cond := .code yX2_changeKnown cX2_changeKnown 5 none
theorem wv_X2_changeKnown : hw_WV RX2 yX2_changeKnown wX2_changeKnown 3 := ⟨⟨hw_in 647 (by decide +kernel) rfl, hw_in 645 (by decide +kernel) rfl, hw_in 646 (by decide +kernel) rfl, hw_in 39 (by decide +kernel) rfl⟩, by decide +kernel⟩
abbrev rX3_init : Room := { frames := 1, cells := 0, slots := 0, locals := 16 }
abbrev wX3_init : Cond := .code yX3_init cX3_init 1 none
theorem wi_X3_init : hw_WI yX3_init wX3_init 0 := ⟨⟨hw_in 99 (by decide +kernel) rfl, hw_in 98 (by decide +kernel) rfl, hw_in 37 (by decide +kernel) rfl⟩, by decide +kernel⟩
abbrev rX3_firstBroker : Room := { frames := 0, cells := 0, slots := 0, locals := 0 }
abbrev wX3_firstBroker : Cond := .code yX3_firstBroker cX3_firstBroker 1 (some .int)
theorem wv_X3_firstBroker : hw_WV RX3 yX3_firstBroker wX3_firstBroker 0 := ⟨⟨hw_in 463 (by decide +kernel) rfl, hw_in 461 (by decide +kernel) rfl, hw_in 462 (by decide +kernel) rfl, hw_in 37 (by decide +kernel) rfl⟩, by decide +kernel⟩
abbrev rX3_lastBroker : Room := { frames := 0, cells := 0, slots := 0, locals := 0 }
abbrev wX3_lastBroker : Cond := .code yX3_lastBroker cX3_lastBroker 1 (some .int)
theorem wv_X3_lastBroker : hw_WV RX3 yX3_lastBroker wX3_lastBroker 0 := ⟨⟨hw_in 503 (by decide +kernel) rfl, hw_in 501 (by decide +kernel) rfl, hw_in 502 (by decide +kernel) rfl, hw_in 37 (by decide +kernel) rfl⟩, by decide +kernel⟩
abbrev rX3_brokerAt : Room := { frames := 0, cells := 0, slots := 0, locals := 0 }
abbrev wX3_brokerAt : Cond := .code yX3_brokerAt cX3_brokerAt 2 (some .int)
theorem wv_X3_brokerAt : hw_WV RX3 yX3_brokerAt wX3_brokerAt 1 := ⟨⟨hw_in 717 (by decide +kernel) rfl, hw_in 715 (by decide +kernel) rfl, hw_in 716 (by decide +kernel) rfl, hw_in 37 (by decide +kernel) rfl⟩, by decide +kernel⟩
abbrev rX3_isOpen : Room := { frames := 0, cells := 0, slots := 0, locals := 0 }
abbrev wX3_isOpen : Cond := .code yX3_isOpen cX3_isOpen 1 (some .boolean)
theorem wv_X3_isOpen : hw_WV RX3 yX3_isOpen wX3_isOpen 0 := ⟨⟨hw_in 635 (by decide +kernel) rfl, hw_in 633 (by decide +kernel) rfl, hw_in 634 (by decide +kernel) rfl, hw_in 37 (by decide +kernel) rfl⟩, by decide +kernel⟩
abbrev rX3_isStillToPass : Room := { frames := 0, cells := 0, slots := 0, locals := 0 }
abbrev wX3_isStillToPass : Cond := .code yX3_isStillToPass cX3_isStillToPass 3 (some .boolean)
theorem wv_X3_isStillToPass : hw_WV RX3 yX3_isStillToPass wX3_isStillToPass 1 := ⟨⟨hw_in 483 (by decide +kernel) rfl, hw_in 481 (by decide +kernel) rfl, hw_in 482 (by decide +kernel) rfl, hw_in 37 (by decide +kernel) rfl⟩, by decide +kernel⟩
abbrev rX3_takeWay : Room := { frames := 0, cells := 0, slots := 0, locals := 0 }
abbrev wX3_takeWay : Cond := .code yX3_takeWay cX3_takeWay 5 none
theorem wv_X3_takeWay : hw_WV RX3 yX3_takeWay wX3_takeWay 2 := ⟨⟨hw_in 551 (by decide +kernel) rfl, hw_in 549 (by decide +kernel) rfl, hw_in 550 (by decide +kernel) rfl, hw_in 37 (by decide +kernel) rfl⟩, by decide +kernel⟩
abbrev rX4_init : Room := { frames := 1, cells := 0, slots := 0, locals := 16 }
abbrev wX4_init : Cond := .code yX4_init cX4_init 3 none
theorem wi_X4_init : hw_WI yX4_init wX4_init 2 := ⟨⟨hw_in 187 (by decide +kernel) rfl, hw_in 186 (by decide +kernel) rfl, hw_in 40 (by decide +kernel) rfl⟩, by decide +kernel⟩
abbrev rX4_start : Room := { frames := 1, cells := 0, slots := 0, locals := 20 }
abbrev wX4_start : Cond := .code yX4_start cX4_start 5 none
theorem wv_X4_start : hw_WV RX4 yX4_start wX4_start 3 := ⟨⟨hw_in 491 (by decide +kernel) rfl, hw_in 489 (by decide +kernel) rfl, hw_in 490 (by decide +kernel) rfl, hw_in 40 (by decide +kernel) rfl⟩, by decide +kernel⟩
abbrev rX4_leaveOut : Room := { frames := 0, cells := 0, slots := 0, locals := 0 }
abbrev wX4_leaveOut : Cond := .code yX4_leaveOut cX4_leaveOut 2 none
theorem wv_X4_leaveOut : hw_WV RX4 yX4_leaveOut wX4_leaveOut 1 := ⟨⟨hw_in 499 (by decide +kernel) rfl, hw_in 497 (by decide +kernel) rfl, hw_in 498 (by decide +kernel) rfl, hw_in 40 (by decide +kernel) rfl⟩, by decide +kernel⟩
