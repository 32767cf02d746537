section
-- ===== PART A: goes FIRST, ahead of the names: the tables' words, and 'selects' of the private methods out of them =====
/-- a private method of a class that the tables say can be made, by its rows of tables_1 -/
def lw_okq (q : MethodName × Nat) : Prop := (q.1.cls ≠ "java/lang/invoke/MethodHandle" ∧ q.1.cls ≠ "java/lang/invoke/VarHandle") ∧ Cond.instantiable q.1.cls q.2 ∈ tables_1 ∧ Cond.privateMethod q.1 ∈ tables_1 ∧ Cond.instanceMethod q.1 ∈ tables_1
theorem lw_p0 : lw_okq (⟨"HundiHall", "clearRing", "(III)J"⟩, 14) := ⟨⟨by decide +kernel, by decide +kernel⟩, List.mem_of_getElem? (i := 16) (by decide +kernel), List.mem_of_getElem? (i := 248) (by decide +kernel), List.mem_of_getElem? (i := 249) (by decide +kernel)⟩
theorem lw_p1 : lw_okq (⟨"HundiHall", "namedByBook", "(I)I"⟩, 14) := ⟨⟨by decide +kernel, by decide +kernel⟩, List.mem_of_getElem? (i := 16) (by decide +kernel), List.mem_of_getElem? (i := 271) (by decide +kernel), List.mem_of_getElem? (i := 272) (by decide +kernel)⟩
theorem lw_p2 : lw_okq (⟨"java/lang/Throwable", "fillInStackTrace", "(I)Ljava/lang/Throwable;"⟩, 6) := ⟨⟨by decide +kernel, by decide +kernel⟩, List.mem_of_getElem? (i := 326) (by decide +kernel), List.mem_of_getElem? (i := 324) (by decide +kernel), List.mem_of_getElem? (i := 325) (by decide +kernel)⟩
theorem lw_p3 : lw_okq (⟨"HundiHall", "requireTwoBrokers", "(II)V"⟩, 14) := ⟨⟨by decide +kernel, by decide +kernel⟩, List.mem_of_getElem? (i := 16) (by decide +kernel), List.mem_of_getElem? (i := 408) (by decide +kernel), List.mem_of_getElem? (i := 409) (by decide +kernel)⟩
theorem lw_p4 : lw_okq (⟨"HundiHall", "loseOrdersFrom", "(I)I"⟩, 14) := ⟨⟨by decide +kernel, by decide +kernel⟩, List.mem_of_getElem? (i := 16) (by decide +kernel), List.mem_of_getElem? (i := 420) (by decide +kernel), List.mem_of_getElem? (i := 421) (by decide +kernel)⟩
theorem lw_p5 : lw_okq (⟨"HundiHall", "takeBack", "(LHundiHall$Order;II)V"⟩, 14) := ⟨⟨by decide +kernel, by decide +kernel⟩, List.mem_of_getElem? (i := 16) (by decide +kernel), List.mem_of_getElem? (i := 428) (by decide +kernel), List.mem_of_getElem? (i := 429) (by decide +kernel)⟩
theorem lw_p6 : lw_okq (⟨"HundiHall", "avoid", "(I)V"⟩, 14) := ⟨⟨by decide +kernel, by decide +kernel⟩, List.mem_of_getElem? (i := 16) (by decide +kernel), List.mem_of_getElem? (i := 434) (by decide +kernel), List.mem_of_getElem? (i := 435) (by decide +kernel)⟩
theorem lw_p7 : lw_okq (⟨"HundiHall", "lookAnew", "(LHundiHall$Order;)V"⟩, 14) := ⟨⟨by decide +kernel, by decide +kernel⟩, List.mem_of_getElem? (i := 16) (by decide +kernel), List.mem_of_getElem? (i := 442) (by decide +kernel), List.mem_of_getElem? (i := 443) (by decide +kernel)⟩
theorem lw_p8 : lw_okq (⟨"HundiHall$WayFinder", "startAt", "(I)V"⟩, 11) := ⟨⟨by decide +kernel, by decide +kernel⟩, List.mem_of_getElem? (i := 151) (by decide +kernel), List.mem_of_getElem? (i := 466) (by decide +kernel), List.mem_of_getElem? (i := 467) (by decide +kernel)⟩
theorem lw_p9 : lw_okq (⟨"HundiHall$WayFinder", "feeOf", "(I)I"⟩, 11) := ⟨⟨by decide +kernel, by decide +kernel⟩, List.mem_of_getElem? (i := 151) (by decide +kernel), List.mem_of_getElem? (i := 470) (by decide +kernel), List.mem_of_getElem? (i := 471) (by decide +kernel)⟩
theorem lw_p10 : lw_okq (⟨"HundiHall$WayFinder", "reachFromBest", "()V"⟩, 11) := ⟨⟨by decide +kernel, by decide +kernel⟩, List.mem_of_getElem? (i := 151) (by decide +kernel), List.mem_of_getElem? (i := 474) (by decide +kernel), List.mem_of_getElem? (i := 475) (by decide +kernel)⟩
theorem lw_p11 : lw_okq (⟨"HundiHall$WayFinder", "bestUnsettled", "()I"⟩, 11) := ⟨⟨by decide +kernel, by decide +kernel⟩, List.mem_of_getElem? (i := 151) (by decide +kernel), List.mem_of_getElem? (i := 478) (by decide +kernel), List.mem_of_getElem? (i := 479) (by decide +kernel)⟩
theorem lw_p12 : lw_okq (⟨"HundiHall$WayFinder", "isBetter", "(III)Z"⟩, 11) := ⟨⟨by decide +kernel, by decide +kernel⟩, List.mem_of_getElem? (i := 151) (by decide +kernel), List.mem_of_getElem? (i := 482) (by decide +kernel), List.mem_of_getElem? (i := 483) (by decide +kernel)⟩
theorem lw_p13 : lw_okq (⟨"HundiHall$WayFinder", "canOwe", "(II)Z"⟩, 11) := ⟨⟨by decide +kernel, by decide +kernel⟩, List.mem_of_getElem? (i := 151) (by decide +kernel), List.mem_of_getElem? (i := 486) (by decide +kernel), List.mem_of_getElem? (i := 487) (by decide +kernel)⟩
theorem lw_p14 : lw_okq (⟨"HundiHall$WayFinder", "follow", "(II)V"⟩, 11) := ⟨⟨by decide +kernel, by decide +kernel⟩, List.mem_of_getElem? (i := 151) (by decide +kernel), List.mem_of_getElem? (i := 494) (by decide +kernel), List.mem_of_getElem? (i := 495) (by decide +kernel)⟩
theorem lw_p15 : lw_okq (⟨"HundiHall$WayFinder", "nextOf", "(I)I"⟩, 11) := ⟨⟨by decide +kernel, by decide +kernel⟩, List.mem_of_getElem? (i := 151) (by decide +kernel), List.mem_of_getElem? (i := 498) (by decide +kernel), List.mem_of_getElem? (i := 499) (by decide +kernel)⟩
def lw_privs_1 : List (MethodName × Nat) := [(⟨"HundiHall", "clearRing", "(III)J"⟩, 14), (⟨"HundiHall", "namedByBook", "(I)I"⟩, 14), (⟨"java/lang/Throwable", "fillInStackTrace", "(I)Ljava/lang/Throwable;"⟩, 6), (⟨"HundiHall", "requireTwoBrokers", "(II)V"⟩, 14), (⟨"HundiHall", "loseOrdersFrom", "(I)I"⟩, 14), (⟨"HundiHall", "takeBack", "(LHundiHall$Order;II)V"⟩, 14), (⟨"HundiHall", "avoid", "(I)V"⟩, 14), (⟨"HundiHall", "lookAnew", "(LHundiHall$Order;)V"⟩, 14), (⟨"HundiHall$WayFinder", "startAt", "(I)V"⟩, 11), (⟨"HundiHall$WayFinder", "feeOf", "(I)I"⟩, 11), (⟨"HundiHall$WayFinder", "reachFromBest", "()V"⟩, 11), (⟨"HundiHall$WayFinder", "bestUnsettled", "()I"⟩, 11), (⟨"HundiHall$WayFinder", "isBetter", "(III)Z"⟩, 11), (⟨"HundiHall$WayFinder", "canOwe", "(II)Z"⟩, 11), (⟨"HundiHall$WayFinder", "follow", "(II)V"⟩, 11), (⟨"HundiHall$WayFinder", "nextOf", "(I)I"⟩, 11)]
theorem lw_r1 : ∀ q ∈ lw_privs_1, lw_okq q := List.forall_mem_cons.mpr ⟨lw_p0, List.forall_mem_cons.mpr ⟨lw_p1, List.forall_mem_cons.mpr ⟨lw_p2, List.forall_mem_cons.mpr ⟨lw_p3, List.forall_mem_cons.mpr ⟨lw_p4, List.forall_mem_cons.mpr ⟨lw_p5, List.forall_mem_cons.mpr ⟨lw_p6, List.forall_mem_cons.mpr ⟨lw_p7, List.forall_mem_cons.mpr ⟨lw_p8, List.forall_mem_cons.mpr ⟨lw_p9, List.forall_mem_cons.mpr ⟨lw_p10, List.forall_mem_cons.mpr ⟨lw_p11, List.forall_mem_cons.mpr ⟨lw_p12, List.forall_mem_cons.mpr ⟨lw_p13, List.forall_mem_cons.mpr ⟨lw_p14, List.forall_mem_cons.mpr ⟨lw_p15, fun _ h => absurd h List.not_mem_nil⟩⟩⟩⟩⟩⟩⟩⟩⟩⟩⟩⟩⟩⟩⟩⟩
theorem lw_p16 : lw_okq (⟨"HundiHall", "letArise", "(LHundiHall$Order;)V"⟩, 14) := ⟨⟨by decide +kernel, by decide +kernel⟩, List.mem_of_getElem? (i := 16) (by decide +kernel), List.mem_of_getElem? (i := 510) (by decide +kernel), List.mem_of_getElem? (i := 511) (by decide +kernel)⟩
theorem lw_p17 : lw_okq (⟨"HundiHall", "endForward", "(LHundiHall$Order;)V"⟩, 14) := ⟨⟨by decide +kernel, by decide +kernel⟩, List.mem_of_getElem? (i := 16) (by decide +kernel), List.mem_of_getElem? (i := 514) (by decide +kernel), List.mem_of_getElem? (i := 515) (by decide +kernel)⟩
theorem lw_p18 : lw_okq (⟨"HundiHall", "findWay", "(III)Z"⟩, 14) := ⟨⟨by decide +kernel, by decide +kernel⟩, List.mem_of_getElem? (i := 16) (by decide +kernel), List.mem_of_getElem? (i := 533) (by decide +kernel), List.mem_of_getElem? (i := 534) (by decide +kernel)⟩
theorem lw_p19 : lw_okq (⟨"HundiHall", "tellTown", "(II)V"⟩, 14) := ⟨⟨by decide +kernel, by decide +kernel⟩, List.mem_of_getElem? (i := 16) (by decide +kernel), List.mem_of_getElem? (i := 541) (by decide +kernel), List.mem_of_getElem? (i := 542) (by decide +kernel)⟩
theorem lw_p20 : lw_okq (⟨"HundiHall", "goBack", "(LHundiHall$Order;)V"⟩, 14) := ⟨⟨by decide +kernel, by decide +kernel⟩, List.mem_of_getElem? (i := 16) (by decide +kernel), List.mem_of_getElem? (i := 552) (by decide +kernel), List.mem_of_getElem? (i := 553) (by decide +kernel)⟩
theorem lw_p21 : lw_okq (⟨"HundiHall", "passHour", "()V"⟩, 14) := ⟨⟨by decide +kernel, by decide +kernel⟩, List.mem_of_getElem? (i := 16) (by decide +kernel), List.mem_of_getElem? (i := 563) (by decide +kernel), List.mem_of_getElem? (i := 564) (by decide +kernel)⟩
theorem lw_p22 : lw_okq (⟨"HundiHall", "endRaids", "()V"⟩, 14) := ⟨⟨by decide +kernel, by decide +kernel⟩, List.mem_of_getElem? (i := 16) (by decide +kernel), List.mem_of_getElem? (i := 567) (by decide +kernel), List.mem_of_getElem? (i := 568) (by decide +kernel)⟩
theorem lw_p23 : lw_okq (⟨"HundiHall", "moveMessages", "()V"⟩, 14) := ⟨⟨by decide +kernel, by decide +kernel⟩, List.mem_of_getElem? (i := 16) (by decide +kernel), List.mem_of_getElem? (i := 571) (by decide +kernel), List.mem_of_getElem? (i := 572) (by decide +kernel)⟩
theorem lw_p24 : lw_okq (⟨"HundiHall", "sendBackOld", "()V"⟩, 14) := ⟨⟨by decide +kernel, by decide +kernel⟩, List.mem_of_getElem? (i := 16) (by decide +kernel), List.mem_of_getElem? (i := 575) (by decide +kernel), List.mem_of_getElem? (i := 576) (by decide +kernel)⟩
theorem lw_p25 : lw_okq (⟨"HundiHall", "giveBack", "()V"⟩, 14) := ⟨⟨by decide +kernel, by decide +kernel⟩, List.mem_of_getElem? (i := 16) (by decide +kernel), List.mem_of_getElem? (i := 583) (by decide +kernel), List.mem_of_getElem? (i := 584) (by decide +kernel)⟩
theorem lw_p26 : lw_okq (⟨"HundiHall", "receiveCouriers", "()V"⟩, 14) := ⟨⟨by decide +kernel, by decide +kernel⟩, List.mem_of_getElem? (i := 16) (by decide +kernel), List.mem_of_getElem? (i := 587) (by decide +kernel), List.mem_of_getElem? (i := 588) (by decide +kernel)⟩
theorem lw_p27 : lw_okq (⟨"HundiHall", "worthOf", "(I)J"⟩, 14) := ⟨⟨by decide +kernel, by decide +kernel⟩, List.mem_of_getElem? (i := 16) (by decide +kernel), List.mem_of_getElem? (i := 640) (by decide +kernel), List.mem_of_getElem? (i := 641) (by decide +kernel)⟩
theorem lw_p28 : lw_okq (⟨"HundiHall", "sumGiven", "()J"⟩, 14) := ⟨⟨by decide +kernel, by decide +kernel⟩, List.mem_of_getElem? (i := 16) (by decide +kernel), List.mem_of_getElem? (i := 694) (by decide +kernel), List.mem_of_getElem? (i := 695) (by decide +kernel)⟩
theorem lw_p29 : lw_okq (⟨"HundiHall", "sumPaidOut", "()J"⟩, 14) := ⟨⟨by decide +kernel, by decide +kernel⟩, List.mem_of_getElem? (i := 16) (by decide +kernel), List.mem_of_getElem? (i := 698) (by decide +kernel), List.mem_of_getElem? (i := 699) (by decide +kernel)⟩
theorem lw_p30 : lw_okq (⟨"HundiHall", "sumGivenIn", "(I)J"⟩, 14) := ⟨⟨by decide +kernel, by decide +kernel⟩, List.mem_of_getElem? (i := 16) (by decide +kernel), List.mem_of_getElem? (i := 702) (by decide +kernel), List.mem_of_getElem? (i := 703) (by decide +kernel)⟩
theorem lw_p31 : lw_okq (⟨"HundiHall", "sumRobbed", "()J"⟩, 14) := ⟨⟨by decide +kernel, by decide +kernel⟩, List.mem_of_getElem? (i := 16) (by decide +kernel), List.mem_of_getElem? (i := 706) (by decide +kernel), List.mem_of_getElem? (i := 707) (by decide +kernel)⟩
def lw_privs_2 : List (MethodName × Nat) := [(⟨"HundiHall", "letArise", "(LHundiHall$Order;)V"⟩, 14), (⟨"HundiHall", "endForward", "(LHundiHall$Order;)V"⟩, 14), (⟨"HundiHall", "findWay", "(III)Z"⟩, 14), (⟨"HundiHall", "tellTown", "(II)V"⟩, 14), (⟨"HundiHall", "goBack", "(LHundiHall$Order;)V"⟩, 14), (⟨"HundiHall", "passHour", "()V"⟩, 14), (⟨"HundiHall", "endRaids", "()V"⟩, 14), (⟨"HundiHall", "moveMessages", "()V"⟩, 14), (⟨"HundiHall", "sendBackOld", "()V"⟩, 14), (⟨"HundiHall", "giveBack", "()V"⟩, 14), (⟨"HundiHall", "receiveCouriers", "()V"⟩, 14), (⟨"HundiHall", "worthOf", "(I)J"⟩, 14), (⟨"HundiHall", "sumGiven", "()J"⟩, 14), (⟨"HundiHall", "sumPaidOut", "()J"⟩, 14), (⟨"HundiHall", "sumGivenIn", "(I)J"⟩, 14), (⟨"HundiHall", "sumRobbed", "()J"⟩, 14)]
theorem lw_r2 : ∀ q ∈ lw_privs_2, lw_okq q := List.forall_mem_cons.mpr ⟨lw_p16, List.forall_mem_cons.mpr ⟨lw_p17, List.forall_mem_cons.mpr ⟨lw_p18, List.forall_mem_cons.mpr ⟨lw_p19, List.forall_mem_cons.mpr ⟨lw_p20, List.forall_mem_cons.mpr ⟨lw_p21, List.forall_mem_cons.mpr ⟨lw_p22, List.forall_mem_cons.mpr ⟨lw_p23, List.forall_mem_cons.mpr ⟨lw_p24, List.forall_mem_cons.mpr ⟨lw_p25, List.forall_mem_cons.mpr ⟨lw_p26, List.forall_mem_cons.mpr ⟨lw_p27, List.forall_mem_cons.mpr ⟨lw_p28, List.forall_mem_cons.mpr ⟨lw_p29, List.forall_mem_cons.mpr ⟨lw_p30, List.forall_mem_cons.mpr ⟨lw_p31, fun _ h => absurd h List.not_mem_nil⟩⟩⟩⟩⟩⟩⟩⟩⟩⟩⟩⟩⟩⟩⟩⟩
theorem lw_p32 : lw_okq (⟨"HundiHall", "sumOnRoad", "()J"⟩, 14) := ⟨⟨by decide +kernel, by decide +kernel⟩, List.mem_of_getElem? (i := 16) (by decide +kernel), List.mem_of_getElem? (i := 710) (by decide +kernel), List.mem_of_getElem? (i := 711) (by decide +kernel)⟩
theorem lw_p33 : lw_okq (⟨"HundiHall", "sumCash", "()J"⟩, 14) := ⟨⟨by decide +kernel, by decide +kernel⟩, List.mem_of_getElem? (i := 16) (by decide +kernel), List.mem_of_getElem? (i := 714) (by decide +kernel), List.mem_of_getElem? (i := 715) (by decide +kernel)⟩
theorem lw_p34 : lw_okq (⟨"HundiHallModel", "goesWell", "(I)Z"⟩, 38) := ⟨⟨by decide +kernel, by decide +kernel⟩, List.mem_of_getElem? (i := 718) (by decide +kernel), List.mem_of_getElem? (i := 851) (by decide +kernel), List.mem_of_getElem? (i := 852) (by decide +kernel)⟩
theorem lw_p35 : lw_okq (⟨"HundiHallModel", "isBroker", "(I)Z"⟩, 38) := ⟨⟨by decide +kernel, by decide +kernel⟩, List.mem_of_getElem? (i := 718) (by decide +kernel), List.mem_of_getElem? (i := 859) (by decide +kernel), List.mem_of_getElem? (i := 860) (by decide +kernel)⟩
theorem lw_p36 : lw_okq (⟨"HundiHallModel", "areBrokers", "(II)Z"⟩, 38) := ⟨⟨by decide +kernel, by decide +kernel⟩, List.mem_of_getElem? (i := 718) (by decide +kernel), List.mem_of_getElem? (i := 867) (by decide +kernel), List.mem_of_getElem? (i := 868) (by decide +kernel)⟩
theorem lw_p37 : lw_okq (⟨"HundiHallModel", "firstOf", "(I)I"⟩, 38) := ⟨⟨by decide +kernel, by decide +kernel⟩, List.mem_of_getElem? (i := 718) (by decide +kernel), List.mem_of_getElem? (i := 879) (by decide +kernel), List.mem_of_getElem? (i := 880) (by decide +kernel)⟩
theorem lw_p38 : lw_okq (⟨"HundiHallModel", "takeBack", "(II)V"⟩, 38) := ⟨⟨by decide +kernel, by decide +kernel⟩, List.mem_of_getElem? (i := 718) (by decide +kernel), List.mem_of_getElem? (i := 883) (by decide +kernel), List.mem_of_getElem? (i := 884) (by decide +kernel)⟩
theorem lw_p39 : lw_okq (⟨"HundiHallModel", "oweOn", "(III)V"⟩, 38) := ⟨⟨by decide +kernel, by decide +kernel⟩, List.mem_of_getElem? (i := 718) (by decide +kernel), List.mem_of_getElem? (i := 887) (by decide +kernel), List.mem_of_getElem? (i := 888) (by decide +kernel)⟩
theorem lw_p40 : lw_okq (⟨"HundiHallModel", "owe", "([JIIJ)V"⟩, 38) := ⟨⟨by decide +kernel, by decide +kernel⟩, List.mem_of_getElem? (i := 718) (by decide +kernel), List.mem_of_getElem? (i := 891) (by decide +kernel), List.mem_of_getElem? (i := 892) (by decide +kernel)⟩
theorem lw_p41 : lw_okq (⟨"HundiHallModel", "failsFor", "(I)V"⟩, 38) := ⟨⟨by decide +kernel, by decide +kernel⟩, List.mem_of_getElem? (i := 718) (by decide +kernel), List.mem_of_getElem? (i := 895) (by decide +kernel), List.mem_of_getElem? (i := 896) (by decide +kernel)⟩
theorem lw_p42 : lw_okq (⟨"HundiHallModel", "placeOn", "(II)I"⟩, 38) := ⟨⟨by decide +kernel, by decide +kernel⟩, List.mem_of_getElem? (i := 718) (by decide +kernel), List.mem_of_getElem? (i := 899) (by decide +kernel), List.mem_of_getElem? (i := 900) (by decide +kernel)⟩
theorem lw_p43 : lw_okq (⟨"HundiHallModel", "goElsewhere", "(I)V"⟩, 38) := ⟨⟨by decide +kernel, by decide +kernel⟩, List.mem_of_getElem? (i := 718) (by decide +kernel), List.mem_of_getElem? (i := 903) (by decide +kernel), List.mem_of_getElem? (i := 904) (by decide +kernel)⟩
theorem lw_p44 : lw_okq (⟨"HundiHallModel", "findWay", "(IIII)I"⟩, 38) := ⟨⟨by decide +kernel, by decide +kernel⟩, List.mem_of_getElem? (i := 718) (by decide +kernel), List.mem_of_getElem? (i := 907) (by decide +kernel), List.mem_of_getElem? (i := 908) (by decide +kernel)⟩
theorem lw_p45 : lw_okq (⟨"HundiHallModel", "findWays", "(III)V"⟩, 38) := ⟨⟨by decide +kernel, by decide +kernel⟩, List.mem_of_getElem? (i := 718) (by decide +kernel), List.mem_of_getElem? (i := 911) (by decide +kernel), List.mem_of_getElem? (i := 912) (by decide +kernel)⟩
theorem lw_p46 : lw_okq (⟨"HundiHallModel", "feeOf", "(II)J"⟩, 38) := ⟨⟨by decide +kernel, by decide +kernel⟩, List.mem_of_getElem? (i := 718) (by decide +kernel), List.mem_of_getElem? (i := 915) (by decide +kernel), List.mem_of_getElem? (i := 916) (by decide +kernel)⟩
theorem lw_p47 : lw_okq (⟨"HundiHallModel", "canOwe", "(III)Z"⟩, 38) := ⟨⟨by decide +kernel, by decide +kernel⟩, List.mem_of_getElem? (i := 718) (by decide +kernel), List.mem_of_getElem? (i := 921) (by decide +kernel), List.mem_of_getElem? (i := 922) (by decide +kernel)⟩
def lw_privs_3 : List (MethodName × Nat) := [(⟨"HundiHall", "sumOnRoad", "()J"⟩, 14), (⟨"HundiHall", "sumCash", "()J"⟩, 14), (⟨"HundiHallModel", "goesWell", "(I)Z"⟩, 38), (⟨"HundiHallModel", "isBroker", "(I)Z"⟩, 38), (⟨"HundiHallModel", "areBrokers", "(II)Z"⟩, 38), (⟨"HundiHallModel", "firstOf", "(I)I"⟩, 38), (⟨"HundiHallModel", "takeBack", "(II)V"⟩, 38), (⟨"HundiHallModel", "oweOn", "(III)V"⟩, 38), (⟨"HundiHallModel", "owe", "([JIIJ)V"⟩, 38), (⟨"HundiHallModel", "failsFor", "(I)V"⟩, 38), (⟨"HundiHallModel", "placeOn", "(II)I"⟩, 38), (⟨"HundiHallModel", "goElsewhere", "(I)V"⟩, 38), (⟨"HundiHallModel", "findWay", "(IIII)I"⟩, 38), (⟨"HundiHallModel", "findWays", "(III)V"⟩, 38), (⟨"HundiHallModel", "feeOf", "(II)J"⟩, 38), (⟨"HundiHallModel", "canOwe", "(III)Z"⟩, 38)]
theorem lw_r3 : ∀ q ∈ lw_privs_3, lw_okq q := List.forall_mem_cons.mpr ⟨lw_p32, List.forall_mem_cons.mpr ⟨lw_p33, List.forall_mem_cons.mpr ⟨lw_p34, List.forall_mem_cons.mpr ⟨lw_p35, List.forall_mem_cons.mpr ⟨lw_p36, List.forall_mem_cons.mpr ⟨lw_p37, List.forall_mem_cons.mpr ⟨lw_p38, List.forall_mem_cons.mpr ⟨lw_p39, List.forall_mem_cons.mpr ⟨lw_p40, List.forall_mem_cons.mpr ⟨lw_p41, List.forall_mem_cons.mpr ⟨lw_p42, List.forall_mem_cons.mpr ⟨lw_p43, List.forall_mem_cons.mpr ⟨lw_p44, List.forall_mem_cons.mpr ⟨lw_p45, List.forall_mem_cons.mpr ⟨lw_p46, List.forall_mem_cons.mpr ⟨lw_p47, fun _ h => absurd h List.not_mem_nil⟩⟩⟩⟩⟩⟩⟩⟩⟩⟩⟩⟩⟩⟩⟩⟩
theorem lw_p48 : lw_okq (⟨"HundiHallModel", "limitOf", "(II)J"⟩, 38) := ⟨⟨by decide +kernel, by decide +kernel⟩, List.mem_of_getElem? (i := 718) (by decide +kernel), List.mem_of_getElem? (i := 925) (by decide +kernel), List.mem_of_getElem? (i := 926) (by decide +kernel)⟩
theorem lw_p49 : lw_okq (⟨"HundiHallModel", "lay", "(III)V"⟩, 38) := ⟨⟨by decide +kernel, by decide +kernel⟩, List.mem_of_getElem? (i := 718) (by decide +kernel), List.mem_of_getElem? (i := 930) (by decide +kernel), List.mem_of_getElem? (i := 931) (by decide +kernel)⟩
theorem lw_p50 : lw_okq (⟨"HundiHallModel", "goBack", "(I)V"⟩, 38) := ⟨⟨by decide +kernel, by decide +kernel⟩, List.mem_of_getElem? (i := 718) (by decide +kernel), List.mem_of_getElem? (i := 934) (by decide +kernel), List.mem_of_getElem? (i := 935) (by decide +kernel)⟩
theorem lw_p51 : lw_okq (⟨"HundiHallModel", "isOrder", "(I)Z"⟩, 38) := ⟨⟨by decide +kernel, by decide +kernel⟩, List.mem_of_getElem? (i := 718) (by decide +kernel), List.mem_of_getElem? (i := 950) (by decide +kernel), List.mem_of_getElem? (i := 951) (by decide +kernel)⟩
theorem lw_p52 : lw_okq (⟨"HundiHallModel", "nextHour", "()V"⟩, 38) := ⟨⟨by decide +kernel, by decide +kernel⟩, List.mem_of_getElem? (i := 718) (by decide +kernel), List.mem_of_getElem? (i := 958) (by decide +kernel), List.mem_of_getElem? (i := 959) (by decide +kernel)⟩
theorem lw_p53 : lw_okq (⟨"HundiHallModel", "move", "(I)V"⟩, 38) := ⟨⟨by decide +kernel, by decide +kernel⟩, List.mem_of_getElem? (i := 718) (by decide +kernel), List.mem_of_getElem? (i := 962) (by decide +kernel), List.mem_of_getElem? (i := 963) (by decide +kernel)⟩
theorem lw_p54 : lw_okq (⟨"HundiHallModel", "comeAll", "()V"⟩, 38) := ⟨⟨by decide +kernel, by decide +kernel⟩, List.mem_of_getElem? (i := 718) (by decide +kernel), List.mem_of_getElem? (i := 966) (by decide +kernel), List.mem_of_getElem? (i := 967) (by decide +kernel)⟩
theorem lw_p55 : lw_okq (⟨"HundiHallModel", "oweBoth", "(IIJ)V"⟩, 38) := ⟨⟨by decide +kernel, by decide +kernel⟩, List.mem_of_getElem? (i := 718) (by decide +kernel), List.mem_of_getElem? (i := 970) (by decide +kernel), List.mem_of_getElem? (i := 971) (by decide +kernel)⟩
theorem lw_p56 : lw_okq (⟨"HundiHallModel", "clear", "(III)J"⟩, 38) := ⟨⟨by decide +kernel, by decide +kernel⟩, List.mem_of_getElem? (i := 718) (by decide +kernel), List.mem_of_getElem? (i := 994) (by decide +kernel), List.mem_of_getElem? (i := 995) (by decide +kernel)⟩
def lw_privs_4 : List (MethodName × Nat) := [(⟨"HundiHallModel", "limitOf", "(II)J"⟩, 38), (⟨"HundiHallModel", "lay", "(III)V"⟩, 38), (⟨"HundiHallModel", "goBack", "(I)V"⟩, 38), (⟨"HundiHallModel", "isOrder", "(I)Z"⟩, 38), (⟨"HundiHallModel", "nextHour", "()V"⟩, 38), (⟨"HundiHallModel", "move", "(I)V"⟩, 38), (⟨"HundiHallModel", "comeAll", "()V"⟩, 38), (⟨"HundiHallModel", "oweBoth", "(IIJ)V"⟩, 38), (⟨"HundiHallModel", "clear", "(III)J"⟩, 38)]
theorem lw_r4 : ∀ q ∈ lw_privs_4, lw_okq q := List.forall_mem_cons.mpr ⟨lw_p48, List.forall_mem_cons.mpr ⟨lw_p49, List.forall_mem_cons.mpr ⟨lw_p50, List.forall_mem_cons.mpr ⟨lw_p51, List.forall_mem_cons.mpr ⟨lw_p52, List.forall_mem_cons.mpr ⟨lw_p53, List.forall_mem_cons.mpr ⟨lw_p54, List.forall_mem_cons.mpr ⟨lw_p55, List.forall_mem_cons.mpr ⟨lw_p56, fun _ h => absurd h List.not_mem_nil⟩⟩⟩⟩⟩⟩⟩⟩⟩
def lw_privs : List (MethodName × Nat) := lw_privs_1 ++ (lw_privs_2 ++ (lw_privs_3 ++ (lw_privs_4)))
def lw_tbl : List Cond := k2_sels lw_privs ++ tables_1
theorem lw_privs_ok : ∀ q ∈ lw_privs, lw_okq q := by
  show ∀ q ∈ lw_privs_1 ++ (lw_privs_2 ++ (lw_privs_3 ++ (lw_privs_4))), lw_okq q
  exact List.forall_mem_append.mpr ⟨lw_r1, List.forall_mem_append.mpr ⟨lw_r2, List.forall_mem_append.mpr ⟨lw_r3, lw_r4⟩⟩⟩
-- ===== end of PART A; then your names; then what follows =====
end
section
/-! ===== BEGIN words of one list among another's, by their places ===== -/
theorem goodIn_r {big : List Cond} (ws : List Cond) (ps : List Nat) (hp : ws = ps.filterMap (fun i => big[i]?)) (h : ws.all goodWord = true) : GoodIn big ws := by
  intro w hw
  have h1 := List.all_eq_true.mp h w hw
  rw [hp] at hw
  obtain ⟨i, -, hi⟩ := List.mem_filterMap.mp hw
  have hm : w ∈ big := by first | exact List.mem_of_getElem? hi | exact List.getElem?_mem hi
  exact ⟨hm, good_of_word h1⟩
theorem goodIn_app {big a b : List Cond} (ha : GoodIn big a) (hb : GoodIn big b) : GoodIn big (a ++ b) := fun w h => (List.mem_append.mp h).elim (ha w) (hb w)
theorem goodIn_ca {big a b : List Cond} {c : Cond} (ha : GoodIn big (c :: a)) (hb : GoodIn big b) : GoodIn big (c :: (a ++ b)) := fun w h => (List.mem_cons.mp h).elim (fun e => ha w (List.mem_cons.mpr (Or.inl e))) (fun h => (List.mem_append.mp h).elim (fun h => ha w (List.mem_cons.mpr (Or.inr h))) (hb w))
theorem goodIn_sub {big ws : List Cond} (hm : ∀ w ∈ ws, w ∈ big) (h : ws.all goodWord = true) : GoodIn big ws := fun w hw => ⟨hm w hw, good_of_word (List.all_eq_true.mp h w hw)⟩
/-! ===== END ===== -/


/-! ===== BEGIN exceptions that leave a method, and their catching by the caller (launches without stack traces) ===== -/
section VXA
/-! The laws vx_back, vx_callV, vx_callS, vx_callSW, vx_throw0, vx_throwS follow proofs of the library, with one case more: JvmDerived/Free/Laws.lean (Back.of_free), Shelf42/LK1.lean (callV, callS), Shelf/KitTraced.lean (throwNew0V, throwNewS). -/
/-- where a method has thrown q: the class by its name, the cell, what was written, the world -/
def vx_T (XC : String → State → State → Prop) (st : State) (q : Addr) (t : State) (mc ms : Nat) (free : Addr → Prop) : Prop :=
  ∃ (E : String) (ce : Cell) (L : List Loc), XC E st t ∧ t.heap[q]? = some ce ∧ ce.vm = .none ∧ st.vm.findClass E = some ce.cls ∧ st.WarmedH t.vm ∧ st.sameButNew ({ t with vm := st.vm } : State) L mc ms ∧ ∀ z ∈ L, free z.base
def vx_Q (Qc : Array Value → State → Outcome → State → Prop) (XC : String → State → State → Prop) (mc ms : Nat) (free : Addr → Prop) : Array Value → State → Outcome → State → Prop := fun a st o t =>
  (Qc a st o t ∧ ∃ L, FrameEnd st o t L mc ms ∧ ∀ q ∈ L, free q.base) ∨ ∃ q, o = .threw q ∧ vx_T XC st q t mc ms free
/-- a callee that returns or throws -/
def vx_Met (l : Launch) (y : MethodName) (ws : List Cond) (rm : Room) (Pc : Array Value → State → Prop) (Qc : Array Value → State → Outcome → State → Prop) (XC : String → State → State → Prop) (mc ms : Nat) (free : Addr → Prop) : Prop :=
  MetFree l y (headSpec ws rm) Pc (fun _ _ _ _ _ => True) (vx_Q Qc XC mc ms free)
def vx_Post (XC : String → State → State → Prop) (mc ms : Nat) (free : Addr → Prop) : Pt → Array Value → Addr → Pt → Prop := fun A a q B =>
  ∃ (g : JFrame) (mk : MethodId) (t : State) (L : List Loc) (E : String) (ce : Cell), B.U.heap = t.heap ∧ B.U.vm = t.vm ∧ XC E (A.U.calling g mk a) t ∧ t.heap[q]? = some ce ∧ ce.vm = .none ∧ A.U.vm.findClass E = some ce.cls ∧ B.locs = A.locs ++ L ∧ (∀ z ∈ L, free z.base) ∧ B.cells = A.cells + mc ∧ B.slots = A.slots + ms
def vx_Back (l : Launch) (R : Room) (p : Program) (e : Env) (below : List Frame) (s : State) (sargs : Array Value) (y : MethodName) (len W9 : Nat)
    (Pre : Pt → Array Value → Prop) (Post : Pt → Array Value → Option Value → Pt → Prop) (PostX : Pt → Array Value → Addr → Pt → Prop) : Prop :=
  ∀ (m : MethodId) (meth : Method) (c : Code) (A : Pt) (g : JFrame) (ig : Instr) (mk : MethodId) (a : Array Value),
    Stand p l e R s m sargs below meth c A.U A.locs A.cells A.slots → g.method = m → g.locals.size = c.maxLocals → decode c.code g.pc = .ok (ig, len) →
    2 * g.monitorRoom + (g.stack.map fun v => v.category).sum ≤ W9 → A.U.methodNamed? y = some mk → Pre A a →
    (∃ (v : Option Value) (B : Pt), Stand p l e R s m sargs below meth c B.U B.locs B.cells B.slots ∧ Post A a v B ∧
      Steps p.tables e below (doInvoke e (A.U.setTop g) [] mk a).1 (B.U.setTop { g with pc := g.pc + len, stack := v.toList ++ g.stack })) ∨
    (∃ (q : Addr) (B : Pt), Stand p l e R s m sargs below meth c B.U B.locs B.cells B.slots ∧ PostX A a q B ∧
      Steps p.tables e below (doInvoke e (A.U.setTop g) [] mk a).1 ((B.U.setTop g).pushFrame (.throwing q)))
section Payer
variable {l : Launch} {R : Room} {p : Program} {e : Env} {below : List Frame} {s : State} {sargs : Array Value} {y : MethodName} {len W9 : Nat}
theorem vx_back {ws : List Cond} {rm : Room} {Pc : Array Value → State → Prop} {Qc : Array Value → State → Outcome → State → Prop} {XC : String → State → State → Prop} {mc ms : Nat} {free : Addr → Prop} {bytes : ByteArray} {maxL : Nat} {ret : Option FieldType}
    (hM : vx_Met l y ws rm Pc Qc XC mc ms free) (hblind : FrameBlind Pc) (hrc : rm.cells = mc) (hrs : rm.slots = ms)
    (hframes : rm.frames + 1 ≤ R.frames) (hlocals : W9 + (maxL + 11) + rm.locals ≤ R.locals)
    (hws : ∀ w ∈ ws, ∀ a' U, s.WarmedH U.vm → w.before a' U = true) (hcode : Cond.code y bytes maxL ret ∈ ws) (hinit : ∀ a' U, s.WarmedH U.vm → (Cond.initialized y.cls).before a' U = true) :
    vx_Back l R p e below s sargs y len W9 (PreOf R mc ms Pc) (PostOf Qc mc ms free) (vx_Post XC mc ms free) := by
  intro m meth c A g ig mk a X hg hsize hdg hW hn hp
  have h1 : (headSpec ws rm).pre.before a A.U = true := atoms_intro fun w hw => hws w hw _ _ X.warmed
  have h2 : (Cond.code y bytes maxL ret).before a A.U = true := hws _ hcode _ _ X.warmed
  have h3 : (Cond.initialized y.cls).before a A.U = true := hinit _ _ X.warmed
  have h4 : A.cells + (headSpec ws rm).room.cells ≤ R.cells := by rw [show (headSpec ws rm).room.cells = mc from hrc]; exact hp.1
  have h5 : A.slots + (headSpec ws rm).room.slots ≤ R.slots := by rw [show (headSpec ws rm).room.slots = ms from hrs]; exact hp.2.1
  have hPc : Pc a (A.U.calling g mk a) := hblind _ _ _ _ hp.2.2
  obtain ⟨U, Ls, c0, s0⟩ := A
  dsimp only [Pt.U, Pt.locs, Pt.cells, Pt.slots] at h1 h2 h3 h4 h5 X hn hPc ⊢
  obtain ⟨methY, cY, hmY, hcY, -, hlY, -, -, -, -⟩ := Cond.code_spec hn h2
  obtain ⟨kY, hkY, -⟩ := className_of_methodNamed hn
  have hinitY : kY.init = .initialized := Cond.initialized_spec (findClass_of_methodNamed hn) hkY h3
  have h : At U g.method c below := by rw [hg]; exact X.here
  have hlocals9 : W9 + (maxL + 11) + (headSpec ws rm).room.locals ≤ R.locals := hlocals
  have happ : (headSpec ws rm).appliesLoose y e.platform (U.calling g mk a) = true :=
    Spec.appliesLoose_calling (g := g) h hdg hn hkY hinitY
      (X.room_calling (g := g) (R' := (headSpec ws rm).room) hsize hmY hcY hframes (by rw [hlY]; omega) h4 h5) h1
  obtain ⟨mid, hmid⟩ := h.above
  have hfr : (U.setTop g).frames = (.java g :: mid) ++ below := by rw [State.frames_setTop' g h.top, hmid]; rfl
  obtain ⟨o, s₂, hsteps, -, hend, hq⟩ := Steps.callFree hM p X.admits X.cas X.clock (acts := []) hfr happ hPc trivial
  have hq' : vx_Q Qc XC mc ms free a (U.calling g mk a) o s₂ := hq
  rw [State.frames_setTop' g h.top] at hend
  obtain ⟨g₀, hg0⟩ := Option.isSome_iff_exists.mp h.top
  obtain ⟨r, hr⟩ := State.topJava?_eq_some.mp hg0
  have hr' : (({ U with heap := s₂.heap, slotsUsed := s₂.slotsUsed } : State).setVm s₂.vm).frames = .java g₀ :: r := hr
  rcases hq' with ⟨hqc, L, hfe, hL⟩ | ⟨q, rfl, E, ce, L, hx, hce, hcv, hcl, hW₂, hsm, hL⟩
  · obtain ⟨⟨v, rfl⟩, hW₂, e2, q2, q3, q4, q5, q6⟩ := id hfe
    have e3 : s₂ = ({ (U.calling g mk a).setFrames s₂.frames with heap := s₂.heap, slotsUsed := s₂.slotsUsed } : State).setVm s₂.vm := by
      have : s₂ = ({ s₂ with vm := (U.calling g mk a).vm } : State).setVm s₂.vm := rfl
      rw [e2] at this
      exact this
    obtain ⟨c₂, i₂, len₂, hc₂, hd₂, hf₂⟩ := hend
    have hW' : U.WarmedH s₂.vm := hW₂
    have hcc : c₂ = c := by
      have h1 : s₂.code? g.method = U.code? g.method := by
        rw [State.code?_eq, State.code?_eq, hW'.alike.method?]
      exact Option.some.inj (hc₂.symm.trans (h1.trans h.code))
    subst hcc
    have hlen : len₂ = len := by rw [hdg] at hd₂; cases hd₂; rfl
    subst hlen
    have hs₂ : s₂ = (({ U with heap := s₂.heap, slotsUsed := s₂.slotsUsed } : State).setVm s₂.vm).setTop { g with pc := g.pc + len₂, stack := v.toList ++ g.stack } := by
      refine e3.trans ?_
      rw [hf₂, State.calling_eq h.top, State.setFrames_setFrames, State.setTop_of_frames _ hr', hr]
      rfl
    have hsame : U.sameButNew ({ U with heap := s₂.heap, slotsUsed := s₂.slotsUsed } : State) L mc ms := by
      refine ⟨?_, q2, q3, q4, q5, q6⟩
      obtain ⟨t, ht, -⟩ := State.frames_cons hr
      show ({ U with heap := s₂.heap, slotsUsed := s₂.slotsUsed } : State) = { U.setFrames U.frames with heap := s₂.heap, slotsUsed := s₂.slotsUsed }
      rw [State.setFrames_self ht]
    subst hg
    refine Or.inl ⟨v, ⟨(({ U with heap := s₂.heap, slotsUsed := s₂.slotsUsed } : State).setVm s₂.vm), Ls ++ L, c0 + mc, s0 + ms⟩,
      ⟨X.admits, X.cas, X.clock, X.frames, X.room, X.hears, X.method, X.code, (X.here.setHeapUsed s₂.heap s₂.slotsUsed).setVm hW'.alike, X.tail, State.WarmedH.trans X.warmed hW', X.limits, X.bytes, X.same.trans (hsame.setVm s.vm)⟩,
      ⟨g, mk, s₂, L, rfl, rfl, hqc, rfl, hL, rfl, rfl⟩, ?_⟩
    show Steps p.tables e below _ ((({ U with heap := s₂.heap, slotsUsed := s₂.slotsUsed } : State).setVm s₂.vm).setTop { g with pc := g.pc + len₂, stack := v.toList ++ g.stack })
    rw [← hs₂]
    exact hsteps
  · obtain ⟨e2, q2, q3, q4, q5, q6⟩ := id hsm
    have e3 : s₂ = ({ (U.calling g mk a).setFrames s₂.frames with heap := s₂.heap, slotsUsed := s₂.slotsUsed } : State).setVm s₂.vm := by
      have : s₂ = ({ s₂ with vm := (U.calling g mk a).vm } : State).setVm s₂.vm := rfl
      rw [e2] at this
      exact this
    have hf₂ : s₂.frames = .throwing q :: .java g :: U.frames.tail := hend
    have hW' : U.WarmedH s₂.vm := hW₂
    have hs₂ : s₂ = ((({ U with heap := s₂.heap, slotsUsed := s₂.slotsUsed } : State).setVm s₂.vm).setTop g).pushFrame (.throwing q) := by
      refine e3.trans ?_
      rw [hf₂, State.calling_eq h.top, State.setFrames_setFrames, State.pushFrame, State.frames_setTop _ hr', State.setTop_of_frames _ hr', State.setFrames_setFrames, hr]
      rfl
    have hsame : U.sameButNew ({ U with heap := s₂.heap, slotsUsed := s₂.slotsUsed } : State) L mc ms := by
      refine ⟨?_, q2, q3, q4, q5, q6⟩
      obtain ⟨t, ht, -⟩ := State.frames_cons hr
      show ({ U with heap := s₂.heap, slotsUsed := s₂.slotsUsed } : State) = { U.setFrames U.frames with heap := s₂.heap, slotsUsed := s₂.slotsUsed }
      rw [State.setFrames_self ht]
    subst hg
    refine Or.inr ⟨q, ⟨(({ U with heap := s₂.heap, slotsUsed := s₂.slotsUsed } : State).setVm s₂.vm), Ls ++ L, c0 + mc, s0 + ms⟩,
      ⟨X.admits, X.cas, X.clock, X.frames, X.room, X.hears, X.method, X.code, (X.here.setHeapUsed s₂.heap s₂.slotsUsed).setVm hW'.alike, X.tail, State.WarmedH.trans X.warmed hW', X.limits, X.bytes, X.same.trans (hsame.setVm s.vm)⟩,
      ⟨g, mk, s₂, L, E, ce, rfl, rfl, hx, hce, hcv, hcl, rfl, hL, rfl, rfl⟩, ?_⟩
    show Steps p.tables e below _ (((({ U with heap := s₂.heap, slotsUsed := s₂.slotsUsed } : State).setVm s₂.vm).setTop g).pushFrame (.throwing q))
    rw [← hs₂]
    exact hsteps
end Payer
section Calls
variable {p : Program} {l : Launch} {e : Env} {R : Room} {s : State} {m : MethodId} {args : Array Value} {below : List Frame} {meth : Method} {c : Code} {T : State} {locs : List Loc} {cells slots : Nat}
theorem vx_callV (X : Stand p l e R s m args below meth c T locs cells slots) (hexec : p.tables.exec = Jvm.exec) {own C : String} {index : Nat} {y : MethodName} {bytes : ByteArray} {maxL : Nat} {ret : Option FieldType}
    (hown : s.vm.findClass own = some m.cls) (hlink : (Cond.methodLink own index y).before args s = true) (hinst : (Cond.instanceMethod y).before args s = true) (hsel : (Cond.selects C y y).before args s = true)
    (hcode : (Cond.code y bytes maxL ret).before args s = true) (hy : y.cls ≠ "java/lang/invoke/MethodHandle" ∧ y.cls ≠ "java/lang/invoke/VarHandle")
    {W9 : Nat} {Pre : Pt → Array Value → Prop} {Post : Pt → Array Value → Option Value → Pt → Prop} {PostX : Pt → Array Value → Addr → Pt → Prop} (hK : vx_Back l R p e below s args y 3 W9 Pre Post PostX)
    {b : Addr} {cellB : Cell} (hcell : T.heap[b]? = some cellB) (hobj : cellB.vm.isStatics = false) (hcls : s.vm.findClass C = some cellB.cls)
    {g : JFrame} (hg : g.method = m) (hsize : g.locals.size = c.maxLocals) {argsL rest : List Value} (hlen : ∀ sig, parseMethodDescriptor y.desc = some sig → argsL.length = sig.parameters.length)
    (hstack : g.stack = argsL.reverse ++ .ref b :: rest) (hW : 2 * g.monitorRoom + (rest.map fun v => v.category).sum ≤ W9) (hdg : decode c.code g.pc = .ok (.invokevirtual index, 3))
    (hpre : ∀ vm₁, s.WarmedH vm₁ → Pre ⟨T.setVm vm₁, locs, cells, slots⟩ (Value.ref b :: argsL).toArray) :
    (∃ (v : Option Value) (vm₁ : Vm) (B : Pt), s.WarmedH vm₁ ∧ Stand p l e R s m args below meth c B.U B.locs B.cells B.slots ∧ Post ⟨T.setVm vm₁, locs, cells, slots⟩ (Value.ref b :: argsL).toArray v B ∧
      ∀ target, Steps p.tables e below (B.U.setTop { g with pc := g.pc + 3, stack := v.toList ++ rest }) target → Steps p.tables e below (T.setTop g) target) ∨
    (∃ (q : Addr) (vm₁ : Vm) (B : Pt), s.WarmedH vm₁ ∧ Stand p l e R s m args below meth c B.U B.locs B.cells B.slots ∧ PostX ⟨T.setVm vm₁, locs, cells, slots⟩ (Value.ref b :: argsL).toArray q B ∧
      Steps p.tables e below (T.setTop g) ((B.U.setTop { g with stack := rest }).pushFrame (.throwing q))) := by
  obtain ⟨mk, methM, hnamed, hmethM, hstM, habM⟩ := Cond.instanceMethod_spec hinst
  obtain ⟨methM', cM, hmethM', -, -, -, -, -, -, hsigM⟩ := Cond.code_spec hnamed hcode
  cases hmethM.symm.trans hmethM'
  obtain ⟨c2, r2, m2, q1, q2, q3, q4, kP, hkP, hkPi⟩ := Cond.selects_spec hsel
  cases hcls.symm.trans q1
  cases (State.methodFound?_of_named hnamed hy).symm.trans q2
  cases hnamed.symm.trans q3
  have hselP : selectMethod e.platform s.vm cellB.cls mk = .method mk := by rw [Launch.admits_selectMethod X.admits]; exact q4
  obtain ⟨vm₁, X₁, hstep₁⟩ := X.invokevirtual hexec hown hlink hnamed hmethM hstM hkP hkPi hy (a := b) (cell := cellB) hcell
    (fun z h => by rw [h] at hobj; cases hobj) hselP hmethM habM hkP hkPi (g := g) hg (argsL := argsL) (rest := rest) (hlen _ hsigM) hstack hdg
  rcases hK m meth c ⟨T.setVm vm₁, locs, cells, slots⟩ { g with stack := rest } (.invokevirtual index) mk (Value.ref b :: argsL).toArray X₁ hg hsize hdg hW (X₁.named hnamed) (hpre vm₁ X₁.warmed) with ⟨v, B, X', hpost, hsteps⟩ | ⟨q, B, X', hpost, hsteps⟩
  · exact Or.inl ⟨v, vm₁, B, X₁.warmed, X', hpost, fun target h => hstep₁ _ fun acts => by rw [doInvoke_state]; exact hsteps.trans h⟩
  · exact Or.inr ⟨q, vm₁, B, X₁.warmed, X', hpost, hstep₁ _ fun acts => by rw [doInvoke_state]; exact hsteps⟩
theorem vx_callS (X : Stand p l e R s m args below meth c T locs cells slots) (hexec : p.tables.exec = Jvm.exec) {own : String} {index : Nat} {y : MethodName} {bytes : ByteArray} {maxL : Nat} {ret : Option FieldType}
    (hown : s.vm.findClass own = some m.cls) (hlink : (Cond.methodLink own index y).before args s = true) (hstat : (Cond.static y).before args s = true) (hinit : (Cond.initialized y.cls).before args s = true)
    (hcode : (Cond.code y bytes maxL ret).before args s = true) (hy : y.cls ≠ "java/lang/invoke/MethodHandle" ∧ y.cls ≠ "java/lang/invoke/VarHandle")
    {W9 : Nat} {Pre : Pt → Array Value → Prop} {Post : Pt → Array Value → Option Value → Pt → Prop} {PostX : Pt → Array Value → Addr → Pt → Prop} (hK : vx_Back l R p e below s args y 3 W9 Pre Post PostX)
    {g : JFrame} (hg : g.method = m) (hsize : g.locals.size = c.maxLocals) {argsL rest : List Value} (hlen : ∀ sig, parseMethodDescriptor y.desc = some sig → argsL.length = sig.parameters.length)
    (hstack : g.stack = argsL.reverse ++ rest) (hW : 2 * g.monitorRoom + (rest.map fun v => v.category).sum ≤ W9) (hdg : decode c.code g.pc = .ok (.invokestatic index, 3))
    (hpre : ∀ vm₁, s.WarmedH vm₁ → Pre ⟨T.setVm vm₁, locs, cells, slots⟩ argsL.toArray) :
    (∃ (v : Option Value) (vm₁ : Vm) (B : Pt), s.WarmedH vm₁ ∧ Stand p l e R s m args below meth c B.U B.locs B.cells B.slots ∧ Post ⟨T.setVm vm₁, locs, cells, slots⟩ argsL.toArray v B ∧
      ∀ target, Steps p.tables e below (B.U.setTop { g with pc := g.pc + 3, stack := v.toList ++ rest }) target → Steps p.tables e below (T.setTop g) target) ∨
    (∃ (q : Addr) (vm₁ : Vm) (B : Pt), s.WarmedH vm₁ ∧ Stand p l e R s m args below meth c B.U B.locs B.cells B.slots ∧ PostX ⟨T.setVm vm₁, locs, cells, slots⟩ argsL.toArray q B ∧
      Steps p.tables e below (T.setTop g) ((B.U.setTop { g with stack := rest }).pushFrame (.throwing q))) := by
  obtain ⟨mk, hnamed⟩ := Cond.code_named hcode
  obtain ⟨methM, cM, hmethM, -, -, -, -, -, -, hsigM⟩ := Cond.code_spec hnamed hcode
  have hstatic : methM.isStatic = true := Cond.static_spec hnamed hmethM hstat
  obtain ⟨kP, hkP, -⟩ := className_of_methodNamed hnamed
  have hinitP : kP.init = .initialized := Cond.initialized_spec (findClass_of_methodNamed hnamed) hkP hinit
  obtain ⟨vm₁, X₁, hstep₁⟩ := X.invokestatic hexec hown hlink hnamed hmethM hstatic hkP hinitP hy (g := g) hg (argsL := argsL) (rest := rest) (hlen _ hsigM) hstack hdg
  rcases hK m meth c ⟨T.setVm vm₁, locs, cells, slots⟩ { g with stack := rest } (.invokestatic index) mk argsL.toArray X₁ hg hsize hdg hW (X₁.named hnamed) (hpre vm₁ X₁.warmed) with ⟨v, B, X', hpost, hsteps⟩ | ⟨q, B, X', hpost, hsteps⟩
  · exact Or.inl ⟨v, vm₁, B, X₁.warmed, X', hpost, fun target h => hstep₁ _ fun acts => by rw [doInvoke_state]; exact hsteps.trans h⟩
  · exact Or.inr ⟨q, vm₁, B, X₁.warmed, X', hpost, hstep₁ _ fun acts => by rw [doInvoke_state]; exact hsteps⟩
end Calls
theorem vx_cls {s : State} {T : State} {vm₁ : Vm} {E : String} {k : ClassId} (hW : s.WarmedH vm₁) (h : (T.setVm vm₁).vm.findClass E = some k) : s.vm.findClass E = some k := by
  have h1 : vm₁.findClass E = some k := h
  rw [hW.alike.findClass] at h1
  exact h1
/-- the method's frame g, with q thrown over it -/
def vx_W (p : Program) (l : Launch) (e : Env) (R : Room) (s : State) (m : MethodId) (args : Array Value) (below : List Frame) (meth : Method) (c : Code) (H : Heap) (locs : List Loc) (cells slots : Nat) (Q : State → Prop) (g : JFrame) (q : Addr) : Prop :=
  ∀ T : State, T.heap = H → Stand p l e R s m args below meth c T locs cells slots → ∃ t, Steps p.tables e below ((T.setTop g).pushFrame (.throwing q)) t ∧ Q t
def vx_Run (p : Program) (l : Launch) (e : Env) (R : Room) (s : State) (m : MethodId) (args : Array Value) (below : List Frame) (meth : Method) (c : Code) (H : Heap) (locs : List Loc) (cells slots mc ms : Nat) (g : JFrame) (rest : List Value) (Qa : State → Outcome → State → Prop) (XC : String → State → State → Prop) (free : Addr → Prop) : Prop :=
  ∀ T : State, T.heap = H → Stand p l e R s m args below meth c T locs cells slots →
    (∃ (v : Option Value) (st₀ t T' : State) (L : List Loc), st₀.heap = H ∧ Stand p l e R s m args below meth c T' (locs ++ L) (cells + mc) (slots + ms) ∧ (∀ q ∈ L, free q.base) ∧ T'.heap = t.heap ∧ T'.vm = t.vm ∧ Qa st₀ (.returned v) t ∧
      Goes p e below T g T' { g with pc := g.pc + 3, stack := v.toList ++ rest }) ∨
    (∃ (q : Addr) (st₀ t T' : State) (L : List Loc) (E : String) (ce : Cell), st₀.heap = H ∧ Stand p l e R s m args below meth c T' (locs ++ L) (cells + mc) (slots + ms) ∧ (∀ z ∈ L, free z.base) ∧ T'.heap = t.heap ∧ T'.vm = t.vm ∧ XC E st₀ t ∧ t.heap[q]? = some ce ∧ ce.vm = .none ∧ s.vm.findClass E = some ce.cls ∧
      Steps p.tables e below (T.setTop g) ((T'.setTop { g with stack := rest }).pushFrame (.throwing q)))
def vx_X {S : Type} (px : S → Prop) (B : String → S → State → Prop) (A : Nat → Prop) : String → State → State → Prop := fun E st t => ∃ u : S, px u ∧ B E u t ∧ va_F A st t
section Runs
variable {p : Program} {l : Launch} {e : Env} {R : Room} {s : State} {m : MethodId} {args : Array Value} {below : List Frame} {meth : Method} {c : Code} {H : Heap} {locs : List Loc} {cells slots : Nat}
variable {y : MethodName} {bytes cc : ByteArray} {maxL nL mc ms n index : Nat} {ret : Option FieldType} {ws : List Cond} {rm : Room} {Pc : Array Value → State → Prop} {Qc : Array Value → State → Outcome → State → Prop} {XC : String → State → State → Prop} {free : Addr → Prop} {Ts : List Cond} {own C : String} {b : Addr} {As rest : List Value} {g : JFrame}
theorem vx_callBack (cb : CallB R s args own index y bytes maxL ret ws rm mc ms n) (hM : vx_Met l y ws rm Pc Qc XC mc ms free) (hbl : FrameBlind Pc) : vx_Back l R p e below s args y 3 8 (PreOf R mc ms Pc) (PostOf Qc mc ms free) (vx_Post XC mc ms free) := by
  obtain ⟨hrc, hrs, hfr, hlo, hws, hcw, -, hini, -⟩ := cb
  exact vx_back (bytes := bytes) (maxL := maxL) (ret := ret) hM hbl hrc hrs hfr hlo hws hcw (fun a' U hW => word_at hW (Or.inl (by first | rfl | simp [Cond.onTables, Cond.keeps, Cond.steady])) hini)
theorem vx_runV (S : CallFix p m c cc nL s args Ts own) (hM : vx_Met l y ws rm Pc Qc XC mc ms free) (cw : CallW R s args own C index y bytes maxL ret ws rm mc ms n) (hp : PreV s H C b Pc As)
    (hg : g.method = m) (hn : As.length = n) (hsize : g.locals.size = nL) (hstack : g.stack = As.reverse ++ .ref b :: rest) (hW : 2 * g.monitorRoom + (rest.map fun v => v.category).sum ≤ 8) (hdg : decode cc g.pc = .ok (.invokevirtual index, 3)) (hf : cells + mc ≤ R.cells ∧ slots + ms ≤ R.slots) :
    vx_Run p l e R s m args below meth c H locs cells slots mc ms g rest (Qc (Value.ref b :: As).toArray) XC free := by
  have hK : vx_Back l R p e below s args y 3 8 (PreOf R mc ms Pc) (PostOf Qc mc ms free) (vx_Post XC mc ms free) := vx_callBack cw.1 hM hp.1
  obtain ⟨⟨-, -, -, -, -, -, hcode, -, hy, hlen, hl⟩, hin, hse⟩ := cw
  obtain ⟨hx, hb, hml, ho, -⟩ := S
  obtain ⟨-, ⟨cellB, hcB, hoB, hclB⟩, hPc⟩ := hp
  intro T hT X
  rcases vx_callV X hx (C := C) (bytes := bytes) (maxL := maxL) (ret := ret) ho hl hin hse hcode hy hK (by rw [hT]; exact hcB) hoB hclB hg (hsize.trans hml.symm) (argsL := As) (rest := rest) (fun sig h => hn.trans (hlen sig h)) hstack hW (by rw [hb]; exact hdg)
    (fun vm₁ hW₁ => ⟨hf.1, hf.2, hPc (T.setVm vm₁) hT hW₁⟩) with ⟨v, vm₁, ⟨U', l2, c2, s2⟩, hW₁, X', ⟨g', mk, t, L, e1, e2, hq, h1, hL, h2, h3⟩, st⟩ | ⟨q, vm₁, ⟨U', l2, c2, s2⟩, hW₁, X', ⟨g', mk, t, L, E, ce, e1, e2, hq, hce, hcv, hcl, h1, hL, h2, h3⟩, st⟩
  · dsimp only [Pt.U, Pt.locs, Pt.cells, Pt.slots] at X' e1 e2 h1 h2 h3 st
    subst h1; subst h2; subst h3
    exact Or.inl ⟨v, (T.setVm vm₁).calling g' mk (Value.ref b :: As).toArray, t, U', L, hT, X', hL, e1, e2, hq, st⟩
  · dsimp only [Pt.U, Pt.locs, Pt.cells, Pt.slots] at X' e1 e2 h1 h2 h3 st hcl
    subst h1; subst h2; subst h3
    exact Or.inr ⟨q, (T.setVm vm₁).calling g' mk (Value.ref b :: As).toArray, t, U', L, E, ce, hT, X', hL, e1, e2, hq, hce, hcv, vx_cls hW₁ hcl, st⟩
theorem vx_runS (S : CallFix p m c cc nL s args Ts own) (hM : vx_Met l y ws rm Pc Qc XC mc ms free) (cw : CallB R s args own index y bytes maxL ret ws rm mc ms n ∧ (Cond.static y).before args s = true) (hp : PreS s H Pc As)
    (hg : g.method = m) (hn : As.length = n) (hsize : g.locals.size = nL) (hstack : g.stack = As.reverse ++ rest) (hW : 2 * g.monitorRoom + (rest.map fun v => v.category).sum ≤ 8) (hdg : decode cc g.pc = .ok (.invokestatic index, 3)) (hf : cells + mc ≤ R.cells ∧ slots + ms ≤ R.slots) :
    vx_Run p l e R s m args below meth c H locs cells slots mc ms g rest (Qc As.toArray) XC free := by
  have hK : vx_Back l R p e below s args y 3 8 (PreOf R mc ms Pc) (PostOf Qc mc ms free) (vx_Post XC mc ms free) := vx_callBack cw.1 hM hp.1
  obtain ⟨⟨-, -, -, -, -, -, hcode, hini, hy, hlen, hl⟩, hstt⟩ := cw
  obtain ⟨hx, hb, hml, ho, -⟩ := S
  intro T hT X
  rcases vx_callS X hx (bytes := bytes) (maxL := maxL) (ret := ret) ho hl hstt hini hcode hy hK hg (hsize.trans hml.symm) (argsL := As) (rest := rest) (fun sig h => hn.trans (hlen sig h)) hstack hW (by rw [hb]; exact hdg)
    (fun vm₁ hW₁ => ⟨hf.1, hf.2, hp.2 (T.setVm vm₁) hT hW₁⟩) with ⟨v, vm₁, ⟨U', l2, c2, s2⟩, hW₁, X', ⟨g', mk, t, L, e1, e2, hq, h1, hL, h2, h3⟩, st⟩ | ⟨q, vm₁, ⟨U', l2, c2, s2⟩, hW₁, X', ⟨g', mk, t, L, E, ce, e1, e2, hq, hce, hcv, hcl, h1, hL, h2, h3⟩, st⟩
  · dsimp only [Pt.U, Pt.locs, Pt.cells, Pt.slots] at X' e1 e2 h1 h2 h3 st
    subst h1; subst h2; subst h3
    exact Or.inl ⟨v, (T.setVm vm₁).calling g' mk As.toArray, t, U', L, hT, X', hL, e1, e2, hq, st⟩
  · dsimp only [Pt.U, Pt.locs, Pt.cells, Pt.slots] at X' e1 e2 h1 h2 h3 st hcl
    subst h1; subst h2; subst h3
    exact Or.inr ⟨q, (T.setVm vm₁).calling g' mk As.toArray, t, U', L, E, ce, hT, X', hL, e1, e2, hq, hce, hcv, vx_cls hW₁ hcl, st⟩
end Runs
section Rows
variable {p : Program} {l : Launch} {e : Env} {R : Room} {s : State} {m : MethodId} {args : Array Value} {below : List Frame} {meth : Method} {c : Code} {H : Heap} {locs : List Loc} {cells slots : Nat} {Q : State → Prop}
variable {mc ms : Nat} {free : Addr → Prop} {A0 A1 : Nat → Prop} {H0 : Heap} {a : Array Value} {pc : Nat} {ls : Array Slot} {st0 rest : List Value}
theorem vx_keep {st₀ t T' : State} {L : List Loc} (h0 : st₀.heap = H) (e1 : T'.heap = t.heap) (hS : va_S A0 H0 H locs) (hA : ∀ q, q < H.size → A1 q → A0 q) (hf : ∀ q, free q → A0 q) (hL : ∀ q ∈ L, free q.base) (hF : va_F A1 st₀ t) :
    H.size ≤ T'.heap.size ∧ (∀ q : Nat, q < H.size → ¬ A1 q → T'.heap[q]? = H[q]?) ∧ va_S A0 H0 T'.heap (locs ++ L) := by
  obtain ⟨hz, hk⟩ := hF
  rw [h0] at hz hk
  exact ⟨by rw [e1]; exact hz, fun q h1 h2 => by rw [e1]; exact hk q h1 h2,
    ⟨Nat.le_trans hS.1 (by rw [e1]; exact hz), fun q h1 h2 => by rw [e1, hk q (Nat.lt_of_lt_of_le h1 hS.1) (fun z => h2 (hA q (Nat.lt_of_lt_of_le h1 hS.1) z))]; exact hS.2.1 q h1 h2, fun q hq => by
      rcases List.mem_append.mp hq with h | h
      · exact hS.2.2 q h
      · exact hf _ (hL q h)⟩⟩
theorem vx_calli {S SX : Type} {post : Int32 → S → Prop} {px : SX → Prop} {B : S → State → Prop} {BX : String → SX → State → Prop} {AX : Nat → Prop} (hr : vx_Run p l e R s m args below meth c H locs cells slots mc ms (F0 m pc ls st0) rest (va_Qi post B A1 a) (vx_X px BX AX) free) (hS : va_S A0 H0 H locs) (hA : ∀ q, q < H.size → A1 q → A0 q) (hf : ∀ q, free q → A0 q) (hAX : ∀ q, q < H.size → AX q → A0 q)
    (kx : ∀ (E : String) (ce : Cell) (q9 : Addr) (u : SX) (t : State) (H1 : Heap) (locs1 : List Loc), t.heap = H1 → s.vm.Alike t.vm → px u → BX E u t → H.size ≤ H1.size → (∀ q : Nat, q < H.size → ¬ AX q → H1[q]? = H[q]?) → va_S A0 H0 H1 locs1 → H1[q9]? = some ce → ce.vm = .none → s.vm.findClass E = some ce.cls → vx_W p l e R s m args below meth c H1 locs1 (cells + mc) (slots + ms) Q (F0 m pc ls rest) q9)
    (kk : ∀ (r : Int32) (u : S) (t : State) (H1 : Heap) (locs1 : List Loc), t.heap = H1 → s.vm.Alike t.vm → post r u → B u t → H.size ≤ H1.size → (∀ q : Nat, q < H.size → ¬ A1 q → H1[q]? = H[q]?) → va_S A0 H0 H1 locs1 → W p l e R s m args below meth c H1 locs1 (cells + mc) (slots + ms) Q (F0 m (pc + 3) ls (.int r :: rest))) : W p l e R s m args below meth c H locs cells slots Q (F0 m pc ls st0) := by
  intro T hT X
  rcases hr T hT X with ⟨v, st₀, t, T', L, h0, X', hL, e1, e2, ⟨⟨r, u, hv, hp, hb⟩, hF⟩, st⟩ | ⟨q, st₀, t, T', L, E, ce, h0, X', hL, e1, e2, ⟨u, hp, hb, hF⟩, hce, hcv, hcl, st⟩
  · cases hv
    obtain ⟨k1, k2, k3⟩ := vx_keep h0 e1 hS hA hf hL hF
    obtain ⟨t2, a1, b1⟩ := kk r u t T'.heap (locs ++ L) e1.symm (by rw [← e2]; exact X'.warmed.alike) hp hb k1 k2 k3 T' rfl X'
    exact ⟨t2, st t2 a1, b1⟩
  · obtain ⟨k1, k2, k3⟩ := vx_keep h0 e1 hS hAX hf hL hF
    obtain ⟨t2, a1, b1⟩ := kx E ce q u t T'.heap (locs ++ L) e1.symm (by rw [← e2]; exact X'.warmed.alike) hp hb k1 k2 k3 (by rw [e1]; exact hce) hcv hcl T' rfl X'
    exact ⟨t2, st.trans a1, b1⟩
theorem vx_calll {S SX : Type} {post : Int64 → S → Prop} {px : SX → Prop} {B : S → State → Prop} {BX : String → SX → State → Prop} {AX : Nat → Prop} (hr : vx_Run p l e R s m args below meth c H locs cells slots mc ms (F0 m pc ls st0) rest (va_Ql post B A1 a) (vx_X px BX AX) free) (hS : va_S A0 H0 H locs) (hA : ∀ q, q < H.size → A1 q → A0 q) (hf : ∀ q, free q → A0 q) (hAX : ∀ q, q < H.size → AX q → A0 q)
    (kx : ∀ (E : String) (ce : Cell) (q9 : Addr) (u : SX) (t : State) (H1 : Heap) (locs1 : List Loc), t.heap = H1 → s.vm.Alike t.vm → px u → BX E u t → H.size ≤ H1.size → (∀ q : Nat, q < H.size → ¬ AX q → H1[q]? = H[q]?) → va_S A0 H0 H1 locs1 → H1[q9]? = some ce → ce.vm = .none → s.vm.findClass E = some ce.cls → vx_W p l e R s m args below meth c H1 locs1 (cells + mc) (slots + ms) Q (F0 m pc ls rest) q9)
    (kk : ∀ (r : Int64) (u : S) (t : State) (H1 : Heap) (locs1 : List Loc), t.heap = H1 → s.vm.Alike t.vm → post r u → B u t → H.size ≤ H1.size → (∀ q : Nat, q < H.size → ¬ A1 q → H1[q]? = H[q]?) → va_S A0 H0 H1 locs1 → W p l e R s m args below meth c H1 locs1 (cells + mc) (slots + ms) Q (F0 m (pc + 3) ls (.long r :: rest))) : W p l e R s m args below meth c H locs cells slots Q (F0 m pc ls st0) := by
  intro T hT X
  rcases hr T hT X with ⟨v, st₀, t, T', L, h0, X', hL, e1, e2, ⟨⟨r, u, hv, hp, hb⟩, hF⟩, st⟩ | ⟨q, st₀, t, T', L, E, ce, h0, X', hL, e1, e2, ⟨u, hp, hb, hF⟩, hce, hcv, hcl, st⟩
  · cases hv
    obtain ⟨k1, k2, k3⟩ := vx_keep h0 e1 hS hA hf hL hF
    obtain ⟨t2, a1, b1⟩ := kk r u t T'.heap (locs ++ L) e1.symm (by rw [← e2]; exact X'.warmed.alike) hp hb k1 k2 k3 T' rfl X'
    exact ⟨t2, st t2 a1, b1⟩
  · obtain ⟨k1, k2, k3⟩ := vx_keep h0 e1 hS hAX hf hL hF
    obtain ⟨t2, a1, b1⟩ := kx E ce q u t T'.heap (locs ++ L) e1.symm (by rw [← e2]; exact X'.warmed.alike) hp hb k1 k2 k3 (by rw [e1]; exact hce) hcv hcl T' rfl X'
    exact ⟨t2, st.trans a1, b1⟩
theorem vx_callf {S SX : Type} {post : UInt32 → S → Prop} {px : SX → Prop} {B : S → State → Prop} {BX : String → SX → State → Prop} {AX : Nat → Prop} (hr : vx_Run p l e R s m args below meth c H locs cells slots mc ms (F0 m pc ls st0) rest (va_Qf post B A1 a) (vx_X px BX AX) free) (hS : va_S A0 H0 H locs) (hA : ∀ q, q < H.size → A1 q → A0 q) (hf : ∀ q, free q → A0 q) (hAX : ∀ q, q < H.size → AX q → A0 q)
    (kx : ∀ (E : String) (ce : Cell) (q9 : Addr) (u : SX) (t : State) (H1 : Heap) (locs1 : List Loc), t.heap = H1 → s.vm.Alike t.vm → px u → BX E u t → H.size ≤ H1.size → (∀ q : Nat, q < H.size → ¬ AX q → H1[q]? = H[q]?) → va_S A0 H0 H1 locs1 → H1[q9]? = some ce → ce.vm = .none → s.vm.findClass E = some ce.cls → vx_W p l e R s m args below meth c H1 locs1 (cells + mc) (slots + ms) Q (F0 m pc ls rest) q9)
    (kk : ∀ (r : UInt32) (u : S) (t : State) (H1 : Heap) (locs1 : List Loc), t.heap = H1 → s.vm.Alike t.vm → post r u → B u t → H.size ≤ H1.size → (∀ q : Nat, q < H.size → ¬ A1 q → H1[q]? = H[q]?) → va_S A0 H0 H1 locs1 → W p l e R s m args below meth c H1 locs1 (cells + mc) (slots + ms) Q (F0 m (pc + 3) ls (.float r :: rest))) : W p l e R s m args below meth c H locs cells slots Q (F0 m pc ls st0) := by
  intro T hT X
  rcases hr T hT X with ⟨v, st₀, t, T', L, h0, X', hL, e1, e2, ⟨⟨r, u, hv, hp, hb⟩, hF⟩, st⟩ | ⟨q, st₀, t, T', L, E, ce, h0, X', hL, e1, e2, ⟨u, hp, hb, hF⟩, hce, hcv, hcl, st⟩
  · cases hv
    obtain ⟨k1, k2, k3⟩ := vx_keep h0 e1 hS hA hf hL hF
    obtain ⟨t2, a1, b1⟩ := kk r u t T'.heap (locs ++ L) e1.symm (by rw [← e2]; exact X'.warmed.alike) hp hb k1 k2 k3 T' rfl X'
    exact ⟨t2, st t2 a1, b1⟩
  · obtain ⟨k1, k2, k3⟩ := vx_keep h0 e1 hS hAX hf hL hF
    obtain ⟨t2, a1, b1⟩ := kx E ce q u t T'.heap (locs ++ L) e1.symm (by rw [← e2]; exact X'.warmed.alike) hp hb k1 k2 k3 (by rw [e1]; exact hce) hcv hcl T' rfl X'
    exact ⟨t2, st.trans a1, b1⟩
theorem vx_calld {S SX : Type} {post : UInt64 → S → Prop} {px : SX → Prop} {B : S → State → Prop} {BX : String → SX → State → Prop} {AX : Nat → Prop} (hr : vx_Run p l e R s m args below meth c H locs cells slots mc ms (F0 m pc ls st0) rest (va_Qd post B A1 a) (vx_X px BX AX) free) (hS : va_S A0 H0 H locs) (hA : ∀ q, q < H.size → A1 q → A0 q) (hf : ∀ q, free q → A0 q) (hAX : ∀ q, q < H.size → AX q → A0 q)
    (kx : ∀ (E : String) (ce : Cell) (q9 : Addr) (u : SX) (t : State) (H1 : Heap) (locs1 : List Loc), t.heap = H1 → s.vm.Alike t.vm → px u → BX E u t → H.size ≤ H1.size → (∀ q : Nat, q < H.size → ¬ AX q → H1[q]? = H[q]?) → va_S A0 H0 H1 locs1 → H1[q9]? = some ce → ce.vm = .none → s.vm.findClass E = some ce.cls → vx_W p l e R s m args below meth c H1 locs1 (cells + mc) (slots + ms) Q (F0 m pc ls rest) q9)
    (kk : ∀ (r : UInt64) (u : S) (t : State) (H1 : Heap) (locs1 : List Loc), t.heap = H1 → s.vm.Alike t.vm → post r u → B u t → H.size ≤ H1.size → (∀ q : Nat, q < H.size → ¬ A1 q → H1[q]? = H[q]?) → va_S A0 H0 H1 locs1 → W p l e R s m args below meth c H1 locs1 (cells + mc) (slots + ms) Q (F0 m (pc + 3) ls (.double r :: rest))) : W p l e R s m args below meth c H locs cells slots Q (F0 m pc ls st0) := by
  intro T hT X
  rcases hr T hT X with ⟨v, st₀, t, T', L, h0, X', hL, e1, e2, ⟨⟨r, u, hv, hp, hb⟩, hF⟩, st⟩ | ⟨q, st₀, t, T', L, E, ce, h0, X', hL, e1, e2, ⟨u, hp, hb, hF⟩, hce, hcv, hcl, st⟩
  · cases hv
    obtain ⟨k1, k2, k3⟩ := vx_keep h0 e1 hS hA hf hL hF
    obtain ⟨t2, a1, b1⟩ := kk r u t T'.heap (locs ++ L) e1.symm (by rw [← e2]; exact X'.warmed.alike) hp hb k1 k2 k3 T' rfl X'
    exact ⟨t2, st t2 a1, b1⟩
  · obtain ⟨k1, k2, k3⟩ := vx_keep h0 e1 hS hAX hf hL hF
    obtain ⟨t2, a1, b1⟩ := kx E ce q u t T'.heap (locs ++ L) e1.symm (by rw [← e2]; exact X'.warmed.alike) hp hb k1 k2 k3 (by rw [e1]; exact hce) hcv hcl T' rfl X'
    exact ⟨t2, st.trans a1, b1⟩
theorem vx_callv {S SX : Type} {post : S → Prop} {px : SX → Prop} {B : S → State → Prop} {BX : String → SX → State → Prop} {AX : Nat → Prop} (hr : vx_Run p l e R s m args below meth c H locs cells slots mc ms (F0 m pc ls st0) rest (va_Qv post B A1 a) (vx_X px BX AX) free) (hS : va_S A0 H0 H locs) (hA : ∀ q, q < H.size → A1 q → A0 q) (hf : ∀ q, free q → A0 q) (hAX : ∀ q, q < H.size → AX q → A0 q)
    (kx : ∀ (E : String) (ce : Cell) (q9 : Addr) (u : SX) (t : State) (H1 : Heap) (locs1 : List Loc), t.heap = H1 → s.vm.Alike t.vm → px u → BX E u t → H.size ≤ H1.size → (∀ q : Nat, q < H.size → ¬ AX q → H1[q]? = H[q]?) → va_S A0 H0 H1 locs1 → H1[q9]? = some ce → ce.vm = .none → s.vm.findClass E = some ce.cls → vx_W p l e R s m args below meth c H1 locs1 (cells + mc) (slots + ms) Q (F0 m pc ls rest) q9)
    (kk : ∀ (u : S) (t : State) (H1 : Heap) (locs1 : List Loc), t.heap = H1 → s.vm.Alike t.vm → post u → B u t → H.size ≤ H1.size → (∀ q : Nat, q < H.size → ¬ A1 q → H1[q]? = H[q]?) → va_S A0 H0 H1 locs1 → W p l e R s m args below meth c H1 locs1 (cells + mc) (slots + ms) Q (F0 m (pc + 3) ls (rest))) : W p l e R s m args below meth c H locs cells slots Q (F0 m pc ls st0) := by
  intro T hT X
  rcases hr T hT X with ⟨v, st₀, t, T', L, h0, X', hL, e1, e2, ⟨⟨u, hv, hp, hb⟩, hF⟩, st⟩ | ⟨q, st₀, t, T', L, E, ce, h0, X', hL, e1, e2, ⟨u, hp, hb, hF⟩, hce, hcv, hcl, st⟩
  · cases hv
    obtain ⟨k1, k2, k3⟩ := vx_keep h0 e1 hS hA hf hL hF
    obtain ⟨t2, a1, b1⟩ := kk u t T'.heap (locs ++ L) e1.symm (by rw [← e2]; exact X'.warmed.alike) hp hb k1 k2 k3 T' rfl X'
    exact ⟨t2, st t2 a1, b1⟩
  · obtain ⟨k1, k2, k3⟩ := vx_keep h0 e1 hS hAX hf hL hF
    obtain ⟨t2, a1, b1⟩ := kx E ce q u t T'.heap (locs ++ L) e1.symm (by rw [← e2]; exact X'.warmed.alike) hp hb k1 k2 k3 (by rw [e1]; exact hce) hcv hcl T' rfl X'
    exact ⟨t2, st.trans a1, b1⟩
/-- caught by the row x of this method's table; the rows ahead don't take it -/
theorem vx_catch {own name : String} {E : String} {ce : Cell} {q : Addr} (hown : s.vm.findClass own = some m.cls) (pre : List ExceptionTableEntry) (x : ExceptionTableEntry) (suf : List ExceptionTableEntry) (hsplit : c.exceptionTable.toList = pre ++ x :: suf)
    (hpass : ∀ z ∈ pre, covers z pc = false ∨ (z.catchType ≠ 0 ∧ ∃ nm : String, (Cond.classLink own z.catchType nm).before args s = true ∧ va_Nc E nm s)) (hx : covers x pc = true) (h0 : x.catchType ≠ 0)
    (hlink : (Cond.classLink own x.catchType name).before args s = true) (hcast : (Cond.castable E name).before args s = true) (hcell : H[q]? = some ce) (hv : ce.vm = .none) (hcl : s.vm.findClass E = some ce.cls)
    (kk : W p l e R s m args below meth c H locs cells slots Q (F0 m x.handlerPc ls [.ref q])) : vx_W p l e R s m args below meth c H locs cells slots Q (F0 m pc ls rest) q := by
  intro T hT X
  have hpl : e.platform.magicAccessors = ({} : Platform).magicAccessors := by rw [X.admits.platform]
  obtain ⟨c3, c4, hc3, hc4, hasg⟩ := Cond.castable_spec hcast
  cases Option.some.inj (hc3.symm.trans hcl)
  obtain ⟨c5, hc5, hcl5⟩ := Cond.classLink_spec hown hlink e.platform hpl
  cases Option.some.inj (hc4.symm.trans hc5)
  obtain ⟨vm', X', st⟩ := X.thenCaughtThrough q (g := F0 m pc ls rest) rfl (Steps.refl _) (by rw [hT]; exact hcell) (by rw [hv]; rfl) (by obtain ⟨k9, h9, -⟩ := Vm.findClass_spec hcl; exact ⟨k9, h9⟩) pre x suf hsplit
    (fun z hz => by
      rcases hpass z hz with h | ⟨hz0, nm, hl1, hn1⟩
      · exact Or.inl h
      · obtain ⟨c6, hc6, hcl6⟩ := Cond.classLink_spec hown hl1 e.platform hpl
        obtain ⟨a8, b8, h1, h2, h3⟩ := hn1
        cases Option.some.inj (h1.symm.trans hcl)
        cases Option.some.inj (h2.symm.trans hc6)
        exact Or.inr ⟨hz0, _, hcl6, h3⟩) hx (Or.inr ⟨h0, c4, hcl5, hasg⟩)
  obtain ⟨t, a1, b1⟩ := kk (T.setVm vm') hT X'
  exact ⟨t, st.trans a1, b1⟩
end Rows
section Ends
variable {p : Program} {l : Launch} {e : Env} {R : Room} {s : State} {m : MethodId} {args : Array Value} {below : List Frame} {meth : Method} {c : Code} {H : Heap} {locs : List Loc} {cells slots : Nat} {Q : State → Prop}
variable {mc ms : Nat} {free : Addr → Prop} {A0 A1 : Nat → Prop} {H0 : Heap} {a : Array Value} {ls : Array Slot} {st0 rest : List Value}
variable {Qc : Array Value → State → Outcome → State → Prop} {XC : String → State → State → Prop}
/-- what a body that may throw owes at its end -/
def vx_MQ (below : List Frame) (Qc : Array Value → State → Outcome → State → Prop) (XC : String → State → State → Prop) (a : Array Value) (s : State) (mc ms : Nat) (free : Addr → Prop) : State → Prop := fun t =>
  ∃ o, t.status = .running ∧ Ended t below o ∧ vx_Q Qc XC mc ms free a s o t
theorem vx_ret {g : JFrame} {mc ms : Nat} (k : W p l e R s m args below meth c H locs cells slots (MQ below Qc args s mc ms free) g) : W p l e R s m args below meth c H locs cells slots (vx_MQ below Qc XC args s mc ms free) g := by
  intro T hT X
  obtain ⟨t, a1, o, b1, b2, b3, b4⟩ := k T hT X
  exact ⟨t, a1, o, b1, b2, Or.inl ⟨b3, b4⟩⟩
/-- not caught here: it goes on to the caller -/
theorem vx_widen {g : JFrame} {q : Addr} {k n : Nat} (h1 : cells ≤ k) (h2 : slots ≤ n) (kk : vx_W p l e R s m args below meth c H locs k n Q g q) : vx_W p l e R s m args below meth c H locs cells slots Q g q := fun T hT X => kk T hT (stand_widen X h1 h2)
theorem vx_out {pc : Nat} {E : String} {ce : Cell} {q : Addr} {mc ms : Nat} (hout : ∀ x ∈ c.exceptionTable.toList, covers x pc = false) (hlocks : meth.locks = false) (hcell : H[q]? = some ce) (hv : ce.vm = .none) (hcl : s.vm.findClass E = some ce.cls)
    (hx : ∀ t : State, t.heap = H → s.vm.Alike t.vm → XC E s t) (hf : ∀ z ∈ locs, free z.base) (hc : cells ≤ mc) (hs : slots ≤ ms) :
    vx_W p l e R s m args below meth c H locs cells slots (vx_MQ below Qc XC args s mc ms free) (F0 m pc ls rest) q := by
  intro T hT X
  obtain ⟨st1, hrun, hend, hW, hsm⟩ := X.leaveThrown q (g := F0 m pc ls rest) rfl rfl rfl hout hlocks
  have hcell9 : (T.setFrames (.throwing q :: below)).heap[q]? = some ce := by
    show T.heap[q]? = some ce
    rw [hT]; exact hcell
  exact ⟨_, st1, .threw q, hrun, hend, Or.inr ⟨q, rfl, E, ce, locs, hx _ hT hW.alike, hcell9, hv, hcl, hW, hsm.mono hc hs, hf⟩⟩
theorem vx_frame {U : State} {k n : Nat} (h : s.sameButNew ({ U with vm := s.vm } : State) locs k n) : s.heap.size ≤ U.heap.size ∧ ∀ q : Nat, q < s.heap.size → (∀ z ∈ locs, z.base ≠ q) → U.heap[q]? = s.heap[q]? := by
  obtain ⟨-, h2, -, -, -, h6⟩ := h
  refine ⟨h2, fun q hq hz => ?_⟩
  obtain ⟨c9, e1, e2, e3, e4⟩ := h6 q _ (Array.getElem?_eq_getElem hq)
  have hs : c9.slots = (s.heap[q]).slots := Array.ext_getElem? fun i => e4 i fun hm => hz _ hm rfl
  have h9 : c9 = s.heap[q] := by
    rw [hs] at e2
    exact e2
  have e5 : U.heap[q]? = some c9 := e1
  rw [e5, h9, Array.getElem?_eq_getElem hq]
/-- the words of a throw but the four that speak of the heap -/
def vx_no (w : Cond) : Bool := decide (w ≠ .isRef (.static Bundle.tN "UNASSIGNED_STACK" Bundle.steD)) && decide (w ≠ .isRef (.static Bundle.tN "SUPPRESSED_SENTINEL" Bundle.listD)) && decide (w ≠ .laysStatic Bundle.tN "UNASSIGNED_STACK" Bundle.steD) && decide (w ≠ .laysStatic Bundle.tN "SUPPRESSED_SENTINEL" Bundle.listD)
def vx_at0 (own : String) (ic : Nat) (X : String) (names : List String) : List Cond := (Bundle.ownAtoms0 own ic X names).filter vx_no
def vx_atS (own : String) (ic : Nat) (X : String) (names : List String) : List Cond := (Bundle.ownAtoms own ic X names).filter vx_no
/-- a word that the tables alone decide, or a good one -/
def vx_ot (w : Cond) : Bool := w.onTables || goodWord w
theorem vx_ot_at {args a' : Array Value} {s U : State} {w : Cond} (hW : s.WarmedH U.vm) (hvm : s.vm = U.vm) (hg : vx_ot w = true) (h : w.before args s = true) : w.before a' U = true := by
  simp only [vx_ot, Bool.or_eq_true] at hg
  rcases hg with hg | hg
  · exact va_tabs hg hvm h
  · exact word_at hW (good_of_word hg) h
/-- a list's words: the good ones out of the method's own list, the others by premises of their own -/
theorem vx_hat {args : Array Value} {s : State} {L B : List Cond} (h1 : ∀ w ∈ L.filter goodWord, w.before args s = true) (h2 : ∀ w ∈ L.filter (fun w => !goodWord w), w ∈ B) (h3 : ∀ w ∈ B, w.before args s = true) : ∀ w ∈ L, w.before args s = true := by
  intro w hw
  by_cases g : goodWord w = true
  · exact h1 w (List.mem_filter.mpr ⟨hw, g⟩)
  · refine h3 w (h2 w (List.mem_filter.mpr ⟨hw, ?_⟩))
    show (!goodWord w) = true
    cases hgw : goodWord w
    · rfl
    · exact absurd hgw g
theorem vx_c {args : Array Value} {s : State} {w : Cond} {B : List Cond} (h : w.before args s = true) (t : ∀ w ∈ B, w.before args s = true) : ∀ w' ∈ w :: B, w'.before args s = true := fun w' h' => (List.mem_cons.mp h').elim (fun e => by rw [e]; exact h) (t w')
theorem vx_n {args : Array Value} {s : State} : ∀ w ∈ ([] : List Cond), w.before args s = true := fun _ h => nomatch h
theorem vx_own {args : Array Value} {s : State} {L : List Cond} (h1 : ∀ w ∈ L.filter vx_no, w.before args s = true)
    (hU : (Cond.isRef (.static Bundle.tN "UNASSIGNED_STACK" Bundle.steD)).before args s = true) (hN : (Cond.isRef (.static Bundle.tN "SUPPRESSED_SENTINEL" Bundle.listD)).before args s = true)
    (lU : (Cond.laysStatic Bundle.tN "UNASSIGNED_STACK" Bundle.steD).before args s = true) (lN : (Cond.laysStatic Bundle.tN "SUPPRESSED_SENTINEL" Bundle.listD).before args s = true) : ∀ w ∈ L, w.before args s = true := by
  intro w hw
  by_cases e1 : w = .isRef (.static Bundle.tN "UNASSIGNED_STACK" Bundle.steD)
  · rw [e1]; exact hU
  · by_cases e2 : w = .isRef (.static Bundle.tN "SUPPRESSED_SENTINEL" Bundle.listD)
    · rw [e2]; exact hN
    · by_cases e3 : w = .laysStatic Bundle.tN "UNASSIGNED_STACK" Bundle.steD
      · rw [e3]; exact lU
      · by_cases e4 : w = .laysStatic Bundle.tN "SUPPRESSED_SENTINEL" Bundle.listD
        · rw [e4]; exact lN
        · exact h1 w (List.mem_filter.mpr ⟨hw, by unfold vx_no; rw [decide_eq_true e1, decide_eq_true e2, decide_eq_true e3, decide_eq_true e4]; rfl⟩)
/-- where a static field lies, its class's statics cell in H -/
def vx_L (C n d : String) (A : Nat → Prop) (U : State) (H : Heap) : Prop := ∃ (c : ClassId) (k : Class) (i : Nat) (f : Field) (a : Nat) (cell : Cell), U.vm.findClass C = some c ∧ U.fieldFound? C n d = some (c, k, i, f) ∧ f.isStatic = true ∧ k.statics = some a ∧ H[a]? = some cell ∧ cell.vm.isStatics = true ∧ cell.cls = c ∧ f.slot < cell.slots.size ∧ k.staticTypes[f.slot]? = some f.type ∧ ¬ A a
theorem vx_L.moved {C n d : String} {A : Nat → Prop} {u U : State} {H : Heap} (hvm : u.vm.Alike U.vm) (h : vx_L C n d A u H) : vx_L C n d A U H := by
  obtain ⟨c, k, i, f, a, cell, h1, h2, h3, h4, h5, h6, h7, h8, h9, h10⟩ := h
  obtain ⟨k', hi', he⟩ := State.fieldFound?_setVm hvm h2
  exact ⟨c, k', i, f, a, cell, by rw [hvm.findClass]; exact h1, hi', h3, by rw [he]; exact h4, h5, h6, h7, h8, by rw [he]; exact h9, h10⟩
theorem vx_L.kept {C n d : String} {A : Nat → Prop} {U : State} {H H1 : Heap} (h : vx_L C n d A U H) (hq : ∀ a : Nat, a < H.size → ¬ A a → H1[a]? = H[a]?) : vx_L C n d A U H1 := by
  obtain ⟨c, k, i, f, a, cell, h1, h2, h3, h4, h5, h6, h7, h8, h9, h10⟩ := h
  exact ⟨c, k, i, f, a, cell, h1, h2, h3, h4, by rw [hq a (Array.getElem?_eq_some_iff.mp h5).1 h10]; exact h5, h6, h7, h8, h9, h10⟩
theorem vx_L.narrow {C n d : String} {A B : Nat → Prop} {U : State} {H : Heap} (h : vx_L C n d A U H) (hAB : ∀ q, B q → A q) : vx_L C n d B U H := by
  obtain ⟨c, k, i, f, a, cell, h1, h2, h3, h4, h5, h6, h7, h8, h9, h10⟩ := h
  exact ⟨c, k, i, f, a, cell, h1, h2, h3, h4, h5, h6, h7, h8, h9, fun z => h10 (hAB _ z)⟩
theorem vx_L.word {C n d : String} {A : Nat → Prop} {s : State} {args : Array Value} (h : vx_L C n d A s s.heap) : (Cond.laysStatic C n d).before args s = true := by
  obtain ⟨c, k, i, f, a, cell, h1, h2, h3, h4, h5, h6, h7, h8, h9, -⟩ := h
  show (Cond.laysStatic C n d).holds args s none s [] = true
  exact Cond.laysStatic_of h1 h2 h3 h4 h5 h6 h7 h8 h9
/-- .. and what it holds: null or some reference -/
def vx_Zq (C n d : String) (A : Nat → Prop) (U : State) (H : Heap) : Prop := va_Zq C n d A U H ∧ vx_L C n d A U H
theorem vx_Zq.moved {C n d : String} {A : Nat → Prop} {u U : State} {H : Heap} (hvm : u.vm.Alike U.vm) (h : vx_Zq C n d A u H) : vx_Zq C n d A U H := ⟨va_Zq.moved hvm h.1, vx_L.moved hvm h.2⟩
theorem vx_Zq.kept {C n d : String} {A : Nat → Prop} {U : State} {H H1 : Heap} (h : vx_Zq C n d A U H) (hq : ∀ a : Nat, a < H.size → ¬ A a → H1[a]? = H[a]?) : vx_Zq C n d A U H1 := ⟨va_Zq.kept h.1 hq, vx_L.kept h.2 hq⟩
theorem vx_Zq.narrow {C n d : String} {A B : Nat → Prop} {U : State} {H : Heap} (h : vx_Zq C n d A U H) (hAB : ∀ q, B q → A q) : vx_Zq C n d B U H := ⟨va_Zq.narrow h.1 hAB, vx_L.narrow h.2 hAB⟩
theorem vx_Zqof {args : Array Value} {s : State} {C n d : String} {A : Nat → Prop} (hl : (Cond.laysStatic C n d).before args s = true) (hini : (Cond.initialized C).before args s = true) (h : (Cond.isRef (.static C n d)).before args s = true) (hA : ∀ a : Nat, a < s.heap.size → ¬ A a) : vx_Zq C n d A s s.heap := by
  refine ⟨va_Zqof hl hini h hA, ?_⟩
  obtain ⟨c, k, i, f, a, cell, h1, h2, h3, h4, h5, h6, h7, h8, h9⟩ := Cond.laysStatic_spec hl
  exact ⟨c, k, i, f, a, cell, h1, h2, h3, h4, h5, h6, h7, h8, h9, hA a (Array.getElem?_eq_some_iff.mp h5).1⟩
theorem vx_isRef {C n d : String} {v : Value} {A : Nat → Prop} {s : State} {args : Array Value} (h : va_Z C n d v A s s.heap) (hv : v.isRef = true) : (Cond.isRef (.static C n d)).before args s = true := by
  obtain ⟨cf, kf, fi, f, a, cell, h1, h2, h3, h4, h5, h6, h7, -⟩ := h
  have he : (Term.static C n d).eval args s none [] s = some v := by
    simp [Term.eval, State.fieldNamed?, h1, h2, h4, h5, h6, h7]
  simp only [Cond.before, Cond.holds, Cond.value, he]
  cases v <;> simp_all [Value.isRef]
theorem vx_isRefq {C n d : String} {A : Nat → Prop} {s : State} {args : Array Value} (h : va_Zq C n d A s s.heap) : (Cond.isRef (.static C n d)).before args s = true := by
  rcases h with h | ⟨t, h⟩
  · exact vx_isRef h rfl
  · exact vx_isRef h rfl
/-- the same frame, seen from here: as if the method were called anew in this heap -/
theorem vx_rebase {T : State} (X : Stand p l e R s m args below meth c T locs cells slots) {R' : Room} (hf : R'.frames ≤ R.frames) (hl : R'.locals ≤ R.locals) (hc : cells + R'.cells ≤ R.cells) (hs : slots + R'.slots ≤ R.slots) :
    Stand p l e R' ((T.setVm s.vm).setFrames (.invoking m args :: below)) m args below meth c T [] 0 0 := by
  have htop : (T.setVm s.vm).topJava?.isSome := X.here.top
  have hF : ((T.setVm s.vm).setFrames (.invoking m args :: below)).frames = .invoking m args :: below := State.frames_setFrames _ (State.cur_lt_of_top htop)
  obtain ⟨g₀, hg0⟩ := Option.isSome_iff_exists.mp htop
  obtain ⟨r, hr⟩ := State.topJava?_eq_some.mp hg0
  have hl9 : e.platform.stackLimits (T.setVm s.vm).me = e.platform.stackLimits s.me := X.limits
  have hb9 : (T.setVm s.vm).me.stackBytes = s.me.stackBytes := X.bytes
  refine ⟨X.admits, X.cas, X.clock, hF, ?_, X.hears, X.method, X.code, X.here, X.tail, X.warmed, ?_, ?_, ?_⟩
  · have h := X.room
    have hU : ((T.setVm s.vm).setFrames (.invoking m args :: below)).localsInUse = s.localsInUse := by
      rw [State.localsInUse_invoking hF (meth := meth) (c := c) X.method X.code, State.localsInUse_invoking X.frames X.method X.code]
    simp only [State.hasRoom, Bool.and_eq_true, decide_eq_true_eq] at h ⊢
    obtain ⟨⟨⟨⟨h1, h2, h3, h4, h5, h6⟩, h7⟩, h8⟩, h9⟩ := h
    rw [X.frames, List.length_cons] at h2 h3
    have q1 := X.heapSize
    have q2 := X.used
    simp only [hF, hU, List.length_cons, State.stackLimits_setFrames, State.stackBytes_setFrames, hl9, hb9]
    refine ⟨⟨⟨⟨by omega, by omega, by omega, by omega, by omega, h6⟩, ?_⟩, ?_⟩, X.book⟩
    · show T.heap.size + R'.cells ≤ e.platform.maxCells
      omega
    · show T.slotsUsed + R'.slots ≤ e.platform.maxSlots
      omega
  · rw [State.stackLimits_setFrames]; rfl
  · rw [State.stackBytes_setFrames]; rfl
  · refine ⟨?_, Nat.le_refl _, Nat.le_refl _, ?_, ?_, fun a c9 h9 => ⟨c9, h9, rfl, rfl, fun _ _ => rfl⟩⟩
    · obtain ⟨t, ht, -⟩ := State.frames_cons hr
      show T.setVm s.vm = { ((T.setVm s.vm).setFrames (.invoking m args :: below)).setFrames (T.setVm s.vm).frames with heap := T.heap, slotsUsed := T.slotsUsed }
      rw [State.setFrames_setFrames, State.setFrames_self ht]
      rfl
    · show T.slotsUsed = T.slotsUsed + ((T.heap.toList.drop T.heap.size).map (·.slots.size)).sum
      rw [List.drop_eq_nil_of_le (Nat.le_of_eq Array.length_toList)]
      rfl
    · show ((T.heap.toList.drop T.heap.size).map (·.slots.size)).sum ≤ 0
      rw [List.drop_eq_nil_of_le (Nat.le_of_eq Array.length_toList)]
      exact Nat.le_refl _
/-- 'throw new E()': new; dup; invokespecial; athrow -/
theorem vx_throw0 {cc : ByteArray} {pc : Nat} (hexec : p.tables.exec = Jvm.exec) (hb : c.code = cc) (hl : l.stackTraces = false) {own cls : String} {names : List String} {ik ic mc ms : Nat} {A : Nat → Prop}
    (hown : s.vm.findClass own = some m.cls) (hcls : Bundle.fit cls = true) (hnames : ∀ n ∈ names, Bundle.fit n = true)
    (hk : (Cond.classLink own ik cls).before args s = true) (hini : (Cond.initialized cls).before args s = true) (hat : ∀ w ∈ vx_at0 own ic cls names, w.before args s = true)
    (hgood : ∀ w ∈ Cond.classLink own ik cls :: Cond.initialized cls :: vx_at0 own ic cls names, vx_ot w = true)
    (hU : vx_Zq Bundle.tN "UNASSIGNED_STACK" Bundle.steD A s s.heap) (hN : vx_Zq Bundle.tN "SUPPRESSED_SENTINEL" Bundle.listD A s s.heap) (hS : va_S A s.heap H locs) (hsize : ls.size = c.maxLocals)
    (d0 : decode cc pc = .ok (.new ik, 3)) (d3 : decode cc (pc + 3) = .ok (.dup, 1)) (d4 : decode cc (pc + 4) = .ok (.invokespecial ic, 3)) (d7 : decode cc (pc + 7) = .ok (.athrow, 1))
    (hout : ∀ x ∈ c.exceptionTable.toList, covers x (pc + 7) = false)
    (hRframes : names.length + 3 < R.frames) (hRlocals : (rest.map fun v => v.category).sum + (13 * (names.length + 1) + 42) ≤ R.locals) (hRcells : cells + 1 ≤ R.cells) (hRslots : slots + 6 ≤ R.slots) (hlocks : meth.locks = false)
    (hx : ∀ t : State, s.vm.Alike t.vm → H.size ≤ t.heap.size → (∀ q : Nat, q < H.size → t.heap[q]? = H[q]?) → XC cls s t)
    (hf : ∀ z ∈ locs, free z.base) (hc : cells + 1 ≤ mc) (hs : slots + 6 ≤ ms) :
    W p l e R s m args below meth c H locs cells slots (vx_MQ below Qc XC args s mc ms free) (F0 m pc ls rest) := by
  intro T hT X
  have htr : e.platform.stackTraces = false := (show e.platform.stackTraces = l.stackTraces by rw [X.admits.platform]).trans hl
  have Y := vx_rebase X (R' := { frames := R.frames, locals := R.locals, cells := 1, slots := 6 }) (Nat.le_refl _) (Nat.le_refl _) hRcells hRslots
  obtain ⟨s', hA⟩ : ∃ z, z = (T.setVm s.vm).setFrames (.invoking m args :: below) := ⟨_, rfl⟩
  rw [← hA] at Y
  have hvm : s'.vm = s.vm := by rw [hA]; rfl
  have hhp : s'.heap = H := by rw [hA]; exact hT
  have hW0 : s.WarmedH s'.vm := by rw [hvm]; exact State.WarmedH.refl s
  have hat' : ∀ w ∈ vx_at0 own ic cls names, w.before args s' = true := fun w hw => vx_ot_at hW0 hvm.symm (hgood w (List.mem_cons_of_mem _ (List.mem_cons_of_mem _ hw))) (hat w hw)
  have hk' : (Cond.classLink own ik cls).before args s' = true := vx_ot_at hW0 hvm.symm (hgood _ List.mem_cons_self) hk
  have hini' : (Cond.initialized cls).before args s' = true := vx_ot_at hW0 hvm.symm (hgood _ (List.mem_cons_of_mem _ List.mem_cons_self)) hini
  have hU' : vx_Zq Bundle.tN "UNASSIGNED_STACK" Bundle.steD A s' s'.heap := by rw [hhp]; exact vx_Zq.moved hW0.alike (hU.kept hS.2.1)
  have hN' : vx_Zq Bundle.tN "SUPPRESSED_SENTINEL" Bundle.listD A s' s'.heap := by rw [hhp]; exact vx_Zq.moved hW0.alike (hN.kept hS.2.1)
  have h : ∀ w ∈ Bundle.ownAtoms0 own ic cls names, w.before args s' = true := vx_own hat' (vx_isRefq hU'.1) (vx_isRefq hN'.1) hU'.2.word hN'.2.word
  have hown' : s'.vm.findClass own = some m.cls := by rw [hvm]; exact hown
  have hins : (Cond.instantiable cls 6).before args s' = true := h _ (by simp [Bundle.ownAtoms0])
  obtain ⟨vm₁, cX, kX, hfX, hkX, -, -, X₁, st1⟩ := Y.newCold hexec (own := own) (C := cls) (index := ik) (n := 6) hown' hk' hins hini'
    (g := F0 m pc ls rest) rfl (by rw [hb]; exact d0) (Nat.le_refl _) (Nat.le_refl _)
  generalize hT1 : (T.setVm vm₁).pushCell { cls := cX, slots := kX.instanceTypes.map defaultValue, vm := .none } = T1 at X₁ st1
  have hcat : (Value.ref T.heap.size).category = 1 := rfl
  have hcellA : T1.heap[T.heap.size]? = some (freshCell cX kX) := by rw [← hT1]; exact State.heap_pushCell_size _ _
  have d3' : decode c.code (pc + 3) = .ok (.dup, 1) := by rw [hb]; exact d3
  obtain ⟨U, hsteps, hrun, hend, hW, hsame, ce, hce, hO⟩ := X₁.ctorThrow0 hexec htr (own := own) (cls := cls) (names := names) (ic := ic) hown' hcls hnames h (fun x hx => nomatch hx) hfX hkX hcellA (by rw [hhp, hT]; exact Nat.le_refl _)
    (g := { method := m, pc := pc + 4, locals := ls, stack := .ref T.heap.size :: .ref T.heap.size :: rest, locked := none }) rfl hsize rfl rfl (rest := rest) rfl
    (by rw [hb]; exact d4) (by rw [hb]; exact d7) hout hRframes (by simp only [List.map_cons, List.sum_cons, hcat]; omega) hlocks
  obtain ⟨f1, f2⟩ := vx_frame hsame
  rw [hhp] at f1 f2
  have hWs : s.WarmedH U.vm := State.WarmedH.trans hW0 hW
  have hcl : s.vm.findClass cls = some ce.cls := by
    have h9 := hO.cls
    rw [hvm] at h9
    exact h9
  have hall : s.sameButNew ({ U with vm := s.vm } : State) locs mc ms := by
    subst hA
    obtain ⟨e1, e2⟩ := hsame
    rw [State.setFrames_setFrames] at e1
    have h2 : (T.setVm s.vm).sameButNew ({ U with vm := s.vm } : State) [] (0 + 1) (0 + 6) := ⟨e1, e2⟩
    have h3 := X.same.trans h2
    rw [List.append_nil] at h3
    exact h3.mono hc hs
  refine ⟨U, ?_, .threw T.heap.size, hrun, hend, Or.inr ⟨T.heap.size, rfl, cls, ce, locs, hx U hWs.alike f1 (fun q hq => f2 q hq (fun z hz => nomatch hz)), hce, hO.vm, hcl, hWs, hall, hf⟩⟩
  refine st1 _ ?_
  show Steps p.tables e below (T1.setTop { method := m, pc := pc + 3, locals := ls, stack := .ref T.heap.size :: rest, locked := none }) _
  jvm_step X₁.here [X₁.here.top, hexec, d3', Value.category]
  exact hsteps
/-- 'throw new E("text")': new; dup; ldc; invokespecial; athrow -/
theorem vx_throwS {cc : ByteArray} {pc : Nat} (hexec : p.tables.exec = Jvm.exec) (hb : c.code = cc) (hl : l.stackTraces = false) {own cls text : String} {names : List String} {ik is ic mc ms sa : Nat} {A : Nat → Prop}
    (hown : s.vm.findClass own = some m.cls) (hcls : Bundle.fit cls = true) (hnames : ∀ n ∈ names, Bundle.fit n = true)
    (hk : (Cond.classLink own ik cls).before args s = true) (hini : (Cond.initialized cls).before args s = true) (hstr : vk_R own is text sa s) (hat : ∀ w ∈ vx_atS own ic cls names, w.before args s = true)
    (hgood : ∀ w ∈ Cond.classLink own ik cls :: Cond.initialized cls :: vx_atS own ic cls names, vx_ot w = true)
    (hU : vx_Zq Bundle.tN "UNASSIGNED_STACK" Bundle.steD A s s.heap) (hN : vx_Zq Bundle.tN "SUPPRESSED_SENTINEL" Bundle.listD A s s.heap) (hS : va_S A s.heap H locs) (hsize : ls.size = c.maxLocals)
    (d0 : decode cc pc = .ok (.new ik, 3)) (d3 : decode cc (pc + 3) = .ok (.dup, 1)) (d4 : decode cc (pc + 4) = .ok (.ldc is, 2)) (d6 : decode cc (pc + 6) = .ok (.invokespecial ic, 3)) (d9 : decode cc (pc + 9) = .ok (.athrow, 1))
    (hout : ∀ x ∈ c.exceptionTable.toList, covers x (pc + 9) = false)
    (hRframes : names.length + 3 < R.frames) (hRlocals : (rest.map fun v => v.category).sum + (13 * (names.length + 1) + 43) ≤ R.locals) (hRcells : cells + 1 ≤ R.cells) (hRslots : slots + 6 ≤ R.slots) (hlocks : meth.locks = false)
    (hx : ∀ t : State, s.vm.Alike t.vm → H.size ≤ t.heap.size → (∀ q : Nat, q < H.size → t.heap[q]? = H[q]?) → XC cls s t)
    (hf : ∀ z ∈ locs, free z.base) (hc : cells + 1 ≤ mc) (hs : slots + 6 ≤ ms) :
    W p l e R s m args below meth c H locs cells slots (vx_MQ below Qc XC args s mc ms free) (F0 m pc ls rest) := by
  intro T hT X
  have htr : e.platform.stackTraces = false := (show e.platform.stackTraces = l.stackTraces by rw [X.admits.platform]).trans hl
  have Y := vx_rebase X (R' := { frames := R.frames, locals := R.locals, cells := 1, slots := 6 }) (Nat.le_refl _) (Nat.le_refl _) hRcells hRslots
  obtain ⟨s', hA⟩ : ∃ z, z = (T.setVm s.vm).setFrames (.invoking m args :: below) := ⟨_, rfl⟩
  rw [← hA] at Y
  have hvm : s'.vm = s.vm := by rw [hA]; rfl
  have hhp : s'.heap = H := by rw [hA]; exact hT
  have hW0 : s.WarmedH s'.vm := by rw [hvm]; exact State.WarmedH.refl s
  have hat' : ∀ w ∈ vx_atS own ic cls names, w.before args s' = true := fun w hw => vx_ot_at hW0 hvm.symm (hgood w (List.mem_cons_of_mem _ (List.mem_cons_of_mem _ hw))) (hat w hw)
  have hk' : (Cond.classLink own ik cls).before args s' = true := vx_ot_at hW0 hvm.symm (hgood _ List.mem_cons_self) hk
  have hini' : (Cond.initialized cls).before args s' = true := vx_ot_at hW0 hvm.symm (hgood _ (List.mem_cons_of_mem _ List.mem_cons_self)) hini
  have hU' : vx_Zq Bundle.tN "UNASSIGNED_STACK" Bundle.steD A s' s'.heap := by rw [hhp]; exact vx_Zq.moved hW0.alike (hU.kept hS.2.1)
  have hN' : vx_Zq Bundle.tN "SUPPRESSED_SENTINEL" Bundle.listD A s' s'.heap := by rw [hhp]; exact vx_Zq.moved hW0.alike (hN.kept hS.2.1)
  have h : ∀ w ∈ Bundle.ownAtoms own ic cls names, w.before args s' = true := vx_own hat' (vx_isRefq hU'.1) (vx_isRefq hN'.1) hU'.2.word hN'.2.word
  have hown' : s'.vm.findClass own = some m.cls := by rw [hvm]; exact hown
  have hins : (Cond.instantiable cls 6).before args s' = true := h _ (by simp [Bundle.ownAtoms])
  obtain ⟨vm₁, cX, kX, hfX, hkX, -, -, X₁, st1⟩ := Y.newCold hexec (own := own) (C := cls) (index := ik) (n := 6) hown' hk' hins hini'
    (g := F0 m pc ls rest) rfl (by rw [hb]; exact d0) (Nat.le_refl _) (Nat.le_refl _)
  generalize hT1 : (T.setVm vm₁).pushCell { cls := cX, slots := kX.instanceTypes.map defaultValue, vm := .none } = T1 at X₁ st1
  have hcat : (Value.ref T.heap.size).category = 1 := rfl
  have hcellA : T1.heap[T.heap.size]? = some (freshCell cX kX) := by rw [← hT1]; exact State.heap_pushCell_size _ _
  have d3' : decode c.code (pc + 3) = .ok (.dup, 1) := by rw [hb]; exact d3
  have d4' : decode c.code (pc + 4) = .ok (.ldc is, 2) := by rw [hb]; exact d4
  have hstr' : vk_R own is text sa s' := vk_R.warm hW0 hstr
  obtain ⟨U, hsteps, hrun, hend, hW, hsame, ce, hce, hO⟩ := X₁.ctorThrowS hexec htr (own := own) (cls := cls) (names := names) (ic := ic) hown' hcls hnames h (fun x hx => nomatch hx) hfX hkX hcellA (by rw [hhp, hT]; exact Nat.le_refl _) (msg := .ref sa) rfl
    (g := { method := m, pc := pc + 6, locals := ls, stack := .ref sa :: .ref T.heap.size :: .ref T.heap.size :: rest, locked := none }) rfl hsize rfl rfl (rest := rest) rfl
    (by rw [hb]; exact d6) (by rw [hb]; exact d9) hout hRframes (by simp only [List.map_cons, List.sum_cons, hcat]; omega) hlocks
  obtain ⟨f1, f2⟩ := vx_frame hsame
  rw [hhp] at f1 f2
  have hWs : s.WarmedH U.vm := State.WarmedH.trans hW0 hW
  have hcl : s.vm.findClass cls = some ce.cls := by
    have h9 := hO.cls
    rw [hvm] at h9
    exact h9
  have hall : s.sameButNew ({ U with vm := s.vm } : State) locs mc ms := by
    subst hA
    obtain ⟨e1, e2⟩ := hsame
    rw [State.setFrames_setFrames] at e1
    have h2 : (T.setVm s.vm).sameButNew ({ U with vm := s.vm } : State) [] (0 + 1) (0 + 6) := ⟨e1, e2⟩
    have h3 := X.same.trans h2
    rw [List.append_nil] at h3
    exact h3.mono hc hs
  refine ⟨U, ?_, .threw T.heap.size, hrun, hend, Or.inr ⟨T.heap.size, rfl, cls, ce, locs, hx U hWs.alike f1 (fun q hq => f2 q hq (fun z hz => nomatch hz)), hce, hO.vm, hcl, hWs, hall, hf⟩⟩
  refine st1 _ ?_
  show Steps p.tables e below (T1.setTop { method := m, pc := pc + 3, locals := ls, stack := .ref T.heap.size :: rest, locked := none }) _
  jvm_step X₁.here [X₁.here.top, hexec, d3', Value.category]
  exact X₁.ldcString hexec (own := own) (text := text) (index := is) (a := sa) hown' hstr'.1 hstr'.2
    (g := { method := m, pc := pc + 4, locals := ls, stack := .ref T.heap.size :: .ref T.heap.size :: rest, locked := none }) rfl d4' _ hsteps
/-- 'throw new E("text")', the text by a wide index -/
theorem vx_throwSW {cc : ByteArray} {pc : Nat} (hexec : p.tables.exec = Jvm.exec) (hb : c.code = cc) (hl : l.stackTraces = false) {own cls text : String} {names : List String} {ik is ic mc ms sa : Nat} {A : Nat → Prop}
    (hown : s.vm.findClass own = some m.cls) (hcls : Bundle.fit cls = true) (hnames : ∀ n ∈ names, Bundle.fit n = true)
    (hk : (Cond.classLink own ik cls).before args s = true) (hini : (Cond.initialized cls).before args s = true) (hstr : vk_R own is text sa s) (hat : ∀ w ∈ vx_atS own ic cls names, w.before args s = true)
    (hgood : ∀ w ∈ Cond.classLink own ik cls :: Cond.initialized cls :: vx_atS own ic cls names, vx_ot w = true)
    (hU : vx_Zq Bundle.tN "UNASSIGNED_STACK" Bundle.steD A s s.heap) (hN : vx_Zq Bundle.tN "SUPPRESSED_SENTINEL" Bundle.listD A s s.heap) (hS : va_S A s.heap H locs) (hsize : ls.size = c.maxLocals)
    (d0 : decode cc pc = .ok (.new ik, 3)) (d3 : decode cc (pc + 3) = .ok (.dup, 1)) (d4 : decode cc (pc + 4) = .ok (.ldc_w is, 3)) (d7 : decode cc (pc + 7) = .ok (.invokespecial ic, 3)) (d10 : decode cc (pc + 10) = .ok (.athrow, 1))
    (hout : ∀ x ∈ c.exceptionTable.toList, covers x (pc + 10) = false)
    (hRframes : names.length + 3 < R.frames) (hRlocals : (rest.map fun v => v.category).sum + (13 * (names.length + 1) + 43) ≤ R.locals) (hRcells : cells + 1 ≤ R.cells) (hRslots : slots + 6 ≤ R.slots) (hlocks : meth.locks = false)
    (hx : ∀ t : State, s.vm.Alike t.vm → H.size ≤ t.heap.size → (∀ q : Nat, q < H.size → t.heap[q]? = H[q]?) → XC cls s t)
    (hf : ∀ z ∈ locs, free z.base) (hc : cells + 1 ≤ mc) (hs : slots + 6 ≤ ms) :
    W p l e R s m args below meth c H locs cells slots (vx_MQ below Qc XC args s mc ms free) (F0 m pc ls rest) := by
  intro T hT X
  have htr : e.platform.stackTraces = false := (show e.platform.stackTraces = l.stackTraces by rw [X.admits.platform]).trans hl
  have Y := vx_rebase X (R' := { frames := R.frames, locals := R.locals, cells := 1, slots := 6 }) (Nat.le_refl _) (Nat.le_refl _) hRcells hRslots
  obtain ⟨s', hA⟩ : ∃ z, z = (T.setVm s.vm).setFrames (.invoking m args :: below) := ⟨_, rfl⟩
  rw [← hA] at Y
  have hvm : s'.vm = s.vm := by rw [hA]; rfl
  have hhp : s'.heap = H := by rw [hA]; exact hT
  have hW0 : s.WarmedH s'.vm := by rw [hvm]; exact State.WarmedH.refl s
  have hat' : ∀ w ∈ vx_atS own ic cls names, w.before args s' = true := fun w hw => vx_ot_at hW0 hvm.symm (hgood w (List.mem_cons_of_mem _ (List.mem_cons_of_mem _ hw))) (hat w hw)
  have hk' : (Cond.classLink own ik cls).before args s' = true := vx_ot_at hW0 hvm.symm (hgood _ List.mem_cons_self) hk
  have hini' : (Cond.initialized cls).before args s' = true := vx_ot_at hW0 hvm.symm (hgood _ (List.mem_cons_of_mem _ List.mem_cons_self)) hini
  have hU' : vx_Zq Bundle.tN "UNASSIGNED_STACK" Bundle.steD A s' s'.heap := by rw [hhp]; exact vx_Zq.moved hW0.alike (hU.kept hS.2.1)
  have hN' : vx_Zq Bundle.tN "SUPPRESSED_SENTINEL" Bundle.listD A s' s'.heap := by rw [hhp]; exact vx_Zq.moved hW0.alike (hN.kept hS.2.1)
  have h : ∀ w ∈ Bundle.ownAtoms own ic cls names, w.before args s' = true := vx_own hat' (vx_isRefq hU'.1) (vx_isRefq hN'.1) hU'.2.word hN'.2.word
  have hown' : s'.vm.findClass own = some m.cls := by rw [hvm]; exact hown
  have hins : (Cond.instantiable cls 6).before args s' = true := h _ (by simp [Bundle.ownAtoms])
  obtain ⟨vm₁, cX, kX, hfX, hkX, -, -, X₁, st1⟩ := Y.newCold hexec (own := own) (C := cls) (index := ik) (n := 6) hown' hk' hins hini'
    (g := F0 m pc ls rest) rfl (by rw [hb]; exact d0) (Nat.le_refl _) (Nat.le_refl _)
  generalize hT1 : (T.setVm vm₁).pushCell { cls := cX, slots := kX.instanceTypes.map defaultValue, vm := .none } = T1 at X₁ st1
  have hcat : (Value.ref T.heap.size).category = 1 := rfl
  have hcellA : T1.heap[T.heap.size]? = some (freshCell cX kX) := by rw [← hT1]; exact State.heap_pushCell_size _ _
  have d3' : decode c.code (pc + 3) = .ok (.dup, 1) := by rw [hb]; exact d3
  have d4' : decode c.code (pc + 4) = .ok (.ldc_w is, 3) := by rw [hb]; exact d4
  have hstr' : vk_R own is text sa s' := vk_R.warm hW0 hstr
  obtain ⟨U, hsteps, hrun, hend, hW, hsame, ce, hce, hO⟩ := X₁.ctorThrowS hexec htr (own := own) (cls := cls) (names := names) (ic := ic) hown' hcls hnames h (fun x hx => nomatch hx) hfX hkX hcellA (by rw [hhp, hT]; exact Nat.le_refl _) (msg := .ref sa) rfl
    (g := { method := m, pc := pc + 7, locals := ls, stack := .ref sa :: .ref T.heap.size :: .ref T.heap.size :: rest, locked := none }) rfl hsize rfl rfl (rest := rest) rfl
    (by rw [hb]; exact d7) (by rw [hb]; exact d10) hout hRframes (by simp only [List.map_cons, List.sum_cons, hcat]; omega) hlocks
  obtain ⟨f1, f2⟩ := vx_frame hsame
  rw [hhp] at f1 f2
  have hWs : s.WarmedH U.vm := State.WarmedH.trans hW0 hW
  have hcl : s.vm.findClass cls = some ce.cls := by
    have h9 := hO.cls
    rw [hvm] at h9
    exact h9
  have hall : s.sameButNew ({ U with vm := s.vm } : State) locs mc ms := by
    subst hA
    obtain ⟨e1, e2⟩ := hsame
    rw [State.setFrames_setFrames] at e1
    have h2 : (T.setVm s.vm).sameButNew ({ U with vm := s.vm } : State) [] (0 + 1) (0 + 6) := ⟨e1, e2⟩
    have h3 := X.same.trans h2
    rw [List.append_nil] at h3
    exact h3.mono hc hs
  refine ⟨U, ?_, .threw T.heap.size, hrun, hend, Or.inr ⟨T.heap.size, rfl, cls, ce, locs, hx U hWs.alike f1 (fun q hq => f2 q hq (fun z hz => nomatch hz)), hce, hO.vm, hcl, hWs, hall, hf⟩⟩
  refine st1 _ ?_
  show Steps p.tables e below (T1.setTop { method := m, pc := pc + 3, locals := ls, stack := .ref T.heap.size :: rest, locked := none }) _
  jvm_step X₁.here [X₁.here.top, hexec, d3', Value.category]
  exact X₁.ldcStringW hexec (own := own) (text := text) (index := is) (a := sa) hown' hstr'.1 hstr'.2
    (g := { method := m, pc := pc + 4, locals := ls, stack := .ref T.heap.size :: .ref T.heap.size :: rest, locked := none }) rfl d4' _ hsteps
end Ends
section Bodies
variable {l : Launch}
theorem vx_ofW {y : MethodName} {ws ws' : List Cond} {rm : Room} {Pc : Array Value → State → Prop} {Qc : Array Value → State → Outcome → State → Prop} {XC : String → State → State → Prop} {mc ms : Nat} {free : Addr → Prop} {cc : ByteArray} {maxL : Nat} {ret : Option FieldType}
    (hy : plainName y.cls = true) (hw : ws = Cond.code y cc maxL ret :: ws')
    (body : ∀ p e s m args below meth c s₁, BodyLoose p l y (headSpec ws rm) cc maxL ret e s m args below meth c s₁ → c.maxLocals = maxL → (∀ x ∈ c.exceptionTable.toList, False) → Pc args s →
      W p l e (headSpec ws rm).room s m args below meth c s.heap [] 0 0 (vx_MQ below Qc XC args s mc ms free) (entryFrame m args maxL)) : vx_Met l y ws rm Pc Qc XC mc ms free := by
  refine MetFree.of_bodyS (code := cc) (maxLocals := maxL) (ret := ret) hy ?_ ?_
  · intro args s m h hn
    obtain ⟨meth, c, h1, h2, h3, h4, h5, h6, -, -⟩ := Cond.code_spec hn (atoms_spec (ws := ws) h _ (by rw [hw]; exact List.mem_cons_self))
    exact ⟨meth, c, h1, h2, h3, h4, h5, h6⟩
  · intro p e s m args below meth c s₁ B hml hP _
    have hh0 : s₁.heap = s.heap := by rw [B.state]; rfl
    have ht : ∀ x ∈ c.exceptionTable.toList, False := by
      obtain ⟨meth9, c9, h1, h2, -, -, -, -, h7, -⟩ := Cond.code_spec B.named (atoms_spec (ws := ws) B.pre _ (by rw [hw]; exact List.mem_cons_self))
      cases Option.some.inj (h1.symm.trans B.method)
      cases Option.some.inj (h2.symm.trans (Stand.of_body B).code)
      intro x hx
      rw [Array.isEmpty_iff.mp h7] at hx
      cases hx
    obtain ⟨t, a1, o, b1, b2, b3⟩ := body p e s m args below meth c s₁ B hml ht hP s₁ hh0 (Stand.of_body B)
    exact ⟨t, o, a1, b1, b2, b3⟩
/-- the table of a body with handlers -/
theorem vx_table {p : Program} {x y : MethodName} {S : Spec} {cc bytes : ByteArray} {maxL maxL' : Nat} {ret ret' : Option FieldType} {e : Env} {s s₁ : State} {m : MethodId} {args : Array Value} {below : List Frame} {meth : Method} {c : Code} {hh : List (Nat × Nat × Nat × Nat)}
    (B : BodyLoose p l y S cc maxL ret e s m args below meth c s₁) (h : (Cond.codeWith y bytes maxL' ret' hh).before args s = true) : c.exceptionTable.toList = tableOf hh := by
  obtain ⟨m9, meth9, c9, hn9, h1, h2, -, -, h6, -⟩ := Cond.codeWith_spec h
  cases Option.some.inj (hn9.symm.trans B.named)
  cases Option.some.inj (h1.symm.trans B.method)
  cases Option.some.inj (h2.symm.trans (Stand.of_body B).code)
  rw [← h6, table_eq]
end Bodies
end VXA
/-! ===== END ===== -/
/-! ===== BEGIN a static call of a method with an exception table ===== -/
section VXS
variable {p : Program} {l : Launch} {e : Env} {R : Room} {s : State} {m : MethodId} {args : Array Value} {below : List Frame} {meth : Method} {c : Code} {T : State} {H : Heap} {locs : List Loc} {cells slots : Nat}
abbrev vx_CSW (R : Room) (s : State) (args : Array Value) (own : String) (index : Nat) (y : MethodName) (bytes : ByteArray) (maxL : Nat) (ret : Option FieldType) (hh : List (Nat × Nat × Nat × Nat)) (ws : List Cond) (rm : Room) (mc ms n : Nat) : Prop :=
  (rm.cells = mc ∧ rm.slots = ms ∧ rm.frames + 1 ≤ R.frames ∧ 8 + (maxL + 11) + rm.locals ≤ R.locals ∧ (∀ w ∈ ws, ∀ (a' : Array Value) (U : State), s.WarmedH U.vm → w.before a' U = true) ∧ Cond.codeWith y bytes maxL ret hh ∈ ws) ∧
  (Cond.codeWith y bytes maxL ret hh).before args s = true ∧ (Cond.initialized y.cls).before args s = true ∧ (y.cls ≠ "java/lang/invoke/MethodHandle" ∧ y.cls ≠ "java/lang/invoke/VarHandle") ∧
  (∀ sig, parseMethodDescriptor y.desc = some sig → n = sig.parameters.length) ∧ (Cond.methodLink own index y).before args s = true ∧ (Cond.static y).before args s = true
theorem vx_cwSW {own : String} {index maxL mc ms : Nat} {y : MethodName} {bytes : ByteArray} {ret : Option FieldType} {hh : List (Nat × Nat × Nat × Nat)} {Ts ws ws' : List Cond} {rm : Room} (n : Nat) (ht : ∀ w ∈ Ts, w.before args s = true) (hT : GoodIn Ts (va_wsS own index y ws)) (hw : ws = Cond.codeWith y bytes maxL ret hh :: ws') (hrc : rm.cells = mc) (hrs : rm.slots = ms)
    (hd : y.cls ≠ "java/lang/invoke/MethodHandle" ∧ y.cls ≠ "java/lang/invoke/VarHandle" ∧ (parseMethodDescriptor y.desc).map (fun d => d.parameters.length) = some n) (hR : rm.frames + 1 ≤ R.frames ∧ 8 + (maxL + 11) + rm.locals ≤ R.locals) :
    vx_CSW R s args own index y bytes maxL ret hh ws rm mc ms n := by
  have ok : ∀ w ∈ va_wsS own index y ws, w.before args s = true := fun w h => ht w (hT w h).1
  have hG : GoodIn Ts ws := fun w h => hT w (by unfold va_wsS; exact List.mem_append_right _ h)
  have hc : Cond.codeWith y bytes maxL ret hh ∈ ws := by rw [hw]; exact List.mem_cons_self
  refine ⟨⟨hrc, hrs, hR.1, hR.2, pay_in ht hG, hc⟩, ht _ (hG _ hc).1, ok _ (by simp [va_wsS]), ⟨hd.1, hd.2.1⟩, fun sig h => ?_, ok _ (by simp [va_wsS]), ok _ (by simp [va_wsS])⟩
  have h2 := hd.2.2
  rw [h] at h2
  exact (Option.some.inj h2).symm
theorem vx_callSW (X : Stand p l e R s m args below meth c T locs cells slots) (hexec : p.tables.exec = Jvm.exec) {own : String} {index : Nat} {y : MethodName} {bytes : ByteArray} {maxL : Nat} {ret : Option FieldType} {hh : List (Nat × Nat × Nat × Nat)}
    (hown : s.vm.findClass own = some m.cls) (hlink : (Cond.methodLink own index y).before args s = true) (hstat : (Cond.static y).before args s = true) (hinit : (Cond.initialized y.cls).before args s = true)
    (hcode : (Cond.codeWith y bytes maxL ret hh).before args s = true) (hy : y.cls ≠ "java/lang/invoke/MethodHandle" ∧ y.cls ≠ "java/lang/invoke/VarHandle")
    {W9 : Nat} {Pre : Pt → Array Value → Prop} {Post : Pt → Array Value → Option Value → Pt → Prop} (hK : Back l R p e below s args y 3 W9 Pre Post)
    {g : JFrame} (hg : g.method = m) (hsize : g.locals.size = c.maxLocals) {argsL rest : List Value} (hlen : ∀ sig, parseMethodDescriptor y.desc = some sig → argsL.length = sig.parameters.length)
    (hstack : g.stack = argsL.reverse ++ rest) (hW : 2 * g.monitorRoom + (rest.map fun v => v.category).sum ≤ W9) (hdg : decode c.code g.pc = .ok (.invokestatic index, 3))
    (hpre : ∀ vm₁, s.WarmedH vm₁ → Pre ⟨T.setVm vm₁, locs, cells, slots⟩ argsL.toArray) :
    ∃ (v : Option Value) (vm₁ : Vm) (B : Pt), s.WarmedH vm₁ ∧ Stand p l e R s m args below meth c B.U B.locs B.cells B.slots ∧ Post ⟨T.setVm vm₁, locs, cells, slots⟩ argsL.toArray v B ∧
      ∀ target, Steps p.tables e below (B.U.setTop { g with pc := g.pc + 3, stack := v.toList ++ rest }) target → Steps p.tables e below (T.setTop g) target := by
  obtain ⟨mk, methM, cM, hnamed, hmethM, -, -, -, -, -, -, hsigM⟩ := Cond.codeWith_spec hcode
  have hstatic : methM.isStatic = true := Cond.static_spec hnamed hmethM hstat
  obtain ⟨kP, hkP, -⟩ := className_of_methodNamed hnamed
  have hinitP : kP.init = .initialized := Cond.initialized_spec (findClass_of_methodNamed hnamed) hkP hinit
  obtain ⟨vm₁, X₁, hstep₁⟩ := X.invokestatic hexec hown hlink hnamed hmethM hstatic hkP hinitP hy (g := g) hg (argsL := argsL) (rest := rest) (hlen _ hsigM) hstack hdg
  obtain ⟨v, B, X', hpost, hsteps⟩ := hK m meth c ⟨T.setVm vm₁, locs, cells, slots⟩ { g with stack := rest } (.invokestatic index) mk argsL.toArray X₁ hg hsize hdg hW (X₁.named hnamed) (hpre vm₁ X₁.warmed)
  exact ⟨v, vm₁, B, X₁.warmed, X', hpost, fun target h => hstep₁ _ fun acts => by rw [doInvoke_state]; exact hsteps.trans h⟩
theorem vx_runSW {y : MethodName} {bytes cc : ByteArray} {maxL nL mc ms n index : Nat} {ret : Option FieldType} {hh : List (Nat × Nat × Nat × Nat)} {ws : List Cond} {rm : Room} {Pc : Array Value → State → Prop} {Qc : Array Value → State → Outcome → State → Prop} {free : Addr → Prop} {Ts : List Cond} {own : String} {As rest : List Value} {g : JFrame}
    (S : CallFix p m c cc nL s args Ts own) (hM : Met l y ws rm Pc Qc mc ms free) (cw : vx_CSW R s args own index y bytes maxL ret hh ws rm mc ms n) (hp : PreS s H Pc As)
    (hg : g.method = m) (hn : As.length = n) (hsize : g.locals.size = nL) (hstack : g.stack = As.reverse ++ rest) (hW : 2 * g.monitorRoom + (rest.map fun v => v.category).sum ≤ 8) (hdg : decode cc g.pc = .ok (.invokestatic index, 3)) (hf : cells + mc ≤ R.cells ∧ slots + ms ≤ R.slots) :
    va_Run p l e R s m args below meth c H locs cells slots mc ms g rest (Qc As.toArray) (free) := by
  obtain ⟨⟨hrc, hrs, hfr, hlo, hws, hcw⟩, hcode, hini, hy, hlen, hl, hstt⟩ := cw
  have hK : Back l R p e below s args y 3 8 (PreOf R mc ms Pc) (PostOf Qc mc ms free) := va_backW (hh := hh) (bytes := bytes) (maxL := maxL) (ret := ret) hM hp.1 hrc hrs hfr hlo hws hcw (fun a' U hW => word_at hW (Or.inl (by first | rfl | simp [Cond.onTables, Cond.keeps, Cond.steady])) hini)
  obtain ⟨hx, hb, hml, ho, -⟩ := S
  intro T hT X
  obtain ⟨v, vm₁, ⟨U', l2, c2, s2⟩, hW₁, X', ⟨g', mk, t, L, e1, e2, hq, h1, hL, h2, h3⟩, st⟩ := vx_callSW X hx (hh := hh) (bytes := bytes) (maxL := maxL) (ret := ret) ho hl hstt hini hcode hy hK hg (hsize.trans hml.symm) (argsL := As) (rest := rest) (fun sig h => hn.trans (hlen sig h)) hstack hW (by rw [hb]; exact hdg)
    (fun vm₁ hW₁ => ⟨hf.1, hf.2, hp.2 (T.setVm vm₁) hT hW₁⟩)
  dsimp only [Pt.U, Pt.locs, Pt.cells, Pt.slots] at X' e1 e2 h1 h2 h3 st
  subst h1; subst h2; subst h3
  exact ⟨v, (T.setVm vm₁).calling g' mk As.toArray, t, U', L, hT, X', hL, e1, e2, hq, st⟩
/-- not caught here, past rows that name other classes: it goes on to the caller -/
theorem vx_outP {p : Program} {l : Launch} {e : Env} {R : Room} {s : State} {m : MethodId} {args : Array Value} {below : List Frame} {meth : Method} {c : Code} {H : Heap} {locs : List Loc} {cells slots : Nat} {free : Addr → Prop} {ls : Array Slot} {rest : List Value} {Qc : Array Value → State → Outcome → State → Prop} {XC : String → State → State → Prop}
    {pc : Nat} {own E : String} {ce : Cell} {q : Addr} {mc ms : Nat} (hown : s.vm.findClass own = some m.cls) (hlocks : meth.locks = false)
    (hpass : ∀ z ∈ c.exceptionTable.toList, covers z pc = false ∨ (z.catchType ≠ 0 ∧ ∃ nm : String, (Cond.classLink own z.catchType nm).before args s = true ∧ va_Nc E nm s)) (hcell : H[q]? = some ce) (hv : ce.vm = .none) (hcl : s.vm.findClass E = some ce.cls)
    (hx : ∀ t : State, t.heap = H → s.vm.Alike t.vm → XC E s t) (hf : ∀ z ∈ locs, free z.base) (hc : cells ≤ mc) (hs : slots ≤ ms) :
    vx_W p l e R s m args below meth c H locs cells slots (vx_MQ below Qc XC args s mc ms free) (F0 m pc ls rest) q := by
  intro T hT X
  have hpl : e.platform.magicAccessors = ({} : Platform).magicAccessors := by rw [X.admits.platform]
  obtain ⟨vm', hW', X', st⟩ := X.outThrough hlocks q (g := F0 m pc ls rest) rfl rfl rfl (cell := ce) (by rw [hT]; exact hcell) (by rw [hv]; rfl)
    (by obtain ⟨k9, h9, -⟩ := Vm.findClass_spec hcl; exact ⟨k9, h9⟩) (fun z hz => by
      rcases hpass z hz with h | ⟨hz0, nm, hl1, hn1⟩
      · exact Or.inl h
      · obtain ⟨c6, hc6, hcl6⟩ := Cond.classLink_spec hown hl1 e.platform hpl
        obtain ⟨a8, b8, h1, h2, h3⟩ := hn1
        cases Option.some.inj (h1.symm.trans hcl)
        cases Option.some.inj (h2.symm.trans hc6)
        exact Or.inr ⟨hz0, _, hcl6, h3⟩)
  obtain ⟨g₀, hfr⟩ := X'.frames_eq
  have hcell9 : ((T.setVm vm').setFrames (.throwing q :: below)).heap[q]? = some ce := by
    show T.heap[q]? = some ce
    rw [hT]; exact hcell
  have hend : Ended ((T.setVm vm').setFrames (.throwing q :: below)) below (.threw q) := State.frames_setFrames _ (State.cur_lt_of_frames hfr)
  refine ⟨(T.setVm vm').setFrames (.throwing q :: below), ?_, .threw q, X'.here.running, hend, Or.inr ⟨q, rfl, E, ce, locs, hx _ hT (X'.ends _).1.alike, hcell9, hv, hcl, (X'.ends _).1, (X'.ends _).2.mono hc hs, hf⟩⟩
  rw [X.pushThrowing_eq]
  exact st
/-- a thing of a world lies in the heap -/
theorem vx_lt {D : va_G} {cl : List vw_C} {ws : va_W} {H1 : Heap} (h : va_P D cl ws H1) {k : Nat} {q : Nat × va_E} (hk : ws[k]? = some q) : q.1 < H1.size := (h k q hk).lt
end VXS
/-! ===== END ===== -/
/-! ===== BEGIN methods with a table of their own: called by a name, returning or throwing ===== -/
section VXH
/-! vx_backW, vx_callVX, vx_callSX, vx_callVW, vx_runVW, vx_runVX, vx_runSX, vx_ofWH follow the same proofs as their sisters above (Free/Laws.lean, Shelf42/LK1.lean); vx_outP calls Shelf42/NT130.lean (outThrough). -/
section
variable {l : Launch} {R : Room} {p : Program} {e : Env} {below : List Frame} {s : State} {sargs : Array Value} {y : MethodName} {len W9 : Nat}
theorem vx_backW {ws : List Cond} {rm : Room} {Pc : Array Value → State → Prop} {Qc : Array Value → State → Outcome → State → Prop} {XC : String → State → State → Prop} {mc ms : Nat} {free : Addr → Prop} {bytes : ByteArray} {maxL : Nat} {ret : Option FieldType} {hh : List (Nat × Nat × Nat × Nat)}
    (hM : vx_Met l y ws rm Pc Qc XC mc ms free) (hblind : FrameBlind Pc) (hrc : rm.cells = mc) (hrs : rm.slots = ms)
    (hframes : rm.frames + 1 ≤ R.frames) (hlocals : W9 + (maxL + 11) + rm.locals ≤ R.locals)
    (hws : ∀ w ∈ ws, ∀ a' U, s.WarmedH U.vm → w.before a' U = true) (hcode : Cond.codeWith y bytes maxL ret hh ∈ ws) (hinit : ∀ a' U, s.WarmedH U.vm → (Cond.initialized y.cls).before a' U = true) :
    vx_Back l R p e below s sargs y len W9 (PreOf R mc ms Pc) (PostOf Qc mc ms free) (vx_Post XC mc ms free) := by
  intro m meth c A g ig mk a X hg hsize hdg hW hn hp
  have h1 : (headSpec ws rm).pre.before a A.U = true := atoms_intro fun w hw => hws w hw _ _ X.warmed
  have h2 : (Cond.codeWith y bytes maxL ret hh).before a A.U = true := hws _ hcode _ _ X.warmed
  have h3 : (Cond.initialized y.cls).before a A.U = true := hinit _ _ X.warmed
  have h4 : A.cells + (headSpec ws rm).room.cells ≤ R.cells := by rw [show (headSpec ws rm).room.cells = mc from hrc]; exact hp.1
  have h5 : A.slots + (headSpec ws rm).room.slots ≤ R.slots := by rw [show (headSpec ws rm).room.slots = ms from hrs]; exact hp.2.1
  have hPc : Pc a (A.U.calling g mk a) := hblind _ _ _ _ hp.2.2
  obtain ⟨U, Ls, c0, s0⟩ := A
  dsimp only [Pt.U, Pt.locs, Pt.cells, Pt.slots] at h1 h2 h3 h4 h5 X hn hPc ⊢
  obtain ⟨m9, methY, cY, hn9, hmY, hcY, -, hlY, -⟩ := Cond.codeWith_spec h2
  cases Option.some.inj (hn9.symm.trans hn)
  obtain ⟨kY, hkY, -⟩ := className_of_methodNamed hn
  have hinitY : kY.init = .initialized := Cond.initialized_spec (findClass_of_methodNamed hn) hkY h3
  have h : At U g.method c below := by rw [hg]; exact X.here
  have hlocals9 : W9 + (maxL + 11) + (headSpec ws rm).room.locals ≤ R.locals := hlocals
  have happ : (headSpec ws rm).appliesLoose y e.platform (U.calling g mk a) = true :=
    Spec.appliesLoose_calling (g := g) h hdg hn hkY hinitY
      (X.room_calling (g := g) (R' := (headSpec ws rm).room) hsize hmY hcY hframes (by rw [hlY]; omega) h4 h5) h1
  obtain ⟨mid, hmid⟩ := h.above
  have hfr : (U.setTop g).frames = (.java g :: mid) ++ below := by rw [State.frames_setTop' g h.top, hmid]; rfl
  obtain ⟨o, s₂, hsteps, -, hend, hq⟩ := Steps.callFree hM p X.admits X.cas X.clock (acts := []) hfr happ hPc trivial
  have hq' : vx_Q Qc XC mc ms free a (U.calling g mk a) o s₂ := hq
  rw [State.frames_setTop' g h.top] at hend
  obtain ⟨g₀, hg0⟩ := Option.isSome_iff_exists.mp h.top
  obtain ⟨r, hr⟩ := State.topJava?_eq_some.mp hg0
  have hr' : (({ U with heap := s₂.heap, slotsUsed := s₂.slotsUsed } : State).setVm s₂.vm).frames = .java g₀ :: r := hr
  rcases hq' with ⟨hqc, L, hfe, hL⟩ | ⟨q, rfl, E, ce, L, hx, hce, hcv, hcl, hW₂, hsm, hL⟩
  · obtain ⟨⟨v, rfl⟩, hW₂, e2, q2, q3, q4, q5, q6⟩ := id hfe
    have e3 : s₂ = ({ (U.calling g mk a).setFrames s₂.frames with heap := s₂.heap, slotsUsed := s₂.slotsUsed } : State).setVm s₂.vm := by
      have : s₂ = ({ s₂ with vm := (U.calling g mk a).vm } : State).setVm s₂.vm := rfl
      rw [e2] at this
      exact this
    obtain ⟨c₂, i₂, len₂, hc₂, hd₂, hf₂⟩ := hend
    have hW' : U.WarmedH s₂.vm := hW₂
    have hcc : c₂ = c := by
      have h1 : s₂.code? g.method = U.code? g.method := by
        rw [State.code?_eq, State.code?_eq, hW'.alike.method?]
      exact Option.some.inj (hc₂.symm.trans (h1.trans h.code))
    subst hcc
    have hlen : len₂ = len := by rw [hdg] at hd₂; cases hd₂; rfl
    subst hlen
    have hs₂ : s₂ = (({ U with heap := s₂.heap, slotsUsed := s₂.slotsUsed } : State).setVm s₂.vm).setTop { g with pc := g.pc + len₂, stack := v.toList ++ g.stack } := by
      refine e3.trans ?_
      rw [hf₂, State.calling_eq h.top, State.setFrames_setFrames, State.setTop_of_frames _ hr', hr]
      rfl
    have hsame : U.sameButNew ({ U with heap := s₂.heap, slotsUsed := s₂.slotsUsed } : State) L mc ms := by
      refine ⟨?_, q2, q3, q4, q5, q6⟩
      obtain ⟨t, ht, -⟩ := State.frames_cons hr
      show ({ U with heap := s₂.heap, slotsUsed := s₂.slotsUsed } : State) = { U.setFrames U.frames with heap := s₂.heap, slotsUsed := s₂.slotsUsed }
      rw [State.setFrames_self ht]
    subst hg
    refine Or.inl ⟨v, ⟨(({ U with heap := s₂.heap, slotsUsed := s₂.slotsUsed } : State).setVm s₂.vm), Ls ++ L, c0 + mc, s0 + ms⟩,
      ⟨X.admits, X.cas, X.clock, X.frames, X.room, X.hears, X.method, X.code, (X.here.setHeapUsed s₂.heap s₂.slotsUsed).setVm hW'.alike, X.tail, State.WarmedH.trans X.warmed hW', X.limits, X.bytes, X.same.trans (hsame.setVm s.vm)⟩,
      ⟨g, mk, s₂, L, rfl, rfl, hqc, rfl, hL, rfl, rfl⟩, ?_⟩
    show Steps p.tables e below _ ((({ U with heap := s₂.heap, slotsUsed := s₂.slotsUsed } : State).setVm s₂.vm).setTop { g with pc := g.pc + len₂, stack := v.toList ++ g.stack })
    rw [← hs₂]
    exact hsteps
  · obtain ⟨e2, q2, q3, q4, q5, q6⟩ := id hsm
    have e3 : s₂ = ({ (U.calling g mk a).setFrames s₂.frames with heap := s₂.heap, slotsUsed := s₂.slotsUsed } : State).setVm s₂.vm := by
      have : s₂ = ({ s₂ with vm := (U.calling g mk a).vm } : State).setVm s₂.vm := rfl
      rw [e2] at this
      exact this
    have hf₂ : s₂.frames = .throwing q :: .java g :: U.frames.tail := hend
    have hW' : U.WarmedH s₂.vm := hW₂
    have hs₂ : s₂ = ((({ U with heap := s₂.heap, slotsUsed := s₂.slotsUsed } : State).setVm s₂.vm).setTop g).pushFrame (.throwing q) := by
      refine e3.trans ?_
      rw [hf₂, State.calling_eq h.top, State.setFrames_setFrames, State.pushFrame, State.frames_setTop _ hr', State.setTop_of_frames _ hr', State.setFrames_setFrames, hr]
      rfl
    have hsame : U.sameButNew ({ U with heap := s₂.heap, slotsUsed := s₂.slotsUsed } : State) L mc ms := by
      refine ⟨?_, q2, q3, q4, q5, q6⟩
      obtain ⟨t, ht, -⟩ := State.frames_cons hr
      show ({ U with heap := s₂.heap, slotsUsed := s₂.slotsUsed } : State) = { U.setFrames U.frames with heap := s₂.heap, slotsUsed := s₂.slotsUsed }
      rw [State.setFrames_self ht]
    subst hg
    refine Or.inr ⟨q, ⟨(({ U with heap := s₂.heap, slotsUsed := s₂.slotsUsed } : State).setVm s₂.vm), Ls ++ L, c0 + mc, s0 + ms⟩,
      ⟨X.admits, X.cas, X.clock, X.frames, X.room, X.hears, X.method, X.code, (X.here.setHeapUsed s₂.heap s₂.slotsUsed).setVm hW'.alike, X.tail, State.WarmedH.trans X.warmed hW', X.limits, X.bytes, X.same.trans (hsame.setVm s.vm)⟩,
      ⟨g, mk, s₂, L, E, ce, rfl, rfl, hx, hce, hcv, hcl, rfl, hL, rfl, rfl⟩, ?_⟩
    show Steps p.tables e below _ (((({ U with heap := s₂.heap, slotsUsed := s₂.slotsUsed } : State).setVm s₂.vm).setTop g).pushFrame (.throwing q))
    rw [← hs₂]
    exact hsteps
end
variable {p : Program} {l : Launch} {e : Env} {R : Room} {s : State} {m : MethodId} {args : Array Value} {below : List Frame} {meth : Method} {c : Code} {T : State} {H : Heap} {locs : List Loc} {cells slots : Nat}
theorem vx_callVX (X : Stand p l e R s m args below meth c T locs cells slots) (hexec : p.tables.exec = Jvm.exec) {own C : String} {index : Nat} {y : MethodName} {bytes : ByteArray} {maxL : Nat} {ret : Option FieldType} {hh : List (Nat × Nat × Nat × Nat)}
    (hown : s.vm.findClass own = some m.cls) (hlink : (Cond.methodLink own index y).before args s = true) (hinst : (Cond.instanceMethod y).before args s = true) (hsel : (Cond.selects C y y).before args s = true)
    (hcode : (Cond.codeWith y bytes maxL ret hh).before args s = true) (hy : y.cls ≠ "java/lang/invoke/MethodHandle" ∧ y.cls ≠ "java/lang/invoke/VarHandle")
    {W9 : Nat} {Pre : Pt → Array Value → Prop} {Post : Pt → Array Value → Option Value → Pt → Prop} {PostX : Pt → Array Value → Addr → Pt → Prop} (hK : vx_Back l R p e below s args y 3 W9 Pre Post PostX)
    {b : Addr} {cellB : Cell} (hcell : T.heap[b]? = some cellB) (hobj : cellB.vm.isStatics = false) (hcls : s.vm.findClass C = some cellB.cls)
    {g : JFrame} (hg : g.method = m) (hsize : g.locals.size = c.maxLocals) {argsL rest : List Value} (hlen : ∀ sig, parseMethodDescriptor y.desc = some sig → argsL.length = sig.parameters.length)
    (hstack : g.stack = argsL.reverse ++ .ref b :: rest) (hW : 2 * g.monitorRoom + (rest.map fun v => v.category).sum ≤ W9) (hdg : decode c.code g.pc = .ok (.invokevirtual index, 3))
    (hpre : ∀ vm₁, s.WarmedH vm₁ → Pre ⟨T.setVm vm₁, locs, cells, slots⟩ (Value.ref b :: argsL).toArray) :
    (∃ (v : Option Value) (vm₁ : Vm) (B : Pt), s.WarmedH vm₁ ∧ Stand p l e R s m args below meth c B.U B.locs B.cells B.slots ∧ Post ⟨T.setVm vm₁, locs, cells, slots⟩ (Value.ref b :: argsL).toArray v B ∧
      ∀ target, Steps p.tables e below (B.U.setTop { g with pc := g.pc + 3, stack := v.toList ++ rest }) target → Steps p.tables e below (T.setTop g) target) ∨
    (∃ (q : Addr) (vm₁ : Vm) (B : Pt), s.WarmedH vm₁ ∧ Stand p l e R s m args below meth c B.U B.locs B.cells B.slots ∧ PostX ⟨T.setVm vm₁, locs, cells, slots⟩ (Value.ref b :: argsL).toArray q B ∧
      Steps p.tables e below (T.setTop g) ((B.U.setTop { g with stack := rest }).pushFrame (.throwing q))) := by
  obtain ⟨mk, methM, hnamed, hmethM, hstM, habM⟩ := Cond.instanceMethod_spec hinst
  obtain ⟨m8, methM', cM, hn8, hmethM', -, -, -, -, -, -, hsigM⟩ := Cond.codeWith_spec hcode
  cases Option.some.inj (hn8.symm.trans hnamed)
  cases hmethM.symm.trans hmethM'
  obtain ⟨c2, r2, m2, q1, q2, q3, q4, kP, hkP, hkPi⟩ := Cond.selects_spec hsel
  cases hcls.symm.trans q1
  cases (State.methodFound?_of_named hnamed hy).symm.trans q2
  cases hnamed.symm.trans q3
  have hselP : selectMethod e.platform s.vm cellB.cls mk = .method mk := by rw [Launch.admits_selectMethod X.admits]; exact q4
  obtain ⟨vm₁, X₁, hstep₁⟩ := X.invokevirtual hexec hown hlink hnamed hmethM hstM hkP hkPi hy (a := b) (cell := cellB) hcell
    (fun z h => by rw [h] at hobj; cases hobj) hselP hmethM habM hkP hkPi (g := g) hg (argsL := argsL) (rest := rest) (hlen _ hsigM) hstack hdg
  rcases hK m meth c ⟨T.setVm vm₁, locs, cells, slots⟩ { g with stack := rest } (.invokevirtual index) mk (Value.ref b :: argsL).toArray X₁ hg hsize hdg hW (X₁.named hnamed) (hpre vm₁ X₁.warmed) with ⟨v, B, X', hpost, hsteps⟩ | ⟨q, B, X', hpost, hsteps⟩
  · exact Or.inl ⟨v, vm₁, B, X₁.warmed, X', hpost, fun target h => hstep₁ _ fun acts => by rw [doInvoke_state]; exact hsteps.trans h⟩
  · exact Or.inr ⟨q, vm₁, B, X₁.warmed, X', hpost, hstep₁ _ fun acts => by rw [doInvoke_state]; exact hsteps⟩
theorem vx_callSX (X : Stand p l e R s m args below meth c T locs cells slots) (hexec : p.tables.exec = Jvm.exec) {own : String} {index : Nat} {y : MethodName} {bytes : ByteArray} {maxL : Nat} {ret : Option FieldType} {hh : List (Nat × Nat × Nat × Nat)}
    (hown : s.vm.findClass own = some m.cls) (hlink : (Cond.methodLink own index y).before args s = true) (hstat : (Cond.static y).before args s = true) (hinit : (Cond.initialized y.cls).before args s = true)
    (hcode : (Cond.codeWith y bytes maxL ret hh).before args s = true) (hy : y.cls ≠ "java/lang/invoke/MethodHandle" ∧ y.cls ≠ "java/lang/invoke/VarHandle")
    {W9 : Nat} {Pre : Pt → Array Value → Prop} {Post : Pt → Array Value → Option Value → Pt → Prop} {PostX : Pt → Array Value → Addr → Pt → Prop} (hK : vx_Back l R p e below s args y 3 W9 Pre Post PostX)
    {g : JFrame} (hg : g.method = m) (hsize : g.locals.size = c.maxLocals) {argsL rest : List Value} (hlen : ∀ sig, parseMethodDescriptor y.desc = some sig → argsL.length = sig.parameters.length)
    (hstack : g.stack = argsL.reverse ++ rest) (hW : 2 * g.monitorRoom + (rest.map fun v => v.category).sum ≤ W9) (hdg : decode c.code g.pc = .ok (.invokestatic index, 3))
    (hpre : ∀ vm₁, s.WarmedH vm₁ → Pre ⟨T.setVm vm₁, locs, cells, slots⟩ argsL.toArray) :
    (∃ (v : Option Value) (vm₁ : Vm) (B : Pt), s.WarmedH vm₁ ∧ Stand p l e R s m args below meth c B.U B.locs B.cells B.slots ∧ Post ⟨T.setVm vm₁, locs, cells, slots⟩ argsL.toArray v B ∧
      ∀ target, Steps p.tables e below (B.U.setTop { g with pc := g.pc + 3, stack := v.toList ++ rest }) target → Steps p.tables e below (T.setTop g) target) ∨
    (∃ (q : Addr) (vm₁ : Vm) (B : Pt), s.WarmedH vm₁ ∧ Stand p l e R s m args below meth c B.U B.locs B.cells B.slots ∧ PostX ⟨T.setVm vm₁, locs, cells, slots⟩ argsL.toArray q B ∧
      Steps p.tables e below (T.setTop g) ((B.U.setTop { g with stack := rest }).pushFrame (.throwing q))) := by
  obtain ⟨mk, methM, cM, hnamed, hmethM, -, -, -, -, -, -, hsigM⟩ := Cond.codeWith_spec hcode
  have hstatic : methM.isStatic = true := Cond.static_spec hnamed hmethM hstat
  obtain ⟨kP, hkP, -⟩ := className_of_methodNamed hnamed
  have hinitP : kP.init = .initialized := Cond.initialized_spec (findClass_of_methodNamed hnamed) hkP hinit
  obtain ⟨vm₁, X₁, hstep₁⟩ := X.invokestatic hexec hown hlink hnamed hmethM hstatic hkP hinitP hy (g := g) hg (argsL := argsL) (rest := rest) (hlen _ hsigM) hstack hdg
  rcases hK m meth c ⟨T.setVm vm₁, locs, cells, slots⟩ { g with stack := rest } (.invokestatic index) mk argsL.toArray X₁ hg hsize hdg hW (X₁.named hnamed) (hpre vm₁ X₁.warmed) with ⟨v, B, X', hpost, hsteps⟩ | ⟨q, B, X', hpost, hsteps⟩
  · exact Or.inl ⟨v, vm₁, B, X₁.warmed, X', hpost, fun target h => hstep₁ _ fun acts => by rw [doInvoke_state]; exact hsteps.trans h⟩
  · exact Or.inr ⟨q, vm₁, B, X₁.warmed, X', hpost, hstep₁ _ fun acts => by rw [doInvoke_state]; exact hsteps⟩
theorem vx_callVW (X : Stand p l e R s m args below meth c T locs cells slots) (hexec : p.tables.exec = Jvm.exec) {own C : String} {index : Nat} {y : MethodName} {bytes : ByteArray} {maxL : Nat} {ret : Option FieldType} {hh : List (Nat × Nat × Nat × Nat)}
    (hown : s.vm.findClass own = some m.cls) (hlink : (Cond.methodLink own index y).before args s = true) (hinst : (Cond.instanceMethod y).before args s = true) (hsel : (Cond.selects C y y).before args s = true)
    (hcode : (Cond.codeWith y bytes maxL ret hh).before args s = true) (hy : y.cls ≠ "java/lang/invoke/MethodHandle" ∧ y.cls ≠ "java/lang/invoke/VarHandle")
    {W9 : Nat} {Pre : Pt → Array Value → Prop} {Post : Pt → Array Value → Option Value → Pt → Prop} (hK : Back l R p e below s args y 3 W9 Pre Post)
    {b : Addr} {cellB : Cell} (hcell : T.heap[b]? = some cellB) (hobj : cellB.vm.isStatics = false) (hcls : s.vm.findClass C = some cellB.cls)
    {g : JFrame} (hg : g.method = m) (hsize : g.locals.size = c.maxLocals) {argsL rest : List Value} (hlen : ∀ sig, parseMethodDescriptor y.desc = some sig → argsL.length = sig.parameters.length)
    (hstack : g.stack = argsL.reverse ++ .ref b :: rest) (hW : 2 * g.monitorRoom + (rest.map fun v => v.category).sum ≤ W9) (hdg : decode c.code g.pc = .ok (.invokevirtual index, 3))
    (hpre : ∀ vm₁, s.WarmedH vm₁ → Pre ⟨T.setVm vm₁, locs, cells, slots⟩ (Value.ref b :: argsL).toArray) :
    ∃ (v : Option Value) (vm₁ : Vm) (B : Pt), s.WarmedH vm₁ ∧ Stand p l e R s m args below meth c B.U B.locs B.cells B.slots ∧ Post ⟨T.setVm vm₁, locs, cells, slots⟩ (Value.ref b :: argsL).toArray v B ∧
      ∀ target, Steps p.tables e below (B.U.setTop { g with pc := g.pc + 3, stack := v.toList ++ rest }) target → Steps p.tables e below (T.setTop g) target := by
  obtain ⟨mk, methM, hnamed, hmethM, hstM, habM⟩ := Cond.instanceMethod_spec hinst
  obtain ⟨m8, methM', cM, hn8, hmethM', -, -, -, -, -, -, hsigM⟩ := Cond.codeWith_spec hcode
  cases Option.some.inj (hn8.symm.trans hnamed)
  cases hmethM.symm.trans hmethM'
  obtain ⟨c2, r2, m2, q1, q2, q3, q4, kP, hkP, hkPi⟩ := Cond.selects_spec hsel
  cases hcls.symm.trans q1
  cases (State.methodFound?_of_named hnamed hy).symm.trans q2
  cases hnamed.symm.trans q3
  have hselP : selectMethod e.platform s.vm cellB.cls mk = .method mk := by rw [Launch.admits_selectMethod X.admits]; exact q4
  obtain ⟨vm₁, X₁, hstep₁⟩ := X.invokevirtual hexec hown hlink hnamed hmethM hstM hkP hkPi hy (a := b) (cell := cellB) hcell
    (fun z h => by rw [h] at hobj; cases hobj) hselP hmethM habM hkP hkPi (g := g) hg (argsL := argsL) (rest := rest) (hlen _ hsigM) hstack hdg
  obtain ⟨v, B, X', hpost, hsteps⟩ := hK m meth c ⟨T.setVm vm₁, locs, cells, slots⟩ { g with stack := rest } (.invokevirtual index) mk (Value.ref b :: argsL).toArray X₁ hg hsize hdg hW (X₁.named hnamed) (hpre vm₁ X₁.warmed)
  exact ⟨v, vm₁, B, X₁.warmed, X', hpost, fun target h => hstep₁ _ fun acts => by rw [doInvoke_state]; exact hsteps.trans h⟩
abbrev vx_CVW (R : Room) (s : State) (args : Array Value) (own C : String) (index : Nat) (y : MethodName) (bytes : ByteArray) (maxL : Nat) (ret : Option FieldType) (hh : List (Nat × Nat × Nat × Nat)) (ws : List Cond) (rm : Room) (mc ms n : Nat) : Prop :=
  (rm.cells = mc ∧ rm.slots = ms ∧ rm.frames + 1 ≤ R.frames ∧ 8 + (maxL + 11) + rm.locals ≤ R.locals ∧ (∀ w ∈ ws, ∀ (a' : Array Value) (U : State), s.WarmedH U.vm → w.before a' U = true) ∧ Cond.codeWith y bytes maxL ret hh ∈ ws) ∧
  (Cond.codeWith y bytes maxL ret hh).before args s = true ∧ (Cond.initialized y.cls).before args s = true ∧ (y.cls ≠ "java/lang/invoke/MethodHandle" ∧ y.cls ≠ "java/lang/invoke/VarHandle") ∧
  (∀ sig, parseMethodDescriptor y.desc = some sig → n = sig.parameters.length) ∧ (Cond.methodLink own index y).before args s = true ∧ (Cond.instanceMethod y).before args s = true ∧ (Cond.selects C y y).before args s = true
theorem vx_cwVW {own C : String} {index maxL mc ms : Nat} {y : MethodName} {bytes : ByteArray} {ret : Option FieldType} {hh : List (Nat × Nat × Nat × Nat)} {Ts ws ws' : List Cond} {rm : Room} (n : Nat) (ht : ∀ w ∈ Ts, w.before args s = true) (hT : GoodIn Ts (wsV own index C y ws)) (hw : ws = Cond.codeWith y bytes maxL ret hh :: ws') (hrc : rm.cells = mc) (hrs : rm.slots = ms)
    (hd : y.cls = C ∧ y.cls ≠ "java/lang/invoke/MethodHandle" ∧ y.cls ≠ "java/lang/invoke/VarHandle" ∧ (parseMethodDescriptor y.desc).map (fun d => d.parameters.length) = some n) (hR : rm.frames + 1 ≤ R.frames ∧ 8 + (maxL + 11) + rm.locals ≤ R.locals) :
    vx_CVW R s args own C index y bytes maxL ret hh ws rm mc ms n := by
  obtain ⟨hC, hd⟩ := hd
  subst hC
  have ok : ∀ w ∈ wsV own index y.cls y ws, w.before args s = true := fun w h => ht w (hT w h).1
  have hG : GoodIn Ts ws := fun w h => hT w (by unfold wsV; exact List.mem_append_right _ h)
  have hc : Cond.codeWith y bytes maxL ret hh ∈ ws := by rw [hw]; exact List.mem_cons_self
  refine ⟨⟨hrc, hrs, hR.1, hR.2, pay_in ht hG, hc⟩, ht _ (hG _ hc).1, ok _ (by simp [wsV]), ⟨hd.1, hd.2.1⟩, fun sig h => ?_, ok _ (by simp [wsV]), ok _ (by simp [wsV]), ok _ (by simp [wsV])⟩
  have h2 := hd.2.2
  rw [h] at h2
  exact (Option.some.inj h2).symm
theorem vx_runVW {y : MethodName} {bytes cc : ByteArray} {maxL nL mc ms n index : Nat} {ret : Option FieldType} {hh : List (Nat × Nat × Nat × Nat)} {ws : List Cond} {rm : Room} {Pc : Array Value → State → Prop} {Qc : Array Value → State → Outcome → State → Prop} {free : Addr → Prop} {Ts : List Cond} {own C : String} {b : Addr} {As rest : List Value} {g : JFrame}
    (S : CallFix p m c cc nL s args Ts own) (hM : Met l y ws rm Pc Qc mc ms free) (cw : vx_CVW R s args own C index y bytes maxL ret hh ws rm mc ms n) (hp : PreV s H C b Pc As)
    (hg : g.method = m) (hn : As.length = n) (hsize : g.locals.size = nL) (hstack : g.stack = As.reverse ++ .ref b :: rest) (hW : 2 * g.monitorRoom + (rest.map fun v => v.category).sum ≤ 8) (hdg : decode cc g.pc = .ok (.invokevirtual index, 3)) (hf : cells + mc ≤ R.cells ∧ slots + ms ≤ R.slots) :
    va_Run p l e R s m args below meth c H locs cells slots mc ms g rest (Qc (Value.ref b :: As).toArray) free := by
  obtain ⟨⟨hrc, hrs, hfr, hlo, hws, hcw⟩, hcode, hini, hy, hlen, hl, hin, hse⟩ := cw
  have hK : Back l R p e below s args y 3 8 (PreOf R mc ms Pc) (PostOf Qc mc ms free) := va_backW (hh := hh) (bytes := bytes) (maxL := maxL) (ret := ret) hM hp.1 hrc hrs hfr hlo hws hcw (fun a' U hW => word_at hW (Or.inl (by first | rfl | simp [Cond.onTables, Cond.keeps, Cond.steady])) hini)
  obtain ⟨hx, hb, hml, ho, -⟩ := S
  obtain ⟨-, ⟨cellB, hcB, hoB, hclB⟩, hPc⟩ := hp
  intro T hT X
  obtain ⟨v, vm₁, ⟨U', l2, c2, s2⟩, hW₁, X', ⟨g', mk, t, L, e1, e2, hq, h1, hL, h2, h3⟩, st⟩ := vx_callVW X hx (C := C) (hh := hh) (bytes := bytes) (maxL := maxL) (ret := ret) ho hl hin hse hcode hy hK (by rw [hT]; exact hcB) hoB hclB hg (hsize.trans hml.symm) (argsL := As) (rest := rest) (fun sig h => hn.trans (hlen sig h)) hstack hW (by rw [hb]; exact hdg)
    (fun vm₁ hW₁ => ⟨hf.1, hf.2, hPc (T.setVm vm₁) hT hW₁⟩)
  dsimp only [Pt.U, Pt.locs, Pt.cells, Pt.slots] at X' e1 e2 h1 h2 h3 st
  subst h1; subst h2; subst h3
  exact ⟨v, (T.setVm vm₁).calling g' mk (Value.ref b :: As).toArray, t, U', L, hT, X', hL, e1, e2, hq, st⟩
section
variable {y : MethodName} {bytes cc : ByteArray} {maxL nL mc ms n index : Nat} {ret : Option FieldType} {ws : List Cond} {rm : Room} {Pc : Array Value → State → Prop} {Qc : Array Value → State → Outcome → State → Prop} {XC : String → State → State → Prop} {free : Addr → Prop} {Ts : List Cond} {own C : String} {b : Addr} {As rest : List Value} {g : JFrame}
theorem vx_runVX {hh : List (Nat × Nat × Nat × Nat)} (S : CallFix p m c cc nL s args Ts own) (hM : vx_Met l y ws rm Pc Qc XC mc ms free) (cw : vx_CVW R s args own C index y bytes maxL ret hh ws rm mc ms n) (hp : PreV s H C b Pc As)
    (hg : g.method = m) (hn : As.length = n) (hsize : g.locals.size = nL) (hstack : g.stack = As.reverse ++ .ref b :: rest) (hW : 2 * g.monitorRoom + (rest.map fun v => v.category).sum ≤ 8) (hdg : decode cc g.pc = .ok (.invokevirtual index, 3)) (hf : cells + mc ≤ R.cells ∧ slots + ms ≤ R.slots) :
    vx_Run p l e R s m args below meth c H locs cells slots mc ms g rest (Qc (Value.ref b :: As).toArray) XC free := by
  obtain ⟨⟨hrc, hrs, hfr, hlo, hws, hcw⟩, hcode, hini, hy, hlen, hl, hin, hse⟩ := cw
  have hK : vx_Back l R p e below s args y 3 8 (PreOf R mc ms Pc) (PostOf Qc mc ms free) (vx_Post XC mc ms free) := vx_backW (hh := hh) (bytes := bytes) (maxL := maxL) (ret := ret) hM hp.1 hrc hrs hfr hlo hws hcw (fun a' U hW => word_at hW (Or.inl (by first | rfl | simp [Cond.onTables, Cond.keeps, Cond.steady])) hini)
  obtain ⟨hx, hb, hml, ho, -⟩ := S
  obtain ⟨-, ⟨cellB, hcB, hoB, hclB⟩, hPc⟩ := hp
  intro T hT X
  rcases vx_callVX X hx (C := C) (hh := hh) (bytes := bytes) (maxL := maxL) (ret := ret) ho hl hin hse hcode hy hK (by rw [hT]; exact hcB) hoB hclB hg (hsize.trans hml.symm) (argsL := As) (rest := rest) (fun sig h => hn.trans (hlen sig h)) hstack hW (by rw [hb]; exact hdg)
    (fun vm₁ hW₁ => ⟨hf.1, hf.2, hPc (T.setVm vm₁) hT hW₁⟩) with ⟨v, vm₁, ⟨U', l2, c2, s2⟩, hW₁, X', ⟨g', mk, t, L, e1, e2, hq, h1, hL, h2, h3⟩, st⟩ | ⟨q, vm₁, ⟨U', l2, c2, s2⟩, hW₁, X', ⟨g', mk, t, L, E, ce, e1, e2, hq, hce, hcv, hcl, h1, hL, h2, h3⟩, st⟩
  · dsimp only [Pt.U, Pt.locs, Pt.cells, Pt.slots] at X' e1 e2 h1 h2 h3 st
    subst h1; subst h2; subst h3
    exact Or.inl ⟨v, (T.setVm vm₁).calling g' mk (Value.ref b :: As).toArray, t, U', L, hT, X', hL, e1, e2, hq, st⟩
  · dsimp only [Pt.U, Pt.locs, Pt.cells, Pt.slots] at X' e1 e2 h1 h2 h3 st hcl
    subst h1; subst h2; subst h3
    exact Or.inr ⟨q, (T.setVm vm₁).calling g' mk (Value.ref b :: As).toArray, t, U', L, E, ce, hT, X', hL, e1, e2, hq, hce, hcv, vx_cls hW₁ hcl, st⟩
theorem vx_runSX {hh : List (Nat × Nat × Nat × Nat)} (S : CallFix p m c cc nL s args Ts own) (hM : vx_Met l y ws rm Pc Qc XC mc ms free) (cw : vx_CSW R s args own index y bytes maxL ret hh ws rm mc ms n) (hp : PreS s H Pc As)
    (hg : g.method = m) (hn : As.length = n) (hsize : g.locals.size = nL) (hstack : g.stack = As.reverse ++ rest) (hW : 2 * g.monitorRoom + (rest.map fun v => v.category).sum ≤ 8) (hdg : decode cc g.pc = .ok (.invokestatic index, 3)) (hf : cells + mc ≤ R.cells ∧ slots + ms ≤ R.slots) :
    vx_Run p l e R s m args below meth c H locs cells slots mc ms g rest (Qc As.toArray) XC free := by
  obtain ⟨⟨hrc, hrs, hfr, hlo, hws, hcw⟩, hcode, hini, hy, hlen, hl, hstt⟩ := cw
  have hK : vx_Back l R p e below s args y 3 8 (PreOf R mc ms Pc) (PostOf Qc mc ms free) (vx_Post XC mc ms free) := vx_backW (hh := hh) (bytes := bytes) (maxL := maxL) (ret := ret) hM hp.1 hrc hrs hfr hlo hws hcw (fun a' U hW => word_at hW (Or.inl (by first | rfl | simp [Cond.onTables, Cond.keeps, Cond.steady])) hini)
  obtain ⟨hx, hb, hml, ho, -⟩ := S
  intro T hT X
  rcases vx_callSX X hx (hh := hh) (bytes := bytes) (maxL := maxL) (ret := ret) ho hl hstt hini hcode hy hK hg (hsize.trans hml.symm) (argsL := As) (rest := rest) (fun sig h => hn.trans (hlen sig h)) hstack hW (by rw [hb]; exact hdg)
    (fun vm₁ hW₁ => ⟨hf.1, hf.2, hp.2 (T.setVm vm₁) hT hW₁⟩) with ⟨v, vm₁, ⟨U', l2, c2, s2⟩, hW₁, X', ⟨g', mk, t, L, e1, e2, hq, h1, hL, h2, h3⟩, st⟩ | ⟨q, vm₁, ⟨U', l2, c2, s2⟩, hW₁, X', ⟨g', mk, t, L, E, ce, e1, e2, hq, hce, hcv, hcl, h1, hL, h2, h3⟩, st⟩
  · dsimp only [Pt.U, Pt.locs, Pt.cells, Pt.slots] at X' e1 e2 h1 h2 h3 st
    subst h1; subst h2; subst h3
    exact Or.inl ⟨v, (T.setVm vm₁).calling g' mk As.toArray, t, U', L, hT, X', hL, e1, e2, hq, st⟩
  · dsimp only [Pt.U, Pt.locs, Pt.cells, Pt.slots] at X' e1 e2 h1 h2 h3 st hcl
    subst h1; subst h2; subst h3
    exact Or.inr ⟨q, (T.setVm vm₁).calling g' mk As.toArray, t, U', L, E, ce, hT, X', hL, e1, e2, hq, hce, hcv, vx_cls hW₁ hcl, st⟩
end
end VXH
theorem vx_ofWH {l : Launch} {y : MethodName} {ws ws' : List Cond} {rm : Room} {Pc : Array Value → State → Prop} {Qc : Array Value → State → Outcome → State → Prop} {XC : String → State → State → Prop} {mc ms : Nat} {free : Addr → Prop} {cc : ByteArray} {maxL : Nat} {ret : Option FieldType} {hh : List (Nat × Nat × Nat × Nat)}
    (hy : plainName y.cls = true) (hw : ws = Cond.codeWith y cc maxL ret hh :: ws')
    (body : ∀ p e s m args below meth c s₁, BodyLoose p l y (headSpec ws rm) cc maxL ret e s m args below meth c s₁ → c.maxLocals = maxL → Pc args s →
      W p l e (headSpec ws rm).room s m args below meth c s.heap [] 0 0 (vx_MQ below Qc XC args s mc ms free) (entryFrame m args maxL)) : vx_Met l y ws rm Pc Qc XC mc ms free := by
  refine MetFree.of_bodyS (code := cc) (maxLocals := maxL) (ret := ret) hy ?_ ?_
  · intro args s m h hn
    obtain ⟨m9, meth, c, hn9, h1, h2, h3, h4, -, h5, h6, -⟩ := Cond.codeWith_spec (atoms_spec (ws := ws) h _ (by rw [hw]; exact List.mem_cons_self))
    cases hn.symm.trans hn9
    exact ⟨meth, c, h1, h2, h3, h4, h5, h6⟩
  · intro p e s m args below meth c s₁ B hml hP _
    have hh0 : s₁.heap = s.heap := by rw [B.state]; rfl
    obtain ⟨t, a1, o, b1, b2, b3⟩ := body p e s m args below meth c s₁ B hml hP s₁ hh0 (Stand.of_body B)
    exact ⟨t, o, a1, b1, b2, b3⟩
/-! ===== END ===== -/

/-! ===== BEGIN printed: names, fields, word lists, decode rows ===== -/
def RX0 : String := "HundiHall$Broker"
def TX0 : u_T := fun k => match k with
  | 0 => ("HundiHall$Broker", "town", "I", false)
  | 1 => ("HundiHall$Broker", "cash", "J", false)
  | 2 => ("HundiHall$Broker", "rate", "I", false)
  | 3 => ("HundiHall$Broker", "state", "I", false)
  | 4 => ("HundiHall$Broker", "raidEnd", "I", false)
  | 5 => ("HundiHall$Broker", "wasRaided", "Z", false)
  | 6 => ("HundiHall$Broker", "limits", "[I", true)
  | _ => ("HundiHall$Broker", "isKin", "[Z", true)
def tyX0 : Nat → FieldType := fun k => match k with
  | 0 => .int
  | 1 => .long
  | 2 => .int
  | 3 => .int
  | 4 => .int
  | 5 => .boolean
  | 6 => .array .int
  | _ => .array .boolean
theorem nmX0 : ∀ a, a < 8 → ∀ b, b < 8 → a ≠ b → (TX0 a).2.1 ≠ (TX0 b).2.1 := by decide +kernel
theorem tyX0_ok : ∀ k, k < 8 → parseFieldDescriptor (TX0 k).2.2.1 = some (tyX0 k) := by decide +kernel
abbrev cX0_init : ByteArray := prog_2_method_1_code
def yX0_init : MethodName := ⟨RX0, "<init>", "()V"⟩
abbrev cX0_isGood : ByteArray := prog_2_method_2_code
def yX0_isGood : MethodName := ⟨RX0, "isGood", "()Z"⟩
abbrev cX0_limitNow : ByteArray := prog_2_method_3_code
def yX0_limitNow : MethodName := ⟨RX0, "limitNow", "(IZ)I"⟩
def RX1 : String := "HundiHall$Courier"
def TX1 : u_T := fun k => match k with
  | 0 => ("HundiHall$Courier", "from", "I", false)
  | 1 => ("HundiHall$Courier", "to", "I", false)
  | 2 => ("HundiHall$Courier", "amount", "I", false)
  | 3 => ("HundiHall$Courier", "hourDue", "I", false)
  | 4 => ("HundiHall$Courier", "isOnRoad", "Z", false)
  | _ => ("HundiHall$Courier", "isRobbed", "Z", false)
def tyX1 : Nat → FieldType := fun k => match k with
  | 0 => .int
  | 1 => .int
  | 2 => .int
  | 3 => .int
  | 4 => .boolean
  | _ => .boolean
theorem nmX1 : ∀ a, a < 6 → ∀ b, b < 6 → a ≠ b → (TX1 a).2.1 ≠ (TX1 b).2.1 := by decide +kernel
theorem tyX1_ok : ∀ k, k < 6 → parseFieldDescriptor (TX1 k).2.2.1 = some (tyX1 k) := by decide +kernel
abbrev cX1_init : ByteArray := prog_3_method_1_code
def yX1_init : MethodName := ⟨RX1, "<init>", "()V"⟩
def RX2 : String := "HundiHall$Ledger"
def TX2 : u_T := fun k => match k with
  | 0 => ("HundiHall$Ledger", "owed", "[[J", true)
  | _ => ("HundiHall$Ledger", "books", "[[J", true)
def tyX2 : Nat → FieldType := fun k => match k with
  | 0 => .array (.array .long)
  | _ => .array (.array .long)
theorem nmX2 : ∀ a, a < 2 → ∀ b, b < 2 → a ≠ b → (TX2 a).2.1 ≠ (TX2 b).2.1 := by decide +kernel
theorem tyX2_ok : ∀ k, k < 2 → parseFieldDescriptor (TX2 k).2.2.1 = some (tyX2 k) := by decide +kernel
abbrev cX2_init : ByteArray := prog_4_method_1_code
def yX2_init : MethodName := ⟨RX2, "<init>", "()V"⟩
abbrev cX2_change : ByteArray := prog_4_method_2_code
def yX2_change : MethodName := ⟨RX2, "change", "(IIJ)V"⟩
abbrev cX2_write : ByteArray := prog_4_method_3_code
def yX2_write : MethodName := ⟨RX2, "write", "(IIJ)V"⟩
abbrev cX2_changeKnown : ByteArray := prog_4_method_4_code
def yX2_changeKnown : MethodName := ⟨RX2, "changeKnown", "(IIJ)V"⟩
def RX3 : String := "HundiHall$Order"
def TX3 : u_T := fun k => match k with
  | 0 => ("HundiHall$Order", "amount", "I", false)
  | 1 => ("HundiHall$Order", "code", "I", false)
  | 2 => ("HundiHall$Order", "given", "I", false)
  | 3 => ("HundiHall$Order", "hourGiven", "I", false)
  | 4 => ("HundiHall$Order", "state", "I", false)
  | 5 => ("HundiHall$Order", "place", "I", false)
  | 6 => ("HundiHall$Order", "falseCodes", "I", false)
  | 7 => ("HundiHall$Order", "length", "I", false)
  | 8 => ("HundiHall$Order", "brokers", "[I", true)
  | _ => ("HundiHall$Order", "steps", "[I", true)
def tyX3 : Nat → FieldType := fun k => match k with
  | 0 => .int
  | 1 => .int
  | 2 => .int
  | 3 => .int
  | 4 => .int
  | 5 => .int
  | 6 => .int
  | 7 => .int
  | 8 => .array .int
  | _ => .array .int
theorem nmX3 : ∀ a, a < 10 → ∀ b, b < 10 → a ≠ b → (TX3 a).2.1 ≠ (TX3 b).2.1 := by decide +kernel
theorem tyX3_ok : ∀ k, k < 10 → parseFieldDescriptor (TX3 k).2.2.1 = some (tyX3 k) := by decide +kernel
abbrev cX3_init : ByteArray := prog_5_method_1_code
def yX3_init : MethodName := ⟨RX3, "<init>", "()V"⟩
abbrev cX3_firstBroker : ByteArray := prog_5_method_2_code
def yX3_firstBroker : MethodName := ⟨RX3, "firstBroker", "()I"⟩
abbrev cX3_lastBroker : ByteArray := prog_5_method_3_code
def yX3_lastBroker : MethodName := ⟨RX3, "lastBroker", "()I"⟩
abbrev cX3_brokerAt : ByteArray := prog_5_method_4_code
def yX3_brokerAt : MethodName := ⟨RX3, "brokerAt", "(I)I"⟩
abbrev cX3_isOpen : ByteArray := prog_5_method_5_code
def yX3_isOpen : MethodName := ⟨RX3, "isOpen", "()Z"⟩
abbrev cX3_isStillToPass : ByteArray := prog_5_method_6_code
def yX3_isStillToPass : MethodName := ⟨RX3, "isStillToPass", "(I)Z"⟩
abbrev cX3_takeWay : ByteArray := prog_5_method_7_code
def yX3_takeWay : MethodName := ⟨RX3, "takeWay", "(LHundiHall$WayFinder;I)V"⟩
def RX4 : String := "HundiHall$WayFinder"
def TX4 : u_T := fun k => match k with
  | 0 => ("HundiHall$WayFinder", "brokers", "[LHundiHall$Broker;", true)
  | 1 => ("HundiHall$WayFinder", "ledger", "LHundiHall$Ledger;", true)
  | 2 => ("HundiHall$WayFinder", "isOpen", "[Z", true)
  | 3 => ("HundiHall$WayFinder", "isReached", "[Z", true)
  | 4 => ("HundiHall$WayFinder", "isSettled", "[Z", true)
  | 5 => ("HundiHall$WayFinder", "fees", "[I", true)
  | 6 => ("HundiHall$WayFinder", "counts", "[I", true)
  | 7 => ("HundiHall$WayFinder", "path", "[I", true)
  | 8 => ("HundiHall$WayFinder", "length", "I", false)
  | 9 => ("HundiHall$WayFinder", "amount", "I", false)
  | _ => ("HundiHall$WayFinder", "isFestival", "Z", false)
def tyX4 : Nat → FieldType := fun k => match k with
  | 0 => .array (.object "HundiHall$Broker")
  | 1 => .object "HundiHall$Ledger"
  | 2 => .array .boolean
  | 3 => .array .boolean
  | 4 => .array .boolean
  | 5 => .array .int
  | 6 => .array .int
  | 7 => .array .int
  | 8 => .int
  | 9 => .int
  | _ => .boolean
theorem nmX4 : ∀ a, a < 11 → ∀ b, b < 11 → a ≠ b → (TX4 a).2.1 ≠ (TX4 b).2.1 := by decide +kernel
theorem tyX4_ok : ∀ k, k < 11 → parseFieldDescriptor (TX4 k).2.2.1 = some (tyX4 k) := by decide +kernel
abbrev cX4_init : ByteArray := prog_6_method_1_code
def yX4_init : MethodName := ⟨RX4, "<init>", "([LHundiHall$Broker;LHundiHall$Ledger;)V"⟩
abbrev cX4_start : ByteArray := prog_6_method_2_code
def yX4_start : MethodName := ⟨RX4, "start", "(IIZ)V"⟩
abbrev cX4_leaveOut : ByteArray := prog_6_method_3_code
def yX4_leaveOut : MethodName := ⟨RX4, "leaveOut", "(I)V"⟩
abbrev cX4_find : ByteArray := prog_6_method_4_code
def yX4_find : MethodName := ⟨RX4, "find", "(II)Z"⟩
abbrev cX4_allFees : ByteArray := prog_6_method_5_code
def yX4_allFees : MethodName := ⟨RX4, "allFees", "()I"⟩
abbrev cX4_feesBehindFirst : ByteArray := prog_6_method_6_code
def yX4_feesBehindFirst : MethodName := ⟨RX4, "feesBehindFirst", "()I"⟩
abbrev cX4_feeOf : ByteArray := prog_6_method_7_code
def yX4_feeOf : MethodName := ⟨RX4, "feeOf", "(I)I"⟩
abbrev cX4_canOwe : ByteArray := prog_6_method_8_code
def yX4_canOwe : MethodName := ⟨RX4, "canOwe", "(II)Z"⟩
abbrev cX4_startAt : ByteArray := prog_6_method_9_code
def yX4_startAt : MethodName := ⟨RX4, "startAt", "(I)V"⟩
abbrev cX4_bestUnsettled : ByteArray := prog_6_method_10_code
def yX4_bestUnsettled : MethodName := ⟨RX4, "bestUnsettled", "()I"⟩
abbrev cX4_isBetter : ByteArray := prog_6_method_11_code
def yX4_isBetter : MethodName := ⟨RX4, "isBetter", "(III)Z"⟩
abbrev cX4_reachFromBest : ByteArray := prog_6_method_12_code
def yX4_reachFromBest : MethodName := ⟨RX4, "reachFromBest", "()V"⟩
abbrev cX4_follow : ByteArray := prog_6_method_13_code
def yX4_follow : MethodName := ⟨RX4, "follow", "(II)V"⟩
abbrev cX4_nextOf : ByteArray := prog_6_method_14_code
def yX4_nextOf : MethodName := ⟨RX4, "nextOf", "(I)I"⟩
def RX5 : String := "HundiHall"
def TX5 : u_T := fun k => match k with
  | 0 => ("HundiHall", "brokers", "[LHundiHall$Broker;", true)
  | 1 => ("HundiHall", "orders", "[LHundiHall$Order;", true)
  | 2 => ("HundiHall", "couriers", "[LHundiHall$Courier;", true)
  | 3 => ("HundiHall", "ledger", "LHundiHall$Ledger;", true)
  | 4 => ("HundiHall", "finder", "LHundiHall$WayFinder;", true)
  | 5 => ("HundiHall", "bounds", "[I", true)
  | 6 => ("HundiHall", "told", "[I", true)
  | 7 => ("HundiHall", "listed", "[Z", true)
  | 8 => ("HundiHall", "brokerCount", "I", false)
  | 9 => ("HundiHall", "orderCount", "I", false)
  | 10 => ("HundiHall", "courierCount", "I", false)
  | 11 => ("HundiHall", "hour", "I", false)
  | 12 => ("HundiHall", "isFestival", "Z", false)
  | _ => ("HundiHall", "seized", "J", false)
def tyX5 : Nat → FieldType := fun k => match k with
  | 0 => .array (.object "HundiHall$Broker")
  | 1 => .array (.object "HundiHall$Order")
  | 2 => .array (.object "HundiHall$Courier")
  | 3 => .object "HundiHall$Ledger"
  | 4 => .object "HundiHall$WayFinder"
  | 5 => .array .int
  | 6 => .array .int
  | 7 => .array .boolean
  | 8 => .int
  | 9 => .int
  | 10 => .int
  | 11 => .int
  | 12 => .boolean
  | _ => .long
theorem nmX5 : ∀ a, a < 14 → ∀ b, b < 14 → a ≠ b → (TX5 a).2.1 ≠ (TX5 b).2.1 := by decide +kernel
theorem tyX5_ok : ∀ k, k < 14 → parseFieldDescriptor (TX5 k).2.2.1 = some (tyX5 k) := by decide +kernel
abbrev cX5_init : ByteArray := prog_1_method_1_code
def yX5_init : MethodName := ⟨RX5, "<init>", "()V"⟩
abbrev cX5_broker : ByteArray := prog_1_method_2_code
def yX5_broker : MethodName := ⟨RX5, "broker", "(III)I"⟩
abbrev cX5_rate : ByteArray := prog_1_method_3_code
def yX5_rate : MethodName := ⟨RX5, "rate", "(II)I"⟩
abbrev cX5_trust : ByteArray := prog_1_method_4_code
def yX5_trust : MethodName := ⟨RX5, "trust", "(IIIZ)V"⟩
abbrev cX5_festival : ByteArray := prog_1_method_5_code
def yX5_festival : MethodName := ⟨RX5, "festival", "()Z"⟩
abbrev cX5_breakWord : ByteArray := prog_1_method_6_code
def yX5_breakWord : MethodName := ⟨RX5, "breakWord", "(I)I"⟩
abbrev cX5_raid : ByteArray := prog_1_method_7_code
def yX5_raid : MethodName := ⟨RX5, "raid", "(I)I"⟩
abbrev cX5_order : ByteArray := prog_1_method_8_code
def yX5_order : MethodName := ⟨RX5, "order", "(IIIII)I"⟩
abbrev cX5_fetch : ByteArray := prog_1_method_9_code
def yX5_fetch : MethodName := ⟨RX5, "fetch", "(II)I"⟩
abbrev cX5_pass : ByteArray := prog_1_method_10_code
def yX5_pass : MethodName := ⟨RX5, "pass", "(I)I"⟩
abbrev cX5_pay : ByteArray := prog_1_method_11_code
def yX5_pay : MethodName := ⟨RX5, "pay", "(III)I"⟩
abbrev cX5_deliver : ByteArray := prog_1_method_12_code
def yX5_deliver : MethodName := ⟨RX5, "deliver", "(III)I"⟩
abbrev cX5_courier : ByteArray := prog_1_method_13_code
def yX5_courier : MethodName := ⟨RX5, "courier", "(IIII)I"⟩
abbrev cX5_rob : ByteArray := prog_1_method_14_code
def yX5_rob : MethodName := ⟨RX5, "rob", "(I)I"⟩
abbrev cX5_ring : ByteArray := prog_1_method_15_code
def yX5_ring : MethodName := ⟨RX5, "ring", "()J"⟩
abbrev cX5_law : ByteArray := prog_1_method_16_code
def yX5_law : MethodName := ⟨RX5, "law", "(II)I"⟩
abbrev cX5_list : ByteArray := prog_1_method_17_code
def yX5_list : MethodName := ⟨RX5, "list", "(I)Z"⟩
abbrev cX5_brokerOf : ByteArray := prog_1_method_18_code
def yX5_brokerOf : MethodName := ⟨RX5, "brokerOf", "(II)J"⟩
abbrev cX5_debt : ByteArray := prog_1_method_19_code
def yX5_debt : MethodName := ⟨RX5, "debt", "(IIZ)J"⟩
abbrev cX5_agree : ByteArray := prog_1_method_20_code
def yX5_agree : MethodName := ⟨RX5, "agree", "(II)Z"⟩
abbrev cX5_way : ByteArray := prog_1_method_21_code
def yX5_way : MethodName := ⟨RX5, "way", "(IIII)I"⟩
abbrev cX5_wayOf : ByteArray := prog_1_method_22_code
def yX5_wayOf : MethodName := ⟨RX5, "wayOf", "(II)I"⟩
abbrev cX5_orderOf : ByteArray := prog_1_method_23_code
def yX5_orderOf : MethodName := ⟨RX5, "orderOf", "(II)I"⟩
abbrev cX5_inquiry : ByteArray := prog_1_method_24_code
def yX5_inquiry : MethodName := ⟨RX5, "inquiry", "()I"⟩
abbrev cX5_sum : ByteArray := prog_1_method_25_code
def yX5_sum : MethodName := ⟨RX5, "sum", "(I)J"⟩
abbrev cX5_requireIndex : ByteArray := prog_1_method_26_code
def yX5_requireIndex : MethodName := ⟨RX5, "requireIndex", "(II)V"⟩
abbrev cX5_requirePlace : ByteArray := prog_1_method_27_code
def yX5_requirePlace : MethodName := ⟨RX5, "requirePlace", "(I)V"⟩
abbrev cX5_requireRange : ByteArray := prog_1_method_28_code
def yX5_requireRange : MethodName := ⟨RX5, "requireRange", "(III)V"⟩
abbrev cX5_requireState : ByteArray := prog_1_method_29_code
def yX5_requireState : MethodName := ⟨RX5, "requireState", "(Z)V"⟩
abbrev cX5_requireTwoBrokers : ByteArray := prog_1_method_30_code
def yX5_requireTwoBrokers : MethodName := ⟨RX5, "requireTwoBrokers", "(II)V"⟩
abbrev cX5_findWay : ByteArray := prog_1_method_31_code
def yX5_findWay : MethodName := ⟨RX5, "findWay", "(III)Z"⟩
abbrev cX5_letArise : ByteArray := prog_1_method_32_code
def yX5_letArise : MethodName := ⟨RX5, "letArise", "(LHundiHall$Order;)V"⟩
abbrev cX5_takeBack : ByteArray := prog_1_method_33_code
def yX5_takeBack : MethodName := ⟨RX5, "takeBack", "(LHundiHall$Order;II)V"⟩
abbrev cX5_goBack : ByteArray := prog_1_method_34_code
def yX5_goBack : MethodName := ⟨RX5, "goBack", "(LHundiHall$Order;)V"⟩
abbrev cX5_endForward : ByteArray := prog_1_method_35_code
def yX5_endForward : MethodName := ⟨RX5, "endForward", "(LHundiHall$Order;)V"⟩
abbrev cX5_loseOrdersFrom : ByteArray := prog_1_method_36_code
def yX5_loseOrdersFrom : MethodName := ⟨RX5, "loseOrdersFrom", "(I)I"⟩
abbrev cX5_avoid : ByteArray := prog_1_method_37_code
def yX5_avoid : MethodName := ⟨RX5, "avoid", "(I)V"⟩
abbrev cX5_lookAnew : ByteArray := prog_1_method_38_code
def yX5_lookAnew : MethodName := ⟨RX5, "lookAnew", "(LHundiHall$Order;)V"⟩
abbrev cX5_tellTown : ByteArray := prog_1_method_39_code
def yX5_tellTown : MethodName := ⟨RX5, "tellTown", "(II)V"⟩
abbrev cX5_passHour : ByteArray := prog_1_method_40_code
def yX5_passHour : MethodName := ⟨RX5, "passHour", "()V"⟩
abbrev cX5_endRaids : ByteArray := prog_1_method_41_code
def yX5_endRaids : MethodName := ⟨RX5, "endRaids", "()V"⟩
abbrev cX5_moveMessages : ByteArray := prog_1_method_42_code
def yX5_moveMessages : MethodName := ⟨RX5, "moveMessages", "()V"⟩
abbrev cX5_sendBackOld : ByteArray := prog_1_method_43_code
def yX5_sendBackOld : MethodName := ⟨RX5, "sendBackOld", "()V"⟩
abbrev cX5_giveBack : ByteArray := prog_1_method_44_code
def yX5_giveBack : MethodName := ⟨RX5, "giveBack", "()V"⟩
abbrev cX5_receiveCouriers : ByteArray := prog_1_method_45_code
def yX5_receiveCouriers : MethodName := ⟨RX5, "receiveCouriers", "()V"⟩
abbrev cX5_clearRing : ByteArray := prog_1_method_46_code
def yX5_clearRing : MethodName := ⟨RX5, "clearRing", "(III)J"⟩
abbrev cX5_worthOf : ByteArray := prog_1_method_47_code
def yX5_worthOf : MethodName := ⟨RX5, "worthOf", "(I)J"⟩
abbrev cX5_namedByBook : ByteArray := prog_1_method_48_code
def yX5_namedByBook : MethodName := ⟨RX5, "namedByBook", "(I)I"⟩
abbrev cX5_sumGiven : ByteArray := prog_1_method_49_code
def yX5_sumGiven : MethodName := ⟨RX5, "sumGiven", "()J"⟩
abbrev cX5_sumGivenIn : ByteArray := prog_1_method_50_code
def yX5_sumGivenIn : MethodName := ⟨RX5, "sumGivenIn", "(I)J"⟩
abbrev cX5_sumPaidOut : ByteArray := prog_1_method_51_code
def yX5_sumPaidOut : MethodName := ⟨RX5, "sumPaidOut", "()J"⟩
abbrev cX5_sumRobbed : ByteArray := prog_1_method_52_code
def yX5_sumRobbed : MethodName := ⟨RX5, "sumRobbed", "()J"⟩
abbrev cX5_sumOnRoad : ByteArray := prog_1_method_53_code
def yX5_sumOnRoad : MethodName := ⟨RX5, "sumOnRoad", "()J"⟩
abbrev cX5_sumCash : ByteArray := prog_1_method_54_code
def yX5_sumCash : MethodName := ⟨RX5, "sumCash", "()J"⟩
def RX6 : String := "HundiHallModel"
def TX6 : u_T := fun k => match k with
  | 0 => ("HundiHallModel", "thrown", "I", false)
  | 1 => ("HundiHallModel", "hour", "I", false)
  | 2 => ("HundiHallModel", "isFestival", "Z", false)
  | 3 => ("HundiHallModel", "brokers", "I", false)
  | 4 => ("HundiHallModel", "town", "[I", true)
  | 5 => ("HundiHallModel", "cash", "[J", true)
  | 6 => ("HundiHallModel", "rate", "[I", true)
  | 7 => ("HundiHallModel", "state", "[I", true)
  | 8 => ("HundiHallModel", "until", "[I", true)
  | 9 => ("HundiHallModel", "wasRaided", "[Z", true)
  | 10 => ("HundiHallModel", "limit", "[I", true)
  | 11 => ("HundiHallModel", "isKin", "[Z", true)
  | 12 => ("HundiHallModel", "owes", "[J", true)
  | 13 => ("HundiHallModel", "book", "[J", true)
  | 14 => ("HundiHallModel", "orders", "I", false)
  | 15 => ("HundiHallModel", "how", "[I", true)
  | 16 => ("HundiHallModel", "amountOf", "[I", true)
  | 17 => ("HundiHallModel", "gave", "[I", true)
  | 18 => ("HundiHallModel", "codeOf", "[I", true)
  | 19 => ("HundiHallModel", "falseCodes", "[I", true)
  | 20 => ("HundiHallModel", "since", "[I", true)
  | 21 => ("HundiHallModel", "at", "[I", true)
  | 22 => ("HundiHallModel", "many", "[I", true)
  | 23 => ("HundiHallModel", "wayOf", "[I", true)
  | 24 => ("HundiHallModel", "arose", "[I", true)
  | 25 => ("HundiHallModel", "couriers", "I", false)
  | 26 => ("HundiHallModel", "carries", "[I", true)
  | 27 => ("HundiHallModel", "carrier", "[I", true)
  | 28 => ("HundiHallModel", "goesTo", "[I", true)
  | 29 => ("HundiHallModel", "comesAt", "[I", true)
  | 30 => ("HundiHallModel", "isOver", "[Z", true)
  | 31 => ("HundiHallModel", "bound", "[I", true)
  | 32 => ("HundiHallModel", "toldTo", "[I", true)
  | 33 => ("HundiHallModel", "isListed", "[Z", true)
  | 34 => ("HundiHallModel", "sums", "[J", true)
  | 35 => ("HundiHallModel", "fees", "[J", true)
  | 36 => ("HundiHallModel", "length", "[I", true)
  | _ => ("HundiHallModel", "found", "[I", true)
def tyX6 : Nat → FieldType := fun k => match k with
  | 0 => .int
  | 1 => .int
  | 2 => .boolean
  | 3 => .int
  | 4 => .array .int
  | 5 => .array .long
  | 6 => .array .int
  | 7 => .array .int
  | 8 => .array .int
  | 9 => .array .boolean
  | 10 => .array .int
  | 11 => .array .boolean
  | 12 => .array .long
  | 13 => .array .long
  | 14 => .int
  | 15 => .array .int
  | 16 => .array .int
  | 17 => .array .int
  | 18 => .array .int
  | 19 => .array .int
  | 20 => .array .int
  | 21 => .array .int
  | 22 => .array .int
  | 23 => .array .int
  | 24 => .array .int
  | 25 => .int
  | 26 => .array .int
  | 27 => .array .int
  | 28 => .array .int
  | 29 => .array .int
  | 30 => .array .boolean
  | 31 => .array .int
  | 32 => .array .int
  | 33 => .array .boolean
  | 34 => .array .long
  | 35 => .array .long
  | 36 => .array .int
  | _ => .array .int
theorem nmX6 : ∀ a, a < 38 → ∀ b, b < 38 → a ≠ b → (TX6 a).2.1 ≠ (TX6 b).2.1 := by decide +kernel
theorem tyX6_ok : ∀ k, k < 38 → parseFieldDescriptor (TX6 k).2.2.1 = some (tyX6 k) := by decide +kernel
abbrev cX6_init : ByteArray := prog_8_method_1_code
def yX6_init : MethodName := ⟨RX6, "<init>", "()V"⟩
abbrev cX6_thrown : ByteArray := prog_8_method_2_code
def yX6_thrown : MethodName := ⟨RX6, "thrown", "()I"⟩
abbrev cX6_goesWell : ByteArray := prog_8_method_3_code
def yX6_goesWell : MethodName := ⟨RX6, "goesWell", "(I)Z"⟩
abbrev cX6_in : ByteArray := prog_8_method_4_code
def yX6_in : MethodName := ⟨RX6, "in", "(III)Z"⟩
abbrev cX6_isBroker : ByteArray := prog_8_method_5_code
def yX6_isBroker : MethodName := ⟨RX6, "isBroker", "(I)Z"⟩
abbrev cX6_areBrokers : ByteArray := prog_8_method_6_code
def yX6_areBrokers : MethodName := ⟨RX6, "areBrokers", "(II)Z"⟩
abbrev cX6_broker : ByteArray := prog_8_method_7_code
def yX6_broker : MethodName := ⟨RX6, "broker", "(III)I"⟩
abbrev cX6_rate : ByteArray := prog_8_method_8_code
def yX6_rate : MethodName := ⟨RX6, "rate", "(II)I"⟩
abbrev cX6_trust : ByteArray := prog_8_method_9_code
def yX6_trust : MethodName := ⟨RX6, "trust", "(IIIZ)V"⟩
abbrev cX6_festival : ByteArray := prog_8_method_10_code
def yX6_festival : MethodName := ⟨RX6, "festival", "()Z"⟩
abbrev cX6_owe : ByteArray := prog_8_method_11_code
def yX6_owe : MethodName := ⟨RX6, "owe", "([JIIJ)V"⟩
abbrev cX6_oweBoth : ByteArray := prog_8_method_12_code
def yX6_oweBoth : MethodName := ⟨RX6, "oweBoth", "(IIJ)V"⟩
abbrev cX6_oweOn : ByteArray := prog_8_method_13_code
def yX6_oweOn : MethodName := ⟨RX6, "oweOn", "(III)V"⟩
abbrev cX6_takeBack : ByteArray := prog_8_method_14_code
def yX6_takeBack : MethodName := ⟨RX6, "takeBack", "(II)V"⟩
abbrev cX6_feeOf : ByteArray := prog_8_method_15_code
def yX6_feeOf : MethodName := ⟨RX6, "feeOf", "(II)J"⟩
abbrev cX6_limitOf : ByteArray := prog_8_method_16_code
def yX6_limitOf : MethodName := ⟨RX6, "limitOf", "(II)J"⟩
abbrev cX6_canOwe : ByteArray := prog_8_method_17_code
def yX6_canOwe : MethodName := ⟨RX6, "canOwe", "(III)Z"⟩
abbrev cX6_findWays : ByteArray := prog_8_method_18_code
def yX6_findWays : MethodName := ⟨RX6, "findWays", "(III)V"⟩
abbrev cX6_findWay : ByteArray := prog_8_method_19_code
def yX6_findWay : MethodName := ⟨RX6, "findWay", "(IIII)I"⟩
abbrev cX6_lay : ByteArray := prog_8_method_20_code
def yX6_lay : MethodName := ⟨RX6, "lay", "(III)V"⟩
abbrev cX6_firstOf : ByteArray := prog_8_method_21_code
def yX6_firstOf : MethodName := ⟨RX6, "firstOf", "(I)I"⟩
abbrev cX6_goBack : ByteArray := prog_8_method_22_code
def yX6_goBack : MethodName := ⟨RX6, "goBack", "(I)V"⟩
abbrev cX6_placeOn : ByteArray := prog_8_method_23_code
def yX6_placeOn : MethodName := ⟨RX6, "placeOn", "(II)I"⟩
abbrev cX6_goElsewhere : ByteArray := prog_8_method_24_code
def yX6_goElsewhere : MethodName := ⟨RX6, "goElsewhere", "(I)V"⟩
abbrev cX6_failsFor : ByteArray := prog_8_method_25_code
def yX6_failsFor : MethodName := ⟨RX6, "failsFor", "(I)V"⟩
abbrev cX6_breakWord : ByteArray := prog_8_method_26_code
def yX6_breakWord : MethodName := ⟨RX6, "breakWord", "(I)I"⟩
abbrev cX6_raid : ByteArray := prog_8_method_27_code
def yX6_raid : MethodName := ⟨RX6, "raid", "(I)I"⟩
abbrev cX6_order : ByteArray := prog_8_method_28_code
def yX6_order : MethodName := ⟨RX6, "order", "(IIIII)I"⟩
abbrev cX6_isOrder : ByteArray := prog_8_method_29_code
def yX6_isOrder : MethodName := ⟨RX6, "isOrder", "(I)Z"⟩
abbrev cX6_fetch : ByteArray := prog_8_method_30_code
def yX6_fetch : MethodName := ⟨RX6, "fetch", "(II)I"⟩
abbrev cX6_move : ByteArray := prog_8_method_31_code
def yX6_move : MethodName := ⟨RX6, "move", "(I)V"⟩
abbrev cX6_comeAll : ByteArray := prog_8_method_32_code
def yX6_comeAll : MethodName := ⟨RX6, "comeAll", "()V"⟩
abbrev cX6_nextHour : ByteArray := prog_8_method_33_code
def yX6_nextHour : MethodName := ⟨RX6, "nextHour", "()V"⟩
abbrev cX6_pass : ByteArray := prog_8_method_34_code
def yX6_pass : MethodName := ⟨RX6, "pass", "(I)I"⟩
abbrev cX6_pay : ByteArray := prog_8_method_35_code
def yX6_pay : MethodName := ⟨RX6, "pay", "(III)I"⟩
abbrev cX6_deliver : ByteArray := prog_8_method_36_code
def yX6_deliver : MethodName := ⟨RX6, "deliver", "(III)I"⟩
abbrev cX6_courier : ByteArray := prog_8_method_37_code
def yX6_courier : MethodName := ⟨RX6, "courier", "(IIII)I"⟩
abbrev cX6_rob : ByteArray := prog_8_method_38_code
def yX6_rob : MethodName := ⟨RX6, "rob", "(I)I"⟩
abbrev cX6_clear : ByteArray := prog_8_method_39_code
def yX6_clear : MethodName := ⟨RX6, "clear", "(III)J"⟩
abbrev cX6_ring : ByteArray := prog_8_method_40_code
def yX6_ring : MethodName := ⟨RX6, "ring", "()J"⟩
abbrev cX6_law : ByteArray := prog_8_method_41_code
def yX6_law : MethodName := ⟨RX6, "law", "(II)I"⟩
abbrev cX6_list : ByteArray := prog_8_method_42_code
def yX6_list : MethodName := ⟨RX6, "list", "(I)Z"⟩
abbrev cX6_brokerOf : ByteArray := prog_8_method_43_code
def yX6_brokerOf : MethodName := ⟨RX6, "brokerOf", "(II)J"⟩
abbrev cX6_debt : ByteArray := prog_8_method_44_code
def yX6_debt : MethodName := ⟨RX6, "debt", "(IIZ)J"⟩
abbrev cX6_agree : ByteArray := prog_8_method_45_code
def yX6_agree : MethodName := ⟨RX6, "agree", "(II)Z"⟩
abbrev cX6_way : ByteArray := prog_8_method_46_code
def yX6_way : MethodName := ⟨RX6, "way", "(IIII)I"⟩
abbrev cX6_wayOf : ByteArray := prog_8_method_47_code
def yX6_wayOf : MethodName := ⟨RX6, "wayOf", "(II)I"⟩
abbrev cX6_orderOf : ByteArray := prog_8_method_48_code
def yX6_orderOf : MethodName := ⟨RX6, "orderOf", "(II)I"⟩
abbrev cX6_inquiry : ByteArray := prog_8_method_49_code
def yX6_inquiry : MethodName := ⟨RX6, "inquiry", "()I"⟩
abbrev cX6_sum : ByteArray := prog_8_method_50_code
def yX6_sum : MethodName := ⟨RX6, "sum", "(I)J"⟩
def RJ9 : String := "java/lang/Math"
def TJ9 : u_T := fun k => match k with
  | _ => ("", "", "", false)
def tyJ9 : Nat → FieldType := fun k => match k with
  | _ => .int
theorem nmJ9 : ∀ a, a < 0 → ∀ b, b < 0 → a ≠ b → (TJ9 a).2.1 ≠ (TJ9 b).2.1 := by decide +kernel
theorem tyJ9_ok : ∀ k, k < 0 → parseFieldDescriptor (TJ9 k).2.2.1 = some (tyJ9 k) := by decide +kernel
abbrev cJ9_min_f86c9 : ByteArray := prog_13_method_70_code
def yJ9_min_f86c9 : MethodName := ⟨RJ9, "min", "(JJ)J"⟩
def RJ0 : String := "java/lang/String"
def TJ0 : u_T := fun k => match k with
  | _ => ("", "", "", false)
def tyJ0 : Nat → FieldType := fun k => match k with
  | _ => .int
theorem nmJ0 : ∀ a, a < 0 → ∀ b, b < 0 → a ≠ b → (TJ0 a).2.1 ≠ (TJ0 b).2.1 := by decide +kernel
theorem tyJ0_ok : ∀ k, k < 0 → parseFieldDescriptor (TJ0 k).2.2.1 = some (tyJ0 k) := by decide +kernel
def RL : String := "HundiHallLaw"
abbrev cL_broker : ByteArray := method_3_code
def yL_broker : MethodName := ⟨RL, "broker", "(LHundiHall;III[J)I"⟩
abbrev cL_rate : ByteArray := method_4_code
def yL_rate : MethodName := ⟨RL, "rate", "(LHundiHall;II[J)I"⟩
abbrev cL_trust : ByteArray := method_5_code
def yL_trust : MethodName := ⟨RL, "trust", "(LHundiHall;IIIZ)I"⟩
abbrev cL_breakWord : ByteArray := method_6_code
def yL_breakWord : MethodName := ⟨RL, "breakWord", "(LHundiHall;I[J)I"⟩
abbrev cL_raid : ByteArray := method_7_code
def yL_raid : MethodName := ⟨RL, "raid", "(LHundiHall;I[J)I"⟩
abbrev cL_order : ByteArray := method_8_code
def yL_order : MethodName := ⟨RL, "order", "(LHundiHall;IIIII[J)I"⟩
abbrev cL_fetch : ByteArray := method_9_code
def yL_fetch : MethodName := ⟨RL, "fetch", "(LHundiHall;II[J)I"⟩
abbrev cL_pass : ByteArray := method_10_code
def yL_pass : MethodName := ⟨RL, "pass", "(LHundiHall;I[J)I"⟩
abbrev cL_pay : ByteArray := method_11_code
def yL_pay : MethodName := ⟨RL, "pay", "(LHundiHall;III[J)I"⟩
abbrev cL_deliver : ByteArray := method_12_code
def yL_deliver : MethodName := ⟨RL, "deliver", "(LHundiHall;III[J)I"⟩
abbrev cL_courier : ByteArray := method_13_code
def yL_courier : MethodName := ⟨RL, "courier", "(LHundiHall;IIII[J)I"⟩
abbrev cL_rob : ByteArray := method_14_code
def yL_rob : MethodName := ⟨RL, "rob", "(LHundiHall;I[J)I"⟩
abbrev cL_law : ByteArray := method_15_code
def yL_law : MethodName := ⟨RL, "law", "(LHundiHall;II[J)I"⟩
abbrev cL_list : ByteArray := method_16_code
def yL_list : MethodName := ⟨RL, "list", "(LHundiHall;I[J)I"⟩
abbrev cL_brokerOf : ByteArray := method_17_code
def yL_brokerOf : MethodName := ⟨RL, "brokerOf", "(LHundiHall;II[J)I"⟩
abbrev cL_debt : ByteArray := method_18_code
def yL_debt : MethodName := ⟨RL, "debt", "(LHundiHall;IIZ[J)I"⟩
abbrev cL_agree : ByteArray := method_19_code
def yL_agree : MethodName := ⟨RL, "agree", "(LHundiHall;II[J)I"⟩
abbrev cL_way : ByteArray := method_20_code
def yL_way : MethodName := ⟨RL, "way", "(LHundiHall;IIII[J)I"⟩
abbrev cL_wayOf : ByteArray := method_21_code
def yL_wayOf : MethodName := ⟨RL, "wayOf", "(LHundiHall;II[J)I"⟩
abbrev cL_orderOf : ByteArray := method_22_code
def yL_orderOf : MethodName := ⟨RL, "orderOf", "(LHundiHall;II[J)I"⟩
abbrev cL_sum : ByteArray := method_23_code
def yL_sum : MethodName := ⟨RL, "sum", "(LHundiHall;I[J)I"⟩
abbrev cL_law_ : ByteArray := code
def yL_law_ : MethodName := ⟨RL, "law", "([I)Z"⟩
theorem dX0_init_0 : decode cX0_init 0 = .ok (.aload_n 0, 1) := by decide +kernel
theorem dX0_init_1 : decode cX0_init 1 = .ok (.invokespecial 3, 3) := by decide +kernel
theorem dX0_init_4 : decode cX0_init 4 = .ok (.aload_n 0, 1) := by decide +kernel
theorem dX0_init_5 : decode cX0_init 5 = .ok (.bipush 12, 2) := by decide +kernel
theorem dX0_init_7 : decode cX0_init 7 = .ok (.newarray .int, 2) := by decide +kernel
theorem dX0_init_9 : decode cX0_init 9 = .ok (.putfield 9, 3) := by decide +kernel
theorem dX0_init_12 : decode cX0_init 12 = .ok (.aload_n 0, 1) := by decide +kernel
theorem dX0_init_13 : decode cX0_init 13 = .ok (.bipush 12, 2) := by decide +kernel
theorem dX0_init_15 : decode cX0_init 15 = .ok (.newarray .boolean, 2) := by decide +kernel
theorem dX0_init_17 : decode cX0_init 17 = .ok (.putfield 15, 3) := by decide +kernel
theorem dX0_init_20 : decode cX0_init 20 = .ok (.return_, 1) := by decide +kernel
theorem dX0_isGood_0 : decode cX0_isGood 0 = .ok (.aload_n 0, 1) := by decide +kernel
theorem dX0_isGood_1 : decode cX0_isGood 1 = .ok (.getfield 19, 3) := by decide +kernel
theorem dX0_isGood_4 : decode cX0_isGood 4 = .ok (.ifCond .ne 7, 3) := by decide +kernel
theorem dX0_isGood_7 : decode cX0_isGood 7 = .ok (.iconst 1, 1) := by decide +kernel
theorem dX0_isGood_8 : decode cX0_isGood 8 = .ok (.goto 4, 3) := by decide +kernel
theorem dX0_isGood_11 : decode cX0_isGood 11 = .ok (.iconst 0, 1) := by decide +kernel
theorem dX0_isGood_12 : decode cX0_isGood 12 = .ok (.ireturn, 1) := by decide +kernel
theorem dX0_limitNow_0 : decode cX0_limitNow 0 = .ok (.iload_n 2, 1) := by decide +kernel
theorem dX0_limitNow_1 : decode cX0_limitNow 1 = .ok (.ifCond .eq 23, 3) := by decide +kernel
theorem dX0_limitNow_4 : decode cX0_limitNow 4 = .ok (.aload_n 0, 1) := by decide +kernel
theorem dX0_limitNow_5 : decode cX0_limitNow 5 = .ok (.getfield 15, 3) := by decide +kernel
theorem dX0_limitNow_8 : decode cX0_limitNow 8 = .ok (.iload_n 1, 1) := by decide +kernel
theorem dX0_limitNow_9 : decode cX0_limitNow 9 = .ok (.baload, 1) := by decide +kernel
theorem dX0_limitNow_10 : decode cX0_limitNow 10 = .ok (.ifCond .eq 14, 3) := by decide +kernel
theorem dX0_limitNow_13 : decode cX0_limitNow 13 = .ok (.iconst 2, 1) := by decide +kernel
theorem dX0_limitNow_14 : decode cX0_limitNow 14 = .ok (.aload_n 0, 1) := by decide +kernel
theorem dX0_limitNow_15 : decode cX0_limitNow 15 = .ok (.getfield 9, 3) := by decide +kernel
theorem dX0_limitNow_18 : decode cX0_limitNow 18 = .ok (.iload_n 1, 1) := by decide +kernel
theorem dX0_limitNow_19 : decode cX0_limitNow 19 = .ok (.iaload, 1) := by decide +kernel
theorem dX0_limitNow_20 : decode cX0_limitNow 20 = .ok (.imul, 1) := by decide +kernel
theorem dX0_limitNow_21 : decode cX0_limitNow 21 = .ok (.goto 9, 3) := by decide +kernel
theorem dX0_limitNow_24 : decode cX0_limitNow 24 = .ok (.aload_n 0, 1) := by decide +kernel
theorem dX0_limitNow_25 : decode cX0_limitNow 25 = .ok (.getfield 9, 3) := by decide +kernel
theorem dX0_limitNow_28 : decode cX0_limitNow 28 = .ok (.iload_n 1, 1) := by decide +kernel
theorem dX0_limitNow_29 : decode cX0_limitNow 29 = .ok (.iaload, 1) := by decide +kernel
theorem dX0_limitNow_30 : decode cX0_limitNow 30 = .ok (.ireturn, 1) := by decide +kernel
theorem dX1_init_0 : decode cX1_init 0 = .ok (.aload_n 0, 1) := by decide +kernel
theorem dX1_init_1 : decode cX1_init 1 = .ok (.invokespecial 1, 3) := by decide +kernel
theorem dX1_init_4 : decode cX1_init 4 = .ok (.return_, 1) := by decide +kernel
theorem dX2_init_0 : decode cX2_init 0 = .ok (.aload_n 0, 1) := by decide +kernel
theorem dX2_init_1 : decode cX2_init 1 = .ok (.invokespecial 3, 3) := by decide +kernel
theorem dX2_init_4 : decode cX2_init 4 = .ok (.aload_n 0, 1) := by decide +kernel
theorem dX2_init_5 : decode cX2_init 5 = .ok (.bipush 12, 2) := by decide +kernel
theorem dX2_init_7 : decode cX2_init 7 = .ok (.bipush 12, 2) := by decide +kernel
theorem dX2_init_9 : decode cX2_init 9 = .ok (.multianewarray 9 2, 4) := by decide +kernel
theorem dX2_init_13 : decode cX2_init 13 = .ok (.putfield 11, 3) := by decide +kernel
theorem dX2_init_16 : decode cX2_init 16 = .ok (.aload_n 0, 1) := by decide +kernel
theorem dX2_init_17 : decode cX2_init 17 = .ok (.bipush 12, 2) := by decide +kernel
theorem dX2_init_19 : decode cX2_init 19 = .ok (.bipush 12, 2) := by decide +kernel
theorem dX2_init_21 : decode cX2_init 21 = .ok (.multianewarray 9 2, 4) := by decide +kernel
theorem dX2_init_25 : decode cX2_init 25 = .ok (.putfield 16, 3) := by decide +kernel
theorem dX2_init_28 : decode cX2_init 28 = .ok (.return_, 1) := by decide +kernel
theorem dX2_change_0 : decode cX2_change 0 = .ok (.aload_n 0, 1) := by decide +kernel
theorem dX2_change_1 : decode cX2_change 1 = .ok (.getfield 11, 3) := by decide +kernel
theorem dX2_change_4 : decode cX2_change 4 = .ok (.iload_n 1, 1) := by decide +kernel
theorem dX2_change_5 : decode cX2_change 5 = .ok (.aaload, 1) := by decide +kernel
theorem dX2_change_6 : decode cX2_change 6 = .ok (.iload_n 2, 1) := by decide +kernel
theorem dX2_change_7 : decode cX2_change 7 = .ok (.dup2, 1) := by decide +kernel
theorem dX2_change_8 : decode cX2_change 8 = .ok (.laload, 1) := by decide +kernel
theorem dX2_change_9 : decode cX2_change 9 = .ok (.lload_n 3, 1) := by decide +kernel
theorem dX2_change_10 : decode cX2_change 10 = .ok (.ladd, 1) := by decide +kernel
theorem dX2_change_11 : decode cX2_change 11 = .ok (.lastore, 1) := by decide +kernel
theorem dX2_change_12 : decode cX2_change 12 = .ok (.aload_n 0, 1) := by decide +kernel
theorem dX2_change_13 : decode cX2_change 13 = .ok (.getfield 11, 3) := by decide +kernel
theorem dX2_change_16 : decode cX2_change 16 = .ok (.iload_n 2, 1) := by decide +kernel
theorem dX2_change_17 : decode cX2_change 17 = .ok (.aaload, 1) := by decide +kernel
theorem dX2_change_18 : decode cX2_change 18 = .ok (.iload_n 1, 1) := by decide +kernel
theorem dX2_change_19 : decode cX2_change 19 = .ok (.dup2, 1) := by decide +kernel
theorem dX2_change_20 : decode cX2_change 20 = .ok (.laload, 1) := by decide +kernel
theorem dX2_change_21 : decode cX2_change 21 = .ok (.lload_n 3, 1) := by decide +kernel
theorem dX2_change_22 : decode cX2_change 22 = .ok (.lsub, 1) := by decide +kernel
theorem dX2_change_23 : decode cX2_change 23 = .ok (.lastore, 1) := by decide +kernel
theorem dX2_change_24 : decode cX2_change 24 = .ok (.return_, 1) := by decide +kernel
theorem dX2_write_0 : decode cX2_write 0 = .ok (.aload_n 0, 1) := by decide +kernel
theorem dX2_write_1 : decode cX2_write 1 = .ok (.getfield 16, 3) := by decide +kernel
theorem dX2_write_4 : decode cX2_write 4 = .ok (.iload_n 1, 1) := by decide +kernel
theorem dX2_write_5 : decode cX2_write 5 = .ok (.aaload, 1) := by decide +kernel
theorem dX2_write_6 : decode cX2_write 6 = .ok (.iload_n 2, 1) := by decide +kernel
theorem dX2_write_7 : decode cX2_write 7 = .ok (.dup2, 1) := by decide +kernel
theorem dX2_write_8 : decode cX2_write 8 = .ok (.laload, 1) := by decide +kernel
theorem dX2_write_9 : decode cX2_write 9 = .ok (.lload_n 3, 1) := by decide +kernel
theorem dX2_write_10 : decode cX2_write 10 = .ok (.ladd, 1) := by decide +kernel
theorem dX2_write_11 : decode cX2_write 11 = .ok (.lastore, 1) := by decide +kernel
theorem dX2_write_12 : decode cX2_write 12 = .ok (.return_, 1) := by decide +kernel
theorem dX2_changeKnown_0 : decode cX2_changeKnown 0 = .ok (.aload_n 0, 1) := by decide +kernel
theorem dX2_changeKnown_1 : decode cX2_changeKnown 1 = .ok (.iload_n 1, 1) := by decide +kernel
theorem dX2_changeKnown_2 : decode cX2_changeKnown 2 = .ok (.iload_n 2, 1) := by decide +kernel
theorem dX2_changeKnown_3 : decode cX2_changeKnown 3 = .ok (.lload_n 3, 1) := by decide +kernel
theorem dX2_changeKnown_4 : decode cX2_changeKnown 4 = .ok (.invokevirtual 19, 3) := by decide +kernel
theorem dX2_changeKnown_7 : decode cX2_changeKnown 7 = .ok (.aload_n 0, 1) := by decide +kernel
theorem dX2_changeKnown_8 : decode cX2_changeKnown 8 = .ok (.iload_n 1, 1) := by decide +kernel
theorem dX2_changeKnown_9 : decode cX2_changeKnown 9 = .ok (.iload_n 2, 1) := by decide +kernel
theorem dX2_changeKnown_10 : decode cX2_changeKnown 10 = .ok (.lload_n 3, 1) := by decide +kernel
theorem dX2_changeKnown_11 : decode cX2_changeKnown 11 = .ok (.invokevirtual 23, 3) := by decide +kernel
theorem dX2_changeKnown_14 : decode cX2_changeKnown 14 = .ok (.aload_n 0, 1) := by decide +kernel
theorem dX2_changeKnown_15 : decode cX2_changeKnown 15 = .ok (.iload_n 2, 1) := by decide +kernel
theorem dX2_changeKnown_16 : decode cX2_changeKnown 16 = .ok (.iload_n 1, 1) := by decide +kernel
theorem dX2_changeKnown_17 : decode cX2_changeKnown 17 = .ok (.lload_n 3, 1) := by decide +kernel
theorem dX2_changeKnown_18 : decode cX2_changeKnown 18 = .ok (.lneg, 1) := by decide +kernel
theorem dX2_changeKnown_19 : decode cX2_changeKnown 19 = .ok (.invokevirtual 23, 3) := by decide +kernel
theorem dX2_changeKnown_22 : decode cX2_changeKnown 22 = .ok (.return_, 1) := by decide +kernel
theorem dX3_init_0 : decode cX3_init 0 = .ok (.aload_n 0, 1) := by decide +kernel
theorem dX3_init_1 : decode cX3_init 1 = .ok (.invokespecial 3, 3) := by decide +kernel
theorem dX3_init_4 : decode cX3_init 4 = .ok (.aload_n 0, 1) := by decide +kernel
theorem dX3_init_5 : decode cX3_init 5 = .ok (.bipush 12, 2) := by decide +kernel
theorem dX3_init_7 : decode cX3_init 7 = .ok (.newarray .int, 2) := by decide +kernel
theorem dX3_init_9 : decode cX3_init 9 = .ok (.putfield 9, 3) := by decide +kernel
theorem dX3_init_12 : decode cX3_init 12 = .ok (.aload_n 0, 1) := by decide +kernel
theorem dX3_init_13 : decode cX3_init 13 = .ok (.bipush 12, 2) := by decide +kernel
theorem dX3_init_15 : decode cX3_init 15 = .ok (.newarray .int, 2) := by decide +kernel
theorem dX3_init_17 : decode cX3_init 17 = .ok (.putfield 15, 3) := by decide +kernel
theorem dX3_init_20 : decode cX3_init 20 = .ok (.return_, 1) := by decide +kernel
theorem dX3_firstBroker_0 : decode cX3_firstBroker 0 = .ok (.aload_n 0, 1) := by decide +kernel
theorem dX3_firstBroker_1 : decode cX3_firstBroker 1 = .ok (.getfield 9, 3) := by decide +kernel
theorem dX3_firstBroker_4 : decode cX3_firstBroker 4 = .ok (.iconst 0, 1) := by decide +kernel
theorem dX3_firstBroker_5 : decode cX3_firstBroker 5 = .ok (.iaload, 1) := by decide +kernel
theorem dX3_firstBroker_6 : decode cX3_firstBroker 6 = .ok (.ireturn, 1) := by decide +kernel
theorem dX3_lastBroker_0 : decode cX3_lastBroker 0 = .ok (.aload_n 0, 1) := by decide +kernel
theorem dX3_lastBroker_1 : decode cX3_lastBroker 1 = .ok (.getfield 18, 3) := by decide +kernel
theorem dX3_lastBroker_4 : decode cX3_lastBroker 4 = .ok (.ifCond .le 29, 3) := by decide +kernel
theorem dX3_lastBroker_7 : decode cX3_lastBroker 7 = .ok (.aload_n 0, 1) := by decide +kernel
theorem dX3_lastBroker_8 : decode cX3_lastBroker 8 = .ok (.getfield 18, 3) := by decide +kernel
theorem dX3_lastBroker_11 : decode cX3_lastBroker 11 = .ok (.aload_n 0, 1) := by decide +kernel
theorem dX3_lastBroker_12 : decode cX3_lastBroker 12 = .ok (.getfield 9, 3) := by decide +kernel
theorem dX3_lastBroker_15 : decode cX3_lastBroker 15 = .ok (.arraylength, 1) := by decide +kernel
theorem dX3_lastBroker_16 : decode cX3_lastBroker 16 = .ok (.if_icmp .gt 17, 3) := by decide +kernel
theorem dX3_lastBroker_19 : decode cX3_lastBroker 19 = .ok (.aload_n 0, 1) := by decide +kernel
theorem dX3_lastBroker_20 : decode cX3_lastBroker 20 = .ok (.getfield 9, 3) := by decide +kernel
theorem dX3_lastBroker_23 : decode cX3_lastBroker 23 = .ok (.aload_n 0, 1) := by decide +kernel
theorem dX3_lastBroker_24 : decode cX3_lastBroker 24 = .ok (.getfield 18, 3) := by decide +kernel
theorem dX3_lastBroker_27 : decode cX3_lastBroker 27 = .ok (.iconst 1, 1) := by decide +kernel
theorem dX3_lastBroker_28 : decode cX3_lastBroker 28 = .ok (.isub, 1) := by decide +kernel
theorem dX3_lastBroker_29 : decode cX3_lastBroker 29 = .ok (.iaload, 1) := by decide +kernel
theorem dX3_lastBroker_30 : decode cX3_lastBroker 30 = .ok (.goto 9, 3) := by decide +kernel
theorem dX3_lastBroker_33 : decode cX3_lastBroker 33 = .ok (.aload_n 0, 1) := by decide +kernel
theorem dX3_lastBroker_34 : decode cX3_lastBroker 34 = .ok (.getfield 9, 3) := by decide +kernel
theorem dX3_lastBroker_37 : decode cX3_lastBroker 37 = .ok (.iconst 0, 1) := by decide +kernel
theorem dX3_lastBroker_38 : decode cX3_lastBroker 38 = .ok (.iaload, 1) := by decide +kernel
theorem dX3_lastBroker_39 : decode cX3_lastBroker 39 = .ok (.ireturn, 1) := by decide +kernel
theorem dX3_brokerAt_0 : decode cX3_brokerAt 0 = .ok (.iload_n 1, 1) := by decide +kernel
theorem dX3_brokerAt_1 : decode cX3_brokerAt 1 = .ok (.ifCond .lt 29, 3) := by decide +kernel
theorem dX3_brokerAt_4 : decode cX3_brokerAt 4 = .ok (.iload_n 1, 1) := by decide +kernel
theorem dX3_brokerAt_5 : decode cX3_brokerAt 5 = .ok (.aload_n 0, 1) := by decide +kernel
theorem dX3_brokerAt_6 : decode cX3_brokerAt 6 = .ok (.getfield 18, 3) := by decide +kernel
theorem dX3_brokerAt_9 : decode cX3_brokerAt 9 = .ok (.if_icmp .ge 21, 3) := by decide +kernel
theorem dX3_brokerAt_12 : decode cX3_brokerAt 12 = .ok (.iload_n 1, 1) := by decide +kernel
theorem dX3_brokerAt_13 : decode cX3_brokerAt 13 = .ok (.aload_n 0, 1) := by decide +kernel
theorem dX3_brokerAt_14 : decode cX3_brokerAt 14 = .ok (.getfield 9, 3) := by decide +kernel
theorem dX3_brokerAt_17 : decode cX3_brokerAt 17 = .ok (.arraylength, 1) := by decide +kernel
theorem dX3_brokerAt_18 : decode cX3_brokerAt 18 = .ok (.if_icmp .ge 12, 3) := by decide +kernel
theorem dX3_brokerAt_21 : decode cX3_brokerAt 21 = .ok (.aload_n 0, 1) := by decide +kernel
theorem dX3_brokerAt_22 : decode cX3_brokerAt 22 = .ok (.getfield 9, 3) := by decide +kernel
theorem dX3_brokerAt_25 : decode cX3_brokerAt 25 = .ok (.iload_n 1, 1) := by decide +kernel
theorem dX3_brokerAt_26 : decode cX3_brokerAt 26 = .ok (.iaload, 1) := by decide +kernel
theorem dX3_brokerAt_27 : decode cX3_brokerAt 27 = .ok (.goto 4, 3) := by decide +kernel
theorem dX3_brokerAt_30 : decode cX3_brokerAt 30 = .ok (.iconst (-1), 1) := by decide +kernel
theorem dX3_brokerAt_31 : decode cX3_brokerAt 31 = .ok (.ireturn, 1) := by decide +kernel
theorem dX3_isOpen_0 : decode cX3_isOpen 0 = .ok (.aload_n 0, 1) := by decide +kernel
theorem dX3_isOpen_1 : decode cX3_isOpen 1 = .ok (.getfield 22, 3) := by decide +kernel
theorem dX3_isOpen_4 : decode cX3_isOpen 4 = .ok (.ifCond .eq 11, 3) := by decide +kernel
theorem dX3_isOpen_7 : decode cX3_isOpen 7 = .ok (.aload_n 0, 1) := by decide +kernel
theorem dX3_isOpen_8 : decode cX3_isOpen 8 = .ok (.getfield 22, 3) := by decide +kernel
theorem dX3_isOpen_11 : decode cX3_isOpen 11 = .ok (.iconst 1, 1) := by decide +kernel
theorem dX3_isOpen_12 : decode cX3_isOpen 12 = .ok (.if_icmp .ne 7, 3) := by decide +kernel
theorem dX3_isOpen_15 : decode cX3_isOpen 15 = .ok (.iconst 1, 1) := by decide +kernel
theorem dX3_isOpen_16 : decode cX3_isOpen 16 = .ok (.goto 4, 3) := by decide +kernel
theorem dX3_isOpen_19 : decode cX3_isOpen 19 = .ok (.iconst 0, 1) := by decide +kernel
theorem dX3_isOpen_20 : decode cX3_isOpen 20 = .ok (.ireturn, 1) := by decide +kernel
theorem dX3_isStillToPass_0 : decode cX3_isStillToPass 0 = .ok (.aload_n 0, 1) := by decide +kernel
theorem dX3_isStillToPass_1 : decode cX3_isStillToPass 1 = .ok (.getfield 25, 3) := by decide +kernel
theorem dX3_isStillToPass_4 : decode cX3_isStillToPass 4 = .ok (.iconst 1, 1) := by decide +kernel
theorem dX3_isStillToPass_5 : decode cX3_isStillToPass 5 = .ok (.iadd, 1) := by decide +kernel
theorem dX3_isStillToPass_6 : decode cX3_isStillToPass 6 = .ok (.istore_n 2, 1) := by decide +kernel
theorem dX3_isStillToPass_7 : decode cX3_isStillToPass 7 = .ok (.iload_n 2, 1) := by decide +kernel
theorem dX3_isStillToPass_8 : decode cX3_isStillToPass 8 = .ok (.aload_n 0, 1) := by decide +kernel
theorem dX3_isStillToPass_9 : decode cX3_isStillToPass 9 = .ok (.getfield 18, 3) := by decide +kernel
theorem dX3_isStillToPass_12 : decode cX3_isStillToPass 12 = .ok (.if_icmp .ge 21, 3) := by decide +kernel
theorem dX3_isStillToPass_15 : decode cX3_isStillToPass 15 = .ok (.aload_n 0, 1) := by decide +kernel
theorem dX3_isStillToPass_16 : decode cX3_isStillToPass 16 = .ok (.getfield 9, 3) := by decide +kernel
theorem dX3_isStillToPass_19 : decode cX3_isStillToPass 19 = .ok (.iload_n 2, 1) := by decide +kernel
theorem dX3_isStillToPass_20 : decode cX3_isStillToPass 20 = .ok (.iaload, 1) := by decide +kernel
theorem dX3_isStillToPass_21 : decode cX3_isStillToPass 21 = .ok (.iload_n 1, 1) := by decide +kernel
theorem dX3_isStillToPass_22 : decode cX3_isStillToPass 22 = .ok (.if_icmp .ne 5, 3) := by decide +kernel
theorem dX3_isStillToPass_25 : decode cX3_isStillToPass 25 = .ok (.iconst 1, 1) := by decide +kernel
theorem dX3_isStillToPass_26 : decode cX3_isStillToPass 26 = .ok (.ireturn, 1) := by decide +kernel
theorem dX3_isStillToPass_27 : decode cX3_isStillToPass 27 = .ok (.iinc 2 1, 3) := by decide +kernel
theorem dX3_isStillToPass_30 : decode cX3_isStillToPass 30 = .ok (.goto (-23), 3) := by decide +kernel
theorem dX3_isStillToPass_33 : decode cX3_isStillToPass 33 = .ok (.iconst 0, 1) := by decide +kernel
theorem dX3_isStillToPass_34 : decode cX3_isStillToPass 34 = .ok (.ireturn, 1) := by decide +kernel
theorem dX3_takeWay_0 : decode cX3_takeWay 0 = .ok (.iconst 0, 1) := by decide +kernel
theorem dX3_takeWay_1 : decode cX3_takeWay 1 = .ok (.istore_n 3, 1) := by decide +kernel
theorem dX3_takeWay_2 : decode cX3_takeWay 2 = .ok (.iconst 0, 1) := by decide +kernel
theorem dX3_takeWay_3 : decode cX3_takeWay 3 = .ok (.istore 4, 2) := by decide +kernel
theorem dX3_takeWay_5 : decode cX3_takeWay 5 = .ok (.iload 4, 2) := by decide +kernel
theorem dX3_takeWay_7 : decode cX3_takeWay 7 = .ok (.aload_n 1, 1) := by decide +kernel
theorem dX3_takeWay_8 : decode cX3_takeWay 8 = .ok (.getfield 28, 3) := by decide +kernel
theorem dX3_takeWay_11 : decode cX3_takeWay 11 = .ok (.if_icmp .ge 83, 3) := by decide +kernel
theorem dX3_takeWay_14 : decode cX3_takeWay 14 = .ok (.iload_n 2, 1) := by decide +kernel
theorem dX3_takeWay_15 : decode cX3_takeWay 15 = .ok (.iload 4, 2) := by decide +kernel
theorem dX3_takeWay_17 : decode cX3_takeWay 17 = .ok (.iadd, 1) := by decide +kernel
theorem dX3_takeWay_18 : decode cX3_takeWay 18 = .ok (.aload_n 0, 1) := by decide +kernel
theorem dX3_takeWay_19 : decode cX3_takeWay 19 = .ok (.getfield 9, 3) := by decide +kernel
theorem dX3_takeWay_22 : decode cX3_takeWay 22 = .ok (.arraylength, 1) := by decide +kernel
theorem dX3_takeWay_23 : decode cX3_takeWay 23 = .ok (.if_icmp .ge 71, 3) := by decide +kernel
theorem dX3_takeWay_26 : decode cX3_takeWay 26 = .ok (.aload_n 0, 1) := by decide +kernel
theorem dX3_takeWay_27 : decode cX3_takeWay 27 = .ok (.getfield 9, 3) := by decide +kernel
theorem dX3_takeWay_30 : decode cX3_takeWay 30 = .ok (.iload_n 2, 1) := by decide +kernel
theorem dX3_takeWay_31 : decode cX3_takeWay 31 = .ok (.iload 4, 2) := by decide +kernel
theorem dX3_takeWay_33 : decode cX3_takeWay 33 = .ok (.iadd, 1) := by decide +kernel
theorem dX3_takeWay_34 : decode cX3_takeWay 34 = .ok (.aload_n 1, 1) := by decide +kernel
theorem dX3_takeWay_35 : decode cX3_takeWay 35 = .ok (.getfield 31, 3) := by decide +kernel
theorem dX3_takeWay_38 : decode cX3_takeWay 38 = .ok (.iload 4, 2) := by decide +kernel
theorem dX3_takeWay_40 : decode cX3_takeWay 40 = .ok (.iaload, 1) := by decide +kernel
theorem dX3_takeWay_41 : decode cX3_takeWay 41 = .ok (.iastore, 1) := by decide +kernel
theorem dX3_takeWay_42 : decode cX3_takeWay 42 = .ok (.aload_n 0, 1) := by decide +kernel
theorem dX3_takeWay_43 : decode cX3_takeWay 43 = .ok (.getfield 15, 3) := by decide +kernel
theorem dX3_takeWay_46 : decode cX3_takeWay 46 = .ok (.iload_n 2, 1) := by decide +kernel
theorem dX3_takeWay_47 : decode cX3_takeWay 47 = .ok (.iload 4, 2) := by decide +kernel
theorem dX3_takeWay_49 : decode cX3_takeWay 49 = .ok (.iadd, 1) := by decide +kernel
theorem dX3_takeWay_50 : decode cX3_takeWay 50 = .ok (.iload 4, 2) := by decide +kernel
theorem dX3_takeWay_52 : decode cX3_takeWay 52 = .ok (.iconst 1, 1) := by decide +kernel
theorem dX3_takeWay_53 : decode cX3_takeWay 53 = .ok (.iadd, 1) := by decide +kernel
theorem dX3_takeWay_54 : decode cX3_takeWay 54 = .ok (.aload_n 1, 1) := by decide +kernel
theorem dX3_takeWay_55 : decode cX3_takeWay 55 = .ok (.getfield 28, 3) := by decide +kernel
theorem dX3_takeWay_58 : decode cX3_takeWay 58 = .ok (.if_icmp .ge 25, 3) := by decide +kernel
theorem dX3_takeWay_61 : decode cX3_takeWay 61 = .ok (.aload_n 0, 1) := by decide +kernel
theorem dX3_takeWay_62 : decode cX3_takeWay 62 = .ok (.getfield 34, 3) := by decide +kernel
theorem dX3_takeWay_65 : decode cX3_takeWay 65 = .ok (.aload_n 1, 1) := by decide +kernel
theorem dX3_takeWay_66 : decode cX3_takeWay 66 = .ok (.getfield 37, 3) := by decide +kernel
theorem dX3_takeWay_69 : decode cX3_takeWay 69 = .ok (.aload_n 1, 1) := by decide +kernel
theorem dX3_takeWay_70 : decode cX3_takeWay 70 = .ok (.getfield 31, 3) := by decide +kernel
theorem dX3_takeWay_73 : decode cX3_takeWay 73 = .ok (.iload 4, 2) := by decide +kernel
theorem dX3_takeWay_75 : decode cX3_takeWay 75 = .ok (.iconst 1, 1) := by decide +kernel
theorem dX3_takeWay_76 : decode cX3_takeWay 76 = .ok (.iadd, 1) := by decide +kernel
theorem dX3_takeWay_77 : decode cX3_takeWay 77 = .ok (.iaload, 1) := by decide +kernel
theorem dX3_takeWay_78 : decode cX3_takeWay 78 = .ok (.iaload, 1) := by decide +kernel
theorem dX3_takeWay_79 : decode cX3_takeWay 79 = .ok (.iadd, 1) := by decide +kernel
theorem dX3_takeWay_80 : decode cX3_takeWay 80 = .ok (.goto 4, 3) := by decide +kernel
theorem dX3_takeWay_83 : decode cX3_takeWay 83 = .ok (.iconst 0, 1) := by decide +kernel
theorem dX3_takeWay_84 : decode cX3_takeWay 84 = .ok (.iastore, 1) := by decide +kernel
theorem dX3_takeWay_85 : decode cX3_takeWay 85 = .ok (.iinc 3 1, 3) := by decide +kernel
theorem dX3_takeWay_88 : decode cX3_takeWay 88 = .ok (.iinc 4 1, 3) := by decide +kernel
theorem dX3_takeWay_91 : decode cX3_takeWay 91 = .ok (.goto (-86), 3) := by decide +kernel
theorem dX3_takeWay_94 : decode cX3_takeWay 94 = .ok (.aload_n 0, 1) := by decide +kernel
theorem dX3_takeWay_95 : decode cX3_takeWay 95 = .ok (.iload_n 2, 1) := by decide +kernel
theorem dX3_takeWay_96 : decode cX3_takeWay 96 = .ok (.iload_n 3, 1) := by decide +kernel
theorem dX3_takeWay_97 : decode cX3_takeWay 97 = .ok (.iadd, 1) := by decide +kernel
theorem dX3_takeWay_98 : decode cX3_takeWay 98 = .ok (.putfield 18, 3) := by decide +kernel
theorem dX3_takeWay_101 : decode cX3_takeWay 101 = .ok (.return_, 1) := by decide +kernel
theorem dX4_init_0 : decode cX4_init 0 = .ok (.aload_n 0, 1) := by decide +kernel
theorem dX4_init_1 : decode cX4_init 1 = .ok (.invokespecial 3, 3) := by decide +kernel
theorem dX4_init_4 : decode cX4_init 4 = .ok (.aload_n 0, 1) := by decide +kernel
theorem dX4_init_5 : decode cX4_init 5 = .ok (.bipush 12, 2) := by decide +kernel
theorem dX4_init_7 : decode cX4_init 7 = .ok (.newarray .boolean, 2) := by decide +kernel
theorem dX4_init_9 : decode cX4_init 9 = .ok (.putfield 9, 3) := by decide +kernel
theorem dX4_init_12 : decode cX4_init 12 = .ok (.aload_n 0, 1) := by decide +kernel
theorem dX4_init_13 : decode cX4_init 13 = .ok (.bipush 12, 2) := by decide +kernel
theorem dX4_init_15 : decode cX4_init 15 = .ok (.newarray .boolean, 2) := by decide +kernel
theorem dX4_init_17 : decode cX4_init 17 = .ok (.putfield 15, 3) := by decide +kernel
theorem dX4_init_20 : decode cX4_init 20 = .ok (.aload_n 0, 1) := by decide +kernel
theorem dX4_init_21 : decode cX4_init 21 = .ok (.bipush 12, 2) := by decide +kernel
theorem dX4_init_23 : decode cX4_init 23 = .ok (.newarray .boolean, 2) := by decide +kernel
theorem dX4_init_25 : decode cX4_init 25 = .ok (.putfield 18, 3) := by decide +kernel
theorem dX4_init_28 : decode cX4_init 28 = .ok (.aload_n 0, 1) := by decide +kernel
theorem dX4_init_29 : decode cX4_init 29 = .ok (.bipush 12, 2) := by decide +kernel
theorem dX4_init_31 : decode cX4_init 31 = .ok (.newarray .int, 2) := by decide +kernel
theorem dX4_init_33 : decode cX4_init 33 = .ok (.putfield 21, 3) := by decide +kernel
theorem dX4_init_36 : decode cX4_init 36 = .ok (.aload_n 0, 1) := by decide +kernel
theorem dX4_init_37 : decode cX4_init 37 = .ok (.bipush 12, 2) := by decide +kernel
theorem dX4_init_39 : decode cX4_init 39 = .ok (.newarray .int, 2) := by decide +kernel
theorem dX4_init_41 : decode cX4_init 41 = .ok (.putfield 25, 3) := by decide +kernel
theorem dX4_init_44 : decode cX4_init 44 = .ok (.aload_n 0, 1) := by decide +kernel
theorem dX4_init_45 : decode cX4_init 45 = .ok (.bipush 12, 2) := by decide +kernel
theorem dX4_init_47 : decode cX4_init 47 = .ok (.newarray .int, 2) := by decide +kernel
theorem dX4_init_49 : decode cX4_init 49 = .ok (.putfield 28, 3) := by decide +kernel
theorem dX4_init_52 : decode cX4_init 52 = .ok (.aload_n 0, 1) := by decide +kernel
theorem dX4_init_53 : decode cX4_init 53 = .ok (.aload_n 1, 1) := by decide +kernel
theorem dX4_init_54 : decode cX4_init 54 = .ok (.putfield 31, 3) := by decide +kernel
theorem dX4_init_57 : decode cX4_init 57 = .ok (.aload_n 0, 1) := by decide +kernel
theorem dX4_init_58 : decode cX4_init 58 = .ok (.aload_n 2, 1) := by decide +kernel
theorem dX4_init_59 : decode cX4_init 59 = .ok (.putfield 35, 3) := by decide +kernel
theorem dX4_init_62 : decode cX4_init 62 = .ok (.return_, 1) := by decide +kernel
theorem dX4_start_0 : decode cX4_start 0 = .ok (.aload_n 0, 1) := by decide +kernel
theorem dX4_start_1 : decode cX4_start 1 = .ok (.iload_n 2, 1) := by decide +kernel
theorem dX4_start_2 : decode cX4_start 2 = .ok (.putfield 39, 3) := by decide +kernel
theorem dX4_start_5 : decode cX4_start 5 = .ok (.aload_n 0, 1) := by decide +kernel
theorem dX4_start_6 : decode cX4_start 6 = .ok (.iload_n 3, 1) := by decide +kernel
theorem dX4_start_7 : decode cX4_start 7 = .ok (.putfield 43, 3) := by decide +kernel
theorem dX4_start_10 : decode cX4_start 10 = .ok (.iconst 0, 1) := by decide +kernel
theorem dX4_start_11 : decode cX4_start 11 = .ok (.istore 4, 2) := by decide +kernel
theorem dX4_start_13 : decode cX4_start 13 = .ok (.iload 4, 2) := by decide +kernel
theorem dX4_start_15 : decode cX4_start 15 = .ok (.bipush 12, 2) := by decide +kernel
theorem dX4_start_17 : decode cX4_start 17 = .ok (.if_icmp .ge 40, 3) := by decide +kernel
theorem dX4_start_20 : decode cX4_start 20 = .ok (.aload_n 0, 1) := by decide +kernel
theorem dX4_start_21 : decode cX4_start 21 = .ok (.getfield 9, 3) := by decide +kernel
theorem dX4_start_24 : decode cX4_start 24 = .ok (.iload 4, 2) := by decide +kernel
theorem dX4_start_26 : decode cX4_start 26 = .ok (.iload 4, 2) := by decide +kernel
theorem dX4_start_28 : decode cX4_start 28 = .ok (.iload_n 1, 1) := by decide +kernel
theorem dX4_start_29 : decode cX4_start 29 = .ok (.if_icmp .ge 20, 3) := by decide +kernel
theorem dX4_start_32 : decode cX4_start 32 = .ok (.aload_n 0, 1) := by decide +kernel
theorem dX4_start_33 : decode cX4_start 33 = .ok (.getfield 31, 3) := by decide +kernel
theorem dX4_start_36 : decode cX4_start 36 = .ok (.iload 4, 2) := by decide +kernel
theorem dX4_start_38 : decode cX4_start 38 = .ok (.aaload, 1) := by decide +kernel
theorem dX4_start_39 : decode cX4_start 39 = .ok (.invokevirtual 47, 3) := by decide +kernel
theorem dX4_start_42 : decode cX4_start 42 = .ok (.ifCond .eq 7, 3) := by decide +kernel
theorem dX4_start_45 : decode cX4_start 45 = .ok (.iconst 1, 1) := by decide +kernel
theorem dX4_start_46 : decode cX4_start 46 = .ok (.goto 4, 3) := by decide +kernel
theorem dX4_start_49 : decode cX4_start 49 = .ok (.iconst 0, 1) := by decide +kernel
theorem dX4_start_50 : decode cX4_start 50 = .ok (.bastore, 1) := by decide +kernel
theorem dX4_start_51 : decode cX4_start 51 = .ok (.iinc 4 1, 3) := by decide +kernel
theorem dX4_start_54 : decode cX4_start 54 = .ok (.goto (-41), 3) := by decide +kernel
theorem dX4_start_57 : decode cX4_start 57 = .ok (.return_, 1) := by decide +kernel
theorem dX4_leaveOut_0 : decode cX4_leaveOut 0 = .ok (.aload_n 0, 1) := by decide +kernel
theorem dX4_leaveOut_1 : decode cX4_leaveOut 1 = .ok (.getfield 9, 3) := by decide +kernel
theorem dX4_leaveOut_4 : decode cX4_leaveOut 4 = .ok (.iload_n 1, 1) := by decide +kernel
theorem dX4_leaveOut_5 : decode cX4_leaveOut 5 = .ok (.iconst 0, 1) := by decide +kernel
theorem dX4_leaveOut_6 : decode cX4_leaveOut 6 = .ok (.bastore, 1) := by decide +kernel
theorem dX4_leaveOut_7 : decode cX4_leaveOut 7 = .ok (.return_, 1) := by decide +kernel
theorem dX4_find_0 : decode cX4_find 0 = .ok (.aload_n 0, 1) := by decide +kernel
theorem dX4_find_1 : decode cX4_find 1 = .ok (.iconst 0, 1) := by decide +kernel
theorem dX4_find_2 : decode cX4_find 2 = .ok (.putfield 53, 3) := by decide +kernel
theorem dX4_find_5 : decode cX4_find 5 = .ok (.aload_n 0, 1) := by decide +kernel
theorem dX4_find_6 : decode cX4_find 6 = .ok (.getfield 9, 3) := by decide +kernel
theorem dX4_find_9 : decode cX4_find 9 = .ok (.iload_n 1, 1) := by decide +kernel
theorem dX4_find_10 : decode cX4_find 10 = .ok (.baload, 1) := by decide +kernel
theorem dX4_find_11 : decode cX4_find 11 = .ok (.ifCond .eq 12, 3) := by decide +kernel
theorem dX4_find_14 : decode cX4_find 14 = .ok (.aload_n 0, 1) := by decide +kernel
theorem dX4_find_15 : decode cX4_find 15 = .ok (.getfield 9, 3) := by decide +kernel
theorem dX4_find_18 : decode cX4_find 18 = .ok (.iload_n 2, 1) := by decide +kernel
theorem dX4_find_19 : decode cX4_find 19 = .ok (.baload, 1) := by decide +kernel
theorem dX4_find_20 : decode cX4_find 20 = .ok (.ifCond .ne 5, 3) := by decide +kernel
theorem dX4_find_23 : decode cX4_find 23 = .ok (.iconst 0, 1) := by decide +kernel
theorem dX4_find_24 : decode cX4_find 24 = .ok (.ireturn, 1) := by decide +kernel
theorem dX4_find_25 : decode cX4_find 25 = .ok (.aload_n 0, 1) := by decide +kernel
theorem dX4_find_26 : decode cX4_find 26 = .ok (.iload_n 2, 1) := by decide +kernel
theorem dX4_find_27 : decode cX4_find 27 = .ok (.invokevirtual 56, 3) := by decide +kernel
theorem dX4_find_30 : decode cX4_find 30 = .ok (.iconst 0, 1) := by decide +kernel
theorem dX4_find_31 : decode cX4_find 31 = .ok (.istore_n 3, 1) := by decide +kernel
theorem dX4_find_32 : decode cX4_find 32 = .ok (.iload_n 3, 1) := by decide +kernel
theorem dX4_find_33 : decode cX4_find 33 = .ok (.bipush 12, 2) := by decide +kernel
theorem dX4_find_35 : decode cX4_find 35 = .ok (.if_icmp .ge 13, 3) := by decide +kernel
theorem dX4_find_38 : decode cX4_find 38 = .ok (.aload_n 0, 1) := by decide +kernel
theorem dX4_find_39 : decode cX4_find 39 = .ok (.invokevirtual 60, 3) := by decide +kernel
theorem dX4_find_42 : decode cX4_find 42 = .ok (.iinc 3 1, 3) := by decide +kernel
theorem dX4_find_45 : decode cX4_find 45 = .ok (.goto (-13), 3) := by decide +kernel
theorem dX4_find_48 : decode cX4_find 48 = .ok (.aload_n 0, 1) := by decide +kernel
theorem dX4_find_49 : decode cX4_find 49 = .ok (.getfield 15, 3) := by decide +kernel
theorem dX4_find_52 : decode cX4_find 52 = .ok (.iload_n 1, 1) := by decide +kernel
theorem dX4_find_53 : decode cX4_find 53 = .ok (.baload, 1) := by decide +kernel
theorem dX4_find_54 : decode cX4_find 54 = .ok (.ifCond .ne 5, 3) := by decide +kernel
theorem dX4_find_57 : decode cX4_find 57 = .ok (.iconst 0, 1) := by decide +kernel
theorem dX4_find_58 : decode cX4_find 58 = .ok (.ireturn, 1) := by decide +kernel
theorem dX4_find_59 : decode cX4_find 59 = .ok (.aload_n 0, 1) := by decide +kernel
theorem dX4_find_60 : decode cX4_find 60 = .ok (.iload_n 1, 1) := by decide +kernel
theorem dX4_find_61 : decode cX4_find 61 = .ok (.iload_n 2, 1) := by decide +kernel
theorem dX4_find_62 : decode cX4_find 62 = .ok (.invokevirtual 63, 3) := by decide +kernel
theorem dX4_find_65 : decode cX4_find 65 = .ok (.iconst 1, 1) := by decide +kernel
theorem dX4_find_66 : decode cX4_find 66 = .ok (.ireturn, 1) := by decide +kernel
theorem dX4_allFees_0 : decode cX4_allFees 0 = .ok (.aload_n 0, 1) := by decide +kernel
theorem dX4_allFees_1 : decode cX4_allFees 1 = .ok (.getfield 53, 3) := by decide +kernel
theorem dX4_allFees_4 : decode cX4_allFees 4 = .ok (.ifCond .le 17, 3) := by decide +kernel
theorem dX4_allFees_7 : decode cX4_allFees 7 = .ok (.aload_n 0, 1) := by decide +kernel
theorem dX4_allFees_8 : decode cX4_allFees 8 = .ok (.getfield 21, 3) := by decide +kernel
theorem dX4_allFees_11 : decode cX4_allFees 11 = .ok (.aload_n 0, 1) := by decide +kernel
theorem dX4_allFees_12 : decode cX4_allFees 12 = .ok (.getfield 28, 3) := by decide +kernel
theorem dX4_allFees_15 : decode cX4_allFees 15 = .ok (.iconst 0, 1) := by decide +kernel
theorem dX4_allFees_16 : decode cX4_allFees 16 = .ok (.iaload, 1) := by decide +kernel
theorem dX4_allFees_17 : decode cX4_allFees 17 = .ok (.iaload, 1) := by decide +kernel
theorem dX4_allFees_18 : decode cX4_allFees 18 = .ok (.goto 4, 3) := by decide +kernel
theorem dX4_allFees_21 : decode cX4_allFees 21 = .ok (.iconst 0, 1) := by decide +kernel
theorem dX4_allFees_22 : decode cX4_allFees 22 = .ok (.ireturn, 1) := by decide +kernel
theorem dX4_feesBehindFirst_0 : decode cX4_feesBehindFirst 0 = .ok (.aload_n 0, 1) := by decide +kernel
theorem dX4_feesBehindFirst_1 : decode cX4_feesBehindFirst 1 = .ok (.getfield 53, 3) := by decide +kernel
theorem dX4_feesBehindFirst_4 : decode cX4_feesBehindFirst 4 = .ok (.iconst 1, 1) := by decide +kernel
theorem dX4_feesBehindFirst_5 : decode cX4_feesBehindFirst 5 = .ok (.if_icmp .le 17, 3) := by decide +kernel
theorem dX4_feesBehindFirst_8 : decode cX4_feesBehindFirst 8 = .ok (.aload_n 0, 1) := by decide +kernel
theorem dX4_feesBehindFirst_9 : decode cX4_feesBehindFirst 9 = .ok (.getfield 21, 3) := by decide +kernel
theorem dX4_feesBehindFirst_12 : decode cX4_feesBehindFirst 12 = .ok (.aload_n 0, 1) := by decide +kernel
theorem dX4_feesBehindFirst_13 : decode cX4_feesBehindFirst 13 = .ok (.getfield 28, 3) := by decide +kernel
theorem dX4_feesBehindFirst_16 : decode cX4_feesBehindFirst 16 = .ok (.iconst 1, 1) := by decide +kernel
theorem dX4_feesBehindFirst_17 : decode cX4_feesBehindFirst 17 = .ok (.iaload, 1) := by decide +kernel
theorem dX4_feesBehindFirst_18 : decode cX4_feesBehindFirst 18 = .ok (.iaload, 1) := by decide +kernel
theorem dX4_feesBehindFirst_19 : decode cX4_feesBehindFirst 19 = .ok (.goto 4, 3) := by decide +kernel
theorem dX4_feesBehindFirst_22 : decode cX4_feesBehindFirst 22 = .ok (.iconst 0, 1) := by decide +kernel
theorem dX4_feesBehindFirst_23 : decode cX4_feesBehindFirst 23 = .ok (.ireturn, 1) := by decide +kernel
theorem dX4_feeOf_0 : decode cX4_feeOf 0 = .ok (.aload_n 0, 1) := by decide +kernel
theorem dX4_feeOf_1 : decode cX4_feeOf 1 = .ok (.getfield 39, 3) := by decide +kernel
theorem dX4_feeOf_4 : decode cX4_feeOf 4 = .ok (.aload_n 0, 1) := by decide +kernel
theorem dX4_feeOf_5 : decode cX4_feeOf 5 = .ok (.getfield 31, 3) := by decide +kernel
theorem dX4_feeOf_8 : decode cX4_feeOf 8 = .ok (.iload_n 1, 1) := by decide +kernel
theorem dX4_feeOf_9 : decode cX4_feeOf 9 = .ok (.aaload, 1) := by decide +kernel
theorem dX4_feeOf_10 : decode cX4_feeOf 10 = .ok (.getfield 67, 3) := by decide +kernel
theorem dX4_feeOf_13 : decode cX4_feeOf 13 = .ok (.imul, 1) := by decide +kernel
theorem dX4_feeOf_14 : decode cX4_feeOf 14 = .ok (.sipush 1000, 3) := by decide +kernel
theorem dX4_feeOf_17 : decode cX4_feeOf 17 = .ok (.idiv, 1) := by decide +kernel
theorem dX4_feeOf_18 : decode cX4_feeOf 18 = .ok (.ireturn, 1) := by decide +kernel
theorem dX4_canOwe_0 : decode cX4_canOwe 0 = .ok (.aload_n 0, 1) := by decide +kernel
theorem dX4_canOwe_1 : decode cX4_canOwe 1 = .ok (.getfield 35, 3) := by decide +kernel
theorem dX4_canOwe_4 : decode cX4_canOwe 4 = .ok (.getfield 70, 3) := by decide +kernel
theorem dX4_canOwe_7 : decode cX4_canOwe 7 = .ok (.iload_n 1, 1) := by decide +kernel
theorem dX4_canOwe_8 : decode cX4_canOwe 8 = .ok (.aaload, 1) := by decide +kernel
theorem dX4_canOwe_9 : decode cX4_canOwe 9 = .ok (.iload_n 2, 1) := by decide +kernel
theorem dX4_canOwe_10 : decode cX4_canOwe 10 = .ok (.laload, 1) := by decide +kernel
theorem dX4_canOwe_11 : decode cX4_canOwe 11 = .ok (.aload_n 0, 1) := by decide +kernel
theorem dX4_canOwe_12 : decode cX4_canOwe 12 = .ok (.getfield 39, 3) := by decide +kernel
theorem dX4_canOwe_15 : decode cX4_canOwe 15 = .ok (.i2l, 1) := by decide +kernel
theorem dX4_canOwe_16 : decode cX4_canOwe 16 = .ok (.ladd, 1) := by decide +kernel
theorem dX4_canOwe_17 : decode cX4_canOwe 17 = .ok (.aload_n 0, 1) := by decide +kernel
theorem dX4_canOwe_18 : decode cX4_canOwe 18 = .ok (.getfield 21, 3) := by decide +kernel
theorem dX4_canOwe_21 : decode cX4_canOwe 21 = .ok (.iload_n 2, 1) := by decide +kernel
theorem dX4_canOwe_22 : decode cX4_canOwe 22 = .ok (.iaload, 1) := by decide +kernel
theorem dX4_canOwe_23 : decode cX4_canOwe 23 = .ok (.i2l, 1) := by decide +kernel
theorem dX4_canOwe_24 : decode cX4_canOwe 24 = .ok (.ladd, 1) := by decide +kernel
theorem dX4_canOwe_25 : decode cX4_canOwe 25 = .ok (.lstore_n 3, 1) := by decide +kernel
theorem dX4_canOwe_26 : decode cX4_canOwe 26 = .ok (.lload_n 3, 1) := by decide +kernel
theorem dX4_canOwe_27 : decode cX4_canOwe 27 = .ok (.aload_n 0, 1) := by decide +kernel
theorem dX4_canOwe_28 : decode cX4_canOwe 28 = .ok (.getfield 31, 3) := by decide +kernel
theorem dX4_canOwe_31 : decode cX4_canOwe 31 = .ok (.iload_n 2, 1) := by decide +kernel
theorem dX4_canOwe_32 : decode cX4_canOwe 32 = .ok (.aaload, 1) := by decide +kernel
theorem dX4_canOwe_33 : decode cX4_canOwe 33 = .ok (.iload_n 1, 1) := by decide +kernel
theorem dX4_canOwe_34 : decode cX4_canOwe 34 = .ok (.aload_n 0, 1) := by decide +kernel
theorem dX4_canOwe_35 : decode cX4_canOwe 35 = .ok (.getfield 43, 3) := by decide +kernel
theorem dX4_canOwe_38 : decode cX4_canOwe 38 = .ok (.invokevirtual 76, 3) := by decide +kernel
theorem dX4_canOwe_41 : decode cX4_canOwe 41 = .ok (.i2l, 1) := by decide +kernel
theorem dX4_canOwe_42 : decode cX4_canOwe 42 = .ok (.lcmp, 1) := by decide +kernel
theorem dX4_canOwe_43 : decode cX4_canOwe 43 = .ok (.ifCond .gt 7, 3) := by decide +kernel
theorem dX4_canOwe_46 : decode cX4_canOwe 46 = .ok (.iconst 1, 1) := by decide +kernel
theorem dX4_canOwe_47 : decode cX4_canOwe 47 = .ok (.goto 4, 3) := by decide +kernel
theorem dX4_canOwe_50 : decode cX4_canOwe 50 = .ok (.iconst 0, 1) := by decide +kernel
theorem dX4_canOwe_51 : decode cX4_canOwe 51 = .ok (.ireturn, 1) := by decide +kernel
theorem dX4_startAt_0 : decode cX4_startAt 0 = .ok (.iconst 0, 1) := by decide +kernel
theorem dX4_startAt_1 : decode cX4_startAt 1 = .ok (.istore_n 2, 1) := by decide +kernel
theorem dX4_startAt_2 : decode cX4_startAt 2 = .ok (.iload_n 2, 1) := by decide +kernel
theorem dX4_startAt_3 : decode cX4_startAt 3 = .ok (.bipush 12, 2) := by decide +kernel
theorem dX4_startAt_5 : decode cX4_startAt 5 = .ok (.if_icmp .ge 23, 3) := by decide +kernel
theorem dX4_startAt_8 : decode cX4_startAt 8 = .ok (.aload_n 0, 1) := by decide +kernel
theorem dX4_startAt_9 : decode cX4_startAt 9 = .ok (.getfield 15, 3) := by decide +kernel
theorem dX4_startAt_12 : decode cX4_startAt 12 = .ok (.iload_n 2, 1) := by decide +kernel
theorem dX4_startAt_13 : decode cX4_startAt 13 = .ok (.iconst 0, 1) := by decide +kernel
theorem dX4_startAt_14 : decode cX4_startAt 14 = .ok (.bastore, 1) := by decide +kernel
theorem dX4_startAt_15 : decode cX4_startAt 15 = .ok (.aload_n 0, 1) := by decide +kernel
theorem dX4_startAt_16 : decode cX4_startAt 16 = .ok (.getfield 18, 3) := by decide +kernel
theorem dX4_startAt_19 : decode cX4_startAt 19 = .ok (.iload_n 2, 1) := by decide +kernel
theorem dX4_startAt_20 : decode cX4_startAt 20 = .ok (.iconst 0, 1) := by decide +kernel
theorem dX4_startAt_21 : decode cX4_startAt 21 = .ok (.bastore, 1) := by decide +kernel
theorem dX4_startAt_22 : decode cX4_startAt 22 = .ok (.iinc 2 1, 3) := by decide +kernel
theorem dX4_startAt_25 : decode cX4_startAt 25 = .ok (.goto (-23), 3) := by decide +kernel
theorem dX4_startAt_28 : decode cX4_startAt 28 = .ok (.aload_n 0, 1) := by decide +kernel
theorem dX4_startAt_29 : decode cX4_startAt 29 = .ok (.getfield 15, 3) := by decide +kernel
theorem dX4_startAt_32 : decode cX4_startAt 32 = .ok (.iload_n 1, 1) := by decide +kernel
theorem dX4_startAt_33 : decode cX4_startAt 33 = .ok (.iconst 1, 1) := by decide +kernel
theorem dX4_startAt_34 : decode cX4_startAt 34 = .ok (.bastore, 1) := by decide +kernel
theorem dX4_startAt_35 : decode cX4_startAt 35 = .ok (.aload_n 0, 1) := by decide +kernel
theorem dX4_startAt_36 : decode cX4_startAt 36 = .ok (.getfield 21, 3) := by decide +kernel
theorem dX4_startAt_39 : decode cX4_startAt 39 = .ok (.iload_n 1, 1) := by decide +kernel
theorem dX4_startAt_40 : decode cX4_startAt 40 = .ok (.aload_n 0, 1) := by decide +kernel
theorem dX4_startAt_41 : decode cX4_startAt 41 = .ok (.iload_n 1, 1) := by decide +kernel
theorem dX4_startAt_42 : decode cX4_startAt 42 = .ok (.invokevirtual 80, 3) := by decide +kernel
theorem dX4_startAt_45 : decode cX4_startAt 45 = .ok (.iastore, 1) := by decide +kernel
theorem dX4_startAt_46 : decode cX4_startAt 46 = .ok (.aload_n 0, 1) := by decide +kernel
theorem dX4_startAt_47 : decode cX4_startAt 47 = .ok (.getfield 25, 3) := by decide +kernel
theorem dX4_startAt_50 : decode cX4_startAt 50 = .ok (.iload_n 1, 1) := by decide +kernel
theorem dX4_startAt_51 : decode cX4_startAt 51 = .ok (.iconst 1, 1) := by decide +kernel
theorem dX4_startAt_52 : decode cX4_startAt 52 = .ok (.iastore, 1) := by decide +kernel
theorem dX4_startAt_53 : decode cX4_startAt 53 = .ok (.return_, 1) := by decide +kernel
theorem dX4_bestUnsettled_0 : decode cX4_bestUnsettled 0 = .ok (.iconst (-1), 1) := by decide +kernel
theorem dX4_bestUnsettled_1 : decode cX4_bestUnsettled 1 = .ok (.istore_n 1, 1) := by decide +kernel
theorem dX4_bestUnsettled_2 : decode cX4_bestUnsettled 2 = .ok (.iconst 0, 1) := by decide +kernel
theorem dX4_bestUnsettled_3 : decode cX4_bestUnsettled 3 = .ok (.istore_n 2, 1) := by decide +kernel
theorem dX4_bestUnsettled_4 : decode cX4_bestUnsettled 4 = .ok (.iload_n 2, 1) := by decide +kernel
theorem dX4_bestUnsettled_5 : decode cX4_bestUnsettled 5 = .ok (.bipush 12, 2) := by decide +kernel
theorem dX4_bestUnsettled_7 : decode cX4_bestUnsettled 7 = .ok (.if_icmp .ge 54, 3) := by decide +kernel
theorem dX4_bestUnsettled_10 : decode cX4_bestUnsettled 10 = .ok (.aload_n 0, 1) := by decide +kernel
theorem dX4_bestUnsettled_11 : decode cX4_bestUnsettled 11 = .ok (.getfield 15, 3) := by decide +kernel
theorem dX4_bestUnsettled_14 : decode cX4_bestUnsettled 14 = .ok (.iload_n 2, 1) := by decide +kernel
theorem dX4_bestUnsettled_15 : decode cX4_bestUnsettled 15 = .ok (.baload, 1) := by decide +kernel
theorem dX4_bestUnsettled_16 : decode cX4_bestUnsettled 16 = .ok (.ifCond .eq 39, 3) := by decide +kernel
theorem dX4_bestUnsettled_19 : decode cX4_bestUnsettled 19 = .ok (.aload_n 0, 1) := by decide +kernel
theorem dX4_bestUnsettled_20 : decode cX4_bestUnsettled 20 = .ok (.getfield 18, 3) := by decide +kernel
theorem dX4_bestUnsettled_23 : decode cX4_bestUnsettled 23 = .ok (.iload_n 2, 1) := by decide +kernel
theorem dX4_bestUnsettled_24 : decode cX4_bestUnsettled 24 = .ok (.baload, 1) := by decide +kernel
theorem dX4_bestUnsettled_25 : decode cX4_bestUnsettled 25 = .ok (.ifCond .ne 30, 3) := by decide +kernel
theorem dX4_bestUnsettled_28 : decode cX4_bestUnsettled 28 = .ok (.iload_n 1, 1) := by decide +kernel
theorem dX4_bestUnsettled_29 : decode cX4_bestUnsettled 29 = .ok (.iconst (-1), 1) := by decide +kernel
theorem dX4_bestUnsettled_30 : decode cX4_bestUnsettled 30 = .ok (.if_icmp .eq 23, 3) := by decide +kernel
theorem dX4_bestUnsettled_33 : decode cX4_bestUnsettled 33 = .ok (.aload_n 0, 1) := by decide +kernel
theorem dX4_bestUnsettled_34 : decode cX4_bestUnsettled 34 = .ok (.aload_n 0, 1) := by decide +kernel
theorem dX4_bestUnsettled_35 : decode cX4_bestUnsettled 35 = .ok (.getfield 21, 3) := by decide +kernel
theorem dX4_bestUnsettled_38 : decode cX4_bestUnsettled 38 = .ok (.iload_n 2, 1) := by decide +kernel
theorem dX4_bestUnsettled_39 : decode cX4_bestUnsettled 39 = .ok (.iaload, 1) := by decide +kernel
theorem dX4_bestUnsettled_40 : decode cX4_bestUnsettled 40 = .ok (.aload_n 0, 1) := by decide +kernel
theorem dX4_bestUnsettled_41 : decode cX4_bestUnsettled 41 = .ok (.getfield 25, 3) := by decide +kernel
theorem dX4_bestUnsettled_44 : decode cX4_bestUnsettled 44 = .ok (.iload_n 2, 1) := by decide +kernel
theorem dX4_bestUnsettled_45 : decode cX4_bestUnsettled 45 = .ok (.iaload, 1) := by decide +kernel
theorem dX4_bestUnsettled_46 : decode cX4_bestUnsettled 46 = .ok (.iload_n 1, 1) := by decide +kernel
theorem dX4_bestUnsettled_47 : decode cX4_bestUnsettled 47 = .ok (.invokevirtual 84, 3) := by decide +kernel
theorem dX4_bestUnsettled_50 : decode cX4_bestUnsettled 50 = .ok (.ifCond .eq 5, 3) := by decide +kernel
theorem dX4_bestUnsettled_53 : decode cX4_bestUnsettled 53 = .ok (.iload_n 2, 1) := by decide +kernel
theorem dX4_bestUnsettled_54 : decode cX4_bestUnsettled 54 = .ok (.istore_n 1, 1) := by decide +kernel
theorem dX4_bestUnsettled_55 : decode cX4_bestUnsettled 55 = .ok (.iinc 2 1, 3) := by decide +kernel
theorem dX4_bestUnsettled_58 : decode cX4_bestUnsettled 58 = .ok (.goto (-54), 3) := by decide +kernel
theorem dX4_bestUnsettled_61 : decode cX4_bestUnsettled 61 = .ok (.iload_n 1, 1) := by decide +kernel
theorem dX4_bestUnsettled_62 : decode cX4_bestUnsettled 62 = .ok (.ireturn, 1) := by decide +kernel
theorem dX4_isBetter_0 : decode cX4_isBetter 0 = .ok (.iload_n 1, 1) := by decide +kernel
theorem dX4_isBetter_1 : decode cX4_isBetter 1 = .ok (.aload_n 0, 1) := by decide +kernel
theorem dX4_isBetter_2 : decode cX4_isBetter 2 = .ok (.getfield 21, 3) := by decide +kernel
theorem dX4_isBetter_5 : decode cX4_isBetter 5 = .ok (.iload_n 3, 1) := by decide +kernel
theorem dX4_isBetter_6 : decode cX4_isBetter 6 = .ok (.iaload, 1) := by decide +kernel
theorem dX4_isBetter_7 : decode cX4_isBetter 7 = .ok (.if_icmp .lt 23, 3) := by decide +kernel
theorem dX4_isBetter_10 : decode cX4_isBetter 10 = .ok (.iload_n 1, 1) := by decide +kernel
theorem dX4_isBetter_11 : decode cX4_isBetter 11 = .ok (.aload_n 0, 1) := by decide +kernel
theorem dX4_isBetter_12 : decode cX4_isBetter 12 = .ok (.getfield 21, 3) := by decide +kernel
theorem dX4_isBetter_15 : decode cX4_isBetter 15 = .ok (.iload_n 3, 1) := by decide +kernel
theorem dX4_isBetter_16 : decode cX4_isBetter 16 = .ok (.iaload, 1) := by decide +kernel
theorem dX4_isBetter_17 : decode cX4_isBetter 17 = .ok (.if_icmp .ne 17, 3) := by decide +kernel
theorem dX4_isBetter_20 : decode cX4_isBetter 20 = .ok (.iload_n 2, 1) := by decide +kernel
theorem dX4_isBetter_21 : decode cX4_isBetter 21 = .ok (.aload_n 0, 1) := by decide +kernel
theorem dX4_isBetter_22 : decode cX4_isBetter 22 = .ok (.getfield 25, 3) := by decide +kernel
theorem dX4_isBetter_25 : decode cX4_isBetter 25 = .ok (.iload_n 3, 1) := by decide +kernel
theorem dX4_isBetter_26 : decode cX4_isBetter 26 = .ok (.iaload, 1) := by decide +kernel
theorem dX4_isBetter_27 : decode cX4_isBetter 27 = .ok (.if_icmp .ge 7, 3) := by decide +kernel
theorem dX4_isBetter_30 : decode cX4_isBetter 30 = .ok (.iconst 1, 1) := by decide +kernel
theorem dX4_isBetter_31 : decode cX4_isBetter 31 = .ok (.goto 4, 3) := by decide +kernel
theorem dX4_isBetter_34 : decode cX4_isBetter 34 = .ok (.iconst 0, 1) := by decide +kernel
theorem dX4_isBetter_35 : decode cX4_isBetter 35 = .ok (.ireturn, 1) := by decide +kernel
theorem dX4_reachFromBest_0 : decode cX4_reachFromBest 0 = .ok (.aload_n 0, 1) := by decide +kernel
theorem dX4_reachFromBest_1 : decode cX4_reachFromBest 1 = .ok (.invokevirtual 88, 3) := by decide +kernel
theorem dX4_reachFromBest_4 : decode cX4_reachFromBest 4 = .ok (.istore_n 1, 1) := by decide +kernel
theorem dX4_reachFromBest_5 : decode cX4_reachFromBest 5 = .ok (.iload_n 1, 1) := by decide +kernel
theorem dX4_reachFromBest_6 : decode cX4_reachFromBest 6 = .ok (.iconst (-1), 1) := by decide +kernel
theorem dX4_reachFromBest_7 : decode cX4_reachFromBest 7 = .ok (.if_icmp .ne 4, 3) := by decide +kernel
theorem dX4_reachFromBest_10 : decode cX4_reachFromBest 10 = .ok (.return_, 1) := by decide +kernel
theorem dX4_reachFromBest_11 : decode cX4_reachFromBest 11 = .ok (.aload_n 0, 1) := by decide +kernel
theorem dX4_reachFromBest_12 : decode cX4_reachFromBest 12 = .ok (.getfield 18, 3) := by decide +kernel
theorem dX4_reachFromBest_15 : decode cX4_reachFromBest 15 = .ok (.iload_n 1, 1) := by decide +kernel
theorem dX4_reachFromBest_16 : decode cX4_reachFromBest 16 = .ok (.iconst 1, 1) := by decide +kernel
theorem dX4_reachFromBest_17 : decode cX4_reachFromBest 17 = .ok (.bastore, 1) := by decide +kernel
theorem dX4_reachFromBest_18 : decode cX4_reachFromBest 18 = .ok (.iconst 0, 1) := by decide +kernel
theorem dX4_reachFromBest_19 : decode cX4_reachFromBest 19 = .ok (.istore_n 2, 1) := by decide +kernel
theorem dX4_reachFromBest_20 : decode cX4_reachFromBest 20 = .ok (.iload_n 2, 1) := by decide +kernel
theorem dX4_reachFromBest_21 : decode cX4_reachFromBest 21 = .ok (.bipush 12, 2) := by decide +kernel
theorem dX4_reachFromBest_23 : decode cX4_reachFromBest 23 = .ok (.if_icmp .ge 101, 3) := by decide +kernel
theorem dX4_reachFromBest_26 : decode cX4_reachFromBest 26 = .ok (.aload_n 0, 1) := by decide +kernel
theorem dX4_reachFromBest_27 : decode cX4_reachFromBest 27 = .ok (.getfield 9, 3) := by decide +kernel
theorem dX4_reachFromBest_30 : decode cX4_reachFromBest 30 = .ok (.iload_n 2, 1) := by decide +kernel
theorem dX4_reachFromBest_31 : decode cX4_reachFromBest 31 = .ok (.baload, 1) := by decide +kernel
theorem dX4_reachFromBest_32 : decode cX4_reachFromBest 32 = .ok (.ifCond .eq 86, 3) := by decide +kernel
theorem dX4_reachFromBest_35 : decode cX4_reachFromBest 35 = .ok (.aload_n 0, 1) := by decide +kernel
theorem dX4_reachFromBest_36 : decode cX4_reachFromBest 36 = .ok (.getfield 18, 3) := by decide +kernel
theorem dX4_reachFromBest_39 : decode cX4_reachFromBest 39 = .ok (.iload_n 2, 1) := by decide +kernel
theorem dX4_reachFromBest_40 : decode cX4_reachFromBest 40 = .ok (.baload, 1) := by decide +kernel
theorem dX4_reachFromBest_41 : decode cX4_reachFromBest 41 = .ok (.ifCond .ne 77, 3) := by decide +kernel
theorem dX4_reachFromBest_44 : decode cX4_reachFromBest 44 = .ok (.aload_n 0, 1) := by decide +kernel
theorem dX4_reachFromBest_45 : decode cX4_reachFromBest 45 = .ok (.iload_n 2, 1) := by decide +kernel
theorem dX4_reachFromBest_46 : decode cX4_reachFromBest 46 = .ok (.iload_n 1, 1) := by decide +kernel
theorem dX4_reachFromBest_47 : decode cX4_reachFromBest 47 = .ok (.invokevirtual 92, 3) := by decide +kernel
theorem dX4_reachFromBest_50 : decode cX4_reachFromBest 50 = .ok (.ifCond .eq 68, 3) := by decide +kernel
theorem dX4_reachFromBest_53 : decode cX4_reachFromBest 53 = .ok (.aload_n 0, 1) := by decide +kernel
theorem dX4_reachFromBest_54 : decode cX4_reachFromBest 54 = .ok (.getfield 21, 3) := by decide +kernel
theorem dX4_reachFromBest_57 : decode cX4_reachFromBest 57 = .ok (.iload_n 1, 1) := by decide +kernel
theorem dX4_reachFromBest_58 : decode cX4_reachFromBest 58 = .ok (.iaload, 1) := by decide +kernel
theorem dX4_reachFromBest_59 : decode cX4_reachFromBest 59 = .ok (.aload_n 0, 1) := by decide +kernel
theorem dX4_reachFromBest_60 : decode cX4_reachFromBest 60 = .ok (.iload_n 2, 1) := by decide +kernel
theorem dX4_reachFromBest_61 : decode cX4_reachFromBest 61 = .ok (.invokevirtual 80, 3) := by decide +kernel
theorem dX4_reachFromBest_64 : decode cX4_reachFromBest 64 = .ok (.iadd, 1) := by decide +kernel
theorem dX4_reachFromBest_65 : decode cX4_reachFromBest 65 = .ok (.istore_n 3, 1) := by decide +kernel
theorem dX4_reachFromBest_66 : decode cX4_reachFromBest 66 = .ok (.aload_n 0, 1) := by decide +kernel
theorem dX4_reachFromBest_67 : decode cX4_reachFromBest 67 = .ok (.getfield 25, 3) := by decide +kernel
theorem dX4_reachFromBest_70 : decode cX4_reachFromBest 70 = .ok (.iload_n 1, 1) := by decide +kernel
theorem dX4_reachFromBest_71 : decode cX4_reachFromBest 71 = .ok (.iaload, 1) := by decide +kernel
theorem dX4_reachFromBest_72 : decode cX4_reachFromBest 72 = .ok (.iconst 1, 1) := by decide +kernel
theorem dX4_reachFromBest_73 : decode cX4_reachFromBest 73 = .ok (.iadd, 1) := by decide +kernel
theorem dX4_reachFromBest_74 : decode cX4_reachFromBest 74 = .ok (.istore 4, 2) := by decide +kernel
theorem dX4_reachFromBest_76 : decode cX4_reachFromBest 76 = .ok (.aload_n 0, 1) := by decide +kernel
theorem dX4_reachFromBest_77 : decode cX4_reachFromBest 77 = .ok (.getfield 15, 3) := by decide +kernel
theorem dX4_reachFromBest_80 : decode cX4_reachFromBest 80 = .ok (.iload_n 2, 1) := by decide +kernel
theorem dX4_reachFromBest_81 : decode cX4_reachFromBest 81 = .ok (.baload, 1) := by decide +kernel
theorem dX4_reachFromBest_82 : decode cX4_reachFromBest 82 = .ok (.ifCond .eq 14, 3) := by decide +kernel
theorem dX4_reachFromBest_85 : decode cX4_reachFromBest 85 = .ok (.aload_n 0, 1) := by decide +kernel
theorem dX4_reachFromBest_86 : decode cX4_reachFromBest 86 = .ok (.iload_n 3, 1) := by decide +kernel
theorem dX4_reachFromBest_87 : decode cX4_reachFromBest 87 = .ok (.iload 4, 2) := by decide +kernel
theorem dX4_reachFromBest_89 : decode cX4_reachFromBest 89 = .ok (.iload_n 2, 1) := by decide +kernel
theorem dX4_reachFromBest_90 : decode cX4_reachFromBest 90 = .ok (.invokevirtual 84, 3) := by decide +kernel
theorem dX4_reachFromBest_93 : decode cX4_reachFromBest 93 = .ok (.ifCond .eq 25, 3) := by decide +kernel
theorem dX4_reachFromBest_96 : decode cX4_reachFromBest 96 = .ok (.aload_n 0, 1) := by decide +kernel
theorem dX4_reachFromBest_97 : decode cX4_reachFromBest 97 = .ok (.getfield 15, 3) := by decide +kernel
theorem dX4_reachFromBest_100 : decode cX4_reachFromBest 100 = .ok (.iload_n 2, 1) := by decide +kernel
theorem dX4_reachFromBest_101 : decode cX4_reachFromBest 101 = .ok (.iconst 1, 1) := by decide +kernel
theorem dX4_reachFromBest_102 : decode cX4_reachFromBest 102 = .ok (.bastore, 1) := by decide +kernel
theorem dX4_reachFromBest_103 : decode cX4_reachFromBest 103 = .ok (.aload_n 0, 1) := by decide +kernel
theorem dX4_reachFromBest_104 : decode cX4_reachFromBest 104 = .ok (.getfield 21, 3) := by decide +kernel
theorem dX4_reachFromBest_107 : decode cX4_reachFromBest 107 = .ok (.iload_n 2, 1) := by decide +kernel
theorem dX4_reachFromBest_108 : decode cX4_reachFromBest 108 = .ok (.iload_n 3, 1) := by decide +kernel
theorem dX4_reachFromBest_109 : decode cX4_reachFromBest 109 = .ok (.iastore, 1) := by decide +kernel
theorem dX4_reachFromBest_110 : decode cX4_reachFromBest 110 = .ok (.aload_n 0, 1) := by decide +kernel
theorem dX4_reachFromBest_111 : decode cX4_reachFromBest 111 = .ok (.getfield 25, 3) := by decide +kernel
theorem dX4_reachFromBest_114 : decode cX4_reachFromBest 114 = .ok (.iload_n 2, 1) := by decide +kernel
theorem dX4_reachFromBest_115 : decode cX4_reachFromBest 115 = .ok (.iload 4, 2) := by decide +kernel
theorem dX4_reachFromBest_117 : decode cX4_reachFromBest 117 = .ok (.iastore, 1) := by decide +kernel
theorem dX4_reachFromBest_118 : decode cX4_reachFromBest 118 = .ok (.iinc 2 1, 3) := by decide +kernel
theorem dX4_reachFromBest_121 : decode cX4_reachFromBest 121 = .ok (.goto (-101), 3) := by decide +kernel
theorem dX4_reachFromBest_124 : decode cX4_reachFromBest 124 = .ok (.return_, 1) := by decide +kernel
theorem dX4_follow_0 : decode cX4_follow 0 = .ok (.iload_n 1, 1) := by decide +kernel
theorem dX4_follow_1 : decode cX4_follow 1 = .ok (.istore_n 3, 1) := by decide +kernel
theorem dX4_follow_2 : decode cX4_follow 2 = .ok (.iconst 0, 1) := by decide +kernel
theorem dX4_follow_3 : decode cX4_follow 3 = .ok (.istore 4, 2) := by decide +kernel
theorem dX4_follow_5 : decode cX4_follow 5 = .ok (.iload 4, 2) := by decide +kernel
theorem dX4_follow_7 : decode cX4_follow 7 = .ok (.bipush 12, 2) := by decide +kernel
theorem dX4_follow_9 : decode cX4_follow 9 = .ok (.if_icmp .ge 45, 3) := by decide +kernel
theorem dX4_follow_12 : decode cX4_follow 12 = .ok (.iload_n 3, 1) := by decide +kernel
theorem dX4_follow_13 : decode cX4_follow 13 = .ok (.iconst (-1), 1) := by decide +kernel
theorem dX4_follow_14 : decode cX4_follow 14 = .ok (.if_icmp .eq 40, 3) := by decide +kernel
theorem dX4_follow_17 : decode cX4_follow 17 = .ok (.aload_n 0, 1) := by decide +kernel
theorem dX4_follow_18 : decode cX4_follow 18 = .ok (.getfield 28, 3) := by decide +kernel
theorem dX4_follow_21 : decode cX4_follow 21 = .ok (.iload 4, 2) := by decide +kernel
theorem dX4_follow_23 : decode cX4_follow 23 = .ok (.iload_n 3, 1) := by decide +kernel
theorem dX4_follow_24 : decode cX4_follow 24 = .ok (.iastore, 1) := by decide +kernel
theorem dX4_follow_25 : decode cX4_follow 25 = .ok (.aload_n 0, 1) := by decide +kernel
theorem dX4_follow_26 : decode cX4_follow 26 = .ok (.iload 4, 2) := by decide +kernel
theorem dX4_follow_28 : decode cX4_follow 28 = .ok (.iconst 1, 1) := by decide +kernel
theorem dX4_follow_29 : decode cX4_follow 29 = .ok (.iadd, 1) := by decide +kernel
theorem dX4_follow_30 : decode cX4_follow 30 = .ok (.putfield 53, 3) := by decide +kernel
theorem dX4_follow_33 : decode cX4_follow 33 = .ok (.iload_n 3, 1) := by decide +kernel
theorem dX4_follow_34 : decode cX4_follow 34 = .ok (.iload_n 2, 1) := by decide +kernel
theorem dX4_follow_35 : decode cX4_follow 35 = .ok (.if_icmp .ne 7, 3) := by decide +kernel
theorem dX4_follow_38 : decode cX4_follow 38 = .ok (.iconst (-1), 1) := by decide +kernel
theorem dX4_follow_39 : decode cX4_follow 39 = .ok (.goto 8, 3) := by decide +kernel
theorem dX4_follow_42 : decode cX4_follow 42 = .ok (.aload_n 0, 1) := by decide +kernel
theorem dX4_follow_43 : decode cX4_follow 43 = .ok (.iload_n 3, 1) := by decide +kernel
theorem dX4_follow_44 : decode cX4_follow 44 = .ok (.invokevirtual 96, 3) := by decide +kernel
theorem dX4_follow_47 : decode cX4_follow 47 = .ok (.istore_n 3, 1) := by decide +kernel
theorem dX4_follow_48 : decode cX4_follow 48 = .ok (.iinc 4 1, 3) := by decide +kernel
theorem dX4_follow_51 : decode cX4_follow 51 = .ok (.goto (-46), 3) := by decide +kernel
theorem dX4_follow_54 : decode cX4_follow 54 = .ok (.return_, 1) := by decide +kernel
theorem dX4_nextOf_0 : decode cX4_nextOf 0 = .ok (.iconst 0, 1) := by decide +kernel
theorem dX4_nextOf_1 : decode cX4_nextOf 1 = .ok (.istore_n 2, 1) := by decide +kernel
theorem dX4_nextOf_2 : decode cX4_nextOf 2 = .ok (.iload_n 2, 1) := by decide +kernel
theorem dX4_nextOf_3 : decode cX4_nextOf 3 = .ok (.bipush 12, 2) := by decide +kernel
theorem dX4_nextOf_5 : decode cX4_nextOf 5 = .ok (.if_icmp .ge 67, 3) := by decide +kernel
theorem dX4_nextOf_8 : decode cX4_nextOf 8 = .ok (.aload_n 0, 1) := by decide +kernel
theorem dX4_nextOf_9 : decode cX4_nextOf 9 = .ok (.getfield 15, 3) := by decide +kernel
theorem dX4_nextOf_12 : decode cX4_nextOf 12 = .ok (.iload_n 2, 1) := by decide +kernel
theorem dX4_nextOf_13 : decode cX4_nextOf 13 = .ok (.baload, 1) := by decide +kernel
theorem dX4_nextOf_14 : decode cX4_nextOf 14 = .ok (.ifCond .eq 52, 3) := by decide +kernel
theorem dX4_nextOf_17 : decode cX4_nextOf 17 = .ok (.aload_n 0, 1) := by decide +kernel
theorem dX4_nextOf_18 : decode cX4_nextOf 18 = .ok (.getfield 25, 3) := by decide +kernel
theorem dX4_nextOf_21 : decode cX4_nextOf 21 = .ok (.iload_n 2, 1) := by decide +kernel
theorem dX4_nextOf_22 : decode cX4_nextOf 22 = .ok (.iaload, 1) := by decide +kernel
theorem dX4_nextOf_23 : decode cX4_nextOf 23 = .ok (.iconst 1, 1) := by decide +kernel
theorem dX4_nextOf_24 : decode cX4_nextOf 24 = .ok (.iadd, 1) := by decide +kernel
theorem dX4_nextOf_25 : decode cX4_nextOf 25 = .ok (.aload_n 0, 1) := by decide +kernel
theorem dX4_nextOf_26 : decode cX4_nextOf 26 = .ok (.getfield 25, 3) := by decide +kernel
theorem dX4_nextOf_29 : decode cX4_nextOf 29 = .ok (.iload_n 1, 1) := by decide +kernel
theorem dX4_nextOf_30 : decode cX4_nextOf 30 = .ok (.iaload, 1) := by decide +kernel
theorem dX4_nextOf_31 : decode cX4_nextOf 31 = .ok (.if_icmp .ne 35, 3) := by decide +kernel
theorem dX4_nextOf_34 : decode cX4_nextOf 34 = .ok (.aload_n 0, 1) := by decide +kernel
theorem dX4_nextOf_35 : decode cX4_nextOf 35 = .ok (.getfield 21, 3) := by decide +kernel
theorem dX4_nextOf_38 : decode cX4_nextOf 38 = .ok (.iload_n 2, 1) := by decide +kernel
theorem dX4_nextOf_39 : decode cX4_nextOf 39 = .ok (.iaload, 1) := by decide +kernel
theorem dX4_nextOf_40 : decode cX4_nextOf 40 = .ok (.aload_n 0, 1) := by decide +kernel
theorem dX4_nextOf_41 : decode cX4_nextOf 41 = .ok (.iload_n 1, 1) := by decide +kernel
theorem dX4_nextOf_42 : decode cX4_nextOf 42 = .ok (.invokevirtual 80, 3) := by decide +kernel
theorem dX4_nextOf_45 : decode cX4_nextOf 45 = .ok (.iadd, 1) := by decide +kernel
theorem dX4_nextOf_46 : decode cX4_nextOf 46 = .ok (.aload_n 0, 1) := by decide +kernel
theorem dX4_nextOf_47 : decode cX4_nextOf 47 = .ok (.getfield 21, 3) := by decide +kernel
theorem dX4_nextOf_50 : decode cX4_nextOf 50 = .ok (.iload_n 1, 1) := by decide +kernel
theorem dX4_nextOf_51 : decode cX4_nextOf 51 = .ok (.iaload, 1) := by decide +kernel
theorem dX4_nextOf_52 : decode cX4_nextOf 52 = .ok (.if_icmp .ne 14, 3) := by decide +kernel
theorem dX4_nextOf_55 : decode cX4_nextOf 55 = .ok (.aload_n 0, 1) := by decide +kernel
theorem dX4_nextOf_56 : decode cX4_nextOf 56 = .ok (.iload_n 1, 1) := by decide +kernel
theorem dX4_nextOf_57 : decode cX4_nextOf 57 = .ok (.iload_n 2, 1) := by decide +kernel
theorem dX4_nextOf_58 : decode cX4_nextOf 58 = .ok (.invokevirtual 92, 3) := by decide +kernel
theorem dX4_nextOf_61 : decode cX4_nextOf 61 = .ok (.ifCond .eq 5, 3) := by decide +kernel
theorem dX4_nextOf_64 : decode cX4_nextOf 64 = .ok (.iload_n 2, 1) := by decide +kernel
theorem dX4_nextOf_65 : decode cX4_nextOf 65 = .ok (.ireturn, 1) := by decide +kernel
theorem dX4_nextOf_66 : decode cX4_nextOf 66 = .ok (.iinc 2 1, 3) := by decide +kernel
theorem dX4_nextOf_69 : decode cX4_nextOf 69 = .ok (.goto (-67), 3) := by decide +kernel
theorem dX4_nextOf_72 : decode cX4_nextOf 72 = .ok (.iconst (-1), 1) := by decide +kernel
theorem dX4_nextOf_73 : decode cX4_nextOf 73 = .ok (.ireturn, 1) := by decide +kernel
theorem dX5_init_0 : decode cX5_init 0 = .ok (.aload_n 0, 1) := by decide +kernel
theorem dX5_init_1 : decode cX5_init 1 = .ok (.invokespecial 1, 3) := by decide +kernel
theorem dX5_init_4 : decode cX5_init 4 = .ok (.aload_n 0, 1) := by decide +kernel
theorem dX5_init_5 : decode cX5_init 5 = .ok (.bipush 12, 2) := by decide +kernel
theorem dX5_init_7 : decode cX5_init 7 = .ok (.anewarray 9, 3) := by decide +kernel
theorem dX5_init_10 : decode cX5_init 10 = .ok (.putfield 11, 3) := by decide +kernel
theorem dX5_init_13 : decode cX5_init 13 = .ok (.iconst 0, 1) := by decide +kernel
theorem dX5_init_14 : decode cX5_init 14 = .ok (.istore_n 1, 1) := by decide +kernel
theorem dX5_init_15 : decode cX5_init 15 = .ok (.iload_n 1, 1) := by decide +kernel
theorem dX5_init_16 : decode cX5_init 16 = .ok (.bipush 12, 2) := by decide +kernel
theorem dX5_init_18 : decode cX5_init 18 = .ok (.if_icmp .ge 22, 3) := by decide +kernel
theorem dX5_init_21 : decode cX5_init 21 = .ok (.aload_n 0, 1) := by decide +kernel
theorem dX5_init_22 : decode cX5_init 22 = .ok (.getfield 11, 3) := by decide +kernel
theorem dX5_init_25 : decode cX5_init 25 = .ok (.iload_n 1, 1) := by decide +kernel
theorem dX5_init_26 : decode cX5_init 26 = .ok (.new 9, 3) := by decide +kernel
theorem dX5_init_29 : decode cX5_init 29 = .ok (.dup, 1) := by decide +kernel
theorem dX5_init_30 : decode cX5_init 30 = .ok (.invokespecial 15, 3) := by decide +kernel
theorem dX5_init_33 : decode cX5_init 33 = .ok (.aastore, 1) := by decide +kernel
theorem dX5_init_34 : decode cX5_init 34 = .ok (.iinc 1 1, 3) := by decide +kernel
theorem dX5_init_37 : decode cX5_init 37 = .ok (.goto (-22), 3) := by decide +kernel
theorem dX5_init_40 : decode cX5_init 40 = .ok (.aload_n 0, 1) := by decide +kernel
theorem dX5_init_41 : decode cX5_init 41 = .ok (.bipush 40, 2) := by decide +kernel
theorem dX5_init_43 : decode cX5_init 43 = .ok (.anewarray 16, 3) := by decide +kernel
theorem dX5_init_46 : decode cX5_init 46 = .ok (.putfield 18, 3) := by decide +kernel
theorem dX5_init_49 : decode cX5_init 49 = .ok (.iconst 0, 1) := by decide +kernel
theorem dX5_init_50 : decode cX5_init 50 = .ok (.istore_n 1, 1) := by decide +kernel
theorem dX5_init_51 : decode cX5_init 51 = .ok (.iload_n 1, 1) := by decide +kernel
theorem dX5_init_52 : decode cX5_init 52 = .ok (.bipush 40, 2) := by decide +kernel
theorem dX5_init_54 : decode cX5_init 54 = .ok (.if_icmp .ge 22, 3) := by decide +kernel
theorem dX5_init_57 : decode cX5_init 57 = .ok (.aload_n 0, 1) := by decide +kernel
theorem dX5_init_58 : decode cX5_init 58 = .ok (.getfield 18, 3) := by decide +kernel
theorem dX5_init_61 : decode cX5_init 61 = .ok (.iload_n 1, 1) := by decide +kernel
theorem dX5_init_62 : decode cX5_init 62 = .ok (.new 16, 3) := by decide +kernel
theorem dX5_init_65 : decode cX5_init 65 = .ok (.dup, 1) := by decide +kernel
theorem dX5_init_66 : decode cX5_init 66 = .ok (.invokespecial 22, 3) := by decide +kernel
theorem dX5_init_69 : decode cX5_init 69 = .ok (.aastore, 1) := by decide +kernel
theorem dX5_init_70 : decode cX5_init 70 = .ok (.iinc 1 1, 3) := by decide +kernel
theorem dX5_init_73 : decode cX5_init 73 = .ok (.goto (-22), 3) := by decide +kernel
theorem dX5_init_76 : decode cX5_init 76 = .ok (.aload_n 0, 1) := by decide +kernel
theorem dX5_init_77 : decode cX5_init 77 = .ok (.bipush 40, 2) := by decide +kernel
theorem dX5_init_79 : decode cX5_init 79 = .ok (.anewarray 23, 3) := by decide +kernel
theorem dX5_init_82 : decode cX5_init 82 = .ok (.putfield 25, 3) := by decide +kernel
theorem dX5_init_85 : decode cX5_init 85 = .ok (.iconst 0, 1) := by decide +kernel
theorem dX5_init_86 : decode cX5_init 86 = .ok (.istore_n 1, 1) := by decide +kernel
theorem dX5_init_87 : decode cX5_init 87 = .ok (.iload_n 1, 1) := by decide +kernel
theorem dX5_init_88 : decode cX5_init 88 = .ok (.bipush 40, 2) := by decide +kernel
theorem dX5_init_90 : decode cX5_init 90 = .ok (.if_icmp .ge 22, 3) := by decide +kernel
theorem dX5_init_93 : decode cX5_init 93 = .ok (.aload_n 0, 1) := by decide +kernel
theorem dX5_init_94 : decode cX5_init 94 = .ok (.getfield 25, 3) := by decide +kernel
theorem dX5_init_97 : decode cX5_init 97 = .ok (.iload_n 1, 1) := by decide +kernel
theorem dX5_init_98 : decode cX5_init 98 = .ok (.new 23, 3) := by decide +kernel
theorem dX5_init_101 : decode cX5_init 101 = .ok (.dup, 1) := by decide +kernel
theorem dX5_init_102 : decode cX5_init 102 = .ok (.invokespecial 29, 3) := by decide +kernel
theorem dX5_init_105 : decode cX5_init 105 = .ok (.aastore, 1) := by decide +kernel
theorem dX5_init_106 : decode cX5_init 106 = .ok (.iinc 1 1, 3) := by decide +kernel
theorem dX5_init_109 : decode cX5_init 109 = .ok (.goto (-22), 3) := by decide +kernel
theorem dX5_init_112 : decode cX5_init 112 = .ok (.aload_n 0, 1) := by decide +kernel
theorem dX5_init_113 : decode cX5_init 113 = .ok (.new 30, 3) := by decide +kernel
theorem dX5_init_116 : decode cX5_init 116 = .ok (.dup, 1) := by decide +kernel
theorem dX5_init_117 : decode cX5_init 117 = .ok (.invokespecial 32, 3) := by decide +kernel
theorem dX5_init_120 : decode cX5_init 120 = .ok (.putfield 33, 3) := by decide +kernel
theorem dX5_init_123 : decode cX5_init 123 = .ok (.aload_n 0, 1) := by decide +kernel
theorem dX5_init_124 : decode cX5_init 124 = .ok (.new 37, 3) := by decide +kernel
theorem dX5_init_127 : decode cX5_init 127 = .ok (.dup, 1) := by decide +kernel
theorem dX5_init_128 : decode cX5_init 128 = .ok (.aload_n 0, 1) := by decide +kernel
theorem dX5_init_129 : decode cX5_init 129 = .ok (.getfield 11, 3) := by decide +kernel
theorem dX5_init_132 : decode cX5_init 132 = .ok (.aload_n 0, 1) := by decide +kernel
theorem dX5_init_133 : decode cX5_init 133 = .ok (.getfield 33, 3) := by decide +kernel
theorem dX5_init_136 : decode cX5_init 136 = .ok (.invokespecial 39, 3) := by decide +kernel
theorem dX5_init_139 : decode cX5_init 139 = .ok (.putfield 42, 3) := by decide +kernel
theorem dX5_init_142 : decode cX5_init 142 = .ok (.aload_n 0, 1) := by decide +kernel
theorem dX5_init_143 : decode cX5_init 143 = .ok (.bipush 8, 2) := by decide +kernel
theorem dX5_init_145 : decode cX5_init 145 = .ok (.newarray .int, 2) := by decide +kernel
theorem dX5_init_147 : decode cX5_init 147 = .ok (.putfield 46, 3) := by decide +kernel
theorem dX5_init_150 : decode cX5_init 150 = .ok (.iconst 0, 1) := by decide +kernel
theorem dX5_init_151 : decode cX5_init 151 = .ok (.istore_n 1, 1) := by decide +kernel
theorem dX5_init_152 : decode cX5_init 152 = .ok (.iload_n 1, 1) := by decide +kernel
theorem dX5_init_153 : decode cX5_init 153 = .ok (.bipush 8, 2) := by decide +kernel
theorem dX5_init_155 : decode cX5_init 155 = .ok (.if_icmp .ge 17, 3) := by decide +kernel
theorem dX5_init_158 : decode cX5_init 158 = .ok (.aload_n 0, 1) := by decide +kernel
theorem dX5_init_159 : decode cX5_init 159 = .ok (.getfield 46, 3) := by decide +kernel
theorem dX5_init_162 : decode cX5_init 162 = .ok (.iload_n 1, 1) := by decide +kernel
theorem dX5_init_163 : decode cX5_init 163 = .ok (.ldc 50, 2) := by decide +kernel
theorem dX5_init_165 : decode cX5_init 165 = .ok (.iastore, 1) := by decide +kernel
theorem dX5_init_166 : decode cX5_init 166 = .ok (.iinc 1 1, 3) := by decide +kernel
theorem dX5_init_169 : decode cX5_init 169 = .ok (.goto (-17), 3) := by decide +kernel
theorem dX5_init_172 : decode cX5_init 172 = .ok (.aload_n 0, 1) := by decide +kernel
theorem dX5_init_173 : decode cX5_init 173 = .ok (.bipush 8, 2) := by decide +kernel
theorem dX5_init_175 : decode cX5_init 175 = .ok (.newarray .int, 2) := by decide +kernel
theorem dX5_init_177 : decode cX5_init 177 = .ok (.putfield 51, 3) := by decide +kernel
theorem dX5_init_180 : decode cX5_init 180 = .ok (.aload_n 0, 1) := by decide +kernel
theorem dX5_init_181 : decode cX5_init 181 = .ok (.bipush 20, 2) := by decide +kernel
theorem dX5_init_183 : decode cX5_init 183 = .ok (.newarray .boolean, 2) := by decide +kernel
theorem dX5_init_185 : decode cX5_init 185 = .ok (.putfield 54, 3) := by decide +kernel
theorem dX5_init_188 : decode cX5_init 188 = .ok (.return_, 1) := by decide +kernel
theorem dX5_broker_0 : decode cX5_broker 0 = .ok (.iload_n 1, 1) := by decide +kernel
theorem dX5_broker_1 : decode cX5_broker 1 = .ok (.bipush 8, 2) := by decide +kernel
theorem dX5_broker_3 : decode cX5_broker 3 = .ok (.invokestatic 58, 3) := by decide +kernel
theorem dX5_broker_6 : decode cX5_broker 6 = .ok (.iload_n 2, 1) := by decide +kernel
theorem dX5_broker_7 : decode cX5_broker 7 = .ok (.iconst 0, 1) := by decide +kernel
theorem dX5_broker_8 : decode cX5_broker 8 = .ok (.ldc 50, 2) := by decide +kernel
theorem dX5_broker_10 : decode cX5_broker 10 = .ok (.invokestatic 62, 3) := by decide +kernel
theorem dX5_broker_13 : decode cX5_broker 13 = .ok (.iload_n 3, 1) := by decide +kernel
theorem dX5_broker_14 : decode cX5_broker 14 = .ok (.iconst 0, 1) := by decide +kernel
theorem dX5_broker_15 : decode cX5_broker 15 = .ok (.bipush 100, 2) := by decide +kernel
theorem dX5_broker_17 : decode cX5_broker 17 = .ok (.invokestatic 62, 3) := by decide +kernel
theorem dX5_broker_20 : decode cX5_broker 20 = .ok (.aload_n 0, 1) := by decide +kernel
theorem dX5_broker_21 : decode cX5_broker 21 = .ok (.getfield 66, 3) := by decide +kernel
theorem dX5_broker_24 : decode cX5_broker 24 = .ok (.bipush 12, 2) := by decide +kernel
theorem dX5_broker_26 : decode cX5_broker 26 = .ok (.if_icmp .ge 7, 3) := by decide +kernel
theorem dX5_broker_29 : decode cX5_broker 29 = .ok (.iconst 1, 1) := by decide +kernel
theorem dX5_broker_30 : decode cX5_broker 30 = .ok (.goto 4, 3) := by decide +kernel
theorem dX5_broker_33 : decode cX5_broker 33 = .ok (.iconst 0, 1) := by decide +kernel
theorem dX5_broker_34 : decode cX5_broker 34 = .ok (.invokestatic 70, 3) := by decide +kernel
theorem dX5_broker_37 : decode cX5_broker 37 = .ok (.aload_n 0, 1) := by decide +kernel
theorem dX5_broker_38 : decode cX5_broker 38 = .ok (.getfield 11, 3) := by decide +kernel
theorem dX5_broker_41 : decode cX5_broker 41 = .ok (.aload_n 0, 1) := by decide +kernel
theorem dX5_broker_42 : decode cX5_broker 42 = .ok (.getfield 66, 3) := by decide +kernel
theorem dX5_broker_45 : decode cX5_broker 45 = .ok (.aaload, 1) := by decide +kernel
theorem dX5_broker_46 : decode cX5_broker 46 = .ok (.astore 4, 2) := by decide +kernel
theorem dX5_broker_48 : decode cX5_broker 48 = .ok (.aload 4, 2) := by decide +kernel
theorem dX5_broker_50 : decode cX5_broker 50 = .ok (.iload_n 1, 1) := by decide +kernel
theorem dX5_broker_51 : decode cX5_broker 51 = .ok (.putfield 74, 3) := by decide +kernel
theorem dX5_broker_54 : decode cX5_broker 54 = .ok (.aload 4, 2) := by decide +kernel
theorem dX5_broker_56 : decode cX5_broker 56 = .ok (.iload_n 2, 1) := by decide +kernel
theorem dX5_broker_57 : decode cX5_broker 57 = .ok (.i2l, 1) := by decide +kernel
theorem dX5_broker_58 : decode cX5_broker 58 = .ok (.putfield 77, 3) := by decide +kernel
theorem dX5_broker_61 : decode cX5_broker 61 = .ok (.aload 4, 2) := by decide +kernel
theorem dX5_broker_63 : decode cX5_broker 63 = .ok (.iload_n 3, 1) := by decide +kernel
theorem dX5_broker_64 : decode cX5_broker 64 = .ok (.putfield 81, 3) := by decide +kernel
theorem dX5_broker_67 : decode cX5_broker 67 = .ok (.aload_n 0, 1) := by decide +kernel
theorem dX5_broker_68 : decode cX5_broker 68 = .ok (.dup, 1) := by decide +kernel
theorem dX5_broker_69 : decode cX5_broker 69 = .ok (.getfield 66, 3) := by decide +kernel
theorem dX5_broker_72 : decode cX5_broker 72 = .ok (.iconst 1, 1) := by decide +kernel
theorem dX5_broker_73 : decode cX5_broker 73 = .ok (.iadd, 1) := by decide +kernel
theorem dX5_broker_74 : decode cX5_broker 74 = .ok (.putfield 66, 3) := by decide +kernel
theorem dX5_broker_77 : decode cX5_broker 77 = .ok (.aload_n 0, 1) := by decide +kernel
theorem dX5_broker_78 : decode cX5_broker 78 = .ok (.getfield 66, 3) := by decide +kernel
theorem dX5_broker_81 : decode cX5_broker 81 = .ok (.iconst 1, 1) := by decide +kernel
theorem dX5_broker_82 : decode cX5_broker 82 = .ok (.isub, 1) := by decide +kernel
theorem dX5_broker_83 : decode cX5_broker 83 = .ok (.ireturn, 1) := by decide +kernel
theorem dX5_rate_0 : decode cX5_rate 0 = .ok (.iload_n 1, 1) := by decide +kernel
theorem dX5_rate_1 : decode cX5_rate 1 = .ok (.aload_n 0, 1) := by decide +kernel
theorem dX5_rate_2 : decode cX5_rate 2 = .ok (.getfield 66, 3) := by decide +kernel
theorem dX5_rate_5 : decode cX5_rate 5 = .ok (.invokestatic 58, 3) := by decide +kernel
theorem dX5_rate_8 : decode cX5_rate 8 = .ok (.iload_n 2, 1) := by decide +kernel
theorem dX5_rate_9 : decode cX5_rate 9 = .ok (.iconst 0, 1) := by decide +kernel
theorem dX5_rate_10 : decode cX5_rate 10 = .ok (.bipush 100, 2) := by decide +kernel
theorem dX5_rate_12 : decode cX5_rate 12 = .ok (.invokestatic 62, 3) := by decide +kernel
theorem dX5_rate_15 : decode cX5_rate 15 = .ok (.aload_n 0, 1) := by decide +kernel
theorem dX5_rate_16 : decode cX5_rate 16 = .ok (.getfield 11, 3) := by decide +kernel
theorem dX5_rate_19 : decode cX5_rate 19 = .ok (.iload_n 1, 1) := by decide +kernel
theorem dX5_rate_20 : decode cX5_rate 20 = .ok (.aaload, 1) := by decide +kernel
theorem dX5_rate_21 : decode cX5_rate 21 = .ok (.getfield 81, 3) := by decide +kernel
theorem dX5_rate_24 : decode cX5_rate 24 = .ok (.istore_n 3, 1) := by decide +kernel
theorem dX5_rate_25 : decode cX5_rate 25 = .ok (.aload_n 0, 1) := by decide +kernel
theorem dX5_rate_26 : decode cX5_rate 26 = .ok (.getfield 11, 3) := by decide +kernel
theorem dX5_rate_29 : decode cX5_rate 29 = .ok (.iload_n 1, 1) := by decide +kernel
theorem dX5_rate_30 : decode cX5_rate 30 = .ok (.aaload, 1) := by decide +kernel
theorem dX5_rate_31 : decode cX5_rate 31 = .ok (.iload_n 2, 1) := by decide +kernel
theorem dX5_rate_32 : decode cX5_rate 32 = .ok (.putfield 81, 3) := by decide +kernel
theorem dX5_rate_35 : decode cX5_rate 35 = .ok (.iload_n 3, 1) := by decide +kernel
theorem dX5_rate_36 : decode cX5_rate 36 = .ok (.ireturn, 1) := by decide +kernel
theorem dX5_trust_0 : decode cX5_trust 0 = .ok (.aload_n 0, 1) := by decide +kernel
theorem dX5_trust_1 : decode cX5_trust 1 = .ok (.iload_n 1, 1) := by decide +kernel
theorem dX5_trust_2 : decode cX5_trust 2 = .ok (.iload_n 2, 1) := by decide +kernel
theorem dX5_trust_3 : decode cX5_trust 3 = .ok (.invokevirtual 84, 3) := by decide +kernel
theorem dX5_trust_6 : decode cX5_trust 6 = .ok (.iload_n 3, 1) := by decide +kernel
theorem dX5_trust_7 : decode cX5_trust 7 = .ok (.iconst 0, 1) := by decide +kernel
theorem dX5_trust_8 : decode cX5_trust 8 = .ok (.ldc 50, 2) := by decide +kernel
theorem dX5_trust_10 : decode cX5_trust 10 = .ok (.invokestatic 62, 3) := by decide +kernel
theorem dX5_trust_13 : decode cX5_trust 13 = .ok (.aload_n 0, 1) := by decide +kernel
theorem dX5_trust_14 : decode cX5_trust 14 = .ok (.getfield 11, 3) := by decide +kernel
theorem dX5_trust_17 : decode cX5_trust 17 = .ok (.iload_n 1, 1) := by decide +kernel
theorem dX5_trust_18 : decode cX5_trust 18 = .ok (.aaload, 1) := by decide +kernel
theorem dX5_trust_19 : decode cX5_trust 19 = .ok (.getfield 87, 3) := by decide +kernel
theorem dX5_trust_22 : decode cX5_trust 22 = .ok (.iload_n 2, 1) := by decide +kernel
theorem dX5_trust_23 : decode cX5_trust 23 = .ok (.iload_n 3, 1) := by decide +kernel
theorem dX5_trust_24 : decode cX5_trust 24 = .ok (.iastore, 1) := by decide +kernel
theorem dX5_trust_25 : decode cX5_trust 25 = .ok (.aload_n 0, 1) := by decide +kernel
theorem dX5_trust_26 : decode cX5_trust 26 = .ok (.getfield 11, 3) := by decide +kernel
theorem dX5_trust_29 : decode cX5_trust 29 = .ok (.iload_n 1, 1) := by decide +kernel
theorem dX5_trust_30 : decode cX5_trust 30 = .ok (.aaload, 1) := by decide +kernel
theorem dX5_trust_31 : decode cX5_trust 31 = .ok (.getfield 90, 3) := by decide +kernel
theorem dX5_trust_34 : decode cX5_trust 34 = .ok (.iload_n 2, 1) := by decide +kernel
theorem dX5_trust_35 : decode cX5_trust 35 = .ok (.iload 4, 2) := by decide +kernel
theorem dX5_trust_37 : decode cX5_trust 37 = .ok (.bastore, 1) := by decide +kernel
theorem dX5_trust_38 : decode cX5_trust 38 = .ok (.return_, 1) := by decide +kernel
theorem dX5_festival_0 : decode cX5_festival 0 = .ok (.aload_n 0, 1) := by decide +kernel
theorem dX5_festival_1 : decode cX5_festival 1 = .ok (.aload_n 0, 1) := by decide +kernel
theorem dX5_festival_2 : decode cX5_festival 2 = .ok (.getfield 93, 3) := by decide +kernel
theorem dX5_festival_5 : decode cX5_festival 5 = .ok (.ifCond .ne 7, 3) := by decide +kernel
theorem dX5_festival_8 : decode cX5_festival 8 = .ok (.iconst 1, 1) := by decide +kernel
theorem dX5_festival_9 : decode cX5_festival 9 = .ok (.goto 4, 3) := by decide +kernel
theorem dX5_festival_12 : decode cX5_festival 12 = .ok (.iconst 0, 1) := by decide +kernel
theorem dX5_festival_13 : decode cX5_festival 13 = .ok (.putfield 93, 3) := by decide +kernel
theorem dX5_festival_16 : decode cX5_festival 16 = .ok (.aload_n 0, 1) := by decide +kernel
theorem dX5_festival_17 : decode cX5_festival 17 = .ok (.getfield 93, 3) := by decide +kernel
theorem dX5_festival_20 : decode cX5_festival 20 = .ok (.ireturn, 1) := by decide +kernel
theorem dX5_breakWord_0 : decode cX5_breakWord 0 = .ok (.iload_n 1, 1) := by decide +kernel
theorem dX5_breakWord_1 : decode cX5_breakWord 1 = .ok (.aload_n 0, 1) := by decide +kernel
theorem dX5_breakWord_2 : decode cX5_breakWord 2 = .ok (.getfield 66, 3) := by decide +kernel
theorem dX5_breakWord_5 : decode cX5_breakWord 5 = .ok (.invokestatic 58, 3) := by decide +kernel
theorem dX5_breakWord_8 : decode cX5_breakWord 8 = .ok (.aload_n 0, 1) := by decide +kernel
theorem dX5_breakWord_9 : decode cX5_breakWord 9 = .ok (.getfield 11, 3) := by decide +kernel
theorem dX5_breakWord_12 : decode cX5_breakWord 12 = .ok (.iload_n 1, 1) := by decide +kernel
theorem dX5_breakWord_13 : decode cX5_breakWord 13 = .ok (.aaload, 1) := by decide +kernel
theorem dX5_breakWord_14 : decode cX5_breakWord 14 = .ok (.getfield 97, 3) := by decide +kernel
theorem dX5_breakWord_17 : decode cX5_breakWord 17 = .ok (.iconst 2, 1) := by decide +kernel
theorem dX5_breakWord_18 : decode cX5_breakWord 18 = .ok (.if_icmp .eq 7, 3) := by decide +kernel
theorem dX5_breakWord_21 : decode cX5_breakWord 21 = .ok (.iconst 1, 1) := by decide +kernel
theorem dX5_breakWord_22 : decode cX5_breakWord 22 = .ok (.goto 4, 3) := by decide +kernel
theorem dX5_breakWord_25 : decode cX5_breakWord 25 = .ok (.iconst 0, 1) := by decide +kernel
theorem dX5_breakWord_26 : decode cX5_breakWord 26 = .ok (.invokestatic 70, 3) := by decide +kernel
theorem dX5_breakWord_29 : decode cX5_breakWord 29 = .ok (.aload_n 0, 1) := by decide +kernel
theorem dX5_breakWord_30 : decode cX5_breakWord 30 = .ok (.getfield 11, 3) := by decide +kernel
theorem dX5_breakWord_33 : decode cX5_breakWord 33 = .ok (.iload_n 1, 1) := by decide +kernel
theorem dX5_breakWord_34 : decode cX5_breakWord 34 = .ok (.aaload, 1) := by decide +kernel
theorem dX5_breakWord_35 : decode cX5_breakWord 35 = .ok (.iconst 2, 1) := by decide +kernel
theorem dX5_breakWord_36 : decode cX5_breakWord 36 = .ok (.putfield 97, 3) := by decide +kernel
theorem dX5_breakWord_39 : decode cX5_breakWord 39 = .ok (.aload_n 0, 1) := by decide +kernel
theorem dX5_breakWord_40 : decode cX5_breakWord 40 = .ok (.iload_n 1, 1) := by decide +kernel
theorem dX5_breakWord_41 : decode cX5_breakWord 41 = .ok (.invokevirtual 100, 3) := by decide +kernel
theorem dX5_breakWord_44 : decode cX5_breakWord 44 = .ok (.istore_n 2, 1) := by decide +kernel
theorem dX5_breakWord_45 : decode cX5_breakWord 45 = .ok (.aload_n 0, 1) := by decide +kernel
theorem dX5_breakWord_46 : decode cX5_breakWord 46 = .ok (.iload_n 1, 1) := by decide +kernel
theorem dX5_breakWord_47 : decode cX5_breakWord 47 = .ok (.invokevirtual 104, 3) := by decide +kernel
theorem dX5_breakWord_50 : decode cX5_breakWord 50 = .ok (.iload_n 2, 1) := by decide +kernel
theorem dX5_breakWord_51 : decode cX5_breakWord 51 = .ok (.ireturn, 1) := by decide +kernel
theorem dX5_raid_0 : decode cX5_raid 0 = .ok (.iload_n 1, 1) := by decide +kernel
theorem dX5_raid_1 : decode cX5_raid 1 = .ok (.aload_n 0, 1) := by decide +kernel
theorem dX5_raid_2 : decode cX5_raid 2 = .ok (.getfield 66, 3) := by decide +kernel
theorem dX5_raid_5 : decode cX5_raid 5 = .ok (.invokestatic 58, 3) := by decide +kernel
theorem dX5_raid_8 : decode cX5_raid 8 = .ok (.aload_n 0, 1) := by decide +kernel
theorem dX5_raid_9 : decode cX5_raid 9 = .ok (.getfield 11, 3) := by decide +kernel
theorem dX5_raid_12 : decode cX5_raid 12 = .ok (.iload_n 1, 1) := by decide +kernel
theorem dX5_raid_13 : decode cX5_raid 13 = .ok (.aaload, 1) := by decide +kernel
theorem dX5_raid_14 : decode cX5_raid 14 = .ok (.invokevirtual 108, 3) := by decide +kernel
theorem dX5_raid_17 : decode cX5_raid 17 = .ok (.invokestatic 70, 3) := by decide +kernel
theorem dX5_raid_20 : decode cX5_raid 20 = .ok (.aload_n 0, 1) := by decide +kernel
theorem dX5_raid_21 : decode cX5_raid 21 = .ok (.getfield 11, 3) := by decide +kernel
theorem dX5_raid_24 : decode cX5_raid 24 = .ok (.iload_n 1, 1) := by decide +kernel
theorem dX5_raid_25 : decode cX5_raid 25 = .ok (.aaload, 1) := by decide +kernel
theorem dX5_raid_26 : decode cX5_raid 26 = .ok (.astore_n 2, 1) := by decide +kernel
theorem dX5_raid_27 : decode cX5_raid 27 = .ok (.aload_n 2, 1) := by decide +kernel
theorem dX5_raid_28 : decode cX5_raid 28 = .ok (.getfield 77, 3) := by decide +kernel
theorem dX5_raid_31 : decode cX5_raid 31 = .ok (.lstore_n 3, 1) := by decide +kernel
theorem dX5_raid_32 : decode cX5_raid 32 = .ok (.aload_n 2, 1) := by decide +kernel
theorem dX5_raid_33 : decode cX5_raid 33 = .ok (.lconst 0, 1) := by decide +kernel
theorem dX5_raid_34 : decode cX5_raid 34 = .ok (.putfield 77, 3) := by decide +kernel
theorem dX5_raid_37 : decode cX5_raid 37 = .ok (.aload_n 2, 1) := by decide +kernel
theorem dX5_raid_38 : decode cX5_raid 38 = .ok (.iconst 1, 1) := by decide +kernel
theorem dX5_raid_39 : decode cX5_raid 39 = .ok (.putfield 97, 3) := by decide +kernel
theorem dX5_raid_42 : decode cX5_raid 42 = .ok (.aload_n 2, 1) := by decide +kernel
theorem dX5_raid_43 : decode cX5_raid 43 = .ok (.aload_n 0, 1) := by decide +kernel
theorem dX5_raid_44 : decode cX5_raid 44 = .ok (.getfield 112, 3) := by decide +kernel
theorem dX5_raid_47 : decode cX5_raid 47 = .ok (.sipush 720, 3) := by decide +kernel
theorem dX5_raid_50 : decode cX5_raid 50 = .ok (.iadd, 1) := by decide +kernel
theorem dX5_raid_51 : decode cX5_raid 51 = .ok (.putfield 115, 3) := by decide +kernel
theorem dX5_raid_54 : decode cX5_raid 54 = .ok (.aload_n 2, 1) := by decide +kernel
theorem dX5_raid_55 : decode cX5_raid 55 = .ok (.iconst 1, 1) := by decide +kernel
theorem dX5_raid_56 : decode cX5_raid 56 = .ok (.putfield 118, 3) := by decide +kernel
theorem dX5_raid_59 : decode cX5_raid 59 = .ok (.aload_n 0, 1) := by decide +kernel
theorem dX5_raid_60 : decode cX5_raid 60 = .ok (.dup, 1) := by decide +kernel
theorem dX5_raid_61 : decode cX5_raid 61 = .ok (.getfield 121, 3) := by decide +kernel
theorem dX5_raid_64 : decode cX5_raid 64 = .ok (.lload_n 3, 1) := by decide +kernel
theorem dX5_raid_65 : decode cX5_raid 65 = .ok (.ladd, 1) := by decide +kernel
theorem dX5_raid_66 : decode cX5_raid 66 = .ok (.putfield 121, 3) := by decide +kernel
theorem dX5_raid_69 : decode cX5_raid 69 = .ok (.aload_n 0, 1) := by decide +kernel
theorem dX5_raid_70 : decode cX5_raid 70 = .ok (.iload_n 1, 1) := by decide +kernel
theorem dX5_raid_71 : decode cX5_raid 71 = .ok (.invokevirtual 104, 3) := by decide +kernel
theorem dX5_raid_74 : decode cX5_raid 74 = .ok (.lload_n 3, 1) := by decide +kernel
theorem dX5_raid_75 : decode cX5_raid 75 = .ok (.l2i, 1) := by decide +kernel
theorem dX5_raid_76 : decode cX5_raid 76 = .ok (.ireturn, 1) := by decide +kernel
theorem dX5_order_0 : decode cX5_order 0 = .ok (.iload 4, 2) := by decide +kernel
theorem dX5_order_2 : decode cX5_order 2 = .ok (.bipush 20, 2) := by decide +kernel
theorem dX5_order_4 : decode cX5_order 4 = .ok (.invokestatic 58, 3) := by decide +kernel
theorem dX5_order_7 : decode cX5_order 7 = .ok (.aload_n 0, 1) := by decide +kernel
theorem dX5_order_8 : decode cX5_order 8 = .ok (.iload_n 1, 1) := by decide +kernel
theorem dX5_order_9 : decode cX5_order 9 = .ok (.iload_n 2, 1) := by decide +kernel
theorem dX5_order_10 : decode cX5_order 10 = .ok (.invokevirtual 84, 3) := by decide +kernel
theorem dX5_order_13 : decode cX5_order 13 = .ok (.iload_n 3, 1) := by decide +kernel
theorem dX5_order_14 : decode cX5_order 14 = .ok (.iconst 1, 1) := by decide +kernel
theorem dX5_order_15 : decode cX5_order 15 = .ok (.ldc 50, 2) := by decide +kernel
theorem dX5_order_17 : decode cX5_order 17 = .ok (.invokestatic 62, 3) := by decide +kernel
theorem dX5_order_20 : decode cX5_order 20 = .ok (.iload 5, 2) := by decide +kernel
theorem dX5_order_22 : decode cX5_order 22 = .ok (.iconst 0, 1) := by decide +kernel
theorem dX5_order_23 : decode cX5_order 23 = .ok (.sipush 9999, 3) := by decide +kernel
theorem dX5_order_26 : decode cX5_order 26 = .ok (.invokestatic 62, 3) := by decide +kernel
theorem dX5_order_29 : decode cX5_order 29 = .ok (.aload_n 0, 1) := by decide +kernel
theorem dX5_order_30 : decode cX5_order 30 = .ok (.getfield 124, 3) := by decide +kernel
theorem dX5_order_33 : decode cX5_order 33 = .ok (.bipush 40, 2) := by decide +kernel
theorem dX5_order_35 : decode cX5_order 35 = .ok (.if_icmp .ge 7, 3) := by decide +kernel
theorem dX5_order_38 : decode cX5_order 38 = .ok (.iconst 1, 1) := by decide +kernel
theorem dX5_order_39 : decode cX5_order 39 = .ok (.goto 4, 3) := by decide +kernel
theorem dX5_order_42 : decode cX5_order 42 = .ok (.iconst 0, 1) := by decide +kernel
theorem dX5_order_43 : decode cX5_order 43 = .ok (.invokestatic 70, 3) := by decide +kernel
theorem dX5_order_46 : decode cX5_order 46 = .ok (.aload_n 0, 1) := by decide +kernel
theorem dX5_order_47 : decode cX5_order 47 = .ok (.getfield 54, 3) := by decide +kernel
theorem dX5_order_50 : decode cX5_order 50 = .ok (.iload 4, 2) := by decide +kernel
theorem dX5_order_52 : decode cX5_order 52 = .ok (.baload, 1) := by decide +kernel
theorem dX5_order_53 : decode cX5_order 53 = .ok (.ifCond .ne 7, 3) := by decide +kernel
theorem dX5_order_56 : decode cX5_order 56 = .ok (.iconst 1, 1) := by decide +kernel
theorem dX5_order_57 : decode cX5_order 57 = .ok (.goto 4, 3) := by decide +kernel
theorem dX5_order_60 : decode cX5_order 60 = .ok (.iconst 0, 1) := by decide +kernel
theorem dX5_order_61 : decode cX5_order 61 = .ok (.invokestatic 70, 3) := by decide +kernel
theorem dX5_order_64 : decode cX5_order 64 = .ok (.aload_n 0, 1) := by decide +kernel
theorem dX5_order_65 : decode cX5_order 65 = .ok (.iload_n 1, 1) := by decide +kernel
theorem dX5_order_66 : decode cX5_order 66 = .ok (.iload_n 2, 1) := by decide +kernel
theorem dX5_order_67 : decode cX5_order 67 = .ok (.iload_n 3, 1) := by decide +kernel
theorem dX5_order_68 : decode cX5_order 68 = .ok (.invokevirtual 127, 3) := by decide +kernel
theorem dX5_order_71 : decode cX5_order 71 = .ok (.invokestatic 70, 3) := by decide +kernel
theorem dX5_order_74 : decode cX5_order 74 = .ok (.aload_n 0, 1) := by decide +kernel
theorem dX5_order_75 : decode cX5_order 75 = .ok (.getfield 18, 3) := by decide +kernel
theorem dX5_order_78 : decode cX5_order 78 = .ok (.aload_n 0, 1) := by decide +kernel
theorem dX5_order_79 : decode cX5_order 79 = .ok (.getfield 124, 3) := by decide +kernel
theorem dX5_order_82 : decode cX5_order 82 = .ok (.aaload, 1) := by decide +kernel
theorem dX5_order_83 : decode cX5_order 83 = .ok (.astore 6, 2) := by decide +kernel
theorem dX5_order_85 : decode cX5_order 85 = .ok (.aload 6, 2) := by decide +kernel
theorem dX5_order_87 : decode cX5_order 87 = .ok (.iload_n 3, 1) := by decide +kernel
theorem dX5_order_88 : decode cX5_order 88 = .ok (.putfield 131, 3) := by decide +kernel
theorem dX5_order_91 : decode cX5_order 91 = .ok (.aload 6, 2) := by decide +kernel
theorem dX5_order_93 : decode cX5_order 93 = .ok (.iload 5, 2) := by decide +kernel
theorem dX5_order_95 : decode cX5_order 95 = .ok (.putfield 134, 3) := by decide +kernel
theorem dX5_order_98 : decode cX5_order 98 = .ok (.aload 6, 2) := by decide +kernel
theorem dX5_order_100 : decode cX5_order 100 = .ok (.aload_n 0, 1) := by decide +kernel
theorem dX5_order_101 : decode cX5_order 101 = .ok (.getfield 112, 3) := by decide +kernel
theorem dX5_order_104 : decode cX5_order 104 = .ok (.putfield 137, 3) := by decide +kernel
theorem dX5_order_107 : decode cX5_order 107 = .ok (.aload 6, 2) := by decide +kernel
theorem dX5_order_109 : decode cX5_order 109 = .ok (.iconst 0, 1) := by decide +kernel
theorem dX5_order_110 : decode cX5_order 110 = .ok (.putfield 140, 3) := by decide +kernel
theorem dX5_order_113 : decode cX5_order 113 = .ok (.aload 6, 2) := by decide +kernel
theorem dX5_order_115 : decode cX5_order 115 = .ok (.iload_n 3, 1) := by decide +kernel
theorem dX5_order_116 : decode cX5_order 116 = .ok (.aload_n 0, 1) := by decide +kernel
theorem dX5_order_117 : decode cX5_order 117 = .ok (.getfield 42, 3) := by decide +kernel
theorem dX5_order_120 : decode cX5_order 120 = .ok (.invokevirtual 141, 3) := by decide +kernel
theorem dX5_order_123 : decode cX5_order 123 = .ok (.iadd, 1) := by decide +kernel
theorem dX5_order_124 : decode cX5_order 124 = .ok (.putfield 145, 3) := by decide +kernel
theorem dX5_order_127 : decode cX5_order 127 = .ok (.aload 6, 2) := by decide +kernel
theorem dX5_order_129 : decode cX5_order 129 = .ok (.aload_n 0, 1) := by decide +kernel
theorem dX5_order_130 : decode cX5_order 130 = .ok (.getfield 42, 3) := by decide +kernel
theorem dX5_order_133 : decode cX5_order 133 = .ok (.iconst 0, 1) := by decide +kernel
theorem dX5_order_134 : decode cX5_order 134 = .ok (.invokevirtual 148, 3) := by decide +kernel
theorem dX5_order_137 : decode cX5_order 137 = .ok (.aload_n 0, 1) := by decide +kernel
theorem dX5_order_138 : decode cX5_order 138 = .ok (.getfield 11, 3) := by decide +kernel
theorem dX5_order_141 : decode cX5_order 141 = .ok (.iload_n 1, 1) := by decide +kernel
theorem dX5_order_142 : decode cX5_order 142 = .ok (.aaload, 1) := by decide +kernel
theorem dX5_order_143 : decode cX5_order 143 = .ok (.dup, 1) := by decide +kernel
theorem dX5_order_144 : decode cX5_order 144 = .ok (.getfield 77, 3) := by decide +kernel
theorem dX5_order_147 : decode cX5_order 147 = .ok (.aload 6, 2) := by decide +kernel
theorem dX5_order_149 : decode cX5_order 149 = .ok (.getfield 145, 3) := by decide +kernel
theorem dX5_order_152 : decode cX5_order 152 = .ok (.i2l, 1) := by decide +kernel
theorem dX5_order_153 : decode cX5_order 153 = .ok (.ladd, 1) := by decide +kernel
theorem dX5_order_154 : decode cX5_order 154 = .ok (.putfield 77, 3) := by decide +kernel
theorem dX5_order_157 : decode cX5_order 157 = .ok (.aload_n 0, 1) := by decide +kernel
theorem dX5_order_158 : decode cX5_order 158 = .ok (.aload 6, 2) := by decide +kernel
theorem dX5_order_160 : decode cX5_order 160 = .ok (.invokevirtual 152, 3) := by decide +kernel
theorem dX5_order_163 : decode cX5_order 163 = .ok (.aload_n 0, 1) := by decide +kernel
theorem dX5_order_164 : decode cX5_order 164 = .ok (.aload_n 0, 1) := by decide +kernel
theorem dX5_order_165 : decode cX5_order 165 = .ok (.getfield 11, 3) := by decide +kernel
theorem dX5_order_168 : decode cX5_order 168 = .ok (.iload_n 1, 1) := by decide +kernel
theorem dX5_order_169 : decode cX5_order 169 = .ok (.aaload, 1) := by decide +kernel
theorem dX5_order_170 : decode cX5_order 170 = .ok (.getfield 74, 3) := by decide +kernel
theorem dX5_order_173 : decode cX5_order 173 = .ok (.iload_n 3, 1) := by decide +kernel
theorem dX5_order_174 : decode cX5_order 174 = .ok (.invokevirtual 156, 3) := by decide +kernel
theorem dX5_order_177 : decode cX5_order 177 = .ok (.aload_n 0, 1) := by decide +kernel
theorem dX5_order_178 : decode cX5_order 178 = .ok (.dup, 1) := by decide +kernel
theorem dX5_order_179 : decode cX5_order 179 = .ok (.getfield 124, 3) := by decide +kernel
theorem dX5_order_182 : decode cX5_order 182 = .ok (.iconst 1, 1) := by decide +kernel
theorem dX5_order_183 : decode cX5_order 183 = .ok (.iadd, 1) := by decide +kernel
theorem dX5_order_184 : decode cX5_order 184 = .ok (.putfield 124, 3) := by decide +kernel
theorem dX5_order_187 : decode cX5_order 187 = .ok (.aload_n 0, 1) := by decide +kernel
theorem dX5_order_188 : decode cX5_order 188 = .ok (.getfield 124, 3) := by decide +kernel
theorem dX5_order_191 : decode cX5_order 191 = .ok (.iconst 1, 1) := by decide +kernel
theorem dX5_order_192 : decode cX5_order 192 = .ok (.isub, 1) := by decide +kernel
theorem dX5_order_193 : decode cX5_order 193 = .ok (.ireturn, 1) := by decide +kernel
theorem dX5_fetch_0 : decode cX5_fetch 0 = .ok (.iload_n 1, 1) := by decide +kernel
theorem dX5_fetch_1 : decode cX5_fetch 1 = .ok (.aload_n 0, 1) := by decide +kernel
theorem dX5_fetch_2 : decode cX5_fetch 2 = .ok (.getfield 124, 3) := by decide +kernel
theorem dX5_fetch_5 : decode cX5_fetch 5 = .ok (.invokestatic 58, 3) := by decide +kernel
theorem dX5_fetch_8 : decode cX5_fetch 8 = .ok (.iload_n 2, 1) := by decide +kernel
theorem dX5_fetch_9 : decode cX5_fetch 9 = .ok (.iconst 0, 1) := by decide +kernel
theorem dX5_fetch_10 : decode cX5_fetch 10 = .ok (.sipush 9999, 3) := by decide +kernel
theorem dX5_fetch_13 : decode cX5_fetch 13 = .ok (.invokestatic 62, 3) := by decide +kernel
theorem dX5_fetch_16 : decode cX5_fetch 16 = .ok (.aload_n 0, 1) := by decide +kernel
theorem dX5_fetch_17 : decode cX5_fetch 17 = .ok (.getfield 18, 3) := by decide +kernel
theorem dX5_fetch_20 : decode cX5_fetch 20 = .ok (.iload_n 1, 1) := by decide +kernel
theorem dX5_fetch_21 : decode cX5_fetch 21 = .ok (.aaload, 1) := by decide +kernel
theorem dX5_fetch_22 : decode cX5_fetch 22 = .ok (.astore_n 3, 1) := by decide +kernel
theorem dX5_fetch_23 : decode cX5_fetch 23 = .ok (.aload_n 0, 1) := by decide +kernel
theorem dX5_fetch_24 : decode cX5_fetch 24 = .ok (.getfield 11, 3) := by decide +kernel
theorem dX5_fetch_27 : decode cX5_fetch 27 = .ok (.aload_n 3, 1) := by decide +kernel
theorem dX5_fetch_28 : decode cX5_fetch 28 = .ok (.invokevirtual 159, 3) := by decide +kernel
theorem dX5_fetch_31 : decode cX5_fetch 31 = .ok (.aaload, 1) := by decide +kernel
theorem dX5_fetch_32 : decode cX5_fetch 32 = .ok (.astore 4, 2) := by decide +kernel
theorem dX5_fetch_34 : decode cX5_fetch 34 = .ok (.aload_n 3, 1) := by decide +kernel
theorem dX5_fetch_35 : decode cX5_fetch 35 = .ok (.getfield 140, 3) := by decide +kernel
theorem dX5_fetch_38 : decode cX5_fetch 38 = .ok (.iconst 1, 1) := by decide +kernel
theorem dX5_fetch_39 : decode cX5_fetch 39 = .ok (.if_icmp .ne 7, 3) := by decide +kernel
theorem dX5_fetch_42 : decode cX5_fetch 42 = .ok (.iconst 1, 1) := by decide +kernel
theorem dX5_fetch_43 : decode cX5_fetch 43 = .ok (.goto 4, 3) := by decide +kernel
theorem dX5_fetch_46 : decode cX5_fetch 46 = .ok (.iconst 0, 1) := by decide +kernel
theorem dX5_fetch_47 : decode cX5_fetch 47 = .ok (.invokestatic 70, 3) := by decide +kernel
theorem dX5_fetch_50 : decode cX5_fetch 50 = .ok (.aload 4, 2) := by decide +kernel
theorem dX5_fetch_52 : decode cX5_fetch 52 = .ok (.invokevirtual 108, 3) := by decide +kernel
theorem dX5_fetch_55 : decode cX5_fetch 55 = .ok (.ifCond .eq 21, 3) := by decide +kernel
theorem dX5_fetch_58 : decode cX5_fetch 58 = .ok (.aload 4, 2) := by decide +kernel
theorem dX5_fetch_60 : decode cX5_fetch 60 = .ok (.getfield 77, 3) := by decide +kernel
theorem dX5_fetch_63 : decode cX5_fetch 63 = .ok (.aload_n 3, 1) := by decide +kernel
theorem dX5_fetch_64 : decode cX5_fetch 64 = .ok (.getfield 131, 3) := by decide +kernel
theorem dX5_fetch_67 : decode cX5_fetch 67 = .ok (.i2l, 1) := by decide +kernel
theorem dX5_fetch_68 : decode cX5_fetch 68 = .ok (.lcmp, 1) := by decide +kernel
theorem dX5_fetch_69 : decode cX5_fetch 69 = .ok (.ifCond .lt 7, 3) := by decide +kernel
theorem dX5_fetch_72 : decode cX5_fetch 72 = .ok (.iconst 1, 1) := by decide +kernel
theorem dX5_fetch_73 : decode cX5_fetch 73 = .ok (.goto 4, 3) := by decide +kernel
theorem dX5_fetch_76 : decode cX5_fetch 76 = .ok (.iconst 0, 1) := by decide +kernel
theorem dX5_fetch_77 : decode cX5_fetch 77 = .ok (.invokestatic 70, 3) := by decide +kernel
theorem dX5_fetch_80 : decode cX5_fetch 80 = .ok (.iload_n 2, 1) := by decide +kernel
theorem dX5_fetch_81 : decode cX5_fetch 81 = .ok (.aload_n 3, 1) := by decide +kernel
theorem dX5_fetch_82 : decode cX5_fetch 82 = .ok (.getfield 134, 3) := by decide +kernel
theorem dX5_fetch_85 : decode cX5_fetch 85 = .ok (.if_icmp .ne 25, 3) := by decide +kernel
theorem dX5_fetch_88 : decode cX5_fetch 88 = .ok (.aload 4, 2) := by decide +kernel
theorem dX5_fetch_90 : decode cX5_fetch 90 = .ok (.dup, 1) := by decide +kernel
theorem dX5_fetch_91 : decode cX5_fetch 91 = .ok (.getfield 77, 3) := by decide +kernel
theorem dX5_fetch_94 : decode cX5_fetch 94 = .ok (.aload_n 3, 1) := by decide +kernel
theorem dX5_fetch_95 : decode cX5_fetch 95 = .ok (.getfield 131, 3) := by decide +kernel
theorem dX5_fetch_98 : decode cX5_fetch 98 = .ok (.i2l, 1) := by decide +kernel
theorem dX5_fetch_99 : decode cX5_fetch 99 = .ok (.lsub, 1) := by decide +kernel
theorem dX5_fetch_100 : decode cX5_fetch 100 = .ok (.putfield 77, 3) := by decide +kernel
theorem dX5_fetch_103 : decode cX5_fetch 103 = .ok (.aload_n 3, 1) := by decide +kernel
theorem dX5_fetch_104 : decode cX5_fetch 104 = .ok (.iconst 2, 1) := by decide +kernel
theorem dX5_fetch_105 : decode cX5_fetch 105 = .ok (.putfield 140, 3) := by decide +kernel
theorem dX5_fetch_108 : decode cX5_fetch 108 = .ok (.iconst 2, 1) := by decide +kernel
theorem dX5_fetch_109 : decode cX5_fetch 109 = .ok (.ireturn, 1) := by decide +kernel
theorem dX5_fetch_110 : decode cX5_fetch 110 = .ok (.aload_n 3, 1) := by decide +kernel
theorem dX5_fetch_111 : decode cX5_fetch 111 = .ok (.dup, 1) := by decide +kernel
theorem dX5_fetch_112 : decode cX5_fetch 112 = .ok (.getfield 162, 3) := by decide +kernel
theorem dX5_fetch_115 : decode cX5_fetch 115 = .ok (.iconst 1, 1) := by decide +kernel
theorem dX5_fetch_116 : decode cX5_fetch 116 = .ok (.iadd, 1) := by decide +kernel
theorem dX5_fetch_117 : decode cX5_fetch 117 = .ok (.putfield 162, 3) := by decide +kernel
theorem dX5_fetch_120 : decode cX5_fetch 120 = .ok (.aload_n 3, 1) := by decide +kernel
theorem dX5_fetch_121 : decode cX5_fetch 121 = .ok (.getfield 162, 3) := by decide +kernel
theorem dX5_fetch_124 : decode cX5_fetch 124 = .ok (.iconst 3, 1) := by decide +kernel
theorem dX5_fetch_125 : decode cX5_fetch 125 = .ok (.if_icmp .lt 8, 3) := by decide +kernel
theorem dX5_fetch_128 : decode cX5_fetch 128 = .ok (.aload_n 0, 1) := by decide +kernel
theorem dX5_fetch_129 : decode cX5_fetch 129 = .ok (.aload_n 3, 1) := by decide +kernel
theorem dX5_fetch_130 : decode cX5_fetch 130 = .ok (.invokevirtual 165, 3) := by decide +kernel
theorem dX5_fetch_133 : decode cX5_fetch 133 = .ok (.aload_n 3, 1) := by decide +kernel
theorem dX5_fetch_134 : decode cX5_fetch 134 = .ok (.getfield 140, 3) := by decide +kernel
theorem dX5_fetch_137 : decode cX5_fetch 137 = .ok (.ireturn, 1) := by decide +kernel
theorem dX5_pass_0 : decode cX5_pass 0 = .ok (.iload_n 1, 1) := by decide +kernel
theorem dX5_pass_1 : decode cX5_pass 1 = .ok (.iconst 1, 1) := by decide +kernel
theorem dX5_pass_2 : decode cX5_pass 2 = .ok (.sipush 500, 3) := by decide +kernel
theorem dX5_pass_5 : decode cX5_pass 5 = .ok (.invokestatic 62, 3) := by decide +kernel
theorem dX5_pass_8 : decode cX5_pass 8 = .ok (.iconst 0, 1) := by decide +kernel
theorem dX5_pass_9 : decode cX5_pass 9 = .ok (.istore_n 2, 1) := by decide +kernel
theorem dX5_pass_10 : decode cX5_pass 10 = .ok (.iload_n 2, 1) := by decide +kernel
theorem dX5_pass_11 : decode cX5_pass 11 = .ok (.iload_n 1, 1) := by decide +kernel
theorem dX5_pass_12 : decode cX5_pass 12 = .ok (.if_icmp .ge 13, 3) := by decide +kernel
theorem dX5_pass_15 : decode cX5_pass 15 = .ok (.aload_n 0, 1) := by decide +kernel
theorem dX5_pass_16 : decode cX5_pass 16 = .ok (.invokevirtual 168, 3) := by decide +kernel
theorem dX5_pass_19 : decode cX5_pass 19 = .ok (.iinc 2 1, 3) := by decide +kernel
theorem dX5_pass_22 : decode cX5_pass 22 = .ok (.goto (-12), 3) := by decide +kernel
theorem dX5_pass_25 : decode cX5_pass 25 = .ok (.aload_n 0, 1) := by decide +kernel
theorem dX5_pass_26 : decode cX5_pass 26 = .ok (.getfield 112, 3) := by decide +kernel
theorem dX5_pass_29 : decode cX5_pass 29 = .ok (.ireturn, 1) := by decide +kernel
theorem dX5_pay_0 : decode cX5_pay 0 = .ok (.aload_n 0, 1) := by decide +kernel
theorem dX5_pay_1 : decode cX5_pay 1 = .ok (.iload_n 1, 1) := by decide +kernel
theorem dX5_pay_2 : decode cX5_pay 2 = .ok (.iload_n 2, 1) := by decide +kernel
theorem dX5_pay_3 : decode cX5_pay 3 = .ok (.invokevirtual 84, 3) := by decide +kernel
theorem dX5_pay_6 : decode cX5_pay 6 = .ok (.iload_n 3, 1) := by decide +kernel
theorem dX5_pay_7 : decode cX5_pay 7 = .ok (.iconst 1, 1) := by decide +kernel
theorem dX5_pay_8 : decode cX5_pay 8 = .ok (.ldc 50, 2) := by decide +kernel
theorem dX5_pay_10 : decode cX5_pay 10 = .ok (.invokestatic 62, 3) := by decide +kernel
theorem dX5_pay_13 : decode cX5_pay 13 = .ok (.aload_n 0, 1) := by decide +kernel
theorem dX5_pay_14 : decode cX5_pay 14 = .ok (.getfield 11, 3) := by decide +kernel
theorem dX5_pay_17 : decode cX5_pay 17 = .ok (.iload_n 1, 1) := by decide +kernel
theorem dX5_pay_18 : decode cX5_pay 18 = .ok (.aaload, 1) := by decide +kernel
theorem dX5_pay_19 : decode cX5_pay 19 = .ok (.invokevirtual 108, 3) := by decide +kernel
theorem dX5_pay_22 : decode cX5_pay 22 = .ok (.ifCond .eq 19, 3) := by decide +kernel
theorem dX5_pay_25 : decode cX5_pay 25 = .ok (.aload_n 0, 1) := by decide +kernel
theorem dX5_pay_26 : decode cX5_pay 26 = .ok (.getfield 11, 3) := by decide +kernel
theorem dX5_pay_29 : decode cX5_pay 29 = .ok (.iload_n 2, 1) := by decide +kernel
theorem dX5_pay_30 : decode cX5_pay 30 = .ok (.aaload, 1) := by decide +kernel
theorem dX5_pay_31 : decode cX5_pay 31 = .ok (.invokevirtual 108, 3) := by decide +kernel
theorem dX5_pay_34 : decode cX5_pay 34 = .ok (.ifCond .eq 7, 3) := by decide +kernel
theorem dX5_pay_37 : decode cX5_pay 37 = .ok (.iconst 1, 1) := by decide +kernel
theorem dX5_pay_38 : decode cX5_pay 38 = .ok (.goto 4, 3) := by decide +kernel
theorem dX5_pay_41 : decode cX5_pay 41 = .ok (.iconst 0, 1) := by decide +kernel
theorem dX5_pay_42 : decode cX5_pay 42 = .ok (.invokestatic 70, 3) := by decide +kernel
theorem dX5_pay_45 : decode cX5_pay 45 = .ok (.aload_n 0, 1) := by decide +kernel
theorem dX5_pay_46 : decode cX5_pay 46 = .ok (.getfield 33, 3) := by decide +kernel
theorem dX5_pay_49 : decode cX5_pay 49 = .ok (.getfield 171, 3) := by decide +kernel
theorem dX5_pay_52 : decode cX5_pay 52 = .ok (.iload_n 1, 1) := by decide +kernel
theorem dX5_pay_53 : decode cX5_pay 53 = .ok (.aaload, 1) := by decide +kernel
theorem dX5_pay_54 : decode cX5_pay 54 = .ok (.iload_n 2, 1) := by decide +kernel
theorem dX5_pay_55 : decode cX5_pay 55 = .ok (.laload, 1) := by decide +kernel
theorem dX5_pay_56 : decode cX5_pay 56 = .ok (.iload_n 3, 1) := by decide +kernel
theorem dX5_pay_57 : decode cX5_pay 57 = .ok (.i2l, 1) := by decide +kernel
theorem dX5_pay_58 : decode cX5_pay 58 = .ok (.lcmp, 1) := by decide +kernel
theorem dX5_pay_59 : decode cX5_pay 59 = .ok (.ifCond .lt 7, 3) := by decide +kernel
theorem dX5_pay_62 : decode cX5_pay 62 = .ok (.iconst 1, 1) := by decide +kernel
theorem dX5_pay_63 : decode cX5_pay 63 = .ok (.goto 4, 3) := by decide +kernel
theorem dX5_pay_66 : decode cX5_pay 66 = .ok (.iconst 0, 1) := by decide +kernel
theorem dX5_pay_67 : decode cX5_pay 67 = .ok (.invokestatic 70, 3) := by decide +kernel
theorem dX5_pay_70 : decode cX5_pay 70 = .ok (.aload_n 0, 1) := by decide +kernel
theorem dX5_pay_71 : decode cX5_pay 71 = .ok (.getfield 11, 3) := by decide +kernel
theorem dX5_pay_74 : decode cX5_pay 74 = .ok (.iload_n 1, 1) := by decide +kernel
theorem dX5_pay_75 : decode cX5_pay 75 = .ok (.aaload, 1) := by decide +kernel
theorem dX5_pay_76 : decode cX5_pay 76 = .ok (.getfield 77, 3) := by decide +kernel
theorem dX5_pay_79 : decode cX5_pay 79 = .ok (.iload_n 3, 1) := by decide +kernel
theorem dX5_pay_80 : decode cX5_pay 80 = .ok (.i2l, 1) := by decide +kernel
theorem dX5_pay_81 : decode cX5_pay 81 = .ok (.lcmp, 1) := by decide +kernel
theorem dX5_pay_82 : decode cX5_pay 82 = .ok (.ifCond .lt 7, 3) := by decide +kernel
theorem dX5_pay_85 : decode cX5_pay 85 = .ok (.iconst 1, 1) := by decide +kernel
theorem dX5_pay_86 : decode cX5_pay 86 = .ok (.goto 4, 3) := by decide +kernel
theorem dX5_pay_89 : decode cX5_pay 89 = .ok (.iconst 0, 1) := by decide +kernel
theorem dX5_pay_90 : decode cX5_pay 90 = .ok (.invokestatic 70, 3) := by decide +kernel
theorem dX5_pay_93 : decode cX5_pay 93 = .ok (.aload_n 0, 1) := by decide +kernel
theorem dX5_pay_94 : decode cX5_pay 94 = .ok (.getfield 11, 3) := by decide +kernel
theorem dX5_pay_97 : decode cX5_pay 97 = .ok (.iload_n 1, 1) := by decide +kernel
theorem dX5_pay_98 : decode cX5_pay 98 = .ok (.aaload, 1) := by decide +kernel
theorem dX5_pay_99 : decode cX5_pay 99 = .ok (.dup, 1) := by decide +kernel
theorem dX5_pay_100 : decode cX5_pay 100 = .ok (.getfield 77, 3) := by decide +kernel
theorem dX5_pay_103 : decode cX5_pay 103 = .ok (.iload_n 3, 1) := by decide +kernel
theorem dX5_pay_104 : decode cX5_pay 104 = .ok (.i2l, 1) := by decide +kernel
theorem dX5_pay_105 : decode cX5_pay 105 = .ok (.lsub, 1) := by decide +kernel
theorem dX5_pay_106 : decode cX5_pay 106 = .ok (.putfield 77, 3) := by decide +kernel
theorem dX5_pay_109 : decode cX5_pay 109 = .ok (.aload_n 0, 1) := by decide +kernel
theorem dX5_pay_110 : decode cX5_pay 110 = .ok (.getfield 11, 3) := by decide +kernel
theorem dX5_pay_113 : decode cX5_pay 113 = .ok (.iload_n 2, 1) := by decide +kernel
theorem dX5_pay_114 : decode cX5_pay 114 = .ok (.aaload, 1) := by decide +kernel
theorem dX5_pay_115 : decode cX5_pay 115 = .ok (.dup, 1) := by decide +kernel
theorem dX5_pay_116 : decode cX5_pay 116 = .ok (.getfield 77, 3) := by decide +kernel
theorem dX5_pay_119 : decode cX5_pay 119 = .ok (.iload_n 3, 1) := by decide +kernel
theorem dX5_pay_120 : decode cX5_pay 120 = .ok (.i2l, 1) := by decide +kernel
theorem dX5_pay_121 : decode cX5_pay 121 = .ok (.ladd, 1) := by decide +kernel
theorem dX5_pay_122 : decode cX5_pay 122 = .ok (.putfield 77, 3) := by decide +kernel
theorem dX5_pay_125 : decode cX5_pay 125 = .ok (.aload_n 0, 1) := by decide +kernel
theorem dX5_pay_126 : decode cX5_pay 126 = .ok (.getfield 33, 3) := by decide +kernel
theorem dX5_pay_129 : decode cX5_pay 129 = .ok (.iload_n 1, 1) := by decide +kernel
theorem dX5_pay_130 : decode cX5_pay 130 = .ok (.iload_n 2, 1) := by decide +kernel
theorem dX5_pay_131 : decode cX5_pay 131 = .ok (.iload_n 3, 1) := by decide +kernel
theorem dX5_pay_132 : decode cX5_pay 132 = .ok (.ineg, 1) := by decide +kernel
theorem dX5_pay_133 : decode cX5_pay 133 = .ok (.i2l, 1) := by decide +kernel
theorem dX5_pay_134 : decode cX5_pay 134 = .ok (.invokevirtual 175, 3) := by decide +kernel
theorem dX5_pay_137 : decode cX5_pay 137 = .ok (.aload_n 0, 1) := by decide +kernel
theorem dX5_pay_138 : decode cX5_pay 138 = .ok (.getfield 33, 3) := by decide +kernel
theorem dX5_pay_141 : decode cX5_pay 141 = .ok (.getfield 171, 3) := by decide +kernel
theorem dX5_pay_144 : decode cX5_pay 144 = .ok (.iload_n 1, 1) := by decide +kernel
theorem dX5_pay_145 : decode cX5_pay 145 = .ok (.aaload, 1) := by decide +kernel
theorem dX5_pay_146 : decode cX5_pay 146 = .ok (.iload_n 2, 1) := by decide +kernel
theorem dX5_pay_147 : decode cX5_pay 147 = .ok (.laload, 1) := by decide +kernel
theorem dX5_pay_148 : decode cX5_pay 148 = .ok (.l2i, 1) := by decide +kernel
theorem dX5_pay_149 : decode cX5_pay 149 = .ok (.ireturn, 1) := by decide +kernel
theorem dX5_deliver_0 : decode cX5_deliver 0 = .ok (.aload_n 0, 1) := by decide +kernel
theorem dX5_deliver_1 : decode cX5_deliver 1 = .ok (.iload_n 1, 1) := by decide +kernel
theorem dX5_deliver_2 : decode cX5_deliver 2 = .ok (.iload_n 2, 1) := by decide +kernel
theorem dX5_deliver_3 : decode cX5_deliver 3 = .ok (.invokevirtual 84, 3) := by decide +kernel
theorem dX5_deliver_6 : decode cX5_deliver 6 = .ok (.iload_n 3, 1) := by decide +kernel
theorem dX5_deliver_7 : decode cX5_deliver 7 = .ok (.iconst 1, 1) := by decide +kernel
theorem dX5_deliver_8 : decode cX5_deliver 8 = .ok (.ldc 50, 2) := by decide +kernel
theorem dX5_deliver_10 : decode cX5_deliver 10 = .ok (.invokestatic 62, 3) := by decide +kernel
theorem dX5_deliver_13 : decode cX5_deliver 13 = .ok (.aload_n 0, 1) := by decide +kernel
theorem dX5_deliver_14 : decode cX5_deliver 14 = .ok (.getfield 11, 3) := by decide +kernel
theorem dX5_deliver_17 : decode cX5_deliver 17 = .ok (.iload_n 1, 1) := by decide +kernel
theorem dX5_deliver_18 : decode cX5_deliver 18 = .ok (.aaload, 1) := by decide +kernel
theorem dX5_deliver_19 : decode cX5_deliver 19 = .ok (.getfield 97, 3) := by decide +kernel
theorem dX5_deliver_22 : decode cX5_deliver 22 = .ok (.iconst 2, 1) := by decide +kernel
theorem dX5_deliver_23 : decode cX5_deliver 23 = .ok (.if_icmp .eq 20, 3) := by decide +kernel
theorem dX5_deliver_26 : decode cX5_deliver 26 = .ok (.aload_n 0, 1) := by decide +kernel
theorem dX5_deliver_27 : decode cX5_deliver 27 = .ok (.getfield 11, 3) := by decide +kernel
theorem dX5_deliver_30 : decode cX5_deliver 30 = .ok (.iload_n 2, 1) := by decide +kernel
theorem dX5_deliver_31 : decode cX5_deliver 31 = .ok (.aaload, 1) := by decide +kernel
theorem dX5_deliver_32 : decode cX5_deliver 32 = .ok (.getfield 97, 3) := by decide +kernel
theorem dX5_deliver_35 : decode cX5_deliver 35 = .ok (.iconst 2, 1) := by decide +kernel
theorem dX5_deliver_36 : decode cX5_deliver 36 = .ok (.if_icmp .eq 7, 3) := by decide +kernel
theorem dX5_deliver_39 : decode cX5_deliver 39 = .ok (.iconst 1, 1) := by decide +kernel
theorem dX5_deliver_40 : decode cX5_deliver 40 = .ok (.goto 4, 3) := by decide +kernel
theorem dX5_deliver_43 : decode cX5_deliver 43 = .ok (.iconst 0, 1) := by decide +kernel
theorem dX5_deliver_44 : decode cX5_deliver 44 = .ok (.invokestatic 70, 3) := by decide +kernel
theorem dX5_deliver_47 : decode cX5_deliver 47 = .ok (.aload_n 0, 1) := by decide +kernel
theorem dX5_deliver_48 : decode cX5_deliver 48 = .ok (.getfield 33, 3) := by decide +kernel
theorem dX5_deliver_51 : decode cX5_deliver 51 = .ok (.getfield 171, 3) := by decide +kernel
theorem dX5_deliver_54 : decode cX5_deliver 54 = .ok (.iload_n 1, 1) := by decide +kernel
theorem dX5_deliver_55 : decode cX5_deliver 55 = .ok (.aaload, 1) := by decide +kernel
theorem dX5_deliver_56 : decode cX5_deliver 56 = .ok (.iload_n 2, 1) := by decide +kernel
theorem dX5_deliver_57 : decode cX5_deliver 57 = .ok (.laload, 1) := by decide +kernel
theorem dX5_deliver_58 : decode cX5_deliver 58 = .ok (.iload_n 3, 1) := by decide +kernel
theorem dX5_deliver_59 : decode cX5_deliver 59 = .ok (.i2l, 1) := by decide +kernel
theorem dX5_deliver_60 : decode cX5_deliver 60 = .ok (.lcmp, 1) := by decide +kernel
theorem dX5_deliver_61 : decode cX5_deliver 61 = .ok (.ifCond .lt 7, 3) := by decide +kernel
theorem dX5_deliver_64 : decode cX5_deliver 64 = .ok (.iconst 1, 1) := by decide +kernel
theorem dX5_deliver_65 : decode cX5_deliver 65 = .ok (.goto 4, 3) := by decide +kernel
theorem dX5_deliver_68 : decode cX5_deliver 68 = .ok (.iconst 0, 1) := by decide +kernel
theorem dX5_deliver_69 : decode cX5_deliver 69 = .ok (.invokestatic 70, 3) := by decide +kernel
theorem dX5_deliver_72 : decode cX5_deliver 72 = .ok (.aload_n 0, 1) := by decide +kernel
theorem dX5_deliver_73 : decode cX5_deliver 73 = .ok (.getfield 33, 3) := by decide +kernel
theorem dX5_deliver_76 : decode cX5_deliver 76 = .ok (.iload_n 1, 1) := by decide +kernel
theorem dX5_deliver_77 : decode cX5_deliver 77 = .ok (.iload_n 2, 1) := by decide +kernel
theorem dX5_deliver_78 : decode cX5_deliver 78 = .ok (.iload_n 3, 1) := by decide +kernel
theorem dX5_deliver_79 : decode cX5_deliver 79 = .ok (.ineg, 1) := by decide +kernel
theorem dX5_deliver_80 : decode cX5_deliver 80 = .ok (.i2l, 1) := by decide +kernel
theorem dX5_deliver_81 : decode cX5_deliver 81 = .ok (.invokevirtual 175, 3) := by decide +kernel
theorem dX5_deliver_84 : decode cX5_deliver 84 = .ok (.aload_n 0, 1) := by decide +kernel
theorem dX5_deliver_85 : decode cX5_deliver 85 = .ok (.getfield 33, 3) := by decide +kernel
theorem dX5_deliver_88 : decode cX5_deliver 88 = .ok (.getfield 171, 3) := by decide +kernel
theorem dX5_deliver_91 : decode cX5_deliver 91 = .ok (.iload_n 1, 1) := by decide +kernel
theorem dX5_deliver_92 : decode cX5_deliver 92 = .ok (.aaload, 1) := by decide +kernel
theorem dX5_deliver_93 : decode cX5_deliver 93 = .ok (.iload_n 2, 1) := by decide +kernel
theorem dX5_deliver_94 : decode cX5_deliver 94 = .ok (.laload, 1) := by decide +kernel
theorem dX5_deliver_95 : decode cX5_deliver 95 = .ok (.l2i, 1) := by decide +kernel
theorem dX5_deliver_96 : decode cX5_deliver 96 = .ok (.ireturn, 1) := by decide +kernel
theorem dX5_courier_0 : decode cX5_courier 0 = .ok (.aload_n 0, 1) := by decide +kernel
theorem dX5_courier_1 : decode cX5_courier 1 = .ok (.iload_n 1, 1) := by decide +kernel
theorem dX5_courier_2 : decode cX5_courier 2 = .ok (.iload_n 2, 1) := by decide +kernel
theorem dX5_courier_3 : decode cX5_courier 3 = .ok (.invokevirtual 84, 3) := by decide +kernel
theorem dX5_courier_6 : decode cX5_courier 6 = .ok (.iload_n 3, 1) := by decide +kernel
theorem dX5_courier_7 : decode cX5_courier 7 = .ok (.iconst 1, 1) := by decide +kernel
theorem dX5_courier_8 : decode cX5_courier 8 = .ok (.ldc 50, 2) := by decide +kernel
theorem dX5_courier_10 : decode cX5_courier 10 = .ok (.invokestatic 62, 3) := by decide +kernel
theorem dX5_courier_13 : decode cX5_courier 13 = .ok (.iload 4, 2) := by decide +kernel
theorem dX5_courier_15 : decode cX5_courier 15 = .ok (.iconst 1, 1) := by decide +kernel
theorem dX5_courier_16 : decode cX5_courier 16 = .ok (.sipush 500, 3) := by decide +kernel
theorem dX5_courier_19 : decode cX5_courier 19 = .ok (.invokestatic 62, 3) := by decide +kernel
theorem dX5_courier_22 : decode cX5_courier 22 = .ok (.aload_n 0, 1) := by decide +kernel
theorem dX5_courier_23 : decode cX5_courier 23 = .ok (.getfield 179, 3) := by decide +kernel
theorem dX5_courier_26 : decode cX5_courier 26 = .ok (.bipush 40, 2) := by decide +kernel
theorem dX5_courier_28 : decode cX5_courier 28 = .ok (.if_icmp .ge 7, 3) := by decide +kernel
theorem dX5_courier_31 : decode cX5_courier 31 = .ok (.iconst 1, 1) := by decide +kernel
theorem dX5_courier_32 : decode cX5_courier 32 = .ok (.goto 4, 3) := by decide +kernel
theorem dX5_courier_35 : decode cX5_courier 35 = .ok (.iconst 0, 1) := by decide +kernel
theorem dX5_courier_36 : decode cX5_courier 36 = .ok (.invokestatic 70, 3) := by decide +kernel
theorem dX5_courier_39 : decode cX5_courier 39 = .ok (.aload_n 0, 1) := by decide +kernel
theorem dX5_courier_40 : decode cX5_courier 40 = .ok (.getfield 11, 3) := by decide +kernel
theorem dX5_courier_43 : decode cX5_courier 43 = .ok (.iload_n 1, 1) := by decide +kernel
theorem dX5_courier_44 : decode cX5_courier 44 = .ok (.aaload, 1) := by decide +kernel
theorem dX5_courier_45 : decode cX5_courier 45 = .ok (.invokevirtual 108, 3) := by decide +kernel
theorem dX5_courier_48 : decode cX5_courier 48 = .ok (.ifCond .eq 22, 3) := by decide +kernel
theorem dX5_courier_51 : decode cX5_courier 51 = .ok (.aload_n 0, 1) := by decide +kernel
theorem dX5_courier_52 : decode cX5_courier 52 = .ok (.getfield 11, 3) := by decide +kernel
theorem dX5_courier_55 : decode cX5_courier 55 = .ok (.iload_n 1, 1) := by decide +kernel
theorem dX5_courier_56 : decode cX5_courier 56 = .ok (.aaload, 1) := by decide +kernel
theorem dX5_courier_57 : decode cX5_courier 57 = .ok (.getfield 77, 3) := by decide +kernel
theorem dX5_courier_60 : decode cX5_courier 60 = .ok (.iload_n 3, 1) := by decide +kernel
theorem dX5_courier_61 : decode cX5_courier 61 = .ok (.i2l, 1) := by decide +kernel
theorem dX5_courier_62 : decode cX5_courier 62 = .ok (.lcmp, 1) := by decide +kernel
theorem dX5_courier_63 : decode cX5_courier 63 = .ok (.ifCond .lt 7, 3) := by decide +kernel
theorem dX5_courier_66 : decode cX5_courier 66 = .ok (.iconst 1, 1) := by decide +kernel
theorem dX5_courier_67 : decode cX5_courier 67 = .ok (.goto 4, 3) := by decide +kernel
theorem dX5_courier_70 : decode cX5_courier 70 = .ok (.iconst 0, 1) := by decide +kernel
theorem dX5_courier_71 : decode cX5_courier 71 = .ok (.invokestatic 70, 3) := by decide +kernel
theorem dX5_courier_74 : decode cX5_courier 74 = .ok (.aload_n 0, 1) := by decide +kernel
theorem dX5_courier_75 : decode cX5_courier 75 = .ok (.getfield 25, 3) := by decide +kernel
theorem dX5_courier_78 : decode cX5_courier 78 = .ok (.aload_n 0, 1) := by decide +kernel
theorem dX5_courier_79 : decode cX5_courier 79 = .ok (.getfield 179, 3) := by decide +kernel
theorem dX5_courier_82 : decode cX5_courier 82 = .ok (.aaload, 1) := by decide +kernel
theorem dX5_courier_83 : decode cX5_courier 83 = .ok (.astore 5, 2) := by decide +kernel
theorem dX5_courier_85 : decode cX5_courier 85 = .ok (.aload 5, 2) := by decide +kernel
theorem dX5_courier_87 : decode cX5_courier 87 = .ok (.iload_n 1, 1) := by decide +kernel
theorem dX5_courier_88 : decode cX5_courier 88 = .ok (.putfield 182, 3) := by decide +kernel
theorem dX5_courier_91 : decode cX5_courier 91 = .ok (.aload 5, 2) := by decide +kernel
theorem dX5_courier_93 : decode cX5_courier 93 = .ok (.iload_n 2, 1) := by decide +kernel
theorem dX5_courier_94 : decode cX5_courier 94 = .ok (.putfield 185, 3) := by decide +kernel
theorem dX5_courier_97 : decode cX5_courier 97 = .ok (.aload 5, 2) := by decide +kernel
theorem dX5_courier_99 : decode cX5_courier 99 = .ok (.iload_n 3, 1) := by decide +kernel
theorem dX5_courier_100 : decode cX5_courier 100 = .ok (.putfield 188, 3) := by decide +kernel
theorem dX5_courier_103 : decode cX5_courier 103 = .ok (.aload 5, 2) := by decide +kernel
theorem dX5_courier_105 : decode cX5_courier 105 = .ok (.aload_n 0, 1) := by decide +kernel
theorem dX5_courier_106 : decode cX5_courier 106 = .ok (.getfield 112, 3) := by decide +kernel
theorem dX5_courier_109 : decode cX5_courier 109 = .ok (.iload 4, 2) := by decide +kernel
theorem dX5_courier_111 : decode cX5_courier 111 = .ok (.iadd, 1) := by decide +kernel
theorem dX5_courier_112 : decode cX5_courier 112 = .ok (.putfield 189, 3) := by decide +kernel
theorem dX5_courier_115 : decode cX5_courier 115 = .ok (.aload 5, 2) := by decide +kernel
theorem dX5_courier_117 : decode cX5_courier 117 = .ok (.iconst 1, 1) := by decide +kernel
theorem dX5_courier_118 : decode cX5_courier 118 = .ok (.putfield 192, 3) := by decide +kernel
theorem dX5_courier_121 : decode cX5_courier 121 = .ok (.aload_n 0, 1) := by decide +kernel
theorem dX5_courier_122 : decode cX5_courier 122 = .ok (.getfield 11, 3) := by decide +kernel
theorem dX5_courier_125 : decode cX5_courier 125 = .ok (.iload_n 1, 1) := by decide +kernel
theorem dX5_courier_126 : decode cX5_courier 126 = .ok (.aaload, 1) := by decide +kernel
theorem dX5_courier_127 : decode cX5_courier 127 = .ok (.dup, 1) := by decide +kernel
theorem dX5_courier_128 : decode cX5_courier 128 = .ok (.getfield 77, 3) := by decide +kernel
theorem dX5_courier_131 : decode cX5_courier 131 = .ok (.iload_n 3, 1) := by decide +kernel
theorem dX5_courier_132 : decode cX5_courier 132 = .ok (.i2l, 1) := by decide +kernel
theorem dX5_courier_133 : decode cX5_courier 133 = .ok (.lsub, 1) := by decide +kernel
theorem dX5_courier_134 : decode cX5_courier 134 = .ok (.putfield 77, 3) := by decide +kernel
theorem dX5_courier_137 : decode cX5_courier 137 = .ok (.aload_n 0, 1) := by decide +kernel
theorem dX5_courier_138 : decode cX5_courier 138 = .ok (.dup, 1) := by decide +kernel
theorem dX5_courier_139 : decode cX5_courier 139 = .ok (.getfield 179, 3) := by decide +kernel
theorem dX5_courier_142 : decode cX5_courier 142 = .ok (.iconst 1, 1) := by decide +kernel
theorem dX5_courier_143 : decode cX5_courier 143 = .ok (.iadd, 1) := by decide +kernel
theorem dX5_courier_144 : decode cX5_courier 144 = .ok (.putfield 179, 3) := by decide +kernel
theorem dX5_courier_147 : decode cX5_courier 147 = .ok (.aload_n 0, 1) := by decide +kernel
theorem dX5_courier_148 : decode cX5_courier 148 = .ok (.getfield 179, 3) := by decide +kernel
theorem dX5_courier_151 : decode cX5_courier 151 = .ok (.iconst 1, 1) := by decide +kernel
theorem dX5_courier_152 : decode cX5_courier 152 = .ok (.isub, 1) := by decide +kernel
theorem dX5_courier_153 : decode cX5_courier 153 = .ok (.ireturn, 1) := by decide +kernel
theorem dX5_rob_0 : decode cX5_rob 0 = .ok (.iload_n 1, 1) := by decide +kernel
theorem dX5_rob_1 : decode cX5_rob 1 = .ok (.aload_n 0, 1) := by decide +kernel
theorem dX5_rob_2 : decode cX5_rob 2 = .ok (.getfield 179, 3) := by decide +kernel
theorem dX5_rob_5 : decode cX5_rob 5 = .ok (.invokestatic 58, 3) := by decide +kernel
theorem dX5_rob_8 : decode cX5_rob 8 = .ok (.aload_n 0, 1) := by decide +kernel
theorem dX5_rob_9 : decode cX5_rob 9 = .ok (.getfield 25, 3) := by decide +kernel
theorem dX5_rob_12 : decode cX5_rob 12 = .ok (.iload_n 1, 1) := by decide +kernel
theorem dX5_rob_13 : decode cX5_rob 13 = .ok (.aaload, 1) := by decide +kernel
theorem dX5_rob_14 : decode cX5_rob 14 = .ok (.getfield 192, 3) := by decide +kernel
theorem dX5_rob_17 : decode cX5_rob 17 = .ok (.invokestatic 70, 3) := by decide +kernel
theorem dX5_rob_20 : decode cX5_rob 20 = .ok (.aload_n 0, 1) := by decide +kernel
theorem dX5_rob_21 : decode cX5_rob 21 = .ok (.getfield 25, 3) := by decide +kernel
theorem dX5_rob_24 : decode cX5_rob 24 = .ok (.iload_n 1, 1) := by decide +kernel
theorem dX5_rob_25 : decode cX5_rob 25 = .ok (.aaload, 1) := by decide +kernel
theorem dX5_rob_26 : decode cX5_rob 26 = .ok (.iconst 0, 1) := by decide +kernel
theorem dX5_rob_27 : decode cX5_rob 27 = .ok (.putfield 192, 3) := by decide +kernel
theorem dX5_rob_30 : decode cX5_rob 30 = .ok (.aload_n 0, 1) := by decide +kernel
theorem dX5_rob_31 : decode cX5_rob 31 = .ok (.getfield 25, 3) := by decide +kernel
theorem dX5_rob_34 : decode cX5_rob 34 = .ok (.iload_n 1, 1) := by decide +kernel
theorem dX5_rob_35 : decode cX5_rob 35 = .ok (.aaload, 1) := by decide +kernel
theorem dX5_rob_36 : decode cX5_rob 36 = .ok (.iconst 1, 1) := by decide +kernel
theorem dX5_rob_37 : decode cX5_rob 37 = .ok (.putfield 195, 3) := by decide +kernel
theorem dX5_rob_40 : decode cX5_rob 40 = .ok (.aload_n 0, 1) := by decide +kernel
theorem dX5_rob_41 : decode cX5_rob 41 = .ok (.getfield 25, 3) := by decide +kernel
theorem dX5_rob_44 : decode cX5_rob 44 = .ok (.iload_n 1, 1) := by decide +kernel
theorem dX5_rob_45 : decode cX5_rob 45 = .ok (.aaload, 1) := by decide +kernel
theorem dX5_rob_46 : decode cX5_rob 46 = .ok (.getfield 188, 3) := by decide +kernel
theorem dX5_rob_49 : decode cX5_rob 49 = .ok (.ireturn, 1) := by decide +kernel
theorem dX5_ring_0 : decode cX5_ring 0 = .ok (.lconst 0, 1) := by decide +kernel
theorem dX5_ring_1 : decode cX5_ring 1 = .ok (.lstore_n 1, 1) := by decide +kernel
theorem dX5_ring_2 : decode cX5_ring 2 = .ok (.iconst 0, 1) := by decide +kernel
theorem dX5_ring_3 : decode cX5_ring 3 = .ok (.istore_n 3, 1) := by decide +kernel
theorem dX5_ring_4 : decode cX5_ring 4 = .ok (.iload_n 3, 1) := by decide +kernel
theorem dX5_ring_5 : decode cX5_ring 5 = .ok (.aload_n 0, 1) := by decide +kernel
theorem dX5_ring_6 : decode cX5_ring 6 = .ok (.getfield 66, 3) := by decide +kernel
theorem dX5_ring_9 : decode cX5_ring 9 = .ok (.if_icmp .ge 76, 3) := by decide +kernel
theorem dX5_ring_12 : decode cX5_ring 12 = .ok (.iconst 0, 1) := by decide +kernel
theorem dX5_ring_13 : decode cX5_ring 13 = .ok (.istore 4, 2) := by decide +kernel
theorem dX5_ring_15 : decode cX5_ring 15 = .ok (.iload 4, 2) := by decide +kernel
theorem dX5_ring_17 : decode cX5_ring 17 = .ok (.aload_n 0, 1) := by decide +kernel
theorem dX5_ring_18 : decode cX5_ring 18 = .ok (.getfield 66, 3) := by decide +kernel
theorem dX5_ring_21 : decode cX5_ring 21 = .ok (.if_icmp .ge 58, 3) := by decide +kernel
theorem dX5_ring_24 : decode cX5_ring 24 = .ok (.iconst 0, 1) := by decide +kernel
theorem dX5_ring_25 : decode cX5_ring 25 = .ok (.istore 5, 2) := by decide +kernel
theorem dX5_ring_27 : decode cX5_ring 27 = .ok (.iload 5, 2) := by decide +kernel
theorem dX5_ring_29 : decode cX5_ring 29 = .ok (.aload_n 0, 1) := by decide +kernel
theorem dX5_ring_30 : decode cX5_ring 30 = .ok (.getfield 66, 3) := by decide +kernel
theorem dX5_ring_33 : decode cX5_ring 33 = .ok (.if_icmp .ge 40, 3) := by decide +kernel
theorem dX5_ring_36 : decode cX5_ring 36 = .ok (.iload_n 3, 1) := by decide +kernel
theorem dX5_ring_37 : decode cX5_ring 37 = .ok (.iload 4, 2) := by decide +kernel
theorem dX5_ring_39 : decode cX5_ring 39 = .ok (.if_icmp .eq 28, 3) := by decide +kernel
theorem dX5_ring_42 : decode cX5_ring 42 = .ok (.iload 4, 2) := by decide +kernel
theorem dX5_ring_44 : decode cX5_ring 44 = .ok (.iload 5, 2) := by decide +kernel
theorem dX5_ring_46 : decode cX5_ring 46 = .ok (.if_icmp .eq 21, 3) := by decide +kernel
theorem dX5_ring_49 : decode cX5_ring 49 = .ok (.iload 5, 2) := by decide +kernel
theorem dX5_ring_51 : decode cX5_ring 51 = .ok (.iload_n 3, 1) := by decide +kernel
theorem dX5_ring_52 : decode cX5_ring 52 = .ok (.if_icmp .eq 15, 3) := by decide +kernel
theorem dX5_ring_55 : decode cX5_ring 55 = .ok (.lload_n 1, 1) := by decide +kernel
theorem dX5_ring_56 : decode cX5_ring 56 = .ok (.aload_n 0, 1) := by decide +kernel
theorem dX5_ring_57 : decode cX5_ring 57 = .ok (.iload_n 3, 1) := by decide +kernel
theorem dX5_ring_58 : decode cX5_ring 58 = .ok (.iload 4, 2) := by decide +kernel
theorem dX5_ring_60 : decode cX5_ring 60 = .ok (.iload 5, 2) := by decide +kernel
theorem dX5_ring_62 : decode cX5_ring 62 = .ok (.invokevirtual 198, 3) := by decide +kernel
theorem dX5_ring_65 : decode cX5_ring 65 = .ok (.ladd, 1) := by decide +kernel
theorem dX5_ring_66 : decode cX5_ring 66 = .ok (.lstore_n 1, 1) := by decide +kernel
theorem dX5_ring_67 : decode cX5_ring 67 = .ok (.iinc 5 1, 3) := by decide +kernel
theorem dX5_ring_70 : decode cX5_ring 70 = .ok (.goto (-43), 3) := by decide +kernel
theorem dX5_ring_73 : decode cX5_ring 73 = .ok (.iinc 4 1, 3) := by decide +kernel
theorem dX5_ring_76 : decode cX5_ring 76 = .ok (.goto (-61), 3) := by decide +kernel
theorem dX5_ring_79 : decode cX5_ring 79 = .ok (.iinc 3 1, 3) := by decide +kernel
theorem dX5_ring_82 : decode cX5_ring 82 = .ok (.goto (-78), 3) := by decide +kernel
theorem dX5_ring_85 : decode cX5_ring 85 = .ok (.lload_n 1, 1) := by decide +kernel
theorem dX5_ring_86 : decode cX5_ring 86 = .ok (.lreturn, 1) := by decide +kernel
theorem dX5_law_0 : decode cX5_law 0 = .ok (.iload_n 1, 1) := by decide +kernel
theorem dX5_law_1 : decode cX5_law 1 = .ok (.bipush 8, 2) := by decide +kernel
theorem dX5_law_3 : decode cX5_law 3 = .ok (.invokestatic 58, 3) := by decide +kernel
theorem dX5_law_6 : decode cX5_law 6 = .ok (.iload_n 2, 1) := by decide +kernel
theorem dX5_law_7 : decode cX5_law 7 = .ok (.iconst 0, 1) := by decide +kernel
theorem dX5_law_8 : decode cX5_law 8 = .ok (.ldc 50, 2) := by decide +kernel
theorem dX5_law_10 : decode cX5_law 10 = .ok (.invokestatic 62, 3) := by decide +kernel
theorem dX5_law_13 : decode cX5_law 13 = .ok (.aload_n 0, 1) := by decide +kernel
theorem dX5_law_14 : decode cX5_law 14 = .ok (.getfield 46, 3) := by decide +kernel
theorem dX5_law_17 : decode cX5_law 17 = .ok (.iload_n 1, 1) := by decide +kernel
theorem dX5_law_18 : decode cX5_law 18 = .ok (.iload_n 2, 1) := by decide +kernel
theorem dX5_law_19 : decode cX5_law 19 = .ok (.iastore, 1) := by decide +kernel
theorem dX5_law_20 : decode cX5_law 20 = .ok (.aload_n 0, 1) := by decide +kernel
theorem dX5_law_21 : decode cX5_law 21 = .ok (.getfield 51, 3) := by decide +kernel
theorem dX5_law_24 : decode cX5_law 24 = .ok (.iload_n 1, 1) := by decide +kernel
theorem dX5_law_25 : decode cX5_law 25 = .ok (.iaload, 1) := by decide +kernel
theorem dX5_law_26 : decode cX5_law 26 = .ok (.ireturn, 1) := by decide +kernel
theorem dX5_list_0 : decode cX5_list 0 = .ok (.iload_n 1, 1) := by decide +kernel
theorem dX5_list_1 : decode cX5_list 1 = .ok (.bipush 20, 2) := by decide +kernel
theorem dX5_list_3 : decode cX5_list 3 = .ok (.invokestatic 58, 3) := by decide +kernel
theorem dX5_list_6 : decode cX5_list 6 = .ok (.aload_n 0, 1) := by decide +kernel
theorem dX5_list_7 : decode cX5_list 7 = .ok (.getfield 54, 3) := by decide +kernel
theorem dX5_list_10 : decode cX5_list 10 = .ok (.iload_n 1, 1) := by decide +kernel
theorem dX5_list_11 : decode cX5_list 11 = .ok (.aload_n 0, 1) := by decide +kernel
theorem dX5_list_12 : decode cX5_list 12 = .ok (.getfield 54, 3) := by decide +kernel
theorem dX5_list_15 : decode cX5_list 15 = .ok (.iload_n 1, 1) := by decide +kernel
theorem dX5_list_16 : decode cX5_list 16 = .ok (.baload, 1) := by decide +kernel
theorem dX5_list_17 : decode cX5_list 17 = .ok (.ifCond .ne 7, 3) := by decide +kernel
theorem dX5_list_20 : decode cX5_list 20 = .ok (.iconst 1, 1) := by decide +kernel
theorem dX5_list_21 : decode cX5_list 21 = .ok (.goto 4, 3) := by decide +kernel
theorem dX5_list_24 : decode cX5_list 24 = .ok (.iconst 0, 1) := by decide +kernel
theorem dX5_list_25 : decode cX5_list 25 = .ok (.bastore, 1) := by decide +kernel
theorem dX5_list_26 : decode cX5_list 26 = .ok (.aload_n 0, 1) := by decide +kernel
theorem dX5_list_27 : decode cX5_list 27 = .ok (.getfield 54, 3) := by decide +kernel
theorem dX5_list_30 : decode cX5_list 30 = .ok (.iload_n 1, 1) := by decide +kernel
theorem dX5_list_31 : decode cX5_list 31 = .ok (.baload, 1) := by decide +kernel
theorem dX5_list_32 : decode cX5_list 32 = .ok (.ireturn, 1) := by decide +kernel
theorem dX5_brokerOf_0 : decode cX5_brokerOf 0 = .ok (.iload_n 1, 1) := by decide +kernel
theorem dX5_brokerOf_1 : decode cX5_brokerOf 1 = .ok (.aload_n 0, 1) := by decide +kernel
theorem dX5_brokerOf_2 : decode cX5_brokerOf 2 = .ok (.getfield 66, 3) := by decide +kernel
theorem dX5_brokerOf_5 : decode cX5_brokerOf 5 = .ok (.invokestatic 58, 3) := by decide +kernel
theorem dX5_brokerOf_8 : decode cX5_brokerOf 8 = .ok (.iload_n 2, 1) := by decide +kernel
theorem dX5_brokerOf_9 : decode cX5_brokerOf 9 = .ok (.iconst 0, 1) := by decide +kernel
theorem dX5_brokerOf_10 : decode cX5_brokerOf 10 = .ok (.iconst 3, 1) := by decide +kernel
theorem dX5_brokerOf_11 : decode cX5_brokerOf 11 = .ok (.invokestatic 62, 3) := by decide +kernel
theorem dX5_brokerOf_14 : decode cX5_brokerOf 14 = .ok (.iload_n 2, 1) := by decide +kernel
theorem dX5_brokerOf_15 : decode cX5_brokerOf 15 = .ok (.tableswitch 57 0 2 #[25, 36, 46], 25) := by decide +kernel
theorem dX5_brokerOf_40 : decode cX5_brokerOf 40 = .ok (.aload_n 0, 1) := by decide +kernel
theorem dX5_brokerOf_41 : decode cX5_brokerOf 41 = .ok (.getfield 11, 3) := by decide +kernel
theorem dX5_brokerOf_44 : decode cX5_brokerOf 44 = .ok (.iload_n 1, 1) := by decide +kernel
theorem dX5_brokerOf_45 : decode cX5_brokerOf 45 = .ok (.aaload, 1) := by decide +kernel
theorem dX5_brokerOf_46 : decode cX5_brokerOf 46 = .ok (.getfield 97, 3) := by decide +kernel
theorem dX5_brokerOf_49 : decode cX5_brokerOf 49 = .ok (.i2l, 1) := by decide +kernel
theorem dX5_brokerOf_50 : decode cX5_brokerOf 50 = .ok (.lreturn, 1) := by decide +kernel
theorem dX5_brokerOf_51 : decode cX5_brokerOf 51 = .ok (.aload_n 0, 1) := by decide +kernel
theorem dX5_brokerOf_52 : decode cX5_brokerOf 52 = .ok (.getfield 11, 3) := by decide +kernel
theorem dX5_brokerOf_55 : decode cX5_brokerOf 55 = .ok (.iload_n 1, 1) := by decide +kernel
theorem dX5_brokerOf_56 : decode cX5_brokerOf 56 = .ok (.aaload, 1) := by decide +kernel
theorem dX5_brokerOf_57 : decode cX5_brokerOf 57 = .ok (.getfield 77, 3) := by decide +kernel
theorem dX5_brokerOf_60 : decode cX5_brokerOf 60 = .ok (.lreturn, 1) := by decide +kernel
theorem dX5_brokerOf_61 : decode cX5_brokerOf 61 = .ok (.aload_n 0, 1) := by decide +kernel
theorem dX5_brokerOf_62 : decode cX5_brokerOf 62 = .ok (.getfield 11, 3) := by decide +kernel
theorem dX5_brokerOf_65 : decode cX5_brokerOf 65 = .ok (.iload_n 1, 1) := by decide +kernel
theorem dX5_brokerOf_66 : decode cX5_brokerOf 66 = .ok (.aaload, 1) := by decide +kernel
theorem dX5_brokerOf_67 : decode cX5_brokerOf 67 = .ok (.getfield 74, 3) := by decide +kernel
theorem dX5_brokerOf_70 : decode cX5_brokerOf 70 = .ok (.i2l, 1) := by decide +kernel
theorem dX5_brokerOf_71 : decode cX5_brokerOf 71 = .ok (.lreturn, 1) := by decide +kernel
theorem dX5_brokerOf_72 : decode cX5_brokerOf 72 = .ok (.aload_n 0, 1) := by decide +kernel
theorem dX5_brokerOf_73 : decode cX5_brokerOf 73 = .ok (.iload_n 1, 1) := by decide +kernel
theorem dX5_brokerOf_74 : decode cX5_brokerOf 74 = .ok (.invokevirtual 202, 3) := by decide +kernel
theorem dX5_brokerOf_77 : decode cX5_brokerOf 77 = .ok (.lreturn, 1) := by decide +kernel
theorem dX5_debt_0 : decode cX5_debt 0 = .ok (.iload_n 1, 1) := by decide +kernel
theorem dX5_debt_1 : decode cX5_debt 1 = .ok (.aload_n 0, 1) := by decide +kernel
theorem dX5_debt_2 : decode cX5_debt 2 = .ok (.getfield 66, 3) := by decide +kernel
theorem dX5_debt_5 : decode cX5_debt 5 = .ok (.invokestatic 58, 3) := by decide +kernel
theorem dX5_debt_8 : decode cX5_debt 8 = .ok (.iload_n 2, 1) := by decide +kernel
theorem dX5_debt_9 : decode cX5_debt 9 = .ok (.aload_n 0, 1) := by decide +kernel
theorem dX5_debt_10 : decode cX5_debt 10 = .ok (.getfield 66, 3) := by decide +kernel
theorem dX5_debt_13 : decode cX5_debt 13 = .ok (.invokestatic 58, 3) := by decide +kernel
theorem dX5_debt_16 : decode cX5_debt 16 = .ok (.iload_n 3, 1) := by decide +kernel
theorem dX5_debt_17 : decode cX5_debt 17 = .ok (.ifCond .eq 17, 3) := by decide +kernel
theorem dX5_debt_20 : decode cX5_debt 20 = .ok (.aload_n 0, 1) := by decide +kernel
theorem dX5_debt_21 : decode cX5_debt 21 = .ok (.getfield 33, 3) := by decide +kernel
theorem dX5_debt_24 : decode cX5_debt 24 = .ok (.getfield 206, 3) := by decide +kernel
theorem dX5_debt_27 : decode cX5_debt 27 = .ok (.iload_n 1, 1) := by decide +kernel
theorem dX5_debt_28 : decode cX5_debt 28 = .ok (.aaload, 1) := by decide +kernel
theorem dX5_debt_29 : decode cX5_debt 29 = .ok (.iload_n 2, 1) := by decide +kernel
theorem dX5_debt_30 : decode cX5_debt 30 = .ok (.laload, 1) := by decide +kernel
theorem dX5_debt_31 : decode cX5_debt 31 = .ok (.goto 14, 3) := by decide +kernel
theorem dX5_debt_34 : decode cX5_debt 34 = .ok (.aload_n 0, 1) := by decide +kernel
theorem dX5_debt_35 : decode cX5_debt 35 = .ok (.getfield 33, 3) := by decide +kernel
theorem dX5_debt_38 : decode cX5_debt 38 = .ok (.getfield 171, 3) := by decide +kernel
theorem dX5_debt_41 : decode cX5_debt 41 = .ok (.iload_n 1, 1) := by decide +kernel
theorem dX5_debt_42 : decode cX5_debt 42 = .ok (.aaload, 1) := by decide +kernel
theorem dX5_debt_43 : decode cX5_debt 43 = .ok (.iload_n 2, 1) := by decide +kernel
theorem dX5_debt_44 : decode cX5_debt 44 = .ok (.laload, 1) := by decide +kernel
theorem dX5_debt_45 : decode cX5_debt 45 = .ok (.lreturn, 1) := by decide +kernel
theorem dX5_agree_0 : decode cX5_agree 0 = .ok (.iload_n 1, 1) := by decide +kernel
theorem dX5_agree_1 : decode cX5_agree 1 = .ok (.aload_n 0, 1) := by decide +kernel
theorem dX5_agree_2 : decode cX5_agree 2 = .ok (.getfield 66, 3) := by decide +kernel
theorem dX5_agree_5 : decode cX5_agree 5 = .ok (.invokestatic 58, 3) := by decide +kernel
theorem dX5_agree_8 : decode cX5_agree 8 = .ok (.iload_n 2, 1) := by decide +kernel
theorem dX5_agree_9 : decode cX5_agree 9 = .ok (.aload_n 0, 1) := by decide +kernel
theorem dX5_agree_10 : decode cX5_agree 10 = .ok (.getfield 66, 3) := by decide +kernel
theorem dX5_agree_13 : decode cX5_agree 13 = .ok (.invokestatic 58, 3) := by decide +kernel
theorem dX5_agree_16 : decode cX5_agree 16 = .ok (.aload_n 0, 1) := by decide +kernel
theorem dX5_agree_17 : decode cX5_agree 17 = .ok (.getfield 33, 3) := by decide +kernel
theorem dX5_agree_20 : decode cX5_agree 20 = .ok (.getfield 206, 3) := by decide +kernel
theorem dX5_agree_23 : decode cX5_agree 23 = .ok (.iload_n 1, 1) := by decide +kernel
theorem dX5_agree_24 : decode cX5_agree 24 = .ok (.aaload, 1) := by decide +kernel
theorem dX5_agree_25 : decode cX5_agree 25 = .ok (.iload_n 2, 1) := by decide +kernel
theorem dX5_agree_26 : decode cX5_agree 26 = .ok (.laload, 1) := by decide +kernel
theorem dX5_agree_27 : decode cX5_agree 27 = .ok (.aload_n 0, 1) := by decide +kernel
theorem dX5_agree_28 : decode cX5_agree 28 = .ok (.getfield 33, 3) := by decide +kernel
theorem dX5_agree_31 : decode cX5_agree 31 = .ok (.getfield 206, 3) := by decide +kernel
theorem dX5_agree_34 : decode cX5_agree 34 = .ok (.iload_n 2, 1) := by decide +kernel
theorem dX5_agree_35 : decode cX5_agree 35 = .ok (.aaload, 1) := by decide +kernel
theorem dX5_agree_36 : decode cX5_agree 36 = .ok (.iload_n 1, 1) := by decide +kernel
theorem dX5_agree_37 : decode cX5_agree 37 = .ok (.laload, 1) := by decide +kernel
theorem dX5_agree_38 : decode cX5_agree 38 = .ok (.lneg, 1) := by decide +kernel
theorem dX5_agree_39 : decode cX5_agree 39 = .ok (.lcmp, 1) := by decide +kernel
theorem dX5_agree_40 : decode cX5_agree 40 = .ok (.ifCond .ne 7, 3) := by decide +kernel
theorem dX5_agree_43 : decode cX5_agree 43 = .ok (.iconst 1, 1) := by decide +kernel
theorem dX5_agree_44 : decode cX5_agree 44 = .ok (.goto 4, 3) := by decide +kernel
theorem dX5_agree_47 : decode cX5_agree 47 = .ok (.iconst 0, 1) := by decide +kernel
theorem dX5_agree_48 : decode cX5_agree 48 = .ok (.ireturn, 1) := by decide +kernel
theorem dX5_way_0 : decode cX5_way 0 = .ok (.iload 4, 2) := by decide +kernel
theorem dX5_way_2 : decode cX5_way 2 = .ok (.invokestatic 209, 3) := by decide +kernel
theorem dX5_way_5 : decode cX5_way 5 = .ok (.aload_n 0, 1) := by decide +kernel
theorem dX5_way_6 : decode cX5_way 6 = .ok (.iload_n 1, 1) := by decide +kernel
theorem dX5_way_7 : decode cX5_way 7 = .ok (.iload_n 2, 1) := by decide +kernel
theorem dX5_way_8 : decode cX5_way 8 = .ok (.invokevirtual 84, 3) := by decide +kernel
theorem dX5_way_11 : decode cX5_way 11 = .ok (.iload_n 3, 1) := by decide +kernel
theorem dX5_way_12 : decode cX5_way 12 = .ok (.iconst 1, 1) := by decide +kernel
theorem dX5_way_13 : decode cX5_way 13 = .ok (.ldc 50, 2) := by decide +kernel
theorem dX5_way_15 : decode cX5_way 15 = .ok (.invokestatic 62, 3) := by decide +kernel
theorem dX5_way_18 : decode cX5_way 18 = .ok (.aload_n 0, 1) := by decide +kernel
theorem dX5_way_19 : decode cX5_way 19 = .ok (.iload_n 1, 1) := by decide +kernel
theorem dX5_way_20 : decode cX5_way 20 = .ok (.iload_n 2, 1) := by decide +kernel
theorem dX5_way_21 : decode cX5_way 21 = .ok (.iload_n 3, 1) := by decide +kernel
theorem dX5_way_22 : decode cX5_way 22 = .ok (.invokevirtual 127, 3) := by decide +kernel
theorem dX5_way_25 : decode cX5_way 25 = .ok (.ifCond .ne 5, 3) := by decide +kernel
theorem dX5_way_28 : decode cX5_way 28 = .ok (.iconst (-1), 1) := by decide +kernel
theorem dX5_way_29 : decode cX5_way 29 = .ok (.ireturn, 1) := by decide +kernel
theorem dX5_way_30 : decode cX5_way 30 = .ok (.iload 4, 2) := by decide +kernel
theorem dX5_way_32 : decode cX5_way 32 = .ok (.aload_n 0, 1) := by decide +kernel
theorem dX5_way_33 : decode cX5_way 33 = .ok (.getfield 42, 3) := by decide +kernel
theorem dX5_way_36 : decode cX5_way 36 = .ok (.getfield 212, 3) := by decide +kernel
theorem dX5_way_39 : decode cX5_way 39 = .ok (.if_icmp .ge 29, 3) := by decide +kernel
theorem dX5_way_42 : decode cX5_way 42 = .ok (.iload 4, 2) := by decide +kernel
theorem dX5_way_44 : decode cX5_way 44 = .ok (.aload_n 0, 1) := by decide +kernel
theorem dX5_way_45 : decode cX5_way 45 = .ok (.getfield 42, 3) := by decide +kernel
theorem dX5_way_48 : decode cX5_way 48 = .ok (.getfield 215, 3) := by decide +kernel
theorem dX5_way_51 : decode cX5_way 51 = .ok (.arraylength, 1) := by decide +kernel
theorem dX5_way_52 : decode cX5_way 52 = .ok (.if_icmp .ge 16, 3) := by decide +kernel
theorem dX5_way_55 : decode cX5_way 55 = .ok (.aload_n 0, 1) := by decide +kernel
theorem dX5_way_56 : decode cX5_way 56 = .ok (.getfield 42, 3) := by decide +kernel
theorem dX5_way_59 : decode cX5_way 59 = .ok (.getfield 215, 3) := by decide +kernel
theorem dX5_way_62 : decode cX5_way 62 = .ok (.iload 4, 2) := by decide +kernel
theorem dX5_way_64 : decode cX5_way 64 = .ok (.iaload, 1) := by decide +kernel
theorem dX5_way_65 : decode cX5_way 65 = .ok (.goto 4, 3) := by decide +kernel
theorem dX5_way_68 : decode cX5_way 68 = .ok (.iconst (-1), 1) := by decide +kernel
theorem dX5_way_69 : decode cX5_way 69 = .ok (.ireturn, 1) := by decide +kernel
theorem dX5_wayOf_0 : decode cX5_wayOf 0 = .ok (.iload_n 1, 1) := by decide +kernel
theorem dX5_wayOf_1 : decode cX5_wayOf 1 = .ok (.aload_n 0, 1) := by decide +kernel
theorem dX5_wayOf_2 : decode cX5_wayOf 2 = .ok (.getfield 124, 3) := by decide +kernel
theorem dX5_wayOf_5 : decode cX5_wayOf 5 = .ok (.invokestatic 58, 3) := by decide +kernel
theorem dX5_wayOf_8 : decode cX5_wayOf 8 = .ok (.iload_n 2, 1) := by decide +kernel
theorem dX5_wayOf_9 : decode cX5_wayOf 9 = .ok (.invokestatic 209, 3) := by decide +kernel
theorem dX5_wayOf_12 : decode cX5_wayOf 12 = .ok (.aload_n 0, 1) := by decide +kernel
theorem dX5_wayOf_13 : decode cX5_wayOf 13 = .ok (.getfield 18, 3) := by decide +kernel
theorem dX5_wayOf_16 : decode cX5_wayOf 16 = .ok (.iload_n 1, 1) := by decide +kernel
theorem dX5_wayOf_17 : decode cX5_wayOf 17 = .ok (.aaload, 1) := by decide +kernel
theorem dX5_wayOf_18 : decode cX5_wayOf 18 = .ok (.iload_n 2, 1) := by decide +kernel
theorem dX5_wayOf_19 : decode cX5_wayOf 19 = .ok (.invokevirtual 218, 3) := by decide +kernel
theorem dX5_wayOf_22 : decode cX5_wayOf 22 = .ok (.ireturn, 1) := by decide +kernel
theorem dX5_orderOf_0 : decode cX5_orderOf 0 = .ok (.iload_n 1, 1) := by decide +kernel
theorem dX5_orderOf_1 : decode cX5_orderOf 1 = .ok (.aload_n 0, 1) := by decide +kernel
theorem dX5_orderOf_2 : decode cX5_orderOf 2 = .ok (.getfield 124, 3) := by decide +kernel
theorem dX5_orderOf_5 : decode cX5_orderOf 5 = .ok (.invokestatic 58, 3) := by decide +kernel
theorem dX5_orderOf_8 : decode cX5_orderOf 8 = .ok (.iload_n 2, 1) := by decide +kernel
theorem dX5_orderOf_9 : decode cX5_orderOf 9 = .ok (.iconst 0, 1) := by decide +kernel
theorem dX5_orderOf_10 : decode cX5_orderOf 10 = .ok (.iconst 5, 1) := by decide +kernel
theorem dX5_orderOf_11 : decode cX5_orderOf 11 = .ok (.invokestatic 62, 3) := by decide +kernel
theorem dX5_orderOf_14 : decode cX5_orderOf 14 = .ok (.aload_n 0, 1) := by decide +kernel
theorem dX5_orderOf_15 : decode cX5_orderOf 15 = .ok (.getfield 18, 3) := by decide +kernel
theorem dX5_orderOf_18 : decode cX5_orderOf 18 = .ok (.iload_n 1, 1) := by decide +kernel
theorem dX5_orderOf_19 : decode cX5_orderOf 19 = .ok (.aaload, 1) := by decide +kernel
theorem dX5_orderOf_20 : decode cX5_orderOf 20 = .ok (.astore_n 3, 1) := by decide +kernel
theorem dX5_orderOf_21 : decode cX5_orderOf 21 = .ok (.iload_n 2, 1) := by decide +kernel
theorem dX5_orderOf_22 : decode cX5_orderOf 22 = .ok (.tableswitch 59 0 4 #[34, 39, 44, 49, 54], 34) := by decide +kernel
theorem dX5_orderOf_56 : decode cX5_orderOf 56 = .ok (.aload_n 3, 1) := by decide +kernel
theorem dX5_orderOf_57 : decode cX5_orderOf 57 = .ok (.getfield 140, 3) := by decide +kernel
theorem dX5_orderOf_60 : decode cX5_orderOf 60 = .ok (.ireturn, 1) := by decide +kernel
theorem dX5_orderOf_61 : decode cX5_orderOf 61 = .ok (.aload_n 3, 1) := by decide +kernel
theorem dX5_orderOf_62 : decode cX5_orderOf 62 = .ok (.getfield 131, 3) := by decide +kernel
theorem dX5_orderOf_65 : decode cX5_orderOf 65 = .ok (.ireturn, 1) := by decide +kernel
theorem dX5_orderOf_66 : decode cX5_orderOf 66 = .ok (.aload_n 3, 1) := by decide +kernel
theorem dX5_orderOf_67 : decode cX5_orderOf 67 = .ok (.getfield 145, 3) := by decide +kernel
theorem dX5_orderOf_70 : decode cX5_orderOf 70 = .ok (.ireturn, 1) := by decide +kernel
theorem dX5_orderOf_71 : decode cX5_orderOf 71 = .ok (.aload_n 3, 1) := by decide +kernel
theorem dX5_orderOf_72 : decode cX5_orderOf 72 = .ok (.getfield 221, 3) := by decide +kernel
theorem dX5_orderOf_75 : decode cX5_orderOf 75 = .ok (.ireturn, 1) := by decide +kernel
theorem dX5_orderOf_76 : decode cX5_orderOf 76 = .ok (.aload_n 3, 1) := by decide +kernel
theorem dX5_orderOf_77 : decode cX5_orderOf 77 = .ok (.getfield 162, 3) := by decide +kernel
theorem dX5_orderOf_80 : decode cX5_orderOf 80 = .ok (.ireturn, 1) := by decide +kernel
theorem dX5_orderOf_81 : decode cX5_orderOf 81 = .ok (.aload_n 3, 1) := by decide +kernel
theorem dX5_orderOf_82 : decode cX5_orderOf 82 = .ok (.getfield 137, 3) := by decide +kernel
theorem dX5_orderOf_85 : decode cX5_orderOf 85 = .ok (.ireturn, 1) := by decide +kernel
theorem dX5_inquiry_0 : decode cX5_inquiry 0 = .ok (.iconst 0, 1) := by decide +kernel
theorem dX5_inquiry_1 : decode cX5_inquiry 1 = .ok (.istore_n 1, 1) := by decide +kernel
theorem dX5_inquiry_2 : decode cX5_inquiry 2 = .ok (.iconst 0, 1) := by decide +kernel
theorem dX5_inquiry_3 : decode cX5_inquiry 3 = .ok (.istore_n 2, 1) := by decide +kernel
theorem dX5_inquiry_4 : decode cX5_inquiry 4 = .ok (.iload_n 2, 1) := by decide +kernel
theorem dX5_inquiry_5 : decode cX5_inquiry 5 = .ok (.aload_n 0, 1) := by decide +kernel
theorem dX5_inquiry_6 : decode cX5_inquiry 6 = .ok (.getfield 66, 3) := by decide +kernel
theorem dX5_inquiry_9 : decode cX5_inquiry 9 = .ok (.if_icmp .ge 27, 3) := by decide +kernel
theorem dX5_inquiry_12 : decode cX5_inquiry 12 = .ok (.aload_n 0, 1) := by decide +kernel
theorem dX5_inquiry_13 : decode cX5_inquiry 13 = .ok (.getfield 11, 3) := by decide +kernel
theorem dX5_inquiry_16 : decode cX5_inquiry 16 = .ok (.iload_n 2, 1) := by decide +kernel
theorem dX5_inquiry_17 : decode cX5_inquiry 17 = .ok (.aaload, 1) := by decide +kernel
theorem dX5_inquiry_18 : decode cX5_inquiry 18 = .ok (.getfield 118, 3) := by decide +kernel
theorem dX5_inquiry_21 : decode cX5_inquiry 21 = .ok (.ifCond .eq 9, 3) := by decide +kernel
theorem dX5_inquiry_24 : decode cX5_inquiry 24 = .ok (.iload_n 1, 1) := by decide +kernel
theorem dX5_inquiry_25 : decode cX5_inquiry 25 = .ok (.iconst 1, 1) := by decide +kernel
theorem dX5_inquiry_26 : decode cX5_inquiry 26 = .ok (.iload_n 2, 1) := by decide +kernel
theorem dX5_inquiry_27 : decode cX5_inquiry 27 = .ok (.ishl, 1) := by decide +kernel
theorem dX5_inquiry_28 : decode cX5_inquiry 28 = .ok (.ior, 1) := by decide +kernel
theorem dX5_inquiry_29 : decode cX5_inquiry 29 = .ok (.istore_n 1, 1) := by decide +kernel
theorem dX5_inquiry_30 : decode cX5_inquiry 30 = .ok (.iinc 2 1, 3) := by decide +kernel
theorem dX5_inquiry_33 : decode cX5_inquiry 33 = .ok (.goto (-29), 3) := by decide +kernel
theorem dX5_inquiry_36 : decode cX5_inquiry 36 = .ok (.iconst 0, 1) := by decide +kernel
theorem dX5_inquiry_37 : decode cX5_inquiry 37 = .ok (.istore_n 2, 1) := by decide +kernel
theorem dX5_inquiry_38 : decode cX5_inquiry 38 = .ok (.iload_n 2, 1) := by decide +kernel
theorem dX5_inquiry_39 : decode cX5_inquiry 39 = .ok (.aload_n 0, 1) := by decide +kernel
theorem dX5_inquiry_40 : decode cX5_inquiry 40 = .ok (.getfield 66, 3) := by decide +kernel
theorem dX5_inquiry_43 : decode cX5_inquiry 43 = .ok (.if_icmp .ge 41, 3) := by decide +kernel
theorem dX5_inquiry_46 : decode cX5_inquiry 46 = .ok (.iconst 0, 1) := by decide +kernel
theorem dX5_inquiry_47 : decode cX5_inquiry 47 = .ok (.istore_n 3, 1) := by decide +kernel
theorem dX5_inquiry_48 : decode cX5_inquiry 48 = .ok (.iload_n 3, 1) := by decide +kernel
theorem dX5_inquiry_49 : decode cX5_inquiry 49 = .ok (.aload_n 0, 1) := by decide +kernel
theorem dX5_inquiry_50 : decode cX5_inquiry 50 = .ok (.getfield 66, 3) := by decide +kernel
theorem dX5_inquiry_53 : decode cX5_inquiry 53 = .ok (.if_icmp .ge 25, 3) := by decide +kernel
theorem dX5_inquiry_56 : decode cX5_inquiry 56 = .ok (.iload_n 1, 1) := by decide +kernel
theorem dX5_inquiry_57 : decode cX5_inquiry 57 = .ok (.iconst 1, 1) := by decide +kernel
theorem dX5_inquiry_58 : decode cX5_inquiry 58 = .ok (.iload_n 3, 1) := by decide +kernel
theorem dX5_inquiry_59 : decode cX5_inquiry 59 = .ok (.ishl, 1) := by decide +kernel
theorem dX5_inquiry_60 : decode cX5_inquiry 60 = .ok (.iand, 1) := by decide +kernel
theorem dX5_inquiry_61 : decode cX5_inquiry 61 = .ok (.ifCond .eq 11, 3) := by decide +kernel
theorem dX5_inquiry_64 : decode cX5_inquiry 64 = .ok (.iload_n 1, 1) := by decide +kernel
theorem dX5_inquiry_65 : decode cX5_inquiry 65 = .ok (.aload_n 0, 1) := by decide +kernel
theorem dX5_inquiry_66 : decode cX5_inquiry 66 = .ok (.iload_n 3, 1) := by decide +kernel
theorem dX5_inquiry_67 : decode cX5_inquiry 67 = .ok (.invokevirtual 224, 3) := by decide +kernel
theorem dX5_inquiry_70 : decode cX5_inquiry 70 = .ok (.ior, 1) := by decide +kernel
theorem dX5_inquiry_71 : decode cX5_inquiry 71 = .ok (.istore_n 1, 1) := by decide +kernel
theorem dX5_inquiry_72 : decode cX5_inquiry 72 = .ok (.iinc 3 1, 3) := by decide +kernel
theorem dX5_inquiry_75 : decode cX5_inquiry 75 = .ok (.goto (-27), 3) := by decide +kernel
theorem dX5_inquiry_78 : decode cX5_inquiry 78 = .ok (.iinc 2 1, 3) := by decide +kernel
theorem dX5_inquiry_81 : decode cX5_inquiry 81 = .ok (.goto (-43), 3) := by decide +kernel
theorem dX5_inquiry_84 : decode cX5_inquiry 84 = .ok (.iload_n 1, 1) := by decide +kernel
theorem dX5_inquiry_85 : decode cX5_inquiry 85 = .ok (.ireturn, 1) := by decide +kernel
theorem dX5_sum_0 : decode cX5_sum 0 = .ok (.iload_n 1, 1) := by decide +kernel
theorem dX5_sum_1 : decode cX5_sum 1 = .ok (.iconst 0, 1) := by decide +kernel
theorem dX5_sum_2 : decode cX5_sum 2 = .ok (.bipush 7, 2) := by decide +kernel
theorem dX5_sum_4 : decode cX5_sum 4 = .ok (.invokestatic 62, 3) := by decide +kernel
theorem dX5_sum_7 : decode cX5_sum 7 = .ok (.iload_n 1, 1) := by decide +kernel
theorem dX5_sum_8 : decode cX5_sum 8 = .ok (.tableswitch 80 0 6 #[44, 49, 54, 60, 65, 70, 75], 44) := by decide +kernel
theorem dX5_sum_52 : decode cX5_sum 52 = .ok (.aload_n 0, 1) := by decide +kernel
theorem dX5_sum_53 : decode cX5_sum 53 = .ok (.invokevirtual 227, 3) := by decide +kernel
theorem dX5_sum_56 : decode cX5_sum 56 = .ok (.lreturn, 1) := by decide +kernel
theorem dX5_sum_57 : decode cX5_sum 57 = .ok (.aload_n 0, 1) := by decide +kernel
theorem dX5_sum_58 : decode cX5_sum 58 = .ok (.invokevirtual 231, 3) := by decide +kernel
theorem dX5_sum_61 : decode cX5_sum 61 = .ok (.lreturn, 1) := by decide +kernel
theorem dX5_sum_62 : decode cX5_sum 62 = .ok (.aload_n 0, 1) := by decide +kernel
theorem dX5_sum_63 : decode cX5_sum 63 = .ok (.iconst 4, 1) := by decide +kernel
theorem dX5_sum_64 : decode cX5_sum 64 = .ok (.invokevirtual 234, 3) := by decide +kernel
theorem dX5_sum_67 : decode cX5_sum 67 = .ok (.lreturn, 1) := by decide +kernel
theorem dX5_sum_68 : decode cX5_sum 68 = .ok (.aload_n 0, 1) := by decide +kernel
theorem dX5_sum_69 : decode cX5_sum 69 = .ok (.invokevirtual 237, 3) := by decide +kernel
theorem dX5_sum_72 : decode cX5_sum 72 = .ok (.lreturn, 1) := by decide +kernel
theorem dX5_sum_73 : decode cX5_sum 73 = .ok (.aload_n 0, 1) := by decide +kernel
theorem dX5_sum_74 : decode cX5_sum 74 = .ok (.getfield 121, 3) := by decide +kernel
theorem dX5_sum_77 : decode cX5_sum 77 = .ok (.lreturn, 1) := by decide +kernel
theorem dX5_sum_78 : decode cX5_sum 78 = .ok (.aload_n 0, 1) := by decide +kernel
theorem dX5_sum_79 : decode cX5_sum 79 = .ok (.invokevirtual 240, 3) := by decide +kernel
theorem dX5_sum_82 : decode cX5_sum 82 = .ok (.lreturn, 1) := by decide +kernel
theorem dX5_sum_83 : decode cX5_sum 83 = .ok (.aload_n 0, 1) := by decide +kernel
theorem dX5_sum_84 : decode cX5_sum 84 = .ok (.invokevirtual 243, 3) := by decide +kernel
theorem dX5_sum_87 : decode cX5_sum 87 = .ok (.lreturn, 1) := by decide +kernel
theorem dX5_sum_88 : decode cX5_sum 88 = .ok (.aload_n 0, 1) := by decide +kernel
theorem dX5_sum_89 : decode cX5_sum 89 = .ok (.iconst 5, 1) := by decide +kernel
theorem dX5_sum_90 : decode cX5_sum 90 = .ok (.invokevirtual 234, 3) := by decide +kernel
theorem dX5_sum_93 : decode cX5_sum 93 = .ok (.lreturn, 1) := by decide +kernel
theorem dX5_requireIndex_0 : decode cX5_requireIndex 0 = .ok (.iload_n 0, 1) := by decide +kernel
theorem dX5_requireIndex_1 : decode cX5_requireIndex 1 = .ok (.ifCond .lt 8, 3) := by decide +kernel
theorem dX5_requireIndex_4 : decode cX5_requireIndex 4 = .ok (.iload_n 0, 1) := by decide +kernel
theorem dX5_requireIndex_5 : decode cX5_requireIndex 5 = .ok (.iload_n 1, 1) := by decide +kernel
theorem dX5_requireIndex_6 : decode cX5_requireIndex 6 = .ok (.if_icmp .lt 13, 3) := by decide +kernel
theorem dX5_requireIndex_9 : decode cX5_requireIndex 9 = .ok (.new 246, 3) := by decide +kernel
theorem dX5_requireIndex_12 : decode cX5_requireIndex 12 = .ok (.dup, 1) := by decide +kernel
theorem dX5_requireIndex_13 : decode cX5_requireIndex 13 = .ok (.ldc 248, 2) := by decide +kernel
theorem dX5_requireIndex_15 : decode cX5_requireIndex 15 = .ok (.invokespecial 250, 3) := by decide +kernel
theorem dX5_requireIndex_18 : decode cX5_requireIndex 18 = .ok (.athrow, 1) := by decide +kernel
theorem dX5_requireIndex_19 : decode cX5_requireIndex 19 = .ok (.return_, 1) := by decide +kernel
theorem dX5_requirePlace_0 : decode cX5_requirePlace 0 = .ok (.iload_n 0, 1) := by decide +kernel
theorem dX5_requirePlace_1 : decode cX5_requirePlace 1 = .ok (.ifCond .ge 13, 3) := by decide +kernel
theorem dX5_requirePlace_4 : decode cX5_requirePlace 4 = .ok (.new 246, 3) := by decide +kernel
theorem dX5_requirePlace_7 : decode cX5_requirePlace 7 = .ok (.dup, 1) := by decide +kernel
theorem dX5_requirePlace_8 : decode cX5_requirePlace 8 = .ok (.ldc 253, 2) := by decide +kernel
theorem dX5_requirePlace_10 : decode cX5_requirePlace 10 = .ok (.invokespecial 250, 3) := by decide +kernel
theorem dX5_requirePlace_13 : decode cX5_requirePlace 13 = .ok (.athrow, 1) := by decide +kernel
theorem dX5_requirePlace_14 : decode cX5_requirePlace 14 = .ok (.return_, 1) := by decide +kernel
theorem dX5_requireRange_0 : decode cX5_requireRange 0 = .ok (.iload_n 0, 1) := by decide +kernel
theorem dX5_requireRange_1 : decode cX5_requireRange 1 = .ok (.iload_n 1, 1) := by decide +kernel
theorem dX5_requireRange_2 : decode cX5_requireRange 2 = .ok (.if_icmp .lt 8, 3) := by decide +kernel
theorem dX5_requireRange_5 : decode cX5_requireRange 5 = .ok (.iload_n 0, 1) := by decide +kernel
theorem dX5_requireRange_6 : decode cX5_requireRange 6 = .ok (.iload_n 2, 1) := by decide +kernel
theorem dX5_requireRange_7 : decode cX5_requireRange 7 = .ok (.if_icmp .le 14, 3) := by decide +kernel
theorem dX5_requireRange_10 : decode cX5_requireRange 10 = .ok (.new 255, 3) := by decide +kernel
theorem dX5_requireRange_13 : decode cX5_requireRange 13 = .ok (.dup, 1) := by decide +kernel
theorem dX5_requireRange_14 : decode cX5_requireRange 14 = .ok (.ldc_w 257, 3) := by decide +kernel
theorem dX5_requireRange_17 : decode cX5_requireRange 17 = .ok (.invokespecial 259, 3) := by decide +kernel
theorem dX5_requireRange_20 : decode cX5_requireRange 20 = .ok (.athrow, 1) := by decide +kernel
theorem dX5_requireRange_21 : decode cX5_requireRange 21 = .ok (.return_, 1) := by decide +kernel
theorem dX5_requireState_0 : decode cX5_requireState 0 = .ok (.iload_n 0, 1) := by decide +kernel
theorem dX5_requireState_1 : decode cX5_requireState 1 = .ok (.ifCond .ne 14, 3) := by decide +kernel
theorem dX5_requireState_4 : decode cX5_requireState 4 = .ok (.new 260, 3) := by decide +kernel
theorem dX5_requireState_7 : decode cX5_requireState 7 = .ok (.dup, 1) := by decide +kernel
theorem dX5_requireState_8 : decode cX5_requireState 8 = .ok (.ldc_w 262, 3) := by decide +kernel
theorem dX5_requireState_11 : decode cX5_requireState 11 = .ok (.invokespecial 264, 3) := by decide +kernel
theorem dX5_requireState_14 : decode cX5_requireState 14 = .ok (.athrow, 1) := by decide +kernel
theorem dX5_requireState_15 : decode cX5_requireState 15 = .ok (.return_, 1) := by decide +kernel
theorem dX5_requireTwoBrokers_0 : decode cX5_requireTwoBrokers 0 = .ok (.iload_n 1, 1) := by decide +kernel
theorem dX5_requireTwoBrokers_1 : decode cX5_requireTwoBrokers 1 = .ok (.aload_n 0, 1) := by decide +kernel
theorem dX5_requireTwoBrokers_2 : decode cX5_requireTwoBrokers 2 = .ok (.getfield 66, 3) := by decide +kernel
theorem dX5_requireTwoBrokers_5 : decode cX5_requireTwoBrokers 5 = .ok (.invokestatic 58, 3) := by decide +kernel
theorem dX5_requireTwoBrokers_8 : decode cX5_requireTwoBrokers 8 = .ok (.iload_n 2, 1) := by decide +kernel
theorem dX5_requireTwoBrokers_9 : decode cX5_requireTwoBrokers 9 = .ok (.aload_n 0, 1) := by decide +kernel
theorem dX5_requireTwoBrokers_10 : decode cX5_requireTwoBrokers 10 = .ok (.getfield 66, 3) := by decide +kernel
theorem dX5_requireTwoBrokers_13 : decode cX5_requireTwoBrokers 13 = .ok (.invokestatic 58, 3) := by decide +kernel
theorem dX5_requireTwoBrokers_16 : decode cX5_requireTwoBrokers 16 = .ok (.iload_n 1, 1) := by decide +kernel
theorem dX5_requireTwoBrokers_17 : decode cX5_requireTwoBrokers 17 = .ok (.iload_n 2, 1) := by decide +kernel
theorem dX5_requireTwoBrokers_18 : decode cX5_requireTwoBrokers 18 = .ok (.if_icmp .ne 14, 3) := by decide +kernel
theorem dX5_requireTwoBrokers_21 : decode cX5_requireTwoBrokers 21 = .ok (.new 255, 3) := by decide +kernel
theorem dX5_requireTwoBrokers_24 : decode cX5_requireTwoBrokers 24 = .ok (.dup, 1) := by decide +kernel
theorem dX5_requireTwoBrokers_25 : decode cX5_requireTwoBrokers 25 = .ok (.ldc_w 265, 3) := by decide +kernel
theorem dX5_requireTwoBrokers_28 : decode cX5_requireTwoBrokers 28 = .ok (.invokespecial 259, 3) := by decide +kernel
theorem dX5_requireTwoBrokers_31 : decode cX5_requireTwoBrokers 31 = .ok (.athrow, 1) := by decide +kernel
theorem dX5_requireTwoBrokers_32 : decode cX5_requireTwoBrokers 32 = .ok (.return_, 1) := by decide +kernel
theorem dX5_findWay_0 : decode cX5_findWay 0 = .ok (.aload_n 0, 1) := by decide +kernel
theorem dX5_findWay_1 : decode cX5_findWay 1 = .ok (.getfield 42, 3) := by decide +kernel
theorem dX5_findWay_4 : decode cX5_findWay 4 = .ok (.aload_n 0, 1) := by decide +kernel
theorem dX5_findWay_5 : decode cX5_findWay 5 = .ok (.getfield 66, 3) := by decide +kernel
theorem dX5_findWay_8 : decode cX5_findWay 8 = .ok (.iload_n 3, 1) := by decide +kernel
theorem dX5_findWay_9 : decode cX5_findWay 9 = .ok (.aload_n 0, 1) := by decide +kernel
theorem dX5_findWay_10 : decode cX5_findWay 10 = .ok (.getfield 93, 3) := by decide +kernel
theorem dX5_findWay_13 : decode cX5_findWay 13 = .ok (.invokevirtual 267, 3) := by decide +kernel
theorem dX5_findWay_16 : decode cX5_findWay 16 = .ok (.aload_n 0, 1) := by decide +kernel
theorem dX5_findWay_17 : decode cX5_findWay 17 = .ok (.getfield 42, 3) := by decide +kernel
theorem dX5_findWay_20 : decode cX5_findWay 20 = .ok (.iload_n 1, 1) := by decide +kernel
theorem dX5_findWay_21 : decode cX5_findWay 21 = .ok (.iload_n 2, 1) := by decide +kernel
theorem dX5_findWay_22 : decode cX5_findWay 22 = .ok (.invokevirtual 271, 3) := by decide +kernel
theorem dX5_findWay_25 : decode cX5_findWay 25 = .ok (.ireturn, 1) := by decide +kernel
theorem dX5_letArise_0 : decode cX5_letArise 0 = .ok (.aload_n 1, 1) := by decide +kernel
theorem dX5_letArise_1 : decode cX5_letArise 1 = .ok (.getfield 221, 3) := by decide +kernel
theorem dX5_letArise_4 : decode cX5_letArise 4 = .ok (.istore_n 2, 1) := by decide +kernel
theorem dX5_letArise_5 : decode cX5_letArise 5 = .ok (.iload_n 2, 1) := by decide +kernel
theorem dX5_letArise_6 : decode cX5_letArise 6 = .ok (.aload_n 1, 1) := by decide +kernel
theorem dX5_letArise_7 : decode cX5_letArise 7 = .ok (.getfield 275, 3) := by decide +kernel
theorem dX5_letArise_10 : decode cX5_letArise 10 = .ok (.iconst 1, 1) := by decide +kernel
theorem dX5_letArise_11 : decode cX5_letArise 11 = .ok (.isub, 1) := by decide +kernel
theorem dX5_letArise_12 : decode cX5_letArise 12 = .ok (.if_icmp .ge 60, 3) := by decide +kernel
theorem dX5_letArise_15 : decode cX5_letArise 15 = .ok (.aload_n 1, 1) := by decide +kernel
theorem dX5_letArise_16 : decode cX5_letArise 16 = .ok (.getfield 276, 3) := by decide +kernel
theorem dX5_letArise_19 : decode cX5_letArise 19 = .ok (.iload_n 2, 1) := by decide +kernel
theorem dX5_letArise_20 : decode cX5_letArise 20 = .ok (.iaload, 1) := by decide +kernel
theorem dX5_letArise_21 : decode cX5_letArise 21 = .ok (.istore_n 3, 1) := by decide +kernel
theorem dX5_letArise_22 : decode cX5_letArise 22 = .ok (.aload_n 1, 1) := by decide +kernel
theorem dX5_letArise_23 : decode cX5_letArise 23 = .ok (.getfield 276, 3) := by decide +kernel
theorem dX5_letArise_26 : decode cX5_letArise 26 = .ok (.iload_n 2, 1) := by decide +kernel
theorem dX5_letArise_27 : decode cX5_letArise 27 = .ok (.iconst 1, 1) := by decide +kernel
theorem dX5_letArise_28 : decode cX5_letArise 28 = .ok (.iadd, 1) := by decide +kernel
theorem dX5_letArise_29 : decode cX5_letArise 29 = .ok (.iaload, 1) := by decide +kernel
theorem dX5_letArise_30 : decode cX5_letArise 30 = .ok (.istore 4, 2) := by decide +kernel
theorem dX5_letArise_32 : decode cX5_letArise 32 = .ok (.aload_n 0, 1) := by decide +kernel
theorem dX5_letArise_33 : decode cX5_letArise 33 = .ok (.getfield 33, 3) := by decide +kernel
theorem dX5_letArise_36 : decode cX5_letArise 36 = .ok (.iload_n 3, 1) := by decide +kernel
theorem dX5_letArise_37 : decode cX5_letArise 37 = .ok (.iload 4, 2) := by decide +kernel
theorem dX5_letArise_39 : decode cX5_letArise 39 = .ok (.aload_n 1, 1) := by decide +kernel
theorem dX5_letArise_40 : decode cX5_letArise 40 = .ok (.getfield 278, 3) := by decide +kernel
theorem dX5_letArise_43 : decode cX5_letArise 43 = .ok (.iload_n 2, 1) := by decide +kernel
theorem dX5_letArise_44 : decode cX5_letArise 44 = .ok (.iaload, 1) := by decide +kernel
theorem dX5_letArise_45 : decode cX5_letArise 45 = .ok (.i2l, 1) := by decide +kernel
theorem dX5_letArise_46 : decode cX5_letArise 46 = .ok (.invokevirtual 281, 3) := by decide +kernel
theorem dX5_letArise_49 : decode cX5_letArise 49 = .ok (.aload_n 0, 1) := by decide +kernel
theorem dX5_letArise_50 : decode cX5_letArise 50 = .ok (.getfield 33, 3) := by decide +kernel
theorem dX5_letArise_53 : decode cX5_letArise 53 = .ok (.iload_n 3, 1) := by decide +kernel
theorem dX5_letArise_54 : decode cX5_letArise 54 = .ok (.iload 4, 2) := by decide +kernel
theorem dX5_letArise_56 : decode cX5_letArise 56 = .ok (.aload_n 1, 1) := by decide +kernel
theorem dX5_letArise_57 : decode cX5_letArise 57 = .ok (.getfield 278, 3) := by decide +kernel
theorem dX5_letArise_60 : decode cX5_letArise 60 = .ok (.iload_n 2, 1) := by decide +kernel
theorem dX5_letArise_61 : decode cX5_letArise 61 = .ok (.iaload, 1) := by decide +kernel
theorem dX5_letArise_62 : decode cX5_letArise 62 = .ok (.i2l, 1) := by decide +kernel
theorem dX5_letArise_63 : decode cX5_letArise 63 = .ok (.invokevirtual 284, 3) := by decide +kernel
theorem dX5_letArise_66 : decode cX5_letArise 66 = .ok (.iinc 2 1, 3) := by decide +kernel
theorem dX5_letArise_69 : decode cX5_letArise 69 = .ok (.goto (-64), 3) := by decide +kernel
theorem dX5_letArise_72 : decode cX5_letArise 72 = .ok (.return_, 1) := by decide +kernel
theorem dX5_takeBack_0 : decode cX5_takeBack 0 = .ok (.iload_n 2, 1) := by decide +kernel
theorem dX5_takeBack_1 : decode cX5_takeBack 1 = .ok (.istore 4, 2) := by decide +kernel
theorem dX5_takeBack_3 : decode cX5_takeBack 3 = .ok (.iload 4, 2) := by decide +kernel
theorem dX5_takeBack_5 : decode cX5_takeBack 5 = .ok (.iload_n 3, 1) := by decide +kernel
theorem dX5_takeBack_6 : decode cX5_takeBack 6 = .ok (.if_icmp .ge 97, 3) := by decide +kernel
theorem dX5_takeBack_9 : decode cX5_takeBack 9 = .ok (.aload_n 1, 1) := by decide +kernel
theorem dX5_takeBack_10 : decode cX5_takeBack 10 = .ok (.getfield 276, 3) := by decide +kernel
theorem dX5_takeBack_13 : decode cX5_takeBack 13 = .ok (.iload 4, 2) := by decide +kernel
theorem dX5_takeBack_15 : decode cX5_takeBack 15 = .ok (.iaload, 1) := by decide +kernel
theorem dX5_takeBack_16 : decode cX5_takeBack 16 = .ok (.istore 5, 2) := by decide +kernel
theorem dX5_takeBack_18 : decode cX5_takeBack 18 = .ok (.aload_n 1, 1) := by decide +kernel
theorem dX5_takeBack_19 : decode cX5_takeBack 19 = .ok (.getfield 276, 3) := by decide +kernel
theorem dX5_takeBack_22 : decode cX5_takeBack 22 = .ok (.iload 4, 2) := by decide +kernel
theorem dX5_takeBack_24 : decode cX5_takeBack 24 = .ok (.iconst 1, 1) := by decide +kernel
theorem dX5_takeBack_25 : decode cX5_takeBack 25 = .ok (.iadd, 1) := by decide +kernel
theorem dX5_takeBack_26 : decode cX5_takeBack 26 = .ok (.iaload, 1) := by decide +kernel
theorem dX5_takeBack_27 : decode cX5_takeBack 27 = .ok (.istore 6, 2) := by decide +kernel
theorem dX5_takeBack_29 : decode cX5_takeBack 29 = .ok (.aload_n 0, 1) := by decide +kernel
theorem dX5_takeBack_30 : decode cX5_takeBack 30 = .ok (.getfield 33, 3) := by decide +kernel
theorem dX5_takeBack_33 : decode cX5_takeBack 33 = .ok (.iload 5, 2) := by decide +kernel
theorem dX5_takeBack_35 : decode cX5_takeBack 35 = .ok (.iload 6, 2) := by decide +kernel
theorem dX5_takeBack_37 : decode cX5_takeBack 37 = .ok (.aload_n 1, 1) := by decide +kernel
theorem dX5_takeBack_38 : decode cX5_takeBack 38 = .ok (.getfield 278, 3) := by decide +kernel
theorem dX5_takeBack_41 : decode cX5_takeBack 41 = .ok (.iload 4, 2) := by decide +kernel
theorem dX5_takeBack_43 : decode cX5_takeBack 43 = .ok (.iaload, 1) := by decide +kernel
theorem dX5_takeBack_44 : decode cX5_takeBack 44 = .ok (.ineg, 1) := by decide +kernel
theorem dX5_takeBack_45 : decode cX5_takeBack 45 = .ok (.i2l, 1) := by decide +kernel
theorem dX5_takeBack_46 : decode cX5_takeBack 46 = .ok (.invokevirtual 281, 3) := by decide +kernel
theorem dX5_takeBack_49 : decode cX5_takeBack 49 = .ok (.aload_n 0, 1) := by decide +kernel
theorem dX5_takeBack_50 : decode cX5_takeBack 50 = .ok (.getfield 33, 3) := by decide +kernel
theorem dX5_takeBack_53 : decode cX5_takeBack 53 = .ok (.iload 5, 2) := by decide +kernel
theorem dX5_takeBack_55 : decode cX5_takeBack 55 = .ok (.iload 6, 2) := by decide +kernel
theorem dX5_takeBack_57 : decode cX5_takeBack 57 = .ok (.aload_n 1, 1) := by decide +kernel
theorem dX5_takeBack_58 : decode cX5_takeBack 58 = .ok (.getfield 278, 3) := by decide +kernel
theorem dX5_takeBack_61 : decode cX5_takeBack 61 = .ok (.iload 4, 2) := by decide +kernel
theorem dX5_takeBack_63 : decode cX5_takeBack 63 = .ok (.iaload, 1) := by decide +kernel
theorem dX5_takeBack_64 : decode cX5_takeBack 64 = .ok (.ineg, 1) := by decide +kernel
theorem dX5_takeBack_65 : decode cX5_takeBack 65 = .ok (.i2l, 1) := by decide +kernel
theorem dX5_takeBack_66 : decode cX5_takeBack 66 = .ok (.invokevirtual 284, 3) := by decide +kernel
theorem dX5_takeBack_69 : decode cX5_takeBack 69 = .ok (.iload 4, 2) := by decide +kernel
theorem dX5_takeBack_71 : decode cX5_takeBack 71 = .ok (.aload_n 1, 1) := by decide +kernel
theorem dX5_takeBack_72 : decode cX5_takeBack 72 = .ok (.getfield 221, 3) := by decide +kernel
theorem dX5_takeBack_75 : decode cX5_takeBack 75 = .ok (.if_icmp .ge 22, 3) := by decide +kernel
theorem dX5_takeBack_78 : decode cX5_takeBack 78 = .ok (.aload_n 0, 1) := by decide +kernel
theorem dX5_takeBack_79 : decode cX5_takeBack 79 = .ok (.getfield 33, 3) := by decide +kernel
theorem dX5_takeBack_82 : decode cX5_takeBack 82 = .ok (.iload 6, 2) := by decide +kernel
theorem dX5_takeBack_84 : decode cX5_takeBack 84 = .ok (.iload 5, 2) := by decide +kernel
theorem dX5_takeBack_86 : decode cX5_takeBack 86 = .ok (.aload_n 1, 1) := by decide +kernel
theorem dX5_takeBack_87 : decode cX5_takeBack 87 = .ok (.getfield 278, 3) := by decide +kernel
theorem dX5_takeBack_90 : decode cX5_takeBack 90 = .ok (.iload 4, 2) := by decide +kernel
theorem dX5_takeBack_92 : decode cX5_takeBack 92 = .ok (.iaload, 1) := by decide +kernel
theorem dX5_takeBack_93 : decode cX5_takeBack 93 = .ok (.i2l, 1) := by decide +kernel
theorem dX5_takeBack_94 : decode cX5_takeBack 94 = .ok (.invokevirtual 284, 3) := by decide +kernel
theorem dX5_takeBack_97 : decode cX5_takeBack 97 = .ok (.iinc 4 1, 3) := by decide +kernel
theorem dX5_takeBack_100 : decode cX5_takeBack 100 = .ok (.goto (-97), 3) := by decide +kernel
theorem dX5_takeBack_103 : decode cX5_takeBack 103 = .ok (.return_, 1) := by decide +kernel
theorem dX5_goBack_0 : decode cX5_goBack 0 = .ok (.aload_n 0, 1) := by decide +kernel
theorem dX5_goBack_1 : decode cX5_goBack 1 = .ok (.aload_n 1, 1) := by decide +kernel
theorem dX5_goBack_2 : decode cX5_goBack 2 = .ok (.iconst 0, 1) := by decide +kernel
theorem dX5_goBack_3 : decode cX5_goBack 3 = .ok (.aload_n 1, 1) := by decide +kernel
theorem dX5_goBack_4 : decode cX5_goBack 4 = .ok (.getfield 275, 3) := by decide +kernel
theorem dX5_goBack_7 : decode cX5_goBack 7 = .ok (.iconst 1, 1) := by decide +kernel
theorem dX5_goBack_8 : decode cX5_goBack 8 = .ok (.isub, 1) := by decide +kernel
theorem dX5_goBack_9 : decode cX5_goBack 9 = .ok (.invokevirtual 287, 3) := by decide +kernel
theorem dX5_goBack_12 : decode cX5_goBack 12 = .ok (.aload_n 0, 1) := by decide +kernel
theorem dX5_goBack_13 : decode cX5_goBack 13 = .ok (.aload_n 1, 1) := by decide +kernel
theorem dX5_goBack_14 : decode cX5_goBack 14 = .ok (.invokevirtual 291, 3) := by decide +kernel
theorem dX5_goBack_17 : decode cX5_goBack 17 = .ok (.return_, 1) := by decide +kernel
theorem dX5_endForward_0 : decode cX5_endForward 0 = .ok (.aload_n 1, 1) := by decide +kernel
theorem dX5_endForward_1 : decode cX5_endForward 1 = .ok (.aload_n 0, 1) := by decide +kernel
theorem dX5_endForward_2 : decode cX5_endForward 2 = .ok (.getfield 11, 3) := by decide +kernel
theorem dX5_endForward_5 : decode cX5_endForward 5 = .ok (.aload_n 1, 1) := by decide +kernel
theorem dX5_endForward_6 : decode cX5_endForward 6 = .ok (.invokevirtual 294, 3) := by decide +kernel
theorem dX5_endForward_9 : decode cX5_endForward 9 = .ok (.aaload, 1) := by decide +kernel
theorem dX5_endForward_10 : decode cX5_endForward 10 = .ok (.getfield 97, 3) := by decide +kernel
theorem dX5_endForward_13 : decode cX5_endForward 13 = .ok (.iconst 2, 1) := by decide +kernel
theorem dX5_endForward_14 : decode cX5_endForward 14 = .ok (.if_icmp .ne 7, 3) := by decide +kernel
theorem dX5_endForward_17 : decode cX5_endForward 17 = .ok (.iconst 5, 1) := by decide +kernel
theorem dX5_endForward_18 : decode cX5_endForward 18 = .ok (.goto 4, 3) := by decide +kernel
theorem dX5_endForward_21 : decode cX5_endForward 21 = .ok (.iconst 3, 1) := by decide +kernel
theorem dX5_endForward_22 : decode cX5_endForward 22 = .ok (.putfield 140, 3) := by decide +kernel
theorem dX5_endForward_25 : decode cX5_endForward 25 = .ok (.return_, 1) := by decide +kernel
theorem dX5_loseOrdersFrom_0 : decode cX5_loseOrdersFrom 0 = .ok (.iconst 0, 1) := by decide +kernel
theorem dX5_loseOrdersFrom_1 : decode cX5_loseOrdersFrom 1 = .ok (.istore_n 2, 1) := by decide +kernel
theorem dX5_loseOrdersFrom_2 : decode cX5_loseOrdersFrom 2 = .ok (.iconst 0, 1) := by decide +kernel
theorem dX5_loseOrdersFrom_3 : decode cX5_loseOrdersFrom 3 = .ok (.istore_n 3, 1) := by decide +kernel
theorem dX5_loseOrdersFrom_4 : decode cX5_loseOrdersFrom 4 = .ok (.iload_n 3, 1) := by decide +kernel
theorem dX5_loseOrdersFrom_5 : decode cX5_loseOrdersFrom 5 = .ok (.aload_n 0, 1) := by decide +kernel
theorem dX5_loseOrdersFrom_6 : decode cX5_loseOrdersFrom 6 = .ok (.getfield 124, 3) := by decide +kernel
theorem dX5_loseOrdersFrom_9 : decode cX5_loseOrdersFrom 9 = .ok (.if_icmp .ge 74, 3) := by decide +kernel
theorem dX5_loseOrdersFrom_12 : decode cX5_loseOrdersFrom 12 = .ok (.aload_n 0, 1) := by decide +kernel
theorem dX5_loseOrdersFrom_13 : decode cX5_loseOrdersFrom 13 = .ok (.getfield 18, 3) := by decide +kernel
theorem dX5_loseOrdersFrom_16 : decode cX5_loseOrdersFrom 16 = .ok (.iload_n 3, 1) := by decide +kernel
theorem dX5_loseOrdersFrom_17 : decode cX5_loseOrdersFrom 17 = .ok (.aaload, 1) := by decide +kernel
theorem dX5_loseOrdersFrom_18 : decode cX5_loseOrdersFrom 18 = .ok (.astore 4, 2) := by decide +kernel
theorem dX5_loseOrdersFrom_20 : decode cX5_loseOrdersFrom 20 = .ok (.aload 4, 2) := by decide +kernel
theorem dX5_loseOrdersFrom_22 : decode cX5_loseOrdersFrom 22 = .ok (.invokevirtual 294, 3) := by decide +kernel
theorem dX5_loseOrdersFrom_25 : decode cX5_loseOrdersFrom 25 = .ok (.iload_n 1, 1) := by decide +kernel
theorem dX5_loseOrdersFrom_26 : decode cX5_loseOrdersFrom 26 = .ok (.if_icmp .ne 51, 3) := by decide +kernel
theorem dX5_loseOrdersFrom_29 : decode cX5_loseOrdersFrom 29 = .ok (.aload 4, 2) := by decide +kernel
theorem dX5_loseOrdersFrom_31 : decode cX5_loseOrdersFrom 31 = .ok (.getfield 140, 3) := by decide +kernel
theorem dX5_loseOrdersFrom_34 : decode cX5_loseOrdersFrom 34 = .ok (.ifCond .eq 12, 3) := by decide +kernel
theorem dX5_loseOrdersFrom_37 : decode cX5_loseOrdersFrom 37 = .ok (.aload 4, 2) := by decide +kernel
theorem dX5_loseOrdersFrom_39 : decode cX5_loseOrdersFrom 39 = .ok (.getfield 140, 3) := by decide +kernel
theorem dX5_loseOrdersFrom_42 : decode cX5_loseOrdersFrom 42 = .ok (.iconst 3, 1) := by decide +kernel
theorem dX5_loseOrdersFrom_43 : decode cX5_loseOrdersFrom 43 = .ok (.if_icmp .ne 34, 3) := by decide +kernel
theorem dX5_loseOrdersFrom_46 : decode cX5_loseOrdersFrom 46 = .ok (.aload 4, 2) := by decide +kernel
theorem dX5_loseOrdersFrom_48 : decode cX5_loseOrdersFrom 48 = .ok (.getfield 140, 3) := by decide +kernel
theorem dX5_loseOrdersFrom_51 : decode cX5_loseOrdersFrom 51 = .ok (.ifCond .ne 17, 3) := by decide +kernel
theorem dX5_loseOrdersFrom_54 : decode cX5_loseOrdersFrom 54 = .ok (.aload_n 0, 1) := by decide +kernel
theorem dX5_loseOrdersFrom_55 : decode cX5_loseOrdersFrom 55 = .ok (.aload 4, 2) := by decide +kernel
theorem dX5_loseOrdersFrom_57 : decode cX5_loseOrdersFrom 57 = .ok (.iconst 0, 1) := by decide +kernel
theorem dX5_loseOrdersFrom_58 : decode cX5_loseOrdersFrom 58 = .ok (.aload 4, 2) := by decide +kernel
theorem dX5_loseOrdersFrom_60 : decode cX5_loseOrdersFrom 60 = .ok (.getfield 275, 3) := by decide +kernel
theorem dX5_loseOrdersFrom_63 : decode cX5_loseOrdersFrom 63 = .ok (.iconst 1, 1) := by decide +kernel
theorem dX5_loseOrdersFrom_64 : decode cX5_loseOrdersFrom 64 = .ok (.isub, 1) := by decide +kernel
theorem dX5_loseOrdersFrom_65 : decode cX5_loseOrdersFrom 65 = .ok (.invokevirtual 287, 3) := by decide +kernel
theorem dX5_loseOrdersFrom_68 : decode cX5_loseOrdersFrom 68 = .ok (.aload 4, 2) := by decide +kernel
theorem dX5_loseOrdersFrom_70 : decode cX5_loseOrdersFrom 70 = .ok (.iconst 5, 1) := by decide +kernel
theorem dX5_loseOrdersFrom_71 : decode cX5_loseOrdersFrom 71 = .ok (.putfield 140, 3) := by decide +kernel
theorem dX5_loseOrdersFrom_74 : decode cX5_loseOrdersFrom 74 = .ok (.iinc 2 1, 3) := by decide +kernel
theorem dX5_loseOrdersFrom_77 : decode cX5_loseOrdersFrom 77 = .ok (.iinc 3 1, 3) := by decide +kernel
theorem dX5_loseOrdersFrom_80 : decode cX5_loseOrdersFrom 80 = .ok (.goto (-76), 3) := by decide +kernel
theorem dX5_loseOrdersFrom_83 : decode cX5_loseOrdersFrom 83 = .ok (.iload_n 2, 1) := by decide +kernel
theorem dX5_loseOrdersFrom_84 : decode cX5_loseOrdersFrom 84 = .ok (.ireturn, 1) := by decide +kernel
theorem dX5_avoid_0 : decode cX5_avoid 0 = .ok (.iconst 0, 1) := by decide +kernel
theorem dX5_avoid_1 : decode cX5_avoid 1 = .ok (.istore_n 2, 1) := by decide +kernel
theorem dX5_avoid_2 : decode cX5_avoid 2 = .ok (.iload_n 2, 1) := by decide +kernel
theorem dX5_avoid_3 : decode cX5_avoid 3 = .ok (.aload_n 0, 1) := by decide +kernel
theorem dX5_avoid_4 : decode cX5_avoid 4 = .ok (.getfield 124, 3) := by decide +kernel
theorem dX5_avoid_7 : decode cX5_avoid 7 = .ok (.if_icmp .ge 44, 3) := by decide +kernel
theorem dX5_avoid_10 : decode cX5_avoid 10 = .ok (.aload_n 0, 1) := by decide +kernel
theorem dX5_avoid_11 : decode cX5_avoid 11 = .ok (.getfield 18, 3) := by decide +kernel
theorem dX5_avoid_14 : decode cX5_avoid 14 = .ok (.iload_n 2, 1) := by decide +kernel
theorem dX5_avoid_15 : decode cX5_avoid 15 = .ok (.aaload, 1) := by decide +kernel
theorem dX5_avoid_16 : decode cX5_avoid 16 = .ok (.getfield 140, 3) := by decide +kernel
theorem dX5_avoid_19 : decode cX5_avoid 19 = .ok (.ifCond .ne 26, 3) := by decide +kernel
theorem dX5_avoid_22 : decode cX5_avoid 22 = .ok (.aload_n 0, 1) := by decide +kernel
theorem dX5_avoid_23 : decode cX5_avoid 23 = .ok (.getfield 18, 3) := by decide +kernel
theorem dX5_avoid_26 : decode cX5_avoid 26 = .ok (.iload_n 2, 1) := by decide +kernel
theorem dX5_avoid_27 : decode cX5_avoid 27 = .ok (.aaload, 1) := by decide +kernel
theorem dX5_avoid_28 : decode cX5_avoid 28 = .ok (.iload_n 1, 1) := by decide +kernel
theorem dX5_avoid_29 : decode cX5_avoid 29 = .ok (.invokevirtual 297, 3) := by decide +kernel
theorem dX5_avoid_32 : decode cX5_avoid 32 = .ok (.ifCond .eq 13, 3) := by decide +kernel
theorem dX5_avoid_35 : decode cX5_avoid 35 = .ok (.aload_n 0, 1) := by decide +kernel
theorem dX5_avoid_36 : decode cX5_avoid 36 = .ok (.aload_n 0, 1) := by decide +kernel
theorem dX5_avoid_37 : decode cX5_avoid 37 = .ok (.getfield 18, 3) := by decide +kernel
theorem dX5_avoid_40 : decode cX5_avoid 40 = .ok (.iload_n 2, 1) := by decide +kernel
theorem dX5_avoid_41 : decode cX5_avoid 41 = .ok (.aaload, 1) := by decide +kernel
theorem dX5_avoid_42 : decode cX5_avoid 42 = .ok (.invokevirtual 301, 3) := by decide +kernel
theorem dX5_avoid_45 : decode cX5_avoid 45 = .ok (.iinc 2 1, 3) := by decide +kernel
theorem dX5_avoid_48 : decode cX5_avoid 48 = .ok (.goto (-46), 3) := by decide +kernel
theorem dX5_avoid_51 : decode cX5_avoid 51 = .ok (.return_, 1) := by decide +kernel
theorem dX5_lookAnew_0 : decode cX5_lookAnew 0 = .ok (.aload_n 1, 1) := by decide +kernel
theorem dX5_lookAnew_1 : decode cX5_lookAnew 1 = .ok (.getfield 221, 3) := by decide +kernel
theorem dX5_lookAnew_4 : decode cX5_lookAnew 4 = .ok (.istore_n 2, 1) := by decide +kernel
theorem dX5_lookAnew_5 : decode cX5_lookAnew 5 = .ok (.aload_n 1, 1) := by decide +kernel
theorem dX5_lookAnew_6 : decode cX5_lookAnew 6 = .ok (.getfield 278, 3) := by decide +kernel
theorem dX5_lookAnew_9 : decode cX5_lookAnew 9 = .ok (.iload_n 2, 1) := by decide +kernel
theorem dX5_lookAnew_10 : decode cX5_lookAnew 10 = .ok (.iaload, 1) := by decide +kernel
theorem dX5_lookAnew_11 : decode cX5_lookAnew 11 = .ok (.aload_n 1, 1) := by decide +kernel
theorem dX5_lookAnew_12 : decode cX5_lookAnew 12 = .ok (.getfield 131, 3) := by decide +kernel
theorem dX5_lookAnew_15 : decode cX5_lookAnew 15 = .ok (.isub, 1) := by decide +kernel
theorem dX5_lookAnew_16 : decode cX5_lookAnew 16 = .ok (.istore_n 3, 1) := by decide +kernel
theorem dX5_lookAnew_17 : decode cX5_lookAnew 17 = .ok (.aload_n 0, 1) := by decide +kernel
theorem dX5_lookAnew_18 : decode cX5_lookAnew 18 = .ok (.aload_n 1, 1) := by decide +kernel
theorem dX5_lookAnew_19 : decode cX5_lookAnew 19 = .ok (.iload_n 2, 1) := by decide +kernel
theorem dX5_lookAnew_20 : decode cX5_lookAnew 20 = .ok (.aload_n 1, 1) := by decide +kernel
theorem dX5_lookAnew_21 : decode cX5_lookAnew 21 = .ok (.getfield 275, 3) := by decide +kernel
theorem dX5_lookAnew_24 : decode cX5_lookAnew 24 = .ok (.iconst 1, 1) := by decide +kernel
theorem dX5_lookAnew_25 : decode cX5_lookAnew 25 = .ok (.isub, 1) := by decide +kernel
theorem dX5_lookAnew_26 : decode cX5_lookAnew 26 = .ok (.invokevirtual 287, 3) := by decide +kernel
theorem dX5_lookAnew_29 : decode cX5_lookAnew 29 = .ok (.aload_n 0, 1) := by decide +kernel
theorem dX5_lookAnew_30 : decode cX5_lookAnew 30 = .ok (.getfield 42, 3) := by decide +kernel
theorem dX5_lookAnew_33 : decode cX5_lookAnew 33 = .ok (.aload_n 0, 1) := by decide +kernel
theorem dX5_lookAnew_34 : decode cX5_lookAnew 34 = .ok (.getfield 66, 3) := by decide +kernel
theorem dX5_lookAnew_37 : decode cX5_lookAnew 37 = .ok (.aload_n 1, 1) := by decide +kernel
theorem dX5_lookAnew_38 : decode cX5_lookAnew 38 = .ok (.getfield 131, 3) := by decide +kernel
theorem dX5_lookAnew_41 : decode cX5_lookAnew 41 = .ok (.aload_n 0, 1) := by decide +kernel
theorem dX5_lookAnew_42 : decode cX5_lookAnew 42 = .ok (.getfield 93, 3) := by decide +kernel
theorem dX5_lookAnew_45 : decode cX5_lookAnew 45 = .ok (.invokevirtual 267, 3) := by decide +kernel
theorem dX5_lookAnew_48 : decode cX5_lookAnew 48 = .ok (.iconst 0, 1) := by decide +kernel
theorem dX5_lookAnew_49 : decode cX5_lookAnew 49 = .ok (.istore 4, 2) := by decide +kernel
theorem dX5_lookAnew_51 : decode cX5_lookAnew 51 = .ok (.iload 4, 2) := by decide +kernel
theorem dX5_lookAnew_53 : decode cX5_lookAnew 53 = .ok (.iload_n 2, 1) := by decide +kernel
theorem dX5_lookAnew_54 : decode cX5_lookAnew 54 = .ok (.if_icmp .ge 23, 3) := by decide +kernel
theorem dX5_lookAnew_57 : decode cX5_lookAnew 57 = .ok (.aload_n 0, 1) := by decide +kernel
theorem dX5_lookAnew_58 : decode cX5_lookAnew 58 = .ok (.getfield 42, 3) := by decide +kernel
theorem dX5_lookAnew_61 : decode cX5_lookAnew 61 = .ok (.aload_n 1, 1) := by decide +kernel
theorem dX5_lookAnew_62 : decode cX5_lookAnew 62 = .ok (.getfield 276, 3) := by decide +kernel
theorem dX5_lookAnew_65 : decode cX5_lookAnew 65 = .ok (.iload 4, 2) := by decide +kernel
theorem dX5_lookAnew_67 : decode cX5_lookAnew 67 = .ok (.iaload, 1) := by decide +kernel
theorem dX5_lookAnew_68 : decode cX5_lookAnew 68 = .ok (.invokevirtual 304, 3) := by decide +kernel
theorem dX5_lookAnew_71 : decode cX5_lookAnew 71 = .ok (.iinc 4 1, 3) := by decide +kernel
theorem dX5_lookAnew_74 : decode cX5_lookAnew 74 = .ok (.goto (-23), 3) := by decide +kernel
theorem dX5_lookAnew_77 : decode cX5_lookAnew 77 = .ok (.aload_n 0, 1) := by decide +kernel
theorem dX5_lookAnew_78 : decode cX5_lookAnew 78 = .ok (.getfield 42, 3) := by decide +kernel
theorem dX5_lookAnew_81 : decode cX5_lookAnew 81 = .ok (.aload_n 1, 1) := by decide +kernel
theorem dX5_lookAnew_82 : decode cX5_lookAnew 82 = .ok (.getfield 276, 3) := by decide +kernel
theorem dX5_lookAnew_85 : decode cX5_lookAnew 85 = .ok (.iload_n 2, 1) := by decide +kernel
theorem dX5_lookAnew_86 : decode cX5_lookAnew 86 = .ok (.iaload, 1) := by decide +kernel
theorem dX5_lookAnew_87 : decode cX5_lookAnew 87 = .ok (.aload_n 1, 1) := by decide +kernel
theorem dX5_lookAnew_88 : decode cX5_lookAnew 88 = .ok (.invokevirtual 159, 3) := by decide +kernel
theorem dX5_lookAnew_91 : decode cX5_lookAnew 91 = .ok (.invokevirtual 271, 3) := by decide +kernel
theorem dX5_lookAnew_94 : decode cX5_lookAnew 94 = .ok (.ifCond .eq 31, 3) := by decide +kernel
theorem dX5_lookAnew_97 : decode cX5_lookAnew 97 = .ok (.aload_n 0, 1) := by decide +kernel
theorem dX5_lookAnew_98 : decode cX5_lookAnew 98 = .ok (.getfield 42, 3) := by decide +kernel
theorem dX5_lookAnew_101 : decode cX5_lookAnew 101 = .ok (.invokevirtual 307, 3) := by decide +kernel
theorem dX5_lookAnew_104 : decode cX5_lookAnew 104 = .ok (.iload_n 3, 1) := by decide +kernel
theorem dX5_lookAnew_105 : decode cX5_lookAnew 105 = .ok (.if_icmp .gt 20, 3) := by decide +kernel
theorem dX5_lookAnew_108 : decode cX5_lookAnew 108 = .ok (.aload_n 1, 1) := by decide +kernel
theorem dX5_lookAnew_109 : decode cX5_lookAnew 109 = .ok (.aload_n 0, 1) := by decide +kernel
theorem dX5_lookAnew_110 : decode cX5_lookAnew 110 = .ok (.getfield 42, 3) := by decide +kernel
theorem dX5_lookAnew_113 : decode cX5_lookAnew 113 = .ok (.iload_n 2, 1) := by decide +kernel
theorem dX5_lookAnew_114 : decode cX5_lookAnew 114 = .ok (.invokevirtual 148, 3) := by decide +kernel
theorem dX5_lookAnew_117 : decode cX5_lookAnew 117 = .ok (.aload_n 0, 1) := by decide +kernel
theorem dX5_lookAnew_118 : decode cX5_lookAnew 118 = .ok (.aload_n 1, 1) := by decide +kernel
theorem dX5_lookAnew_119 : decode cX5_lookAnew 119 = .ok (.invokevirtual 152, 3) := by decide +kernel
theorem dX5_lookAnew_122 : decode cX5_lookAnew 122 = .ok (.goto 15, 3) := by decide +kernel
theorem dX5_lookAnew_125 : decode cX5_lookAnew 125 = .ok (.aload_n 0, 1) := by decide +kernel
theorem dX5_lookAnew_126 : decode cX5_lookAnew 126 = .ok (.aload_n 1, 1) := by decide +kernel
theorem dX5_lookAnew_127 : decode cX5_lookAnew 127 = .ok (.iconst 0, 1) := by decide +kernel
theorem dX5_lookAnew_128 : decode cX5_lookAnew 128 = .ok (.iload_n 2, 1) := by decide +kernel
theorem dX5_lookAnew_129 : decode cX5_lookAnew 129 = .ok (.invokevirtual 287, 3) := by decide +kernel
theorem dX5_lookAnew_132 : decode cX5_lookAnew 132 = .ok (.aload_n 0, 1) := by decide +kernel
theorem dX5_lookAnew_133 : decode cX5_lookAnew 133 = .ok (.aload_n 1, 1) := by decide +kernel
theorem dX5_lookAnew_134 : decode cX5_lookAnew 134 = .ok (.invokevirtual 291, 3) := by decide +kernel
theorem dX5_lookAnew_137 : decode cX5_lookAnew 137 = .ok (.return_, 1) := by decide +kernel
theorem dX5_tellTown_0 : decode cX5_tellTown 0 = .ok (.iload_n 2, 1) := by decide +kernel
theorem dX5_tellTown_1 : decode cX5_tellTown 1 = .ok (.aload_n 0, 1) := by decide +kernel
theorem dX5_tellTown_2 : decode cX5_tellTown 2 = .ok (.getfield 46, 3) := by decide +kernel
theorem dX5_tellTown_5 : decode cX5_tellTown 5 = .ok (.iload_n 1, 1) := by decide +kernel
theorem dX5_tellTown_6 : decode cX5_tellTown 6 = .ok (.iaload, 1) := by decide +kernel
theorem dX5_tellTown_7 : decode cX5_tellTown 7 = .ok (.if_icmp .le 13, 3) := by decide +kernel
theorem dX5_tellTown_10 : decode cX5_tellTown 10 = .ok (.aload_n 0, 1) := by decide +kernel
theorem dX5_tellTown_11 : decode cX5_tellTown 11 = .ok (.getfield 51, 3) := by decide +kernel
theorem dX5_tellTown_14 : decode cX5_tellTown 14 = .ok (.iload_n 1, 1) := by decide +kernel
theorem dX5_tellTown_15 : decode cX5_tellTown 15 = .ok (.dup2, 1) := by decide +kernel
theorem dX5_tellTown_16 : decode cX5_tellTown 16 = .ok (.iaload, 1) := by decide +kernel
theorem dX5_tellTown_17 : decode cX5_tellTown 17 = .ok (.iconst 1, 1) := by decide +kernel
theorem dX5_tellTown_18 : decode cX5_tellTown 18 = .ok (.iadd, 1) := by decide +kernel
theorem dX5_tellTown_19 : decode cX5_tellTown 19 = .ok (.iastore, 1) := by decide +kernel
theorem dX5_tellTown_20 : decode cX5_tellTown 20 = .ok (.return_, 1) := by decide +kernel
theorem dX5_passHour_0 : decode cX5_passHour 0 = .ok (.aload_n 0, 1) := by decide +kernel
theorem dX5_passHour_1 : decode cX5_passHour 1 = .ok (.dup, 1) := by decide +kernel
theorem dX5_passHour_2 : decode cX5_passHour 2 = .ok (.getfield 112, 3) := by decide +kernel
theorem dX5_passHour_5 : decode cX5_passHour 5 = .ok (.iconst 1, 1) := by decide +kernel
theorem dX5_passHour_6 : decode cX5_passHour 6 = .ok (.iadd, 1) := by decide +kernel
theorem dX5_passHour_7 : decode cX5_passHour 7 = .ok (.putfield 112, 3) := by decide +kernel
theorem dX5_passHour_10 : decode cX5_passHour 10 = .ok (.aload_n 0, 1) := by decide +kernel
theorem dX5_passHour_11 : decode cX5_passHour 11 = .ok (.invokevirtual 310, 3) := by decide +kernel
theorem dX5_passHour_14 : decode cX5_passHour 14 = .ok (.aload_n 0, 1) := by decide +kernel
theorem dX5_passHour_15 : decode cX5_passHour 15 = .ok (.invokevirtual 313, 3) := by decide +kernel
theorem dX5_passHour_18 : decode cX5_passHour 18 = .ok (.aload_n 0, 1) := by decide +kernel
theorem dX5_passHour_19 : decode cX5_passHour 19 = .ok (.invokevirtual 316, 3) := by decide +kernel
theorem dX5_passHour_22 : decode cX5_passHour 22 = .ok (.aload_n 0, 1) := by decide +kernel
theorem dX5_passHour_23 : decode cX5_passHour 23 = .ok (.invokevirtual 319, 3) := by decide +kernel
theorem dX5_passHour_26 : decode cX5_passHour 26 = .ok (.aload_n 0, 1) := by decide +kernel
theorem dX5_passHour_27 : decode cX5_passHour 27 = .ok (.invokevirtual 322, 3) := by decide +kernel
theorem dX5_passHour_30 : decode cX5_passHour 30 = .ok (.return_, 1) := by decide +kernel
theorem dX5_endRaids_0 : decode cX5_endRaids 0 = .ok (.iconst 0, 1) := by decide +kernel
theorem dX5_endRaids_1 : decode cX5_endRaids 1 = .ok (.istore_n 1, 1) := by decide +kernel
theorem dX5_endRaids_2 : decode cX5_endRaids 2 = .ok (.iload_n 1, 1) := by decide +kernel
theorem dX5_endRaids_3 : decode cX5_endRaids 3 = .ok (.aload_n 0, 1) := by decide +kernel
theorem dX5_endRaids_4 : decode cX5_endRaids 4 = .ok (.getfield 66, 3) := by decide +kernel
theorem dX5_endRaids_7 : decode cX5_endRaids 7 = .ok (.if_icmp .ge 48, 3) := by decide +kernel
theorem dX5_endRaids_10 : decode cX5_endRaids 10 = .ok (.aload_n 0, 1) := by decide +kernel
theorem dX5_endRaids_11 : decode cX5_endRaids 11 = .ok (.getfield 11, 3) := by decide +kernel
theorem dX5_endRaids_14 : decode cX5_endRaids 14 = .ok (.iload_n 1, 1) := by decide +kernel
theorem dX5_endRaids_15 : decode cX5_endRaids 15 = .ok (.aaload, 1) := by decide +kernel
theorem dX5_endRaids_16 : decode cX5_endRaids 16 = .ok (.getfield 97, 3) := by decide +kernel
theorem dX5_endRaids_19 : decode cX5_endRaids 19 = .ok (.iconst 1, 1) := by decide +kernel
theorem dX5_endRaids_20 : decode cX5_endRaids 20 = .ok (.if_icmp .ne 29, 3) := by decide +kernel
theorem dX5_endRaids_23 : decode cX5_endRaids 23 = .ok (.aload_n 0, 1) := by decide +kernel
theorem dX5_endRaids_24 : decode cX5_endRaids 24 = .ok (.getfield 112, 3) := by decide +kernel
theorem dX5_endRaids_27 : decode cX5_endRaids 27 = .ok (.aload_n 0, 1) := by decide +kernel
theorem dX5_endRaids_28 : decode cX5_endRaids 28 = .ok (.getfield 11, 3) := by decide +kernel
theorem dX5_endRaids_31 : decode cX5_endRaids 31 = .ok (.iload_n 1, 1) := by decide +kernel
theorem dX5_endRaids_32 : decode cX5_endRaids 32 = .ok (.aaload, 1) := by decide +kernel
theorem dX5_endRaids_33 : decode cX5_endRaids 33 = .ok (.getfield 115, 3) := by decide +kernel
theorem dX5_endRaids_36 : decode cX5_endRaids 36 = .ok (.if_icmp .lt 13, 3) := by decide +kernel
theorem dX5_endRaids_39 : decode cX5_endRaids 39 = .ok (.aload_n 0, 1) := by decide +kernel
theorem dX5_endRaids_40 : decode cX5_endRaids 40 = .ok (.getfield 11, 3) := by decide +kernel
theorem dX5_endRaids_43 : decode cX5_endRaids 43 = .ok (.iload_n 1, 1) := by decide +kernel
theorem dX5_endRaids_44 : decode cX5_endRaids 44 = .ok (.aaload, 1) := by decide +kernel
theorem dX5_endRaids_45 : decode cX5_endRaids 45 = .ok (.iconst 0, 1) := by decide +kernel
theorem dX5_endRaids_46 : decode cX5_endRaids 46 = .ok (.putfield 97, 3) := by decide +kernel
theorem dX5_endRaids_49 : decode cX5_endRaids 49 = .ok (.iinc 1 1, 3) := by decide +kernel
theorem dX5_endRaids_52 : decode cX5_endRaids 52 = .ok (.goto (-50), 3) := by decide +kernel
theorem dX5_endRaids_55 : decode cX5_endRaids 55 = .ok (.return_, 1) := by decide +kernel
theorem dX5_moveMessages_0 : decode cX5_moveMessages 0 = .ok (.iconst 0, 1) := by decide +kernel
theorem dX5_moveMessages_1 : decode cX5_moveMessages 1 = .ok (.istore_n 1, 1) := by decide +kernel
theorem dX5_moveMessages_2 : decode cX5_moveMessages 2 = .ok (.iload_n 1, 1) := by decide +kernel
theorem dX5_moveMessages_3 : decode cX5_moveMessages 3 = .ok (.aload_n 0, 1) := by decide +kernel
theorem dX5_moveMessages_4 : decode cX5_moveMessages 4 = .ok (.getfield 124, 3) := by decide +kernel
theorem dX5_moveMessages_7 : decode cX5_moveMessages 7 = .ok (.if_icmp .ge 108, 3) := by decide +kernel
theorem dX5_moveMessages_10 : decode cX5_moveMessages 10 = .ok (.aload_n 0, 1) := by decide +kernel
theorem dX5_moveMessages_11 : decode cX5_moveMessages 11 = .ok (.getfield 18, 3) := by decide +kernel
theorem dX5_moveMessages_14 : decode cX5_moveMessages 14 = .ok (.iload_n 1, 1) := by decide +kernel
theorem dX5_moveMessages_15 : decode cX5_moveMessages 15 = .ok (.aaload, 1) := by decide +kernel
theorem dX5_moveMessages_16 : decode cX5_moveMessages 16 = .ok (.astore_n 2, 1) := by decide +kernel
theorem dX5_moveMessages_17 : decode cX5_moveMessages 17 = .ok (.aload_n 2, 1) := by decide +kernel
theorem dX5_moveMessages_18 : decode cX5_moveMessages 18 = .ok (.getfield 140, 3) := by decide +kernel
theorem dX5_moveMessages_21 : decode cX5_moveMessages 21 = .ok (.ifCond .ne 88, 3) := by decide +kernel
theorem dX5_moveMessages_24 : decode cX5_moveMessages 24 = .ok (.aload_n 2, 1) := by decide +kernel
theorem dX5_moveMessages_25 : decode cX5_moveMessages 25 = .ok (.getfield 221, 3) := by decide +kernel
theorem dX5_moveMessages_28 : decode cX5_moveMessages 28 = .ok (.iconst 1, 1) := by decide +kernel
theorem dX5_moveMessages_29 : decode cX5_moveMessages 29 = .ok (.iadd, 1) := by decide +kernel
theorem dX5_moveMessages_30 : decode cX5_moveMessages 30 = .ok (.aload_n 2, 1) := by decide +kernel
theorem dX5_moveMessages_31 : decode cX5_moveMessages 31 = .ok (.getfield 275, 3) := by decide +kernel
theorem dX5_moveMessages_34 : decode cX5_moveMessages 34 = .ok (.if_icmp .ge 75, 3) := by decide +kernel
theorem dX5_moveMessages_37 : decode cX5_moveMessages 37 = .ok (.aload_n 2, 1) := by decide +kernel
theorem dX5_moveMessages_38 : decode cX5_moveMessages 38 = .ok (.getfield 276, 3) := by decide +kernel
theorem dX5_moveMessages_41 : decode cX5_moveMessages 41 = .ok (.aload_n 2, 1) := by decide +kernel
theorem dX5_moveMessages_42 : decode cX5_moveMessages 42 = .ok (.getfield 221, 3) := by decide +kernel
theorem dX5_moveMessages_45 : decode cX5_moveMessages 45 = .ok (.iaload, 1) := by decide +kernel
theorem dX5_moveMessages_46 : decode cX5_moveMessages 46 = .ok (.istore_n 3, 1) := by decide +kernel
theorem dX5_moveMessages_47 : decode cX5_moveMessages 47 = .ok (.aload_n 2, 1) := by decide +kernel
theorem dX5_moveMessages_48 : decode cX5_moveMessages 48 = .ok (.getfield 276, 3) := by decide +kernel
theorem dX5_moveMessages_51 : decode cX5_moveMessages 51 = .ok (.aload_n 2, 1) := by decide +kernel
theorem dX5_moveMessages_52 : decode cX5_moveMessages 52 = .ok (.getfield 221, 3) := by decide +kernel
theorem dX5_moveMessages_55 : decode cX5_moveMessages 55 = .ok (.iconst 1, 1) := by decide +kernel
theorem dX5_moveMessages_56 : decode cX5_moveMessages 56 = .ok (.iadd, 1) := by decide +kernel
theorem dX5_moveMessages_57 : decode cX5_moveMessages 57 = .ok (.iaload, 1) := by decide +kernel
theorem dX5_moveMessages_58 : decode cX5_moveMessages 58 = .ok (.istore 4, 2) := by decide +kernel
theorem dX5_moveMessages_60 : decode cX5_moveMessages 60 = .ok (.aload_n 0, 1) := by decide +kernel
theorem dX5_moveMessages_61 : decode cX5_moveMessages 61 = .ok (.getfield 33, 3) := by decide +kernel
theorem dX5_moveMessages_64 : decode cX5_moveMessages 64 = .ok (.iload 4, 2) := by decide +kernel
theorem dX5_moveMessages_66 : decode cX5_moveMessages 66 = .ok (.iload_n 3, 1) := by decide +kernel
theorem dX5_moveMessages_67 : decode cX5_moveMessages 67 = .ok (.aload_n 2, 1) := by decide +kernel
theorem dX5_moveMessages_68 : decode cX5_moveMessages 68 = .ok (.getfield 278, 3) := by decide +kernel
theorem dX5_moveMessages_71 : decode cX5_moveMessages 71 = .ok (.aload_n 2, 1) := by decide +kernel
theorem dX5_moveMessages_72 : decode cX5_moveMessages 72 = .ok (.getfield 221, 3) := by decide +kernel
theorem dX5_moveMessages_75 : decode cX5_moveMessages 75 = .ok (.iaload, 1) := by decide +kernel
theorem dX5_moveMessages_76 : decode cX5_moveMessages 76 = .ok (.ineg, 1) := by decide +kernel
theorem dX5_moveMessages_77 : decode cX5_moveMessages 77 = .ok (.i2l, 1) := by decide +kernel
theorem dX5_moveMessages_78 : decode cX5_moveMessages 78 = .ok (.invokevirtual 284, 3) := by decide +kernel
theorem dX5_moveMessages_81 : decode cX5_moveMessages 81 = .ok (.aload_n 2, 1) := by decide +kernel
theorem dX5_moveMessages_82 : decode cX5_moveMessages 82 = .ok (.dup, 1) := by decide +kernel
theorem dX5_moveMessages_83 : decode cX5_moveMessages 83 = .ok (.getfield 221, 3) := by decide +kernel
theorem dX5_moveMessages_86 : decode cX5_moveMessages 86 = .ok (.iconst 1, 1) := by decide +kernel
theorem dX5_moveMessages_87 : decode cX5_moveMessages 87 = .ok (.iadd, 1) := by decide +kernel
theorem dX5_moveMessages_88 : decode cX5_moveMessages 88 = .ok (.putfield 221, 3) := by decide +kernel
theorem dX5_moveMessages_91 : decode cX5_moveMessages 91 = .ok (.aload_n 2, 1) := by decide +kernel
theorem dX5_moveMessages_92 : decode cX5_moveMessages 92 = .ok (.getfield 221, 3) := by decide +kernel
theorem dX5_moveMessages_95 : decode cX5_moveMessages 95 = .ok (.iconst 1, 1) := by decide +kernel
theorem dX5_moveMessages_96 : decode cX5_moveMessages 96 = .ok (.iadd, 1) := by decide +kernel
theorem dX5_moveMessages_97 : decode cX5_moveMessages 97 = .ok (.aload_n 2, 1) := by decide +kernel
theorem dX5_moveMessages_98 : decode cX5_moveMessages 98 = .ok (.getfield 275, 3) := by decide +kernel
theorem dX5_moveMessages_101 : decode cX5_moveMessages 101 = .ok (.if_icmp .ne 8, 3) := by decide +kernel
theorem dX5_moveMessages_104 : decode cX5_moveMessages 104 = .ok (.aload_n 2, 1) := by decide +kernel
theorem dX5_moveMessages_105 : decode cX5_moveMessages 105 = .ok (.iconst 1, 1) := by decide +kernel
theorem dX5_moveMessages_106 : decode cX5_moveMessages 106 = .ok (.putfield 140, 3) := by decide +kernel
theorem dX5_moveMessages_109 : decode cX5_moveMessages 109 = .ok (.iinc 1 1, 3) := by decide +kernel
theorem dX5_moveMessages_112 : decode cX5_moveMessages 112 = .ok (.goto (-110), 3) := by decide +kernel
theorem dX5_moveMessages_115 : decode cX5_moveMessages 115 = .ok (.return_, 1) := by decide +kernel
theorem dX5_sendBackOld_0 : decode cX5_sendBackOld 0 = .ok (.iconst 0, 1) := by decide +kernel
theorem dX5_sendBackOld_1 : decode cX5_sendBackOld 1 = .ok (.istore_n 1, 1) := by decide +kernel
theorem dX5_sendBackOld_2 : decode cX5_sendBackOld 2 = .ok (.iload_n 1, 1) := by decide +kernel
theorem dX5_sendBackOld_3 : decode cX5_sendBackOld 3 = .ok (.aload_n 0, 1) := by decide +kernel
theorem dX5_sendBackOld_4 : decode cX5_sendBackOld 4 = .ok (.getfield 124, 3) := by decide +kernel
theorem dX5_sendBackOld_7 : decode cX5_sendBackOld 7 = .ok (.if_icmp .ge 51, 3) := by decide +kernel
theorem dX5_sendBackOld_10 : decode cX5_sendBackOld 10 = .ok (.aload_n 0, 1) := by decide +kernel
theorem dX5_sendBackOld_11 : decode cX5_sendBackOld 11 = .ok (.getfield 18, 3) := by decide +kernel
theorem dX5_sendBackOld_14 : decode cX5_sendBackOld 14 = .ok (.iload_n 1, 1) := by decide +kernel
theorem dX5_sendBackOld_15 : decode cX5_sendBackOld 15 = .ok (.aaload, 1) := by decide +kernel
theorem dX5_sendBackOld_16 : decode cX5_sendBackOld 16 = .ok (.invokevirtual 325, 3) := by decide +kernel
theorem dX5_sendBackOld_19 : decode cX5_sendBackOld 19 = .ok (.ifCond .eq 33, 3) := by decide +kernel
theorem dX5_sendBackOld_22 : decode cX5_sendBackOld 22 = .ok (.aload_n 0, 1) := by decide +kernel
theorem dX5_sendBackOld_23 : decode cX5_sendBackOld 23 = .ok (.getfield 112, 3) := by decide +kernel
theorem dX5_sendBackOld_26 : decode cX5_sendBackOld 26 = .ok (.aload_n 0, 1) := by decide +kernel
theorem dX5_sendBackOld_27 : decode cX5_sendBackOld 27 = .ok (.getfield 18, 3) := by decide +kernel
theorem dX5_sendBackOld_30 : decode cX5_sendBackOld 30 = .ok (.iload_n 1, 1) := by decide +kernel
theorem dX5_sendBackOld_31 : decode cX5_sendBackOld 31 = .ok (.aaload, 1) := by decide +kernel
theorem dX5_sendBackOld_32 : decode cX5_sendBackOld 32 = .ok (.getfield 137, 3) := by decide +kernel
theorem dX5_sendBackOld_35 : decode cX5_sendBackOld 35 = .ok (.sipush 240, 3) := by decide +kernel
theorem dX5_sendBackOld_38 : decode cX5_sendBackOld 38 = .ok (.iadd, 1) := by decide +kernel
theorem dX5_sendBackOld_39 : decode cX5_sendBackOld 39 = .ok (.if_icmp .lt 13, 3) := by decide +kernel
theorem dX5_sendBackOld_42 : decode cX5_sendBackOld 42 = .ok (.aload_n 0, 1) := by decide +kernel
theorem dX5_sendBackOld_43 : decode cX5_sendBackOld 43 = .ok (.aload_n 0, 1) := by decide +kernel
theorem dX5_sendBackOld_44 : decode cX5_sendBackOld 44 = .ok (.getfield 18, 3) := by decide +kernel
theorem dX5_sendBackOld_47 : decode cX5_sendBackOld 47 = .ok (.iload_n 1, 1) := by decide +kernel
theorem dX5_sendBackOld_48 : decode cX5_sendBackOld 48 = .ok (.aaload, 1) := by decide +kernel
theorem dX5_sendBackOld_49 : decode cX5_sendBackOld 49 = .ok (.invokevirtual 165, 3) := by decide +kernel
theorem dX5_sendBackOld_52 : decode cX5_sendBackOld 52 = .ok (.iinc 1 1, 3) := by decide +kernel
theorem dX5_sendBackOld_55 : decode cX5_sendBackOld 55 = .ok (.goto (-53), 3) := by decide +kernel
theorem dX5_sendBackOld_58 : decode cX5_sendBackOld 58 = .ok (.return_, 1) := by decide +kernel
theorem dX5_giveBack_0 : decode cX5_giveBack 0 = .ok (.iconst 0, 1) := by decide +kernel
theorem dX5_giveBack_1 : decode cX5_giveBack 1 = .ok (.istore_n 1, 1) := by decide +kernel
theorem dX5_giveBack_2 : decode cX5_giveBack 2 = .ok (.iload_n 1, 1) := by decide +kernel
theorem dX5_giveBack_3 : decode cX5_giveBack 3 = .ok (.aload_n 0, 1) := by decide +kernel
theorem dX5_giveBack_4 : decode cX5_giveBack 4 = .ok (.getfield 124, 3) := by decide +kernel
theorem dX5_giveBack_7 : decode cX5_giveBack 7 = .ok (.if_icmp .ge 73, 3) := by decide +kernel
theorem dX5_giveBack_10 : decode cX5_giveBack 10 = .ok (.aload_n 0, 1) := by decide +kernel
theorem dX5_giveBack_11 : decode cX5_giveBack 11 = .ok (.getfield 18, 3) := by decide +kernel
theorem dX5_giveBack_14 : decode cX5_giveBack 14 = .ok (.iload_n 1, 1) := by decide +kernel
theorem dX5_giveBack_15 : decode cX5_giveBack 15 = .ok (.aaload, 1) := by decide +kernel
theorem dX5_giveBack_16 : decode cX5_giveBack 16 = .ok (.astore_n 2, 1) := by decide +kernel
theorem dX5_giveBack_17 : decode cX5_giveBack 17 = .ok (.aload_n 2, 1) := by decide +kernel
theorem dX5_giveBack_18 : decode cX5_giveBack 18 = .ok (.getfield 140, 3) := by decide +kernel
theorem dX5_giveBack_21 : decode cX5_giveBack 21 = .ok (.iconst 3, 1) := by decide +kernel
theorem dX5_giveBack_22 : decode cX5_giveBack 22 = .ok (.if_icmp .ne 52, 3) := by decide +kernel
theorem dX5_giveBack_25 : decode cX5_giveBack 25 = .ok (.aload_n 0, 1) := by decide +kernel
theorem dX5_giveBack_26 : decode cX5_giveBack 26 = .ok (.getfield 11, 3) := by decide +kernel
theorem dX5_giveBack_29 : decode cX5_giveBack 29 = .ok (.aload_n 2, 1) := by decide +kernel
theorem dX5_giveBack_30 : decode cX5_giveBack 30 = .ok (.invokevirtual 294, 3) := by decide +kernel
theorem dX5_giveBack_33 : decode cX5_giveBack 33 = .ok (.aaload, 1) := by decide +kernel
theorem dX5_giveBack_34 : decode cX5_giveBack 34 = .ok (.astore_n 3, 1) := by decide +kernel
theorem dX5_giveBack_35 : decode cX5_giveBack 35 = .ok (.aload_n 3, 1) := by decide +kernel
theorem dX5_giveBack_36 : decode cX5_giveBack 36 = .ok (.invokevirtual 108, 3) := by decide +kernel
theorem dX5_giveBack_39 : decode cX5_giveBack 39 = .ok (.ifCond .eq 35, 3) := by decide +kernel
theorem dX5_giveBack_42 : decode cX5_giveBack 42 = .ok (.aload_n 3, 1) := by decide +kernel
theorem dX5_giveBack_43 : decode cX5_giveBack 43 = .ok (.getfield 77, 3) := by decide +kernel
theorem dX5_giveBack_46 : decode cX5_giveBack 46 = .ok (.aload_n 2, 1) := by decide +kernel
theorem dX5_giveBack_47 : decode cX5_giveBack 47 = .ok (.getfield 145, 3) := by decide +kernel
theorem dX5_giveBack_50 : decode cX5_giveBack 50 = .ok (.i2l, 1) := by decide +kernel
theorem dX5_giveBack_51 : decode cX5_giveBack 51 = .ok (.lcmp, 1) := by decide +kernel
theorem dX5_giveBack_52 : decode cX5_giveBack 52 = .ok (.ifCond .lt 22, 3) := by decide +kernel
theorem dX5_giveBack_55 : decode cX5_giveBack 55 = .ok (.aload_n 3, 1) := by decide +kernel
theorem dX5_giveBack_56 : decode cX5_giveBack 56 = .ok (.dup, 1) := by decide +kernel
theorem dX5_giveBack_57 : decode cX5_giveBack 57 = .ok (.getfield 77, 3) := by decide +kernel
theorem dX5_giveBack_60 : decode cX5_giveBack 60 = .ok (.aload_n 2, 1) := by decide +kernel
theorem dX5_giveBack_61 : decode cX5_giveBack 61 = .ok (.getfield 145, 3) := by decide +kernel
theorem dX5_giveBack_64 : decode cX5_giveBack 64 = .ok (.i2l, 1) := by decide +kernel
theorem dX5_giveBack_65 : decode cX5_giveBack 65 = .ok (.lsub, 1) := by decide +kernel
theorem dX5_giveBack_66 : decode cX5_giveBack 66 = .ok (.putfield 77, 3) := by decide +kernel
theorem dX5_giveBack_69 : decode cX5_giveBack 69 = .ok (.aload_n 2, 1) := by decide +kernel
theorem dX5_giveBack_70 : decode cX5_giveBack 70 = .ok (.iconst 4, 1) := by decide +kernel
theorem dX5_giveBack_71 : decode cX5_giveBack 71 = .ok (.putfield 140, 3) := by decide +kernel
theorem dX5_giveBack_74 : decode cX5_giveBack 74 = .ok (.iinc 1 1, 3) := by decide +kernel
theorem dX5_giveBack_77 : decode cX5_giveBack 77 = .ok (.goto (-75), 3) := by decide +kernel
theorem dX5_giveBack_80 : decode cX5_giveBack 80 = .ok (.return_, 1) := by decide +kernel
theorem dX5_receiveCouriers_0 : decode cX5_receiveCouriers 0 = .ok (.iconst 0, 1) := by decide +kernel
theorem dX5_receiveCouriers_1 : decode cX5_receiveCouriers 1 = .ok (.istore_n 1, 1) := by decide +kernel
theorem dX5_receiveCouriers_2 : decode cX5_receiveCouriers 2 = .ok (.iload_n 1, 1) := by decide +kernel
theorem dX5_receiveCouriers_3 : decode cX5_receiveCouriers 3 = .ok (.aload_n 0, 1) := by decide +kernel
theorem dX5_receiveCouriers_4 : decode cX5_receiveCouriers 4 = .ok (.getfield 179, 3) := by decide +kernel
theorem dX5_receiveCouriers_7 : decode cX5_receiveCouriers 7 = .ok (.if_icmp .ge 82, 3) := by decide +kernel
theorem dX5_receiveCouriers_10 : decode cX5_receiveCouriers 10 = .ok (.aload_n 0, 1) := by decide +kernel
theorem dX5_receiveCouriers_11 : decode cX5_receiveCouriers 11 = .ok (.getfield 25, 3) := by decide +kernel
theorem dX5_receiveCouriers_14 : decode cX5_receiveCouriers 14 = .ok (.iload_n 1, 1) := by decide +kernel
theorem dX5_receiveCouriers_15 : decode cX5_receiveCouriers 15 = .ok (.aaload, 1) := by decide +kernel
theorem dX5_receiveCouriers_16 : decode cX5_receiveCouriers 16 = .ok (.astore_n 2, 1) := by decide +kernel
theorem dX5_receiveCouriers_17 : decode cX5_receiveCouriers 17 = .ok (.aload_n 2, 1) := by decide +kernel
theorem dX5_receiveCouriers_18 : decode cX5_receiveCouriers 18 = .ok (.getfield 192, 3) := by decide +kernel
theorem dX5_receiveCouriers_21 : decode cX5_receiveCouriers 21 = .ok (.ifCond .eq 62, 3) := by decide +kernel
theorem dX5_receiveCouriers_24 : decode cX5_receiveCouriers 24 = .ok (.aload_n 0, 1) := by decide +kernel
theorem dX5_receiveCouriers_25 : decode cX5_receiveCouriers 25 = .ok (.getfield 112, 3) := by decide +kernel
theorem dX5_receiveCouriers_28 : decode cX5_receiveCouriers 28 = .ok (.aload_n 2, 1) := by decide +kernel
theorem dX5_receiveCouriers_29 : decode cX5_receiveCouriers 29 = .ok (.getfield 189, 3) := by decide +kernel
theorem dX5_receiveCouriers_32 : decode cX5_receiveCouriers 32 = .ok (.if_icmp .lt 51, 3) := by decide +kernel
theorem dX5_receiveCouriers_35 : decode cX5_receiveCouriers 35 = .ok (.aload_n 2, 1) := by decide +kernel
theorem dX5_receiveCouriers_36 : decode cX5_receiveCouriers 36 = .ok (.iconst 0, 1) := by decide +kernel
theorem dX5_receiveCouriers_37 : decode cX5_receiveCouriers 37 = .ok (.putfield 192, 3) := by decide +kernel
theorem dX5_receiveCouriers_40 : decode cX5_receiveCouriers 40 = .ok (.aload_n 0, 1) := by decide +kernel
theorem dX5_receiveCouriers_41 : decode cX5_receiveCouriers 41 = .ok (.getfield 11, 3) := by decide +kernel
theorem dX5_receiveCouriers_44 : decode cX5_receiveCouriers 44 = .ok (.aload_n 2, 1) := by decide +kernel
theorem dX5_receiveCouriers_45 : decode cX5_receiveCouriers 45 = .ok (.getfield 185, 3) := by decide +kernel
theorem dX5_receiveCouriers_48 : decode cX5_receiveCouriers 48 = .ok (.aaload, 1) := by decide +kernel
theorem dX5_receiveCouriers_49 : decode cX5_receiveCouriers 49 = .ok (.dup, 1) := by decide +kernel
theorem dX5_receiveCouriers_50 : decode cX5_receiveCouriers 50 = .ok (.getfield 77, 3) := by decide +kernel
theorem dX5_receiveCouriers_53 : decode cX5_receiveCouriers 53 = .ok (.aload_n 2, 1) := by decide +kernel
theorem dX5_receiveCouriers_54 : decode cX5_receiveCouriers 54 = .ok (.getfield 188, 3) := by decide +kernel
theorem dX5_receiveCouriers_57 : decode cX5_receiveCouriers 57 = .ok (.i2l, 1) := by decide +kernel
theorem dX5_receiveCouriers_58 : decode cX5_receiveCouriers 58 = .ok (.ladd, 1) := by decide +kernel
theorem dX5_receiveCouriers_59 : decode cX5_receiveCouriers 59 = .ok (.putfield 77, 3) := by decide +kernel
theorem dX5_receiveCouriers_62 : decode cX5_receiveCouriers 62 = .ok (.aload_n 0, 1) := by decide +kernel
theorem dX5_receiveCouriers_63 : decode cX5_receiveCouriers 63 = .ok (.getfield 33, 3) := by decide +kernel
theorem dX5_receiveCouriers_66 : decode cX5_receiveCouriers 66 = .ok (.aload_n 2, 1) := by decide +kernel
theorem dX5_receiveCouriers_67 : decode cX5_receiveCouriers 67 = .ok (.getfield 182, 3) := by decide +kernel
theorem dX5_receiveCouriers_70 : decode cX5_receiveCouriers 70 = .ok (.aload_n 2, 1) := by decide +kernel
theorem dX5_receiveCouriers_71 : decode cX5_receiveCouriers 71 = .ok (.getfield 185, 3) := by decide +kernel
theorem dX5_receiveCouriers_74 : decode cX5_receiveCouriers 74 = .ok (.aload_n 2, 1) := by decide +kernel
theorem dX5_receiveCouriers_75 : decode cX5_receiveCouriers 75 = .ok (.getfield 188, 3) := by decide +kernel
theorem dX5_receiveCouriers_78 : decode cX5_receiveCouriers 78 = .ok (.ineg, 1) := by decide +kernel
theorem dX5_receiveCouriers_79 : decode cX5_receiveCouriers 79 = .ok (.i2l, 1) := by decide +kernel
theorem dX5_receiveCouriers_80 : decode cX5_receiveCouriers 80 = .ok (.invokevirtual 175, 3) := by decide +kernel
theorem dX5_receiveCouriers_83 : decode cX5_receiveCouriers 83 = .ok (.iinc 1 1, 3) := by decide +kernel
theorem dX5_receiveCouriers_86 : decode cX5_receiveCouriers 86 = .ok (.goto (-84), 3) := by decide +kernel
theorem dX5_receiveCouriers_89 : decode cX5_receiveCouriers 89 = .ok (.return_, 1) := by decide +kernel
theorem dX5_clearRing_0 : decode cX5_clearRing 0 = .ok (.aload_n 0, 1) := by decide +kernel
theorem dX5_clearRing_1 : decode cX5_clearRing 1 = .ok (.getfield 33, 3) := by decide +kernel
theorem dX5_clearRing_4 : decode cX5_clearRing 4 = .ok (.getfield 171, 3) := by decide +kernel
theorem dX5_clearRing_7 : decode cX5_clearRing 7 = .ok (.iload_n 1, 1) := by decide +kernel
theorem dX5_clearRing_8 : decode cX5_clearRing 8 = .ok (.aaload, 1) := by decide +kernel
theorem dX5_clearRing_9 : decode cX5_clearRing 9 = .ok (.iload_n 2, 1) := by decide +kernel
theorem dX5_clearRing_10 : decode cX5_clearRing 10 = .ok (.laload, 1) := by decide +kernel
theorem dX5_clearRing_11 : decode cX5_clearRing 11 = .ok (.aload_n 0, 1) := by decide +kernel
theorem dX5_clearRing_12 : decode cX5_clearRing 12 = .ok (.getfield 33, 3) := by decide +kernel
theorem dX5_clearRing_15 : decode cX5_clearRing 15 = .ok (.getfield 171, 3) := by decide +kernel
theorem dX5_clearRing_18 : decode cX5_clearRing 18 = .ok (.iload_n 2, 1) := by decide +kernel
theorem dX5_clearRing_19 : decode cX5_clearRing 19 = .ok (.aaload, 1) := by decide +kernel
theorem dX5_clearRing_20 : decode cX5_clearRing 20 = .ok (.iload_n 3, 1) := by decide +kernel
theorem dX5_clearRing_21 : decode cX5_clearRing 21 = .ok (.laload, 1) := by decide +kernel
theorem dX5_clearRing_22 : decode cX5_clearRing 22 = .ok (.aload_n 0, 1) := by decide +kernel
theorem dX5_clearRing_23 : decode cX5_clearRing 23 = .ok (.getfield 33, 3) := by decide +kernel
theorem dX5_clearRing_26 : decode cX5_clearRing 26 = .ok (.getfield 171, 3) := by decide +kernel
theorem dX5_clearRing_29 : decode cX5_clearRing 29 = .ok (.iload_n 3, 1) := by decide +kernel
theorem dX5_clearRing_30 : decode cX5_clearRing 30 = .ok (.aaload, 1) := by decide +kernel
theorem dX5_clearRing_31 : decode cX5_clearRing 31 = .ok (.iload_n 1, 1) := by decide +kernel
theorem dX5_clearRing_32 : decode cX5_clearRing 32 = .ok (.laload, 1) := by decide +kernel
theorem dX5_clearRing_33 : decode cX5_clearRing 33 = .ok (.invokestatic 328, 3) := by decide +kernel
theorem dX5_clearRing_36 : decode cX5_clearRing 36 = .ok (.invokestatic 328, 3) := by decide +kernel
theorem dX5_clearRing_39 : decode cX5_clearRing 39 = .ok (.lstore 4, 2) := by decide +kernel
theorem dX5_clearRing_41 : decode cX5_clearRing 41 = .ok (.lload 4, 2) := by decide +kernel
theorem dX5_clearRing_43 : decode cX5_clearRing 43 = .ok (.lconst 0, 1) := by decide +kernel
theorem dX5_clearRing_44 : decode cX5_clearRing 44 = .ok (.lcmp, 1) := by decide +kernel
theorem dX5_clearRing_45 : decode cX5_clearRing 45 = .ok (.ifCond .gt 5, 3) := by decide +kernel
theorem dX5_clearRing_48 : decode cX5_clearRing 48 = .ok (.lconst 0, 1) := by decide +kernel
theorem dX5_clearRing_49 : decode cX5_clearRing 49 = .ok (.lreturn, 1) := by decide +kernel
theorem dX5_clearRing_50 : decode cX5_clearRing 50 = .ok (.aload_n 0, 1) := by decide +kernel
theorem dX5_clearRing_51 : decode cX5_clearRing 51 = .ok (.getfield 33, 3) := by decide +kernel
theorem dX5_clearRing_54 : decode cX5_clearRing 54 = .ok (.iload_n 1, 1) := by decide +kernel
theorem dX5_clearRing_55 : decode cX5_clearRing 55 = .ok (.iload_n 2, 1) := by decide +kernel
theorem dX5_clearRing_56 : decode cX5_clearRing 56 = .ok (.lload 4, 2) := by decide +kernel
theorem dX5_clearRing_58 : decode cX5_clearRing 58 = .ok (.lneg, 1) := by decide +kernel
theorem dX5_clearRing_59 : decode cX5_clearRing 59 = .ok (.invokevirtual 175, 3) := by decide +kernel
theorem dX5_clearRing_62 : decode cX5_clearRing 62 = .ok (.aload_n 0, 1) := by decide +kernel
theorem dX5_clearRing_63 : decode cX5_clearRing 63 = .ok (.getfield 33, 3) := by decide +kernel
theorem dX5_clearRing_66 : decode cX5_clearRing 66 = .ok (.iload_n 2, 1) := by decide +kernel
theorem dX5_clearRing_67 : decode cX5_clearRing 67 = .ok (.iload_n 3, 1) := by decide +kernel
theorem dX5_clearRing_68 : decode cX5_clearRing 68 = .ok (.lload 4, 2) := by decide +kernel
theorem dX5_clearRing_70 : decode cX5_clearRing 70 = .ok (.lneg, 1) := by decide +kernel
theorem dX5_clearRing_71 : decode cX5_clearRing 71 = .ok (.invokevirtual 175, 3) := by decide +kernel
theorem dX5_clearRing_74 : decode cX5_clearRing 74 = .ok (.aload_n 0, 1) := by decide +kernel
theorem dX5_clearRing_75 : decode cX5_clearRing 75 = .ok (.getfield 33, 3) := by decide +kernel
theorem dX5_clearRing_78 : decode cX5_clearRing 78 = .ok (.iload_n 3, 1) := by decide +kernel
theorem dX5_clearRing_79 : decode cX5_clearRing 79 = .ok (.iload_n 1, 1) := by decide +kernel
theorem dX5_clearRing_80 : decode cX5_clearRing 80 = .ok (.lload 4, 2) := by decide +kernel
theorem dX5_clearRing_82 : decode cX5_clearRing 82 = .ok (.lneg, 1) := by decide +kernel
theorem dX5_clearRing_83 : decode cX5_clearRing 83 = .ok (.invokevirtual 175, 3) := by decide +kernel
theorem dX5_clearRing_86 : decode cX5_clearRing 86 = .ok (.lload 4, 2) := by decide +kernel
theorem dX5_clearRing_88 : decode cX5_clearRing 88 = .ok (.lreturn, 1) := by decide +kernel
theorem dX5_worthOf_0 : decode cX5_worthOf 0 = .ok (.aload_n 0, 1) := by decide +kernel
theorem dX5_worthOf_1 : decode cX5_worthOf 1 = .ok (.getfield 11, 3) := by decide +kernel
theorem dX5_worthOf_4 : decode cX5_worthOf 4 = .ok (.iload_n 1, 1) := by decide +kernel
theorem dX5_worthOf_5 : decode cX5_worthOf 5 = .ok (.aaload, 1) := by decide +kernel
theorem dX5_worthOf_6 : decode cX5_worthOf 6 = .ok (.getfield 77, 3) := by decide +kernel
theorem dX5_worthOf_9 : decode cX5_worthOf 9 = .ok (.lstore_n 2, 1) := by decide +kernel
theorem dX5_worthOf_10 : decode cX5_worthOf 10 = .ok (.iconst 0, 1) := by decide +kernel
theorem dX5_worthOf_11 : decode cX5_worthOf 11 = .ok (.istore 4, 2) := by decide +kernel
theorem dX5_worthOf_13 : decode cX5_worthOf 13 = .ok (.iload 4, 2) := by decide +kernel
theorem dX5_worthOf_15 : decode cX5_worthOf 15 = .ok (.aload_n 0, 1) := by decide +kernel
theorem dX5_worthOf_16 : decode cX5_worthOf 16 = .ok (.getfield 66, 3) := by decide +kernel
theorem dX5_worthOf_19 : decode cX5_worthOf 19 = .ok (.if_icmp .ge 24, 3) := by decide +kernel
theorem dX5_worthOf_22 : decode cX5_worthOf 22 = .ok (.lload_n 2, 1) := by decide +kernel
theorem dX5_worthOf_23 : decode cX5_worthOf 23 = .ok (.aload_n 0, 1) := by decide +kernel
theorem dX5_worthOf_24 : decode cX5_worthOf 24 = .ok (.getfield 33, 3) := by decide +kernel
theorem dX5_worthOf_27 : decode cX5_worthOf 27 = .ok (.getfield 171, 3) := by decide +kernel
theorem dX5_worthOf_30 : decode cX5_worthOf 30 = .ok (.iload_n 1, 1) := by decide +kernel
theorem dX5_worthOf_31 : decode cX5_worthOf 31 = .ok (.aaload, 1) := by decide +kernel
theorem dX5_worthOf_32 : decode cX5_worthOf 32 = .ok (.iload 4, 2) := by decide +kernel
theorem dX5_worthOf_34 : decode cX5_worthOf 34 = .ok (.laload, 1) := by decide +kernel
theorem dX5_worthOf_35 : decode cX5_worthOf 35 = .ok (.lsub, 1) := by decide +kernel
theorem dX5_worthOf_36 : decode cX5_worthOf 36 = .ok (.lstore_n 2, 1) := by decide +kernel
theorem dX5_worthOf_37 : decode cX5_worthOf 37 = .ok (.iinc 4 1, 3) := by decide +kernel
theorem dX5_worthOf_40 : decode cX5_worthOf 40 = .ok (.goto (-27), 3) := by decide +kernel
theorem dX5_worthOf_43 : decode cX5_worthOf 43 = .ok (.lload_n 2, 1) := by decide +kernel
theorem dX5_worthOf_44 : decode cX5_worthOf 44 = .ok (.lreturn, 1) := by decide +kernel
theorem dX5_namedByBook_0 : decode cX5_namedByBook 0 = .ok (.iconst 0, 1) := by decide +kernel
theorem dX5_namedByBook_1 : decode cX5_namedByBook 1 = .ok (.istore_n 2, 1) := by decide +kernel
theorem dX5_namedByBook_2 : decode cX5_namedByBook 2 = .ok (.iconst 0, 1) := by decide +kernel
theorem dX5_namedByBook_3 : decode cX5_namedByBook 3 = .ok (.istore_n 3, 1) := by decide +kernel
theorem dX5_namedByBook_4 : decode cX5_namedByBook 4 = .ok (.iload_n 3, 1) := by decide +kernel
theorem dX5_namedByBook_5 : decode cX5_namedByBook 5 = .ok (.aload_n 0, 1) := by decide +kernel
theorem dX5_namedByBook_6 : decode cX5_namedByBook 6 = .ok (.getfield 66, 3) := by decide +kernel
theorem dX5_namedByBook_9 : decode cX5_namedByBook 9 = .ok (.if_icmp .ge 31, 3) := by decide +kernel
theorem dX5_namedByBook_12 : decode cX5_namedByBook 12 = .ok (.aload_n 0, 1) := by decide +kernel
theorem dX5_namedByBook_13 : decode cX5_namedByBook 13 = .ok (.getfield 33, 3) := by decide +kernel
theorem dX5_namedByBook_16 : decode cX5_namedByBook 16 = .ok (.getfield 206, 3) := by decide +kernel
theorem dX5_namedByBook_19 : decode cX5_namedByBook 19 = .ok (.iload_n 1, 1) := by decide +kernel
theorem dX5_namedByBook_20 : decode cX5_namedByBook 20 = .ok (.aaload, 1) := by decide +kernel
theorem dX5_namedByBook_21 : decode cX5_namedByBook 21 = .ok (.iload_n 3, 1) := by decide +kernel
theorem dX5_namedByBook_22 : decode cX5_namedByBook 22 = .ok (.laload, 1) := by decide +kernel
theorem dX5_namedByBook_23 : decode cX5_namedByBook 23 = .ok (.lconst 0, 1) := by decide +kernel
theorem dX5_namedByBook_24 : decode cX5_namedByBook 24 = .ok (.lcmp, 1) := by decide +kernel
theorem dX5_namedByBook_25 : decode cX5_namedByBook 25 = .ok (.ifCond .eq 9, 3) := by decide +kernel
theorem dX5_namedByBook_28 : decode cX5_namedByBook 28 = .ok (.iload_n 2, 1) := by decide +kernel
theorem dX5_namedByBook_29 : decode cX5_namedByBook 29 = .ok (.iconst 1, 1) := by decide +kernel
theorem dX5_namedByBook_30 : decode cX5_namedByBook 30 = .ok (.iload_n 3, 1) := by decide +kernel
theorem dX5_namedByBook_31 : decode cX5_namedByBook 31 = .ok (.ishl, 1) := by decide +kernel
theorem dX5_namedByBook_32 : decode cX5_namedByBook 32 = .ok (.ior, 1) := by decide +kernel
theorem dX5_namedByBook_33 : decode cX5_namedByBook 33 = .ok (.istore_n 2, 1) := by decide +kernel
theorem dX5_namedByBook_34 : decode cX5_namedByBook 34 = .ok (.iinc 3 1, 3) := by decide +kernel
theorem dX5_namedByBook_37 : decode cX5_namedByBook 37 = .ok (.goto (-33), 3) := by decide +kernel
theorem dX5_namedByBook_40 : decode cX5_namedByBook 40 = .ok (.iload_n 2, 1) := by decide +kernel
theorem dX5_namedByBook_41 : decode cX5_namedByBook 41 = .ok (.ireturn, 1) := by decide +kernel
theorem dX5_sumGiven_0 : decode cX5_sumGiven 0 = .ok (.lconst 0, 1) := by decide +kernel
theorem dX5_sumGiven_1 : decode cX5_sumGiven 1 = .ok (.lstore_n 1, 1) := by decide +kernel
theorem dX5_sumGiven_2 : decode cX5_sumGiven 2 = .ok (.iconst 0, 1) := by decide +kernel
theorem dX5_sumGiven_3 : decode cX5_sumGiven 3 = .ok (.istore_n 3, 1) := by decide +kernel
theorem dX5_sumGiven_4 : decode cX5_sumGiven 4 = .ok (.iload_n 3, 1) := by decide +kernel
theorem dX5_sumGiven_5 : decode cX5_sumGiven 5 = .ok (.aload_n 0, 1) := by decide +kernel
theorem dX5_sumGiven_6 : decode cX5_sumGiven 6 = .ok (.getfield 124, 3) := by decide +kernel
theorem dX5_sumGiven_9 : decode cX5_sumGiven 9 = .ok (.if_icmp .ge 22, 3) := by decide +kernel
theorem dX5_sumGiven_12 : decode cX5_sumGiven 12 = .ok (.lload_n 1, 1) := by decide +kernel
theorem dX5_sumGiven_13 : decode cX5_sumGiven 13 = .ok (.aload_n 0, 1) := by decide +kernel
theorem dX5_sumGiven_14 : decode cX5_sumGiven 14 = .ok (.getfield 18, 3) := by decide +kernel
theorem dX5_sumGiven_17 : decode cX5_sumGiven 17 = .ok (.iload_n 3, 1) := by decide +kernel
theorem dX5_sumGiven_18 : decode cX5_sumGiven 18 = .ok (.aaload, 1) := by decide +kernel
theorem dX5_sumGiven_19 : decode cX5_sumGiven 19 = .ok (.getfield 145, 3) := by decide +kernel
theorem dX5_sumGiven_22 : decode cX5_sumGiven 22 = .ok (.i2l, 1) := by decide +kernel
theorem dX5_sumGiven_23 : decode cX5_sumGiven 23 = .ok (.ladd, 1) := by decide +kernel
theorem dX5_sumGiven_24 : decode cX5_sumGiven 24 = .ok (.lstore_n 1, 1) := by decide +kernel
theorem dX5_sumGiven_25 : decode cX5_sumGiven 25 = .ok (.iinc 3 1, 3) := by decide +kernel
theorem dX5_sumGiven_28 : decode cX5_sumGiven 28 = .ok (.goto (-24), 3) := by decide +kernel
theorem dX5_sumGiven_31 : decode cX5_sumGiven 31 = .ok (.lload_n 1, 1) := by decide +kernel
theorem dX5_sumGiven_32 : decode cX5_sumGiven 32 = .ok (.lreturn, 1) := by decide +kernel
theorem dX5_sumGivenIn_0 : decode cX5_sumGivenIn 0 = .ok (.lconst 0, 1) := by decide +kernel
theorem dX5_sumGivenIn_1 : decode cX5_sumGivenIn 1 = .ok (.lstore_n 2, 1) := by decide +kernel
theorem dX5_sumGivenIn_2 : decode cX5_sumGivenIn 2 = .ok (.iconst 0, 1) := by decide +kernel
theorem dX5_sumGivenIn_3 : decode cX5_sumGivenIn 3 = .ok (.istore 4, 2) := by decide +kernel
theorem dX5_sumGivenIn_5 : decode cX5_sumGivenIn 5 = .ok (.iload 4, 2) := by decide +kernel
theorem dX5_sumGivenIn_7 : decode cX5_sumGivenIn 7 = .ok (.aload_n 0, 1) := by decide +kernel
theorem dX5_sumGivenIn_8 : decode cX5_sumGivenIn 8 = .ok (.getfield 124, 3) := by decide +kernel
theorem dX5_sumGivenIn_11 : decode cX5_sumGivenIn 11 = .ok (.if_icmp .ge 37, 3) := by decide +kernel
theorem dX5_sumGivenIn_14 : decode cX5_sumGivenIn 14 = .ok (.aload_n 0, 1) := by decide +kernel
theorem dX5_sumGivenIn_15 : decode cX5_sumGivenIn 15 = .ok (.getfield 18, 3) := by decide +kernel
theorem dX5_sumGivenIn_18 : decode cX5_sumGivenIn 18 = .ok (.iload 4, 2) := by decide +kernel
theorem dX5_sumGivenIn_20 : decode cX5_sumGivenIn 20 = .ok (.aaload, 1) := by decide +kernel
theorem dX5_sumGivenIn_21 : decode cX5_sumGivenIn 21 = .ok (.getfield 140, 3) := by decide +kernel
theorem dX5_sumGivenIn_24 : decode cX5_sumGivenIn 24 = .ok (.iload_n 1, 1) := by decide +kernel
theorem dX5_sumGivenIn_25 : decode cX5_sumGivenIn 25 = .ok (.if_icmp .ne 17, 3) := by decide +kernel
theorem dX5_sumGivenIn_28 : decode cX5_sumGivenIn 28 = .ok (.lload_n 2, 1) := by decide +kernel
theorem dX5_sumGivenIn_29 : decode cX5_sumGivenIn 29 = .ok (.aload_n 0, 1) := by decide +kernel
theorem dX5_sumGivenIn_30 : decode cX5_sumGivenIn 30 = .ok (.getfield 18, 3) := by decide +kernel
theorem dX5_sumGivenIn_33 : decode cX5_sumGivenIn 33 = .ok (.iload 4, 2) := by decide +kernel
theorem dX5_sumGivenIn_35 : decode cX5_sumGivenIn 35 = .ok (.aaload, 1) := by decide +kernel
theorem dX5_sumGivenIn_36 : decode cX5_sumGivenIn 36 = .ok (.getfield 145, 3) := by decide +kernel
theorem dX5_sumGivenIn_39 : decode cX5_sumGivenIn 39 = .ok (.i2l, 1) := by decide +kernel
theorem dX5_sumGivenIn_40 : decode cX5_sumGivenIn 40 = .ok (.ladd, 1) := by decide +kernel
theorem dX5_sumGivenIn_41 : decode cX5_sumGivenIn 41 = .ok (.lstore_n 2, 1) := by decide +kernel
theorem dX5_sumGivenIn_42 : decode cX5_sumGivenIn 42 = .ok (.iinc 4 1, 3) := by decide +kernel
theorem dX5_sumGivenIn_45 : decode cX5_sumGivenIn 45 = .ok (.goto (-40), 3) := by decide +kernel
theorem dX5_sumGivenIn_48 : decode cX5_sumGivenIn 48 = .ok (.lload_n 2, 1) := by decide +kernel
theorem dX5_sumGivenIn_49 : decode cX5_sumGivenIn 49 = .ok (.lreturn, 1) := by decide +kernel
theorem dX5_sumPaidOut_0 : decode cX5_sumPaidOut 0 = .ok (.lconst 0, 1) := by decide +kernel
theorem dX5_sumPaidOut_1 : decode cX5_sumPaidOut 1 = .ok (.lstore_n 1, 1) := by decide +kernel
theorem dX5_sumPaidOut_2 : decode cX5_sumPaidOut 2 = .ok (.iconst 0, 1) := by decide +kernel
theorem dX5_sumPaidOut_3 : decode cX5_sumPaidOut 3 = .ok (.istore_n 3, 1) := by decide +kernel
theorem dX5_sumPaidOut_4 : decode cX5_sumPaidOut 4 = .ok (.iload_n 3, 1) := by decide +kernel
theorem dX5_sumPaidOut_5 : decode cX5_sumPaidOut 5 = .ok (.aload_n 0, 1) := by decide +kernel
theorem dX5_sumPaidOut_6 : decode cX5_sumPaidOut 6 = .ok (.getfield 124, 3) := by decide +kernel
theorem dX5_sumPaidOut_9 : decode cX5_sumPaidOut 9 = .ok (.if_icmp .ge 35, 3) := by decide +kernel
theorem dX5_sumPaidOut_12 : decode cX5_sumPaidOut 12 = .ok (.aload_n 0, 1) := by decide +kernel
theorem dX5_sumPaidOut_13 : decode cX5_sumPaidOut 13 = .ok (.getfield 18, 3) := by decide +kernel
theorem dX5_sumPaidOut_16 : decode cX5_sumPaidOut 16 = .ok (.iload_n 3, 1) := by decide +kernel
theorem dX5_sumPaidOut_17 : decode cX5_sumPaidOut 17 = .ok (.aaload, 1) := by decide +kernel
theorem dX5_sumPaidOut_18 : decode cX5_sumPaidOut 18 = .ok (.getfield 140, 3) := by decide +kernel
theorem dX5_sumPaidOut_21 : decode cX5_sumPaidOut 21 = .ok (.iconst 2, 1) := by decide +kernel
theorem dX5_sumPaidOut_22 : decode cX5_sumPaidOut 22 = .ok (.if_icmp .ne 16, 3) := by decide +kernel
theorem dX5_sumPaidOut_25 : decode cX5_sumPaidOut 25 = .ok (.lload_n 1, 1) := by decide +kernel
theorem dX5_sumPaidOut_26 : decode cX5_sumPaidOut 26 = .ok (.aload_n 0, 1) := by decide +kernel
theorem dX5_sumPaidOut_27 : decode cX5_sumPaidOut 27 = .ok (.getfield 18, 3) := by decide +kernel
theorem dX5_sumPaidOut_30 : decode cX5_sumPaidOut 30 = .ok (.iload_n 3, 1) := by decide +kernel
theorem dX5_sumPaidOut_31 : decode cX5_sumPaidOut 31 = .ok (.aaload, 1) := by decide +kernel
theorem dX5_sumPaidOut_32 : decode cX5_sumPaidOut 32 = .ok (.getfield 131, 3) := by decide +kernel
theorem dX5_sumPaidOut_35 : decode cX5_sumPaidOut 35 = .ok (.i2l, 1) := by decide +kernel
theorem dX5_sumPaidOut_36 : decode cX5_sumPaidOut 36 = .ok (.ladd, 1) := by decide +kernel
theorem dX5_sumPaidOut_37 : decode cX5_sumPaidOut 37 = .ok (.lstore_n 1, 1) := by decide +kernel
theorem dX5_sumPaidOut_38 : decode cX5_sumPaidOut 38 = .ok (.iinc 3 1, 3) := by decide +kernel
theorem dX5_sumPaidOut_41 : decode cX5_sumPaidOut 41 = .ok (.goto (-37), 3) := by decide +kernel
theorem dX5_sumPaidOut_44 : decode cX5_sumPaidOut 44 = .ok (.lload_n 1, 1) := by decide +kernel
theorem dX5_sumPaidOut_45 : decode cX5_sumPaidOut 45 = .ok (.lreturn, 1) := by decide +kernel
theorem dX5_sumRobbed_0 : decode cX5_sumRobbed 0 = .ok (.lconst 0, 1) := by decide +kernel
theorem dX5_sumRobbed_1 : decode cX5_sumRobbed 1 = .ok (.lstore_n 1, 1) := by decide +kernel
theorem dX5_sumRobbed_2 : decode cX5_sumRobbed 2 = .ok (.iconst 0, 1) := by decide +kernel
theorem dX5_sumRobbed_3 : decode cX5_sumRobbed 3 = .ok (.istore_n 3, 1) := by decide +kernel
theorem dX5_sumRobbed_4 : decode cX5_sumRobbed 4 = .ok (.iload_n 3, 1) := by decide +kernel
theorem dX5_sumRobbed_5 : decode cX5_sumRobbed 5 = .ok (.aload_n 0, 1) := by decide +kernel
theorem dX5_sumRobbed_6 : decode cX5_sumRobbed 6 = .ok (.getfield 179, 3) := by decide +kernel
theorem dX5_sumRobbed_9 : decode cX5_sumRobbed 9 = .ok (.if_icmp .ge 34, 3) := by decide +kernel
theorem dX5_sumRobbed_12 : decode cX5_sumRobbed 12 = .ok (.aload_n 0, 1) := by decide +kernel
theorem dX5_sumRobbed_13 : decode cX5_sumRobbed 13 = .ok (.getfield 25, 3) := by decide +kernel
theorem dX5_sumRobbed_16 : decode cX5_sumRobbed 16 = .ok (.iload_n 3, 1) := by decide +kernel
theorem dX5_sumRobbed_17 : decode cX5_sumRobbed 17 = .ok (.aaload, 1) := by decide +kernel
theorem dX5_sumRobbed_18 : decode cX5_sumRobbed 18 = .ok (.getfield 195, 3) := by decide +kernel
theorem dX5_sumRobbed_21 : decode cX5_sumRobbed 21 = .ok (.ifCond .eq 16, 3) := by decide +kernel
theorem dX5_sumRobbed_24 : decode cX5_sumRobbed 24 = .ok (.lload_n 1, 1) := by decide +kernel
theorem dX5_sumRobbed_25 : decode cX5_sumRobbed 25 = .ok (.aload_n 0, 1) := by decide +kernel
theorem dX5_sumRobbed_26 : decode cX5_sumRobbed 26 = .ok (.getfield 25, 3) := by decide +kernel
theorem dX5_sumRobbed_29 : decode cX5_sumRobbed 29 = .ok (.iload_n 3, 1) := by decide +kernel
theorem dX5_sumRobbed_30 : decode cX5_sumRobbed 30 = .ok (.aaload, 1) := by decide +kernel
theorem dX5_sumRobbed_31 : decode cX5_sumRobbed 31 = .ok (.getfield 188, 3) := by decide +kernel
theorem dX5_sumRobbed_34 : decode cX5_sumRobbed 34 = .ok (.i2l, 1) := by decide +kernel
theorem dX5_sumRobbed_35 : decode cX5_sumRobbed 35 = .ok (.ladd, 1) := by decide +kernel
theorem dX5_sumRobbed_36 : decode cX5_sumRobbed 36 = .ok (.lstore_n 1, 1) := by decide +kernel
theorem dX5_sumRobbed_37 : decode cX5_sumRobbed 37 = .ok (.iinc 3 1, 3) := by decide +kernel
theorem dX5_sumRobbed_40 : decode cX5_sumRobbed 40 = .ok (.goto (-36), 3) := by decide +kernel
theorem dX5_sumRobbed_43 : decode cX5_sumRobbed 43 = .ok (.lload_n 1, 1) := by decide +kernel
theorem dX5_sumRobbed_44 : decode cX5_sumRobbed 44 = .ok (.lreturn, 1) := by decide +kernel
theorem dX5_sumOnRoad_0 : decode cX5_sumOnRoad 0 = .ok (.lconst 0, 1) := by decide +kernel
theorem dX5_sumOnRoad_1 : decode cX5_sumOnRoad 1 = .ok (.lstore_n 1, 1) := by decide +kernel
theorem dX5_sumOnRoad_2 : decode cX5_sumOnRoad 2 = .ok (.iconst 0, 1) := by decide +kernel
theorem dX5_sumOnRoad_3 : decode cX5_sumOnRoad 3 = .ok (.istore_n 3, 1) := by decide +kernel
theorem dX5_sumOnRoad_4 : decode cX5_sumOnRoad 4 = .ok (.iload_n 3, 1) := by decide +kernel
theorem dX5_sumOnRoad_5 : decode cX5_sumOnRoad 5 = .ok (.aload_n 0, 1) := by decide +kernel
theorem dX5_sumOnRoad_6 : decode cX5_sumOnRoad 6 = .ok (.getfield 179, 3) := by decide +kernel
theorem dX5_sumOnRoad_9 : decode cX5_sumOnRoad 9 = .ok (.if_icmp .ge 34, 3) := by decide +kernel
theorem dX5_sumOnRoad_12 : decode cX5_sumOnRoad 12 = .ok (.aload_n 0, 1) := by decide +kernel
theorem dX5_sumOnRoad_13 : decode cX5_sumOnRoad 13 = .ok (.getfield 25, 3) := by decide +kernel
theorem dX5_sumOnRoad_16 : decode cX5_sumOnRoad 16 = .ok (.iload_n 3, 1) := by decide +kernel
theorem dX5_sumOnRoad_17 : decode cX5_sumOnRoad 17 = .ok (.aaload, 1) := by decide +kernel
theorem dX5_sumOnRoad_18 : decode cX5_sumOnRoad 18 = .ok (.getfield 192, 3) := by decide +kernel
theorem dX5_sumOnRoad_21 : decode cX5_sumOnRoad 21 = .ok (.ifCond .eq 16, 3) := by decide +kernel
theorem dX5_sumOnRoad_24 : decode cX5_sumOnRoad 24 = .ok (.lload_n 1, 1) := by decide +kernel
theorem dX5_sumOnRoad_25 : decode cX5_sumOnRoad 25 = .ok (.aload_n 0, 1) := by decide +kernel
theorem dX5_sumOnRoad_26 : decode cX5_sumOnRoad 26 = .ok (.getfield 25, 3) := by decide +kernel
theorem dX5_sumOnRoad_29 : decode cX5_sumOnRoad 29 = .ok (.iload_n 3, 1) := by decide +kernel
theorem dX5_sumOnRoad_30 : decode cX5_sumOnRoad 30 = .ok (.aaload, 1) := by decide +kernel
theorem dX5_sumOnRoad_31 : decode cX5_sumOnRoad 31 = .ok (.getfield 188, 3) := by decide +kernel
theorem dX5_sumOnRoad_34 : decode cX5_sumOnRoad 34 = .ok (.i2l, 1) := by decide +kernel
theorem dX5_sumOnRoad_35 : decode cX5_sumOnRoad 35 = .ok (.ladd, 1) := by decide +kernel
theorem dX5_sumOnRoad_36 : decode cX5_sumOnRoad 36 = .ok (.lstore_n 1, 1) := by decide +kernel
theorem dX5_sumOnRoad_37 : decode cX5_sumOnRoad 37 = .ok (.iinc 3 1, 3) := by decide +kernel
theorem dX5_sumOnRoad_40 : decode cX5_sumOnRoad 40 = .ok (.goto (-36), 3) := by decide +kernel
theorem dX5_sumOnRoad_43 : decode cX5_sumOnRoad 43 = .ok (.lload_n 1, 1) := by decide +kernel
theorem dX5_sumOnRoad_44 : decode cX5_sumOnRoad 44 = .ok (.lreturn, 1) := by decide +kernel
theorem dX5_sumCash_0 : decode cX5_sumCash 0 = .ok (.lconst 0, 1) := by decide +kernel
theorem dX5_sumCash_1 : decode cX5_sumCash 1 = .ok (.lstore_n 1, 1) := by decide +kernel
theorem dX5_sumCash_2 : decode cX5_sumCash 2 = .ok (.iconst 0, 1) := by decide +kernel
theorem dX5_sumCash_3 : decode cX5_sumCash 3 = .ok (.istore_n 3, 1) := by decide +kernel
theorem dX5_sumCash_4 : decode cX5_sumCash 4 = .ok (.iload_n 3, 1) := by decide +kernel
theorem dX5_sumCash_5 : decode cX5_sumCash 5 = .ok (.aload_n 0, 1) := by decide +kernel
theorem dX5_sumCash_6 : decode cX5_sumCash 6 = .ok (.getfield 66, 3) := by decide +kernel
theorem dX5_sumCash_9 : decode cX5_sumCash 9 = .ok (.if_icmp .ge 21, 3) := by decide +kernel
theorem dX5_sumCash_12 : decode cX5_sumCash 12 = .ok (.lload_n 1, 1) := by decide +kernel
theorem dX5_sumCash_13 : decode cX5_sumCash 13 = .ok (.aload_n 0, 1) := by decide +kernel
theorem dX5_sumCash_14 : decode cX5_sumCash 14 = .ok (.getfield 11, 3) := by decide +kernel
theorem dX5_sumCash_17 : decode cX5_sumCash 17 = .ok (.iload_n 3, 1) := by decide +kernel
theorem dX5_sumCash_18 : decode cX5_sumCash 18 = .ok (.aaload, 1) := by decide +kernel
theorem dX5_sumCash_19 : decode cX5_sumCash 19 = .ok (.getfield 77, 3) := by decide +kernel
theorem dX5_sumCash_22 : decode cX5_sumCash 22 = .ok (.ladd, 1) := by decide +kernel
theorem dX5_sumCash_23 : decode cX5_sumCash 23 = .ok (.lstore_n 1, 1) := by decide +kernel
theorem dX5_sumCash_24 : decode cX5_sumCash 24 = .ok (.iinc 3 1, 3) := by decide +kernel
theorem dX5_sumCash_27 : decode cX5_sumCash 27 = .ok (.goto (-23), 3) := by decide +kernel
theorem dX5_sumCash_30 : decode cX5_sumCash 30 = .ok (.lload_n 1, 1) := by decide +kernel
theorem dX5_sumCash_31 : decode cX5_sumCash 31 = .ok (.lreturn, 1) := by decide +kernel
theorem dX6_init_0 : decode cX6_init 0 = .ok (.aload_n 0, 1) := by decide +kernel
theorem dX6_init_1 : decode cX6_init 1 = .ok (.invokespecial 1, 3) := by decide +kernel
theorem dX6_init_4 : decode cX6_init 4 = .ok (.aload_n 0, 1) := by decide +kernel
theorem dX6_init_5 : decode cX6_init 5 = .ok (.bipush 12, 2) := by decide +kernel
theorem dX6_init_7 : decode cX6_init 7 = .ok (.newarray .int, 2) := by decide +kernel
theorem dX6_init_9 : decode cX6_init 9 = .ok (.putfield 7, 3) := by decide +kernel
theorem dX6_init_12 : decode cX6_init 12 = .ok (.aload_n 0, 1) := by decide +kernel
theorem dX6_init_13 : decode cX6_init 13 = .ok (.bipush 12, 2) := by decide +kernel
theorem dX6_init_15 : decode cX6_init 15 = .ok (.newarray .long, 2) := by decide +kernel
theorem dX6_init_17 : decode cX6_init 17 = .ok (.putfield 13, 3) := by decide +kernel
theorem dX6_init_20 : decode cX6_init 20 = .ok (.aload_n 0, 1) := by decide +kernel
theorem dX6_init_21 : decode cX6_init 21 = .ok (.bipush 12, 2) := by decide +kernel
theorem dX6_init_23 : decode cX6_init 23 = .ok (.newarray .int, 2) := by decide +kernel
theorem dX6_init_25 : decode cX6_init 25 = .ok (.putfield 17, 3) := by decide +kernel
theorem dX6_init_28 : decode cX6_init 28 = .ok (.aload_n 0, 1) := by decide +kernel
theorem dX6_init_29 : decode cX6_init 29 = .ok (.bipush 12, 2) := by decide +kernel
theorem dX6_init_31 : decode cX6_init 31 = .ok (.newarray .int, 2) := by decide +kernel
theorem dX6_init_33 : decode cX6_init 33 = .ok (.putfield 20, 3) := by decide +kernel
theorem dX6_init_36 : decode cX6_init 36 = .ok (.aload_n 0, 1) := by decide +kernel
theorem dX6_init_37 : decode cX6_init 37 = .ok (.bipush 12, 2) := by decide +kernel
theorem dX6_init_39 : decode cX6_init 39 = .ok (.newarray .int, 2) := by decide +kernel
theorem dX6_init_41 : decode cX6_init 41 = .ok (.putfield 23, 3) := by decide +kernel
theorem dX6_init_44 : decode cX6_init 44 = .ok (.aload_n 0, 1) := by decide +kernel
theorem dX6_init_45 : decode cX6_init 45 = .ok (.bipush 12, 2) := by decide +kernel
theorem dX6_init_47 : decode cX6_init 47 = .ok (.newarray .boolean, 2) := by decide +kernel
theorem dX6_init_49 : decode cX6_init 49 = .ok (.putfield 26, 3) := by decide +kernel
theorem dX6_init_52 : decode cX6_init 52 = .ok (.aload_n 0, 1) := by decide +kernel
theorem dX6_init_53 : decode cX6_init 53 = .ok (.sipush 144, 3) := by decide +kernel
theorem dX6_init_56 : decode cX6_init 56 = .ok (.newarray .int, 2) := by decide +kernel
theorem dX6_init_58 : decode cX6_init 58 = .ok (.putfield 30, 3) := by decide +kernel
theorem dX6_init_61 : decode cX6_init 61 = .ok (.aload_n 0, 1) := by decide +kernel
theorem dX6_init_62 : decode cX6_init 62 = .ok (.sipush 144, 3) := by decide +kernel
theorem dX6_init_65 : decode cX6_init 65 = .ok (.newarray .boolean, 2) := by decide +kernel
theorem dX6_init_67 : decode cX6_init 67 = .ok (.putfield 33, 3) := by decide +kernel
theorem dX6_init_70 : decode cX6_init 70 = .ok (.aload_n 0, 1) := by decide +kernel
theorem dX6_init_71 : decode cX6_init 71 = .ok (.sipush 144, 3) := by decide +kernel
theorem dX6_init_74 : decode cX6_init 74 = .ok (.newarray .long, 2) := by decide +kernel
theorem dX6_init_76 : decode cX6_init 76 = .ok (.putfield 36, 3) := by decide +kernel
theorem dX6_init_79 : decode cX6_init 79 = .ok (.aload_n 0, 1) := by decide +kernel
theorem dX6_init_80 : decode cX6_init 80 = .ok (.sipush 144, 3) := by decide +kernel
theorem dX6_init_83 : decode cX6_init 83 = .ok (.newarray .long, 2) := by decide +kernel
theorem dX6_init_85 : decode cX6_init 85 = .ok (.putfield 39, 3) := by decide +kernel
theorem dX6_init_88 : decode cX6_init 88 = .ok (.aload_n 0, 1) := by decide +kernel
theorem dX6_init_89 : decode cX6_init 89 = .ok (.bipush 40, 2) := by decide +kernel
theorem dX6_init_91 : decode cX6_init 91 = .ok (.newarray .int, 2) := by decide +kernel
theorem dX6_init_93 : decode cX6_init 93 = .ok (.putfield 42, 3) := by decide +kernel
theorem dX6_init_96 : decode cX6_init 96 = .ok (.aload_n 0, 1) := by decide +kernel
theorem dX6_init_97 : decode cX6_init 97 = .ok (.bipush 40, 2) := by decide +kernel
theorem dX6_init_99 : decode cX6_init 99 = .ok (.newarray .int, 2) := by decide +kernel
theorem dX6_init_101 : decode cX6_init 101 = .ok (.putfield 45, 3) := by decide +kernel
theorem dX6_init_104 : decode cX6_init 104 = .ok (.aload_n 0, 1) := by decide +kernel
theorem dX6_init_105 : decode cX6_init 105 = .ok (.bipush 40, 2) := by decide +kernel
theorem dX6_init_107 : decode cX6_init 107 = .ok (.newarray .int, 2) := by decide +kernel
theorem dX6_init_109 : decode cX6_init 109 = .ok (.putfield 48, 3) := by decide +kernel
theorem dX6_init_112 : decode cX6_init 112 = .ok (.aload_n 0, 1) := by decide +kernel
theorem dX6_init_113 : decode cX6_init 113 = .ok (.bipush 40, 2) := by decide +kernel
theorem dX6_init_115 : decode cX6_init 115 = .ok (.newarray .int, 2) := by decide +kernel
theorem dX6_init_117 : decode cX6_init 117 = .ok (.putfield 51, 3) := by decide +kernel
theorem dX6_init_120 : decode cX6_init 120 = .ok (.aload_n 0, 1) := by decide +kernel
theorem dX6_init_121 : decode cX6_init 121 = .ok (.bipush 40, 2) := by decide +kernel
theorem dX6_init_123 : decode cX6_init 123 = .ok (.newarray .int, 2) := by decide +kernel
theorem dX6_init_125 : decode cX6_init 125 = .ok (.putfield 54, 3) := by decide +kernel
theorem dX6_init_128 : decode cX6_init 128 = .ok (.aload_n 0, 1) := by decide +kernel
theorem dX6_init_129 : decode cX6_init 129 = .ok (.bipush 40, 2) := by decide +kernel
theorem dX6_init_131 : decode cX6_init 131 = .ok (.newarray .int, 2) := by decide +kernel
theorem dX6_init_133 : decode cX6_init 133 = .ok (.putfield 57, 3) := by decide +kernel
theorem dX6_init_136 : decode cX6_init 136 = .ok (.aload_n 0, 1) := by decide +kernel
theorem dX6_init_137 : decode cX6_init 137 = .ok (.bipush 40, 2) := by decide +kernel
theorem dX6_init_139 : decode cX6_init 139 = .ok (.newarray .int, 2) := by decide +kernel
theorem dX6_init_141 : decode cX6_init 141 = .ok (.putfield 60, 3) := by decide +kernel
theorem dX6_init_144 : decode cX6_init 144 = .ok (.aload_n 0, 1) := by decide +kernel
theorem dX6_init_145 : decode cX6_init 145 = .ok (.bipush 40, 2) := by decide +kernel
theorem dX6_init_147 : decode cX6_init 147 = .ok (.newarray .int, 2) := by decide +kernel
theorem dX6_init_149 : decode cX6_init 149 = .ok (.putfield 63, 3) := by decide +kernel
theorem dX6_init_152 : decode cX6_init 152 = .ok (.aload_n 0, 1) := by decide +kernel
theorem dX6_init_153 : decode cX6_init 153 = .ok (.sipush 480, 3) := by decide +kernel
theorem dX6_init_156 : decode cX6_init 156 = .ok (.newarray .int, 2) := by decide +kernel
theorem dX6_init_158 : decode cX6_init 158 = .ok (.putfield 66, 3) := by decide +kernel
theorem dX6_init_161 : decode cX6_init 161 = .ok (.aload_n 0, 1) := by decide +kernel
theorem dX6_init_162 : decode cX6_init 162 = .ok (.sipush 480, 3) := by decide +kernel
theorem dX6_init_165 : decode cX6_init 165 = .ok (.newarray .int, 2) := by decide +kernel
theorem dX6_init_167 : decode cX6_init 167 = .ok (.putfield 69, 3) := by decide +kernel
theorem dX6_init_170 : decode cX6_init 170 = .ok (.aload_n 0, 1) := by decide +kernel
theorem dX6_init_171 : decode cX6_init 171 = .ok (.bipush 41, 2) := by decide +kernel
theorem dX6_init_173 : decode cX6_init 173 = .ok (.newarray .int, 2) := by decide +kernel
theorem dX6_init_175 : decode cX6_init 175 = .ok (.putfield 72, 3) := by decide +kernel
theorem dX6_init_178 : decode cX6_init 178 = .ok (.aload_n 0, 1) := by decide +kernel
theorem dX6_init_179 : decode cX6_init 179 = .ok (.bipush 41, 2) := by decide +kernel
theorem dX6_init_181 : decode cX6_init 181 = .ok (.newarray .int, 2) := by decide +kernel
theorem dX6_init_183 : decode cX6_init 183 = .ok (.putfield 75, 3) := by decide +kernel
theorem dX6_init_186 : decode cX6_init 186 = .ok (.aload_n 0, 1) := by decide +kernel
theorem dX6_init_187 : decode cX6_init 187 = .ok (.bipush 41, 2) := by decide +kernel
theorem dX6_init_189 : decode cX6_init 189 = .ok (.newarray .int, 2) := by decide +kernel
theorem dX6_init_191 : decode cX6_init 191 = .ok (.putfield 78, 3) := by decide +kernel
theorem dX6_init_194 : decode cX6_init 194 = .ok (.aload_n 0, 1) := by decide +kernel
theorem dX6_init_195 : decode cX6_init 195 = .ok (.bipush 41, 2) := by decide +kernel
theorem dX6_init_197 : decode cX6_init 197 = .ok (.newarray .int, 2) := by decide +kernel
theorem dX6_init_199 : decode cX6_init 199 = .ok (.putfield 81, 3) := by decide +kernel
theorem dX6_init_202 : decode cX6_init 202 = .ok (.aload_n 0, 1) := by decide +kernel
theorem dX6_init_203 : decode cX6_init 203 = .ok (.bipush 41, 2) := by decide +kernel
theorem dX6_init_205 : decode cX6_init 205 = .ok (.newarray .boolean, 2) := by decide +kernel
theorem dX6_init_207 : decode cX6_init 207 = .ok (.putfield 84, 3) := by decide +kernel
theorem dX6_init_210 : decode cX6_init 210 = .ok (.aload_n 0, 1) := by decide +kernel
theorem dX6_init_211 : decode cX6_init 211 = .ok (.bipush 8, 2) := by decide +kernel
theorem dX6_init_213 : decode cX6_init 213 = .ok (.newarray .int, 2) := by decide +kernel
theorem dX6_init_215 : decode cX6_init 215 = .ok (.dup, 1) := by decide +kernel
theorem dX6_init_216 : decode cX6_init 216 = .ok (.iconst 0, 1) := by decide +kernel
theorem dX6_init_217 : decode cX6_init 217 = .ok (.ldc 87, 2) := by decide +kernel
theorem dX6_init_219 : decode cX6_init 219 = .ok (.iastore, 1) := by decide +kernel
theorem dX6_init_220 : decode cX6_init 220 = .ok (.dup, 1) := by decide +kernel
theorem dX6_init_221 : decode cX6_init 221 = .ok (.iconst 1, 1) := by decide +kernel
theorem dX6_init_222 : decode cX6_init 222 = .ok (.ldc 87, 2) := by decide +kernel
theorem dX6_init_224 : decode cX6_init 224 = .ok (.iastore, 1) := by decide +kernel
theorem dX6_init_225 : decode cX6_init 225 = .ok (.dup, 1) := by decide +kernel
theorem dX6_init_226 : decode cX6_init 226 = .ok (.iconst 2, 1) := by decide +kernel
theorem dX6_init_227 : decode cX6_init 227 = .ok (.ldc 87, 2) := by decide +kernel
theorem dX6_init_229 : decode cX6_init 229 = .ok (.iastore, 1) := by decide +kernel
theorem dX6_init_230 : decode cX6_init 230 = .ok (.dup, 1) := by decide +kernel
theorem dX6_init_231 : decode cX6_init 231 = .ok (.iconst 3, 1) := by decide +kernel
theorem dX6_init_232 : decode cX6_init 232 = .ok (.ldc 87, 2) := by decide +kernel
theorem dX6_init_234 : decode cX6_init 234 = .ok (.iastore, 1) := by decide +kernel
theorem dX6_init_235 : decode cX6_init 235 = .ok (.dup, 1) := by decide +kernel
theorem dX6_init_236 : decode cX6_init 236 = .ok (.iconst 4, 1) := by decide +kernel
theorem dX6_init_237 : decode cX6_init 237 = .ok (.ldc 87, 2) := by decide +kernel
theorem dX6_init_239 : decode cX6_init 239 = .ok (.iastore, 1) := by decide +kernel
theorem dX6_init_240 : decode cX6_init 240 = .ok (.dup, 1) := by decide +kernel
theorem dX6_init_241 : decode cX6_init 241 = .ok (.iconst 5, 1) := by decide +kernel
theorem dX6_init_242 : decode cX6_init 242 = .ok (.ldc 87, 2) := by decide +kernel
theorem dX6_init_244 : decode cX6_init 244 = .ok (.iastore, 1) := by decide +kernel
theorem dX6_init_245 : decode cX6_init 245 = .ok (.dup, 1) := by decide +kernel
theorem dX6_init_246 : decode cX6_init 246 = .ok (.bipush 6, 2) := by decide +kernel
theorem dX6_init_248 : decode cX6_init 248 = .ok (.ldc 87, 2) := by decide +kernel
theorem dX6_init_250 : decode cX6_init 250 = .ok (.iastore, 1) := by decide +kernel
theorem dX6_init_251 : decode cX6_init 251 = .ok (.dup, 1) := by decide +kernel
theorem dX6_init_252 : decode cX6_init 252 = .ok (.bipush 7, 2) := by decide +kernel
theorem dX6_init_254 : decode cX6_init 254 = .ok (.ldc 87, 2) := by decide +kernel
theorem dX6_init_256 : decode cX6_init 256 = .ok (.iastore, 1) := by decide +kernel
theorem dX6_init_257 : decode cX6_init 257 = .ok (.putfield 88, 3) := by decide +kernel
theorem dX6_init_260 : decode cX6_init 260 = .ok (.aload_n 0, 1) := by decide +kernel
theorem dX6_init_261 : decode cX6_init 261 = .ok (.bipush 8, 2) := by decide +kernel
theorem dX6_init_263 : decode cX6_init 263 = .ok (.newarray .int, 2) := by decide +kernel
theorem dX6_init_265 : decode cX6_init 265 = .ok (.putfield 91, 3) := by decide +kernel
theorem dX6_init_268 : decode cX6_init 268 = .ok (.aload_n 0, 1) := by decide +kernel
theorem dX6_init_269 : decode cX6_init 269 = .ok (.bipush 20, 2) := by decide +kernel
theorem dX6_init_271 : decode cX6_init 271 = .ok (.newarray .boolean, 2) := by decide +kernel
theorem dX6_init_273 : decode cX6_init 273 = .ok (.putfield 94, 3) := by decide +kernel
theorem dX6_init_276 : decode cX6_init 276 = .ok (.aload_n 0, 1) := by decide +kernel
theorem dX6_init_277 : decode cX6_init 277 = .ok (.iconst 5, 1) := by decide +kernel
theorem dX6_init_278 : decode cX6_init 278 = .ok (.newarray .long, 2) := by decide +kernel
theorem dX6_init_280 : decode cX6_init 280 = .ok (.putfield 97, 3) := by decide +kernel
theorem dX6_init_283 : decode cX6_init 283 = .ok (.aload_n 0, 1) := by decide +kernel
theorem dX6_init_284 : decode cX6_init 284 = .ok (.bipush 12, 2) := by decide +kernel
theorem dX6_init_286 : decode cX6_init 286 = .ok (.newarray .long, 2) := by decide +kernel
theorem dX6_init_288 : decode cX6_init 288 = .ok (.putfield 100, 3) := by decide +kernel
theorem dX6_init_291 : decode cX6_init 291 = .ok (.aload_n 0, 1) := by decide +kernel
theorem dX6_init_292 : decode cX6_init 292 = .ok (.bipush 12, 2) := by decide +kernel
theorem dX6_init_294 : decode cX6_init 294 = .ok (.newarray .int, 2) := by decide +kernel
theorem dX6_init_296 : decode cX6_init 296 = .ok (.putfield 103, 3) := by decide +kernel
theorem dX6_init_299 : decode cX6_init 299 = .ok (.aload_n 0, 1) := by decide +kernel
theorem dX6_init_300 : decode cX6_init 300 = .ok (.bipush 12, 2) := by decide +kernel
theorem dX6_init_302 : decode cX6_init 302 = .ok (.newarray .int, 2) := by decide +kernel
theorem dX6_init_304 : decode cX6_init 304 = .ok (.putfield 106, 3) := by decide +kernel
theorem dX6_init_307 : decode cX6_init 307 = .ok (.return_, 1) := by decide +kernel
theorem dX6_thrown_0 : decode cX6_thrown 0 = .ok (.aload_n 0, 1) := by decide +kernel
theorem dX6_thrown_1 : decode cX6_thrown 1 = .ok (.getfield 109, 3) := by decide +kernel
theorem dX6_thrown_4 : decode cX6_thrown 4 = .ok (.ireturn, 1) := by decide +kernel
theorem dX6_goesWell_0 : decode cX6_goesWell 0 = .ok (.aload_n 0, 1) := by decide +kernel
theorem dX6_goesWell_1 : decode cX6_goesWell 1 = .ok (.iload_n 1, 1) := by decide +kernel
theorem dX6_goesWell_2 : decode cX6_goesWell 2 = .ok (.putfield 109, 3) := by decide +kernel
theorem dX6_goesWell_5 : decode cX6_goesWell 5 = .ok (.iload_n 1, 1) := by decide +kernel
theorem dX6_goesWell_6 : decode cX6_goesWell 6 = .ok (.ifCond .ne 7, 3) := by decide +kernel
theorem dX6_goesWell_9 : decode cX6_goesWell 9 = .ok (.iconst 1, 1) := by decide +kernel
theorem dX6_goesWell_10 : decode cX6_goesWell 10 = .ok (.goto 4, 3) := by decide +kernel
theorem dX6_goesWell_13 : decode cX6_goesWell 13 = .ok (.iconst 0, 1) := by decide +kernel
theorem dX6_goesWell_14 : decode cX6_goesWell 14 = .ok (.ireturn, 1) := by decide +kernel
theorem dX6_in_0 : decode cX6_in 0 = .ok (.iload_n 0, 1) := by decide +kernel
theorem dX6_in_1 : decode cX6_in 1 = .ok (.iload_n 1, 1) := by decide +kernel
theorem dX6_in_2 : decode cX6_in 2 = .ok (.if_icmp .lt 12, 3) := by decide +kernel
theorem dX6_in_5 : decode cX6_in 5 = .ok (.iload_n 0, 1) := by decide +kernel
theorem dX6_in_6 : decode cX6_in 6 = .ok (.iload_n 2, 1) := by decide +kernel
theorem dX6_in_7 : decode cX6_in 7 = .ok (.if_icmp .gt 7, 3) := by decide +kernel
theorem dX6_in_10 : decode cX6_in 10 = .ok (.iconst 1, 1) := by decide +kernel
theorem dX6_in_11 : decode cX6_in 11 = .ok (.goto 4, 3) := by decide +kernel
theorem dX6_in_14 : decode cX6_in 14 = .ok (.iconst 0, 1) := by decide +kernel
theorem dX6_in_15 : decode cX6_in 15 = .ok (.ireturn, 1) := by decide +kernel
theorem dX6_isBroker_0 : decode cX6_isBroker 0 = .ok (.iload_n 1, 1) := by decide +kernel
theorem dX6_isBroker_1 : decode cX6_isBroker 1 = .ok (.iconst 0, 1) := by decide +kernel
theorem dX6_isBroker_2 : decode cX6_isBroker 2 = .ok (.aload_n 0, 1) := by decide +kernel
theorem dX6_isBroker_3 : decode cX6_isBroker 3 = .ok (.getfield 113, 3) := by decide +kernel
theorem dX6_isBroker_6 : decode cX6_isBroker 6 = .ok (.iconst 1, 1) := by decide +kernel
theorem dX6_isBroker_7 : decode cX6_isBroker 7 = .ok (.isub, 1) := by decide +kernel
theorem dX6_isBroker_8 : decode cX6_isBroker 8 = .ok (.invokestatic 116, 3) := by decide +kernel
theorem dX6_isBroker_11 : decode cX6_isBroker 11 = .ok (.ireturn, 1) := by decide +kernel
theorem dX6_areBrokers_0 : decode cX6_areBrokers 0 = .ok (.aload_n 0, 1) := by decide +kernel
theorem dX6_areBrokers_1 : decode cX6_areBrokers 1 = .ok (.iload_n 1, 1) := by decide +kernel
theorem dX6_areBrokers_2 : decode cX6_areBrokers 2 = .ok (.invokevirtual 120, 3) := by decide +kernel
theorem dX6_areBrokers_5 : decode cX6_areBrokers 5 = .ok (.ifCond .eq 15, 3) := by decide +kernel
theorem dX6_areBrokers_8 : decode cX6_areBrokers 8 = .ok (.aload_n 0, 1) := by decide +kernel
theorem dX6_areBrokers_9 : decode cX6_areBrokers 9 = .ok (.iload_n 2, 1) := by decide +kernel
theorem dX6_areBrokers_10 : decode cX6_areBrokers 10 = .ok (.invokevirtual 120, 3) := by decide +kernel
theorem dX6_areBrokers_13 : decode cX6_areBrokers 13 = .ok (.ifCond .eq 7, 3) := by decide +kernel
theorem dX6_areBrokers_16 : decode cX6_areBrokers 16 = .ok (.iconst 1, 1) := by decide +kernel
theorem dX6_areBrokers_17 : decode cX6_areBrokers 17 = .ok (.goto 4, 3) := by decide +kernel
theorem dX6_areBrokers_20 : decode cX6_areBrokers 20 = .ok (.iconst 0, 1) := by decide +kernel
theorem dX6_areBrokers_21 : decode cX6_areBrokers 21 = .ok (.ireturn, 1) := by decide +kernel
theorem dX6_broker_0 : decode cX6_broker 0 = .ok (.iload_n 1, 1) := by decide +kernel
theorem dX6_broker_1 : decode cX6_broker 1 = .ok (.iconst 0, 1) := by decide +kernel
theorem dX6_broker_2 : decode cX6_broker 2 = .ok (.bipush 7, 2) := by decide +kernel
theorem dX6_broker_4 : decode cX6_broker 4 = .ok (.invokestatic 116, 3) := by decide +kernel
theorem dX6_broker_7 : decode cX6_broker 7 = .ok (.istore 4, 2) := by decide +kernel
theorem dX6_broker_9 : decode cX6_broker 9 = .ok (.aload_n 0, 1) := by decide +kernel
theorem dX6_broker_10 : decode cX6_broker 10 = .ok (.iload 4, 2) := by decide +kernel
theorem dX6_broker_12 : decode cX6_broker 12 = .ok (.ifCond .ne 7, 3) := by decide +kernel
theorem dX6_broker_15 : decode cX6_broker 15 = .ok (.iconst 1, 1) := by decide +kernel
theorem dX6_broker_16 : decode cX6_broker 16 = .ok (.goto 41, 3) := by decide +kernel
theorem dX6_broker_19 : decode cX6_broker 19 = .ok (.iload_n 2, 1) := by decide +kernel
theorem dX6_broker_20 : decode cX6_broker 20 = .ok (.iconst 0, 1) := by decide +kernel
theorem dX6_broker_21 : decode cX6_broker 21 = .ok (.ldc 87, 2) := by decide +kernel
theorem dX6_broker_23 : decode cX6_broker 23 = .ok (.invokestatic 116, 3) := by decide +kernel
theorem dX6_broker_26 : decode cX6_broker 26 = .ok (.ifCond .eq 13, 3) := by decide +kernel
theorem dX6_broker_29 : decode cX6_broker 29 = .ok (.iload_n 3, 1) := by decide +kernel
theorem dX6_broker_30 : decode cX6_broker 30 = .ok (.iconst 0, 1) := by decide +kernel
theorem dX6_broker_31 : decode cX6_broker 31 = .ok (.bipush 100, 2) := by decide +kernel
theorem dX6_broker_33 : decode cX6_broker 33 = .ok (.invokestatic 116, 3) := by decide +kernel
theorem dX6_broker_36 : decode cX6_broker 36 = .ok (.ifCond .ne 7, 3) := by decide +kernel
theorem dX6_broker_39 : decode cX6_broker 39 = .ok (.iconst 2, 1) := by decide +kernel
theorem dX6_broker_40 : decode cX6_broker 40 = .ok (.goto 17, 3) := by decide +kernel
theorem dX6_broker_43 : decode cX6_broker 43 = .ok (.aload_n 0, 1) := by decide +kernel
theorem dX6_broker_44 : decode cX6_broker 44 = .ok (.getfield 113, 3) := by decide +kernel
theorem dX6_broker_47 : decode cX6_broker 47 = .ok (.bipush 12, 2) := by decide +kernel
theorem dX6_broker_49 : decode cX6_broker 49 = .ok (.if_icmp .ne 7, 3) := by decide +kernel
theorem dX6_broker_52 : decode cX6_broker 52 = .ok (.iconst 3, 1) := by decide +kernel
theorem dX6_broker_53 : decode cX6_broker 53 = .ok (.goto 4, 3) := by decide +kernel
theorem dX6_broker_56 : decode cX6_broker 56 = .ok (.iconst 0, 1) := by decide +kernel
theorem dX6_broker_57 : decode cX6_broker 57 = .ok (.invokevirtual 124, 3) := by decide +kernel
theorem dX6_broker_60 : decode cX6_broker 60 = .ok (.ifCond .ne 5, 3) := by decide +kernel
theorem dX6_broker_63 : decode cX6_broker 63 = .ok (.iconst 0, 1) := by decide +kernel
theorem dX6_broker_64 : decode cX6_broker 64 = .ok (.ireturn, 1) := by decide +kernel
theorem dX6_broker_65 : decode cX6_broker 65 = .ok (.aload_n 0, 1) := by decide +kernel
theorem dX6_broker_66 : decode cX6_broker 66 = .ok (.getfield 7, 3) := by decide +kernel
theorem dX6_broker_69 : decode cX6_broker 69 = .ok (.aload_n 0, 1) := by decide +kernel
theorem dX6_broker_70 : decode cX6_broker 70 = .ok (.getfield 113, 3) := by decide +kernel
theorem dX6_broker_73 : decode cX6_broker 73 = .ok (.iload_n 1, 1) := by decide +kernel
theorem dX6_broker_74 : decode cX6_broker 74 = .ok (.iastore, 1) := by decide +kernel
theorem dX6_broker_75 : decode cX6_broker 75 = .ok (.aload_n 0, 1) := by decide +kernel
theorem dX6_broker_76 : decode cX6_broker 76 = .ok (.getfield 13, 3) := by decide +kernel
theorem dX6_broker_79 : decode cX6_broker 79 = .ok (.aload_n 0, 1) := by decide +kernel
theorem dX6_broker_80 : decode cX6_broker 80 = .ok (.getfield 113, 3) := by decide +kernel
theorem dX6_broker_83 : decode cX6_broker 83 = .ok (.iload_n 2, 1) := by decide +kernel
theorem dX6_broker_84 : decode cX6_broker 84 = .ok (.i2l, 1) := by decide +kernel
theorem dX6_broker_85 : decode cX6_broker 85 = .ok (.lastore, 1) := by decide +kernel
theorem dX6_broker_86 : decode cX6_broker 86 = .ok (.aload_n 0, 1) := by decide +kernel
theorem dX6_broker_87 : decode cX6_broker 87 = .ok (.getfield 17, 3) := by decide +kernel
theorem dX6_broker_90 : decode cX6_broker 90 = .ok (.aload_n 0, 1) := by decide +kernel
theorem dX6_broker_91 : decode cX6_broker 91 = .ok (.getfield 113, 3) := by decide +kernel
theorem dX6_broker_94 : decode cX6_broker 94 = .ok (.iload_n 3, 1) := by decide +kernel
theorem dX6_broker_95 : decode cX6_broker 95 = .ok (.iastore, 1) := by decide +kernel
theorem dX6_broker_96 : decode cX6_broker 96 = .ok (.aload_n 0, 1) := by decide +kernel
theorem dX6_broker_97 : decode cX6_broker 97 = .ok (.dup, 1) := by decide +kernel
theorem dX6_broker_98 : decode cX6_broker 98 = .ok (.getfield 113, 3) := by decide +kernel
theorem dX6_broker_101 : decode cX6_broker 101 = .ok (.iconst 1, 1) := by decide +kernel
theorem dX6_broker_102 : decode cX6_broker 102 = .ok (.iadd, 1) := by decide +kernel
theorem dX6_broker_103 : decode cX6_broker 103 = .ok (.putfield 113, 3) := by decide +kernel
theorem dX6_broker_106 : decode cX6_broker 106 = .ok (.aload_n 0, 1) := by decide +kernel
theorem dX6_broker_107 : decode cX6_broker 107 = .ok (.getfield 113, 3) := by decide +kernel
theorem dX6_broker_110 : decode cX6_broker 110 = .ok (.iconst 1, 1) := by decide +kernel
theorem dX6_broker_111 : decode cX6_broker 111 = .ok (.isub, 1) := by decide +kernel
theorem dX6_broker_112 : decode cX6_broker 112 = .ok (.ireturn, 1) := by decide +kernel
theorem dX6_rate_0 : decode cX6_rate 0 = .ok (.aload_n 0, 1) := by decide +kernel
theorem dX6_rate_1 : decode cX6_rate 1 = .ok (.iload_n 1, 1) := by decide +kernel
theorem dX6_rate_2 : decode cX6_rate 2 = .ok (.invokevirtual 120, 3) := by decide +kernel
theorem dX6_rate_5 : decode cX6_rate 5 = .ok (.istore_n 3, 1) := by decide +kernel
theorem dX6_rate_6 : decode cX6_rate 6 = .ok (.aload_n 0, 1) := by decide +kernel
theorem dX6_rate_7 : decode cX6_rate 7 = .ok (.iload_n 3, 1) := by decide +kernel
theorem dX6_rate_8 : decode cX6_rate 8 = .ok (.ifCond .ne 7, 3) := by decide +kernel
theorem dX6_rate_11 : decode cX6_rate 11 = .ok (.iconst 1, 1) := by decide +kernel
theorem dX6_rate_12 : decode cX6_rate 12 = .ok (.goto 18, 3) := by decide +kernel
theorem dX6_rate_15 : decode cX6_rate 15 = .ok (.iload_n 2, 1) := by decide +kernel
theorem dX6_rate_16 : decode cX6_rate 16 = .ok (.iconst 0, 1) := by decide +kernel
theorem dX6_rate_17 : decode cX6_rate 17 = .ok (.bipush 100, 2) := by decide +kernel
theorem dX6_rate_19 : decode cX6_rate 19 = .ok (.invokestatic 116, 3) := by decide +kernel
theorem dX6_rate_22 : decode cX6_rate 22 = .ok (.ifCond .eq 7, 3) := by decide +kernel
theorem dX6_rate_25 : decode cX6_rate 25 = .ok (.iconst 0, 1) := by decide +kernel
theorem dX6_rate_26 : decode cX6_rate 26 = .ok (.goto 4, 3) := by decide +kernel
theorem dX6_rate_29 : decode cX6_rate 29 = .ok (.iconst 2, 1) := by decide +kernel
theorem dX6_rate_30 : decode cX6_rate 30 = .ok (.invokevirtual 124, 3) := by decide +kernel
theorem dX6_rate_33 : decode cX6_rate 33 = .ok (.ifCond .ne 5, 3) := by decide +kernel
theorem dX6_rate_36 : decode cX6_rate 36 = .ok (.iconst 0, 1) := by decide +kernel
theorem dX6_rate_37 : decode cX6_rate 37 = .ok (.ireturn, 1) := by decide +kernel
theorem dX6_rate_38 : decode cX6_rate 38 = .ok (.aload_n 0, 1) := by decide +kernel
theorem dX6_rate_39 : decode cX6_rate 39 = .ok (.getfield 17, 3) := by decide +kernel
theorem dX6_rate_42 : decode cX6_rate 42 = .ok (.iload_n 1, 1) := by decide +kernel
theorem dX6_rate_43 : decode cX6_rate 43 = .ok (.iaload, 1) := by decide +kernel
theorem dX6_rate_44 : decode cX6_rate 44 = .ok (.istore 4, 2) := by decide +kernel
theorem dX6_rate_46 : decode cX6_rate 46 = .ok (.aload_n 0, 1) := by decide +kernel
theorem dX6_rate_47 : decode cX6_rate 47 = .ok (.getfield 17, 3) := by decide +kernel
theorem dX6_rate_50 : decode cX6_rate 50 = .ok (.iload_n 1, 1) := by decide +kernel
theorem dX6_rate_51 : decode cX6_rate 51 = .ok (.iload_n 2, 1) := by decide +kernel
theorem dX6_rate_52 : decode cX6_rate 52 = .ok (.iastore, 1) := by decide +kernel
theorem dX6_rate_53 : decode cX6_rate 53 = .ok (.iload 4, 2) := by decide +kernel
theorem dX6_rate_55 : decode cX6_rate 55 = .ok (.ireturn, 1) := by decide +kernel
theorem dX6_trust_0 : decode cX6_trust 0 = .ok (.aload_n 0, 1) := by decide +kernel
theorem dX6_trust_1 : decode cX6_trust 1 = .ok (.iload_n 1, 1) := by decide +kernel
theorem dX6_trust_2 : decode cX6_trust 2 = .ok (.iload_n 2, 1) := by decide +kernel
theorem dX6_trust_3 : decode cX6_trust 3 = .ok (.invokevirtual 127, 3) := by decide +kernel
theorem dX6_trust_6 : decode cX6_trust 6 = .ok (.istore 5, 2) := by decide +kernel
theorem dX6_trust_8 : decode cX6_trust 8 = .ok (.aload_n 0, 1) := by decide +kernel
theorem dX6_trust_9 : decode cX6_trust 9 = .ok (.iload 5, 2) := by decide +kernel
theorem dX6_trust_11 : decode cX6_trust 11 = .ok (.ifCond .ne 7, 3) := by decide +kernel
theorem dX6_trust_14 : decode cX6_trust 14 = .ok (.iconst 1, 1) := by decide +kernel
theorem dX6_trust_15 : decode cX6_trust 15 = .ok (.goto 23, 3) := by decide +kernel
theorem dX6_trust_18 : decode cX6_trust 18 = .ok (.iload_n 1, 1) := by decide +kernel
theorem dX6_trust_19 : decode cX6_trust 19 = .ok (.iload_n 2, 1) := by decide +kernel
theorem dX6_trust_20 : decode cX6_trust 20 = .ok (.if_icmp .eq 17, 3) := by decide +kernel
theorem dX6_trust_23 : decode cX6_trust 23 = .ok (.iload_n 3, 1) := by decide +kernel
theorem dX6_trust_24 : decode cX6_trust 24 = .ok (.iconst 0, 1) := by decide +kernel
theorem dX6_trust_25 : decode cX6_trust 25 = .ok (.ldc 87, 2) := by decide +kernel
theorem dX6_trust_27 : decode cX6_trust 27 = .ok (.invokestatic 116, 3) := by decide +kernel
theorem dX6_trust_30 : decode cX6_trust 30 = .ok (.ifCond .eq 7, 3) := by decide +kernel
theorem dX6_trust_33 : decode cX6_trust 33 = .ok (.iconst 0, 1) := by decide +kernel
theorem dX6_trust_34 : decode cX6_trust 34 = .ok (.goto 4, 3) := by decide +kernel
theorem dX6_trust_37 : decode cX6_trust 37 = .ok (.iconst 2, 1) := by decide +kernel
theorem dX6_trust_38 : decode cX6_trust 38 = .ok (.invokevirtual 124, 3) := by decide +kernel
theorem dX6_trust_41 : decode cX6_trust 41 = .ok (.ifCond .eq 28, 3) := by decide +kernel
theorem dX6_trust_44 : decode cX6_trust 44 = .ok (.aload_n 0, 1) := by decide +kernel
theorem dX6_trust_45 : decode cX6_trust 45 = .ok (.getfield 30, 3) := by decide +kernel
theorem dX6_trust_48 : decode cX6_trust 48 = .ok (.bipush 12, 2) := by decide +kernel
theorem dX6_trust_50 : decode cX6_trust 50 = .ok (.iload_n 1, 1) := by decide +kernel
theorem dX6_trust_51 : decode cX6_trust 51 = .ok (.imul, 1) := by decide +kernel
theorem dX6_trust_52 : decode cX6_trust 52 = .ok (.iload_n 2, 1) := by decide +kernel
theorem dX6_trust_53 : decode cX6_trust 53 = .ok (.iadd, 1) := by decide +kernel
theorem dX6_trust_54 : decode cX6_trust 54 = .ok (.iload_n 3, 1) := by decide +kernel
theorem dX6_trust_55 : decode cX6_trust 55 = .ok (.iastore, 1) := by decide +kernel
theorem dX6_trust_56 : decode cX6_trust 56 = .ok (.aload_n 0, 1) := by decide +kernel
theorem dX6_trust_57 : decode cX6_trust 57 = .ok (.getfield 33, 3) := by decide +kernel
theorem dX6_trust_60 : decode cX6_trust 60 = .ok (.bipush 12, 2) := by decide +kernel
theorem dX6_trust_62 : decode cX6_trust 62 = .ok (.iload_n 1, 1) := by decide +kernel
theorem dX6_trust_63 : decode cX6_trust 63 = .ok (.imul, 1) := by decide +kernel
theorem dX6_trust_64 : decode cX6_trust 64 = .ok (.iload_n 2, 1) := by decide +kernel
theorem dX6_trust_65 : decode cX6_trust 65 = .ok (.iadd, 1) := by decide +kernel
theorem dX6_trust_66 : decode cX6_trust 66 = .ok (.iload 4, 2) := by decide +kernel
theorem dX6_trust_68 : decode cX6_trust 68 = .ok (.bastore, 1) := by decide +kernel
theorem dX6_trust_69 : decode cX6_trust 69 = .ok (.return_, 1) := by decide +kernel
theorem dX6_festival_0 : decode cX6_festival 0 = .ok (.aload_n 0, 1) := by decide +kernel
theorem dX6_festival_1 : decode cX6_festival 1 = .ok (.iconst 0, 1) := by decide +kernel
theorem dX6_festival_2 : decode cX6_festival 2 = .ok (.putfield 109, 3) := by decide +kernel
theorem dX6_festival_5 : decode cX6_festival 5 = .ok (.aload_n 0, 1) := by decide +kernel
theorem dX6_festival_6 : decode cX6_festival 6 = .ok (.aload_n 0, 1) := by decide +kernel
theorem dX6_festival_7 : decode cX6_festival 7 = .ok (.getfield 131, 3) := by decide +kernel
theorem dX6_festival_10 : decode cX6_festival 10 = .ok (.ifCond .ne 7, 3) := by decide +kernel
theorem dX6_festival_13 : decode cX6_festival 13 = .ok (.iconst 1, 1) := by decide +kernel
theorem dX6_festival_14 : decode cX6_festival 14 = .ok (.goto 4, 3) := by decide +kernel
theorem dX6_festival_17 : decode cX6_festival 17 = .ok (.iconst 0, 1) := by decide +kernel
theorem dX6_festival_18 : decode cX6_festival 18 = .ok (.putfield 131, 3) := by decide +kernel
theorem dX6_festival_21 : decode cX6_festival 21 = .ok (.aload_n 0, 1) := by decide +kernel
theorem dX6_festival_22 : decode cX6_festival 22 = .ok (.getfield 131, 3) := by decide +kernel
theorem dX6_festival_25 : decode cX6_festival 25 = .ok (.ireturn, 1) := by decide +kernel
theorem dX6_owe_0 : decode cX6_owe 0 = .ok (.aload_n 1, 1) := by decide +kernel
theorem dX6_owe_1 : decode cX6_owe 1 = .ok (.bipush 12, 2) := by decide +kernel
theorem dX6_owe_3 : decode cX6_owe 3 = .ok (.iload_n 2, 1) := by decide +kernel
theorem dX6_owe_4 : decode cX6_owe 4 = .ok (.imul, 1) := by decide +kernel
theorem dX6_owe_5 : decode cX6_owe 5 = .ok (.iload_n 3, 1) := by decide +kernel
theorem dX6_owe_6 : decode cX6_owe 6 = .ok (.iadd, 1) := by decide +kernel
theorem dX6_owe_7 : decode cX6_owe 7 = .ok (.dup2, 1) := by decide +kernel
theorem dX6_owe_8 : decode cX6_owe 8 = .ok (.laload, 1) := by decide +kernel
theorem dX6_owe_9 : decode cX6_owe 9 = .ok (.lload 4, 2) := by decide +kernel
theorem dX6_owe_11 : decode cX6_owe 11 = .ok (.ladd, 1) := by decide +kernel
theorem dX6_owe_12 : decode cX6_owe 12 = .ok (.lastore, 1) := by decide +kernel
theorem dX6_owe_13 : decode cX6_owe 13 = .ok (.return_, 1) := by decide +kernel
theorem dX6_oweBoth_0 : decode cX6_oweBoth 0 = .ok (.aload_n 0, 1) := by decide +kernel
theorem dX6_oweBoth_1 : decode cX6_oweBoth 1 = .ok (.aload_n 0, 1) := by decide +kernel
theorem dX6_oweBoth_2 : decode cX6_oweBoth 2 = .ok (.getfield 36, 3) := by decide +kernel
theorem dX6_oweBoth_5 : decode cX6_oweBoth 5 = .ok (.iload_n 1, 1) := by decide +kernel
theorem dX6_oweBoth_6 : decode cX6_oweBoth 6 = .ok (.iload_n 2, 1) := by decide +kernel
theorem dX6_oweBoth_7 : decode cX6_oweBoth 7 = .ok (.lload_n 3, 1) := by decide +kernel
theorem dX6_oweBoth_8 : decode cX6_oweBoth 8 = .ok (.invokevirtual 135, 3) := by decide +kernel
theorem dX6_oweBoth_11 : decode cX6_oweBoth 11 = .ok (.aload_n 0, 1) := by decide +kernel
theorem dX6_oweBoth_12 : decode cX6_oweBoth 12 = .ok (.aload_n 0, 1) := by decide +kernel
theorem dX6_oweBoth_13 : decode cX6_oweBoth 13 = .ok (.getfield 36, 3) := by decide +kernel
theorem dX6_oweBoth_16 : decode cX6_oweBoth 16 = .ok (.iload_n 2, 1) := by decide +kernel
theorem dX6_oweBoth_17 : decode cX6_oweBoth 17 = .ok (.iload_n 1, 1) := by decide +kernel
theorem dX6_oweBoth_18 : decode cX6_oweBoth 18 = .ok (.lload_n 3, 1) := by decide +kernel
theorem dX6_oweBoth_19 : decode cX6_oweBoth 19 = .ok (.lneg, 1) := by decide +kernel
theorem dX6_oweBoth_20 : decode cX6_oweBoth 20 = .ok (.invokevirtual 135, 3) := by decide +kernel
theorem dX6_oweBoth_23 : decode cX6_oweBoth 23 = .ok (.aload_n 0, 1) := by decide +kernel
theorem dX6_oweBoth_24 : decode cX6_oweBoth 24 = .ok (.aload_n 0, 1) := by decide +kernel
theorem dX6_oweBoth_25 : decode cX6_oweBoth 25 = .ok (.getfield 39, 3) := by decide +kernel
theorem dX6_oweBoth_28 : decode cX6_oweBoth 28 = .ok (.iload_n 1, 1) := by decide +kernel
theorem dX6_oweBoth_29 : decode cX6_oweBoth 29 = .ok (.iload_n 2, 1) := by decide +kernel
theorem dX6_oweBoth_30 : decode cX6_oweBoth 30 = .ok (.lload_n 3, 1) := by decide +kernel
theorem dX6_oweBoth_31 : decode cX6_oweBoth 31 = .ok (.invokevirtual 135, 3) := by decide +kernel
theorem dX6_oweBoth_34 : decode cX6_oweBoth 34 = .ok (.aload_n 0, 1) := by decide +kernel
theorem dX6_oweBoth_35 : decode cX6_oweBoth 35 = .ok (.aload_n 0, 1) := by decide +kernel
theorem dX6_oweBoth_36 : decode cX6_oweBoth 36 = .ok (.getfield 39, 3) := by decide +kernel
theorem dX6_oweBoth_39 : decode cX6_oweBoth 39 = .ok (.iload_n 2, 1) := by decide +kernel
theorem dX6_oweBoth_40 : decode cX6_oweBoth 40 = .ok (.iload_n 1, 1) := by decide +kernel
theorem dX6_oweBoth_41 : decode cX6_oweBoth 41 = .ok (.lload_n 3, 1) := by decide +kernel
theorem dX6_oweBoth_42 : decode cX6_oweBoth 42 = .ok (.lneg, 1) := by decide +kernel
theorem dX6_oweBoth_43 : decode cX6_oweBoth 43 = .ok (.invokevirtual 135, 3) := by decide +kernel
theorem dX6_oweBoth_46 : decode cX6_oweBoth 46 = .ok (.return_, 1) := by decide +kernel
theorem dX6_oweOn_0 : decode cX6_oweOn 0 = .ok (.aload_n 0, 1) := by decide +kernel
theorem dX6_oweOn_1 : decode cX6_oweOn 1 = .ok (.getfield 66, 3) := by decide +kernel
theorem dX6_oweOn_4 : decode cX6_oweOn 4 = .ok (.bipush 12, 2) := by decide +kernel
theorem dX6_oweOn_6 : decode cX6_oweOn 6 = .ok (.iload_n 1, 1) := by decide +kernel
theorem dX6_oweOn_7 : decode cX6_oweOn 7 = .ok (.imul, 1) := by decide +kernel
theorem dX6_oweOn_8 : decode cX6_oweOn 8 = .ok (.iload_n 2, 1) := by decide +kernel
theorem dX6_oweOn_9 : decode cX6_oweOn 9 = .ok (.iadd, 1) := by decide +kernel
theorem dX6_oweOn_10 : decode cX6_oweOn 10 = .ok (.iaload, 1) := by decide +kernel
theorem dX6_oweOn_11 : decode cX6_oweOn 11 = .ok (.istore 4, 2) := by decide +kernel
theorem dX6_oweOn_13 : decode cX6_oweOn 13 = .ok (.aload_n 0, 1) := by decide +kernel
theorem dX6_oweOn_14 : decode cX6_oweOn 14 = .ok (.getfield 66, 3) := by decide +kernel
theorem dX6_oweOn_17 : decode cX6_oweOn 17 = .ok (.bipush 12, 2) := by decide +kernel
theorem dX6_oweOn_19 : decode cX6_oweOn 19 = .ok (.iload_n 1, 1) := by decide +kernel
theorem dX6_oweOn_20 : decode cX6_oweOn 20 = .ok (.imul, 1) := by decide +kernel
theorem dX6_oweOn_21 : decode cX6_oweOn 21 = .ok (.iload_n 2, 1) := by decide +kernel
theorem dX6_oweOn_22 : decode cX6_oweOn 22 = .ok (.iadd, 1) := by decide +kernel
theorem dX6_oweOn_23 : decode cX6_oweOn 23 = .ok (.iconst 1, 1) := by decide +kernel
theorem dX6_oweOn_24 : decode cX6_oweOn 24 = .ok (.iadd, 1) := by decide +kernel
theorem dX6_oweOn_25 : decode cX6_oweOn 25 = .ok (.iaload, 1) := by decide +kernel
theorem dX6_oweOn_26 : decode cX6_oweOn 26 = .ok (.istore 5, 2) := by decide +kernel
theorem dX6_oweOn_28 : decode cX6_oweOn 28 = .ok (.iload_n 3, 1) := by decide +kernel
theorem dX6_oweOn_29 : decode cX6_oweOn 29 = .ok (.i2l, 1) := by decide +kernel
theorem dX6_oweOn_30 : decode cX6_oweOn 30 = .ok (.aload_n 0, 1) := by decide +kernel
theorem dX6_oweOn_31 : decode cX6_oweOn 31 = .ok (.getfield 69, 3) := by decide +kernel
theorem dX6_oweOn_34 : decode cX6_oweOn 34 = .ok (.bipush 12, 2) := by decide +kernel
theorem dX6_oweOn_36 : decode cX6_oweOn 36 = .ok (.iload_n 1, 1) := by decide +kernel
theorem dX6_oweOn_37 : decode cX6_oweOn 37 = .ok (.imul, 1) := by decide +kernel
theorem dX6_oweOn_38 : decode cX6_oweOn 38 = .ok (.iload_n 2, 1) := by decide +kernel
theorem dX6_oweOn_39 : decode cX6_oweOn 39 = .ok (.iadd, 1) := by decide +kernel
theorem dX6_oweOn_40 : decode cX6_oweOn 40 = .ok (.iaload, 1) := by decide +kernel
theorem dX6_oweOn_41 : decode cX6_oweOn 41 = .ok (.i2l, 1) := by decide +kernel
theorem dX6_oweOn_42 : decode cX6_oweOn 42 = .ok (.lmul, 1) := by decide +kernel
theorem dX6_oweOn_43 : decode cX6_oweOn 43 = .ok (.lstore 6, 2) := by decide +kernel
theorem dX6_oweOn_45 : decode cX6_oweOn 45 = .ok (.aload_n 0, 1) := by decide +kernel
theorem dX6_oweOn_46 : decode cX6_oweOn 46 = .ok (.aload_n 0, 1) := by decide +kernel
theorem dX6_oweOn_47 : decode cX6_oweOn 47 = .ok (.getfield 36, 3) := by decide +kernel
theorem dX6_oweOn_50 : decode cX6_oweOn 50 = .ok (.iload 4, 2) := by decide +kernel
theorem dX6_oweOn_52 : decode cX6_oweOn 52 = .ok (.iload 5, 2) := by decide +kernel
theorem dX6_oweOn_54 : decode cX6_oweOn 54 = .ok (.lload 6, 2) := by decide +kernel
theorem dX6_oweOn_56 : decode cX6_oweOn 56 = .ok (.invokevirtual 135, 3) := by decide +kernel
theorem dX6_oweOn_59 : decode cX6_oweOn 59 = .ok (.aload_n 0, 1) := by decide +kernel
theorem dX6_oweOn_60 : decode cX6_oweOn 60 = .ok (.aload_n 0, 1) := by decide +kernel
theorem dX6_oweOn_61 : decode cX6_oweOn 61 = .ok (.getfield 36, 3) := by decide +kernel
theorem dX6_oweOn_64 : decode cX6_oweOn 64 = .ok (.iload 5, 2) := by decide +kernel
theorem dX6_oweOn_66 : decode cX6_oweOn 66 = .ok (.iload 4, 2) := by decide +kernel
theorem dX6_oweOn_68 : decode cX6_oweOn 68 = .ok (.lload 6, 2) := by decide +kernel
theorem dX6_oweOn_70 : decode cX6_oweOn 70 = .ok (.lneg, 1) := by decide +kernel
theorem dX6_oweOn_71 : decode cX6_oweOn 71 = .ok (.invokevirtual 135, 3) := by decide +kernel
theorem dX6_oweOn_74 : decode cX6_oweOn 74 = .ok (.aload_n 0, 1) := by decide +kernel
theorem dX6_oweOn_75 : decode cX6_oweOn 75 = .ok (.aload_n 0, 1) := by decide +kernel
theorem dX6_oweOn_76 : decode cX6_oweOn 76 = .ok (.getfield 39, 3) := by decide +kernel
theorem dX6_oweOn_79 : decode cX6_oweOn 79 = .ok (.iload 4, 2) := by decide +kernel
theorem dX6_oweOn_81 : decode cX6_oweOn 81 = .ok (.iload 5, 2) := by decide +kernel
theorem dX6_oweOn_83 : decode cX6_oweOn 83 = .ok (.lload 6, 2) := by decide +kernel
theorem dX6_oweOn_85 : decode cX6_oweOn 85 = .ok (.invokevirtual 135, 3) := by decide +kernel
theorem dX6_oweOn_88 : decode cX6_oweOn 88 = .ok (.aload_n 0, 1) := by decide +kernel
theorem dX6_oweOn_89 : decode cX6_oweOn 89 = .ok (.getfield 60, 3) := by decide +kernel
theorem dX6_oweOn_92 : decode cX6_oweOn 92 = .ok (.iload_n 1, 1) := by decide +kernel
theorem dX6_oweOn_93 : decode cX6_oweOn 93 = .ok (.iaload, 1) := by decide +kernel
theorem dX6_oweOn_94 : decode cX6_oweOn 94 = .ok (.iload_n 2, 1) := by decide +kernel
theorem dX6_oweOn_95 : decode cX6_oweOn 95 = .ok (.if_icmp .le 18, 3) := by decide +kernel
theorem dX6_oweOn_98 : decode cX6_oweOn 98 = .ok (.aload_n 0, 1) := by decide +kernel
theorem dX6_oweOn_99 : decode cX6_oweOn 99 = .ok (.aload_n 0, 1) := by decide +kernel
theorem dX6_oweOn_100 : decode cX6_oweOn 100 = .ok (.getfield 39, 3) := by decide +kernel
theorem dX6_oweOn_103 : decode cX6_oweOn 103 = .ok (.iload 5, 2) := by decide +kernel
theorem dX6_oweOn_105 : decode cX6_oweOn 105 = .ok (.iload 4, 2) := by decide +kernel
theorem dX6_oweOn_107 : decode cX6_oweOn 107 = .ok (.lload 6, 2) := by decide +kernel
theorem dX6_oweOn_109 : decode cX6_oweOn 109 = .ok (.lneg, 1) := by decide +kernel
theorem dX6_oweOn_110 : decode cX6_oweOn 110 = .ok (.invokevirtual 135, 3) := by decide +kernel
theorem dX6_oweOn_113 : decode cX6_oweOn 113 = .ok (.return_, 1) := by decide +kernel
theorem dX6_takeBack_0 : decode cX6_takeBack 0 = .ok (.iload_n 2, 1) := by decide +kernel
theorem dX6_takeBack_1 : decode cX6_takeBack 1 = .ok (.istore_n 3, 1) := by decide +kernel
theorem dX6_takeBack_2 : decode cX6_takeBack 2 = .ok (.iload_n 3, 1) := by decide +kernel
theorem dX6_takeBack_3 : decode cX6_takeBack 3 = .ok (.aload_n 0, 1) := by decide +kernel
theorem dX6_takeBack_4 : decode cX6_takeBack 4 = .ok (.getfield 63, 3) := by decide +kernel
theorem dX6_takeBack_7 : decode cX6_takeBack 7 = .ok (.iload_n 1, 1) := by decide +kernel
theorem dX6_takeBack_8 : decode cX6_takeBack 8 = .ok (.iaload, 1) := by decide +kernel
theorem dX6_takeBack_9 : decode cX6_takeBack 9 = .ok (.iconst 1, 1) := by decide +kernel
theorem dX6_takeBack_10 : decode cX6_takeBack 10 = .ok (.isub, 1) := by decide +kernel
theorem dX6_takeBack_11 : decode cX6_takeBack 11 = .ok (.if_icmp .ge 16, 3) := by decide +kernel
theorem dX6_takeBack_14 : decode cX6_takeBack 14 = .ok (.aload_n 0, 1) := by decide +kernel
theorem dX6_takeBack_15 : decode cX6_takeBack 15 = .ok (.iload_n 1, 1) := by decide +kernel
theorem dX6_takeBack_16 : decode cX6_takeBack 16 = .ok (.iload_n 3, 1) := by decide +kernel
theorem dX6_takeBack_17 : decode cX6_takeBack 17 = .ok (.iconst (-1), 1) := by decide +kernel
theorem dX6_takeBack_18 : decode cX6_takeBack 18 = .ok (.invokevirtual 139, 3) := by decide +kernel
theorem dX6_takeBack_21 : decode cX6_takeBack 21 = .ok (.iinc 3 1, 3) := by decide +kernel
theorem dX6_takeBack_24 : decode cX6_takeBack 24 = .ok (.goto (-22), 3) := by decide +kernel
theorem dX6_takeBack_27 : decode cX6_takeBack 27 = .ok (.return_, 1) := by decide +kernel
theorem dX6_feeOf_0 : decode cX6_feeOf 0 = .ok (.iload_n 2, 1) := by decide +kernel
theorem dX6_feeOf_1 : decode cX6_feeOf 1 = .ok (.i2l, 1) := by decide +kernel
theorem dX6_feeOf_2 : decode cX6_feeOf 2 = .ok (.aload_n 0, 1) := by decide +kernel
theorem dX6_feeOf_3 : decode cX6_feeOf 3 = .ok (.getfield 17, 3) := by decide +kernel
theorem dX6_feeOf_6 : decode cX6_feeOf 6 = .ok (.iload_n 1, 1) := by decide +kernel
theorem dX6_feeOf_7 : decode cX6_feeOf 7 = .ok (.iaload, 1) := by decide +kernel
theorem dX6_feeOf_8 : decode cX6_feeOf 8 = .ok (.i2l, 1) := by decide +kernel
theorem dX6_feeOf_9 : decode cX6_feeOf 9 = .ok (.lmul, 1) := by decide +kernel
theorem dX6_feeOf_10 : decode cX6_feeOf 10 = .ok (.ldc2_w 143, 3) := by decide +kernel
theorem dX6_feeOf_13 : decode cX6_feeOf 13 = .ok (.ldiv, 1) := by decide +kernel
theorem dX6_feeOf_14 : decode cX6_feeOf 14 = .ok (.lreturn, 1) := by decide +kernel
theorem dX6_limitOf_0 : decode cX6_limitOf 0 = .ok (.bipush 12, 2) := by decide +kernel
theorem dX6_limitOf_2 : decode cX6_limitOf 2 = .ok (.iload_n 1, 1) := by decide +kernel
theorem dX6_limitOf_3 : decode cX6_limitOf 3 = .ok (.imul, 1) := by decide +kernel
theorem dX6_limitOf_4 : decode cX6_limitOf 4 = .ok (.iload_n 2, 1) := by decide +kernel
theorem dX6_limitOf_5 : decode cX6_limitOf 5 = .ok (.iadd, 1) := by decide +kernel
theorem dX6_limitOf_6 : decode cX6_limitOf 6 = .ok (.istore_n 3, 1) := by decide +kernel
theorem dX6_limitOf_7 : decode cX6_limitOf 7 = .ok (.aload_n 0, 1) := by decide +kernel
theorem dX6_limitOf_8 : decode cX6_limitOf 8 = .ok (.getfield 131, 3) := by decide +kernel
theorem dX6_limitOf_11 : decode cX6_limitOf 11 = .ok (.ifCond .eq 26, 3) := by decide +kernel
theorem dX6_limitOf_14 : decode cX6_limitOf 14 = .ok (.aload_n 0, 1) := by decide +kernel
theorem dX6_limitOf_15 : decode cX6_limitOf 15 = .ok (.getfield 33, 3) := by decide +kernel
theorem dX6_limitOf_18 : decode cX6_limitOf 18 = .ok (.iload_n 3, 1) := by decide +kernel
theorem dX6_limitOf_19 : decode cX6_limitOf 19 = .ok (.baload, 1) := by decide +kernel
theorem dX6_limitOf_20 : decode cX6_limitOf 20 = .ok (.ifCond .eq 17, 3) := by decide +kernel
theorem dX6_limitOf_23 : decode cX6_limitOf 23 = .ok (.ldc2_w 145, 3) := by decide +kernel
theorem dX6_limitOf_26 : decode cX6_limitOf 26 = .ok (.aload_n 0, 1) := by decide +kernel
theorem dX6_limitOf_27 : decode cX6_limitOf 27 = .ok (.getfield 30, 3) := by decide +kernel
theorem dX6_limitOf_30 : decode cX6_limitOf 30 = .ok (.iload_n 3, 1) := by decide +kernel
theorem dX6_limitOf_31 : decode cX6_limitOf 31 = .ok (.iaload, 1) := by decide +kernel
theorem dX6_limitOf_32 : decode cX6_limitOf 32 = .ok (.i2l, 1) := by decide +kernel
theorem dX6_limitOf_33 : decode cX6_limitOf 33 = .ok (.lmul, 1) := by decide +kernel
theorem dX6_limitOf_34 : decode cX6_limitOf 34 = .ok (.goto 10, 3) := by decide +kernel
theorem dX6_limitOf_37 : decode cX6_limitOf 37 = .ok (.aload_n 0, 1) := by decide +kernel
theorem dX6_limitOf_38 : decode cX6_limitOf 38 = .ok (.getfield 30, 3) := by decide +kernel
theorem dX6_limitOf_41 : decode cX6_limitOf 41 = .ok (.iload_n 3, 1) := by decide +kernel
theorem dX6_limitOf_42 : decode cX6_limitOf 42 = .ok (.iaload, 1) := by decide +kernel
theorem dX6_limitOf_43 : decode cX6_limitOf 43 = .ok (.i2l, 1) := by decide +kernel
theorem dX6_limitOf_44 : decode cX6_limitOf 44 = .ok (.lreturn, 1) := by decide +kernel
theorem dX6_canOwe_0 : decode cX6_canOwe 0 = .ok (.iload_n 1, 1) := by decide +kernel
theorem dX6_canOwe_1 : decode cX6_canOwe 1 = .ok (.iload_n 2, 1) := by decide +kernel
theorem dX6_canOwe_2 : decode cX6_canOwe 2 = .ok (.if_icmp .eq 51, 3) := by decide +kernel
theorem dX6_canOwe_5 : decode cX6_canOwe 5 = .ok (.aload_n 0, 1) := by decide +kernel
theorem dX6_canOwe_6 : decode cX6_canOwe 6 = .ok (.getfield 100, 3) := by decide +kernel
theorem dX6_canOwe_9 : decode cX6_canOwe 9 = .ok (.iload_n 2, 1) := by decide +kernel
theorem dX6_canOwe_10 : decode cX6_canOwe 10 = .ok (.laload, 1) := by decide +kernel
theorem dX6_canOwe_11 : decode cX6_canOwe 11 = .ok (.ldc2_w 147, 3) := by decide +kernel
theorem dX6_canOwe_14 : decode cX6_canOwe 14 = .ok (.lcmp, 1) := by decide +kernel
theorem dX6_canOwe_15 : decode cX6_canOwe 15 = .ok (.ifCond .ge 38, 3) := by decide +kernel
theorem dX6_canOwe_18 : decode cX6_canOwe 18 = .ok (.aload_n 0, 1) := by decide +kernel
theorem dX6_canOwe_19 : decode cX6_canOwe 19 = .ok (.getfield 36, 3) := by decide +kernel
theorem dX6_canOwe_22 : decode cX6_canOwe 22 = .ok (.bipush 12, 2) := by decide +kernel
theorem dX6_canOwe_24 : decode cX6_canOwe 24 = .ok (.iload_n 1, 1) := by decide +kernel
theorem dX6_canOwe_25 : decode cX6_canOwe 25 = .ok (.imul, 1) := by decide +kernel
theorem dX6_canOwe_26 : decode cX6_canOwe 26 = .ok (.iload_n 2, 1) := by decide +kernel
theorem dX6_canOwe_27 : decode cX6_canOwe 27 = .ok (.iadd, 1) := by decide +kernel
theorem dX6_canOwe_28 : decode cX6_canOwe 28 = .ok (.laload, 1) := by decide +kernel
theorem dX6_canOwe_29 : decode cX6_canOwe 29 = .ok (.iload_n 3, 1) := by decide +kernel
theorem dX6_canOwe_30 : decode cX6_canOwe 30 = .ok (.i2l, 1) := by decide +kernel
theorem dX6_canOwe_31 : decode cX6_canOwe 31 = .ok (.ladd, 1) := by decide +kernel
theorem dX6_canOwe_32 : decode cX6_canOwe 32 = .ok (.aload_n 0, 1) := by decide +kernel
theorem dX6_canOwe_33 : decode cX6_canOwe 33 = .ok (.getfield 100, 3) := by decide +kernel
theorem dX6_canOwe_36 : decode cX6_canOwe 36 = .ok (.iload_n 2, 1) := by decide +kernel
theorem dX6_canOwe_37 : decode cX6_canOwe 37 = .ok (.laload, 1) := by decide +kernel
theorem dX6_canOwe_38 : decode cX6_canOwe 38 = .ok (.ladd, 1) := by decide +kernel
theorem dX6_canOwe_39 : decode cX6_canOwe 39 = .ok (.aload_n 0, 1) := by decide +kernel
theorem dX6_canOwe_40 : decode cX6_canOwe 40 = .ok (.iload_n 2, 1) := by decide +kernel
theorem dX6_canOwe_41 : decode cX6_canOwe 41 = .ok (.iload_n 1, 1) := by decide +kernel
theorem dX6_canOwe_42 : decode cX6_canOwe 42 = .ok (.invokevirtual 149, 3) := by decide +kernel
theorem dX6_canOwe_45 : decode cX6_canOwe 45 = .ok (.lcmp, 1) := by decide +kernel
theorem dX6_canOwe_46 : decode cX6_canOwe 46 = .ok (.ifCond .gt 7, 3) := by decide +kernel
theorem dX6_canOwe_49 : decode cX6_canOwe 49 = .ok (.iconst 1, 1) := by decide +kernel
theorem dX6_canOwe_50 : decode cX6_canOwe 50 = .ok (.goto 4, 3) := by decide +kernel
theorem dX6_canOwe_53 : decode cX6_canOwe 53 = .ok (.iconst 0, 1) := by decide +kernel
theorem dX6_canOwe_54 : decode cX6_canOwe 54 = .ok (.ireturn, 1) := by decide +kernel
theorem dX6_findWays_0 : decode cX6_findWays 0 = .ok (.iconst 0, 1) := by decide +kernel
theorem dX6_findWays_1 : decode cX6_findWays 1 = .ok (.istore 4, 2) := by decide +kernel
theorem dX6_findWays_3 : decode cX6_findWays 3 = .ok (.iload 4, 2) := by decide +kernel
theorem dX6_findWays_5 : decode cX6_findWays 5 = .ok (.aload_n 0, 1) := by decide +kernel
theorem dX6_findWays_6 : decode cX6_findWays 6 = .ok (.getfield 113, 3) := by decide +kernel
theorem dX6_findWays_9 : decode cX6_findWays 9 = .ok (.if_icmp .ge 62, 3) := by decide +kernel
theorem dX6_findWays_12 : decode cX6_findWays 12 = .ok (.aload_n 0, 1) := by decide +kernel
theorem dX6_findWays_13 : decode cX6_findWays 13 = .ok (.getfield 100, 3) := by decide +kernel
theorem dX6_findWays_16 : decode cX6_findWays 16 = .ok (.iload 4, 2) := by decide +kernel
theorem dX6_findWays_18 : decode cX6_findWays 18 = .ok (.iload 4, 2) := by decide +kernel
theorem dX6_findWays_20 : decode cX6_findWays 20 = .ok (.iload_n 1, 1) := by decide +kernel
theorem dX6_findWays_21 : decode cX6_findWays 21 = .ok (.if_icmp .ne 32, 3) := by decide +kernel
theorem dX6_findWays_24 : decode cX6_findWays 24 = .ok (.aload_n 0, 1) := by decide +kernel
theorem dX6_findWays_25 : decode cX6_findWays 25 = .ok (.getfield 20, 3) := by decide +kernel
theorem dX6_findWays_28 : decode cX6_findWays 28 = .ok (.iload 4, 2) := by decide +kernel
theorem dX6_findWays_30 : decode cX6_findWays 30 = .ok (.iaload, 1) := by decide +kernel
theorem dX6_findWays_31 : decode cX6_findWays 31 = .ok (.ifCond .ne 22, 3) := by decide +kernel
theorem dX6_findWays_34 : decode cX6_findWays 34 = .ok (.iload_n 3, 1) := by decide +kernel
theorem dX6_findWays_35 : decode cX6_findWays 35 = .ok (.iload 4, 2) := by decide +kernel
theorem dX6_findWays_37 : decode cX6_findWays 37 = .ok (.ishr, 1) := by decide +kernel
theorem dX6_findWays_38 : decode cX6_findWays 38 = .ok (.iconst 1, 1) := by decide +kernel
theorem dX6_findWays_39 : decode cX6_findWays 39 = .ok (.iand, 1) := by decide +kernel
theorem dX6_findWays_40 : decode cX6_findWays 40 = .ok (.ifCond .ne 13, 3) := by decide +kernel
theorem dX6_findWays_43 : decode cX6_findWays 43 = .ok (.aload_n 0, 1) := by decide +kernel
theorem dX6_findWays_44 : decode cX6_findWays 44 = .ok (.iload 4, 2) := by decide +kernel
theorem dX6_findWays_46 : decode cX6_findWays 46 = .ok (.iload_n 2, 1) := by decide +kernel
theorem dX6_findWays_47 : decode cX6_findWays 47 = .ok (.invokevirtual 153, 3) := by decide +kernel
theorem dX6_findWays_50 : decode cX6_findWays 50 = .ok (.goto 6, 3) := by decide +kernel
theorem dX6_findWays_53 : decode cX6_findWays 53 = .ok (.ldc2_w 147, 3) := by decide +kernel
theorem dX6_findWays_56 : decode cX6_findWays 56 = .ok (.lastore, 1) := by decide +kernel
theorem dX6_findWays_57 : decode cX6_findWays 57 = .ok (.aload_n 0, 1) := by decide +kernel
theorem dX6_findWays_58 : decode cX6_findWays 58 = .ok (.getfield 103, 3) := by decide +kernel
theorem dX6_findWays_61 : decode cX6_findWays 61 = .ok (.iload 4, 2) := by decide +kernel
theorem dX6_findWays_63 : decode cX6_findWays 63 = .ok (.iconst 1, 1) := by decide +kernel
theorem dX6_findWays_64 : decode cX6_findWays 64 = .ok (.iastore, 1) := by decide +kernel
theorem dX6_findWays_65 : decode cX6_findWays 65 = .ok (.iinc 4 1, 3) := by decide +kernel
theorem dX6_findWays_68 : decode cX6_findWays 68 = .ok (.goto (-65), 3) := by decide +kernel
theorem dX6_findWays_71 : decode cX6_findWays 71 = .ok (.iconst 0, 1) := by decide +kernel
theorem dX6_findWays_72 : decode cX6_findWays 72 = .ok (.istore 4, 2) := by decide +kernel
theorem dX6_findWays_74 : decode cX6_findWays 74 = .ok (.iload 4, 2) := by decide +kernel
theorem dX6_findWays_76 : decode cX6_findWays 76 = .ok (.aload_n 0, 1) := by decide +kernel
theorem dX6_findWays_77 : decode cX6_findWays 77 = .ok (.getfield 113, 3) := by decide +kernel
theorem dX6_findWays_80 : decode cX6_findWays 80 = .ok (.if_icmp .ge 181, 3) := by decide +kernel
theorem dX6_findWays_83 : decode cX6_findWays 83 = .ok (.iconst 0, 1) := by decide +kernel
theorem dX6_findWays_84 : decode cX6_findWays 84 = .ok (.istore 5, 2) := by decide +kernel
theorem dX6_findWays_86 : decode cX6_findWays 86 = .ok (.iload 5, 2) := by decide +kernel
theorem dX6_findWays_88 : decode cX6_findWays 88 = .ok (.aload_n 0, 1) := by decide +kernel
theorem dX6_findWays_89 : decode cX6_findWays 89 = .ok (.getfield 113, 3) := by decide +kernel
theorem dX6_findWays_92 : decode cX6_findWays 92 = .ok (.if_icmp .ge 163, 3) := by decide +kernel
theorem dX6_findWays_95 : decode cX6_findWays 95 = .ok (.iconst 0, 1) := by decide +kernel
theorem dX6_findWays_96 : decode cX6_findWays 96 = .ok (.istore 6, 2) := by decide +kernel
theorem dX6_findWays_98 : decode cX6_findWays 98 = .ok (.iload 6, 2) := by decide +kernel
theorem dX6_findWays_100 : decode cX6_findWays 100 = .ok (.aload_n 0, 1) := by decide +kernel
theorem dX6_findWays_101 : decode cX6_findWays 101 = .ok (.getfield 113, 3) := by decide +kernel
theorem dX6_findWays_104 : decode cX6_findWays 104 = .ok (.if_icmp .ge 145, 3) := by decide +kernel
theorem dX6_findWays_107 : decode cX6_findWays 107 = .ok (.iload 5, 2) := by decide +kernel
theorem dX6_findWays_109 : decode cX6_findWays 109 = .ok (.iload_n 1, 1) := by decide +kernel
theorem dX6_findWays_110 : decode cX6_findWays 110 = .ok (.if_icmp .eq 38, 3) := by decide +kernel
theorem dX6_findWays_113 : decode cX6_findWays 113 = .ok (.aload_n 0, 1) := by decide +kernel
theorem dX6_findWays_114 : decode cX6_findWays 114 = .ok (.getfield 20, 3) := by decide +kernel
theorem dX6_findWays_117 : decode cX6_findWays 117 = .ok (.iload 5, 2) := by decide +kernel
theorem dX6_findWays_119 : decode cX6_findWays 119 = .ok (.iaload, 1) := by decide +kernel
theorem dX6_findWays_120 : decode cX6_findWays 120 = .ok (.ifCond .ne 28, 3) := by decide +kernel
theorem dX6_findWays_123 : decode cX6_findWays 123 = .ok (.iload_n 3, 1) := by decide +kernel
theorem dX6_findWays_124 : decode cX6_findWays 124 = .ok (.iload 5, 2) := by decide +kernel
theorem dX6_findWays_126 : decode cX6_findWays 126 = .ok (.ishr, 1) := by decide +kernel
theorem dX6_findWays_127 : decode cX6_findWays 127 = .ok (.iconst 1, 1) := by decide +kernel
theorem dX6_findWays_128 : decode cX6_findWays 128 = .ok (.iand, 1) := by decide +kernel
theorem dX6_findWays_129 : decode cX6_findWays 129 = .ok (.ifCond .ne 19, 3) := by decide +kernel
theorem dX6_findWays_132 : decode cX6_findWays 132 = .ok (.aload_n 0, 1) := by decide +kernel
theorem dX6_findWays_133 : decode cX6_findWays 133 = .ok (.iload 5, 2) := by decide +kernel
theorem dX6_findWays_135 : decode cX6_findWays 135 = .ok (.iload 6, 2) := by decide +kernel
theorem dX6_findWays_137 : decode cX6_findWays 137 = .ok (.iload_n 2, 1) := by decide +kernel
theorem dX6_findWays_138 : decode cX6_findWays 138 = .ok (.invokevirtual 156, 3) := by decide +kernel
theorem dX6_findWays_141 : decode cX6_findWays 141 = .ok (.ifCond .eq 7, 3) := by decide +kernel
theorem dX6_findWays_144 : decode cX6_findWays 144 = .ok (.iconst 1, 1) := by decide +kernel
theorem dX6_findWays_145 : decode cX6_findWays 145 = .ok (.goto 4, 3) := by decide +kernel
theorem dX6_findWays_148 : decode cX6_findWays 148 = .ok (.iconst 0, 1) := by decide +kernel
theorem dX6_findWays_149 : decode cX6_findWays 149 = .ok (.istore 7, 2) := by decide +kernel
theorem dX6_findWays_151 : decode cX6_findWays 151 = .ok (.aload_n 0, 1) := by decide +kernel
theorem dX6_findWays_152 : decode cX6_findWays 152 = .ok (.iload 5, 2) := by decide +kernel
theorem dX6_findWays_154 : decode cX6_findWays 154 = .ok (.iload_n 2, 1) := by decide +kernel
theorem dX6_findWays_155 : decode cX6_findWays 155 = .ok (.invokevirtual 153, 3) := by decide +kernel
theorem dX6_findWays_158 : decode cX6_findWays 158 = .ok (.aload_n 0, 1) := by decide +kernel
theorem dX6_findWays_159 : decode cX6_findWays 159 = .ok (.getfield 100, 3) := by decide +kernel
theorem dX6_findWays_162 : decode cX6_findWays 162 = .ok (.iload 6, 2) := by decide +kernel
theorem dX6_findWays_164 : decode cX6_findWays 164 = .ok (.laload, 1) := by decide +kernel
theorem dX6_findWays_165 : decode cX6_findWays 165 = .ok (.ladd, 1) := by decide +kernel
theorem dX6_findWays_166 : decode cX6_findWays 166 = .ok (.lstore 8, 2) := by decide +kernel
theorem dX6_findWays_168 : decode cX6_findWays 168 = .ok (.iload 7, 2) := by decide +kernel
theorem dX6_findWays_170 : decode cX6_findWays 170 = .ok (.ifCond .eq 73, 3) := by decide +kernel
theorem dX6_findWays_173 : decode cX6_findWays 173 = .ok (.lload 8, 2) := by decide +kernel
theorem dX6_findWays_175 : decode cX6_findWays 175 = .ok (.aload_n 0, 1) := by decide +kernel
theorem dX6_findWays_176 : decode cX6_findWays 176 = .ok (.getfield 100, 3) := by decide +kernel
theorem dX6_findWays_179 : decode cX6_findWays 179 = .ok (.iload 5, 2) := by decide +kernel
theorem dX6_findWays_181 : decode cX6_findWays 181 = .ok (.laload, 1) := by decide +kernel
theorem dX6_findWays_182 : decode cX6_findWays 182 = .ok (.lcmp, 1) := by decide +kernel
theorem dX6_findWays_183 : decode cX6_findWays 183 = .ok (.ifCond .lt 35, 3) := by decide +kernel
theorem dX6_findWays_186 : decode cX6_findWays 186 = .ok (.lload 8, 2) := by decide +kernel
theorem dX6_findWays_188 : decode cX6_findWays 188 = .ok (.aload_n 0, 1) := by decide +kernel
theorem dX6_findWays_189 : decode cX6_findWays 189 = .ok (.getfield 100, 3) := by decide +kernel
theorem dX6_findWays_192 : decode cX6_findWays 192 = .ok (.iload 5, 2) := by decide +kernel
theorem dX6_findWays_194 : decode cX6_findWays 194 = .ok (.laload, 1) := by decide +kernel
theorem dX6_findWays_195 : decode cX6_findWays 195 = .ok (.lcmp, 1) := by decide +kernel
theorem dX6_findWays_196 : decode cX6_findWays 196 = .ok (.ifCond .ne 47, 3) := by decide +kernel
theorem dX6_findWays_199 : decode cX6_findWays 199 = .ok (.aload_n 0, 1) := by decide +kernel
theorem dX6_findWays_200 : decode cX6_findWays 200 = .ok (.getfield 103, 3) := by decide +kernel
theorem dX6_findWays_203 : decode cX6_findWays 203 = .ok (.iload 6, 2) := by decide +kernel
theorem dX6_findWays_205 : decode cX6_findWays 205 = .ok (.iaload, 1) := by decide +kernel
theorem dX6_findWays_206 : decode cX6_findWays 206 = .ok (.iconst 1, 1) := by decide +kernel
theorem dX6_findWays_207 : decode cX6_findWays 207 = .ok (.iadd, 1) := by decide +kernel
theorem dX6_findWays_208 : decode cX6_findWays 208 = .ok (.aload_n 0, 1) := by decide +kernel
theorem dX6_findWays_209 : decode cX6_findWays 209 = .ok (.getfield 103, 3) := by decide +kernel
theorem dX6_findWays_212 : decode cX6_findWays 212 = .ok (.iload 5, 2) := by decide +kernel
theorem dX6_findWays_214 : decode cX6_findWays 214 = .ok (.iaload, 1) := by decide +kernel
theorem dX6_findWays_215 : decode cX6_findWays 215 = .ok (.if_icmp .ge 28, 3) := by decide +kernel
theorem dX6_findWays_218 : decode cX6_findWays 218 = .ok (.aload_n 0, 1) := by decide +kernel
theorem dX6_findWays_219 : decode cX6_findWays 219 = .ok (.getfield 100, 3) := by decide +kernel
theorem dX6_findWays_222 : decode cX6_findWays 222 = .ok (.iload 5, 2) := by decide +kernel
theorem dX6_findWays_224 : decode cX6_findWays 224 = .ok (.lload 8, 2) := by decide +kernel
theorem dX6_findWays_226 : decode cX6_findWays 226 = .ok (.lastore, 1) := by decide +kernel
theorem dX6_findWays_227 : decode cX6_findWays 227 = .ok (.aload_n 0, 1) := by decide +kernel
theorem dX6_findWays_228 : decode cX6_findWays 228 = .ok (.getfield 103, 3) := by decide +kernel
theorem dX6_findWays_231 : decode cX6_findWays 231 = .ok (.iload 5, 2) := by decide +kernel
theorem dX6_findWays_233 : decode cX6_findWays 233 = .ok (.aload_n 0, 1) := by decide +kernel
theorem dX6_findWays_234 : decode cX6_findWays 234 = .ok (.getfield 103, 3) := by decide +kernel
theorem dX6_findWays_237 : decode cX6_findWays 237 = .ok (.iload 6, 2) := by decide +kernel
theorem dX6_findWays_239 : decode cX6_findWays 239 = .ok (.iaload, 1) := by decide +kernel
theorem dX6_findWays_240 : decode cX6_findWays 240 = .ok (.iconst 1, 1) := by decide +kernel
theorem dX6_findWays_241 : decode cX6_findWays 241 = .ok (.iadd, 1) := by decide +kernel
theorem dX6_findWays_242 : decode cX6_findWays 242 = .ok (.iastore, 1) := by decide +kernel
theorem dX6_findWays_243 : decode cX6_findWays 243 = .ok (.iinc 6 1, 3) := by decide +kernel
theorem dX6_findWays_246 : decode cX6_findWays 246 = .ok (.goto (-148), 3) := by decide +kernel
theorem dX6_findWays_249 : decode cX6_findWays 249 = .ok (.iinc 5 1, 3) := by decide +kernel
theorem dX6_findWays_252 : decode cX6_findWays 252 = .ok (.goto (-166), 3) := by decide +kernel
theorem dX6_findWays_255 : decode cX6_findWays 255 = .ok (.iinc 4 1, 3) := by decide +kernel
theorem dX6_findWays_258 : decode cX6_findWays 258 = .ok (.goto (-184), 3) := by decide +kernel
theorem dX6_findWays_261 : decode cX6_findWays 261 = .ok (.return_, 1) := by decide +kernel
theorem dX6_findWay_0 : decode cX6_findWay 0 = .ok (.aload_n 0, 1) := by decide +kernel
theorem dX6_findWay_1 : decode cX6_findWay 1 = .ok (.iload_n 2, 1) := by decide +kernel
theorem dX6_findWay_2 : decode cX6_findWay 2 = .ok (.iload_n 3, 1) := by decide +kernel
theorem dX6_findWay_3 : decode cX6_findWay 3 = .ok (.iload 4, 2) := by decide +kernel
theorem dX6_findWay_5 : decode cX6_findWay 5 = .ok (.invokevirtual 159, 3) := by decide +kernel
theorem dX6_findWay_8 : decode cX6_findWay 8 = .ok (.aload_n 0, 1) := by decide +kernel
theorem dX6_findWay_9 : decode cX6_findWay 9 = .ok (.getfield 100, 3) := by decide +kernel
theorem dX6_findWay_12 : decode cX6_findWay 12 = .ok (.iload_n 1, 1) := by decide +kernel
theorem dX6_findWay_13 : decode cX6_findWay 13 = .ok (.laload, 1) := by decide +kernel
theorem dX6_findWay_14 : decode cX6_findWay 14 = .ok (.ldc2_w 147, 3) := by decide +kernel
theorem dX6_findWay_17 : decode cX6_findWay 17 = .ok (.lcmp, 1) := by decide +kernel
theorem dX6_findWay_18 : decode cX6_findWay 18 = .ok (.ifCond .lt 5, 3) := by decide +kernel
theorem dX6_findWay_21 : decode cX6_findWay 21 = .ok (.iconst 0, 1) := by decide +kernel
theorem dX6_findWay_22 : decode cX6_findWay 22 = .ok (.ireturn, 1) := by decide +kernel
theorem dX6_findWay_23 : decode cX6_findWay 23 = .ok (.iconst 0, 1) := by decide +kernel
theorem dX6_findWay_24 : decode cX6_findWay 24 = .ok (.istore 5, 2) := by decide +kernel
theorem dX6_findWay_26 : decode cX6_findWay 26 = .ok (.iload_n 1, 1) := by decide +kernel
theorem dX6_findWay_27 : decode cX6_findWay 27 = .ok (.istore 6, 2) := by decide +kernel
theorem dX6_findWay_29 : decode cX6_findWay 29 = .ok (.iload 6, 2) := by decide +kernel
theorem dX6_findWay_31 : decode cX6_findWay 31 = .ok (.iload_n 2, 1) := by decide +kernel
theorem dX6_findWay_32 : decode cX6_findWay 32 = .ok (.if_icmp .eq 122, 3) := by decide +kernel
theorem dX6_findWay_35 : decode cX6_findWay 35 = .ok (.aload_n 0, 1) := by decide +kernel
theorem dX6_findWay_36 : decode cX6_findWay 36 = .ok (.getfield 106, 3) := by decide +kernel
theorem dX6_findWay_39 : decode cX6_findWay 39 = .ok (.iload 5, 2) := by decide +kernel
theorem dX6_findWay_41 : decode cX6_findWay 41 = .ok (.iload 6, 2) := by decide +kernel
theorem dX6_findWay_43 : decode cX6_findWay 43 = .ok (.iastore, 1) := by decide +kernel
theorem dX6_findWay_44 : decode cX6_findWay 44 = .ok (.iinc 5 1, 3) := by decide +kernel
theorem dX6_findWay_47 : decode cX6_findWay 47 = .ok (.iconst (-1), 1) := by decide +kernel
theorem dX6_findWay_48 : decode cX6_findWay 48 = .ok (.istore 7, 2) := by decide +kernel
theorem dX6_findWay_50 : decode cX6_findWay 50 = .ok (.aload_n 0, 1) := by decide +kernel
theorem dX6_findWay_51 : decode cX6_findWay 51 = .ok (.getfield 113, 3) := by decide +kernel
theorem dX6_findWay_54 : decode cX6_findWay 54 = .ok (.iconst 1, 1) := by decide +kernel
theorem dX6_findWay_55 : decode cX6_findWay 55 = .ok (.isub, 1) := by decide +kernel
theorem dX6_findWay_56 : decode cX6_findWay 56 = .ok (.istore 8, 2) := by decide +kernel
theorem dX6_findWay_58 : decode cX6_findWay 58 = .ok (.iload 8, 2) := by decide +kernel
theorem dX6_findWay_60 : decode cX6_findWay 60 = .ok (.ifCond .lt 87, 3) := by decide +kernel
theorem dX6_findWay_63 : decode cX6_findWay 63 = .ok (.aload_n 0, 1) := by decide +kernel
theorem dX6_findWay_64 : decode cX6_findWay 64 = .ok (.iload 6, 2) := by decide +kernel
theorem dX6_findWay_66 : decode cX6_findWay 66 = .ok (.iload 8, 2) := by decide +kernel
theorem dX6_findWay_68 : decode cX6_findWay 68 = .ok (.iload_n 3, 1) := by decide +kernel
theorem dX6_findWay_69 : decode cX6_findWay 69 = .ok (.invokevirtual 156, 3) := by decide +kernel
theorem dX6_findWay_72 : decode cX6_findWay 72 = .ok (.ifCond .eq 52, 3) := by decide +kernel
theorem dX6_findWay_75 : decode cX6_findWay 75 = .ok (.aload_n 0, 1) := by decide +kernel
theorem dX6_findWay_76 : decode cX6_findWay 76 = .ok (.iload 6, 2) := by decide +kernel
theorem dX6_findWay_78 : decode cX6_findWay 78 = .ok (.iload_n 3, 1) := by decide +kernel
theorem dX6_findWay_79 : decode cX6_findWay 79 = .ok (.invokevirtual 153, 3) := by decide +kernel
theorem dX6_findWay_82 : decode cX6_findWay 82 = .ok (.aload_n 0, 1) := by decide +kernel
theorem dX6_findWay_83 : decode cX6_findWay 83 = .ok (.getfield 100, 3) := by decide +kernel
theorem dX6_findWay_86 : decode cX6_findWay 86 = .ok (.iload 8, 2) := by decide +kernel
theorem dX6_findWay_88 : decode cX6_findWay 88 = .ok (.laload, 1) := by decide +kernel
theorem dX6_findWay_89 : decode cX6_findWay 89 = .ok (.ladd, 1) := by decide +kernel
theorem dX6_findWay_90 : decode cX6_findWay 90 = .ok (.aload_n 0, 1) := by decide +kernel
theorem dX6_findWay_91 : decode cX6_findWay 91 = .ok (.getfield 100, 3) := by decide +kernel
theorem dX6_findWay_94 : decode cX6_findWay 94 = .ok (.iload 6, 2) := by decide +kernel
theorem dX6_findWay_96 : decode cX6_findWay 96 = .ok (.laload, 1) := by decide +kernel
theorem dX6_findWay_97 : decode cX6_findWay 97 = .ok (.lcmp, 1) := by decide +kernel
theorem dX6_findWay_98 : decode cX6_findWay 98 = .ok (.ifCond .ne 26, 3) := by decide +kernel
theorem dX6_findWay_101 : decode cX6_findWay 101 = .ok (.aload_n 0, 1) := by decide +kernel
theorem dX6_findWay_102 : decode cX6_findWay 102 = .ok (.getfield 103, 3) := by decide +kernel
theorem dX6_findWay_105 : decode cX6_findWay 105 = .ok (.iload 8, 2) := by decide +kernel
theorem dX6_findWay_107 : decode cX6_findWay 107 = .ok (.iaload, 1) := by decide +kernel
theorem dX6_findWay_108 : decode cX6_findWay 108 = .ok (.iconst 1, 1) := by decide +kernel
theorem dX6_findWay_109 : decode cX6_findWay 109 = .ok (.iadd, 1) := by decide +kernel
theorem dX6_findWay_110 : decode cX6_findWay 110 = .ok (.aload_n 0, 1) := by decide +kernel
theorem dX6_findWay_111 : decode cX6_findWay 111 = .ok (.getfield 103, 3) := by decide +kernel
theorem dX6_findWay_114 : decode cX6_findWay 114 = .ok (.iload 6, 2) := by decide +kernel
theorem dX6_findWay_116 : decode cX6_findWay 116 = .ok (.iaload, 1) := by decide +kernel
theorem dX6_findWay_117 : decode cX6_findWay 117 = .ok (.if_icmp .ne 7, 3) := by decide +kernel
theorem dX6_findWay_120 : decode cX6_findWay 120 = .ok (.iconst 1, 1) := by decide +kernel
theorem dX6_findWay_121 : decode cX6_findWay 121 = .ok (.goto 4, 3) := by decide +kernel
theorem dX6_findWay_124 : decode cX6_findWay 124 = .ok (.iconst 0, 1) := by decide +kernel
theorem dX6_findWay_125 : decode cX6_findWay 125 = .ok (.istore 9, 2) := by decide +kernel
theorem dX6_findWay_127 : decode cX6_findWay 127 = .ok (.iload 9, 2) := by decide +kernel
theorem dX6_findWay_129 : decode cX6_findWay 129 = .ok (.ifCond .eq 8, 3) := by decide +kernel
theorem dX6_findWay_132 : decode cX6_findWay 132 = .ok (.iload 8, 2) := by decide +kernel
theorem dX6_findWay_134 : decode cX6_findWay 134 = .ok (.goto 5, 3) := by decide +kernel
theorem dX6_findWay_137 : decode cX6_findWay 137 = .ok (.iload 7, 2) := by decide +kernel
theorem dX6_findWay_139 : decode cX6_findWay 139 = .ok (.istore 7, 2) := by decide +kernel
theorem dX6_findWay_141 : decode cX6_findWay 141 = .ok (.iinc 8 (-1), 3) := by decide +kernel
theorem dX6_findWay_144 : decode cX6_findWay 144 = .ok (.goto (-86), 3) := by decide +kernel
theorem dX6_findWay_147 : decode cX6_findWay 147 = .ok (.iload 7, 2) := by decide +kernel
theorem dX6_findWay_149 : decode cX6_findWay 149 = .ok (.istore 6, 2) := by decide +kernel
theorem dX6_findWay_151 : decode cX6_findWay 151 = .ok (.goto (-122), 3) := by decide +kernel
theorem dX6_findWay_154 : decode cX6_findWay 154 = .ok (.aload_n 0, 1) := by decide +kernel
theorem dX6_findWay_155 : decode cX6_findWay 155 = .ok (.getfield 106, 3) := by decide +kernel
theorem dX6_findWay_158 : decode cX6_findWay 158 = .ok (.iload 5, 2) := by decide +kernel
theorem dX6_findWay_160 : decode cX6_findWay 160 = .ok (.iload_n 2, 1) := by decide +kernel
theorem dX6_findWay_161 : decode cX6_findWay 161 = .ok (.iastore, 1) := by decide +kernel
theorem dX6_findWay_162 : decode cX6_findWay 162 = .ok (.iload 5, 2) := by decide +kernel
theorem dX6_findWay_164 : decode cX6_findWay 164 = .ok (.iconst 1, 1) := by decide +kernel
theorem dX6_findWay_165 : decode cX6_findWay 165 = .ok (.iadd, 1) := by decide +kernel
theorem dX6_findWay_166 : decode cX6_findWay 166 = .ok (.ireturn, 1) := by decide +kernel
theorem dX6_lay_0 : decode cX6_lay 0 = .ok (.aload_n 0, 1) := by decide +kernel
theorem dX6_lay_1 : decode cX6_lay 1 = .ok (.getfield 63, 3) := by decide +kernel
theorem dX6_lay_4 : decode cX6_lay 4 = .ok (.iload_n 1, 1) := by decide +kernel
theorem dX6_lay_5 : decode cX6_lay 5 = .ok (.iload_n 2, 1) := by decide +kernel
theorem dX6_lay_6 : decode cX6_lay 6 = .ok (.iload_n 3, 1) := by decide +kernel
theorem dX6_lay_7 : decode cX6_lay 7 = .ok (.iadd, 1) := by decide +kernel
theorem dX6_lay_8 : decode cX6_lay 8 = .ok (.iastore, 1) := by decide +kernel
theorem dX6_lay_9 : decode cX6_lay 9 = .ok (.iconst 0, 1) := by decide +kernel
theorem dX6_lay_10 : decode cX6_lay 10 = .ok (.istore 4, 2) := by decide +kernel
theorem dX6_lay_12 : decode cX6_lay 12 = .ok (.iload 4, 2) := by decide +kernel
theorem dX6_lay_14 : decode cX6_lay 14 = .ok (.iload_n 3, 1) := by decide +kernel
theorem dX6_lay_15 : decode cX6_lay 15 = .ok (.if_icmp .ge 30, 3) := by decide +kernel
theorem dX6_lay_18 : decode cX6_lay 18 = .ok (.aload_n 0, 1) := by decide +kernel
theorem dX6_lay_19 : decode cX6_lay 19 = .ok (.getfield 66, 3) := by decide +kernel
theorem dX6_lay_22 : decode cX6_lay 22 = .ok (.bipush 12, 2) := by decide +kernel
theorem dX6_lay_24 : decode cX6_lay 24 = .ok (.iload_n 1, 1) := by decide +kernel
theorem dX6_lay_25 : decode cX6_lay 25 = .ok (.imul, 1) := by decide +kernel
theorem dX6_lay_26 : decode cX6_lay 26 = .ok (.iload_n 2, 1) := by decide +kernel
theorem dX6_lay_27 : decode cX6_lay 27 = .ok (.iadd, 1) := by decide +kernel
theorem dX6_lay_28 : decode cX6_lay 28 = .ok (.iload 4, 2) := by decide +kernel
theorem dX6_lay_30 : decode cX6_lay 30 = .ok (.iadd, 1) := by decide +kernel
theorem dX6_lay_31 : decode cX6_lay 31 = .ok (.aload_n 0, 1) := by decide +kernel
theorem dX6_lay_32 : decode cX6_lay 32 = .ok (.getfield 106, 3) := by decide +kernel
theorem dX6_lay_35 : decode cX6_lay 35 = .ok (.iload 4, 2) := by decide +kernel
theorem dX6_lay_37 : decode cX6_lay 37 = .ok (.iaload, 1) := by decide +kernel
theorem dX6_lay_38 : decode cX6_lay 38 = .ok (.iastore, 1) := by decide +kernel
theorem dX6_lay_39 : decode cX6_lay 39 = .ok (.iinc 4 1, 3) := by decide +kernel
theorem dX6_lay_42 : decode cX6_lay 42 = .ok (.goto (-30), 3) := by decide +kernel
theorem dX6_lay_45 : decode cX6_lay 45 = .ok (.iconst 0, 1) := by decide +kernel
theorem dX6_lay_46 : decode cX6_lay 46 = .ok (.istore 4, 2) := by decide +kernel
theorem dX6_lay_48 : decode cX6_lay 48 = .ok (.iload 4, 2) := by decide +kernel
theorem dX6_lay_50 : decode cX6_lay 50 = .ok (.iload_n 3, 1) := by decide +kernel
theorem dX6_lay_51 : decode cX6_lay 51 = .ok (.iconst 1, 1) := by decide +kernel
theorem dX6_lay_52 : decode cX6_lay 52 = .ok (.isub, 1) := by decide +kernel
theorem dX6_lay_53 : decode cX6_lay 53 = .ok (.if_icmp .ge 56, 3) := by decide +kernel
theorem dX6_lay_56 : decode cX6_lay 56 = .ok (.aload_n 0, 1) := by decide +kernel
theorem dX6_lay_57 : decode cX6_lay 57 = .ok (.getfield 69, 3) := by decide +kernel
theorem dX6_lay_60 : decode cX6_lay 60 = .ok (.bipush 12, 2) := by decide +kernel
theorem dX6_lay_62 : decode cX6_lay 62 = .ok (.iload_n 1, 1) := by decide +kernel
theorem dX6_lay_63 : decode cX6_lay 63 = .ok (.imul, 1) := by decide +kernel
theorem dX6_lay_64 : decode cX6_lay 64 = .ok (.iload_n 2, 1) := by decide +kernel
theorem dX6_lay_65 : decode cX6_lay 65 = .ok (.iadd, 1) := by decide +kernel
theorem dX6_lay_66 : decode cX6_lay 66 = .ok (.iload 4, 2) := by decide +kernel
theorem dX6_lay_68 : decode cX6_lay 68 = .ok (.iadd, 1) := by decide +kernel
theorem dX6_lay_69 : decode cX6_lay 69 = .ok (.aload_n 0, 1) := by decide +kernel
theorem dX6_lay_70 : decode cX6_lay 70 = .ok (.getfield 45, 3) := by decide +kernel
theorem dX6_lay_73 : decode cX6_lay 73 = .ok (.iload_n 1, 1) := by decide +kernel
theorem dX6_lay_74 : decode cX6_lay 74 = .ok (.iaload, 1) := by decide +kernel
theorem dX6_lay_75 : decode cX6_lay 75 = .ok (.i2l, 1) := by decide +kernel
theorem dX6_lay_76 : decode cX6_lay 76 = .ok (.aload_n 0, 1) := by decide +kernel
theorem dX6_lay_77 : decode cX6_lay 77 = .ok (.getfield 100, 3) := by decide +kernel
theorem dX6_lay_80 : decode cX6_lay 80 = .ok (.aload_n 0, 1) := by decide +kernel
theorem dX6_lay_81 : decode cX6_lay 81 = .ok (.getfield 106, 3) := by decide +kernel
theorem dX6_lay_84 : decode cX6_lay 84 = .ok (.iload 4, 2) := by decide +kernel
theorem dX6_lay_86 : decode cX6_lay 86 = .ok (.iconst 1, 1) := by decide +kernel
theorem dX6_lay_87 : decode cX6_lay 87 = .ok (.iadd, 1) := by decide +kernel
theorem dX6_lay_88 : decode cX6_lay 88 = .ok (.iaload, 1) := by decide +kernel
theorem dX6_lay_89 : decode cX6_lay 89 = .ok (.laload, 1) := by decide +kernel
theorem dX6_lay_90 : decode cX6_lay 90 = .ok (.ladd, 1) := by decide +kernel
theorem dX6_lay_91 : decode cX6_lay 91 = .ok (.l2i, 1) := by decide +kernel
theorem dX6_lay_92 : decode cX6_lay 92 = .ok (.iastore, 1) := by decide +kernel
theorem dX6_lay_93 : decode cX6_lay 93 = .ok (.aload_n 0, 1) := by decide +kernel
theorem dX6_lay_94 : decode cX6_lay 94 = .ok (.iload_n 1, 1) := by decide +kernel
theorem dX6_lay_95 : decode cX6_lay 95 = .ok (.iload_n 2, 1) := by decide +kernel
theorem dX6_lay_96 : decode cX6_lay 96 = .ok (.iload 4, 2) := by decide +kernel
theorem dX6_lay_98 : decode cX6_lay 98 = .ok (.iadd, 1) := by decide +kernel
theorem dX6_lay_99 : decode cX6_lay 99 = .ok (.iconst 1, 1) := by decide +kernel
theorem dX6_lay_100 : decode cX6_lay 100 = .ok (.invokevirtual 139, 3) := by decide +kernel
theorem dX6_lay_103 : decode cX6_lay 103 = .ok (.iinc 4 1, 3) := by decide +kernel
theorem dX6_lay_106 : decode cX6_lay 106 = .ok (.goto (-58), 3) := by decide +kernel
theorem dX6_lay_109 : decode cX6_lay 109 = .ok (.return_, 1) := by decide +kernel
theorem dX6_firstOf_0 : decode cX6_firstOf 0 = .ok (.aload_n 0, 1) := by decide +kernel
theorem dX6_firstOf_1 : decode cX6_firstOf 1 = .ok (.getfield 66, 3) := by decide +kernel
theorem dX6_firstOf_4 : decode cX6_firstOf 4 = .ok (.bipush 12, 2) := by decide +kernel
theorem dX6_firstOf_6 : decode cX6_firstOf 6 = .ok (.iload_n 1, 1) := by decide +kernel
theorem dX6_firstOf_7 : decode cX6_firstOf 7 = .ok (.imul, 1) := by decide +kernel
theorem dX6_firstOf_8 : decode cX6_firstOf 8 = .ok (.iaload, 1) := by decide +kernel
theorem dX6_firstOf_9 : decode cX6_firstOf 9 = .ok (.ireturn, 1) := by decide +kernel
theorem dX6_goBack_0 : decode cX6_goBack 0 = .ok (.aload_n 0, 1) := by decide +kernel
theorem dX6_goBack_1 : decode cX6_goBack 1 = .ok (.iload_n 1, 1) := by decide +kernel
theorem dX6_goBack_2 : decode cX6_goBack 2 = .ok (.iconst 0, 1) := by decide +kernel
theorem dX6_goBack_3 : decode cX6_goBack 3 = .ok (.invokevirtual 162, 3) := by decide +kernel
theorem dX6_goBack_6 : decode cX6_goBack 6 = .ok (.aload_n 0, 1) := by decide +kernel
theorem dX6_goBack_7 : decode cX6_goBack 7 = .ok (.getfield 42, 3) := by decide +kernel
theorem dX6_goBack_10 : decode cX6_goBack 10 = .ok (.iload_n 1, 1) := by decide +kernel
theorem dX6_goBack_11 : decode cX6_goBack 11 = .ok (.aload_n 0, 1) := by decide +kernel
theorem dX6_goBack_12 : decode cX6_goBack 12 = .ok (.getfield 20, 3) := by decide +kernel
theorem dX6_goBack_15 : decode cX6_goBack 15 = .ok (.aload_n 0, 1) := by decide +kernel
theorem dX6_goBack_16 : decode cX6_goBack 16 = .ok (.iload_n 1, 1) := by decide +kernel
theorem dX6_goBack_17 : decode cX6_goBack 17 = .ok (.invokevirtual 166, 3) := by decide +kernel
theorem dX6_goBack_20 : decode cX6_goBack 20 = .ok (.iaload, 1) := by decide +kernel
theorem dX6_goBack_21 : decode cX6_goBack 21 = .ok (.iconst 2, 1) := by decide +kernel
theorem dX6_goBack_22 : decode cX6_goBack 22 = .ok (.if_icmp .ne 7, 3) := by decide +kernel
theorem dX6_goBack_25 : decode cX6_goBack 25 = .ok (.iconst 5, 1) := by decide +kernel
theorem dX6_goBack_26 : decode cX6_goBack 26 = .ok (.goto 4, 3) := by decide +kernel
theorem dX6_goBack_29 : decode cX6_goBack 29 = .ok (.iconst 3, 1) := by decide +kernel
theorem dX6_goBack_30 : decode cX6_goBack 30 = .ok (.iastore, 1) := by decide +kernel
theorem dX6_goBack_31 : decode cX6_goBack 31 = .ok (.return_, 1) := by decide +kernel
theorem dX6_placeOn_0 : decode cX6_placeOn 0 = .ok (.iconst (-1), 1) := by decide +kernel
theorem dX6_placeOn_1 : decode cX6_placeOn 1 = .ok (.istore_n 3, 1) := by decide +kernel
theorem dX6_placeOn_2 : decode cX6_placeOn 2 = .ok (.iconst 0, 1) := by decide +kernel
theorem dX6_placeOn_3 : decode cX6_placeOn 3 = .ok (.istore 4, 2) := by decide +kernel
theorem dX6_placeOn_5 : decode cX6_placeOn 5 = .ok (.iload 4, 2) := by decide +kernel
theorem dX6_placeOn_7 : decode cX6_placeOn 7 = .ok (.aload_n 0, 1) := by decide +kernel
theorem dX6_placeOn_8 : decode cX6_placeOn 8 = .ok (.getfield 63, 3) := by decide +kernel
theorem dX6_placeOn_11 : decode cX6_placeOn 11 = .ok (.iload_n 1, 1) := by decide +kernel
theorem dX6_placeOn_12 : decode cX6_placeOn 12 = .ok (.iaload, 1) := by decide +kernel
theorem dX6_placeOn_13 : decode cX6_placeOn 13 = .ok (.if_icmp .ge 32, 3) := by decide +kernel
theorem dX6_placeOn_16 : decode cX6_placeOn 16 = .ok (.aload_n 0, 1) := by decide +kernel
theorem dX6_placeOn_17 : decode cX6_placeOn 17 = .ok (.getfield 66, 3) := by decide +kernel
theorem dX6_placeOn_20 : decode cX6_placeOn 20 = .ok (.bipush 12, 2) := by decide +kernel
theorem dX6_placeOn_22 : decode cX6_placeOn 22 = .ok (.iload_n 1, 1) := by decide +kernel
theorem dX6_placeOn_23 : decode cX6_placeOn 23 = .ok (.imul, 1) := by decide +kernel
theorem dX6_placeOn_24 : decode cX6_placeOn 24 = .ok (.iload 4, 2) := by decide +kernel
theorem dX6_placeOn_26 : decode cX6_placeOn 26 = .ok (.iadd, 1) := by decide +kernel
theorem dX6_placeOn_27 : decode cX6_placeOn 27 = .ok (.iaload, 1) := by decide +kernel
theorem dX6_placeOn_28 : decode cX6_placeOn 28 = .ok (.iload_n 2, 1) := by decide +kernel
theorem dX6_placeOn_29 : decode cX6_placeOn 29 = .ok (.if_icmp .ne 8, 3) := by decide +kernel
theorem dX6_placeOn_32 : decode cX6_placeOn 32 = .ok (.iload 4, 2) := by decide +kernel
theorem dX6_placeOn_34 : decode cX6_placeOn 34 = .ok (.goto 4, 3) := by decide +kernel
theorem dX6_placeOn_37 : decode cX6_placeOn 37 = .ok (.iload_n 3, 1) := by decide +kernel
theorem dX6_placeOn_38 : decode cX6_placeOn 38 = .ok (.istore_n 3, 1) := by decide +kernel
theorem dX6_placeOn_39 : decode cX6_placeOn 39 = .ok (.iinc 4 1, 3) := by decide +kernel
theorem dX6_placeOn_42 : decode cX6_placeOn 42 = .ok (.goto (-37), 3) := by decide +kernel
theorem dX6_placeOn_45 : decode cX6_placeOn 45 = .ok (.iload_n 3, 1) := by decide +kernel
theorem dX6_placeOn_46 : decode cX6_placeOn 46 = .ok (.ireturn, 1) := by decide +kernel
theorem dX6_goElsewhere_0 : decode cX6_goElsewhere 0 = .ok (.aload_n 0, 1) := by decide +kernel
theorem dX6_goElsewhere_1 : decode cX6_goElsewhere 1 = .ok (.getfield 60, 3) := by decide +kernel
theorem dX6_goElsewhere_4 : decode cX6_goElsewhere 4 = .ok (.iload_n 1, 1) := by decide +kernel
theorem dX6_goElsewhere_5 : decode cX6_goElsewhere 5 = .ok (.iaload, 1) := by decide +kernel
theorem dX6_goElsewhere_6 : decode cX6_goElsewhere 6 = .ok (.istore_n 2, 1) := by decide +kernel
theorem dX6_goElsewhere_7 : decode cX6_goElsewhere 7 = .ok (.aload_n 0, 1) := by decide +kernel
theorem dX6_goElsewhere_8 : decode cX6_goElsewhere 8 = .ok (.getfield 66, 3) := by decide +kernel
theorem dX6_goElsewhere_11 : decode cX6_goElsewhere 11 = .ok (.bipush 12, 2) := by decide +kernel
theorem dX6_goElsewhere_13 : decode cX6_goElsewhere 13 = .ok (.iload_n 1, 1) := by decide +kernel
theorem dX6_goElsewhere_14 : decode cX6_goElsewhere 14 = .ok (.imul, 1) := by decide +kernel
theorem dX6_goElsewhere_15 : decode cX6_goElsewhere 15 = .ok (.iload_n 2, 1) := by decide +kernel
theorem dX6_goElsewhere_16 : decode cX6_goElsewhere 16 = .ok (.iadd, 1) := by decide +kernel
theorem dX6_goElsewhere_17 : decode cX6_goElsewhere 17 = .ok (.iaload, 1) := by decide +kernel
theorem dX6_goElsewhere_18 : decode cX6_goElsewhere 18 = .ok (.istore_n 3, 1) := by decide +kernel
theorem dX6_goElsewhere_19 : decode cX6_goElsewhere 19 = .ok (.aload_n 0, 1) := by decide +kernel
theorem dX6_goElsewhere_20 : decode cX6_goElsewhere 20 = .ok (.getfield 66, 3) := by decide +kernel
theorem dX6_goElsewhere_23 : decode cX6_goElsewhere 23 = .ok (.bipush 12, 2) := by decide +kernel
theorem dX6_goElsewhere_25 : decode cX6_goElsewhere 25 = .ok (.iload_n 1, 1) := by decide +kernel
theorem dX6_goElsewhere_26 : decode cX6_goElsewhere 26 = .ok (.imul, 1) := by decide +kernel
theorem dX6_goElsewhere_27 : decode cX6_goElsewhere 27 = .ok (.aload_n 0, 1) := by decide +kernel
theorem dX6_goElsewhere_28 : decode cX6_goElsewhere 28 = .ok (.getfield 63, 3) := by decide +kernel
theorem dX6_goElsewhere_31 : decode cX6_goElsewhere 31 = .ok (.iload_n 1, 1) := by decide +kernel
theorem dX6_goElsewhere_32 : decode cX6_goElsewhere 32 = .ok (.iaload, 1) := by decide +kernel
theorem dX6_goElsewhere_33 : decode cX6_goElsewhere 33 = .ok (.iadd, 1) := by decide +kernel
theorem dX6_goElsewhere_34 : decode cX6_goElsewhere 34 = .ok (.iconst 1, 1) := by decide +kernel
theorem dX6_goElsewhere_35 : decode cX6_goElsewhere 35 = .ok (.isub, 1) := by decide +kernel
theorem dX6_goElsewhere_36 : decode cX6_goElsewhere 36 = .ok (.iaload, 1) := by decide +kernel
theorem dX6_goElsewhere_37 : decode cX6_goElsewhere 37 = .ok (.istore 4, 2) := by decide +kernel
theorem dX6_goElsewhere_39 : decode cX6_goElsewhere 39 = .ok (.iconst 0, 1) := by decide +kernel
theorem dX6_goElsewhere_40 : decode cX6_goElsewhere 40 = .ok (.istore 5, 2) := by decide +kernel
theorem dX6_goElsewhere_42 : decode cX6_goElsewhere 42 = .ok (.iconst 0, 1) := by decide +kernel
theorem dX6_goElsewhere_43 : decode cX6_goElsewhere 43 = .ok (.istore 6, 2) := by decide +kernel
theorem dX6_goElsewhere_45 : decode cX6_goElsewhere 45 = .ok (.iload 6, 2) := by decide +kernel
theorem dX6_goElsewhere_47 : decode cX6_goElsewhere 47 = .ok (.iload_n 2, 1) := by decide +kernel
theorem dX6_goElsewhere_48 : decode cX6_goElsewhere 48 = .ok (.if_icmp .ge 28, 3) := by decide +kernel
theorem dX6_goElsewhere_51 : decode cX6_goElsewhere 51 = .ok (.iload 5, 2) := by decide +kernel
theorem dX6_goElsewhere_53 : decode cX6_goElsewhere 53 = .ok (.iconst 1, 1) := by decide +kernel
theorem dX6_goElsewhere_54 : decode cX6_goElsewhere 54 = .ok (.aload_n 0, 1) := by decide +kernel
theorem dX6_goElsewhere_55 : decode cX6_goElsewhere 55 = .ok (.getfield 66, 3) := by decide +kernel
theorem dX6_goElsewhere_58 : decode cX6_goElsewhere 58 = .ok (.bipush 12, 2) := by decide +kernel
theorem dX6_goElsewhere_60 : decode cX6_goElsewhere 60 = .ok (.iload_n 1, 1) := by decide +kernel
theorem dX6_goElsewhere_61 : decode cX6_goElsewhere 61 = .ok (.imul, 1) := by decide +kernel
theorem dX6_goElsewhere_62 : decode cX6_goElsewhere 62 = .ok (.iload 6, 2) := by decide +kernel
theorem dX6_goElsewhere_64 : decode cX6_goElsewhere 64 = .ok (.iadd, 1) := by decide +kernel
theorem dX6_goElsewhere_65 : decode cX6_goElsewhere 65 = .ok (.iaload, 1) := by decide +kernel
theorem dX6_goElsewhere_66 : decode cX6_goElsewhere 66 = .ok (.ishl, 1) := by decide +kernel
theorem dX6_goElsewhere_67 : decode cX6_goElsewhere 67 = .ok (.ior, 1) := by decide +kernel
theorem dX6_goElsewhere_68 : decode cX6_goElsewhere 68 = .ok (.istore 5, 2) := by decide +kernel
theorem dX6_goElsewhere_70 : decode cX6_goElsewhere 70 = .ok (.iinc 6 1, 3) := by decide +kernel
theorem dX6_goElsewhere_73 : decode cX6_goElsewhere 73 = .ok (.goto (-28), 3) := by decide +kernel
theorem dX6_goElsewhere_76 : decode cX6_goElsewhere 76 = .ok (.aload_n 0, 1) := by decide +kernel
theorem dX6_goElsewhere_77 : decode cX6_goElsewhere 77 = .ok (.getfield 69, 3) := by decide +kernel
theorem dX6_goElsewhere_80 : decode cX6_goElsewhere 80 = .ok (.bipush 12, 2) := by decide +kernel
theorem dX6_goElsewhere_82 : decode cX6_goElsewhere 82 = .ok (.iload_n 1, 1) := by decide +kernel
theorem dX6_goElsewhere_83 : decode cX6_goElsewhere 83 = .ok (.imul, 1) := by decide +kernel
theorem dX6_goElsewhere_84 : decode cX6_goElsewhere 84 = .ok (.iload_n 2, 1) := by decide +kernel
theorem dX6_goElsewhere_85 : decode cX6_goElsewhere 85 = .ok (.iadd, 1) := by decide +kernel
theorem dX6_goElsewhere_86 : decode cX6_goElsewhere 86 = .ok (.iaload, 1) := by decide +kernel
theorem dX6_goElsewhere_87 : decode cX6_goElsewhere 87 = .ok (.aload_n 0, 1) := by decide +kernel
theorem dX6_goElsewhere_88 : decode cX6_goElsewhere 88 = .ok (.getfield 45, 3) := by decide +kernel
theorem dX6_goElsewhere_91 : decode cX6_goElsewhere 91 = .ok (.iload_n 1, 1) := by decide +kernel
theorem dX6_goElsewhere_92 : decode cX6_goElsewhere 92 = .ok (.iaload, 1) := by decide +kernel
theorem dX6_goElsewhere_93 : decode cX6_goElsewhere 93 = .ok (.isub, 1) := by decide +kernel
theorem dX6_goElsewhere_94 : decode cX6_goElsewhere 94 = .ok (.i2l, 1) := by decide +kernel
theorem dX6_goElsewhere_95 : decode cX6_goElsewhere 95 = .ok (.lstore 6, 2) := by decide +kernel
theorem dX6_goElsewhere_97 : decode cX6_goElsewhere 97 = .ok (.aload_n 0, 1) := by decide +kernel
theorem dX6_goElsewhere_98 : decode cX6_goElsewhere 98 = .ok (.iload_n 1, 1) := by decide +kernel
theorem dX6_goElsewhere_99 : decode cX6_goElsewhere 99 = .ok (.iload_n 2, 1) := by decide +kernel
theorem dX6_goElsewhere_100 : decode cX6_goElsewhere 100 = .ok (.invokevirtual 162, 3) := by decide +kernel
theorem dX6_goElsewhere_103 : decode cX6_goElsewhere 103 = .ok (.aload_n 0, 1) := by decide +kernel
theorem dX6_goElsewhere_104 : decode cX6_goElsewhere 104 = .ok (.iload_n 3, 1) := by decide +kernel
theorem dX6_goElsewhere_105 : decode cX6_goElsewhere 105 = .ok (.iload 4, 2) := by decide +kernel
theorem dX6_goElsewhere_107 : decode cX6_goElsewhere 107 = .ok (.aload_n 0, 1) := by decide +kernel
theorem dX6_goElsewhere_108 : decode cX6_goElsewhere 108 = .ok (.getfield 45, 3) := by decide +kernel
theorem dX6_goElsewhere_111 : decode cX6_goElsewhere 111 = .ok (.iload_n 1, 1) := by decide +kernel
theorem dX6_goElsewhere_112 : decode cX6_goElsewhere 112 = .ok (.iaload, 1) := by decide +kernel
theorem dX6_goElsewhere_113 : decode cX6_goElsewhere 113 = .ok (.iload 5, 2) := by decide +kernel
theorem dX6_goElsewhere_115 : decode cX6_goElsewhere 115 = .ok (.invokevirtual 170, 3) := by decide +kernel
theorem dX6_goElsewhere_118 : decode cX6_goElsewhere 118 = .ok (.istore 8, 2) := by decide +kernel
theorem dX6_goElsewhere_120 : decode cX6_goElsewhere 120 = .ok (.iload 8, 2) := by decide +kernel
theorem dX6_goElsewhere_122 : decode cX6_goElsewhere 122 = .ok (.ifCond .le 31, 3) := by decide +kernel
theorem dX6_goElsewhere_125 : decode cX6_goElsewhere 125 = .ok (.aload_n 0, 1) := by decide +kernel
theorem dX6_goElsewhere_126 : decode cX6_goElsewhere 126 = .ok (.getfield 100, 3) := by decide +kernel
theorem dX6_goElsewhere_129 : decode cX6_goElsewhere 129 = .ok (.aload_n 0, 1) := by decide +kernel
theorem dX6_goElsewhere_130 : decode cX6_goElsewhere 130 = .ok (.getfield 106, 3) := by decide +kernel
theorem dX6_goElsewhere_133 : decode cX6_goElsewhere 133 = .ok (.iconst 1, 1) := by decide +kernel
theorem dX6_goElsewhere_134 : decode cX6_goElsewhere 134 = .ok (.iaload, 1) := by decide +kernel
theorem dX6_goElsewhere_135 : decode cX6_goElsewhere 135 = .ok (.laload, 1) := by decide +kernel
theorem dX6_goElsewhere_136 : decode cX6_goElsewhere 136 = .ok (.lload 6, 2) := by decide +kernel
theorem dX6_goElsewhere_138 : decode cX6_goElsewhere 138 = .ok (.lcmp, 1) := by decide +kernel
theorem dX6_goElsewhere_139 : decode cX6_goElsewhere 139 = .ok (.ifCond .gt 14, 3) := by decide +kernel
theorem dX6_goElsewhere_142 : decode cX6_goElsewhere 142 = .ok (.aload_n 0, 1) := by decide +kernel
theorem dX6_goElsewhere_143 : decode cX6_goElsewhere 143 = .ok (.iload_n 1, 1) := by decide +kernel
theorem dX6_goElsewhere_144 : decode cX6_goElsewhere 144 = .ok (.iload_n 2, 1) := by decide +kernel
theorem dX6_goElsewhere_145 : decode cX6_goElsewhere 145 = .ok (.iload 8, 2) := by decide +kernel
theorem dX6_goElsewhere_147 : decode cX6_goElsewhere 147 = .ok (.invokevirtual 174, 3) := by decide +kernel
theorem dX6_goElsewhere_150 : decode cX6_goElsewhere 150 = .ok (.goto 33, 3) := by decide +kernel
theorem dX6_goElsewhere_153 : decode cX6_goElsewhere 153 = .ok (.aload_n 0, 1) := by decide +kernel
theorem dX6_goElsewhere_154 : decode cX6_goElsewhere 154 = .ok (.getfield 63, 3) := by decide +kernel
theorem dX6_goElsewhere_157 : decode cX6_goElsewhere 157 = .ok (.iload_n 1, 1) := by decide +kernel
theorem dX6_goElsewhere_158 : decode cX6_goElsewhere 158 = .ok (.iaload, 1) := by decide +kernel
theorem dX6_goElsewhere_159 : decode cX6_goElsewhere 159 = .ok (.istore 9, 2) := by decide +kernel
theorem dX6_goElsewhere_161 : decode cX6_goElsewhere 161 = .ok (.aload_n 0, 1) := by decide +kernel
theorem dX6_goElsewhere_162 : decode cX6_goElsewhere 162 = .ok (.getfield 63, 3) := by decide +kernel
theorem dX6_goElsewhere_165 : decode cX6_goElsewhere 165 = .ok (.iload_n 1, 1) := by decide +kernel
theorem dX6_goElsewhere_166 : decode cX6_goElsewhere 166 = .ok (.iload_n 2, 1) := by decide +kernel
theorem dX6_goElsewhere_167 : decode cX6_goElsewhere 167 = .ok (.iconst 1, 1) := by decide +kernel
theorem dX6_goElsewhere_168 : decode cX6_goElsewhere 168 = .ok (.iadd, 1) := by decide +kernel
theorem dX6_goElsewhere_169 : decode cX6_goElsewhere 169 = .ok (.iastore, 1) := by decide +kernel
theorem dX6_goElsewhere_170 : decode cX6_goElsewhere 170 = .ok (.aload_n 0, 1) := by decide +kernel
theorem dX6_goElsewhere_171 : decode cX6_goElsewhere 171 = .ok (.iload_n 1, 1) := by decide +kernel
theorem dX6_goElsewhere_172 : decode cX6_goElsewhere 172 = .ok (.invokevirtual 177, 3) := by decide +kernel
theorem dX6_goElsewhere_175 : decode cX6_goElsewhere 175 = .ok (.aload_n 0, 1) := by decide +kernel
theorem dX6_goElsewhere_176 : decode cX6_goElsewhere 176 = .ok (.getfield 63, 3) := by decide +kernel
theorem dX6_goElsewhere_179 : decode cX6_goElsewhere 179 = .ok (.iload_n 1, 1) := by decide +kernel
theorem dX6_goElsewhere_180 : decode cX6_goElsewhere 180 = .ok (.iload 9, 2) := by decide +kernel
theorem dX6_goElsewhere_182 : decode cX6_goElsewhere 182 = .ok (.iastore, 1) := by decide +kernel
theorem dX6_goElsewhere_183 : decode cX6_goElsewhere 183 = .ok (.return_, 1) := by decide +kernel
theorem dX6_failsFor_0 : decode cX6_failsFor 0 = .ok (.iconst 0, 1) := by decide +kernel
theorem dX6_failsFor_1 : decode cX6_failsFor 1 = .ok (.istore_n 2, 1) := by decide +kernel
theorem dX6_failsFor_2 : decode cX6_failsFor 2 = .ok (.iload_n 2, 1) := by decide +kernel
theorem dX6_failsFor_3 : decode cX6_failsFor 3 = .ok (.aload_n 0, 1) := by decide +kernel
theorem dX6_failsFor_4 : decode cX6_failsFor 4 = .ok (.getfield 181, 3) := by decide +kernel
theorem dX6_failsFor_7 : decode cX6_failsFor 7 = .ok (.if_icmp .ge 38, 3) := by decide +kernel
theorem dX6_failsFor_10 : decode cX6_failsFor 10 = .ok (.aload_n 0, 1) := by decide +kernel
theorem dX6_failsFor_11 : decode cX6_failsFor 11 = .ok (.getfield 42, 3) := by decide +kernel
theorem dX6_failsFor_14 : decode cX6_failsFor 14 = .ok (.iload_n 2, 1) := by decide +kernel
theorem dX6_failsFor_15 : decode cX6_failsFor 15 = .ok (.iaload, 1) := by decide +kernel
theorem dX6_failsFor_16 : decode cX6_failsFor 16 = .ok (.ifCond .ne 23, 3) := by decide +kernel
theorem dX6_failsFor_19 : decode cX6_failsFor 19 = .ok (.aload_n 0, 1) := by decide +kernel
theorem dX6_failsFor_20 : decode cX6_failsFor 20 = .ok (.iload_n 2, 1) := by decide +kernel
theorem dX6_failsFor_21 : decode cX6_failsFor 21 = .ok (.iload_n 1, 1) := by decide +kernel
theorem dX6_failsFor_22 : decode cX6_failsFor 22 = .ok (.invokevirtual 184, 3) := by decide +kernel
theorem dX6_failsFor_25 : decode cX6_failsFor 25 = .ok (.aload_n 0, 1) := by decide +kernel
theorem dX6_failsFor_26 : decode cX6_failsFor 26 = .ok (.getfield 60, 3) := by decide +kernel
theorem dX6_failsFor_29 : decode cX6_failsFor 29 = .ok (.iload_n 2, 1) := by decide +kernel
theorem dX6_failsFor_30 : decode cX6_failsFor 30 = .ok (.iaload, 1) := by decide +kernel
theorem dX6_failsFor_31 : decode cX6_failsFor 31 = .ok (.if_icmp .le 8, 3) := by decide +kernel
theorem dX6_failsFor_34 : decode cX6_failsFor 34 = .ok (.aload_n 0, 1) := by decide +kernel
theorem dX6_failsFor_35 : decode cX6_failsFor 35 = .ok (.iload_n 2, 1) := by decide +kernel
theorem dX6_failsFor_36 : decode cX6_failsFor 36 = .ok (.invokevirtual 188, 3) := by decide +kernel
theorem dX6_failsFor_39 : decode cX6_failsFor 39 = .ok (.iinc 2 1, 3) := by decide +kernel
theorem dX6_failsFor_42 : decode cX6_failsFor 42 = .ok (.goto (-40), 3) := by decide +kernel
theorem dX6_failsFor_45 : decode cX6_failsFor 45 = .ok (.return_, 1) := by decide +kernel
theorem dX6_breakWord_0 : decode cX6_breakWord 0 = .ok (.aload_n 0, 1) := by decide +kernel
theorem dX6_breakWord_1 : decode cX6_breakWord 1 = .ok (.iload_n 1, 1) := by decide +kernel
theorem dX6_breakWord_2 : decode cX6_breakWord 2 = .ok (.invokevirtual 120, 3) := by decide +kernel
theorem dX6_breakWord_5 : decode cX6_breakWord 5 = .ok (.istore_n 2, 1) := by decide +kernel
theorem dX6_breakWord_6 : decode cX6_breakWord 6 = .ok (.aload_n 0, 1) := by decide +kernel
theorem dX6_breakWord_7 : decode cX6_breakWord 7 = .ok (.iload_n 2, 1) := by decide +kernel
theorem dX6_breakWord_8 : decode cX6_breakWord 8 = .ok (.ifCond .ne 7, 3) := by decide +kernel
theorem dX6_breakWord_11 : decode cX6_breakWord 11 = .ok (.iconst 1, 1) := by decide +kernel
theorem dX6_breakWord_12 : decode cX6_breakWord 12 = .ok (.goto 18, 3) := by decide +kernel
theorem dX6_breakWord_15 : decode cX6_breakWord 15 = .ok (.aload_n 0, 1) := by decide +kernel
theorem dX6_breakWord_16 : decode cX6_breakWord 16 = .ok (.getfield 20, 3) := by decide +kernel
theorem dX6_breakWord_19 : decode cX6_breakWord 19 = .ok (.iload_n 1, 1) := by decide +kernel
theorem dX6_breakWord_20 : decode cX6_breakWord 20 = .ok (.iaload, 1) := by decide +kernel
theorem dX6_breakWord_21 : decode cX6_breakWord 21 = .ok (.iconst 2, 1) := by decide +kernel
theorem dX6_breakWord_22 : decode cX6_breakWord 22 = .ok (.if_icmp .ne 7, 3) := by decide +kernel
theorem dX6_breakWord_25 : decode cX6_breakWord 25 = .ok (.iconst 2, 1) := by decide +kernel
theorem dX6_breakWord_26 : decode cX6_breakWord 26 = .ok (.goto 4, 3) := by decide +kernel
theorem dX6_breakWord_29 : decode cX6_breakWord 29 = .ok (.iconst 0, 1) := by decide +kernel
theorem dX6_breakWord_30 : decode cX6_breakWord 30 = .ok (.invokevirtual 124, 3) := by decide +kernel
theorem dX6_breakWord_33 : decode cX6_breakWord 33 = .ok (.ifCond .ne 5, 3) := by decide +kernel
theorem dX6_breakWord_36 : decode cX6_breakWord 36 = .ok (.iconst 0, 1) := by decide +kernel
theorem dX6_breakWord_37 : decode cX6_breakWord 37 = .ok (.ireturn, 1) := by decide +kernel
theorem dX6_breakWord_38 : decode cX6_breakWord 38 = .ok (.aload_n 0, 1) := by decide +kernel
theorem dX6_breakWord_39 : decode cX6_breakWord 39 = .ok (.getfield 20, 3) := by decide +kernel
theorem dX6_breakWord_42 : decode cX6_breakWord 42 = .ok (.iload_n 1, 1) := by decide +kernel
theorem dX6_breakWord_43 : decode cX6_breakWord 43 = .ok (.iconst 2, 1) := by decide +kernel
theorem dX6_breakWord_44 : decode cX6_breakWord 44 = .ok (.iastore, 1) := by decide +kernel
theorem dX6_breakWord_45 : decode cX6_breakWord 45 = .ok (.iconst 0, 1) := by decide +kernel
theorem dX6_breakWord_46 : decode cX6_breakWord 46 = .ok (.istore_n 3, 1) := by decide +kernel
theorem dX6_breakWord_47 : decode cX6_breakWord 47 = .ok (.iconst 0, 1) := by decide +kernel
theorem dX6_breakWord_48 : decode cX6_breakWord 48 = .ok (.istore 4, 2) := by decide +kernel
theorem dX6_breakWord_50 : decode cX6_breakWord 50 = .ok (.iload 4, 2) := by decide +kernel
theorem dX6_breakWord_52 : decode cX6_breakWord 52 = .ok (.aload_n 0, 1) := by decide +kernel
theorem dX6_breakWord_53 : decode cX6_breakWord 53 = .ok (.getfield 181, 3) := by decide +kernel
theorem dX6_breakWord_56 : decode cX6_breakWord 56 = .ok (.if_icmp .ge 68, 3) := by decide +kernel
theorem dX6_breakWord_59 : decode cX6_breakWord 59 = .ok (.aload_n 0, 1) := by decide +kernel
theorem dX6_breakWord_60 : decode cX6_breakWord 60 = .ok (.iload 4, 2) := by decide +kernel
theorem dX6_breakWord_62 : decode cX6_breakWord 62 = .ok (.invokevirtual 166, 3) := by decide +kernel
theorem dX6_breakWord_65 : decode cX6_breakWord 65 = .ok (.iload_n 1, 1) := by decide +kernel
theorem dX6_breakWord_66 : decode cX6_breakWord 66 = .ok (.if_icmp .ne 52, 3) := by decide +kernel
theorem dX6_breakWord_69 : decode cX6_breakWord 69 = .ok (.aload_n 0, 1) := by decide +kernel
theorem dX6_breakWord_70 : decode cX6_breakWord 70 = .ok (.getfield 42, 3) := by decide +kernel
theorem dX6_breakWord_73 : decode cX6_breakWord 73 = .ok (.iload 4, 2) := by decide +kernel
theorem dX6_breakWord_75 : decode cX6_breakWord 75 = .ok (.iaload, 1) := by decide +kernel
theorem dX6_breakWord_76 : decode cX6_breakWord 76 = .ok (.ifCond .eq 14, 3) := by decide +kernel
theorem dX6_breakWord_79 : decode cX6_breakWord 79 = .ok (.aload_n 0, 1) := by decide +kernel
theorem dX6_breakWord_80 : decode cX6_breakWord 80 = .ok (.getfield 42, 3) := by decide +kernel
theorem dX6_breakWord_83 : decode cX6_breakWord 83 = .ok (.iload 4, 2) := by decide +kernel
theorem dX6_breakWord_85 : decode cX6_breakWord 85 = .ok (.iaload, 1) := by decide +kernel
theorem dX6_breakWord_86 : decode cX6_breakWord 86 = .ok (.iconst 3, 1) := by decide +kernel
theorem dX6_breakWord_87 : decode cX6_breakWord 87 = .ok (.if_icmp .ne 31, 3) := by decide +kernel
theorem dX6_breakWord_90 : decode cX6_breakWord 90 = .ok (.aload_n 0, 1) := by decide +kernel
theorem dX6_breakWord_91 : decode cX6_breakWord 91 = .ok (.getfield 42, 3) := by decide +kernel
theorem dX6_breakWord_94 : decode cX6_breakWord 94 = .ok (.iload 4, 2) := by decide +kernel
theorem dX6_breakWord_96 : decode cX6_breakWord 96 = .ok (.iaload, 1) := by decide +kernel
theorem dX6_breakWord_97 : decode cX6_breakWord 97 = .ok (.ifCond .ne 10, 3) := by decide +kernel
theorem dX6_breakWord_100 : decode cX6_breakWord 100 = .ok (.aload_n 0, 1) := by decide +kernel
theorem dX6_breakWord_101 : decode cX6_breakWord 101 = .ok (.iload 4, 2) := by decide +kernel
theorem dX6_breakWord_103 : decode cX6_breakWord 103 = .ok (.iconst 0, 1) := by decide +kernel
theorem dX6_breakWord_104 : decode cX6_breakWord 104 = .ok (.invokevirtual 162, 3) := by decide +kernel
theorem dX6_breakWord_107 : decode cX6_breakWord 107 = .ok (.aload_n 0, 1) := by decide +kernel
theorem dX6_breakWord_108 : decode cX6_breakWord 108 = .ok (.getfield 42, 3) := by decide +kernel
theorem dX6_breakWord_111 : decode cX6_breakWord 111 = .ok (.iload 4, 2) := by decide +kernel
theorem dX6_breakWord_113 : decode cX6_breakWord 113 = .ok (.iconst 5, 1) := by decide +kernel
theorem dX6_breakWord_114 : decode cX6_breakWord 114 = .ok (.iastore, 1) := by decide +kernel
theorem dX6_breakWord_115 : decode cX6_breakWord 115 = .ok (.iinc 3 1, 3) := by decide +kernel
theorem dX6_breakWord_118 : decode cX6_breakWord 118 = .ok (.iinc 4 1, 3) := by decide +kernel
theorem dX6_breakWord_121 : decode cX6_breakWord 121 = .ok (.goto (-71), 3) := by decide +kernel
theorem dX6_breakWord_124 : decode cX6_breakWord 124 = .ok (.aload_n 0, 1) := by decide +kernel
theorem dX6_breakWord_125 : decode cX6_breakWord 125 = .ok (.iload_n 1, 1) := by decide +kernel
theorem dX6_breakWord_126 : decode cX6_breakWord 126 = .ok (.invokevirtual 191, 3) := by decide +kernel
theorem dX6_breakWord_129 : decode cX6_breakWord 129 = .ok (.iload_n 3, 1) := by decide +kernel
theorem dX6_breakWord_130 : decode cX6_breakWord 130 = .ok (.ireturn, 1) := by decide +kernel
theorem dX6_raid_0 : decode cX6_raid 0 = .ok (.aload_n 0, 1) := by decide +kernel
theorem dX6_raid_1 : decode cX6_raid 1 = .ok (.iload_n 1, 1) := by decide +kernel
theorem dX6_raid_2 : decode cX6_raid 2 = .ok (.invokevirtual 120, 3) := by decide +kernel
theorem dX6_raid_5 : decode cX6_raid 5 = .ok (.istore_n 2, 1) := by decide +kernel
theorem dX6_raid_6 : decode cX6_raid 6 = .ok (.aload_n 0, 1) := by decide +kernel
theorem dX6_raid_7 : decode cX6_raid 7 = .ok (.iload_n 2, 1) := by decide +kernel
theorem dX6_raid_8 : decode cX6_raid 8 = .ok (.ifCond .ne 7, 3) := by decide +kernel
theorem dX6_raid_11 : decode cX6_raid 11 = .ok (.iconst 1, 1) := by decide +kernel
theorem dX6_raid_12 : decode cX6_raid 12 = .ok (.goto 17, 3) := by decide +kernel
theorem dX6_raid_15 : decode cX6_raid 15 = .ok (.aload_n 0, 1) := by decide +kernel
theorem dX6_raid_16 : decode cX6_raid 16 = .ok (.getfield 20, 3) := by decide +kernel
theorem dX6_raid_19 : decode cX6_raid 19 = .ok (.iload_n 1, 1) := by decide +kernel
theorem dX6_raid_20 : decode cX6_raid 20 = .ok (.iaload, 1) := by decide +kernel
theorem dX6_raid_21 : decode cX6_raid 21 = .ok (.ifCond .eq 7, 3) := by decide +kernel
theorem dX6_raid_24 : decode cX6_raid 24 = .ok (.iconst 2, 1) := by decide +kernel
theorem dX6_raid_25 : decode cX6_raid 25 = .ok (.goto 4, 3) := by decide +kernel
theorem dX6_raid_28 : decode cX6_raid 28 = .ok (.iconst 0, 1) := by decide +kernel
theorem dX6_raid_29 : decode cX6_raid 29 = .ok (.invokevirtual 124, 3) := by decide +kernel
theorem dX6_raid_32 : decode cX6_raid 32 = .ok (.ifCond .ne 5, 3) := by decide +kernel
theorem dX6_raid_35 : decode cX6_raid 35 = .ok (.iconst 0, 1) := by decide +kernel
theorem dX6_raid_36 : decode cX6_raid 36 = .ok (.ireturn, 1) := by decide +kernel
theorem dX6_raid_37 : decode cX6_raid 37 = .ok (.aload_n 0, 1) := by decide +kernel
theorem dX6_raid_38 : decode cX6_raid 38 = .ok (.getfield 13, 3) := by decide +kernel
theorem dX6_raid_41 : decode cX6_raid 41 = .ok (.iload_n 1, 1) := by decide +kernel
theorem dX6_raid_42 : decode cX6_raid 42 = .ok (.laload, 1) := by decide +kernel
theorem dX6_raid_43 : decode cX6_raid 43 = .ok (.l2i, 1) := by decide +kernel
theorem dX6_raid_44 : decode cX6_raid 44 = .ok (.istore_n 3, 1) := by decide +kernel
theorem dX6_raid_45 : decode cX6_raid 45 = .ok (.aload_n 0, 1) := by decide +kernel
theorem dX6_raid_46 : decode cX6_raid 46 = .ok (.getfield 13, 3) := by decide +kernel
theorem dX6_raid_49 : decode cX6_raid 49 = .ok (.iload_n 1, 1) := by decide +kernel
theorem dX6_raid_50 : decode cX6_raid 50 = .ok (.lconst 0, 1) := by decide +kernel
theorem dX6_raid_51 : decode cX6_raid 51 = .ok (.lastore, 1) := by decide +kernel
theorem dX6_raid_52 : decode cX6_raid 52 = .ok (.aload_n 0, 1) := by decide +kernel
theorem dX6_raid_53 : decode cX6_raid 53 = .ok (.getfield 97, 3) := by decide +kernel
theorem dX6_raid_56 : decode cX6_raid 56 = .ok (.iconst 4, 1) := by decide +kernel
theorem dX6_raid_57 : decode cX6_raid 57 = .ok (.dup2, 1) := by decide +kernel
theorem dX6_raid_58 : decode cX6_raid 58 = .ok (.laload, 1) := by decide +kernel
theorem dX6_raid_59 : decode cX6_raid 59 = .ok (.iload_n 3, 1) := by decide +kernel
theorem dX6_raid_60 : decode cX6_raid 60 = .ok (.i2l, 1) := by decide +kernel
theorem dX6_raid_61 : decode cX6_raid 61 = .ok (.ladd, 1) := by decide +kernel
theorem dX6_raid_62 : decode cX6_raid 62 = .ok (.lastore, 1) := by decide +kernel
theorem dX6_raid_63 : decode cX6_raid 63 = .ok (.aload_n 0, 1) := by decide +kernel
theorem dX6_raid_64 : decode cX6_raid 64 = .ok (.getfield 20, 3) := by decide +kernel
theorem dX6_raid_67 : decode cX6_raid 67 = .ok (.iload_n 1, 1) := by decide +kernel
theorem dX6_raid_68 : decode cX6_raid 68 = .ok (.iconst 1, 1) := by decide +kernel
theorem dX6_raid_69 : decode cX6_raid 69 = .ok (.iastore, 1) := by decide +kernel
theorem dX6_raid_70 : decode cX6_raid 70 = .ok (.aload_n 0, 1) := by decide +kernel
theorem dX6_raid_71 : decode cX6_raid 71 = .ok (.getfield 23, 3) := by decide +kernel
theorem dX6_raid_74 : decode cX6_raid 74 = .ok (.iload_n 1, 1) := by decide +kernel
theorem dX6_raid_75 : decode cX6_raid 75 = .ok (.aload_n 0, 1) := by decide +kernel
theorem dX6_raid_76 : decode cX6_raid 76 = .ok (.getfield 194, 3) := by decide +kernel
theorem dX6_raid_79 : decode cX6_raid 79 = .ok (.sipush 720, 3) := by decide +kernel
theorem dX6_raid_82 : decode cX6_raid 82 = .ok (.iadd, 1) := by decide +kernel
theorem dX6_raid_83 : decode cX6_raid 83 = .ok (.iastore, 1) := by decide +kernel
theorem dX6_raid_84 : decode cX6_raid 84 = .ok (.aload_n 0, 1) := by decide +kernel
theorem dX6_raid_85 : decode cX6_raid 85 = .ok (.getfield 26, 3) := by decide +kernel
theorem dX6_raid_88 : decode cX6_raid 88 = .ok (.iload_n 1, 1) := by decide +kernel
theorem dX6_raid_89 : decode cX6_raid 89 = .ok (.iconst 1, 1) := by decide +kernel
theorem dX6_raid_90 : decode cX6_raid 90 = .ok (.bastore, 1) := by decide +kernel
theorem dX6_raid_91 : decode cX6_raid 91 = .ok (.aload_n 0, 1) := by decide +kernel
theorem dX6_raid_92 : decode cX6_raid 92 = .ok (.iload_n 1, 1) := by decide +kernel
theorem dX6_raid_93 : decode cX6_raid 93 = .ok (.invokevirtual 191, 3) := by decide +kernel
theorem dX6_raid_96 : decode cX6_raid 96 = .ok (.iload_n 3, 1) := by decide +kernel
theorem dX6_raid_97 : decode cX6_raid 97 = .ok (.ireturn, 1) := by decide +kernel
theorem dX6_order_0 : decode cX6_order 0 = .ok (.aload_n 0, 1) := by decide +kernel
theorem dX6_order_1 : decode cX6_order 1 = .ok (.iload_n 1, 1) := by decide +kernel
theorem dX6_order_2 : decode cX6_order 2 = .ok (.iload_n 2, 1) := by decide +kernel
theorem dX6_order_3 : decode cX6_order 3 = .ok (.invokevirtual 127, 3) := by decide +kernel
theorem dX6_order_6 : decode cX6_order 6 = .ok (.ifCond .eq 18, 3) := by decide +kernel
theorem dX6_order_9 : decode cX6_order 9 = .ok (.iload 4, 2) := by decide +kernel
theorem dX6_order_11 : decode cX6_order 11 = .ok (.iconst 0, 1) := by decide +kernel
theorem dX6_order_12 : decode cX6_order 12 = .ok (.bipush 19, 2) := by decide +kernel
theorem dX6_order_14 : decode cX6_order 14 = .ok (.invokestatic 116, 3) := by decide +kernel
theorem dX6_order_17 : decode cX6_order 17 = .ok (.ifCond .eq 7, 3) := by decide +kernel
theorem dX6_order_20 : decode cX6_order 20 = .ok (.iconst 1, 1) := by decide +kernel
theorem dX6_order_21 : decode cX6_order 21 = .ok (.goto 4, 3) := by decide +kernel
theorem dX6_order_24 : decode cX6_order 24 = .ok (.iconst 0, 1) := by decide +kernel
theorem dX6_order_25 : decode cX6_order 25 = .ok (.istore 6, 2) := by decide +kernel
theorem dX6_order_27 : decode cX6_order 27 = .ok (.iload_n 1, 1) := by decide +kernel
theorem dX6_order_28 : decode cX6_order 28 = .ok (.iload_n 2, 1) := by decide +kernel
theorem dX6_order_29 : decode cX6_order 29 = .ok (.if_icmp .eq 29, 3) := by decide +kernel
theorem dX6_order_32 : decode cX6_order 32 = .ok (.iload_n 3, 1) := by decide +kernel
theorem dX6_order_33 : decode cX6_order 33 = .ok (.iconst 1, 1) := by decide +kernel
theorem dX6_order_34 : decode cX6_order 34 = .ok (.ldc 87, 2) := by decide +kernel
theorem dX6_order_36 : decode cX6_order 36 = .ok (.invokestatic 116, 3) := by decide +kernel
theorem dX6_order_39 : decode cX6_order 39 = .ok (.ifCond .eq 19, 3) := by decide +kernel
theorem dX6_order_42 : decode cX6_order 42 = .ok (.iload 5, 2) := by decide +kernel
theorem dX6_order_44 : decode cX6_order 44 = .ok (.iconst 0, 1) := by decide +kernel
theorem dX6_order_45 : decode cX6_order 45 = .ok (.sipush 9999, 3) := by decide +kernel
theorem dX6_order_48 : decode cX6_order 48 = .ok (.invokestatic 116, 3) := by decide +kernel
theorem dX6_order_51 : decode cX6_order 51 = .ok (.ifCond .eq 7, 3) := by decide +kernel
theorem dX6_order_54 : decode cX6_order 54 = .ok (.iconst 1, 1) := by decide +kernel
theorem dX6_order_55 : decode cX6_order 55 = .ok (.goto 4, 3) := by decide +kernel
theorem dX6_order_58 : decode cX6_order 58 = .ok (.iconst 0, 1) := by decide +kernel
theorem dX6_order_59 : decode cX6_order 59 = .ok (.istore 7, 2) := by decide +kernel
theorem dX6_order_61 : decode cX6_order 61 = .ok (.iload 6, 2) := by decide +kernel
theorem dX6_order_63 : decode cX6_order 63 = .ok (.ifCond .eq 38, 3) := by decide +kernel
theorem dX6_order_66 : decode cX6_order 66 = .ok (.iload 7, 2) := by decide +kernel
theorem dX6_order_68 : decode cX6_order 68 = .ok (.ifCond .eq 33, 3) := by decide +kernel
theorem dX6_order_71 : decode cX6_order 71 = .ok (.aload_n 0, 1) := by decide +kernel
theorem dX6_order_72 : decode cX6_order 72 = .ok (.getfield 181, 3) := by decide +kernel
theorem dX6_order_75 : decode cX6_order 75 = .ok (.bipush 40, 2) := by decide +kernel
theorem dX6_order_77 : decode cX6_order 77 = .ok (.if_icmp .ge 24, 3) := by decide +kernel
theorem dX6_order_80 : decode cX6_order 80 = .ok (.aload_n 0, 1) := by decide +kernel
theorem dX6_order_81 : decode cX6_order 81 = .ok (.getfield 94, 3) := by decide +kernel
theorem dX6_order_84 : decode cX6_order 84 = .ok (.iload 4, 2) := by decide +kernel
theorem dX6_order_86 : decode cX6_order 86 = .ok (.baload, 1) := by decide +kernel
theorem dX6_order_87 : decode cX6_order 87 = .ok (.ifCond .ne 14, 3) := by decide +kernel
theorem dX6_order_90 : decode cX6_order 90 = .ok (.aload_n 0, 1) := by decide +kernel
theorem dX6_order_91 : decode cX6_order 91 = .ok (.iload_n 1, 1) := by decide +kernel
theorem dX6_order_92 : decode cX6_order 92 = .ok (.iload_n 2, 1) := by decide +kernel
theorem dX6_order_93 : decode cX6_order 93 = .ok (.iload_n 3, 1) := by decide +kernel
theorem dX6_order_94 : decode cX6_order 94 = .ok (.iconst 0, 1) := by decide +kernel
theorem dX6_order_95 : decode cX6_order 95 = .ok (.invokevirtual 170, 3) := by decide +kernel
theorem dX6_order_98 : decode cX6_order 98 = .ok (.goto 4, 3) := by decide +kernel
theorem dX6_order_101 : decode cX6_order 101 = .ok (.iconst 0, 1) := by decide +kernel
theorem dX6_order_102 : decode cX6_order 102 = .ok (.istore 8, 2) := by decide +kernel
theorem dX6_order_104 : decode cX6_order 104 = .ok (.aload_n 0, 1) := by decide +kernel
theorem dX6_order_105 : decode cX6_order 105 = .ok (.iload 6, 2) := by decide +kernel
theorem dX6_order_107 : decode cX6_order 107 = .ok (.ifCond .ne 7, 3) := by decide +kernel
theorem dX6_order_110 : decode cX6_order 110 = .ok (.iconst 1, 1) := by decide +kernel
theorem dX6_order_111 : decode cX6_order 111 = .ok (.goto 22, 3) := by decide +kernel
theorem dX6_order_114 : decode cX6_order 114 = .ok (.iload 7, 2) := by decide +kernel
theorem dX6_order_116 : decode cX6_order 116 = .ok (.ifCond .ne 7, 3) := by decide +kernel
theorem dX6_order_119 : decode cX6_order 119 = .ok (.iconst 2, 1) := by decide +kernel
theorem dX6_order_120 : decode cX6_order 120 = .ok (.goto 13, 3) := by decide +kernel
theorem dX6_order_123 : decode cX6_order 123 = .ok (.iload 8, 2) := by decide +kernel
theorem dX6_order_125 : decode cX6_order 125 = .ok (.ifCond .ne 7, 3) := by decide +kernel
theorem dX6_order_128 : decode cX6_order 128 = .ok (.iconst 3, 1) := by decide +kernel
theorem dX6_order_129 : decode cX6_order 129 = .ok (.goto 4, 3) := by decide +kernel
theorem dX6_order_132 : decode cX6_order 132 = .ok (.iconst 0, 1) := by decide +kernel
theorem dX6_order_133 : decode cX6_order 133 = .ok (.invokevirtual 124, 3) := by decide +kernel
theorem dX6_order_136 : decode cX6_order 136 = .ok (.ifCond .ne 5, 3) := by decide +kernel
theorem dX6_order_139 : decode cX6_order 139 = .ok (.iconst 0, 1) := by decide +kernel
theorem dX6_order_140 : decode cX6_order 140 = .ok (.ireturn, 1) := by decide +kernel
theorem dX6_order_141 : decode cX6_order 141 = .ok (.aload_n 0, 1) := by decide +kernel
theorem dX6_order_142 : decode cX6_order 142 = .ok (.getfield 181, 3) := by decide +kernel
theorem dX6_order_145 : decode cX6_order 145 = .ok (.istore 9, 2) := by decide +kernel
theorem dX6_order_147 : decode cX6_order 147 = .ok (.aload_n 0, 1) := by decide +kernel
theorem dX6_order_148 : decode cX6_order 148 = .ok (.dup, 1) := by decide +kernel
theorem dX6_order_149 : decode cX6_order 149 = .ok (.getfield 181, 3) := by decide +kernel
theorem dX6_order_152 : decode cX6_order 152 = .ok (.iconst 1, 1) := by decide +kernel
theorem dX6_order_153 : decode cX6_order 153 = .ok (.iadd, 1) := by decide +kernel
theorem dX6_order_154 : decode cX6_order 154 = .ok (.putfield 181, 3) := by decide +kernel
theorem dX6_order_157 : decode cX6_order 157 = .ok (.aload_n 0, 1) := by decide +kernel
theorem dX6_order_158 : decode cX6_order 158 = .ok (.getfield 42, 3) := by decide +kernel
theorem dX6_order_161 : decode cX6_order 161 = .ok (.iload 9, 2) := by decide +kernel
theorem dX6_order_163 : decode cX6_order 163 = .ok (.iconst 0, 1) := by decide +kernel
theorem dX6_order_164 : decode cX6_order 164 = .ok (.iastore, 1) := by decide +kernel
theorem dX6_order_165 : decode cX6_order 165 = .ok (.aload_n 0, 1) := by decide +kernel
theorem dX6_order_166 : decode cX6_order 166 = .ok (.getfield 45, 3) := by decide +kernel
theorem dX6_order_169 : decode cX6_order 169 = .ok (.iload 9, 2) := by decide +kernel
theorem dX6_order_171 : decode cX6_order 171 = .ok (.iload_n 3, 1) := by decide +kernel
theorem dX6_order_172 : decode cX6_order 172 = .ok (.iastore, 1) := by decide +kernel
theorem dX6_order_173 : decode cX6_order 173 = .ok (.aload_n 0, 1) := by decide +kernel
theorem dX6_order_174 : decode cX6_order 174 = .ok (.getfield 48, 3) := by decide +kernel
theorem dX6_order_177 : decode cX6_order 177 = .ok (.iload 9, 2) := by decide +kernel
theorem dX6_order_179 : decode cX6_order 179 = .ok (.iload_n 3, 1) := by decide +kernel
theorem dX6_order_180 : decode cX6_order 180 = .ok (.i2l, 1) := by decide +kernel
theorem dX6_order_181 : decode cX6_order 181 = .ok (.aload_n 0, 1) := by decide +kernel
theorem dX6_order_182 : decode cX6_order 182 = .ok (.getfield 100, 3) := by decide +kernel
theorem dX6_order_185 : decode cX6_order 185 = .ok (.iload_n 1, 1) := by decide +kernel
theorem dX6_order_186 : decode cX6_order 186 = .ok (.laload, 1) := by decide +kernel
theorem dX6_order_187 : decode cX6_order 187 = .ok (.ladd, 1) := by decide +kernel
theorem dX6_order_188 : decode cX6_order 188 = .ok (.l2i, 1) := by decide +kernel
theorem dX6_order_189 : decode cX6_order 189 = .ok (.iastore, 1) := by decide +kernel
theorem dX6_order_190 : decode cX6_order 190 = .ok (.aload_n 0, 1) := by decide +kernel
theorem dX6_order_191 : decode cX6_order 191 = .ok (.getfield 51, 3) := by decide +kernel
theorem dX6_order_194 : decode cX6_order 194 = .ok (.iload 9, 2) := by decide +kernel
theorem dX6_order_196 : decode cX6_order 196 = .ok (.iload 5, 2) := by decide +kernel
theorem dX6_order_198 : decode cX6_order 198 = .ok (.iastore, 1) := by decide +kernel
theorem dX6_order_199 : decode cX6_order 199 = .ok (.aload_n 0, 1) := by decide +kernel
theorem dX6_order_200 : decode cX6_order 200 = .ok (.getfield 57, 3) := by decide +kernel
theorem dX6_order_203 : decode cX6_order 203 = .ok (.iload 9, 2) := by decide +kernel
theorem dX6_order_205 : decode cX6_order 205 = .ok (.aload_n 0, 1) := by decide +kernel
theorem dX6_order_206 : decode cX6_order 206 = .ok (.getfield 194, 3) := by decide +kernel
theorem dX6_order_209 : decode cX6_order 209 = .ok (.iastore, 1) := by decide +kernel
theorem dX6_order_210 : decode cX6_order 210 = .ok (.aload_n 0, 1) := by decide +kernel
theorem dX6_order_211 : decode cX6_order 211 = .ok (.getfield 13, 3) := by decide +kernel
theorem dX6_order_214 : decode cX6_order 214 = .ok (.iload_n 1, 1) := by decide +kernel
theorem dX6_order_215 : decode cX6_order 215 = .ok (.dup2, 1) := by decide +kernel
theorem dX6_order_216 : decode cX6_order 216 = .ok (.laload, 1) := by decide +kernel
theorem dX6_order_217 : decode cX6_order 217 = .ok (.aload_n 0, 1) := by decide +kernel
theorem dX6_order_218 : decode cX6_order 218 = .ok (.getfield 48, 3) := by decide +kernel
theorem dX6_order_221 : decode cX6_order 221 = .ok (.iload 9, 2) := by decide +kernel
theorem dX6_order_223 : decode cX6_order 223 = .ok (.iaload, 1) := by decide +kernel
theorem dX6_order_224 : decode cX6_order 224 = .ok (.i2l, 1) := by decide +kernel
theorem dX6_order_225 : decode cX6_order 225 = .ok (.ladd, 1) := by decide +kernel
theorem dX6_order_226 : decode cX6_order 226 = .ok (.lastore, 1) := by decide +kernel
theorem dX6_order_227 : decode cX6_order 227 = .ok (.aload_n 0, 1) := by decide +kernel
theorem dX6_order_228 : decode cX6_order 228 = .ok (.getfield 97, 3) := by decide +kernel
theorem dX6_order_231 : decode cX6_order 231 = .ok (.iconst 0, 1) := by decide +kernel
theorem dX6_order_232 : decode cX6_order 232 = .ok (.dup2, 1) := by decide +kernel
theorem dX6_order_233 : decode cX6_order 233 = .ok (.laload, 1) := by decide +kernel
theorem dX6_order_234 : decode cX6_order 234 = .ok (.aload_n 0, 1) := by decide +kernel
theorem dX6_order_235 : decode cX6_order 235 = .ok (.getfield 48, 3) := by decide +kernel
theorem dX6_order_238 : decode cX6_order 238 = .ok (.iload 9, 2) := by decide +kernel
theorem dX6_order_240 : decode cX6_order 240 = .ok (.iaload, 1) := by decide +kernel
theorem dX6_order_241 : decode cX6_order 241 = .ok (.i2l, 1) := by decide +kernel
theorem dX6_order_242 : decode cX6_order 242 = .ok (.ladd, 1) := by decide +kernel
theorem dX6_order_243 : decode cX6_order 243 = .ok (.lastore, 1) := by decide +kernel
theorem dX6_order_244 : decode cX6_order 244 = .ok (.aload_n 0, 1) := by decide +kernel
theorem dX6_order_245 : decode cX6_order 245 = .ok (.iload 9, 2) := by decide +kernel
theorem dX6_order_247 : decode cX6_order 247 = .ok (.iconst 0, 1) := by decide +kernel
theorem dX6_order_248 : decode cX6_order 248 = .ok (.iload 8, 2) := by decide +kernel
theorem dX6_order_250 : decode cX6_order 250 = .ok (.invokevirtual 174, 3) := by decide +kernel
theorem dX6_order_253 : decode cX6_order 253 = .ok (.aload_n 0, 1) := by decide +kernel
theorem dX6_order_254 : decode cX6_order 254 = .ok (.getfield 91, 3) := by decide +kernel
theorem dX6_order_257 : decode cX6_order 257 = .ok (.aload_n 0, 1) := by decide +kernel
theorem dX6_order_258 : decode cX6_order 258 = .ok (.getfield 7, 3) := by decide +kernel
theorem dX6_order_261 : decode cX6_order 261 = .ok (.iload_n 1, 1) := by decide +kernel
theorem dX6_order_262 : decode cX6_order 262 = .ok (.iaload, 1) := by decide +kernel
theorem dX6_order_263 : decode cX6_order 263 = .ok (.dup2, 1) := by decide +kernel
theorem dX6_order_264 : decode cX6_order 264 = .ok (.iaload, 1) := by decide +kernel
theorem dX6_order_265 : decode cX6_order 265 = .ok (.iload_n 3, 1) := by decide +kernel
theorem dX6_order_266 : decode cX6_order 266 = .ok (.aload_n 0, 1) := by decide +kernel
theorem dX6_order_267 : decode cX6_order 267 = .ok (.getfield 88, 3) := by decide +kernel
theorem dX6_order_270 : decode cX6_order 270 = .ok (.aload_n 0, 1) := by decide +kernel
theorem dX6_order_271 : decode cX6_order 271 = .ok (.getfield 7, 3) := by decide +kernel
theorem dX6_order_274 : decode cX6_order 274 = .ok (.iload_n 1, 1) := by decide +kernel
theorem dX6_order_275 : decode cX6_order 275 = .ok (.iaload, 1) := by decide +kernel
theorem dX6_order_276 : decode cX6_order 276 = .ok (.iaload, 1) := by decide +kernel
theorem dX6_order_277 : decode cX6_order 277 = .ok (.if_icmp .le 7, 3) := by decide +kernel
theorem dX6_order_280 : decode cX6_order 280 = .ok (.iconst 1, 1) := by decide +kernel
theorem dX6_order_281 : decode cX6_order 281 = .ok (.goto 4, 3) := by decide +kernel
theorem dX6_order_284 : decode cX6_order 284 = .ok (.iconst 0, 1) := by decide +kernel
theorem dX6_order_285 : decode cX6_order 285 = .ok (.iadd, 1) := by decide +kernel
theorem dX6_order_286 : decode cX6_order 286 = .ok (.iastore, 1) := by decide +kernel
theorem dX6_order_287 : decode cX6_order 287 = .ok (.iload 9, 2) := by decide +kernel
theorem dX6_order_289 : decode cX6_order 289 = .ok (.ireturn, 1) := by decide +kernel
theorem dX6_isOrder_0 : decode cX6_isOrder 0 = .ok (.iload_n 1, 1) := by decide +kernel
theorem dX6_isOrder_1 : decode cX6_isOrder 1 = .ok (.iconst 0, 1) := by decide +kernel
theorem dX6_isOrder_2 : decode cX6_isOrder 2 = .ok (.aload_n 0, 1) := by decide +kernel
theorem dX6_isOrder_3 : decode cX6_isOrder 3 = .ok (.getfield 181, 3) := by decide +kernel
theorem dX6_isOrder_6 : decode cX6_isOrder 6 = .ok (.iconst 1, 1) := by decide +kernel
theorem dX6_isOrder_7 : decode cX6_isOrder 7 = .ok (.isub, 1) := by decide +kernel
theorem dX6_isOrder_8 : decode cX6_isOrder 8 = .ok (.invokestatic 116, 3) := by decide +kernel
theorem dX6_isOrder_11 : decode cX6_isOrder 11 = .ok (.ireturn, 1) := by decide +kernel
theorem dX6_fetch_0 : decode cX6_fetch 0 = .ok (.aload_n 0, 1) := by decide +kernel
theorem dX6_fetch_1 : decode cX6_fetch 1 = .ok (.iload_n 1, 1) := by decide +kernel
theorem dX6_fetch_2 : decode cX6_fetch 2 = .ok (.invokevirtual 197, 3) := by decide +kernel
theorem dX6_fetch_5 : decode cX6_fetch 5 = .ok (.istore_n 3, 1) := by decide +kernel
theorem dX6_fetch_6 : decode cX6_fetch 6 = .ok (.iload_n 3, 1) := by decide +kernel
theorem dX6_fetch_7 : decode cX6_fetch 7 = .ok (.ifCond .eq 24, 3) := by decide +kernel
theorem dX6_fetch_10 : decode cX6_fetch 10 = .ok (.aload_n 0, 1) := by decide +kernel
theorem dX6_fetch_11 : decode cX6_fetch 11 = .ok (.getfield 66, 3) := by decide +kernel
theorem dX6_fetch_14 : decode cX6_fetch 14 = .ok (.bipush 12, 2) := by decide +kernel
theorem dX6_fetch_16 : decode cX6_fetch 16 = .ok (.iload_n 1, 1) := by decide +kernel
theorem dX6_fetch_17 : decode cX6_fetch 17 = .ok (.imul, 1) := by decide +kernel
theorem dX6_fetch_18 : decode cX6_fetch 18 = .ok (.aload_n 0, 1) := by decide +kernel
theorem dX6_fetch_19 : decode cX6_fetch 19 = .ok (.getfield 63, 3) := by decide +kernel
theorem dX6_fetch_22 : decode cX6_fetch 22 = .ok (.iload_n 1, 1) := by decide +kernel
theorem dX6_fetch_23 : decode cX6_fetch 23 = .ok (.iaload, 1) := by decide +kernel
theorem dX6_fetch_24 : decode cX6_fetch 24 = .ok (.iadd, 1) := by decide +kernel
theorem dX6_fetch_25 : decode cX6_fetch 25 = .ok (.iconst 1, 1) := by decide +kernel
theorem dX6_fetch_26 : decode cX6_fetch 26 = .ok (.isub, 1) := by decide +kernel
theorem dX6_fetch_27 : decode cX6_fetch 27 = .ok (.iaload, 1) := by decide +kernel
theorem dX6_fetch_28 : decode cX6_fetch 28 = .ok (.goto 4, 3) := by decide +kernel
theorem dX6_fetch_31 : decode cX6_fetch 31 = .ok (.iconst 0, 1) := by decide +kernel
theorem dX6_fetch_32 : decode cX6_fetch 32 = .ok (.istore 4, 2) := by decide +kernel
theorem dX6_fetch_34 : decode cX6_fetch 34 = .ok (.iload_n 3, 1) := by decide +kernel
theorem dX6_fetch_35 : decode cX6_fetch 35 = .ok (.ifCond .eq 45, 3) := by decide +kernel
theorem dX6_fetch_38 : decode cX6_fetch 38 = .ok (.aload_n 0, 1) := by decide +kernel
theorem dX6_fetch_39 : decode cX6_fetch 39 = .ok (.getfield 42, 3) := by decide +kernel
theorem dX6_fetch_42 : decode cX6_fetch 42 = .ok (.iload_n 1, 1) := by decide +kernel
theorem dX6_fetch_43 : decode cX6_fetch 43 = .ok (.iaload, 1) := by decide +kernel
theorem dX6_fetch_44 : decode cX6_fetch 44 = .ok (.iconst 1, 1) := by decide +kernel
theorem dX6_fetch_45 : decode cX6_fetch 45 = .ok (.if_icmp .ne 35, 3) := by decide +kernel
theorem dX6_fetch_48 : decode cX6_fetch 48 = .ok (.aload_n 0, 1) := by decide +kernel
theorem dX6_fetch_49 : decode cX6_fetch 49 = .ok (.getfield 20, 3) := by decide +kernel
theorem dX6_fetch_52 : decode cX6_fetch 52 = .ok (.iload 4, 2) := by decide +kernel
theorem dX6_fetch_54 : decode cX6_fetch 54 = .ok (.iaload, 1) := by decide +kernel
theorem dX6_fetch_55 : decode cX6_fetch 55 = .ok (.ifCond .ne 25, 3) := by decide +kernel
theorem dX6_fetch_58 : decode cX6_fetch 58 = .ok (.aload_n 0, 1) := by decide +kernel
theorem dX6_fetch_59 : decode cX6_fetch 59 = .ok (.getfield 13, 3) := by decide +kernel
theorem dX6_fetch_62 : decode cX6_fetch 62 = .ok (.iload 4, 2) := by decide +kernel
theorem dX6_fetch_64 : decode cX6_fetch 64 = .ok (.laload, 1) := by decide +kernel
theorem dX6_fetch_65 : decode cX6_fetch 65 = .ok (.aload_n 0, 1) := by decide +kernel
theorem dX6_fetch_66 : decode cX6_fetch 66 = .ok (.getfield 45, 3) := by decide +kernel
theorem dX6_fetch_69 : decode cX6_fetch 69 = .ok (.iload_n 1, 1) := by decide +kernel
theorem dX6_fetch_70 : decode cX6_fetch 70 = .ok (.iaload, 1) := by decide +kernel
theorem dX6_fetch_71 : decode cX6_fetch 71 = .ok (.i2l, 1) := by decide +kernel
theorem dX6_fetch_72 : decode cX6_fetch 72 = .ok (.lcmp, 1) := by decide +kernel
theorem dX6_fetch_73 : decode cX6_fetch 73 = .ok (.ifCond .lt 7, 3) := by decide +kernel
theorem dX6_fetch_76 : decode cX6_fetch 76 = .ok (.iconst 1, 1) := by decide +kernel
theorem dX6_fetch_77 : decode cX6_fetch 77 = .ok (.goto 4, 3) := by decide +kernel
theorem dX6_fetch_80 : decode cX6_fetch 80 = .ok (.iconst 0, 1) := by decide +kernel
theorem dX6_fetch_81 : decode cX6_fetch 81 = .ok (.istore 5, 2) := by decide +kernel
theorem dX6_fetch_83 : decode cX6_fetch 83 = .ok (.aload_n 0, 1) := by decide +kernel
theorem dX6_fetch_84 : decode cX6_fetch 84 = .ok (.iload_n 3, 1) := by decide +kernel
theorem dX6_fetch_85 : decode cX6_fetch 85 = .ok (.ifCond .ne 7, 3) := by decide +kernel
theorem dX6_fetch_88 : decode cX6_fetch 88 = .ok (.iconst 1, 1) := by decide +kernel
theorem dX6_fetch_89 : decode cX6_fetch 89 = .ok (.goto 28, 3) := by decide +kernel
theorem dX6_fetch_92 : decode cX6_fetch 92 = .ok (.iload_n 2, 1) := by decide +kernel
theorem dX6_fetch_93 : decode cX6_fetch 93 = .ok (.iconst 0, 1) := by decide +kernel
theorem dX6_fetch_94 : decode cX6_fetch 94 = .ok (.sipush 9999, 3) := by decide +kernel
theorem dX6_fetch_97 : decode cX6_fetch 97 = .ok (.invokestatic 116, 3) := by decide +kernel
theorem dX6_fetch_100 : decode cX6_fetch 100 = .ok (.ifCond .ne 7, 3) := by decide +kernel
theorem dX6_fetch_103 : decode cX6_fetch 103 = .ok (.iconst 2, 1) := by decide +kernel
theorem dX6_fetch_104 : decode cX6_fetch 104 = .ok (.goto 13, 3) := by decide +kernel
theorem dX6_fetch_107 : decode cX6_fetch 107 = .ok (.iload 5, 2) := by decide +kernel
theorem dX6_fetch_109 : decode cX6_fetch 109 = .ok (.ifCond .eq 7, 3) := by decide +kernel
theorem dX6_fetch_112 : decode cX6_fetch 112 = .ok (.iconst 0, 1) := by decide +kernel
theorem dX6_fetch_113 : decode cX6_fetch 113 = .ok (.goto 4, 3) := by decide +kernel
theorem dX6_fetch_116 : decode cX6_fetch 116 = .ok (.iconst 3, 1) := by decide +kernel
theorem dX6_fetch_117 : decode cX6_fetch 117 = .ok (.invokevirtual 124, 3) := by decide +kernel
theorem dX6_fetch_120 : decode cX6_fetch 120 = .ok (.ifCond .ne 5, 3) := by decide +kernel
theorem dX6_fetch_123 : decode cX6_fetch 123 = .ok (.iconst 0, 1) := by decide +kernel
theorem dX6_fetch_124 : decode cX6_fetch 124 = .ok (.ireturn, 1) := by decide +kernel
theorem dX6_fetch_125 : decode cX6_fetch 125 = .ok (.iload_n 2, 1) := by decide +kernel
theorem dX6_fetch_126 : decode cX6_fetch 126 = .ok (.aload_n 0, 1) := by decide +kernel
theorem dX6_fetch_127 : decode cX6_fetch 127 = .ok (.getfield 51, 3) := by decide +kernel
theorem dX6_fetch_130 : decode cX6_fetch 130 = .ok (.iload_n 1, 1) := by decide +kernel
theorem dX6_fetch_131 : decode cX6_fetch 131 = .ok (.iaload, 1) := by decide +kernel
theorem dX6_fetch_132 : decode cX6_fetch 132 = .ok (.if_icmp .ne 46, 3) := by decide +kernel
theorem dX6_fetch_135 : decode cX6_fetch 135 = .ok (.aload_n 0, 1) := by decide +kernel
theorem dX6_fetch_136 : decode cX6_fetch 136 = .ok (.getfield 13, 3) := by decide +kernel
theorem dX6_fetch_139 : decode cX6_fetch 139 = .ok (.iload 4, 2) := by decide +kernel
theorem dX6_fetch_141 : decode cX6_fetch 141 = .ok (.dup2, 1) := by decide +kernel
theorem dX6_fetch_142 : decode cX6_fetch 142 = .ok (.laload, 1) := by decide +kernel
theorem dX6_fetch_143 : decode cX6_fetch 143 = .ok (.aload_n 0, 1) := by decide +kernel
theorem dX6_fetch_144 : decode cX6_fetch 144 = .ok (.getfield 45, 3) := by decide +kernel
theorem dX6_fetch_147 : decode cX6_fetch 147 = .ok (.iload_n 1, 1) := by decide +kernel
theorem dX6_fetch_148 : decode cX6_fetch 148 = .ok (.iaload, 1) := by decide +kernel
theorem dX6_fetch_149 : decode cX6_fetch 149 = .ok (.i2l, 1) := by decide +kernel
theorem dX6_fetch_150 : decode cX6_fetch 150 = .ok (.lsub, 1) := by decide +kernel
theorem dX6_fetch_151 : decode cX6_fetch 151 = .ok (.lastore, 1) := by decide +kernel
theorem dX6_fetch_152 : decode cX6_fetch 152 = .ok (.aload_n 0, 1) := by decide +kernel
theorem dX6_fetch_153 : decode cX6_fetch 153 = .ok (.getfield 97, 3) := by decide +kernel
theorem dX6_fetch_156 : decode cX6_fetch 156 = .ok (.iconst 1, 1) := by decide +kernel
theorem dX6_fetch_157 : decode cX6_fetch 157 = .ok (.dup2, 1) := by decide +kernel
theorem dX6_fetch_158 : decode cX6_fetch 158 = .ok (.laload, 1) := by decide +kernel
theorem dX6_fetch_159 : decode cX6_fetch 159 = .ok (.aload_n 0, 1) := by decide +kernel
theorem dX6_fetch_160 : decode cX6_fetch 160 = .ok (.getfield 45, 3) := by decide +kernel
theorem dX6_fetch_163 : decode cX6_fetch 163 = .ok (.iload_n 1, 1) := by decide +kernel
theorem dX6_fetch_164 : decode cX6_fetch 164 = .ok (.iaload, 1) := by decide +kernel
theorem dX6_fetch_165 : decode cX6_fetch 165 = .ok (.i2l, 1) := by decide +kernel
theorem dX6_fetch_166 : decode cX6_fetch 166 = .ok (.ladd, 1) := by decide +kernel
theorem dX6_fetch_167 : decode cX6_fetch 167 = .ok (.lastore, 1) := by decide +kernel
theorem dX6_fetch_168 : decode cX6_fetch 168 = .ok (.aload_n 0, 1) := by decide +kernel
theorem dX6_fetch_169 : decode cX6_fetch 169 = .ok (.getfield 42, 3) := by decide +kernel
theorem dX6_fetch_172 : decode cX6_fetch 172 = .ok (.iload_n 1, 1) := by decide +kernel
theorem dX6_fetch_173 : decode cX6_fetch 173 = .ok (.iconst 2, 1) := by decide +kernel
theorem dX6_fetch_174 : decode cX6_fetch 174 = .ok (.iastore, 1) := by decide +kernel
theorem dX6_fetch_175 : decode cX6_fetch 175 = .ok (.goto 28, 3) := by decide +kernel
theorem dX6_fetch_178 : decode cX6_fetch 178 = .ok (.aload_n 0, 1) := by decide +kernel
theorem dX6_fetch_179 : decode cX6_fetch 179 = .ok (.getfield 54, 3) := by decide +kernel
theorem dX6_fetch_182 : decode cX6_fetch 182 = .ok (.iload_n 1, 1) := by decide +kernel
theorem dX6_fetch_183 : decode cX6_fetch 183 = .ok (.dup2, 1) := by decide +kernel
theorem dX6_fetch_184 : decode cX6_fetch 184 = .ok (.iaload, 1) := by decide +kernel
theorem dX6_fetch_185 : decode cX6_fetch 185 = .ok (.iconst 1, 1) := by decide +kernel
theorem dX6_fetch_186 : decode cX6_fetch 186 = .ok (.iadd, 1) := by decide +kernel
theorem dX6_fetch_187 : decode cX6_fetch 187 = .ok (.iastore, 1) := by decide +kernel
theorem dX6_fetch_188 : decode cX6_fetch 188 = .ok (.aload_n 0, 1) := by decide +kernel
theorem dX6_fetch_189 : decode cX6_fetch 189 = .ok (.getfield 54, 3) := by decide +kernel
theorem dX6_fetch_192 : decode cX6_fetch 192 = .ok (.iload_n 1, 1) := by decide +kernel
theorem dX6_fetch_193 : decode cX6_fetch 193 = .ok (.iaload, 1) := by decide +kernel
theorem dX6_fetch_194 : decode cX6_fetch 194 = .ok (.iconst 3, 1) := by decide +kernel
theorem dX6_fetch_195 : decode cX6_fetch 195 = .ok (.if_icmp .ne 8, 3) := by decide +kernel
theorem dX6_fetch_198 : decode cX6_fetch 198 = .ok (.aload_n 0, 1) := by decide +kernel
theorem dX6_fetch_199 : decode cX6_fetch 199 = .ok (.iload_n 1, 1) := by decide +kernel
theorem dX6_fetch_200 : decode cX6_fetch 200 = .ok (.invokevirtual 177, 3) := by decide +kernel
theorem dX6_fetch_203 : decode cX6_fetch 203 = .ok (.aload_n 0, 1) := by decide +kernel
theorem dX6_fetch_204 : decode cX6_fetch 204 = .ok (.getfield 42, 3) := by decide +kernel
theorem dX6_fetch_207 : decode cX6_fetch 207 = .ok (.iload_n 1, 1) := by decide +kernel
theorem dX6_fetch_208 : decode cX6_fetch 208 = .ok (.iaload, 1) := by decide +kernel
theorem dX6_fetch_209 : decode cX6_fetch 209 = .ok (.ireturn, 1) := by decide +kernel
theorem dX6_move_0 : decode cX6_move 0 = .ok (.aload_n 0, 1) := by decide +kernel
theorem dX6_move_1 : decode cX6_move 1 = .ok (.getfield 60, 3) := by decide +kernel
theorem dX6_move_4 : decode cX6_move 4 = .ok (.iload_n 1, 1) := by decide +kernel
theorem dX6_move_5 : decode cX6_move 5 = .ok (.iaload, 1) := by decide +kernel
theorem dX6_move_6 : decode cX6_move 6 = .ok (.istore_n 2, 1) := by decide +kernel
theorem dX6_move_7 : decode cX6_move 7 = .ok (.aload_n 0, 1) := by decide +kernel
theorem dX6_move_8 : decode cX6_move 8 = .ok (.getfield 60, 3) := by decide +kernel
theorem dX6_move_11 : decode cX6_move 11 = .ok (.iload_n 1, 1) := by decide +kernel
theorem dX6_move_12 : decode cX6_move 12 = .ok (.dup2, 1) := by decide +kernel
theorem dX6_move_13 : decode cX6_move 13 = .ok (.iaload, 1) := by decide +kernel
theorem dX6_move_14 : decode cX6_move 14 = .ok (.iconst 1, 1) := by decide +kernel
theorem dX6_move_15 : decode cX6_move 15 = .ok (.iadd, 1) := by decide +kernel
theorem dX6_move_16 : decode cX6_move 16 = .ok (.iastore, 1) := by decide +kernel
theorem dX6_move_17 : decode cX6_move 17 = .ok (.aload_n 0, 1) := by decide +kernel
theorem dX6_move_18 : decode cX6_move 18 = .ok (.aload_n 0, 1) := by decide +kernel
theorem dX6_move_19 : decode cX6_move 19 = .ok (.getfield 39, 3) := by decide +kernel
theorem dX6_move_22 : decode cX6_move 22 = .ok (.aload_n 0, 1) := by decide +kernel
theorem dX6_move_23 : decode cX6_move 23 = .ok (.getfield 66, 3) := by decide +kernel
theorem dX6_move_26 : decode cX6_move 26 = .ok (.bipush 12, 2) := by decide +kernel
theorem dX6_move_28 : decode cX6_move 28 = .ok (.iload_n 1, 1) := by decide +kernel
theorem dX6_move_29 : decode cX6_move 29 = .ok (.imul, 1) := by decide +kernel
theorem dX6_move_30 : decode cX6_move 30 = .ok (.iload_n 2, 1) := by decide +kernel
theorem dX6_move_31 : decode cX6_move 31 = .ok (.iadd, 1) := by decide +kernel
theorem dX6_move_32 : decode cX6_move 32 = .ok (.iconst 1, 1) := by decide +kernel
theorem dX6_move_33 : decode cX6_move 33 = .ok (.iadd, 1) := by decide +kernel
theorem dX6_move_34 : decode cX6_move 34 = .ok (.iaload, 1) := by decide +kernel
theorem dX6_move_35 : decode cX6_move 35 = .ok (.aload_n 0, 1) := by decide +kernel
theorem dX6_move_36 : decode cX6_move 36 = .ok (.getfield 66, 3) := by decide +kernel
theorem dX6_move_39 : decode cX6_move 39 = .ok (.bipush 12, 2) := by decide +kernel
theorem dX6_move_41 : decode cX6_move 41 = .ok (.iload_n 1, 1) := by decide +kernel
theorem dX6_move_42 : decode cX6_move 42 = .ok (.imul, 1) := by decide +kernel
theorem dX6_move_43 : decode cX6_move 43 = .ok (.iload_n 2, 1) := by decide +kernel
theorem dX6_move_44 : decode cX6_move 44 = .ok (.iadd, 1) := by decide +kernel
theorem dX6_move_45 : decode cX6_move 45 = .ok (.iaload, 1) := by decide +kernel
theorem dX6_move_46 : decode cX6_move 46 = .ok (.aload_n 0, 1) := by decide +kernel
theorem dX6_move_47 : decode cX6_move 47 = .ok (.getfield 69, 3) := by decide +kernel
theorem dX6_move_50 : decode cX6_move 50 = .ok (.bipush 12, 2) := by decide +kernel
theorem dX6_move_52 : decode cX6_move 52 = .ok (.iload_n 1, 1) := by decide +kernel
theorem dX6_move_53 : decode cX6_move 53 = .ok (.imul, 1) := by decide +kernel
theorem dX6_move_54 : decode cX6_move 54 = .ok (.iload_n 2, 1) := by decide +kernel
theorem dX6_move_55 : decode cX6_move 55 = .ok (.iadd, 1) := by decide +kernel
theorem dX6_move_56 : decode cX6_move 56 = .ok (.iaload, 1) := by decide +kernel
theorem dX6_move_57 : decode cX6_move 57 = .ok (.ineg, 1) := by decide +kernel
theorem dX6_move_58 : decode cX6_move 58 = .ok (.i2l, 1) := by decide +kernel
theorem dX6_move_59 : decode cX6_move 59 = .ok (.invokevirtual 135, 3) := by decide +kernel
theorem dX6_move_62 : decode cX6_move 62 = .ok (.aload_n 0, 1) := by decide +kernel
theorem dX6_move_63 : decode cX6_move 63 = .ok (.getfield 42, 3) := by decide +kernel
theorem dX6_move_66 : decode cX6_move 66 = .ok (.iload_n 1, 1) := by decide +kernel
theorem dX6_move_67 : decode cX6_move 67 = .ok (.aload_n 0, 1) := by decide +kernel
theorem dX6_move_68 : decode cX6_move 68 = .ok (.getfield 60, 3) := by decide +kernel
theorem dX6_move_71 : decode cX6_move 71 = .ok (.iload_n 1, 1) := by decide +kernel
theorem dX6_move_72 : decode cX6_move 72 = .ok (.iaload, 1) := by decide +kernel
theorem dX6_move_73 : decode cX6_move 73 = .ok (.aload_n 0, 1) := by decide +kernel
theorem dX6_move_74 : decode cX6_move 74 = .ok (.getfield 63, 3) := by decide +kernel
theorem dX6_move_77 : decode cX6_move 77 = .ok (.iload_n 1, 1) := by decide +kernel
theorem dX6_move_78 : decode cX6_move 78 = .ok (.iaload, 1) := by decide +kernel
theorem dX6_move_79 : decode cX6_move 79 = .ok (.iconst 1, 1) := by decide +kernel
theorem dX6_move_80 : decode cX6_move 80 = .ok (.isub, 1) := by decide +kernel
theorem dX6_move_81 : decode cX6_move 81 = .ok (.if_icmp .ne 7, 3) := by decide +kernel
theorem dX6_move_84 : decode cX6_move 84 = .ok (.iconst 1, 1) := by decide +kernel
theorem dX6_move_85 : decode cX6_move 85 = .ok (.goto 4, 3) := by decide +kernel
theorem dX6_move_88 : decode cX6_move 88 = .ok (.iconst 0, 1) := by decide +kernel
theorem dX6_move_89 : decode cX6_move 89 = .ok (.iastore, 1) := by decide +kernel
theorem dX6_move_90 : decode cX6_move 90 = .ok (.return_, 1) := by decide +kernel
theorem dX6_comeAll_0 : decode cX6_comeAll 0 = .ok (.iconst 0, 1) := by decide +kernel
theorem dX6_comeAll_1 : decode cX6_comeAll 1 = .ok (.istore_n 1, 1) := by decide +kernel
theorem dX6_comeAll_2 : decode cX6_comeAll 2 = .ok (.iload_n 1, 1) := by decide +kernel
theorem dX6_comeAll_3 : decode cX6_comeAll 3 = .ok (.aload_n 0, 1) := by decide +kernel
theorem dX6_comeAll_4 : decode cX6_comeAll 4 = .ok (.getfield 200, 3) := by decide +kernel
theorem dX6_comeAll_7 : decode cX6_comeAll 7 = .ok (.if_icmp .ge 83, 3) := by decide +kernel
theorem dX6_comeAll_10 : decode cX6_comeAll 10 = .ok (.aload_n 0, 1) := by decide +kernel
theorem dX6_comeAll_11 : decode cX6_comeAll 11 = .ok (.getfield 84, 3) := by decide +kernel
theorem dX6_comeAll_14 : decode cX6_comeAll 14 = .ok (.iload_n 1, 1) := by decide +kernel
theorem dX6_comeAll_15 : decode cX6_comeAll 15 = .ok (.baload, 1) := by decide +kernel
theorem dX6_comeAll_16 : decode cX6_comeAll 16 = .ok (.ifCond .ne 68, 3) := by decide +kernel
theorem dX6_comeAll_19 : decode cX6_comeAll 19 = .ok (.aload_n 0, 1) := by decide +kernel
theorem dX6_comeAll_20 : decode cX6_comeAll 20 = .ok (.getfield 81, 3) := by decide +kernel
theorem dX6_comeAll_23 : decode cX6_comeAll 23 = .ok (.iload_n 1, 1) := by decide +kernel
theorem dX6_comeAll_24 : decode cX6_comeAll 24 = .ok (.iaload, 1) := by decide +kernel
theorem dX6_comeAll_25 : decode cX6_comeAll 25 = .ok (.aload_n 0, 1) := by decide +kernel
theorem dX6_comeAll_26 : decode cX6_comeAll 26 = .ok (.getfield 194, 3) := by decide +kernel
theorem dX6_comeAll_29 : decode cX6_comeAll 29 = .ok (.if_icmp .gt 55, 3) := by decide +kernel
theorem dX6_comeAll_32 : decode cX6_comeAll 32 = .ok (.aload_n 0, 1) := by decide +kernel
theorem dX6_comeAll_33 : decode cX6_comeAll 33 = .ok (.getfield 84, 3) := by decide +kernel
theorem dX6_comeAll_36 : decode cX6_comeAll 36 = .ok (.iload_n 1, 1) := by decide +kernel
theorem dX6_comeAll_37 : decode cX6_comeAll 37 = .ok (.iconst 1, 1) := by decide +kernel
theorem dX6_comeAll_38 : decode cX6_comeAll 38 = .ok (.bastore, 1) := by decide +kernel
theorem dX6_comeAll_39 : decode cX6_comeAll 39 = .ok (.aload_n 0, 1) := by decide +kernel
theorem dX6_comeAll_40 : decode cX6_comeAll 40 = .ok (.getfield 13, 3) := by decide +kernel
theorem dX6_comeAll_43 : decode cX6_comeAll 43 = .ok (.aload_n 0, 1) := by decide +kernel
theorem dX6_comeAll_44 : decode cX6_comeAll 44 = .ok (.getfield 78, 3) := by decide +kernel
theorem dX6_comeAll_47 : decode cX6_comeAll 47 = .ok (.iload_n 1, 1) := by decide +kernel
theorem dX6_comeAll_48 : decode cX6_comeAll 48 = .ok (.iaload, 1) := by decide +kernel
theorem dX6_comeAll_49 : decode cX6_comeAll 49 = .ok (.dup2, 1) := by decide +kernel
theorem dX6_comeAll_50 : decode cX6_comeAll 50 = .ok (.laload, 1) := by decide +kernel
theorem dX6_comeAll_51 : decode cX6_comeAll 51 = .ok (.aload_n 0, 1) := by decide +kernel
theorem dX6_comeAll_52 : decode cX6_comeAll 52 = .ok (.getfield 72, 3) := by decide +kernel
theorem dX6_comeAll_55 : decode cX6_comeAll 55 = .ok (.iload_n 1, 1) := by decide +kernel
theorem dX6_comeAll_56 : decode cX6_comeAll 56 = .ok (.iaload, 1) := by decide +kernel
theorem dX6_comeAll_57 : decode cX6_comeAll 57 = .ok (.i2l, 1) := by decide +kernel
theorem dX6_comeAll_58 : decode cX6_comeAll 58 = .ok (.ladd, 1) := by decide +kernel
theorem dX6_comeAll_59 : decode cX6_comeAll 59 = .ok (.lastore, 1) := by decide +kernel
theorem dX6_comeAll_60 : decode cX6_comeAll 60 = .ok (.aload_n 0, 1) := by decide +kernel
theorem dX6_comeAll_61 : decode cX6_comeAll 61 = .ok (.aload_n 0, 1) := by decide +kernel
theorem dX6_comeAll_62 : decode cX6_comeAll 62 = .ok (.getfield 75, 3) := by decide +kernel
theorem dX6_comeAll_65 : decode cX6_comeAll 65 = .ok (.iload_n 1, 1) := by decide +kernel
theorem dX6_comeAll_66 : decode cX6_comeAll 66 = .ok (.iaload, 1) := by decide +kernel
theorem dX6_comeAll_67 : decode cX6_comeAll 67 = .ok (.aload_n 0, 1) := by decide +kernel
theorem dX6_comeAll_68 : decode cX6_comeAll 68 = .ok (.getfield 78, 3) := by decide +kernel
theorem dX6_comeAll_71 : decode cX6_comeAll 71 = .ok (.iload_n 1, 1) := by decide +kernel
theorem dX6_comeAll_72 : decode cX6_comeAll 72 = .ok (.iaload, 1) := by decide +kernel
theorem dX6_comeAll_73 : decode cX6_comeAll 73 = .ok (.aload_n 0, 1) := by decide +kernel
theorem dX6_comeAll_74 : decode cX6_comeAll 74 = .ok (.getfield 72, 3) := by decide +kernel
theorem dX6_comeAll_77 : decode cX6_comeAll 77 = .ok (.iload_n 1, 1) := by decide +kernel
theorem dX6_comeAll_78 : decode cX6_comeAll 78 = .ok (.iaload, 1) := by decide +kernel
theorem dX6_comeAll_79 : decode cX6_comeAll 79 = .ok (.ineg, 1) := by decide +kernel
theorem dX6_comeAll_80 : decode cX6_comeAll 80 = .ok (.i2l, 1) := by decide +kernel
theorem dX6_comeAll_81 : decode cX6_comeAll 81 = .ok (.invokevirtual 203, 3) := by decide +kernel
theorem dX6_comeAll_84 : decode cX6_comeAll 84 = .ok (.iinc 1 1, 3) := by decide +kernel
theorem dX6_comeAll_87 : decode cX6_comeAll 87 = .ok (.goto (-85), 3) := by decide +kernel
theorem dX6_comeAll_90 : decode cX6_comeAll 90 = .ok (.return_, 1) := by decide +kernel
theorem dX6_nextHour_0 : decode cX6_nextHour 0 = .ok (.aload_n 0, 1) := by decide +kernel
theorem dX6_nextHour_1 : decode cX6_nextHour 1 = .ok (.dup, 1) := by decide +kernel
theorem dX6_nextHour_2 : decode cX6_nextHour 2 = .ok (.getfield 194, 3) := by decide +kernel
theorem dX6_nextHour_5 : decode cX6_nextHour 5 = .ok (.iconst 1, 1) := by decide +kernel
theorem dX6_nextHour_6 : decode cX6_nextHour 6 = .ok (.iadd, 1) := by decide +kernel
theorem dX6_nextHour_7 : decode cX6_nextHour 7 = .ok (.putfield 194, 3) := by decide +kernel
theorem dX6_nextHour_10 : decode cX6_nextHour 10 = .ok (.iconst 0, 1) := by decide +kernel
theorem dX6_nextHour_11 : decode cX6_nextHour 11 = .ok (.istore_n 1, 1) := by decide +kernel
theorem dX6_nextHour_12 : decode cX6_nextHour 12 = .ok (.iload_n 1, 1) := by decide +kernel
theorem dX6_nextHour_13 : decode cX6_nextHour 13 = .ok (.aload_n 0, 1) := by decide +kernel
theorem dX6_nextHour_14 : decode cX6_nextHour 14 = .ok (.getfield 113, 3) := by decide +kernel
theorem dX6_nextHour_17 : decode cX6_nextHour 17 = .ok (.if_icmp .ge 48, 3) := by decide +kernel
theorem dX6_nextHour_20 : decode cX6_nextHour 20 = .ok (.aload_n 0, 1) := by decide +kernel
theorem dX6_nextHour_21 : decode cX6_nextHour 21 = .ok (.getfield 20, 3) := by decide +kernel
theorem dX6_nextHour_24 : decode cX6_nextHour 24 = .ok (.iload_n 1, 1) := by decide +kernel
theorem dX6_nextHour_25 : decode cX6_nextHour 25 = .ok (.aload_n 0, 1) := by decide +kernel
theorem dX6_nextHour_26 : decode cX6_nextHour 26 = .ok (.getfield 20, 3) := by decide +kernel
theorem dX6_nextHour_29 : decode cX6_nextHour 29 = .ok (.iload_n 1, 1) := by decide +kernel
theorem dX6_nextHour_30 : decode cX6_nextHour 30 = .ok (.iaload, 1) := by decide +kernel
theorem dX6_nextHour_31 : decode cX6_nextHour 31 = .ok (.iconst 1, 1) := by decide +kernel
theorem dX6_nextHour_32 : decode cX6_nextHour 32 = .ok (.if_icmp .ne 20, 3) := by decide +kernel
theorem dX6_nextHour_35 : decode cX6_nextHour 35 = .ok (.aload_n 0, 1) := by decide +kernel
theorem dX6_nextHour_36 : decode cX6_nextHour 36 = .ok (.getfield 23, 3) := by decide +kernel
theorem dX6_nextHour_39 : decode cX6_nextHour 39 = .ok (.iload_n 1, 1) := by decide +kernel
theorem dX6_nextHour_40 : decode cX6_nextHour 40 = .ok (.iaload, 1) := by decide +kernel
theorem dX6_nextHour_41 : decode cX6_nextHour 41 = .ok (.aload_n 0, 1) := by decide +kernel
theorem dX6_nextHour_42 : decode cX6_nextHour 42 = .ok (.getfield 194, 3) := by decide +kernel
theorem dX6_nextHour_45 : decode cX6_nextHour 45 = .ok (.if_icmp .gt 7, 3) := by decide +kernel
theorem dX6_nextHour_48 : decode cX6_nextHour 48 = .ok (.iconst 0, 1) := by decide +kernel
theorem dX6_nextHour_49 : decode cX6_nextHour 49 = .ok (.goto 9, 3) := by decide +kernel
theorem dX6_nextHour_52 : decode cX6_nextHour 52 = .ok (.aload_n 0, 1) := by decide +kernel
theorem dX6_nextHour_53 : decode cX6_nextHour 53 = .ok (.getfield 20, 3) := by decide +kernel
theorem dX6_nextHour_56 : decode cX6_nextHour 56 = .ok (.iload_n 1, 1) := by decide +kernel
theorem dX6_nextHour_57 : decode cX6_nextHour 57 = .ok (.iaload, 1) := by decide +kernel
theorem dX6_nextHour_58 : decode cX6_nextHour 58 = .ok (.iastore, 1) := by decide +kernel
theorem dX6_nextHour_59 : decode cX6_nextHour 59 = .ok (.iinc 1 1, 3) := by decide +kernel
theorem dX6_nextHour_62 : decode cX6_nextHour 62 = .ok (.goto (-50), 3) := by decide +kernel
theorem dX6_nextHour_65 : decode cX6_nextHour 65 = .ok (.iconst 0, 1) := by decide +kernel
theorem dX6_nextHour_66 : decode cX6_nextHour 66 = .ok (.istore_n 1, 1) := by decide +kernel
theorem dX6_nextHour_67 : decode cX6_nextHour 67 = .ok (.iload_n 1, 1) := by decide +kernel
theorem dX6_nextHour_68 : decode cX6_nextHour 68 = .ok (.aload_n 0, 1) := by decide +kernel
theorem dX6_nextHour_69 : decode cX6_nextHour 69 = .ok (.getfield 181, 3) := by decide +kernel
theorem dX6_nextHour_72 : decode cX6_nextHour 72 = .ok (.if_icmp .ge 23, 3) := by decide +kernel
theorem dX6_nextHour_75 : decode cX6_nextHour 75 = .ok (.aload_n 0, 1) := by decide +kernel
theorem dX6_nextHour_76 : decode cX6_nextHour 76 = .ok (.getfield 42, 3) := by decide +kernel
theorem dX6_nextHour_79 : decode cX6_nextHour 79 = .ok (.iload_n 1, 1) := by decide +kernel
theorem dX6_nextHour_80 : decode cX6_nextHour 80 = .ok (.iaload, 1) := by decide +kernel
theorem dX6_nextHour_81 : decode cX6_nextHour 81 = .ok (.ifCond .ne 8, 3) := by decide +kernel
theorem dX6_nextHour_84 : decode cX6_nextHour 84 = .ok (.aload_n 0, 1) := by decide +kernel
theorem dX6_nextHour_85 : decode cX6_nextHour 85 = .ok (.iload_n 1, 1) := by decide +kernel
theorem dX6_nextHour_86 : decode cX6_nextHour 86 = .ok (.invokevirtual 207, 3) := by decide +kernel
theorem dX6_nextHour_89 : decode cX6_nextHour 89 = .ok (.iinc 1 1, 3) := by decide +kernel
theorem dX6_nextHour_92 : decode cX6_nextHour 92 = .ok (.goto (-25), 3) := by decide +kernel
theorem dX6_nextHour_95 : decode cX6_nextHour 95 = .ok (.iconst 0, 1) := by decide +kernel
theorem dX6_nextHour_96 : decode cX6_nextHour 96 = .ok (.istore_n 1, 1) := by decide +kernel
theorem dX6_nextHour_97 : decode cX6_nextHour 97 = .ok (.iload_n 1, 1) := by decide +kernel
theorem dX6_nextHour_98 : decode cX6_nextHour 98 = .ok (.aload_n 0, 1) := by decide +kernel
theorem dX6_nextHour_99 : decode cX6_nextHour 99 = .ok (.getfield 181, 3) := by decide +kernel
theorem dX6_nextHour_102 : decode cX6_nextHour 102 = .ok (.if_icmp .ge 41, 3) := by decide +kernel
theorem dX6_nextHour_105 : decode cX6_nextHour 105 = .ok (.aload_n 0, 1) := by decide +kernel
theorem dX6_nextHour_106 : decode cX6_nextHour 106 = .ok (.getfield 42, 3) := by decide +kernel
theorem dX6_nextHour_109 : decode cX6_nextHour 109 = .ok (.iload_n 1, 1) := by decide +kernel
theorem dX6_nextHour_110 : decode cX6_nextHour 110 = .ok (.iaload, 1) := by decide +kernel
theorem dX6_nextHour_111 : decode cX6_nextHour 111 = .ok (.iconst 1, 1) := by decide +kernel
theorem dX6_nextHour_112 : decode cX6_nextHour 112 = .ok (.if_icmp .gt 25, 3) := by decide +kernel
theorem dX6_nextHour_115 : decode cX6_nextHour 115 = .ok (.aload_n 0, 1) := by decide +kernel
theorem dX6_nextHour_116 : decode cX6_nextHour 116 = .ok (.getfield 194, 3) := by decide +kernel
theorem dX6_nextHour_119 : decode cX6_nextHour 119 = .ok (.aload_n 0, 1) := by decide +kernel
theorem dX6_nextHour_120 : decode cX6_nextHour 120 = .ok (.getfield 57, 3) := by decide +kernel
theorem dX6_nextHour_123 : decode cX6_nextHour 123 = .ok (.iload_n 1, 1) := by decide +kernel
theorem dX6_nextHour_124 : decode cX6_nextHour 124 = .ok (.iaload, 1) := by decide +kernel
theorem dX6_nextHour_125 : decode cX6_nextHour 125 = .ok (.isub, 1) := by decide +kernel
theorem dX6_nextHour_126 : decode cX6_nextHour 126 = .ok (.sipush 240, 3) := by decide +kernel
theorem dX6_nextHour_129 : decode cX6_nextHour 129 = .ok (.if_icmp .lt 8, 3) := by decide +kernel
theorem dX6_nextHour_132 : decode cX6_nextHour 132 = .ok (.aload_n 0, 1) := by decide +kernel
theorem dX6_nextHour_133 : decode cX6_nextHour 133 = .ok (.iload_n 1, 1) := by decide +kernel
theorem dX6_nextHour_134 : decode cX6_nextHour 134 = .ok (.invokevirtual 177, 3) := by decide +kernel
theorem dX6_nextHour_137 : decode cX6_nextHour 137 = .ok (.iinc 1 1, 3) := by decide +kernel
theorem dX6_nextHour_140 : decode cX6_nextHour 140 = .ok (.goto (-43), 3) := by decide +kernel
theorem dX6_nextHour_143 : decode cX6_nextHour 143 = .ok (.iconst 0, 1) := by decide +kernel
theorem dX6_nextHour_144 : decode cX6_nextHour 144 = .ok (.istore_n 1, 1) := by decide +kernel
theorem dX6_nextHour_145 : decode cX6_nextHour 145 = .ok (.iload_n 1, 1) := by decide +kernel
theorem dX6_nextHour_146 : decode cX6_nextHour 146 = .ok (.aload_n 0, 1) := by decide +kernel
theorem dX6_nextHour_147 : decode cX6_nextHour 147 = .ok (.getfield 181, 3) := by decide +kernel
theorem dX6_nextHour_150 : decode cX6_nextHour 150 = .ok (.if_icmp .ge 90, 3) := by decide +kernel
theorem dX6_nextHour_153 : decode cX6_nextHour 153 = .ok (.aload_n 0, 1) := by decide +kernel
theorem dX6_nextHour_154 : decode cX6_nextHour 154 = .ok (.iload_n 1, 1) := by decide +kernel
theorem dX6_nextHour_155 : decode cX6_nextHour 155 = .ok (.invokevirtual 166, 3) := by decide +kernel
theorem dX6_nextHour_158 : decode cX6_nextHour 158 = .ok (.istore_n 2, 1) := by decide +kernel
theorem dX6_nextHour_159 : decode cX6_nextHour 159 = .ok (.aload_n 0, 1) := by decide +kernel
theorem dX6_nextHour_160 : decode cX6_nextHour 160 = .ok (.getfield 42, 3) := by decide +kernel
theorem dX6_nextHour_163 : decode cX6_nextHour 163 = .ok (.iload_n 1, 1) := by decide +kernel
theorem dX6_nextHour_164 : decode cX6_nextHour 164 = .ok (.iaload, 1) := by decide +kernel
theorem dX6_nextHour_165 : decode cX6_nextHour 165 = .ok (.iconst 3, 1) := by decide +kernel
theorem dX6_nextHour_166 : decode cX6_nextHour 166 = .ok (.if_icmp .ne 68, 3) := by decide +kernel
theorem dX6_nextHour_169 : decode cX6_nextHour 169 = .ok (.aload_n 0, 1) := by decide +kernel
theorem dX6_nextHour_170 : decode cX6_nextHour 170 = .ok (.getfield 20, 3) := by decide +kernel
theorem dX6_nextHour_173 : decode cX6_nextHour 173 = .ok (.iload_n 2, 1) := by decide +kernel
theorem dX6_nextHour_174 : decode cX6_nextHour 174 = .ok (.iaload, 1) := by decide +kernel
theorem dX6_nextHour_175 : decode cX6_nextHour 175 = .ok (.ifCond .ne 59, 3) := by decide +kernel
theorem dX6_nextHour_178 : decode cX6_nextHour 178 = .ok (.aload_n 0, 1) := by decide +kernel
theorem dX6_nextHour_179 : decode cX6_nextHour 179 = .ok (.getfield 13, 3) := by decide +kernel
theorem dX6_nextHour_182 : decode cX6_nextHour 182 = .ok (.iload_n 2, 1) := by decide +kernel
theorem dX6_nextHour_183 : decode cX6_nextHour 183 = .ok (.laload, 1) := by decide +kernel
theorem dX6_nextHour_184 : decode cX6_nextHour 184 = .ok (.aload_n 0, 1) := by decide +kernel
theorem dX6_nextHour_185 : decode cX6_nextHour 185 = .ok (.getfield 48, 3) := by decide +kernel
theorem dX6_nextHour_188 : decode cX6_nextHour 188 = .ok (.iload_n 1, 1) := by decide +kernel
theorem dX6_nextHour_189 : decode cX6_nextHour 189 = .ok (.iaload, 1) := by decide +kernel
theorem dX6_nextHour_190 : decode cX6_nextHour 190 = .ok (.i2l, 1) := by decide +kernel
theorem dX6_nextHour_191 : decode cX6_nextHour 191 = .ok (.lcmp, 1) := by decide +kernel
theorem dX6_nextHour_192 : decode cX6_nextHour 192 = .ok (.ifCond .lt 42, 3) := by decide +kernel
theorem dX6_nextHour_195 : decode cX6_nextHour 195 = .ok (.aload_n 0, 1) := by decide +kernel
theorem dX6_nextHour_196 : decode cX6_nextHour 196 = .ok (.getfield 13, 3) := by decide +kernel
theorem dX6_nextHour_199 : decode cX6_nextHour 199 = .ok (.iload_n 2, 1) := by decide +kernel
theorem dX6_nextHour_200 : decode cX6_nextHour 200 = .ok (.dup2, 1) := by decide +kernel
theorem dX6_nextHour_201 : decode cX6_nextHour 201 = .ok (.laload, 1) := by decide +kernel
theorem dX6_nextHour_202 : decode cX6_nextHour 202 = .ok (.aload_n 0, 1) := by decide +kernel
theorem dX6_nextHour_203 : decode cX6_nextHour 203 = .ok (.getfield 48, 3) := by decide +kernel
theorem dX6_nextHour_206 : decode cX6_nextHour 206 = .ok (.iload_n 1, 1) := by decide +kernel
theorem dX6_nextHour_207 : decode cX6_nextHour 207 = .ok (.iaload, 1) := by decide +kernel
theorem dX6_nextHour_208 : decode cX6_nextHour 208 = .ok (.i2l, 1) := by decide +kernel
theorem dX6_nextHour_209 : decode cX6_nextHour 209 = .ok (.lsub, 1) := by decide +kernel
theorem dX6_nextHour_210 : decode cX6_nextHour 210 = .ok (.lastore, 1) := by decide +kernel
theorem dX6_nextHour_211 : decode cX6_nextHour 211 = .ok (.aload_n 0, 1) := by decide +kernel
theorem dX6_nextHour_212 : decode cX6_nextHour 212 = .ok (.getfield 97, 3) := by decide +kernel
theorem dX6_nextHour_215 : decode cX6_nextHour 215 = .ok (.iconst 2, 1) := by decide +kernel
theorem dX6_nextHour_216 : decode cX6_nextHour 216 = .ok (.dup2, 1) := by decide +kernel
theorem dX6_nextHour_217 : decode cX6_nextHour 217 = .ok (.laload, 1) := by decide +kernel
theorem dX6_nextHour_218 : decode cX6_nextHour 218 = .ok (.aload_n 0, 1) := by decide +kernel
theorem dX6_nextHour_219 : decode cX6_nextHour 219 = .ok (.getfield 48, 3) := by decide +kernel
theorem dX6_nextHour_222 : decode cX6_nextHour 222 = .ok (.iload_n 1, 1) := by decide +kernel
theorem dX6_nextHour_223 : decode cX6_nextHour 223 = .ok (.iaload, 1) := by decide +kernel
theorem dX6_nextHour_224 : decode cX6_nextHour 224 = .ok (.i2l, 1) := by decide +kernel
theorem dX6_nextHour_225 : decode cX6_nextHour 225 = .ok (.ladd, 1) := by decide +kernel
theorem dX6_nextHour_226 : decode cX6_nextHour 226 = .ok (.lastore, 1) := by decide +kernel
theorem dX6_nextHour_227 : decode cX6_nextHour 227 = .ok (.aload_n 0, 1) := by decide +kernel
theorem dX6_nextHour_228 : decode cX6_nextHour 228 = .ok (.getfield 42, 3) := by decide +kernel
theorem dX6_nextHour_231 : decode cX6_nextHour 231 = .ok (.iload_n 1, 1) := by decide +kernel
theorem dX6_nextHour_232 : decode cX6_nextHour 232 = .ok (.iconst 4, 1) := by decide +kernel
theorem dX6_nextHour_233 : decode cX6_nextHour 233 = .ok (.iastore, 1) := by decide +kernel
theorem dX6_nextHour_234 : decode cX6_nextHour 234 = .ok (.iinc 1 1, 3) := by decide +kernel
theorem dX6_nextHour_237 : decode cX6_nextHour 237 = .ok (.goto (-92), 3) := by decide +kernel
theorem dX6_nextHour_240 : decode cX6_nextHour 240 = .ok (.aload_n 0, 1) := by decide +kernel
theorem dX6_nextHour_241 : decode cX6_nextHour 241 = .ok (.invokevirtual 210, 3) := by decide +kernel
theorem dX6_nextHour_244 : decode cX6_nextHour 244 = .ok (.return_, 1) := by decide +kernel
theorem dX6_pass_0 : decode cX6_pass 0 = .ok (.aload_n 0, 1) := by decide +kernel
theorem dX6_pass_1 : decode cX6_pass 1 = .ok (.iload_n 1, 1) := by decide +kernel
theorem dX6_pass_2 : decode cX6_pass 2 = .ok (.iconst 1, 1) := by decide +kernel
theorem dX6_pass_3 : decode cX6_pass 3 = .ok (.sipush 500, 3) := by decide +kernel
theorem dX6_pass_6 : decode cX6_pass 6 = .ok (.invokestatic 116, 3) := by decide +kernel
theorem dX6_pass_9 : decode cX6_pass 9 = .ok (.ifCond .eq 7, 3) := by decide +kernel
theorem dX6_pass_12 : decode cX6_pass 12 = .ok (.iconst 0, 1) := by decide +kernel
theorem dX6_pass_13 : decode cX6_pass 13 = .ok (.goto 4, 3) := by decide +kernel
theorem dX6_pass_16 : decode cX6_pass 16 = .ok (.iconst 1, 1) := by decide +kernel
theorem dX6_pass_17 : decode cX6_pass 17 = .ok (.invokevirtual 124, 3) := by decide +kernel
theorem dX6_pass_20 : decode cX6_pass 20 = .ok (.ifCond .ne 5, 3) := by decide +kernel
theorem dX6_pass_23 : decode cX6_pass 23 = .ok (.iconst 0, 1) := by decide +kernel
theorem dX6_pass_24 : decode cX6_pass 24 = .ok (.ireturn, 1) := by decide +kernel
theorem dX6_pass_25 : decode cX6_pass 25 = .ok (.iconst 0, 1) := by decide +kernel
theorem dX6_pass_26 : decode cX6_pass 26 = .ok (.istore_n 2, 1) := by decide +kernel
theorem dX6_pass_27 : decode cX6_pass 27 = .ok (.iload_n 2, 1) := by decide +kernel
theorem dX6_pass_28 : decode cX6_pass 28 = .ok (.iload_n 1, 1) := by decide +kernel
theorem dX6_pass_29 : decode cX6_pass 29 = .ok (.if_icmp .ge 13, 3) := by decide +kernel
theorem dX6_pass_32 : decode cX6_pass 32 = .ok (.aload_n 0, 1) := by decide +kernel
theorem dX6_pass_33 : decode cX6_pass 33 = .ok (.invokevirtual 213, 3) := by decide +kernel
theorem dX6_pass_36 : decode cX6_pass 36 = .ok (.iinc 2 1, 3) := by decide +kernel
theorem dX6_pass_39 : decode cX6_pass 39 = .ok (.goto (-12), 3) := by decide +kernel
theorem dX6_pass_42 : decode cX6_pass 42 = .ok (.aload_n 0, 1) := by decide +kernel
theorem dX6_pass_43 : decode cX6_pass 43 = .ok (.getfield 194, 3) := by decide +kernel
theorem dX6_pass_46 : decode cX6_pass 46 = .ok (.ireturn, 1) := by decide +kernel
theorem dX6_pay_0 : decode cX6_pay 0 = .ok (.aload_n 0, 1) := by decide +kernel
theorem dX6_pay_1 : decode cX6_pay 1 = .ok (.iload_n 1, 1) := by decide +kernel
theorem dX6_pay_2 : decode cX6_pay 2 = .ok (.iload_n 2, 1) := by decide +kernel
theorem dX6_pay_3 : decode cX6_pay 3 = .ok (.invokevirtual 127, 3) := by decide +kernel
theorem dX6_pay_6 : decode cX6_pay 6 = .ok (.istore 4, 2) := by decide +kernel
theorem dX6_pay_8 : decode cX6_pay 8 = .ok (.iload_n 1, 1) := by decide +kernel
theorem dX6_pay_9 : decode cX6_pay 9 = .ok (.iload_n 2, 1) := by decide +kernel
theorem dX6_pay_10 : decode cX6_pay 10 = .ok (.if_icmp .eq 17, 3) := by decide +kernel
theorem dX6_pay_13 : decode cX6_pay 13 = .ok (.iload_n 3, 1) := by decide +kernel
theorem dX6_pay_14 : decode cX6_pay 14 = .ok (.iconst 1, 1) := by decide +kernel
theorem dX6_pay_15 : decode cX6_pay 15 = .ok (.ldc 87, 2) := by decide +kernel
theorem dX6_pay_17 : decode cX6_pay 17 = .ok (.invokestatic 116, 3) := by decide +kernel
theorem dX6_pay_20 : decode cX6_pay 20 = .ok (.ifCond .eq 7, 3) := by decide +kernel
theorem dX6_pay_23 : decode cX6_pay 23 = .ok (.iconst 1, 1) := by decide +kernel
theorem dX6_pay_24 : decode cX6_pay 24 = .ok (.goto 4, 3) := by decide +kernel
theorem dX6_pay_27 : decode cX6_pay 27 = .ok (.iconst 0, 1) := by decide +kernel
theorem dX6_pay_28 : decode cX6_pay 28 = .ok (.istore 5, 2) := by decide +kernel
theorem dX6_pay_30 : decode cX6_pay 30 = .ok (.iload 4, 2) := by decide +kernel
theorem dX6_pay_32 : decode cX6_pay 32 = .ok (.ifCond .eq 54, 3) := by decide +kernel
theorem dX6_pay_35 : decode cX6_pay 35 = .ok (.aload_n 0, 1) := by decide +kernel
theorem dX6_pay_36 : decode cX6_pay 36 = .ok (.getfield 20, 3) := by decide +kernel
theorem dX6_pay_39 : decode cX6_pay 39 = .ok (.iload_n 1, 1) := by decide +kernel
theorem dX6_pay_40 : decode cX6_pay 40 = .ok (.iaload, 1) := by decide +kernel
theorem dX6_pay_41 : decode cX6_pay 41 = .ok (.ifCond .ne 45, 3) := by decide +kernel
theorem dX6_pay_44 : decode cX6_pay 44 = .ok (.aload_n 0, 1) := by decide +kernel
theorem dX6_pay_45 : decode cX6_pay 45 = .ok (.getfield 20, 3) := by decide +kernel
theorem dX6_pay_48 : decode cX6_pay 48 = .ok (.iload_n 2, 1) := by decide +kernel
theorem dX6_pay_49 : decode cX6_pay 49 = .ok (.iaload, 1) := by decide +kernel
theorem dX6_pay_50 : decode cX6_pay 50 = .ok (.ifCond .ne 36, 3) := by decide +kernel
theorem dX6_pay_53 : decode cX6_pay 53 = .ok (.aload_n 0, 1) := by decide +kernel
theorem dX6_pay_54 : decode cX6_pay 54 = .ok (.getfield 36, 3) := by decide +kernel
theorem dX6_pay_57 : decode cX6_pay 57 = .ok (.bipush 12, 2) := by decide +kernel
theorem dX6_pay_59 : decode cX6_pay 59 = .ok (.iload_n 1, 1) := by decide +kernel
theorem dX6_pay_60 : decode cX6_pay 60 = .ok (.imul, 1) := by decide +kernel
theorem dX6_pay_61 : decode cX6_pay 61 = .ok (.iload_n 2, 1) := by decide +kernel
theorem dX6_pay_62 : decode cX6_pay 62 = .ok (.iadd, 1) := by decide +kernel
theorem dX6_pay_63 : decode cX6_pay 63 = .ok (.laload, 1) := by decide +kernel
theorem dX6_pay_64 : decode cX6_pay 64 = .ok (.iload_n 3, 1) := by decide +kernel
theorem dX6_pay_65 : decode cX6_pay 65 = .ok (.i2l, 1) := by decide +kernel
theorem dX6_pay_66 : decode cX6_pay 66 = .ok (.lcmp, 1) := by decide +kernel
theorem dX6_pay_67 : decode cX6_pay 67 = .ok (.ifCond .lt 19, 3) := by decide +kernel
theorem dX6_pay_70 : decode cX6_pay 70 = .ok (.aload_n 0, 1) := by decide +kernel
theorem dX6_pay_71 : decode cX6_pay 71 = .ok (.getfield 13, 3) := by decide +kernel
theorem dX6_pay_74 : decode cX6_pay 74 = .ok (.iload_n 1, 1) := by decide +kernel
theorem dX6_pay_75 : decode cX6_pay 75 = .ok (.laload, 1) := by decide +kernel
theorem dX6_pay_76 : decode cX6_pay 76 = .ok (.iload_n 3, 1) := by decide +kernel
theorem dX6_pay_77 : decode cX6_pay 77 = .ok (.i2l, 1) := by decide +kernel
theorem dX6_pay_78 : decode cX6_pay 78 = .ok (.lcmp, 1) := by decide +kernel
theorem dX6_pay_79 : decode cX6_pay 79 = .ok (.ifCond .lt 7, 3) := by decide +kernel
theorem dX6_pay_82 : decode cX6_pay 82 = .ok (.iconst 1, 1) := by decide +kernel
theorem dX6_pay_83 : decode cX6_pay 83 = .ok (.goto 4, 3) := by decide +kernel
theorem dX6_pay_86 : decode cX6_pay 86 = .ok (.iconst 0, 1) := by decide +kernel
theorem dX6_pay_87 : decode cX6_pay 87 = .ok (.istore 6, 2) := by decide +kernel
theorem dX6_pay_89 : decode cX6_pay 89 = .ok (.aload_n 0, 1) := by decide +kernel
theorem dX6_pay_90 : decode cX6_pay 90 = .ok (.iload 4, 2) := by decide +kernel
theorem dX6_pay_92 : decode cX6_pay 92 = .ok (.ifCond .ne 7, 3) := by decide +kernel
theorem dX6_pay_95 : decode cX6_pay 95 = .ok (.iconst 1, 1) := by decide +kernel
theorem dX6_pay_96 : decode cX6_pay 96 = .ok (.goto 22, 3) := by decide +kernel
theorem dX6_pay_99 : decode cX6_pay 99 = .ok (.iload 5, 2) := by decide +kernel
theorem dX6_pay_101 : decode cX6_pay 101 = .ok (.ifCond .ne 7, 3) := by decide +kernel
theorem dX6_pay_104 : decode cX6_pay 104 = .ok (.iconst 2, 1) := by decide +kernel
theorem dX6_pay_105 : decode cX6_pay 105 = .ok (.goto 13, 3) := by decide +kernel
theorem dX6_pay_108 : decode cX6_pay 108 = .ok (.iload 6, 2) := by decide +kernel
theorem dX6_pay_110 : decode cX6_pay 110 = .ok (.ifCond .eq 7, 3) := by decide +kernel
theorem dX6_pay_113 : decode cX6_pay 113 = .ok (.iconst 0, 1) := by decide +kernel
theorem dX6_pay_114 : decode cX6_pay 114 = .ok (.goto 4, 3) := by decide +kernel
theorem dX6_pay_117 : decode cX6_pay 117 = .ok (.iconst 3, 1) := by decide +kernel
theorem dX6_pay_118 : decode cX6_pay 118 = .ok (.invokevirtual 124, 3) := by decide +kernel
theorem dX6_pay_121 : decode cX6_pay 121 = .ok (.ifCond .ne 5, 3) := by decide +kernel
theorem dX6_pay_124 : decode cX6_pay 124 = .ok (.iconst 0, 1) := by decide +kernel
theorem dX6_pay_125 : decode cX6_pay 125 = .ok (.ireturn, 1) := by decide +kernel
theorem dX6_pay_126 : decode cX6_pay 126 = .ok (.aload_n 0, 1) := by decide +kernel
theorem dX6_pay_127 : decode cX6_pay 127 = .ok (.getfield 13, 3) := by decide +kernel
theorem dX6_pay_130 : decode cX6_pay 130 = .ok (.iload_n 1, 1) := by decide +kernel
theorem dX6_pay_131 : decode cX6_pay 131 = .ok (.dup2, 1) := by decide +kernel
theorem dX6_pay_132 : decode cX6_pay 132 = .ok (.laload, 1) := by decide +kernel
theorem dX6_pay_133 : decode cX6_pay 133 = .ok (.iload_n 3, 1) := by decide +kernel
theorem dX6_pay_134 : decode cX6_pay 134 = .ok (.i2l, 1) := by decide +kernel
theorem dX6_pay_135 : decode cX6_pay 135 = .ok (.lsub, 1) := by decide +kernel
theorem dX6_pay_136 : decode cX6_pay 136 = .ok (.lastore, 1) := by decide +kernel
theorem dX6_pay_137 : decode cX6_pay 137 = .ok (.aload_n 0, 1) := by decide +kernel
theorem dX6_pay_138 : decode cX6_pay 138 = .ok (.getfield 13, 3) := by decide +kernel
theorem dX6_pay_141 : decode cX6_pay 141 = .ok (.iload_n 2, 1) := by decide +kernel
theorem dX6_pay_142 : decode cX6_pay 142 = .ok (.dup2, 1) := by decide +kernel
theorem dX6_pay_143 : decode cX6_pay 143 = .ok (.laload, 1) := by decide +kernel
theorem dX6_pay_144 : decode cX6_pay 144 = .ok (.iload_n 3, 1) := by decide +kernel
theorem dX6_pay_145 : decode cX6_pay 145 = .ok (.i2l, 1) := by decide +kernel
theorem dX6_pay_146 : decode cX6_pay 146 = .ok (.ladd, 1) := by decide +kernel
theorem dX6_pay_147 : decode cX6_pay 147 = .ok (.lastore, 1) := by decide +kernel
theorem dX6_pay_148 : decode cX6_pay 148 = .ok (.aload_n 0, 1) := by decide +kernel
theorem dX6_pay_149 : decode cX6_pay 149 = .ok (.iload_n 1, 1) := by decide +kernel
theorem dX6_pay_150 : decode cX6_pay 150 = .ok (.iload_n 2, 1) := by decide +kernel
theorem dX6_pay_151 : decode cX6_pay 151 = .ok (.iload_n 3, 1) := by decide +kernel
theorem dX6_pay_152 : decode cX6_pay 152 = .ok (.ineg, 1) := by decide +kernel
theorem dX6_pay_153 : decode cX6_pay 153 = .ok (.i2l, 1) := by decide +kernel
theorem dX6_pay_154 : decode cX6_pay 154 = .ok (.invokevirtual 203, 3) := by decide +kernel
theorem dX6_pay_157 : decode cX6_pay 157 = .ok (.aload_n 0, 1) := by decide +kernel
theorem dX6_pay_158 : decode cX6_pay 158 = .ok (.getfield 36, 3) := by decide +kernel
theorem dX6_pay_161 : decode cX6_pay 161 = .ok (.bipush 12, 2) := by decide +kernel
theorem dX6_pay_163 : decode cX6_pay 163 = .ok (.iload_n 1, 1) := by decide +kernel
theorem dX6_pay_164 : decode cX6_pay 164 = .ok (.imul, 1) := by decide +kernel
theorem dX6_pay_165 : decode cX6_pay 165 = .ok (.iload_n 2, 1) := by decide +kernel
theorem dX6_pay_166 : decode cX6_pay 166 = .ok (.iadd, 1) := by decide +kernel
theorem dX6_pay_167 : decode cX6_pay 167 = .ok (.laload, 1) := by decide +kernel
theorem dX6_pay_168 : decode cX6_pay 168 = .ok (.l2i, 1) := by decide +kernel
theorem dX6_pay_169 : decode cX6_pay 169 = .ok (.ireturn, 1) := by decide +kernel
theorem dX6_deliver_0 : decode cX6_deliver 0 = .ok (.aload_n 0, 1) := by decide +kernel
theorem dX6_deliver_1 : decode cX6_deliver 1 = .ok (.iload_n 1, 1) := by decide +kernel
theorem dX6_deliver_2 : decode cX6_deliver 2 = .ok (.iload_n 2, 1) := by decide +kernel
theorem dX6_deliver_3 : decode cX6_deliver 3 = .ok (.invokevirtual 127, 3) := by decide +kernel
theorem dX6_deliver_6 : decode cX6_deliver 6 = .ok (.istore 4, 2) := by decide +kernel
theorem dX6_deliver_8 : decode cX6_deliver 8 = .ok (.iload_n 1, 1) := by decide +kernel
theorem dX6_deliver_9 : decode cX6_deliver 9 = .ok (.iload_n 2, 1) := by decide +kernel
theorem dX6_deliver_10 : decode cX6_deliver 10 = .ok (.if_icmp .eq 17, 3) := by decide +kernel
theorem dX6_deliver_13 : decode cX6_deliver 13 = .ok (.iload_n 3, 1) := by decide +kernel
theorem dX6_deliver_14 : decode cX6_deliver 14 = .ok (.iconst 1, 1) := by decide +kernel
theorem dX6_deliver_15 : decode cX6_deliver 15 = .ok (.ldc 87, 2) := by decide +kernel
theorem dX6_deliver_17 : decode cX6_deliver 17 = .ok (.invokestatic 116, 3) := by decide +kernel
theorem dX6_deliver_20 : decode cX6_deliver 20 = .ok (.ifCond .eq 7, 3) := by decide +kernel
theorem dX6_deliver_23 : decode cX6_deliver 23 = .ok (.iconst 1, 1) := by decide +kernel
theorem dX6_deliver_24 : decode cX6_deliver 24 = .ok (.goto 4, 3) := by decide +kernel
theorem dX6_deliver_27 : decode cX6_deliver 27 = .ok (.iconst 0, 1) := by decide +kernel
theorem dX6_deliver_28 : decode cX6_deliver 28 = .ok (.istore 5, 2) := by decide +kernel
theorem dX6_deliver_30 : decode cX6_deliver 30 = .ok (.iload 4, 2) := by decide +kernel
theorem dX6_deliver_32 : decode cX6_deliver 32 = .ok (.ifCond .eq 44, 3) := by decide +kernel
theorem dX6_deliver_35 : decode cX6_deliver 35 = .ok (.aload_n 0, 1) := by decide +kernel
theorem dX6_deliver_36 : decode cX6_deliver 36 = .ok (.getfield 20, 3) := by decide +kernel
theorem dX6_deliver_39 : decode cX6_deliver 39 = .ok (.iload_n 1, 1) := by decide +kernel
theorem dX6_deliver_40 : decode cX6_deliver 40 = .ok (.iaload, 1) := by decide +kernel
theorem dX6_deliver_41 : decode cX6_deliver 41 = .ok (.iconst 2, 1) := by decide +kernel
theorem dX6_deliver_42 : decode cX6_deliver 42 = .ok (.if_icmp .eq 34, 3) := by decide +kernel
theorem dX6_deliver_45 : decode cX6_deliver 45 = .ok (.aload_n 0, 1) := by decide +kernel
theorem dX6_deliver_46 : decode cX6_deliver 46 = .ok (.getfield 20, 3) := by decide +kernel
theorem dX6_deliver_49 : decode cX6_deliver 49 = .ok (.iload_n 2, 1) := by decide +kernel
theorem dX6_deliver_50 : decode cX6_deliver 50 = .ok (.iaload, 1) := by decide +kernel
theorem dX6_deliver_51 : decode cX6_deliver 51 = .ok (.iconst 2, 1) := by decide +kernel
theorem dX6_deliver_52 : decode cX6_deliver 52 = .ok (.if_icmp .eq 24, 3) := by decide +kernel
theorem dX6_deliver_55 : decode cX6_deliver 55 = .ok (.aload_n 0, 1) := by decide +kernel
theorem dX6_deliver_56 : decode cX6_deliver 56 = .ok (.getfield 36, 3) := by decide +kernel
theorem dX6_deliver_59 : decode cX6_deliver 59 = .ok (.bipush 12, 2) := by decide +kernel
theorem dX6_deliver_61 : decode cX6_deliver 61 = .ok (.iload_n 1, 1) := by decide +kernel
theorem dX6_deliver_62 : decode cX6_deliver 62 = .ok (.imul, 1) := by decide +kernel
theorem dX6_deliver_63 : decode cX6_deliver 63 = .ok (.iload_n 2, 1) := by decide +kernel
theorem dX6_deliver_64 : decode cX6_deliver 64 = .ok (.iadd, 1) := by decide +kernel
theorem dX6_deliver_65 : decode cX6_deliver 65 = .ok (.laload, 1) := by decide +kernel
theorem dX6_deliver_66 : decode cX6_deliver 66 = .ok (.iload_n 3, 1) := by decide +kernel
theorem dX6_deliver_67 : decode cX6_deliver 67 = .ok (.i2l, 1) := by decide +kernel
theorem dX6_deliver_68 : decode cX6_deliver 68 = .ok (.lcmp, 1) := by decide +kernel
theorem dX6_deliver_69 : decode cX6_deliver 69 = .ok (.ifCond .lt 7, 3) := by decide +kernel
theorem dX6_deliver_72 : decode cX6_deliver 72 = .ok (.iconst 1, 1) := by decide +kernel
theorem dX6_deliver_73 : decode cX6_deliver 73 = .ok (.goto 4, 3) := by decide +kernel
theorem dX6_deliver_76 : decode cX6_deliver 76 = .ok (.iconst 0, 1) := by decide +kernel
theorem dX6_deliver_77 : decode cX6_deliver 77 = .ok (.istore 6, 2) := by decide +kernel
theorem dX6_deliver_79 : decode cX6_deliver 79 = .ok (.aload_n 0, 1) := by decide +kernel
theorem dX6_deliver_80 : decode cX6_deliver 80 = .ok (.iload 4, 2) := by decide +kernel
theorem dX6_deliver_82 : decode cX6_deliver 82 = .ok (.ifCond .ne 7, 3) := by decide +kernel
theorem dX6_deliver_85 : decode cX6_deliver 85 = .ok (.iconst 1, 1) := by decide +kernel
theorem dX6_deliver_86 : decode cX6_deliver 86 = .ok (.goto 22, 3) := by decide +kernel
theorem dX6_deliver_89 : decode cX6_deliver 89 = .ok (.iload 5, 2) := by decide +kernel
theorem dX6_deliver_91 : decode cX6_deliver 91 = .ok (.ifCond .ne 7, 3) := by decide +kernel
theorem dX6_deliver_94 : decode cX6_deliver 94 = .ok (.iconst 2, 1) := by decide +kernel
theorem dX6_deliver_95 : decode cX6_deliver 95 = .ok (.goto 13, 3) := by decide +kernel
theorem dX6_deliver_98 : decode cX6_deliver 98 = .ok (.iload 6, 2) := by decide +kernel
theorem dX6_deliver_100 : decode cX6_deliver 100 = .ok (.ifCond .eq 7, 3) := by decide +kernel
theorem dX6_deliver_103 : decode cX6_deliver 103 = .ok (.iconst 0, 1) := by decide +kernel
theorem dX6_deliver_104 : decode cX6_deliver 104 = .ok (.goto 4, 3) := by decide +kernel
theorem dX6_deliver_107 : decode cX6_deliver 107 = .ok (.iconst 3, 1) := by decide +kernel
theorem dX6_deliver_108 : decode cX6_deliver 108 = .ok (.invokevirtual 124, 3) := by decide +kernel
theorem dX6_deliver_111 : decode cX6_deliver 111 = .ok (.ifCond .ne 5, 3) := by decide +kernel
theorem dX6_deliver_114 : decode cX6_deliver 114 = .ok (.iconst 0, 1) := by decide +kernel
theorem dX6_deliver_115 : decode cX6_deliver 115 = .ok (.ireturn, 1) := by decide +kernel
theorem dX6_deliver_116 : decode cX6_deliver 116 = .ok (.aload_n 0, 1) := by decide +kernel
theorem dX6_deliver_117 : decode cX6_deliver 117 = .ok (.iload_n 1, 1) := by decide +kernel
theorem dX6_deliver_118 : decode cX6_deliver 118 = .ok (.iload_n 2, 1) := by decide +kernel
theorem dX6_deliver_119 : decode cX6_deliver 119 = .ok (.iload_n 3, 1) := by decide +kernel
theorem dX6_deliver_120 : decode cX6_deliver 120 = .ok (.ineg, 1) := by decide +kernel
theorem dX6_deliver_121 : decode cX6_deliver 121 = .ok (.i2l, 1) := by decide +kernel
theorem dX6_deliver_122 : decode cX6_deliver 122 = .ok (.invokevirtual 203, 3) := by decide +kernel
theorem dX6_deliver_125 : decode cX6_deliver 125 = .ok (.aload_n 0, 1) := by decide +kernel
theorem dX6_deliver_126 : decode cX6_deliver 126 = .ok (.getfield 36, 3) := by decide +kernel
theorem dX6_deliver_129 : decode cX6_deliver 129 = .ok (.bipush 12, 2) := by decide +kernel
theorem dX6_deliver_131 : decode cX6_deliver 131 = .ok (.iload_n 1, 1) := by decide +kernel
theorem dX6_deliver_132 : decode cX6_deliver 132 = .ok (.imul, 1) := by decide +kernel
theorem dX6_deliver_133 : decode cX6_deliver 133 = .ok (.iload_n 2, 1) := by decide +kernel
theorem dX6_deliver_134 : decode cX6_deliver 134 = .ok (.iadd, 1) := by decide +kernel
theorem dX6_deliver_135 : decode cX6_deliver 135 = .ok (.laload, 1) := by decide +kernel
theorem dX6_deliver_136 : decode cX6_deliver 136 = .ok (.l2i, 1) := by decide +kernel
theorem dX6_deliver_137 : decode cX6_deliver 137 = .ok (.ireturn, 1) := by decide +kernel
theorem dX6_courier_0 : decode cX6_courier 0 = .ok (.aload_n 0, 1) := by decide +kernel
theorem dX6_courier_1 : decode cX6_courier 1 = .ok (.iload_n 1, 1) := by decide +kernel
theorem dX6_courier_2 : decode cX6_courier 2 = .ok (.iload_n 2, 1) := by decide +kernel
theorem dX6_courier_3 : decode cX6_courier 3 = .ok (.invokevirtual 127, 3) := by decide +kernel
theorem dX6_courier_6 : decode cX6_courier 6 = .ok (.istore 5, 2) := by decide +kernel
theorem dX6_courier_8 : decode cX6_courier 8 = .ok (.iload_n 1, 1) := by decide +kernel
theorem dX6_courier_9 : decode cX6_courier 9 = .ok (.iload_n 2, 1) := by decide +kernel
theorem dX6_courier_10 : decode cX6_courier 10 = .ok (.if_icmp .eq 29, 3) := by decide +kernel
theorem dX6_courier_13 : decode cX6_courier 13 = .ok (.iload_n 3, 1) := by decide +kernel
theorem dX6_courier_14 : decode cX6_courier 14 = .ok (.iconst 1, 1) := by decide +kernel
theorem dX6_courier_15 : decode cX6_courier 15 = .ok (.ldc 87, 2) := by decide +kernel
theorem dX6_courier_17 : decode cX6_courier 17 = .ok (.invokestatic 116, 3) := by decide +kernel
theorem dX6_courier_20 : decode cX6_courier 20 = .ok (.ifCond .eq 19, 3) := by decide +kernel
theorem dX6_courier_23 : decode cX6_courier 23 = .ok (.iload 4, 2) := by decide +kernel
theorem dX6_courier_25 : decode cX6_courier 25 = .ok (.iconst 1, 1) := by decide +kernel
theorem dX6_courier_26 : decode cX6_courier 26 = .ok (.sipush 500, 3) := by decide +kernel
theorem dX6_courier_29 : decode cX6_courier 29 = .ok (.invokestatic 116, 3) := by decide +kernel
theorem dX6_courier_32 : decode cX6_courier 32 = .ok (.ifCond .eq 7, 3) := by decide +kernel
theorem dX6_courier_35 : decode cX6_courier 35 = .ok (.iconst 1, 1) := by decide +kernel
theorem dX6_courier_36 : decode cX6_courier 36 = .ok (.goto 4, 3) := by decide +kernel
theorem dX6_courier_39 : decode cX6_courier 39 = .ok (.iconst 0, 1) := by decide +kernel
theorem dX6_courier_40 : decode cX6_courier 40 = .ok (.istore 6, 2) := by decide +kernel
theorem dX6_courier_42 : decode cX6_courier 42 = .ok (.iload 5, 2) := by decide +kernel
theorem dX6_courier_44 : decode cX6_courier 44 = .ok (.ifCond .eq 37, 3) := by decide +kernel
theorem dX6_courier_47 : decode cX6_courier 47 = .ok (.aload_n 0, 1) := by decide +kernel
theorem dX6_courier_48 : decode cX6_courier 48 = .ok (.getfield 200, 3) := by decide +kernel
theorem dX6_courier_51 : decode cX6_courier 51 = .ok (.bipush 40, 2) := by decide +kernel
theorem dX6_courier_53 : decode cX6_courier 53 = .ok (.if_icmp .ge 28, 3) := by decide +kernel
theorem dX6_courier_56 : decode cX6_courier 56 = .ok (.aload_n 0, 1) := by decide +kernel
theorem dX6_courier_57 : decode cX6_courier 57 = .ok (.getfield 20, 3) := by decide +kernel
theorem dX6_courier_60 : decode cX6_courier 60 = .ok (.iload_n 1, 1) := by decide +kernel
theorem dX6_courier_61 : decode cX6_courier 61 = .ok (.iaload, 1) := by decide +kernel
theorem dX6_courier_62 : decode cX6_courier 62 = .ok (.ifCond .ne 19, 3) := by decide +kernel
theorem dX6_courier_65 : decode cX6_courier 65 = .ok (.aload_n 0, 1) := by decide +kernel
theorem dX6_courier_66 : decode cX6_courier 66 = .ok (.getfield 13, 3) := by decide +kernel
theorem dX6_courier_69 : decode cX6_courier 69 = .ok (.iload_n 1, 1) := by decide +kernel
theorem dX6_courier_70 : decode cX6_courier 70 = .ok (.laload, 1) := by decide +kernel
theorem dX6_courier_71 : decode cX6_courier 71 = .ok (.iload_n 3, 1) := by decide +kernel
theorem dX6_courier_72 : decode cX6_courier 72 = .ok (.i2l, 1) := by decide +kernel
theorem dX6_courier_73 : decode cX6_courier 73 = .ok (.lcmp, 1) := by decide +kernel
theorem dX6_courier_74 : decode cX6_courier 74 = .ok (.ifCond .lt 7, 3) := by decide +kernel
theorem dX6_courier_77 : decode cX6_courier 77 = .ok (.iconst 1, 1) := by decide +kernel
theorem dX6_courier_78 : decode cX6_courier 78 = .ok (.goto 4, 3) := by decide +kernel
theorem dX6_courier_81 : decode cX6_courier 81 = .ok (.iconst 0, 1) := by decide +kernel
theorem dX6_courier_82 : decode cX6_courier 82 = .ok (.istore 7, 2) := by decide +kernel
theorem dX6_courier_84 : decode cX6_courier 84 = .ok (.aload_n 0, 1) := by decide +kernel
theorem dX6_courier_85 : decode cX6_courier 85 = .ok (.iload 5, 2) := by decide +kernel
theorem dX6_courier_87 : decode cX6_courier 87 = .ok (.ifCond .ne 7, 3) := by decide +kernel
theorem dX6_courier_90 : decode cX6_courier 90 = .ok (.iconst 1, 1) := by decide +kernel
theorem dX6_courier_91 : decode cX6_courier 91 = .ok (.goto 22, 3) := by decide +kernel
theorem dX6_courier_94 : decode cX6_courier 94 = .ok (.iload 6, 2) := by decide +kernel
theorem dX6_courier_96 : decode cX6_courier 96 = .ok (.ifCond .ne 7, 3) := by decide +kernel
theorem dX6_courier_99 : decode cX6_courier 99 = .ok (.iconst 2, 1) := by decide +kernel
theorem dX6_courier_100 : decode cX6_courier 100 = .ok (.goto 13, 3) := by decide +kernel
theorem dX6_courier_103 : decode cX6_courier 103 = .ok (.iload 7, 2) := by decide +kernel
theorem dX6_courier_105 : decode cX6_courier 105 = .ok (.ifCond .eq 7, 3) := by decide +kernel
theorem dX6_courier_108 : decode cX6_courier 108 = .ok (.iconst 0, 1) := by decide +kernel
theorem dX6_courier_109 : decode cX6_courier 109 = .ok (.goto 4, 3) := by decide +kernel
theorem dX6_courier_112 : decode cX6_courier 112 = .ok (.iconst 3, 1) := by decide +kernel
theorem dX6_courier_113 : decode cX6_courier 113 = .ok (.invokevirtual 124, 3) := by decide +kernel
theorem dX6_courier_116 : decode cX6_courier 116 = .ok (.ifCond .ne 5, 3) := by decide +kernel
theorem dX6_courier_119 : decode cX6_courier 119 = .ok (.iconst 0, 1) := by decide +kernel
theorem dX6_courier_120 : decode cX6_courier 120 = .ok (.ireturn, 1) := by decide +kernel
theorem dX6_courier_121 : decode cX6_courier 121 = .ok (.aload_n 0, 1) := by decide +kernel
theorem dX6_courier_122 : decode cX6_courier 122 = .ok (.getfield 13, 3) := by decide +kernel
theorem dX6_courier_125 : decode cX6_courier 125 = .ok (.iload_n 1, 1) := by decide +kernel
theorem dX6_courier_126 : decode cX6_courier 126 = .ok (.dup2, 1) := by decide +kernel
theorem dX6_courier_127 : decode cX6_courier 127 = .ok (.laload, 1) := by decide +kernel
theorem dX6_courier_128 : decode cX6_courier 128 = .ok (.iload_n 3, 1) := by decide +kernel
theorem dX6_courier_129 : decode cX6_courier 129 = .ok (.i2l, 1) := by decide +kernel
theorem dX6_courier_130 : decode cX6_courier 130 = .ok (.lsub, 1) := by decide +kernel
theorem dX6_courier_131 : decode cX6_courier 131 = .ok (.lastore, 1) := by decide +kernel
theorem dX6_courier_132 : decode cX6_courier 132 = .ok (.aload_n 0, 1) := by decide +kernel
theorem dX6_courier_133 : decode cX6_courier 133 = .ok (.getfield 72, 3) := by decide +kernel
theorem dX6_courier_136 : decode cX6_courier 136 = .ok (.aload_n 0, 1) := by decide +kernel
theorem dX6_courier_137 : decode cX6_courier 137 = .ok (.getfield 200, 3) := by decide +kernel
theorem dX6_courier_140 : decode cX6_courier 140 = .ok (.iload_n 3, 1) := by decide +kernel
theorem dX6_courier_141 : decode cX6_courier 141 = .ok (.iastore, 1) := by decide +kernel
theorem dX6_courier_142 : decode cX6_courier 142 = .ok (.aload_n 0, 1) := by decide +kernel
theorem dX6_courier_143 : decode cX6_courier 143 = .ok (.getfield 75, 3) := by decide +kernel
theorem dX6_courier_146 : decode cX6_courier 146 = .ok (.aload_n 0, 1) := by decide +kernel
theorem dX6_courier_147 : decode cX6_courier 147 = .ok (.getfield 200, 3) := by decide +kernel
theorem dX6_courier_150 : decode cX6_courier 150 = .ok (.iload_n 1, 1) := by decide +kernel
theorem dX6_courier_151 : decode cX6_courier 151 = .ok (.iastore, 1) := by decide +kernel
theorem dX6_courier_152 : decode cX6_courier 152 = .ok (.aload_n 0, 1) := by decide +kernel
theorem dX6_courier_153 : decode cX6_courier 153 = .ok (.getfield 78, 3) := by decide +kernel
theorem dX6_courier_156 : decode cX6_courier 156 = .ok (.aload_n 0, 1) := by decide +kernel
theorem dX6_courier_157 : decode cX6_courier 157 = .ok (.getfield 200, 3) := by decide +kernel
theorem dX6_courier_160 : decode cX6_courier 160 = .ok (.iload_n 2, 1) := by decide +kernel
theorem dX6_courier_161 : decode cX6_courier 161 = .ok (.iastore, 1) := by decide +kernel
theorem dX6_courier_162 : decode cX6_courier 162 = .ok (.aload_n 0, 1) := by decide +kernel
theorem dX6_courier_163 : decode cX6_courier 163 = .ok (.getfield 81, 3) := by decide +kernel
theorem dX6_courier_166 : decode cX6_courier 166 = .ok (.aload_n 0, 1) := by decide +kernel
theorem dX6_courier_167 : decode cX6_courier 167 = .ok (.getfield 200, 3) := by decide +kernel
theorem dX6_courier_170 : decode cX6_courier 170 = .ok (.aload_n 0, 1) := by decide +kernel
theorem dX6_courier_171 : decode cX6_courier 171 = .ok (.getfield 194, 3) := by decide +kernel
theorem dX6_courier_174 : decode cX6_courier 174 = .ok (.iload 4, 2) := by decide +kernel
theorem dX6_courier_176 : decode cX6_courier 176 = .ok (.iadd, 1) := by decide +kernel
theorem dX6_courier_177 : decode cX6_courier 177 = .ok (.iastore, 1) := by decide +kernel
theorem dX6_courier_178 : decode cX6_courier 178 = .ok (.aload_n 0, 1) := by decide +kernel
theorem dX6_courier_179 : decode cX6_courier 179 = .ok (.dup, 1) := by decide +kernel
theorem dX6_courier_180 : decode cX6_courier 180 = .ok (.getfield 200, 3) := by decide +kernel
theorem dX6_courier_183 : decode cX6_courier 183 = .ok (.iconst 1, 1) := by decide +kernel
theorem dX6_courier_184 : decode cX6_courier 184 = .ok (.iadd, 1) := by decide +kernel
theorem dX6_courier_185 : decode cX6_courier 185 = .ok (.putfield 200, 3) := by decide +kernel
theorem dX6_courier_188 : decode cX6_courier 188 = .ok (.aload_n 0, 1) := by decide +kernel
theorem dX6_courier_189 : decode cX6_courier 189 = .ok (.getfield 200, 3) := by decide +kernel
theorem dX6_courier_192 : decode cX6_courier 192 = .ok (.iconst 1, 1) := by decide +kernel
theorem dX6_courier_193 : decode cX6_courier 193 = .ok (.isub, 1) := by decide +kernel
theorem dX6_courier_194 : decode cX6_courier 194 = .ok (.ireturn, 1) := by decide +kernel
theorem dX6_rob_0 : decode cX6_rob 0 = .ok (.iload_n 1, 1) := by decide +kernel
theorem dX6_rob_1 : decode cX6_rob 1 = .ok (.iconst 0, 1) := by decide +kernel
theorem dX6_rob_2 : decode cX6_rob 2 = .ok (.aload_n 0, 1) := by decide +kernel
theorem dX6_rob_3 : decode cX6_rob 3 = .ok (.getfield 200, 3) := by decide +kernel
theorem dX6_rob_6 : decode cX6_rob 6 = .ok (.iconst 1, 1) := by decide +kernel
theorem dX6_rob_7 : decode cX6_rob 7 = .ok (.isub, 1) := by decide +kernel
theorem dX6_rob_8 : decode cX6_rob 8 = .ok (.invokestatic 116, 3) := by decide +kernel
theorem dX6_rob_11 : decode cX6_rob 11 = .ok (.istore_n 2, 1) := by decide +kernel
theorem dX6_rob_12 : decode cX6_rob 12 = .ok (.aload_n 0, 1) := by decide +kernel
theorem dX6_rob_13 : decode cX6_rob 13 = .ok (.iload_n 2, 1) := by decide +kernel
theorem dX6_rob_14 : decode cX6_rob 14 = .ok (.ifCond .ne 7, 3) := by decide +kernel
theorem dX6_rob_17 : decode cX6_rob 17 = .ok (.iconst 1, 1) := by decide +kernel
theorem dX6_rob_18 : decode cX6_rob 18 = .ok (.goto 17, 3) := by decide +kernel
theorem dX6_rob_21 : decode cX6_rob 21 = .ok (.aload_n 0, 1) := by decide +kernel
theorem dX6_rob_22 : decode cX6_rob 22 = .ok (.getfield 84, 3) := by decide +kernel
theorem dX6_rob_25 : decode cX6_rob 25 = .ok (.iload_n 1, 1) := by decide +kernel
theorem dX6_rob_26 : decode cX6_rob 26 = .ok (.baload, 1) := by decide +kernel
theorem dX6_rob_27 : decode cX6_rob 27 = .ok (.ifCond .eq 7, 3) := by decide +kernel
theorem dX6_rob_30 : decode cX6_rob 30 = .ok (.iconst 2, 1) := by decide +kernel
theorem dX6_rob_31 : decode cX6_rob 31 = .ok (.goto 4, 3) := by decide +kernel
theorem dX6_rob_34 : decode cX6_rob 34 = .ok (.iconst 0, 1) := by decide +kernel
theorem dX6_rob_35 : decode cX6_rob 35 = .ok (.invokevirtual 124, 3) := by decide +kernel
theorem dX6_rob_38 : decode cX6_rob 38 = .ok (.ifCond .ne 5, 3) := by decide +kernel
theorem dX6_rob_41 : decode cX6_rob 41 = .ok (.iconst 0, 1) := by decide +kernel
theorem dX6_rob_42 : decode cX6_rob 42 = .ok (.ireturn, 1) := by decide +kernel
theorem dX6_rob_43 : decode cX6_rob 43 = .ok (.aload_n 0, 1) := by decide +kernel
theorem dX6_rob_44 : decode cX6_rob 44 = .ok (.getfield 84, 3) := by decide +kernel
theorem dX6_rob_47 : decode cX6_rob 47 = .ok (.iload_n 1, 1) := by decide +kernel
theorem dX6_rob_48 : decode cX6_rob 48 = .ok (.iconst 1, 1) := by decide +kernel
theorem dX6_rob_49 : decode cX6_rob 49 = .ok (.bastore, 1) := by decide +kernel
theorem dX6_rob_50 : decode cX6_rob 50 = .ok (.aload_n 0, 1) := by decide +kernel
theorem dX6_rob_51 : decode cX6_rob 51 = .ok (.getfield 97, 3) := by decide +kernel
theorem dX6_rob_54 : decode cX6_rob 54 = .ok (.iconst 3, 1) := by decide +kernel
theorem dX6_rob_55 : decode cX6_rob 55 = .ok (.dup2, 1) := by decide +kernel
theorem dX6_rob_56 : decode cX6_rob 56 = .ok (.laload, 1) := by decide +kernel
theorem dX6_rob_57 : decode cX6_rob 57 = .ok (.aload_n 0, 1) := by decide +kernel
theorem dX6_rob_58 : decode cX6_rob 58 = .ok (.getfield 72, 3) := by decide +kernel
theorem dX6_rob_61 : decode cX6_rob 61 = .ok (.iload_n 1, 1) := by decide +kernel
theorem dX6_rob_62 : decode cX6_rob 62 = .ok (.iaload, 1) := by decide +kernel
theorem dX6_rob_63 : decode cX6_rob 63 = .ok (.i2l, 1) := by decide +kernel
theorem dX6_rob_64 : decode cX6_rob 64 = .ok (.ladd, 1) := by decide +kernel
theorem dX6_rob_65 : decode cX6_rob 65 = .ok (.lastore, 1) := by decide +kernel
theorem dX6_rob_66 : decode cX6_rob 66 = .ok (.aload_n 0, 1) := by decide +kernel
theorem dX6_rob_67 : decode cX6_rob 67 = .ok (.getfield 72, 3) := by decide +kernel
theorem dX6_rob_70 : decode cX6_rob 70 = .ok (.iload_n 1, 1) := by decide +kernel
theorem dX6_rob_71 : decode cX6_rob 71 = .ok (.iaload, 1) := by decide +kernel
theorem dX6_rob_72 : decode cX6_rob 72 = .ok (.ireturn, 1) := by decide +kernel
theorem dX6_clear_0 : decode cX6_clear 0 = .ok (.aload_n 0, 1) := by decide +kernel
theorem dX6_clear_1 : decode cX6_clear 1 = .ok (.getfield 36, 3) := by decide +kernel
theorem dX6_clear_4 : decode cX6_clear 4 = .ok (.bipush 12, 2) := by decide +kernel
theorem dX6_clear_6 : decode cX6_clear 6 = .ok (.iload_n 1, 1) := by decide +kernel
theorem dX6_clear_7 : decode cX6_clear 7 = .ok (.imul, 1) := by decide +kernel
theorem dX6_clear_8 : decode cX6_clear 8 = .ok (.iload_n 2, 1) := by decide +kernel
theorem dX6_clear_9 : decode cX6_clear 9 = .ok (.iadd, 1) := by decide +kernel
theorem dX6_clear_10 : decode cX6_clear 10 = .ok (.laload, 1) := by decide +kernel
theorem dX6_clear_11 : decode cX6_clear 11 = .ok (.lstore 4, 2) := by decide +kernel
theorem dX6_clear_13 : decode cX6_clear 13 = .ok (.aload_n 0, 1) := by decide +kernel
theorem dX6_clear_14 : decode cX6_clear 14 = .ok (.getfield 36, 3) := by decide +kernel
theorem dX6_clear_17 : decode cX6_clear 17 = .ok (.bipush 12, 2) := by decide +kernel
theorem dX6_clear_19 : decode cX6_clear 19 = .ok (.iload_n 2, 1) := by decide +kernel
theorem dX6_clear_20 : decode cX6_clear 20 = .ok (.imul, 1) := by decide +kernel
theorem dX6_clear_21 : decode cX6_clear 21 = .ok (.iload_n 3, 1) := by decide +kernel
theorem dX6_clear_22 : decode cX6_clear 22 = .ok (.iadd, 1) := by decide +kernel
theorem dX6_clear_23 : decode cX6_clear 23 = .ok (.laload, 1) := by decide +kernel
theorem dX6_clear_24 : decode cX6_clear 24 = .ok (.lstore 6, 2) := by decide +kernel
theorem dX6_clear_26 : decode cX6_clear 26 = .ok (.aload_n 0, 1) := by decide +kernel
theorem dX6_clear_27 : decode cX6_clear 27 = .ok (.getfield 36, 3) := by decide +kernel
theorem dX6_clear_30 : decode cX6_clear 30 = .ok (.bipush 12, 2) := by decide +kernel
theorem dX6_clear_32 : decode cX6_clear 32 = .ok (.iload_n 3, 1) := by decide +kernel
theorem dX6_clear_33 : decode cX6_clear 33 = .ok (.imul, 1) := by decide +kernel
theorem dX6_clear_34 : decode cX6_clear 34 = .ok (.iload_n 1, 1) := by decide +kernel
theorem dX6_clear_35 : decode cX6_clear 35 = .ok (.iadd, 1) := by decide +kernel
theorem dX6_clear_36 : decode cX6_clear 36 = .ok (.laload, 1) := by decide +kernel
theorem dX6_clear_37 : decode cX6_clear 37 = .ok (.lstore 8, 2) := by decide +kernel
theorem dX6_clear_39 : decode cX6_clear 39 = .ok (.lload 4, 2) := by decide +kernel
theorem dX6_clear_41 : decode cX6_clear 41 = .ok (.lload 6, 2) := by decide +kernel
theorem dX6_clear_43 : decode cX6_clear 43 = .ok (.lcmp, 1) := by decide +kernel
theorem dX6_clear_44 : decode cX6_clear 44 = .ok (.ifCond .ge 8, 3) := by decide +kernel
theorem dX6_clear_47 : decode cX6_clear 47 = .ok (.lload 4, 2) := by decide +kernel
theorem dX6_clear_49 : decode cX6_clear 49 = .ok (.goto 5, 3) := by decide +kernel
theorem dX6_clear_52 : decode cX6_clear 52 = .ok (.lload 6, 2) := by decide +kernel
theorem dX6_clear_54 : decode cX6_clear 54 = .ok (.lstore 10, 2) := by decide +kernel
theorem dX6_clear_56 : decode cX6_clear 56 = .ok (.lload 8, 2) := by decide +kernel
theorem dX6_clear_58 : decode cX6_clear 58 = .ok (.lload 10, 2) := by decide +kernel
theorem dX6_clear_60 : decode cX6_clear 60 = .ok (.lcmp, 1) := by decide +kernel
theorem dX6_clear_61 : decode cX6_clear 61 = .ok (.ifCond .ge 8, 3) := by decide +kernel
theorem dX6_clear_64 : decode cX6_clear 64 = .ok (.lload 8, 2) := by decide +kernel
theorem dX6_clear_66 : decode cX6_clear 66 = .ok (.goto 5, 3) := by decide +kernel
theorem dX6_clear_69 : decode cX6_clear 69 = .ok (.lload 10, 2) := by decide +kernel
theorem dX6_clear_71 : decode cX6_clear 71 = .ok (.lstore 10, 2) := by decide +kernel
theorem dX6_clear_73 : decode cX6_clear 73 = .ok (.lload 10, 2) := by decide +kernel
theorem dX6_clear_75 : decode cX6_clear 75 = .ok (.lconst 0, 1) := by decide +kernel
theorem dX6_clear_76 : decode cX6_clear 76 = .ok (.lcmp, 1) := by decide +kernel
theorem dX6_clear_77 : decode cX6_clear 77 = .ok (.ifCond .gt 5, 3) := by decide +kernel
theorem dX6_clear_80 : decode cX6_clear 80 = .ok (.lconst 0, 1) := by decide +kernel
theorem dX6_clear_81 : decode cX6_clear 81 = .ok (.lreturn, 1) := by decide +kernel
theorem dX6_clear_82 : decode cX6_clear 82 = .ok (.aload_n 0, 1) := by decide +kernel
theorem dX6_clear_83 : decode cX6_clear 83 = .ok (.iload_n 1, 1) := by decide +kernel
theorem dX6_clear_84 : decode cX6_clear 84 = .ok (.iload_n 2, 1) := by decide +kernel
theorem dX6_clear_85 : decode cX6_clear 85 = .ok (.lload 10, 2) := by decide +kernel
theorem dX6_clear_87 : decode cX6_clear 87 = .ok (.lneg, 1) := by decide +kernel
theorem dX6_clear_88 : decode cX6_clear 88 = .ok (.invokevirtual 203, 3) := by decide +kernel
theorem dX6_clear_91 : decode cX6_clear 91 = .ok (.aload_n 0, 1) := by decide +kernel
theorem dX6_clear_92 : decode cX6_clear 92 = .ok (.iload_n 2, 1) := by decide +kernel
theorem dX6_clear_93 : decode cX6_clear 93 = .ok (.iload_n 3, 1) := by decide +kernel
theorem dX6_clear_94 : decode cX6_clear 94 = .ok (.lload 10, 2) := by decide +kernel
theorem dX6_clear_96 : decode cX6_clear 96 = .ok (.lneg, 1) := by decide +kernel
theorem dX6_clear_97 : decode cX6_clear 97 = .ok (.invokevirtual 203, 3) := by decide +kernel
theorem dX6_clear_100 : decode cX6_clear 100 = .ok (.aload_n 0, 1) := by decide +kernel
theorem dX6_clear_101 : decode cX6_clear 101 = .ok (.iload_n 3, 1) := by decide +kernel
theorem dX6_clear_102 : decode cX6_clear 102 = .ok (.iload_n 1, 1) := by decide +kernel
theorem dX6_clear_103 : decode cX6_clear 103 = .ok (.lload 10, 2) := by decide +kernel
theorem dX6_clear_105 : decode cX6_clear 105 = .ok (.lneg, 1) := by decide +kernel
theorem dX6_clear_106 : decode cX6_clear 106 = .ok (.invokevirtual 203, 3) := by decide +kernel
theorem dX6_clear_109 : decode cX6_clear 109 = .ok (.lload 10, 2) := by decide +kernel
theorem dX6_clear_111 : decode cX6_clear 111 = .ok (.lreturn, 1) := by decide +kernel
theorem dX6_ring_0 : decode cX6_ring 0 = .ok (.aload_n 0, 1) := by decide +kernel
theorem dX6_ring_1 : decode cX6_ring 1 = .ok (.iconst 0, 1) := by decide +kernel
theorem dX6_ring_2 : decode cX6_ring 2 = .ok (.putfield 109, 3) := by decide +kernel
theorem dX6_ring_5 : decode cX6_ring 5 = .ok (.lconst 0, 1) := by decide +kernel
theorem dX6_ring_6 : decode cX6_ring 6 = .ok (.lstore_n 1, 1) := by decide +kernel
theorem dX6_ring_7 : decode cX6_ring 7 = .ok (.iconst 0, 1) := by decide +kernel
theorem dX6_ring_8 : decode cX6_ring 8 = .ok (.istore_n 3, 1) := by decide +kernel
theorem dX6_ring_9 : decode cX6_ring 9 = .ok (.iload_n 3, 1) := by decide +kernel
theorem dX6_ring_10 : decode cX6_ring 10 = .ok (.aload_n 0, 1) := by decide +kernel
theorem dX6_ring_11 : decode cX6_ring 11 = .ok (.getfield 113, 3) := by decide +kernel
theorem dX6_ring_14 : decode cX6_ring 14 = .ok (.if_icmp .ge 80, 3) := by decide +kernel
theorem dX6_ring_17 : decode cX6_ring 17 = .ok (.iconst 0, 1) := by decide +kernel
theorem dX6_ring_18 : decode cX6_ring 18 = .ok (.istore 4, 2) := by decide +kernel
theorem dX6_ring_20 : decode cX6_ring 20 = .ok (.iload 4, 2) := by decide +kernel
theorem dX6_ring_22 : decode cX6_ring 22 = .ok (.aload_n 0, 1) := by decide +kernel
theorem dX6_ring_23 : decode cX6_ring 23 = .ok (.getfield 113, 3) := by decide +kernel
theorem dX6_ring_26 : decode cX6_ring 26 = .ok (.if_icmp .ge 62, 3) := by decide +kernel
theorem dX6_ring_29 : decode cX6_ring 29 = .ok (.iconst 0, 1) := by decide +kernel
theorem dX6_ring_30 : decode cX6_ring 30 = .ok (.istore 5, 2) := by decide +kernel
theorem dX6_ring_32 : decode cX6_ring 32 = .ok (.iload 5, 2) := by decide +kernel
theorem dX6_ring_34 : decode cX6_ring 34 = .ok (.aload_n 0, 1) := by decide +kernel
theorem dX6_ring_35 : decode cX6_ring 35 = .ok (.getfield 113, 3) := by decide +kernel
theorem dX6_ring_38 : decode cX6_ring 38 = .ok (.if_icmp .ge 44, 3) := by decide +kernel
theorem dX6_ring_41 : decode cX6_ring 41 = .ok (.lload_n 1, 1) := by decide +kernel
theorem dX6_ring_42 : decode cX6_ring 42 = .ok (.iload_n 3, 1) := by decide +kernel
theorem dX6_ring_43 : decode cX6_ring 43 = .ok (.iload 4, 2) := by decide +kernel
theorem dX6_ring_45 : decode cX6_ring 45 = .ok (.if_icmp .eq 28, 3) := by decide +kernel
theorem dX6_ring_48 : decode cX6_ring 48 = .ok (.iload 4, 2) := by decide +kernel
theorem dX6_ring_50 : decode cX6_ring 50 = .ok (.iload 5, 2) := by decide +kernel
theorem dX6_ring_52 : decode cX6_ring 52 = .ok (.if_icmp .eq 21, 3) := by decide +kernel
theorem dX6_ring_55 : decode cX6_ring 55 = .ok (.iload_n 3, 1) := by decide +kernel
theorem dX6_ring_56 : decode cX6_ring 56 = .ok (.iload 5, 2) := by decide +kernel
theorem dX6_ring_58 : decode cX6_ring 58 = .ok (.if_icmp .eq 15, 3) := by decide +kernel
theorem dX6_ring_61 : decode cX6_ring 61 = .ok (.aload_n 0, 1) := by decide +kernel
theorem dX6_ring_62 : decode cX6_ring 62 = .ok (.iload_n 3, 1) := by decide +kernel
theorem dX6_ring_63 : decode cX6_ring 63 = .ok (.iload 4, 2) := by decide +kernel
theorem dX6_ring_65 : decode cX6_ring 65 = .ok (.iload 5, 2) := by decide +kernel
theorem dX6_ring_67 : decode cX6_ring 67 = .ok (.invokevirtual 216, 3) := by decide +kernel
theorem dX6_ring_70 : decode cX6_ring 70 = .ok (.goto 4, 3) := by decide +kernel
theorem dX6_ring_73 : decode cX6_ring 73 = .ok (.lconst 0, 1) := by decide +kernel
theorem dX6_ring_74 : decode cX6_ring 74 = .ok (.ladd, 1) := by decide +kernel
theorem dX6_ring_75 : decode cX6_ring 75 = .ok (.lstore_n 1, 1) := by decide +kernel
theorem dX6_ring_76 : decode cX6_ring 76 = .ok (.iinc 5 1, 3) := by decide +kernel
theorem dX6_ring_79 : decode cX6_ring 79 = .ok (.goto (-47), 3) := by decide +kernel
theorem dX6_ring_82 : decode cX6_ring 82 = .ok (.iinc 4 1, 3) := by decide +kernel
theorem dX6_ring_85 : decode cX6_ring 85 = .ok (.goto (-65), 3) := by decide +kernel
theorem dX6_ring_88 : decode cX6_ring 88 = .ok (.iinc 3 1, 3) := by decide +kernel
theorem dX6_ring_91 : decode cX6_ring 91 = .ok (.goto (-82), 3) := by decide +kernel
theorem dX6_ring_94 : decode cX6_ring 94 = .ok (.lload_n 1, 1) := by decide +kernel
theorem dX6_ring_95 : decode cX6_ring 95 = .ok (.lreturn, 1) := by decide +kernel
theorem dX6_law_0 : decode cX6_law 0 = .ok (.iload_n 1, 1) := by decide +kernel
theorem dX6_law_1 : decode cX6_law 1 = .ok (.iconst 0, 1) := by decide +kernel
theorem dX6_law_2 : decode cX6_law 2 = .ok (.bipush 7, 2) := by decide +kernel
theorem dX6_law_4 : decode cX6_law 4 = .ok (.invokestatic 116, 3) := by decide +kernel
theorem dX6_law_7 : decode cX6_law 7 = .ok (.istore_n 3, 1) := by decide +kernel
theorem dX6_law_8 : decode cX6_law 8 = .ok (.aload_n 0, 1) := by decide +kernel
theorem dX6_law_9 : decode cX6_law 9 = .ok (.iload_n 3, 1) := by decide +kernel
theorem dX6_law_10 : decode cX6_law 10 = .ok (.ifCond .ne 7, 3) := by decide +kernel
theorem dX6_law_13 : decode cX6_law 13 = .ok (.iconst 1, 1) := by decide +kernel
theorem dX6_law_14 : decode cX6_law 14 = .ok (.goto 18, 3) := by decide +kernel
theorem dX6_law_17 : decode cX6_law 17 = .ok (.iload_n 2, 1) := by decide +kernel
theorem dX6_law_18 : decode cX6_law 18 = .ok (.iconst 0, 1) := by decide +kernel
theorem dX6_law_19 : decode cX6_law 19 = .ok (.ldc 87, 2) := by decide +kernel
theorem dX6_law_21 : decode cX6_law 21 = .ok (.invokestatic 116, 3) := by decide +kernel
theorem dX6_law_24 : decode cX6_law 24 = .ok (.ifCond .eq 7, 3) := by decide +kernel
theorem dX6_law_27 : decode cX6_law 27 = .ok (.iconst 0, 1) := by decide +kernel
theorem dX6_law_28 : decode cX6_law 28 = .ok (.goto 4, 3) := by decide +kernel
theorem dX6_law_31 : decode cX6_law 31 = .ok (.iconst 2, 1) := by decide +kernel
theorem dX6_law_32 : decode cX6_law 32 = .ok (.invokevirtual 124, 3) := by decide +kernel
theorem dX6_law_35 : decode cX6_law 35 = .ok (.ifCond .ne 5, 3) := by decide +kernel
theorem dX6_law_38 : decode cX6_law 38 = .ok (.iconst 0, 1) := by decide +kernel
theorem dX6_law_39 : decode cX6_law 39 = .ok (.ireturn, 1) := by decide +kernel
theorem dX6_law_40 : decode cX6_law 40 = .ok (.aload_n 0, 1) := by decide +kernel
theorem dX6_law_41 : decode cX6_law 41 = .ok (.getfield 88, 3) := by decide +kernel
theorem dX6_law_44 : decode cX6_law 44 = .ok (.iload_n 1, 1) := by decide +kernel
theorem dX6_law_45 : decode cX6_law 45 = .ok (.iload_n 2, 1) := by decide +kernel
theorem dX6_law_46 : decode cX6_law 46 = .ok (.iastore, 1) := by decide +kernel
theorem dX6_law_47 : decode cX6_law 47 = .ok (.aload_n 0, 1) := by decide +kernel
theorem dX6_law_48 : decode cX6_law 48 = .ok (.getfield 91, 3) := by decide +kernel
theorem dX6_law_51 : decode cX6_law 51 = .ok (.iload_n 1, 1) := by decide +kernel
theorem dX6_law_52 : decode cX6_law 52 = .ok (.iaload, 1) := by decide +kernel
theorem dX6_law_53 : decode cX6_law 53 = .ok (.ireturn, 1) := by decide +kernel
theorem dX6_list_0 : decode cX6_list 0 = .ok (.aload_n 0, 1) := by decide +kernel
theorem dX6_list_1 : decode cX6_list 1 = .ok (.iload_n 1, 1) := by decide +kernel
theorem dX6_list_2 : decode cX6_list 2 = .ok (.iconst 0, 1) := by decide +kernel
theorem dX6_list_3 : decode cX6_list 3 = .ok (.bipush 19, 2) := by decide +kernel
theorem dX6_list_5 : decode cX6_list 5 = .ok (.invokestatic 116, 3) := by decide +kernel
theorem dX6_list_8 : decode cX6_list 8 = .ok (.ifCond .eq 7, 3) := by decide +kernel
theorem dX6_list_11 : decode cX6_list 11 = .ok (.iconst 0, 1) := by decide +kernel
theorem dX6_list_12 : decode cX6_list 12 = .ok (.goto 4, 3) := by decide +kernel
theorem dX6_list_15 : decode cX6_list 15 = .ok (.iconst 1, 1) := by decide +kernel
theorem dX6_list_16 : decode cX6_list 16 = .ok (.invokevirtual 124, 3) := by decide +kernel
theorem dX6_list_19 : decode cX6_list 19 = .ok (.ifCond .ne 5, 3) := by decide +kernel
theorem dX6_list_22 : decode cX6_list 22 = .ok (.iconst 0, 1) := by decide +kernel
theorem dX6_list_23 : decode cX6_list 23 = .ok (.ireturn, 1) := by decide +kernel
theorem dX6_list_24 : decode cX6_list 24 = .ok (.aload_n 0, 1) := by decide +kernel
theorem dX6_list_25 : decode cX6_list 25 = .ok (.getfield 94, 3) := by decide +kernel
theorem dX6_list_28 : decode cX6_list 28 = .ok (.iload_n 1, 1) := by decide +kernel
theorem dX6_list_29 : decode cX6_list 29 = .ok (.aload_n 0, 1) := by decide +kernel
theorem dX6_list_30 : decode cX6_list 30 = .ok (.getfield 94, 3) := by decide +kernel
theorem dX6_list_33 : decode cX6_list 33 = .ok (.iload_n 1, 1) := by decide +kernel
theorem dX6_list_34 : decode cX6_list 34 = .ok (.baload, 1) := by decide +kernel
theorem dX6_list_35 : decode cX6_list 35 = .ok (.ifCond .ne 7, 3) := by decide +kernel
theorem dX6_list_38 : decode cX6_list 38 = .ok (.iconst 1, 1) := by decide +kernel
theorem dX6_list_39 : decode cX6_list 39 = .ok (.goto 4, 3) := by decide +kernel
theorem dX6_list_42 : decode cX6_list 42 = .ok (.iconst 0, 1) := by decide +kernel
theorem dX6_list_43 : decode cX6_list 43 = .ok (.bastore, 1) := by decide +kernel
theorem dX6_list_44 : decode cX6_list 44 = .ok (.aload_n 0, 1) := by decide +kernel
theorem dX6_list_45 : decode cX6_list 45 = .ok (.getfield 94, 3) := by decide +kernel
theorem dX6_list_48 : decode cX6_list 48 = .ok (.iload_n 1, 1) := by decide +kernel
theorem dX6_list_49 : decode cX6_list 49 = .ok (.baload, 1) := by decide +kernel
theorem dX6_list_50 : decode cX6_list 50 = .ok (.ireturn, 1) := by decide +kernel
theorem dX6_brokerOf_0 : decode cX6_brokerOf 0 = .ok (.aload_n 0, 1) := by decide +kernel
theorem dX6_brokerOf_1 : decode cX6_brokerOf 1 = .ok (.iload_n 1, 1) := by decide +kernel
theorem dX6_brokerOf_2 : decode cX6_brokerOf 2 = .ok (.invokevirtual 120, 3) := by decide +kernel
theorem dX6_brokerOf_5 : decode cX6_brokerOf 5 = .ok (.istore_n 3, 1) := by decide +kernel
theorem dX6_brokerOf_6 : decode cX6_brokerOf 6 = .ok (.aload_n 0, 1) := by decide +kernel
theorem dX6_brokerOf_7 : decode cX6_brokerOf 7 = .ok (.iload_n 3, 1) := by decide +kernel
theorem dX6_brokerOf_8 : decode cX6_brokerOf 8 = .ok (.ifCond .ne 7, 3) := by decide +kernel
theorem dX6_brokerOf_11 : decode cX6_brokerOf 11 = .ok (.iconst 1, 1) := by decide +kernel
theorem dX6_brokerOf_12 : decode cX6_brokerOf 12 = .ok (.goto 17, 3) := by decide +kernel
theorem dX6_brokerOf_15 : decode cX6_brokerOf 15 = .ok (.iload_n 2, 1) := by decide +kernel
theorem dX6_brokerOf_16 : decode cX6_brokerOf 16 = .ok (.iconst 0, 1) := by decide +kernel
theorem dX6_brokerOf_17 : decode cX6_brokerOf 17 = .ok (.iconst 3, 1) := by decide +kernel
theorem dX6_brokerOf_18 : decode cX6_brokerOf 18 = .ok (.invokestatic 116, 3) := by decide +kernel
theorem dX6_brokerOf_21 : decode cX6_brokerOf 21 = .ok (.ifCond .eq 7, 3) := by decide +kernel
theorem dX6_brokerOf_24 : decode cX6_brokerOf 24 = .ok (.iconst 0, 1) := by decide +kernel
theorem dX6_brokerOf_25 : decode cX6_brokerOf 25 = .ok (.goto 4, 3) := by decide +kernel
theorem dX6_brokerOf_28 : decode cX6_brokerOf 28 = .ok (.iconst 2, 1) := by decide +kernel
theorem dX6_brokerOf_29 : decode cX6_brokerOf 29 = .ok (.invokevirtual 124, 3) := by decide +kernel
theorem dX6_brokerOf_32 : decode cX6_brokerOf 32 = .ok (.ifCond .ne 5, 3) := by decide +kernel
theorem dX6_brokerOf_35 : decode cX6_brokerOf 35 = .ok (.lconst 0, 1) := by decide +kernel
theorem dX6_brokerOf_36 : decode cX6_brokerOf 36 = .ok (.lreturn, 1) := by decide +kernel
theorem dX6_brokerOf_37 : decode cX6_brokerOf 37 = .ok (.aload_n 0, 1) := by decide +kernel
theorem dX6_brokerOf_38 : decode cX6_brokerOf 38 = .ok (.getfield 13, 3) := by decide +kernel
theorem dX6_brokerOf_41 : decode cX6_brokerOf 41 = .ok (.iload_n 1, 1) := by decide +kernel
theorem dX6_brokerOf_42 : decode cX6_brokerOf 42 = .ok (.laload, 1) := by decide +kernel
theorem dX6_brokerOf_43 : decode cX6_brokerOf 43 = .ok (.lstore 4, 2) := by decide +kernel
theorem dX6_brokerOf_45 : decode cX6_brokerOf 45 = .ok (.iconst 0, 1) := by decide +kernel
theorem dX6_brokerOf_46 : decode cX6_brokerOf 46 = .ok (.istore 6, 2) := by decide +kernel
theorem dX6_brokerOf_48 : decode cX6_brokerOf 48 = .ok (.iload 6, 2) := by decide +kernel
theorem dX6_brokerOf_50 : decode cX6_brokerOf 50 = .ok (.aload_n 0, 1) := by decide +kernel
theorem dX6_brokerOf_51 : decode cX6_brokerOf 51 = .ok (.getfield 113, 3) := by decide +kernel
theorem dX6_brokerOf_54 : decode cX6_brokerOf 54 = .ok (.if_icmp .ge 26, 3) := by decide +kernel
theorem dX6_brokerOf_57 : decode cX6_brokerOf 57 = .ok (.lload 4, 2) := by decide +kernel
theorem dX6_brokerOf_59 : decode cX6_brokerOf 59 = .ok (.aload_n 0, 1) := by decide +kernel
theorem dX6_brokerOf_60 : decode cX6_brokerOf 60 = .ok (.getfield 36, 3) := by decide +kernel
theorem dX6_brokerOf_63 : decode cX6_brokerOf 63 = .ok (.bipush 12, 2) := by decide +kernel
theorem dX6_brokerOf_65 : decode cX6_brokerOf 65 = .ok (.iload_n 1, 1) := by decide +kernel
theorem dX6_brokerOf_66 : decode cX6_brokerOf 66 = .ok (.imul, 1) := by decide +kernel
theorem dX6_brokerOf_67 : decode cX6_brokerOf 67 = .ok (.iload 6, 2) := by decide +kernel
theorem dX6_brokerOf_69 : decode cX6_brokerOf 69 = .ok (.iadd, 1) := by decide +kernel
theorem dX6_brokerOf_70 : decode cX6_brokerOf 70 = .ok (.laload, 1) := by decide +kernel
theorem dX6_brokerOf_71 : decode cX6_brokerOf 71 = .ok (.lsub, 1) := by decide +kernel
theorem dX6_brokerOf_72 : decode cX6_brokerOf 72 = .ok (.lstore 4, 2) := by decide +kernel
theorem dX6_brokerOf_74 : decode cX6_brokerOf 74 = .ok (.iinc 6 1, 3) := by decide +kernel
theorem dX6_brokerOf_77 : decode cX6_brokerOf 77 = .ok (.goto (-29), 3) := by decide +kernel
theorem dX6_brokerOf_80 : decode cX6_brokerOf 80 = .ok (.iload_n 2, 1) := by decide +kernel
theorem dX6_brokerOf_81 : decode cX6_brokerOf 81 = .ok (.ifCond .ne 13, 3) := by decide +kernel
theorem dX6_brokerOf_84 : decode cX6_brokerOf 84 = .ok (.aload_n 0, 1) := by decide +kernel
theorem dX6_brokerOf_85 : decode cX6_brokerOf 85 = .ok (.getfield 20, 3) := by decide +kernel
theorem dX6_brokerOf_88 : decode cX6_brokerOf 88 = .ok (.iload_n 1, 1) := by decide +kernel
theorem dX6_brokerOf_89 : decode cX6_brokerOf 89 = .ok (.iaload, 1) := by decide +kernel
theorem dX6_brokerOf_90 : decode cX6_brokerOf 90 = .ok (.i2l, 1) := by decide +kernel
theorem dX6_brokerOf_91 : decode cX6_brokerOf 91 = .ok (.goto 34, 3) := by decide +kernel
theorem dX6_brokerOf_94 : decode cX6_brokerOf 94 = .ok (.iload_n 2, 1) := by decide +kernel
theorem dX6_brokerOf_95 : decode cX6_brokerOf 95 = .ok (.iconst 1, 1) := by decide +kernel
theorem dX6_brokerOf_96 : decode cX6_brokerOf 96 = .ok (.if_icmp .ne 12, 3) := by decide +kernel
theorem dX6_brokerOf_99 : decode cX6_brokerOf 99 = .ok (.aload_n 0, 1) := by decide +kernel
theorem dX6_brokerOf_100 : decode cX6_brokerOf 100 = .ok (.getfield 13, 3) := by decide +kernel
theorem dX6_brokerOf_103 : decode cX6_brokerOf 103 = .ok (.iload_n 1, 1) := by decide +kernel
theorem dX6_brokerOf_104 : decode cX6_brokerOf 104 = .ok (.laload, 1) := by decide +kernel
theorem dX6_brokerOf_105 : decode cX6_brokerOf 105 = .ok (.goto 20, 3) := by decide +kernel
theorem dX6_brokerOf_108 : decode cX6_brokerOf 108 = .ok (.iload_n 2, 1) := by decide +kernel
theorem dX6_brokerOf_109 : decode cX6_brokerOf 109 = .ok (.iconst 2, 1) := by decide +kernel
theorem dX6_brokerOf_110 : decode cX6_brokerOf 110 = .ok (.if_icmp .ne 13, 3) := by decide +kernel
theorem dX6_brokerOf_113 : decode cX6_brokerOf 113 = .ok (.aload_n 0, 1) := by decide +kernel
theorem dX6_brokerOf_114 : decode cX6_brokerOf 114 = .ok (.getfield 7, 3) := by decide +kernel
theorem dX6_brokerOf_117 : decode cX6_brokerOf 117 = .ok (.iload_n 1, 1) := by decide +kernel
theorem dX6_brokerOf_118 : decode cX6_brokerOf 118 = .ok (.iaload, 1) := by decide +kernel
theorem dX6_brokerOf_119 : decode cX6_brokerOf 119 = .ok (.i2l, 1) := by decide +kernel
theorem dX6_brokerOf_120 : decode cX6_brokerOf 120 = .ok (.goto 5, 3) := by decide +kernel
theorem dX6_brokerOf_123 : decode cX6_brokerOf 123 = .ok (.lload 4, 2) := by decide +kernel
theorem dX6_brokerOf_125 : decode cX6_brokerOf 125 = .ok (.lreturn, 1) := by decide +kernel
theorem dX6_debt_0 : decode cX6_debt 0 = .ok (.aload_n 0, 1) := by decide +kernel
theorem dX6_debt_1 : decode cX6_debt 1 = .ok (.aload_n 0, 1) := by decide +kernel
theorem dX6_debt_2 : decode cX6_debt 2 = .ok (.iload_n 1, 1) := by decide +kernel
theorem dX6_debt_3 : decode cX6_debt 3 = .ok (.iload_n 2, 1) := by decide +kernel
theorem dX6_debt_4 : decode cX6_debt 4 = .ok (.invokevirtual 127, 3) := by decide +kernel
theorem dX6_debt_7 : decode cX6_debt 7 = .ok (.ifCond .eq 7, 3) := by decide +kernel
theorem dX6_debt_10 : decode cX6_debt 10 = .ok (.iconst 0, 1) := by decide +kernel
theorem dX6_debt_11 : decode cX6_debt 11 = .ok (.goto 4, 3) := by decide +kernel
theorem dX6_debt_14 : decode cX6_debt 14 = .ok (.iconst 1, 1) := by decide +kernel
theorem dX6_debt_15 : decode cX6_debt 15 = .ok (.invokevirtual 124, 3) := by decide +kernel
theorem dX6_debt_18 : decode cX6_debt 18 = .ok (.ifCond .ne 5, 3) := by decide +kernel
theorem dX6_debt_21 : decode cX6_debt 21 = .ok (.lconst 0, 1) := by decide +kernel
theorem dX6_debt_22 : decode cX6_debt 22 = .ok (.lreturn, 1) := by decide +kernel
theorem dX6_debt_23 : decode cX6_debt 23 = .ok (.iload_n 3, 1) := by decide +kernel
theorem dX6_debt_24 : decode cX6_debt 24 = .ok (.ifCond .eq 17, 3) := by decide +kernel
theorem dX6_debt_27 : decode cX6_debt 27 = .ok (.aload_n 0, 1) := by decide +kernel
theorem dX6_debt_28 : decode cX6_debt 28 = .ok (.getfield 39, 3) := by decide +kernel
theorem dX6_debt_31 : decode cX6_debt 31 = .ok (.bipush 12, 2) := by decide +kernel
theorem dX6_debt_33 : decode cX6_debt 33 = .ok (.iload_n 1, 1) := by decide +kernel
theorem dX6_debt_34 : decode cX6_debt 34 = .ok (.imul, 1) := by decide +kernel
theorem dX6_debt_35 : decode cX6_debt 35 = .ok (.iload_n 2, 1) := by decide +kernel
theorem dX6_debt_36 : decode cX6_debt 36 = .ok (.iadd, 1) := by decide +kernel
theorem dX6_debt_37 : decode cX6_debt 37 = .ok (.laload, 1) := by decide +kernel
theorem dX6_debt_38 : decode cX6_debt 38 = .ok (.goto 14, 3) := by decide +kernel
theorem dX6_debt_41 : decode cX6_debt 41 = .ok (.aload_n 0, 1) := by decide +kernel
theorem dX6_debt_42 : decode cX6_debt 42 = .ok (.getfield 36, 3) := by decide +kernel
theorem dX6_debt_45 : decode cX6_debt 45 = .ok (.bipush 12, 2) := by decide +kernel
theorem dX6_debt_47 : decode cX6_debt 47 = .ok (.iload_n 1, 1) := by decide +kernel
theorem dX6_debt_48 : decode cX6_debt 48 = .ok (.imul, 1) := by decide +kernel
theorem dX6_debt_49 : decode cX6_debt 49 = .ok (.iload_n 2, 1) := by decide +kernel
theorem dX6_debt_50 : decode cX6_debt 50 = .ok (.iadd, 1) := by decide +kernel
theorem dX6_debt_51 : decode cX6_debt 51 = .ok (.laload, 1) := by decide +kernel
theorem dX6_debt_52 : decode cX6_debt 52 = .ok (.lreturn, 1) := by decide +kernel
theorem dX6_agree_0 : decode cX6_agree 0 = .ok (.aload_n 0, 1) := by decide +kernel
theorem dX6_agree_1 : decode cX6_agree 1 = .ok (.aload_n 0, 1) := by decide +kernel
theorem dX6_agree_2 : decode cX6_agree 2 = .ok (.iload_n 1, 1) := by decide +kernel
theorem dX6_agree_3 : decode cX6_agree 3 = .ok (.iload_n 2, 1) := by decide +kernel
theorem dX6_agree_4 : decode cX6_agree 4 = .ok (.invokevirtual 127, 3) := by decide +kernel
theorem dX6_agree_7 : decode cX6_agree 7 = .ok (.ifCond .eq 7, 3) := by decide +kernel
theorem dX6_agree_10 : decode cX6_agree 10 = .ok (.iconst 0, 1) := by decide +kernel
theorem dX6_agree_11 : decode cX6_agree 11 = .ok (.goto 4, 3) := by decide +kernel
theorem dX6_agree_14 : decode cX6_agree 14 = .ok (.iconst 1, 1) := by decide +kernel
theorem dX6_agree_15 : decode cX6_agree 15 = .ok (.invokevirtual 124, 3) := by decide +kernel
theorem dX6_agree_18 : decode cX6_agree 18 = .ok (.ifCond .eq 34, 3) := by decide +kernel
theorem dX6_agree_21 : decode cX6_agree 21 = .ok (.aload_n 0, 1) := by decide +kernel
theorem dX6_agree_22 : decode cX6_agree 22 = .ok (.getfield 39, 3) := by decide +kernel
theorem dX6_agree_25 : decode cX6_agree 25 = .ok (.bipush 12, 2) := by decide +kernel
theorem dX6_agree_27 : decode cX6_agree 27 = .ok (.iload_n 1, 1) := by decide +kernel
theorem dX6_agree_28 : decode cX6_agree 28 = .ok (.imul, 1) := by decide +kernel
theorem dX6_agree_29 : decode cX6_agree 29 = .ok (.iload_n 2, 1) := by decide +kernel
theorem dX6_agree_30 : decode cX6_agree 30 = .ok (.iadd, 1) := by decide +kernel
theorem dX6_agree_31 : decode cX6_agree 31 = .ok (.laload, 1) := by decide +kernel
theorem dX6_agree_32 : decode cX6_agree 32 = .ok (.aload_n 0, 1) := by decide +kernel
theorem dX6_agree_33 : decode cX6_agree 33 = .ok (.getfield 39, 3) := by decide +kernel
theorem dX6_agree_36 : decode cX6_agree 36 = .ok (.bipush 12, 2) := by decide +kernel
theorem dX6_agree_38 : decode cX6_agree 38 = .ok (.iload_n 2, 1) := by decide +kernel
theorem dX6_agree_39 : decode cX6_agree 39 = .ok (.imul, 1) := by decide +kernel
theorem dX6_agree_40 : decode cX6_agree 40 = .ok (.iload_n 1, 1) := by decide +kernel
theorem dX6_agree_41 : decode cX6_agree 41 = .ok (.iadd, 1) := by decide +kernel
theorem dX6_agree_42 : decode cX6_agree 42 = .ok (.laload, 1) := by decide +kernel
theorem dX6_agree_43 : decode cX6_agree 43 = .ok (.lneg, 1) := by decide +kernel
theorem dX6_agree_44 : decode cX6_agree 44 = .ok (.lcmp, 1) := by decide +kernel
theorem dX6_agree_45 : decode cX6_agree 45 = .ok (.ifCond .ne 7, 3) := by decide +kernel
theorem dX6_agree_48 : decode cX6_agree 48 = .ok (.iconst 1, 1) := by decide +kernel
theorem dX6_agree_49 : decode cX6_agree 49 = .ok (.goto 4, 3) := by decide +kernel
theorem dX6_agree_52 : decode cX6_agree 52 = .ok (.iconst 0, 1) := by decide +kernel
theorem dX6_agree_53 : decode cX6_agree 53 = .ok (.ireturn, 1) := by decide +kernel
theorem dX6_way_0 : decode cX6_way 0 = .ok (.aload_n 0, 1) := by decide +kernel
theorem dX6_way_1 : decode cX6_way 1 = .ok (.iload_n 1, 1) := by decide +kernel
theorem dX6_way_2 : decode cX6_way 2 = .ok (.iload_n 2, 1) := by decide +kernel
theorem dX6_way_3 : decode cX6_way 3 = .ok (.invokevirtual 127, 3) := by decide +kernel
theorem dX6_way_6 : decode cX6_way 6 = .ok (.ifCond .eq 12, 3) := by decide +kernel
theorem dX6_way_9 : decode cX6_way 9 = .ok (.iload 4, 2) := by decide +kernel
theorem dX6_way_11 : decode cX6_way 11 = .ok (.ifCond .lt 7, 3) := by decide +kernel
theorem dX6_way_14 : decode cX6_way 14 = .ok (.iconst 1, 1) := by decide +kernel
theorem dX6_way_15 : decode cX6_way 15 = .ok (.goto 4, 3) := by decide +kernel
theorem dX6_way_18 : decode cX6_way 18 = .ok (.iconst 0, 1) := by decide +kernel
theorem dX6_way_19 : decode cX6_way 19 = .ok (.istore 5, 2) := by decide +kernel
theorem dX6_way_21 : decode cX6_way 21 = .ok (.aload_n 0, 1) := by decide +kernel
theorem dX6_way_22 : decode cX6_way 22 = .ok (.iload 5, 2) := by decide +kernel
theorem dX6_way_24 : decode cX6_way 24 = .ok (.ifCond .ne 7, 3) := by decide +kernel
theorem dX6_way_27 : decode cX6_way 27 = .ok (.iconst 1, 1) := by decide +kernel
theorem dX6_way_28 : decode cX6_way 28 = .ok (.goto 23, 3) := by decide +kernel
theorem dX6_way_31 : decode cX6_way 31 = .ok (.iload_n 1, 1) := by decide +kernel
theorem dX6_way_32 : decode cX6_way 32 = .ok (.iload_n 2, 1) := by decide +kernel
theorem dX6_way_33 : decode cX6_way 33 = .ok (.if_icmp .eq 17, 3) := by decide +kernel
theorem dX6_way_36 : decode cX6_way 36 = .ok (.iload_n 3, 1) := by decide +kernel
theorem dX6_way_37 : decode cX6_way 37 = .ok (.iconst 1, 1) := by decide +kernel
theorem dX6_way_38 : decode cX6_way 38 = .ok (.ldc 87, 2) := by decide +kernel
theorem dX6_way_40 : decode cX6_way 40 = .ok (.invokestatic 116, 3) := by decide +kernel
theorem dX6_way_43 : decode cX6_way 43 = .ok (.ifCond .eq 7, 3) := by decide +kernel
theorem dX6_way_46 : decode cX6_way 46 = .ok (.iconst 0, 1) := by decide +kernel
theorem dX6_way_47 : decode cX6_way 47 = .ok (.goto 4, 3) := by decide +kernel
theorem dX6_way_50 : decode cX6_way 50 = .ok (.iconst 2, 1) := by decide +kernel
theorem dX6_way_51 : decode cX6_way 51 = .ok (.invokevirtual 124, 3) := by decide +kernel
theorem dX6_way_54 : decode cX6_way 54 = .ok (.ifCond .ne 5, 3) := by decide +kernel
theorem dX6_way_57 : decode cX6_way 57 = .ok (.iconst 0, 1) := by decide +kernel
theorem dX6_way_58 : decode cX6_way 58 = .ok (.ireturn, 1) := by decide +kernel
theorem dX6_way_59 : decode cX6_way 59 = .ok (.aload_n 0, 1) := by decide +kernel
theorem dX6_way_60 : decode cX6_way 60 = .ok (.iload_n 1, 1) := by decide +kernel
theorem dX6_way_61 : decode cX6_way 61 = .ok (.iload_n 2, 1) := by decide +kernel
theorem dX6_way_62 : decode cX6_way 62 = .ok (.iload_n 3, 1) := by decide +kernel
theorem dX6_way_63 : decode cX6_way 63 = .ok (.iconst 0, 1) := by decide +kernel
theorem dX6_way_64 : decode cX6_way 64 = .ok (.invokevirtual 170, 3) := by decide +kernel
theorem dX6_way_67 : decode cX6_way 67 = .ok (.istore 6, 2) := by decide +kernel
theorem dX6_way_69 : decode cX6_way 69 = .ok (.iload 4, 2) := by decide +kernel
theorem dX6_way_71 : decode cX6_way 71 = .ok (.iload 6, 2) := by decide +kernel
theorem dX6_way_73 : decode cX6_way 73 = .ok (.if_icmp .ge 13, 3) := by decide +kernel
theorem dX6_way_76 : decode cX6_way 76 = .ok (.aload_n 0, 1) := by decide +kernel
theorem dX6_way_77 : decode cX6_way 77 = .ok (.getfield 106, 3) := by decide +kernel
theorem dX6_way_80 : decode cX6_way 80 = .ok (.iload 4, 2) := by decide +kernel
theorem dX6_way_82 : decode cX6_way 82 = .ok (.iaload, 1) := by decide +kernel
theorem dX6_way_83 : decode cX6_way 83 = .ok (.goto 4, 3) := by decide +kernel
theorem dX6_way_86 : decode cX6_way 86 = .ok (.iconst (-1), 1) := by decide +kernel
theorem dX6_way_87 : decode cX6_way 87 = .ok (.ireturn, 1) := by decide +kernel
theorem dX6_wayOf_0 : decode cX6_wayOf 0 = .ok (.aload_n 0, 1) := by decide +kernel
theorem dX6_wayOf_1 : decode cX6_wayOf 1 = .ok (.aload_n 0, 1) := by decide +kernel
theorem dX6_wayOf_2 : decode cX6_wayOf 2 = .ok (.iload_n 1, 1) := by decide +kernel
theorem dX6_wayOf_3 : decode cX6_wayOf 3 = .ok (.invokevirtual 197, 3) := by decide +kernel
theorem dX6_wayOf_6 : decode cX6_wayOf 6 = .ok (.ifCond .eq 11, 3) := by decide +kernel
theorem dX6_wayOf_9 : decode cX6_wayOf 9 = .ok (.iload_n 2, 1) := by decide +kernel
theorem dX6_wayOf_10 : decode cX6_wayOf 10 = .ok (.ifCond .lt 7, 3) := by decide +kernel
theorem dX6_wayOf_13 : decode cX6_wayOf 13 = .ok (.iconst 0, 1) := by decide +kernel
theorem dX6_wayOf_14 : decode cX6_wayOf 14 = .ok (.goto 4, 3) := by decide +kernel
theorem dX6_wayOf_17 : decode cX6_wayOf 17 = .ok (.iconst 1, 1) := by decide +kernel
theorem dX6_wayOf_18 : decode cX6_wayOf 18 = .ok (.invokevirtual 124, 3) := by decide +kernel
theorem dX6_wayOf_21 : decode cX6_wayOf 21 = .ok (.ifCond .ne 5, 3) := by decide +kernel
theorem dX6_wayOf_24 : decode cX6_wayOf 24 = .ok (.iconst 0, 1) := by decide +kernel
theorem dX6_wayOf_25 : decode cX6_wayOf 25 = .ok (.ireturn, 1) := by decide +kernel
theorem dX6_wayOf_26 : decode cX6_wayOf 26 = .ok (.iload_n 2, 1) := by decide +kernel
theorem dX6_wayOf_27 : decode cX6_wayOf 27 = .ok (.aload_n 0, 1) := by decide +kernel
theorem dX6_wayOf_28 : decode cX6_wayOf 28 = .ok (.getfield 63, 3) := by decide +kernel
theorem dX6_wayOf_31 : decode cX6_wayOf 31 = .ok (.iload_n 1, 1) := by decide +kernel
theorem dX6_wayOf_32 : decode cX6_wayOf 32 = .ok (.iaload, 1) := by decide +kernel
theorem dX6_wayOf_33 : decode cX6_wayOf 33 = .ok (.if_icmp .ge 17, 3) := by decide +kernel
theorem dX6_wayOf_36 : decode cX6_wayOf 36 = .ok (.aload_n 0, 1) := by decide +kernel
theorem dX6_wayOf_37 : decode cX6_wayOf 37 = .ok (.getfield 66, 3) := by decide +kernel
theorem dX6_wayOf_40 : decode cX6_wayOf 40 = .ok (.bipush 12, 2) := by decide +kernel
theorem dX6_wayOf_42 : decode cX6_wayOf 42 = .ok (.iload_n 1, 1) := by decide +kernel
theorem dX6_wayOf_43 : decode cX6_wayOf 43 = .ok (.imul, 1) := by decide +kernel
theorem dX6_wayOf_44 : decode cX6_wayOf 44 = .ok (.iload_n 2, 1) := by decide +kernel
theorem dX6_wayOf_45 : decode cX6_wayOf 45 = .ok (.iadd, 1) := by decide +kernel
theorem dX6_wayOf_46 : decode cX6_wayOf 46 = .ok (.iaload, 1) := by decide +kernel
theorem dX6_wayOf_47 : decode cX6_wayOf 47 = .ok (.goto 4, 3) := by decide +kernel
theorem dX6_wayOf_50 : decode cX6_wayOf 50 = .ok (.iconst (-1), 1) := by decide +kernel
theorem dX6_wayOf_51 : decode cX6_wayOf 51 = .ok (.ireturn, 1) := by decide +kernel
theorem dX6_orderOf_0 : decode cX6_orderOf 0 = .ok (.aload_n 0, 1) := by decide +kernel
theorem dX6_orderOf_1 : decode cX6_orderOf 1 = .ok (.iload_n 1, 1) := by decide +kernel
theorem dX6_orderOf_2 : decode cX6_orderOf 2 = .ok (.invokevirtual 197, 3) := by decide +kernel
theorem dX6_orderOf_5 : decode cX6_orderOf 5 = .ok (.istore_n 3, 1) := by decide +kernel
theorem dX6_orderOf_6 : decode cX6_orderOf 6 = .ok (.aload_n 0, 1) := by decide +kernel
theorem dX6_orderOf_7 : decode cX6_orderOf 7 = .ok (.iload_n 3, 1) := by decide +kernel
theorem dX6_orderOf_8 : decode cX6_orderOf 8 = .ok (.ifCond .ne 7, 3) := by decide +kernel
theorem dX6_orderOf_11 : decode cX6_orderOf 11 = .ok (.iconst 1, 1) := by decide +kernel
theorem dX6_orderOf_12 : decode cX6_orderOf 12 = .ok (.goto 17, 3) := by decide +kernel
theorem dX6_orderOf_15 : decode cX6_orderOf 15 = .ok (.iload_n 2, 1) := by decide +kernel
theorem dX6_orderOf_16 : decode cX6_orderOf 16 = .ok (.iconst 0, 1) := by decide +kernel
theorem dX6_orderOf_17 : decode cX6_orderOf 17 = .ok (.iconst 5, 1) := by decide +kernel
theorem dX6_orderOf_18 : decode cX6_orderOf 18 = .ok (.invokestatic 116, 3) := by decide +kernel
theorem dX6_orderOf_21 : decode cX6_orderOf 21 = .ok (.ifCond .eq 7, 3) := by decide +kernel
theorem dX6_orderOf_24 : decode cX6_orderOf 24 = .ok (.iconst 0, 1) := by decide +kernel
theorem dX6_orderOf_25 : decode cX6_orderOf 25 = .ok (.goto 4, 3) := by decide +kernel
theorem dX6_orderOf_28 : decode cX6_orderOf 28 = .ok (.iconst 2, 1) := by decide +kernel
theorem dX6_orderOf_29 : decode cX6_orderOf 29 = .ok (.invokevirtual 124, 3) := by decide +kernel
theorem dX6_orderOf_32 : decode cX6_orderOf 32 = .ok (.ifCond .ne 5, 3) := by decide +kernel
theorem dX6_orderOf_35 : decode cX6_orderOf 35 = .ok (.iconst 0, 1) := by decide +kernel
theorem dX6_orderOf_36 : decode cX6_orderOf 36 = .ok (.ireturn, 1) := by decide +kernel
theorem dX6_orderOf_37 : decode cX6_orderOf 37 = .ok (.iload_n 2, 1) := by decide +kernel
theorem dX6_orderOf_38 : decode cX6_orderOf 38 = .ok (.tableswitch 69 0 4 #[34, 41, 48, 55, 62], 34) := by decide +kernel
theorem dX6_orderOf_72 : decode cX6_orderOf 72 = .ok (.aload_n 0, 1) := by decide +kernel
theorem dX6_orderOf_73 : decode cX6_orderOf 73 = .ok (.getfield 42, 3) := by decide +kernel
theorem dX6_orderOf_76 : decode cX6_orderOf 76 = .ok (.iload_n 1, 1) := by decide +kernel
theorem dX6_orderOf_77 : decode cX6_orderOf 77 = .ok (.iaload, 1) := by decide +kernel
theorem dX6_orderOf_78 : decode cX6_orderOf 78 = .ok (.ireturn, 1) := by decide +kernel
theorem dX6_orderOf_79 : decode cX6_orderOf 79 = .ok (.aload_n 0, 1) := by decide +kernel
theorem dX6_orderOf_80 : decode cX6_orderOf 80 = .ok (.getfield 45, 3) := by decide +kernel
theorem dX6_orderOf_83 : decode cX6_orderOf 83 = .ok (.iload_n 1, 1) := by decide +kernel
theorem dX6_orderOf_84 : decode cX6_orderOf 84 = .ok (.iaload, 1) := by decide +kernel
theorem dX6_orderOf_85 : decode cX6_orderOf 85 = .ok (.ireturn, 1) := by decide +kernel
theorem dX6_orderOf_86 : decode cX6_orderOf 86 = .ok (.aload_n 0, 1) := by decide +kernel
theorem dX6_orderOf_87 : decode cX6_orderOf 87 = .ok (.getfield 48, 3) := by decide +kernel
theorem dX6_orderOf_90 : decode cX6_orderOf 90 = .ok (.iload_n 1, 1) := by decide +kernel
theorem dX6_orderOf_91 : decode cX6_orderOf 91 = .ok (.iaload, 1) := by decide +kernel
theorem dX6_orderOf_92 : decode cX6_orderOf 92 = .ok (.ireturn, 1) := by decide +kernel
theorem dX6_orderOf_93 : decode cX6_orderOf 93 = .ok (.aload_n 0, 1) := by decide +kernel
theorem dX6_orderOf_94 : decode cX6_orderOf 94 = .ok (.getfield 60, 3) := by decide +kernel
theorem dX6_orderOf_97 : decode cX6_orderOf 97 = .ok (.iload_n 1, 1) := by decide +kernel
theorem dX6_orderOf_98 : decode cX6_orderOf 98 = .ok (.iaload, 1) := by decide +kernel
theorem dX6_orderOf_99 : decode cX6_orderOf 99 = .ok (.ireturn, 1) := by decide +kernel
theorem dX6_orderOf_100 : decode cX6_orderOf 100 = .ok (.aload_n 0, 1) := by decide +kernel
theorem dX6_orderOf_101 : decode cX6_orderOf 101 = .ok (.getfield 54, 3) := by decide +kernel
theorem dX6_orderOf_104 : decode cX6_orderOf 104 = .ok (.iload_n 1, 1) := by decide +kernel
theorem dX6_orderOf_105 : decode cX6_orderOf 105 = .ok (.iaload, 1) := by decide +kernel
theorem dX6_orderOf_106 : decode cX6_orderOf 106 = .ok (.ireturn, 1) := by decide +kernel
theorem dX6_orderOf_107 : decode cX6_orderOf 107 = .ok (.aload_n 0, 1) := by decide +kernel
theorem dX6_orderOf_108 : decode cX6_orderOf 108 = .ok (.getfield 57, 3) := by decide +kernel
theorem dX6_orderOf_111 : decode cX6_orderOf 111 = .ok (.iload_n 1, 1) := by decide +kernel
theorem dX6_orderOf_112 : decode cX6_orderOf 112 = .ok (.iaload, 1) := by decide +kernel
theorem dX6_orderOf_113 : decode cX6_orderOf 113 = .ok (.ireturn, 1) := by decide +kernel
theorem dX6_inquiry_0 : decode cX6_inquiry 0 = .ok (.aload_n 0, 1) := by decide +kernel
theorem dX6_inquiry_1 : decode cX6_inquiry 1 = .ok (.iconst 0, 1) := by decide +kernel
theorem dX6_inquiry_2 : decode cX6_inquiry 2 = .ok (.putfield 109, 3) := by decide +kernel
theorem dX6_inquiry_5 : decode cX6_inquiry 5 = .ok (.iconst 0, 1) := by decide +kernel
theorem dX6_inquiry_6 : decode cX6_inquiry 6 = .ok (.istore_n 1, 1) := by decide +kernel
theorem dX6_inquiry_7 : decode cX6_inquiry 7 = .ok (.iconst 0, 1) := by decide +kernel
theorem dX6_inquiry_8 : decode cX6_inquiry 8 = .ok (.istore_n 2, 1) := by decide +kernel
theorem dX6_inquiry_9 : decode cX6_inquiry 9 = .ok (.iload_n 2, 1) := by decide +kernel
theorem dX6_inquiry_10 : decode cX6_inquiry 10 = .ok (.aload_n 0, 1) := by decide +kernel
theorem dX6_inquiry_11 : decode cX6_inquiry 11 = .ok (.getfield 113, 3) := by decide +kernel
theorem dX6_inquiry_14 : decode cX6_inquiry 14 = .ok (.if_icmp .ge 28, 3) := by decide +kernel
theorem dX6_inquiry_17 : decode cX6_inquiry 17 = .ok (.iload_n 1, 1) := by decide +kernel
theorem dX6_inquiry_18 : decode cX6_inquiry 18 = .ok (.aload_n 0, 1) := by decide +kernel
theorem dX6_inquiry_19 : decode cX6_inquiry 19 = .ok (.getfield 26, 3) := by decide +kernel
theorem dX6_inquiry_22 : decode cX6_inquiry 22 = .ok (.iload_n 2, 1) := by decide +kernel
theorem dX6_inquiry_23 : decode cX6_inquiry 23 = .ok (.baload, 1) := by decide +kernel
theorem dX6_inquiry_24 : decode cX6_inquiry 24 = .ok (.ifCond .eq 9, 3) := by decide +kernel
theorem dX6_inquiry_27 : decode cX6_inquiry 27 = .ok (.iconst 1, 1) := by decide +kernel
theorem dX6_inquiry_28 : decode cX6_inquiry 28 = .ok (.iload_n 2, 1) := by decide +kernel
theorem dX6_inquiry_29 : decode cX6_inquiry 29 = .ok (.ishl, 1) := by decide +kernel
theorem dX6_inquiry_30 : decode cX6_inquiry 30 = .ok (.goto 4, 3) := by decide +kernel
theorem dX6_inquiry_33 : decode cX6_inquiry 33 = .ok (.iconst 0, 1) := by decide +kernel
theorem dX6_inquiry_34 : decode cX6_inquiry 34 = .ok (.ior, 1) := by decide +kernel
theorem dX6_inquiry_35 : decode cX6_inquiry 35 = .ok (.istore_n 1, 1) := by decide +kernel
theorem dX6_inquiry_36 : decode cX6_inquiry 36 = .ok (.iinc 2 1, 3) := by decide +kernel
theorem dX6_inquiry_39 : decode cX6_inquiry 39 = .ok (.goto (-30), 3) := by decide +kernel
theorem dX6_inquiry_42 : decode cX6_inquiry 42 = .ok (.iconst 0, 1) := by decide +kernel
theorem dX6_inquiry_43 : decode cX6_inquiry 43 = .ok (.istore_n 2, 1) := by decide +kernel
theorem dX6_inquiry_44 : decode cX6_inquiry 44 = .ok (.iload_n 2, 1) := by decide +kernel
theorem dX6_inquiry_45 : decode cX6_inquiry 45 = .ok (.aload_n 0, 1) := by decide +kernel
theorem dX6_inquiry_46 : decode cX6_inquiry 46 = .ok (.getfield 113, 3) := by decide +kernel
theorem dX6_inquiry_49 : decode cX6_inquiry 49 = .ok (.if_icmp .ge 80, 3) := by decide +kernel
theorem dX6_inquiry_52 : decode cX6_inquiry 52 = .ok (.iconst 0, 1) := by decide +kernel
theorem dX6_inquiry_53 : decode cX6_inquiry 53 = .ok (.istore_n 3, 1) := by decide +kernel
theorem dX6_inquiry_54 : decode cX6_inquiry 54 = .ok (.iload_n 3, 1) := by decide +kernel
theorem dX6_inquiry_55 : decode cX6_inquiry 55 = .ok (.aload_n 0, 1) := by decide +kernel
theorem dX6_inquiry_56 : decode cX6_inquiry 56 = .ok (.getfield 113, 3) := by decide +kernel
theorem dX6_inquiry_59 : decode cX6_inquiry 59 = .ok (.if_icmp .ge 64, 3) := by decide +kernel
theorem dX6_inquiry_62 : decode cX6_inquiry 62 = .ok (.iconst 0, 1) := by decide +kernel
theorem dX6_inquiry_63 : decode cX6_inquiry 63 = .ok (.istore 4, 2) := by decide +kernel
theorem dX6_inquiry_65 : decode cX6_inquiry 65 = .ok (.iload 4, 2) := by decide +kernel
theorem dX6_inquiry_67 : decode cX6_inquiry 67 = .ok (.aload_n 0, 1) := by decide +kernel
theorem dX6_inquiry_68 : decode cX6_inquiry 68 = .ok (.getfield 113, 3) := by decide +kernel
theorem dX6_inquiry_71 : decode cX6_inquiry 71 = .ok (.if_icmp .ge 46, 3) := by decide +kernel
theorem dX6_inquiry_74 : decode cX6_inquiry 74 = .ok (.iload_n 1, 1) := by decide +kernel
theorem dX6_inquiry_75 : decode cX6_inquiry 75 = .ok (.iload_n 1, 1) := by decide +kernel
theorem dX6_inquiry_76 : decode cX6_inquiry 76 = .ok (.iload_n 3, 1) := by decide +kernel
theorem dX6_inquiry_77 : decode cX6_inquiry 77 = .ok (.ishr, 1) := by decide +kernel
theorem dX6_inquiry_78 : decode cX6_inquiry 78 = .ok (.iconst 1, 1) := by decide +kernel
theorem dX6_inquiry_79 : decode cX6_inquiry 79 = .ok (.iand, 1) := by decide +kernel
theorem dX6_inquiry_80 : decode cX6_inquiry 80 = .ok (.iconst 1, 1) := by decide +kernel
theorem dX6_inquiry_81 : decode cX6_inquiry 81 = .ok (.if_icmp .ne 27, 3) := by decide +kernel
theorem dX6_inquiry_84 : decode cX6_inquiry 84 = .ok (.aload_n 0, 1) := by decide +kernel
theorem dX6_inquiry_85 : decode cX6_inquiry 85 = .ok (.getfield 39, 3) := by decide +kernel
theorem dX6_inquiry_88 : decode cX6_inquiry 88 = .ok (.bipush 12, 2) := by decide +kernel
theorem dX6_inquiry_90 : decode cX6_inquiry 90 = .ok (.iload_n 3, 1) := by decide +kernel
theorem dX6_inquiry_91 : decode cX6_inquiry 91 = .ok (.imul, 1) := by decide +kernel
theorem dX6_inquiry_92 : decode cX6_inquiry 92 = .ok (.iload 4, 2) := by decide +kernel
theorem dX6_inquiry_94 : decode cX6_inquiry 94 = .ok (.iadd, 1) := by decide +kernel
theorem dX6_inquiry_95 : decode cX6_inquiry 95 = .ok (.laload, 1) := by decide +kernel
theorem dX6_inquiry_96 : decode cX6_inquiry 96 = .ok (.lconst 0, 1) := by decide +kernel
theorem dX6_inquiry_97 : decode cX6_inquiry 97 = .ok (.lcmp, 1) := by decide +kernel
theorem dX6_inquiry_98 : decode cX6_inquiry 98 = .ok (.ifCond .eq 10, 3) := by decide +kernel
theorem dX6_inquiry_101 : decode cX6_inquiry 101 = .ok (.iconst 1, 1) := by decide +kernel
theorem dX6_inquiry_102 : decode cX6_inquiry 102 = .ok (.iload 4, 2) := by decide +kernel
theorem dX6_inquiry_104 : decode cX6_inquiry 104 = .ok (.ishl, 1) := by decide +kernel
theorem dX6_inquiry_105 : decode cX6_inquiry 105 = .ok (.goto 4, 3) := by decide +kernel
theorem dX6_inquiry_108 : decode cX6_inquiry 108 = .ok (.iconst 0, 1) := by decide +kernel
theorem dX6_inquiry_109 : decode cX6_inquiry 109 = .ok (.ior, 1) := by decide +kernel
theorem dX6_inquiry_110 : decode cX6_inquiry 110 = .ok (.istore_n 1, 1) := by decide +kernel
theorem dX6_inquiry_111 : decode cX6_inquiry 111 = .ok (.iinc 4 1, 3) := by decide +kernel
theorem dX6_inquiry_114 : decode cX6_inquiry 114 = .ok (.goto (-49), 3) := by decide +kernel
theorem dX6_inquiry_117 : decode cX6_inquiry 117 = .ok (.iinc 3 1, 3) := by decide +kernel
theorem dX6_inquiry_120 : decode cX6_inquiry 120 = .ok (.goto (-66), 3) := by decide +kernel
theorem dX6_inquiry_123 : decode cX6_inquiry 123 = .ok (.iinc 2 1, 3) := by decide +kernel
theorem dX6_inquiry_126 : decode cX6_inquiry 126 = .ok (.goto (-82), 3) := by decide +kernel
theorem dX6_inquiry_129 : decode cX6_inquiry 129 = .ok (.iload_n 1, 1) := by decide +kernel
theorem dX6_inquiry_130 : decode cX6_inquiry 130 = .ok (.ireturn, 1) := by decide +kernel
theorem dX6_sum_0 : decode cX6_sum 0 = .ok (.aload_n 0, 1) := by decide +kernel
theorem dX6_sum_1 : decode cX6_sum 1 = .ok (.iload_n 1, 1) := by decide +kernel
theorem dX6_sum_2 : decode cX6_sum 2 = .ok (.iconst 0, 1) := by decide +kernel
theorem dX6_sum_3 : decode cX6_sum 3 = .ok (.bipush 7, 2) := by decide +kernel
theorem dX6_sum_5 : decode cX6_sum 5 = .ok (.invokestatic 116, 3) := by decide +kernel
theorem dX6_sum_8 : decode cX6_sum 8 = .ok (.ifCond .eq 7, 3) := by decide +kernel
theorem dX6_sum_11 : decode cX6_sum 11 = .ok (.iconst 0, 1) := by decide +kernel
theorem dX6_sum_12 : decode cX6_sum 12 = .ok (.goto 4, 3) := by decide +kernel
theorem dX6_sum_15 : decode cX6_sum 15 = .ok (.iconst 1, 1) := by decide +kernel
theorem dX6_sum_16 : decode cX6_sum 16 = .ok (.invokevirtual 124, 3) := by decide +kernel
theorem dX6_sum_19 : decode cX6_sum 19 = .ok (.ifCond .ne 5, 3) := by decide +kernel
theorem dX6_sum_22 : decode cX6_sum 22 = .ok (.lconst 0, 1) := by decide +kernel
theorem dX6_sum_23 : decode cX6_sum 23 = .ok (.lreturn, 1) := by decide +kernel
theorem dX6_sum_24 : decode cX6_sum 24 = .ok (.iload_n 1, 1) := by decide +kernel
theorem dX6_sum_25 : decode cX6_sum 25 = .ok (.iconst 5, 1) := by decide +kernel
theorem dX6_sum_26 : decode cX6_sum 26 = .ok (.if_icmp .ge 12, 3) := by decide +kernel
theorem dX6_sum_29 : decode cX6_sum 29 = .ok (.aload_n 0, 1) := by decide +kernel
theorem dX6_sum_30 : decode cX6_sum 30 = .ok (.getfield 97, 3) := by decide +kernel
theorem dX6_sum_33 : decode cX6_sum 33 = .ok (.iload_n 1, 1) := by decide +kernel
theorem dX6_sum_34 : decode cX6_sum 34 = .ok (.laload, 1) := by decide +kernel
theorem dX6_sum_35 : decode cX6_sum 35 = .ok (.goto 4, 3) := by decide +kernel
theorem dX6_sum_38 : decode cX6_sum 38 = .ok (.lconst 0, 1) := by decide +kernel
theorem dX6_sum_39 : decode cX6_sum 39 = .ok (.lstore_n 2, 1) := by decide +kernel
theorem dX6_sum_40 : decode cX6_sum 40 = .ok (.iconst 0, 1) := by decide +kernel
theorem dX6_sum_41 : decode cX6_sum 41 = .ok (.istore 4, 2) := by decide +kernel
theorem dX6_sum_43 : decode cX6_sum 43 = .ok (.iload 4, 2) := by decide +kernel
theorem dX6_sum_45 : decode cX6_sum 45 = .ok (.aload_n 0, 1) := by decide +kernel
theorem dX6_sum_46 : decode cX6_sum 46 = .ok (.getfield 200, 3) := by decide +kernel
theorem dX6_sum_49 : decode cX6_sum 49 = .ok (.if_icmp .ge 39, 3) := by decide +kernel
theorem dX6_sum_52 : decode cX6_sum 52 = .ok (.iload_n 1, 1) := by decide +kernel
theorem dX6_sum_53 : decode cX6_sum 53 = .ok (.iconst 5, 1) := by decide +kernel
theorem dX6_sum_54 : decode cX6_sum 54 = .ok (.if_icmp .ne 34, 3) := by decide +kernel
theorem dX6_sum_57 : decode cX6_sum 57 = .ok (.lload_n 2, 1) := by decide +kernel
theorem dX6_sum_58 : decode cX6_sum 58 = .ok (.aload_n 0, 1) := by decide +kernel
theorem dX6_sum_59 : decode cX6_sum 59 = .ok (.getfield 84, 3) := by decide +kernel
theorem dX6_sum_62 : decode cX6_sum 62 = .ok (.iload 4, 2) := by decide +kernel
theorem dX6_sum_64 : decode cX6_sum 64 = .ok (.baload, 1) := by decide +kernel
theorem dX6_sum_65 : decode cX6_sum 65 = .ok (.ifCond .eq 7, 3) := by decide +kernel
theorem dX6_sum_68 : decode cX6_sum 68 = .ok (.lconst 0, 1) := by decide +kernel
theorem dX6_sum_69 : decode cX6_sum 69 = .ok (.goto 11, 3) := by decide +kernel
theorem dX6_sum_72 : decode cX6_sum 72 = .ok (.aload_n 0, 1) := by decide +kernel
theorem dX6_sum_73 : decode cX6_sum 73 = .ok (.getfield 72, 3) := by decide +kernel
theorem dX6_sum_76 : decode cX6_sum 76 = .ok (.iload 4, 2) := by decide +kernel
theorem dX6_sum_78 : decode cX6_sum 78 = .ok (.iaload, 1) := by decide +kernel
theorem dX6_sum_79 : decode cX6_sum 79 = .ok (.i2l, 1) := by decide +kernel
theorem dX6_sum_80 : decode cX6_sum 80 = .ok (.ladd, 1) := by decide +kernel
theorem dX6_sum_81 : decode cX6_sum 81 = .ok (.lstore_n 2, 1) := by decide +kernel
theorem dX6_sum_82 : decode cX6_sum 82 = .ok (.iinc 4 1, 3) := by decide +kernel
theorem dX6_sum_85 : decode cX6_sum 85 = .ok (.goto (-42), 3) := by decide +kernel
theorem dX6_sum_88 : decode cX6_sum 88 = .ok (.iconst 0, 1) := by decide +kernel
theorem dX6_sum_89 : decode cX6_sum 89 = .ok (.istore 4, 2) := by decide +kernel
theorem dX6_sum_91 : decode cX6_sum 91 = .ok (.iload 4, 2) := by decide +kernel
theorem dX6_sum_93 : decode cX6_sum 93 = .ok (.aload_n 0, 1) := by decide +kernel
theorem dX6_sum_94 : decode cX6_sum 94 = .ok (.getfield 113, 3) := by decide +kernel
theorem dX6_sum_97 : decode cX6_sum 97 = .ok (.if_icmp .ge 25, 3) := by decide +kernel
theorem dX6_sum_100 : decode cX6_sum 100 = .ok (.iload_n 1, 1) := by decide +kernel
theorem dX6_sum_101 : decode cX6_sum 101 = .ok (.bipush 6, 2) := by decide +kernel
theorem dX6_sum_103 : decode cX6_sum 103 = .ok (.if_icmp .ne 19, 3) := by decide +kernel
theorem dX6_sum_106 : decode cX6_sum 106 = .ok (.lload_n 2, 1) := by decide +kernel
theorem dX6_sum_107 : decode cX6_sum 107 = .ok (.aload_n 0, 1) := by decide +kernel
theorem dX6_sum_108 : decode cX6_sum 108 = .ok (.getfield 13, 3) := by decide +kernel
theorem dX6_sum_111 : decode cX6_sum 111 = .ok (.iload 4, 2) := by decide +kernel
theorem dX6_sum_113 : decode cX6_sum 113 = .ok (.laload, 1) := by decide +kernel
theorem dX6_sum_114 : decode cX6_sum 114 = .ok (.ladd, 1) := by decide +kernel
theorem dX6_sum_115 : decode cX6_sum 115 = .ok (.lstore_n 2, 1) := by decide +kernel
theorem dX6_sum_116 : decode cX6_sum 116 = .ok (.iinc 4 1, 3) := by decide +kernel
theorem dX6_sum_119 : decode cX6_sum 119 = .ok (.goto (-28), 3) := by decide +kernel
theorem dX6_sum_122 : decode cX6_sum 122 = .ok (.iconst 0, 1) := by decide +kernel
theorem dX6_sum_123 : decode cX6_sum 123 = .ok (.istore 4, 2) := by decide +kernel
theorem dX6_sum_125 : decode cX6_sum 125 = .ok (.iload 4, 2) := by decide +kernel
theorem dX6_sum_127 : decode cX6_sum 127 = .ok (.aload_n 0, 1) := by decide +kernel
theorem dX6_sum_128 : decode cX6_sum 128 = .ok (.getfield 181, 3) := by decide +kernel
theorem dX6_sum_131 : decode cX6_sum 131 = .ok (.if_icmp .ge 41, 3) := by decide +kernel
theorem dX6_sum_134 : decode cX6_sum 134 = .ok (.iload_n 1, 1) := by decide +kernel
theorem dX6_sum_135 : decode cX6_sum 135 = .ok (.bipush 7, 2) := by decide +kernel
theorem dX6_sum_137 : decode cX6_sum 137 = .ok (.if_icmp .ne 35, 3) := by decide +kernel
theorem dX6_sum_140 : decode cX6_sum 140 = .ok (.lload_n 2, 1) := by decide +kernel
theorem dX6_sum_141 : decode cX6_sum 141 = .ok (.aload_n 0, 1) := by decide +kernel
theorem dX6_sum_142 : decode cX6_sum 142 = .ok (.getfield 42, 3) := by decide +kernel
theorem dX6_sum_145 : decode cX6_sum 145 = .ok (.iload 4, 2) := by decide +kernel
theorem dX6_sum_147 : decode cX6_sum 147 = .ok (.iaload, 1) := by decide +kernel
theorem dX6_sum_148 : decode cX6_sum 148 = .ok (.iconst 5, 1) := by decide +kernel
theorem dX6_sum_149 : decode cX6_sum 149 = .ok (.if_icmp .ne 14, 3) := by decide +kernel
theorem dX6_sum_152 : decode cX6_sum 152 = .ok (.aload_n 0, 1) := by decide +kernel
theorem dX6_sum_153 : decode cX6_sum 153 = .ok (.getfield 48, 3) := by decide +kernel
theorem dX6_sum_156 : decode cX6_sum 156 = .ok (.iload 4, 2) := by decide +kernel
theorem dX6_sum_158 : decode cX6_sum 158 = .ok (.iaload, 1) := by decide +kernel
theorem dX6_sum_159 : decode cX6_sum 159 = .ok (.i2l, 1) := by decide +kernel
theorem dX6_sum_160 : decode cX6_sum 160 = .ok (.goto 4, 3) := by decide +kernel
theorem dX6_sum_163 : decode cX6_sum 163 = .ok (.lconst 0, 1) := by decide +kernel
theorem dX6_sum_164 : decode cX6_sum 164 = .ok (.ladd, 1) := by decide +kernel
theorem dX6_sum_165 : decode cX6_sum 165 = .ok (.lstore_n 2, 1) := by decide +kernel
theorem dX6_sum_166 : decode cX6_sum 166 = .ok (.iinc 4 1, 3) := by decide +kernel
theorem dX6_sum_169 : decode cX6_sum 169 = .ok (.goto (-44), 3) := by decide +kernel
theorem dX6_sum_172 : decode cX6_sum 172 = .ok (.lload_n 2, 1) := by decide +kernel
theorem dX6_sum_173 : decode cX6_sum 173 = .ok (.lreturn, 1) := by decide +kernel
theorem dJ9_min_f86c9_0 : decode cJ9_min_f86c9 0 = .ok (.lload_n 0, 1) := by decide +kernel
theorem dJ9_min_f86c9_1 : decode cJ9_min_f86c9 1 = .ok (.lload_n 2, 1) := by decide +kernel
theorem dJ9_min_f86c9_2 : decode cJ9_min_f86c9 2 = .ok (.lcmp, 1) := by decide +kernel
theorem dJ9_min_f86c9_3 : decode cJ9_min_f86c9 3 = .ok (.ifCond .gt 7, 3) := by decide +kernel
theorem dJ9_min_f86c9_6 : decode cJ9_min_f86c9 6 = .ok (.lload_n 0, 1) := by decide +kernel
theorem dJ9_min_f86c9_7 : decode cJ9_min_f86c9 7 = .ok (.goto 4, 3) := by decide +kernel
theorem dJ9_min_f86c9_10 : decode cJ9_min_f86c9 10 = .ok (.lload_n 2, 1) := by decide +kernel
theorem dJ9_min_f86c9_11 : decode cJ9_min_f86c9 11 = .ok (.lreturn, 1) := by decide +kernel
theorem dL_broker_0 : decode cL_broker 0 = .ok (.aload 4, 2) := by decide +kernel
theorem dL_broker_2 : decode cL_broker 2 = .ok (.iconst 0, 1) := by decide +kernel
theorem dL_broker_3 : decode cL_broker 3 = .ok (.aload_n 0, 1) := by decide +kernel
theorem dL_broker_4 : decode cL_broker 4 = .ok (.iload_n 1, 1) := by decide +kernel
theorem dL_broker_5 : decode cL_broker 5 = .ok (.iload_n 2, 1) := by decide +kernel
theorem dL_broker_6 : decode cL_broker 6 = .ok (.iload_n 3, 1) := by decide +kernel
theorem dL_broker_7 : decode cL_broker 7 = .ok (.invokevirtual 7, 3) := by decide +kernel
theorem dL_broker_10 : decode cL_broker 10 = .ok (.i2l, 1) := by decide +kernel
theorem dL_broker_11 : decode cL_broker 11 = .ok (.lastore, 1) := by decide +kernel
theorem dL_broker_12 : decode cL_broker 12 = .ok (.goto 15, 3) := by decide +kernel
theorem dL_broker_15 : decode cL_broker 15 = .ok (.astore 5, 2) := by decide +kernel
theorem dL_broker_17 : decode cL_broker 17 = .ok (.iconst 1, 1) := by decide +kernel
theorem dL_broker_18 : decode cL_broker 18 = .ok (.ireturn, 1) := by decide +kernel
theorem dL_broker_19 : decode cL_broker 19 = .ok (.astore 5, 2) := by decide +kernel
theorem dL_broker_21 : decode cL_broker 21 = .ok (.iconst 2, 1) := by decide +kernel
theorem dL_broker_22 : decode cL_broker 22 = .ok (.ireturn, 1) := by decide +kernel
theorem dL_broker_23 : decode cL_broker 23 = .ok (.astore 5, 2) := by decide +kernel
theorem dL_broker_25 : decode cL_broker 25 = .ok (.iconst 3, 1) := by decide +kernel
theorem dL_broker_26 : decode cL_broker 26 = .ok (.ireturn, 1) := by decide +kernel
theorem dL_broker_27 : decode cL_broker 27 = .ok (.iconst 0, 1) := by decide +kernel
theorem dL_broker_28 : decode cL_broker 28 = .ok (.ireturn, 1) := by decide +kernel
theorem dL_rate_0 : decode cL_rate 0 = .ok (.aload_n 3, 1) := by decide +kernel
theorem dL_rate_1 : decode cL_rate 1 = .ok (.iconst 0, 1) := by decide +kernel
theorem dL_rate_2 : decode cL_rate 2 = .ok (.aload_n 0, 1) := by decide +kernel
theorem dL_rate_3 : decode cL_rate 3 = .ok (.iload_n 1, 1) := by decide +kernel
theorem dL_rate_4 : decode cL_rate 4 = .ok (.iload_n 2, 1) := by decide +kernel
theorem dL_rate_5 : decode cL_rate 5 = .ok (.invokevirtual 19, 3) := by decide +kernel
theorem dL_rate_8 : decode cL_rate 8 = .ok (.i2l, 1) := by decide +kernel
theorem dL_rate_9 : decode cL_rate 9 = .ok (.lastore, 1) := by decide +kernel
theorem dL_rate_10 : decode cL_rate 10 = .ok (.goto 11, 3) := by decide +kernel
theorem dL_rate_13 : decode cL_rate 13 = .ok (.astore 4, 2) := by decide +kernel
theorem dL_rate_15 : decode cL_rate 15 = .ok (.iconst 1, 1) := by decide +kernel
theorem dL_rate_16 : decode cL_rate 16 = .ok (.ireturn, 1) := by decide +kernel
theorem dL_rate_17 : decode cL_rate 17 = .ok (.astore 4, 2) := by decide +kernel
theorem dL_rate_19 : decode cL_rate 19 = .ok (.iconst 2, 1) := by decide +kernel
theorem dL_rate_20 : decode cL_rate 20 = .ok (.ireturn, 1) := by decide +kernel
theorem dL_rate_21 : decode cL_rate 21 = .ok (.iconst 0, 1) := by decide +kernel
theorem dL_rate_22 : decode cL_rate 22 = .ok (.ireturn, 1) := by decide +kernel
theorem dL_trust_0 : decode cL_trust 0 = .ok (.aload_n 0, 1) := by decide +kernel
theorem dL_trust_1 : decode cL_trust 1 = .ok (.iload_n 1, 1) := by decide +kernel
theorem dL_trust_2 : decode cL_trust 2 = .ok (.iload_n 2, 1) := by decide +kernel
theorem dL_trust_3 : decode cL_trust 3 = .ok (.iload_n 3, 1) := by decide +kernel
theorem dL_trust_4 : decode cL_trust 4 = .ok (.iload 4, 2) := by decide +kernel
theorem dL_trust_6 : decode cL_trust 6 = .ok (.invokevirtual 23, 3) := by decide +kernel
theorem dL_trust_9 : decode cL_trust 9 = .ok (.goto 11, 3) := by decide +kernel
theorem dL_trust_12 : decode cL_trust 12 = .ok (.astore 5, 2) := by decide +kernel
theorem dL_trust_14 : decode cL_trust 14 = .ok (.iconst 1, 1) := by decide +kernel
theorem dL_trust_15 : decode cL_trust 15 = .ok (.ireturn, 1) := by decide +kernel
theorem dL_trust_16 : decode cL_trust 16 = .ok (.astore 5, 2) := by decide +kernel
theorem dL_trust_18 : decode cL_trust 18 = .ok (.iconst 2, 1) := by decide +kernel
theorem dL_trust_19 : decode cL_trust 19 = .ok (.ireturn, 1) := by decide +kernel
theorem dL_trust_20 : decode cL_trust 20 = .ok (.iconst 0, 1) := by decide +kernel
theorem dL_trust_21 : decode cL_trust 21 = .ok (.ireturn, 1) := by decide +kernel
theorem dL_breakWord_0 : decode cL_breakWord 0 = .ok (.aload_n 2, 1) := by decide +kernel
theorem dL_breakWord_1 : decode cL_breakWord 1 = .ok (.iconst 0, 1) := by decide +kernel
theorem dL_breakWord_2 : decode cL_breakWord 2 = .ok (.aload_n 0, 1) := by decide +kernel
theorem dL_breakWord_3 : decode cL_breakWord 3 = .ok (.iload_n 1, 1) := by decide +kernel
theorem dL_breakWord_4 : decode cL_breakWord 4 = .ok (.invokevirtual 27, 3) := by decide +kernel
theorem dL_breakWord_7 : decode cL_breakWord 7 = .ok (.i2l, 1) := by decide +kernel
theorem dL_breakWord_8 : decode cL_breakWord 8 = .ok (.lastore, 1) := by decide +kernel
theorem dL_breakWord_9 : decode cL_breakWord 9 = .ok (.goto 9, 3) := by decide +kernel
theorem dL_breakWord_12 : decode cL_breakWord 12 = .ok (.astore_n 3, 1) := by decide +kernel
theorem dL_breakWord_13 : decode cL_breakWord 13 = .ok (.iconst 1, 1) := by decide +kernel
theorem dL_breakWord_14 : decode cL_breakWord 14 = .ok (.ireturn, 1) := by decide +kernel
theorem dL_breakWord_15 : decode cL_breakWord 15 = .ok (.astore_n 3, 1) := by decide +kernel
theorem dL_breakWord_16 : decode cL_breakWord 16 = .ok (.iconst 2, 1) := by decide +kernel
theorem dL_breakWord_17 : decode cL_breakWord 17 = .ok (.ireturn, 1) := by decide +kernel
theorem dL_breakWord_18 : decode cL_breakWord 18 = .ok (.iconst 0, 1) := by decide +kernel
theorem dL_breakWord_19 : decode cL_breakWord 19 = .ok (.ireturn, 1) := by decide +kernel
theorem dL_raid_0 : decode cL_raid 0 = .ok (.aload_n 2, 1) := by decide +kernel
theorem dL_raid_1 : decode cL_raid 1 = .ok (.iconst 0, 1) := by decide +kernel
theorem dL_raid_2 : decode cL_raid 2 = .ok (.aload_n 0, 1) := by decide +kernel
theorem dL_raid_3 : decode cL_raid 3 = .ok (.iload_n 1, 1) := by decide +kernel
theorem dL_raid_4 : decode cL_raid 4 = .ok (.invokevirtual 31, 3) := by decide +kernel
theorem dL_raid_7 : decode cL_raid 7 = .ok (.i2l, 1) := by decide +kernel
theorem dL_raid_8 : decode cL_raid 8 = .ok (.lastore, 1) := by decide +kernel
theorem dL_raid_9 : decode cL_raid 9 = .ok (.goto 9, 3) := by decide +kernel
theorem dL_raid_12 : decode cL_raid 12 = .ok (.astore_n 3, 1) := by decide +kernel
theorem dL_raid_13 : decode cL_raid 13 = .ok (.iconst 1, 1) := by decide +kernel
theorem dL_raid_14 : decode cL_raid 14 = .ok (.ireturn, 1) := by decide +kernel
theorem dL_raid_15 : decode cL_raid 15 = .ok (.astore_n 3, 1) := by decide +kernel
theorem dL_raid_16 : decode cL_raid 16 = .ok (.iconst 2, 1) := by decide +kernel
theorem dL_raid_17 : decode cL_raid 17 = .ok (.ireturn, 1) := by decide +kernel
theorem dL_raid_18 : decode cL_raid 18 = .ok (.iconst 0, 1) := by decide +kernel
theorem dL_raid_19 : decode cL_raid 19 = .ok (.ireturn, 1) := by decide +kernel
theorem dL_order_0 : decode cL_order 0 = .ok (.aload 6, 2) := by decide +kernel
theorem dL_order_2 : decode cL_order 2 = .ok (.iconst 0, 1) := by decide +kernel
theorem dL_order_3 : decode cL_order 3 = .ok (.aload_n 0, 1) := by decide +kernel
theorem dL_order_4 : decode cL_order 4 = .ok (.iload_n 1, 1) := by decide +kernel
theorem dL_order_5 : decode cL_order 5 = .ok (.iload_n 2, 1) := by decide +kernel
theorem dL_order_6 : decode cL_order 6 = .ok (.iload_n 3, 1) := by decide +kernel
theorem dL_order_7 : decode cL_order 7 = .ok (.iload 4, 2) := by decide +kernel
theorem dL_order_9 : decode cL_order 9 = .ok (.iload 5, 2) := by decide +kernel
theorem dL_order_11 : decode cL_order 11 = .ok (.invokevirtual 34, 3) := by decide +kernel
theorem dL_order_14 : decode cL_order 14 = .ok (.i2l, 1) := by decide +kernel
theorem dL_order_15 : decode cL_order 15 = .ok (.lastore, 1) := by decide +kernel
theorem dL_order_16 : decode cL_order 16 = .ok (.goto 15, 3) := by decide +kernel
theorem dL_order_19 : decode cL_order 19 = .ok (.astore 7, 2) := by decide +kernel
theorem dL_order_21 : decode cL_order 21 = .ok (.iconst 1, 1) := by decide +kernel
theorem dL_order_22 : decode cL_order 22 = .ok (.ireturn, 1) := by decide +kernel
theorem dL_order_23 : decode cL_order 23 = .ok (.astore 7, 2) := by decide +kernel
theorem dL_order_25 : decode cL_order 25 = .ok (.iconst 2, 1) := by decide +kernel
theorem dL_order_26 : decode cL_order 26 = .ok (.ireturn, 1) := by decide +kernel
theorem dL_order_27 : decode cL_order 27 = .ok (.astore 7, 2) := by decide +kernel
theorem dL_order_29 : decode cL_order 29 = .ok (.iconst 3, 1) := by decide +kernel
theorem dL_order_30 : decode cL_order 30 = .ok (.ireturn, 1) := by decide +kernel
theorem dL_order_31 : decode cL_order 31 = .ok (.iconst 0, 1) := by decide +kernel
theorem dL_order_32 : decode cL_order 32 = .ok (.ireturn, 1) := by decide +kernel
theorem dL_fetch_0 : decode cL_fetch 0 = .ok (.aload_n 3, 1) := by decide +kernel
theorem dL_fetch_1 : decode cL_fetch 1 = .ok (.iconst 0, 1) := by decide +kernel
theorem dL_fetch_2 : decode cL_fetch 2 = .ok (.aload_n 0, 1) := by decide +kernel
theorem dL_fetch_3 : decode cL_fetch 3 = .ok (.iload_n 1, 1) := by decide +kernel
theorem dL_fetch_4 : decode cL_fetch 4 = .ok (.iload_n 2, 1) := by decide +kernel
theorem dL_fetch_5 : decode cL_fetch 5 = .ok (.invokevirtual 38, 3) := by decide +kernel
theorem dL_fetch_8 : decode cL_fetch 8 = .ok (.i2l, 1) := by decide +kernel
theorem dL_fetch_9 : decode cL_fetch 9 = .ok (.lastore, 1) := by decide +kernel
theorem dL_fetch_10 : decode cL_fetch 10 = .ok (.goto 15, 3) := by decide +kernel
theorem dL_fetch_13 : decode cL_fetch 13 = .ok (.astore 4, 2) := by decide +kernel
theorem dL_fetch_15 : decode cL_fetch 15 = .ok (.iconst 1, 1) := by decide +kernel
theorem dL_fetch_16 : decode cL_fetch 16 = .ok (.ireturn, 1) := by decide +kernel
theorem dL_fetch_17 : decode cL_fetch 17 = .ok (.astore 4, 2) := by decide +kernel
theorem dL_fetch_19 : decode cL_fetch 19 = .ok (.iconst 2, 1) := by decide +kernel
theorem dL_fetch_20 : decode cL_fetch 20 = .ok (.ireturn, 1) := by decide +kernel
theorem dL_fetch_21 : decode cL_fetch 21 = .ok (.astore 4, 2) := by decide +kernel
theorem dL_fetch_23 : decode cL_fetch 23 = .ok (.iconst 3, 1) := by decide +kernel
theorem dL_fetch_24 : decode cL_fetch 24 = .ok (.ireturn, 1) := by decide +kernel
theorem dL_fetch_25 : decode cL_fetch 25 = .ok (.iconst 0, 1) := by decide +kernel
theorem dL_fetch_26 : decode cL_fetch 26 = .ok (.ireturn, 1) := by decide +kernel
theorem dL_pass_0 : decode cL_pass 0 = .ok (.aload_n 2, 1) := by decide +kernel
theorem dL_pass_1 : decode cL_pass 1 = .ok (.iconst 0, 1) := by decide +kernel
theorem dL_pass_2 : decode cL_pass 2 = .ok (.aload_n 0, 1) := by decide +kernel
theorem dL_pass_3 : decode cL_pass 3 = .ok (.iload_n 1, 1) := by decide +kernel
theorem dL_pass_4 : decode cL_pass 4 = .ok (.invokevirtual 41, 3) := by decide +kernel
theorem dL_pass_7 : decode cL_pass 7 = .ok (.i2l, 1) := by decide +kernel
theorem dL_pass_8 : decode cL_pass 8 = .ok (.lastore, 1) := by decide +kernel
theorem dL_pass_9 : decode cL_pass 9 = .ok (.goto 6, 3) := by decide +kernel
theorem dL_pass_12 : decode cL_pass 12 = .ok (.astore_n 3, 1) := by decide +kernel
theorem dL_pass_13 : decode cL_pass 13 = .ok (.iconst 1, 1) := by decide +kernel
theorem dL_pass_14 : decode cL_pass 14 = .ok (.ireturn, 1) := by decide +kernel
theorem dL_pass_15 : decode cL_pass 15 = .ok (.iconst 0, 1) := by decide +kernel
theorem dL_pass_16 : decode cL_pass 16 = .ok (.ireturn, 1) := by decide +kernel
theorem dL_pay_0 : decode cL_pay 0 = .ok (.aload 4, 2) := by decide +kernel
theorem dL_pay_2 : decode cL_pay 2 = .ok (.iconst 0, 1) := by decide +kernel
theorem dL_pay_3 : decode cL_pay 3 = .ok (.aload_n 0, 1) := by decide +kernel
theorem dL_pay_4 : decode cL_pay 4 = .ok (.iload_n 1, 1) := by decide +kernel
theorem dL_pay_5 : decode cL_pay 5 = .ok (.iload_n 2, 1) := by decide +kernel
theorem dL_pay_6 : decode cL_pay 6 = .ok (.iload_n 3, 1) := by decide +kernel
theorem dL_pay_7 : decode cL_pay 7 = .ok (.invokevirtual 44, 3) := by decide +kernel
theorem dL_pay_10 : decode cL_pay 10 = .ok (.i2l, 1) := by decide +kernel
theorem dL_pay_11 : decode cL_pay 11 = .ok (.lastore, 1) := by decide +kernel
theorem dL_pay_12 : decode cL_pay 12 = .ok (.goto 15, 3) := by decide +kernel
theorem dL_pay_15 : decode cL_pay 15 = .ok (.astore 5, 2) := by decide +kernel
theorem dL_pay_17 : decode cL_pay 17 = .ok (.iconst 1, 1) := by decide +kernel
theorem dL_pay_18 : decode cL_pay 18 = .ok (.ireturn, 1) := by decide +kernel
theorem dL_pay_19 : decode cL_pay 19 = .ok (.astore 5, 2) := by decide +kernel
theorem dL_pay_21 : decode cL_pay 21 = .ok (.iconst 2, 1) := by decide +kernel
theorem dL_pay_22 : decode cL_pay 22 = .ok (.ireturn, 1) := by decide +kernel
theorem dL_pay_23 : decode cL_pay 23 = .ok (.astore 5, 2) := by decide +kernel
theorem dL_pay_25 : decode cL_pay 25 = .ok (.iconst 3, 1) := by decide +kernel
theorem dL_pay_26 : decode cL_pay 26 = .ok (.ireturn, 1) := by decide +kernel
theorem dL_pay_27 : decode cL_pay 27 = .ok (.iconst 0, 1) := by decide +kernel
theorem dL_pay_28 : decode cL_pay 28 = .ok (.ireturn, 1) := by decide +kernel
theorem dL_deliver_0 : decode cL_deliver 0 = .ok (.aload 4, 2) := by decide +kernel
theorem dL_deliver_2 : decode cL_deliver 2 = .ok (.iconst 0, 1) := by decide +kernel
theorem dL_deliver_3 : decode cL_deliver 3 = .ok (.aload_n 0, 1) := by decide +kernel
theorem dL_deliver_4 : decode cL_deliver 4 = .ok (.iload_n 1, 1) := by decide +kernel
theorem dL_deliver_5 : decode cL_deliver 5 = .ok (.iload_n 2, 1) := by decide +kernel
theorem dL_deliver_6 : decode cL_deliver 6 = .ok (.iload_n 3, 1) := by decide +kernel
theorem dL_deliver_7 : decode cL_deliver 7 = .ok (.invokevirtual 47, 3) := by decide +kernel
theorem dL_deliver_10 : decode cL_deliver 10 = .ok (.i2l, 1) := by decide +kernel
theorem dL_deliver_11 : decode cL_deliver 11 = .ok (.lastore, 1) := by decide +kernel
theorem dL_deliver_12 : decode cL_deliver 12 = .ok (.goto 15, 3) := by decide +kernel
theorem dL_deliver_15 : decode cL_deliver 15 = .ok (.astore 5, 2) := by decide +kernel
theorem dL_deliver_17 : decode cL_deliver 17 = .ok (.iconst 1, 1) := by decide +kernel
theorem dL_deliver_18 : decode cL_deliver 18 = .ok (.ireturn, 1) := by decide +kernel
theorem dL_deliver_19 : decode cL_deliver 19 = .ok (.astore 5, 2) := by decide +kernel
theorem dL_deliver_21 : decode cL_deliver 21 = .ok (.iconst 2, 1) := by decide +kernel
theorem dL_deliver_22 : decode cL_deliver 22 = .ok (.ireturn, 1) := by decide +kernel
theorem dL_deliver_23 : decode cL_deliver 23 = .ok (.astore 5, 2) := by decide +kernel
theorem dL_deliver_25 : decode cL_deliver 25 = .ok (.iconst 3, 1) := by decide +kernel
theorem dL_deliver_26 : decode cL_deliver 26 = .ok (.ireturn, 1) := by decide +kernel
theorem dL_deliver_27 : decode cL_deliver 27 = .ok (.iconst 0, 1) := by decide +kernel
theorem dL_deliver_28 : decode cL_deliver 28 = .ok (.ireturn, 1) := by decide +kernel
theorem dL_courier_0 : decode cL_courier 0 = .ok (.aload 5, 2) := by decide +kernel
theorem dL_courier_2 : decode cL_courier 2 = .ok (.iconst 0, 1) := by decide +kernel
theorem dL_courier_3 : decode cL_courier 3 = .ok (.aload_n 0, 1) := by decide +kernel
theorem dL_courier_4 : decode cL_courier 4 = .ok (.iload_n 1, 1) := by decide +kernel
theorem dL_courier_5 : decode cL_courier 5 = .ok (.iload_n 2, 1) := by decide +kernel
theorem dL_courier_6 : decode cL_courier 6 = .ok (.iload_n 3, 1) := by decide +kernel
theorem dL_courier_7 : decode cL_courier 7 = .ok (.iload 4, 2) := by decide +kernel
theorem dL_courier_9 : decode cL_courier 9 = .ok (.invokevirtual 50, 3) := by decide +kernel
theorem dL_courier_12 : decode cL_courier 12 = .ok (.i2l, 1) := by decide +kernel
theorem dL_courier_13 : decode cL_courier 13 = .ok (.lastore, 1) := by decide +kernel
theorem dL_courier_14 : decode cL_courier 14 = .ok (.goto 15, 3) := by decide +kernel
theorem dL_courier_17 : decode cL_courier 17 = .ok (.astore 6, 2) := by decide +kernel
theorem dL_courier_19 : decode cL_courier 19 = .ok (.iconst 1, 1) := by decide +kernel
theorem dL_courier_20 : decode cL_courier 20 = .ok (.ireturn, 1) := by decide +kernel
theorem dL_courier_21 : decode cL_courier 21 = .ok (.astore 6, 2) := by decide +kernel
theorem dL_courier_23 : decode cL_courier 23 = .ok (.iconst 2, 1) := by decide +kernel
theorem dL_courier_24 : decode cL_courier 24 = .ok (.ireturn, 1) := by decide +kernel
theorem dL_courier_25 : decode cL_courier 25 = .ok (.astore 6, 2) := by decide +kernel
theorem dL_courier_27 : decode cL_courier 27 = .ok (.iconst 3, 1) := by decide +kernel
theorem dL_courier_28 : decode cL_courier 28 = .ok (.ireturn, 1) := by decide +kernel
theorem dL_courier_29 : decode cL_courier 29 = .ok (.iconst 0, 1) := by decide +kernel
theorem dL_courier_30 : decode cL_courier 30 = .ok (.ireturn, 1) := by decide +kernel
theorem dL_rob_0 : decode cL_rob 0 = .ok (.aload_n 2, 1) := by decide +kernel
theorem dL_rob_1 : decode cL_rob 1 = .ok (.iconst 0, 1) := by decide +kernel
theorem dL_rob_2 : decode cL_rob 2 = .ok (.aload_n 0, 1) := by decide +kernel
theorem dL_rob_3 : decode cL_rob 3 = .ok (.iload_n 1, 1) := by decide +kernel
theorem dL_rob_4 : decode cL_rob 4 = .ok (.invokevirtual 54, 3) := by decide +kernel
theorem dL_rob_7 : decode cL_rob 7 = .ok (.i2l, 1) := by decide +kernel
theorem dL_rob_8 : decode cL_rob 8 = .ok (.lastore, 1) := by decide +kernel
theorem dL_rob_9 : decode cL_rob 9 = .ok (.goto 9, 3) := by decide +kernel
theorem dL_rob_12 : decode cL_rob 12 = .ok (.astore_n 3, 1) := by decide +kernel
theorem dL_rob_13 : decode cL_rob 13 = .ok (.iconst 1, 1) := by decide +kernel
theorem dL_rob_14 : decode cL_rob 14 = .ok (.ireturn, 1) := by decide +kernel
theorem dL_rob_15 : decode cL_rob 15 = .ok (.astore_n 3, 1) := by decide +kernel
theorem dL_rob_16 : decode cL_rob 16 = .ok (.iconst 2, 1) := by decide +kernel
theorem dL_rob_17 : decode cL_rob 17 = .ok (.ireturn, 1) := by decide +kernel
theorem dL_rob_18 : decode cL_rob 18 = .ok (.iconst 0, 1) := by decide +kernel
theorem dL_rob_19 : decode cL_rob 19 = .ok (.ireturn, 1) := by decide +kernel
theorem dL_law_0 : decode cL_law 0 = .ok (.aload_n 3, 1) := by decide +kernel
theorem dL_law_1 : decode cL_law 1 = .ok (.iconst 0, 1) := by decide +kernel
theorem dL_law_2 : decode cL_law 2 = .ok (.aload_n 0, 1) := by decide +kernel
theorem dL_law_3 : decode cL_law 3 = .ok (.iload_n 1, 1) := by decide +kernel
theorem dL_law_4 : decode cL_law 4 = .ok (.iload_n 2, 1) := by decide +kernel
theorem dL_law_5 : decode cL_law 5 = .ok (.invokevirtual 57, 3) := by decide +kernel
theorem dL_law_8 : decode cL_law 8 = .ok (.i2l, 1) := by decide +kernel
theorem dL_law_9 : decode cL_law 9 = .ok (.lastore, 1) := by decide +kernel
theorem dL_law_10 : decode cL_law 10 = .ok (.goto 11, 3) := by decide +kernel
theorem dL_law_13 : decode cL_law 13 = .ok (.astore 4, 2) := by decide +kernel
theorem dL_law_15 : decode cL_law 15 = .ok (.iconst 1, 1) := by decide +kernel
theorem dL_law_16 : decode cL_law 16 = .ok (.ireturn, 1) := by decide +kernel
theorem dL_law_17 : decode cL_law 17 = .ok (.astore 4, 2) := by decide +kernel
theorem dL_law_19 : decode cL_law 19 = .ok (.iconst 2, 1) := by decide +kernel
theorem dL_law_20 : decode cL_law 20 = .ok (.ireturn, 1) := by decide +kernel
theorem dL_law_21 : decode cL_law 21 = .ok (.iconst 0, 1) := by decide +kernel
theorem dL_law_22 : decode cL_law 22 = .ok (.ireturn, 1) := by decide +kernel
theorem dL_list_0 : decode cL_list 0 = .ok (.aload_n 2, 1) := by decide +kernel
theorem dL_list_1 : decode cL_list 1 = .ok (.iconst 0, 1) := by decide +kernel
theorem dL_list_2 : decode cL_list 2 = .ok (.aload_n 0, 1) := by decide +kernel
theorem dL_list_3 : decode cL_list 3 = .ok (.iload_n 1, 1) := by decide +kernel
theorem dL_list_4 : decode cL_list 4 = .ok (.invokevirtual 60, 3) := by decide +kernel
theorem dL_list_7 : decode cL_list 7 = .ok (.ifCond .eq 7, 3) := by decide +kernel
theorem dL_list_10 : decode cL_list 10 = .ok (.lconst 1, 1) := by decide +kernel
theorem dL_list_11 : decode cL_list 11 = .ok (.goto 4, 3) := by decide +kernel
theorem dL_list_14 : decode cL_list 14 = .ok (.lconst 0, 1) := by decide +kernel
theorem dL_list_15 : decode cL_list 15 = .ok (.lastore, 1) := by decide +kernel
theorem dL_list_16 : decode cL_list 16 = .ok (.goto 6, 3) := by decide +kernel
theorem dL_list_19 : decode cL_list 19 = .ok (.astore_n 3, 1) := by decide +kernel
theorem dL_list_20 : decode cL_list 20 = .ok (.iconst 1, 1) := by decide +kernel
theorem dL_list_21 : decode cL_list 21 = .ok (.ireturn, 1) := by decide +kernel
theorem dL_list_22 : decode cL_list 22 = .ok (.iconst 0, 1) := by decide +kernel
theorem dL_list_23 : decode cL_list 23 = .ok (.ireturn, 1) := by decide +kernel
theorem dL_brokerOf_0 : decode cL_brokerOf 0 = .ok (.aload_n 3, 1) := by decide +kernel
theorem dL_brokerOf_1 : decode cL_brokerOf 1 = .ok (.iconst 0, 1) := by decide +kernel
theorem dL_brokerOf_2 : decode cL_brokerOf 2 = .ok (.aload_n 0, 1) := by decide +kernel
theorem dL_brokerOf_3 : decode cL_brokerOf 3 = .ok (.iload_n 1, 1) := by decide +kernel
theorem dL_brokerOf_4 : decode cL_brokerOf 4 = .ok (.iload_n 2, 1) := by decide +kernel
theorem dL_brokerOf_5 : decode cL_brokerOf 5 = .ok (.invokevirtual 64, 3) := by decide +kernel
theorem dL_brokerOf_8 : decode cL_brokerOf 8 = .ok (.lastore, 1) := by decide +kernel
theorem dL_brokerOf_9 : decode cL_brokerOf 9 = .ok (.goto 11, 3) := by decide +kernel
theorem dL_brokerOf_12 : decode cL_brokerOf 12 = .ok (.astore 4, 2) := by decide +kernel
theorem dL_brokerOf_14 : decode cL_brokerOf 14 = .ok (.iconst 1, 1) := by decide +kernel
theorem dL_brokerOf_15 : decode cL_brokerOf 15 = .ok (.ireturn, 1) := by decide +kernel
theorem dL_brokerOf_16 : decode cL_brokerOf 16 = .ok (.astore 4, 2) := by decide +kernel
theorem dL_brokerOf_18 : decode cL_brokerOf 18 = .ok (.iconst 2, 1) := by decide +kernel
theorem dL_brokerOf_19 : decode cL_brokerOf 19 = .ok (.ireturn, 1) := by decide +kernel
theorem dL_brokerOf_20 : decode cL_brokerOf 20 = .ok (.iconst 0, 1) := by decide +kernel
theorem dL_brokerOf_21 : decode cL_brokerOf 21 = .ok (.ireturn, 1) := by decide +kernel
theorem dL_debt_0 : decode cL_debt 0 = .ok (.aload 4, 2) := by decide +kernel
theorem dL_debt_2 : decode cL_debt 2 = .ok (.iconst 0, 1) := by decide +kernel
theorem dL_debt_3 : decode cL_debt 3 = .ok (.aload_n 0, 1) := by decide +kernel
theorem dL_debt_4 : decode cL_debt 4 = .ok (.iload_n 1, 1) := by decide +kernel
theorem dL_debt_5 : decode cL_debt 5 = .ok (.iload_n 2, 1) := by decide +kernel
theorem dL_debt_6 : decode cL_debt 6 = .ok (.iload_n 3, 1) := by decide +kernel
theorem dL_debt_7 : decode cL_debt 7 = .ok (.invokevirtual 68, 3) := by decide +kernel
theorem dL_debt_10 : decode cL_debt 10 = .ok (.lastore, 1) := by decide +kernel
theorem dL_debt_11 : decode cL_debt 11 = .ok (.goto 7, 3) := by decide +kernel
theorem dL_debt_14 : decode cL_debt 14 = .ok (.astore 5, 2) := by decide +kernel
theorem dL_debt_16 : decode cL_debt 16 = .ok (.iconst 1, 1) := by decide +kernel
theorem dL_debt_17 : decode cL_debt 17 = .ok (.ireturn, 1) := by decide +kernel
theorem dL_debt_18 : decode cL_debt 18 = .ok (.iconst 0, 1) := by decide +kernel
theorem dL_debt_19 : decode cL_debt 19 = .ok (.ireturn, 1) := by decide +kernel
theorem dL_agree_0 : decode cL_agree 0 = .ok (.aload_n 3, 1) := by decide +kernel
theorem dL_agree_1 : decode cL_agree 1 = .ok (.iconst 0, 1) := by decide +kernel
theorem dL_agree_2 : decode cL_agree 2 = .ok (.aload_n 0, 1) := by decide +kernel
theorem dL_agree_3 : decode cL_agree 3 = .ok (.iload_n 1, 1) := by decide +kernel
theorem dL_agree_4 : decode cL_agree 4 = .ok (.iload_n 2, 1) := by decide +kernel
theorem dL_agree_5 : decode cL_agree 5 = .ok (.invokevirtual 72, 3) := by decide +kernel
theorem dL_agree_8 : decode cL_agree 8 = .ok (.ifCond .eq 7, 3) := by decide +kernel
theorem dL_agree_11 : decode cL_agree 11 = .ok (.lconst 1, 1) := by decide +kernel
theorem dL_agree_12 : decode cL_agree 12 = .ok (.goto 4, 3) := by decide +kernel
theorem dL_agree_15 : decode cL_agree 15 = .ok (.lconst 0, 1) := by decide +kernel
theorem dL_agree_16 : decode cL_agree 16 = .ok (.lastore, 1) := by decide +kernel
theorem dL_agree_17 : decode cL_agree 17 = .ok (.goto 7, 3) := by decide +kernel
theorem dL_agree_20 : decode cL_agree 20 = .ok (.astore 4, 2) := by decide +kernel
theorem dL_agree_22 : decode cL_agree 22 = .ok (.iconst 1, 1) := by decide +kernel
theorem dL_agree_23 : decode cL_agree 23 = .ok (.ireturn, 1) := by decide +kernel
theorem dL_agree_24 : decode cL_agree 24 = .ok (.iconst 0, 1) := by decide +kernel
theorem dL_agree_25 : decode cL_agree 25 = .ok (.ireturn, 1) := by decide +kernel
theorem dL_way_0 : decode cL_way 0 = .ok (.aload 5, 2) := by decide +kernel
theorem dL_way_2 : decode cL_way 2 = .ok (.iconst 0, 1) := by decide +kernel
theorem dL_way_3 : decode cL_way 3 = .ok (.aload_n 0, 1) := by decide +kernel
theorem dL_way_4 : decode cL_way 4 = .ok (.iload_n 1, 1) := by decide +kernel
theorem dL_way_5 : decode cL_way 5 = .ok (.iload_n 2, 1) := by decide +kernel
theorem dL_way_6 : decode cL_way 6 = .ok (.iload_n 3, 1) := by decide +kernel
theorem dL_way_7 : decode cL_way 7 = .ok (.iload 4, 2) := by decide +kernel
theorem dL_way_9 : decode cL_way 9 = .ok (.invokevirtual 76, 3) := by decide +kernel
theorem dL_way_12 : decode cL_way 12 = .ok (.i2l, 1) := by decide +kernel
theorem dL_way_13 : decode cL_way 13 = .ok (.lastore, 1) := by decide +kernel
theorem dL_way_14 : decode cL_way 14 = .ok (.goto 11, 3) := by decide +kernel
theorem dL_way_17 : decode cL_way 17 = .ok (.astore 6, 2) := by decide +kernel
theorem dL_way_19 : decode cL_way 19 = .ok (.iconst 1, 1) := by decide +kernel
theorem dL_way_20 : decode cL_way 20 = .ok (.ireturn, 1) := by decide +kernel
theorem dL_way_21 : decode cL_way 21 = .ok (.astore 6, 2) := by decide +kernel
theorem dL_way_23 : decode cL_way 23 = .ok (.iconst 2, 1) := by decide +kernel
theorem dL_way_24 : decode cL_way 24 = .ok (.ireturn, 1) := by decide +kernel
theorem dL_way_25 : decode cL_way 25 = .ok (.iconst 0, 1) := by decide +kernel
theorem dL_way_26 : decode cL_way 26 = .ok (.ireturn, 1) := by decide +kernel
theorem dL_wayOf_0 : decode cL_wayOf 0 = .ok (.aload_n 3, 1) := by decide +kernel
theorem dL_wayOf_1 : decode cL_wayOf 1 = .ok (.iconst 0, 1) := by decide +kernel
theorem dL_wayOf_2 : decode cL_wayOf 2 = .ok (.aload_n 0, 1) := by decide +kernel
theorem dL_wayOf_3 : decode cL_wayOf 3 = .ok (.iload_n 1, 1) := by decide +kernel
theorem dL_wayOf_4 : decode cL_wayOf 4 = .ok (.iload_n 2, 1) := by decide +kernel
theorem dL_wayOf_5 : decode cL_wayOf 5 = .ok (.invokevirtual 79, 3) := by decide +kernel
theorem dL_wayOf_8 : decode cL_wayOf 8 = .ok (.i2l, 1) := by decide +kernel
theorem dL_wayOf_9 : decode cL_wayOf 9 = .ok (.lastore, 1) := by decide +kernel
theorem dL_wayOf_10 : decode cL_wayOf 10 = .ok (.goto 7, 3) := by decide +kernel
theorem dL_wayOf_13 : decode cL_wayOf 13 = .ok (.astore 4, 2) := by decide +kernel
theorem dL_wayOf_15 : decode cL_wayOf 15 = .ok (.iconst 1, 1) := by decide +kernel
theorem dL_wayOf_16 : decode cL_wayOf 16 = .ok (.ireturn, 1) := by decide +kernel
theorem dL_wayOf_17 : decode cL_wayOf 17 = .ok (.iconst 0, 1) := by decide +kernel
theorem dL_wayOf_18 : decode cL_wayOf 18 = .ok (.ireturn, 1) := by decide +kernel
theorem dL_orderOf_0 : decode cL_orderOf 0 = .ok (.aload_n 3, 1) := by decide +kernel
theorem dL_orderOf_1 : decode cL_orderOf 1 = .ok (.iconst 0, 1) := by decide +kernel
theorem dL_orderOf_2 : decode cL_orderOf 2 = .ok (.aload_n 0, 1) := by decide +kernel
theorem dL_orderOf_3 : decode cL_orderOf 3 = .ok (.iload_n 1, 1) := by decide +kernel
theorem dL_orderOf_4 : decode cL_orderOf 4 = .ok (.iload_n 2, 1) := by decide +kernel
theorem dL_orderOf_5 : decode cL_orderOf 5 = .ok (.invokevirtual 82, 3) := by decide +kernel
theorem dL_orderOf_8 : decode cL_orderOf 8 = .ok (.i2l, 1) := by decide +kernel
theorem dL_orderOf_9 : decode cL_orderOf 9 = .ok (.lastore, 1) := by decide +kernel
theorem dL_orderOf_10 : decode cL_orderOf 10 = .ok (.goto 11, 3) := by decide +kernel
theorem dL_orderOf_13 : decode cL_orderOf 13 = .ok (.astore 4, 2) := by decide +kernel
theorem dL_orderOf_15 : decode cL_orderOf 15 = .ok (.iconst 1, 1) := by decide +kernel
theorem dL_orderOf_16 : decode cL_orderOf 16 = .ok (.ireturn, 1) := by decide +kernel
theorem dL_orderOf_17 : decode cL_orderOf 17 = .ok (.astore 4, 2) := by decide +kernel
theorem dL_orderOf_19 : decode cL_orderOf 19 = .ok (.iconst 2, 1) := by decide +kernel
theorem dL_orderOf_20 : decode cL_orderOf 20 = .ok (.ireturn, 1) := by decide +kernel
theorem dL_orderOf_21 : decode cL_orderOf 21 = .ok (.iconst 0, 1) := by decide +kernel
theorem dL_orderOf_22 : decode cL_orderOf 22 = .ok (.ireturn, 1) := by decide +kernel
theorem dL_sum_0 : decode cL_sum 0 = .ok (.aload_n 2, 1) := by decide +kernel
theorem dL_sum_1 : decode cL_sum 1 = .ok (.iconst 0, 1) := by decide +kernel
theorem dL_sum_2 : decode cL_sum 2 = .ok (.aload_n 0, 1) := by decide +kernel
theorem dL_sum_3 : decode cL_sum 3 = .ok (.iload_n 1, 1) := by decide +kernel
theorem dL_sum_4 : decode cL_sum 4 = .ok (.invokevirtual 85, 3) := by decide +kernel
theorem dL_sum_7 : decode cL_sum 7 = .ok (.lastore, 1) := by decide +kernel
theorem dL_sum_8 : decode cL_sum 8 = .ok (.goto 6, 3) := by decide +kernel
theorem dL_sum_11 : decode cL_sum 11 = .ok (.astore_n 3, 1) := by decide +kernel
theorem dL_sum_12 : decode cL_sum 12 = .ok (.iconst 1, 1) := by decide +kernel
theorem dL_sum_13 : decode cL_sum 13 = .ok (.ireturn, 1) := by decide +kernel
theorem dL_sum_14 : decode cL_sum 14 = .ok (.iconst 0, 1) := by decide +kernel
theorem dL_sum_15 : decode cL_sum 15 = .ok (.ireturn, 1) := by decide +kernel
theorem dL_law__0 : decode cL_law_ 0 = .ok (.new 8, 3) := by decide +kernel
theorem dL_law__3 : decode cL_law_ 3 = .ok (.dup, 1) := by decide +kernel
theorem dL_law__4 : decode cL_law_ 4 = .ok (.invokespecial 89, 3) := by decide +kernel
theorem dL_law__7 : decode cL_law_ 7 = .ok (.astore_n 1, 1) := by decide +kernel
theorem dL_law__8 : decode cL_law_ 8 = .ok (.new 90, 3) := by decide +kernel
theorem dL_law__11 : decode cL_law_ 11 = .ok (.dup, 1) := by decide +kernel
theorem dL_law__12 : decode cL_law_ 12 = .ok (.invokespecial 92, 3) := by decide +kernel
theorem dL_law__15 : decode cL_law_ 15 = .ok (.astore_n 2, 1) := by decide +kernel
theorem dL_law__16 : decode cL_law_ 16 = .ok (.iconst 1, 1) := by decide +kernel
theorem dL_law__17 : decode cL_law_ 17 = .ok (.newarray .long, 2) := by decide +kernel
theorem dL_law__19 : decode cL_law_ 19 = .ok (.astore_n 3, 1) := by decide +kernel
theorem dL_law__20 : decode cL_law_ 20 = .ok (.iconst 0, 1) := by decide +kernel
theorem dL_law__21 : decode cL_law_ 21 = .ok (.istore 4, 2) := by decide +kernel
theorem dL_law__23 : decode cL_law_ 23 = .ok (.iload 4, 2) := by decide +kernel
theorem dL_law__25 : decode cL_law_ 25 = .ok (.aload_n 0, 1) := by decide +kernel
theorem dL_law__26 : decode cL_law_ 26 = .ok (.arraylength, 1) := by decide +kernel
theorem dL_law__27 : decode cL_law_ 27 = .ok (.bipush 6, 2) := by decide +kernel
theorem dL_law__29 : decode cL_law_ 29 = .ok (.isub, 1) := by decide +kernel
theorem dL_law__30 : decode cL_law_ 30 = .ok (.if_icmp .gt 1703, 3) := by decide +kernel
theorem dL_law__33 : decode cL_law_ 33 = .ok (.aload_n 0, 1) := by decide +kernel
theorem dL_law__34 : decode cL_law_ 34 = .ok (.iload 4, 2) := by decide +kernel
theorem dL_law__36 : decode cL_law_ 36 = .ok (.iaload, 1) := by decide +kernel
theorem dL_law__37 : decode cL_law_ 37 = .ok (.bipush 31, 2) := by decide +kernel
theorem dL_law__39 : decode cL_law_ 39 = .ok (.iand, 1) := by decide +kernel
theorem dL_law__40 : decode cL_law_ 40 = .ok (.tableswitch 1687 0 23 #[112, 192, 260, 348, 361, 417, 473, 577, 645, 701, 781, 861, 953, 1009, 1023, 1091, 1154, 1221, 1316, 1391, 1483, 1551, 1619, 1632], 112) := by decide +kernel
theorem dL_law__152 : decode cL_law_ 152 = .ok (.aload_n 1, 1) := by decide +kernel
theorem dL_law__153 : decode cL_law_ 153 = .ok (.aload_n 0, 1) := by decide +kernel
theorem dL_law__154 : decode cL_law_ 154 = .ok (.iload 4, 2) := by decide +kernel
theorem dL_law__156 : decode cL_law_ 156 = .ok (.iconst 1, 1) := by decide +kernel
theorem dL_law__157 : decode cL_law_ 157 = .ok (.iadd, 1) := by decide +kernel
theorem dL_law__158 : decode cL_law_ 158 = .ok (.iaload, 1) := by decide +kernel
theorem dL_law__159 : decode cL_law_ 159 = .ok (.aload_n 0, 1) := by decide +kernel
theorem dL_law__160 : decode cL_law_ 160 = .ok (.iload 4, 2) := by decide +kernel
theorem dL_law__162 : decode cL_law_ 162 = .ok (.iconst 2, 1) := by decide +kernel
theorem dL_law__163 : decode cL_law_ 163 = .ok (.iadd, 1) := by decide +kernel
theorem dL_law__164 : decode cL_law_ 164 = .ok (.iaload, 1) := by decide +kernel
theorem dL_law__165 : decode cL_law_ 165 = .ok (.aload_n 0, 1) := by decide +kernel
theorem dL_law__166 : decode cL_law_ 166 = .ok (.iload 4, 2) := by decide +kernel
theorem dL_law__168 : decode cL_law_ 168 = .ok (.iconst 3, 1) := by decide +kernel
theorem dL_law__169 : decode cL_law_ 169 = .ok (.iadd, 1) := by decide +kernel
theorem dL_law__170 : decode cL_law_ 170 = .ok (.iaload, 1) := by decide +kernel
theorem dL_law__171 : decode cL_law_ 171 = .ok (.aload_n 3, 1) := by decide +kernel
theorem dL_law__172 : decode cL_law_ 172 = .ok (.invokestatic 93, 3) := by decide +kernel
theorem dL_law__175 : decode cL_law_ 175 = .ok (.istore 5, 2) := by decide +kernel
theorem dL_law__177 : decode cL_law_ 177 = .ok (.aload_n 2, 1) := by decide +kernel
theorem dL_law__178 : decode cL_law_ 178 = .ok (.aload_n 0, 1) := by decide +kernel
theorem dL_law__179 : decode cL_law_ 179 = .ok (.iload 4, 2) := by decide +kernel
theorem dL_law__181 : decode cL_law_ 181 = .ok (.iconst 1, 1) := by decide +kernel
theorem dL_law__182 : decode cL_law_ 182 = .ok (.iadd, 1) := by decide +kernel
theorem dL_law__183 : decode cL_law_ 183 = .ok (.iaload, 1) := by decide +kernel
theorem dL_law__184 : decode cL_law_ 184 = .ok (.aload_n 0, 1) := by decide +kernel
theorem dL_law__185 : decode cL_law_ 185 = .ok (.iload 4, 2) := by decide +kernel
theorem dL_law__187 : decode cL_law_ 187 = .ok (.iconst 2, 1) := by decide +kernel
theorem dL_law__188 : decode cL_law_ 188 = .ok (.iadd, 1) := by decide +kernel
theorem dL_law__189 : decode cL_law_ 189 = .ok (.iaload, 1) := by decide +kernel
theorem dL_law__190 : decode cL_law_ 190 = .ok (.aload_n 0, 1) := by decide +kernel
theorem dL_law__191 : decode cL_law_ 191 = .ok (.iload 4, 2) := by decide +kernel
theorem dL_law__193 : decode cL_law_ 193 = .ok (.iconst 3, 1) := by decide +kernel
theorem dL_law__194 : decode cL_law_ 194 = .ok (.iadd, 1) := by decide +kernel
theorem dL_law__195 : decode cL_law_ 195 = .ok (.iaload, 1) := by decide +kernel
theorem dL_law__196 : decode cL_law_ 196 = .ok (.invokevirtual 98, 3) := by decide +kernel
theorem dL_law__199 : decode cL_law_ 199 = .ok (.istore 6, 2) := by decide +kernel
theorem dL_law__201 : decode cL_law_ 201 = .ok (.aload_n 2, 1) := by decide +kernel
theorem dL_law__202 : decode cL_law_ 202 = .ok (.invokevirtual 99, 3) := by decide +kernel
theorem dL_law__205 : decode cL_law_ 205 = .ok (.iload 5, 2) := by decide +kernel
theorem dL_law__207 : decode cL_law_ 207 = .ok (.if_icmp .eq 5, 3) := by decide +kernel
theorem dL_law__210 : decode cL_law_ 210 = .ok (.iconst 0, 1) := by decide +kernel
theorem dL_law__211 : decode cL_law_ 211 = .ok (.ireturn, 1) := by decide +kernel
theorem dL_law__212 : decode cL_law_ 212 = .ok (.iload 5, 2) := by decide +kernel
theorem dL_law__214 : decode cL_law_ 214 = .ok (.ifCond .ne 15, 3) := by decide +kernel
theorem dL_law__217 : decode cL_law_ 217 = .ok (.aload_n 3, 1) := by decide +kernel
theorem dL_law__218 : decode cL_law_ 218 = .ok (.iconst 0, 1) := by decide +kernel
theorem dL_law__219 : decode cL_law_ 219 = .ok (.laload, 1) := by decide +kernel
theorem dL_law__220 : decode cL_law_ 220 = .ok (.iload 6, 2) := by decide +kernel
theorem dL_law__222 : decode cL_law_ 222 = .ok (.i2l, 1) := by decide +kernel
theorem dL_law__223 : decode cL_law_ 223 = .ok (.lcmp, 1) := by decide +kernel
theorem dL_law__224 : decode cL_law_ 224 = .ok (.ifCond .eq 5, 3) := by decide +kernel
theorem dL_law__227 : decode cL_law_ 227 = .ok (.iconst 0, 1) := by decide +kernel
theorem dL_law__228 : decode cL_law_ 228 = .ok (.ireturn, 1) := by decide +kernel
theorem dL_law__229 : decode cL_law_ 229 = .ok (.goto 1498, 3) := by decide +kernel
theorem dL_law__232 : decode cL_law_ 232 = .ok (.aload_n 1, 1) := by decide +kernel
theorem dL_law__233 : decode cL_law_ 233 = .ok (.aload_n 0, 1) := by decide +kernel
theorem dL_law__234 : decode cL_law_ 234 = .ok (.iload 4, 2) := by decide +kernel
theorem dL_law__236 : decode cL_law_ 236 = .ok (.iconst 1, 1) := by decide +kernel
theorem dL_law__237 : decode cL_law_ 237 = .ok (.iadd, 1) := by decide +kernel
theorem dL_law__238 : decode cL_law_ 238 = .ok (.iaload, 1) := by decide +kernel
theorem dL_law__239 : decode cL_law_ 239 = .ok (.aload_n 0, 1) := by decide +kernel
theorem dL_law__240 : decode cL_law_ 240 = .ok (.iload 4, 2) := by decide +kernel
theorem dL_law__242 : decode cL_law_ 242 = .ok (.iconst 2, 1) := by decide +kernel
theorem dL_law__243 : decode cL_law_ 243 = .ok (.iadd, 1) := by decide +kernel
theorem dL_law__244 : decode cL_law_ 244 = .ok (.iaload, 1) := by decide +kernel
theorem dL_law__245 : decode cL_law_ 245 = .ok (.aload_n 3, 1) := by decide +kernel
theorem dL_law__246 : decode cL_law_ 246 = .ok (.invokestatic 103, 3) := by decide +kernel
theorem dL_law__249 : decode cL_law_ 249 = .ok (.istore 5, 2) := by decide +kernel
theorem dL_law__251 : decode cL_law_ 251 = .ok (.aload_n 2, 1) := by decide +kernel
theorem dL_law__252 : decode cL_law_ 252 = .ok (.aload_n 0, 1) := by decide +kernel
theorem dL_law__253 : decode cL_law_ 253 = .ok (.iload 4, 2) := by decide +kernel
theorem dL_law__255 : decode cL_law_ 255 = .ok (.iconst 1, 1) := by decide +kernel
theorem dL_law__256 : decode cL_law_ 256 = .ok (.iadd, 1) := by decide +kernel
theorem dL_law__257 : decode cL_law_ 257 = .ok (.iaload, 1) := by decide +kernel
theorem dL_law__258 : decode cL_law_ 258 = .ok (.aload_n 0, 1) := by decide +kernel
theorem dL_law__259 : decode cL_law_ 259 = .ok (.iload 4, 2) := by decide +kernel
theorem dL_law__261 : decode cL_law_ 261 = .ok (.iconst 2, 1) := by decide +kernel
theorem dL_law__262 : decode cL_law_ 262 = .ok (.iadd, 1) := by decide +kernel
theorem dL_law__263 : decode cL_law_ 263 = .ok (.iaload, 1) := by decide +kernel
theorem dL_law__264 : decode cL_law_ 264 = .ok (.invokevirtual 106, 3) := by decide +kernel
theorem dL_law__267 : decode cL_law_ 267 = .ok (.istore 6, 2) := by decide +kernel
theorem dL_law__269 : decode cL_law_ 269 = .ok (.aload_n 2, 1) := by decide +kernel
theorem dL_law__270 : decode cL_law_ 270 = .ok (.invokevirtual 99, 3) := by decide +kernel
theorem dL_law__273 : decode cL_law_ 273 = .ok (.iload 5, 2) := by decide +kernel
theorem dL_law__275 : decode cL_law_ 275 = .ok (.if_icmp .eq 5, 3) := by decide +kernel
theorem dL_law__278 : decode cL_law_ 278 = .ok (.iconst 0, 1) := by decide +kernel
theorem dL_law__279 : decode cL_law_ 279 = .ok (.ireturn, 1) := by decide +kernel
theorem dL_law__280 : decode cL_law_ 280 = .ok (.iload 5, 2) := by decide +kernel
theorem dL_law__282 : decode cL_law_ 282 = .ok (.ifCond .ne 15, 3) := by decide +kernel
theorem dL_law__285 : decode cL_law_ 285 = .ok (.aload_n 3, 1) := by decide +kernel
theorem dL_law__286 : decode cL_law_ 286 = .ok (.iconst 0, 1) := by decide +kernel
theorem dL_law__287 : decode cL_law_ 287 = .ok (.laload, 1) := by decide +kernel
theorem dL_law__288 : decode cL_law_ 288 = .ok (.iload 6, 2) := by decide +kernel
theorem dL_law__290 : decode cL_law_ 290 = .ok (.i2l, 1) := by decide +kernel
theorem dL_law__291 : decode cL_law_ 291 = .ok (.lcmp, 1) := by decide +kernel
theorem dL_law__292 : decode cL_law_ 292 = .ok (.ifCond .eq 5, 3) := by decide +kernel
theorem dL_law__295 : decode cL_law_ 295 = .ok (.iconst 0, 1) := by decide +kernel
theorem dL_law__296 : decode cL_law_ 296 = .ok (.ireturn, 1) := by decide +kernel
theorem dL_law__297 : decode cL_law_ 297 = .ok (.goto 1430, 3) := by decide +kernel
theorem dL_law__300 : decode cL_law_ 300 = .ok (.aload_n 1, 1) := by decide +kernel
theorem dL_law__301 : decode cL_law_ 301 = .ok (.aload_n 0, 1) := by decide +kernel
theorem dL_law__302 : decode cL_law_ 302 = .ok (.iload 4, 2) := by decide +kernel
theorem dL_law__304 : decode cL_law_ 304 = .ok (.iconst 1, 1) := by decide +kernel
theorem dL_law__305 : decode cL_law_ 305 = .ok (.iadd, 1) := by decide +kernel
theorem dL_law__306 : decode cL_law_ 306 = .ok (.iaload, 1) := by decide +kernel
theorem dL_law__307 : decode cL_law_ 307 = .ok (.aload_n 0, 1) := by decide +kernel
theorem dL_law__308 : decode cL_law_ 308 = .ok (.iload 4, 2) := by decide +kernel
theorem dL_law__310 : decode cL_law_ 310 = .ok (.iconst 2, 1) := by decide +kernel
theorem dL_law__311 : decode cL_law_ 311 = .ok (.iadd, 1) := by decide +kernel
theorem dL_law__312 : decode cL_law_ 312 = .ok (.iaload, 1) := by decide +kernel
theorem dL_law__313 : decode cL_law_ 313 = .ok (.aload_n 0, 1) := by decide +kernel
theorem dL_law__314 : decode cL_law_ 314 = .ok (.iload 4, 2) := by decide +kernel
theorem dL_law__316 : decode cL_law_ 316 = .ok (.iconst 3, 1) := by decide +kernel
theorem dL_law__317 : decode cL_law_ 317 = .ok (.iadd, 1) := by decide +kernel
theorem dL_law__318 : decode cL_law_ 318 = .ok (.iaload, 1) := by decide +kernel
theorem dL_law__319 : decode cL_law_ 319 = .ok (.aload_n 0, 1) := by decide +kernel
theorem dL_law__320 : decode cL_law_ 320 = .ok (.iload 4, 2) := by decide +kernel
theorem dL_law__322 : decode cL_law_ 322 = .ok (.iconst 4, 1) := by decide +kernel
theorem dL_law__323 : decode cL_law_ 323 = .ok (.iadd, 1) := by decide +kernel
theorem dL_law__324 : decode cL_law_ 324 = .ok (.iaload, 1) := by decide +kernel
theorem dL_law__325 : decode cL_law_ 325 = .ok (.ifCond .eq 7, 3) := by decide +kernel
theorem dL_law__328 : decode cL_law_ 328 = .ok (.iconst 1, 1) := by decide +kernel
theorem dL_law__329 : decode cL_law_ 329 = .ok (.goto 4, 3) := by decide +kernel
theorem dL_law__332 : decode cL_law_ 332 = .ok (.iconst 0, 1) := by decide +kernel
theorem dL_law__333 : decode cL_law_ 333 = .ok (.invokestatic 107, 3) := by decide +kernel
theorem dL_law__336 : decode cL_law_ 336 = .ok (.istore 5, 2) := by decide +kernel
theorem dL_law__338 : decode cL_law_ 338 = .ok (.aload_n 2, 1) := by decide +kernel
theorem dL_law__339 : decode cL_law_ 339 = .ok (.aload_n 0, 1) := by decide +kernel
theorem dL_law__340 : decode cL_law_ 340 = .ok (.iload 4, 2) := by decide +kernel
theorem dL_law__342 : decode cL_law_ 342 = .ok (.iconst 1, 1) := by decide +kernel
theorem dL_law__343 : decode cL_law_ 343 = .ok (.iadd, 1) := by decide +kernel
theorem dL_law__344 : decode cL_law_ 344 = .ok (.iaload, 1) := by decide +kernel
theorem dL_law__345 : decode cL_law_ 345 = .ok (.aload_n 0, 1) := by decide +kernel
theorem dL_law__346 : decode cL_law_ 346 = .ok (.iload 4, 2) := by decide +kernel
theorem dL_law__348 : decode cL_law_ 348 = .ok (.iconst 2, 1) := by decide +kernel
theorem dL_law__349 : decode cL_law_ 349 = .ok (.iadd, 1) := by decide +kernel
theorem dL_law__350 : decode cL_law_ 350 = .ok (.iaload, 1) := by decide +kernel
theorem dL_law__351 : decode cL_law_ 351 = .ok (.aload_n 0, 1) := by decide +kernel
theorem dL_law__352 : decode cL_law_ 352 = .ok (.iload 4, 2) := by decide +kernel
theorem dL_law__354 : decode cL_law_ 354 = .ok (.iconst 3, 1) := by decide +kernel
theorem dL_law__355 : decode cL_law_ 355 = .ok (.iadd, 1) := by decide +kernel
theorem dL_law__356 : decode cL_law_ 356 = .ok (.iaload, 1) := by decide +kernel
theorem dL_law__357 : decode cL_law_ 357 = .ok (.aload_n 0, 1) := by decide +kernel
theorem dL_law__358 : decode cL_law_ 358 = .ok (.iload 4, 2) := by decide +kernel
theorem dL_law__360 : decode cL_law_ 360 = .ok (.iconst 4, 1) := by decide +kernel
theorem dL_law__361 : decode cL_law_ 361 = .ok (.iadd, 1) := by decide +kernel
theorem dL_law__362 : decode cL_law_ 362 = .ok (.iaload, 1) := by decide +kernel
theorem dL_law__363 : decode cL_law_ 363 = .ok (.ifCond .eq 7, 3) := by decide +kernel
theorem dL_law__366 : decode cL_law_ 366 = .ok (.iconst 1, 1) := by decide +kernel
theorem dL_law__367 : decode cL_law_ 367 = .ok (.goto 4, 3) := by decide +kernel
theorem dL_law__370 : decode cL_law_ 370 = .ok (.iconst 0, 1) := by decide +kernel
theorem dL_law__371 : decode cL_law_ 371 = .ok (.invokevirtual 110, 3) := by decide +kernel
theorem dL_law__374 : decode cL_law_ 374 = .ok (.aload_n 2, 1) := by decide +kernel
theorem dL_law__375 : decode cL_law_ 375 = .ok (.invokevirtual 99, 3) := by decide +kernel
theorem dL_law__378 : decode cL_law_ 378 = .ok (.iload 5, 2) := by decide +kernel
theorem dL_law__380 : decode cL_law_ 380 = .ok (.if_icmp .eq 5, 3) := by decide +kernel
theorem dL_law__383 : decode cL_law_ 383 = .ok (.iconst 0, 1) := by decide +kernel
theorem dL_law__384 : decode cL_law_ 384 = .ok (.ireturn, 1) := by decide +kernel
theorem dL_law__385 : decode cL_law_ 385 = .ok (.goto 1342, 3) := by decide +kernel
theorem dL_law__388 : decode cL_law_ 388 = .ok (.aload_n 1, 1) := by decide +kernel
theorem dL_law__389 : decode cL_law_ 389 = .ok (.invokevirtual 111, 3) := by decide +kernel
theorem dL_law__392 : decode cL_law_ 392 = .ok (.aload_n 2, 1) := by decide +kernel
theorem dL_law__393 : decode cL_law_ 393 = .ok (.invokevirtual 115, 3) := by decide +kernel
theorem dL_law__396 : decode cL_law_ 396 = .ok (.if_icmp .eq 1331, 3) := by decide +kernel
theorem dL_law__399 : decode cL_law_ 399 = .ok (.iconst 0, 1) := by decide +kernel
theorem dL_law__400 : decode cL_law_ 400 = .ok (.ireturn, 1) := by decide +kernel
theorem dL_law__401 : decode cL_law_ 401 = .ok (.aload_n 1, 1) := by decide +kernel
theorem dL_law__402 : decode cL_law_ 402 = .ok (.aload_n 0, 1) := by decide +kernel
theorem dL_law__403 : decode cL_law_ 403 = .ok (.iload 4, 2) := by decide +kernel
theorem dL_law__405 : decode cL_law_ 405 = .ok (.iconst 1, 1) := by decide +kernel
theorem dL_law__406 : decode cL_law_ 406 = .ok (.iadd, 1) := by decide +kernel
theorem dL_law__407 : decode cL_law_ 407 = .ok (.iaload, 1) := by decide +kernel
theorem dL_law__408 : decode cL_law_ 408 = .ok (.aload_n 3, 1) := by decide +kernel
theorem dL_law__409 : decode cL_law_ 409 = .ok (.invokestatic 116, 3) := by decide +kernel
theorem dL_law__412 : decode cL_law_ 412 = .ok (.istore 5, 2) := by decide +kernel
theorem dL_law__414 : decode cL_law_ 414 = .ok (.aload_n 2, 1) := by decide +kernel
theorem dL_law__415 : decode cL_law_ 415 = .ok (.aload_n 0, 1) := by decide +kernel
theorem dL_law__416 : decode cL_law_ 416 = .ok (.iload 4, 2) := by decide +kernel
theorem dL_law__418 : decode cL_law_ 418 = .ok (.iconst 1, 1) := by decide +kernel
theorem dL_law__419 : decode cL_law_ 419 = .ok (.iadd, 1) := by decide +kernel
theorem dL_law__420 : decode cL_law_ 420 = .ok (.iaload, 1) := by decide +kernel
theorem dL_law__421 : decode cL_law_ 421 = .ok (.invokevirtual 119, 3) := by decide +kernel
theorem dL_law__424 : decode cL_law_ 424 = .ok (.istore 6, 2) := by decide +kernel
theorem dL_law__426 : decode cL_law_ 426 = .ok (.aload_n 2, 1) := by decide +kernel
theorem dL_law__427 : decode cL_law_ 427 = .ok (.invokevirtual 99, 3) := by decide +kernel
theorem dL_law__430 : decode cL_law_ 430 = .ok (.iload 5, 2) := by decide +kernel
theorem dL_law__432 : decode cL_law_ 432 = .ok (.if_icmp .eq 5, 3) := by decide +kernel
theorem dL_law__435 : decode cL_law_ 435 = .ok (.iconst 0, 1) := by decide +kernel
theorem dL_law__436 : decode cL_law_ 436 = .ok (.ireturn, 1) := by decide +kernel
theorem dL_law__437 : decode cL_law_ 437 = .ok (.iload 5, 2) := by decide +kernel
theorem dL_law__439 : decode cL_law_ 439 = .ok (.ifCond .ne 15, 3) := by decide +kernel
theorem dL_law__442 : decode cL_law_ 442 = .ok (.aload_n 3, 1) := by decide +kernel
theorem dL_law__443 : decode cL_law_ 443 = .ok (.iconst 0, 1) := by decide +kernel
theorem dL_law__444 : decode cL_law_ 444 = .ok (.laload, 1) := by decide +kernel
theorem dL_law__445 : decode cL_law_ 445 = .ok (.iload 6, 2) := by decide +kernel
theorem dL_law__447 : decode cL_law_ 447 = .ok (.i2l, 1) := by decide +kernel
theorem dL_law__448 : decode cL_law_ 448 = .ok (.lcmp, 1) := by decide +kernel
theorem dL_law__449 : decode cL_law_ 449 = .ok (.ifCond .eq 5, 3) := by decide +kernel
theorem dL_law__452 : decode cL_law_ 452 = .ok (.iconst 0, 1) := by decide +kernel
theorem dL_law__453 : decode cL_law_ 453 = .ok (.ireturn, 1) := by decide +kernel
theorem dL_law__454 : decode cL_law_ 454 = .ok (.goto 1273, 3) := by decide +kernel
theorem dL_law__457 : decode cL_law_ 457 = .ok (.aload_n 1, 1) := by decide +kernel
theorem dL_law__458 : decode cL_law_ 458 = .ok (.aload_n 0, 1) := by decide +kernel
theorem dL_law__459 : decode cL_law_ 459 = .ok (.iload 4, 2) := by decide +kernel
theorem dL_law__461 : decode cL_law_ 461 = .ok (.iconst 1, 1) := by decide +kernel
theorem dL_law__462 : decode cL_law_ 462 = .ok (.iadd, 1) := by decide +kernel
theorem dL_law__463 : decode cL_law_ 463 = .ok (.iaload, 1) := by decide +kernel
theorem dL_law__464 : decode cL_law_ 464 = .ok (.aload_n 3, 1) := by decide +kernel
theorem dL_law__465 : decode cL_law_ 465 = .ok (.invokestatic 120, 3) := by decide +kernel
theorem dL_law__468 : decode cL_law_ 468 = .ok (.istore 5, 2) := by decide +kernel
theorem dL_law__470 : decode cL_law_ 470 = .ok (.aload_n 2, 1) := by decide +kernel
theorem dL_law__471 : decode cL_law_ 471 = .ok (.aload_n 0, 1) := by decide +kernel
theorem dL_law__472 : decode cL_law_ 472 = .ok (.iload 4, 2) := by decide +kernel
theorem dL_law__474 : decode cL_law_ 474 = .ok (.iconst 1, 1) := by decide +kernel
theorem dL_law__475 : decode cL_law_ 475 = .ok (.iadd, 1) := by decide +kernel
theorem dL_law__476 : decode cL_law_ 476 = .ok (.iaload, 1) := by decide +kernel
theorem dL_law__477 : decode cL_law_ 477 = .ok (.invokevirtual 122, 3) := by decide +kernel
theorem dL_law__480 : decode cL_law_ 480 = .ok (.istore 6, 2) := by decide +kernel
theorem dL_law__482 : decode cL_law_ 482 = .ok (.aload_n 2, 1) := by decide +kernel
theorem dL_law__483 : decode cL_law_ 483 = .ok (.invokevirtual 99, 3) := by decide +kernel
theorem dL_law__486 : decode cL_law_ 486 = .ok (.iload 5, 2) := by decide +kernel
theorem dL_law__488 : decode cL_law_ 488 = .ok (.if_icmp .eq 5, 3) := by decide +kernel
theorem dL_law__491 : decode cL_law_ 491 = .ok (.iconst 0, 1) := by decide +kernel
theorem dL_law__492 : decode cL_law_ 492 = .ok (.ireturn, 1) := by decide +kernel
theorem dL_law__493 : decode cL_law_ 493 = .ok (.iload 5, 2) := by decide +kernel
theorem dL_law__495 : decode cL_law_ 495 = .ok (.ifCond .ne 15, 3) := by decide +kernel
theorem dL_law__498 : decode cL_law_ 498 = .ok (.aload_n 3, 1) := by decide +kernel
theorem dL_law__499 : decode cL_law_ 499 = .ok (.iconst 0, 1) := by decide +kernel
theorem dL_law__500 : decode cL_law_ 500 = .ok (.laload, 1) := by decide +kernel
theorem dL_law__501 : decode cL_law_ 501 = .ok (.iload 6, 2) := by decide +kernel
theorem dL_law__503 : decode cL_law_ 503 = .ok (.i2l, 1) := by decide +kernel
theorem dL_law__504 : decode cL_law_ 504 = .ok (.lcmp, 1) := by decide +kernel
theorem dL_law__505 : decode cL_law_ 505 = .ok (.ifCond .eq 5, 3) := by decide +kernel
theorem dL_law__508 : decode cL_law_ 508 = .ok (.iconst 0, 1) := by decide +kernel
theorem dL_law__509 : decode cL_law_ 509 = .ok (.ireturn, 1) := by decide +kernel
theorem dL_law__510 : decode cL_law_ 510 = .ok (.goto 1217, 3) := by decide +kernel
theorem dL_law__513 : decode cL_law_ 513 = .ok (.aload_n 1, 1) := by decide +kernel
theorem dL_law__514 : decode cL_law_ 514 = .ok (.aload_n 0, 1) := by decide +kernel
theorem dL_law__515 : decode cL_law_ 515 = .ok (.iload 4, 2) := by decide +kernel
theorem dL_law__517 : decode cL_law_ 517 = .ok (.iconst 1, 1) := by decide +kernel
theorem dL_law__518 : decode cL_law_ 518 = .ok (.iadd, 1) := by decide +kernel
theorem dL_law__519 : decode cL_law_ 519 = .ok (.iaload, 1) := by decide +kernel
theorem dL_law__520 : decode cL_law_ 520 = .ok (.aload_n 0, 1) := by decide +kernel
theorem dL_law__521 : decode cL_law_ 521 = .ok (.iload 4, 2) := by decide +kernel
theorem dL_law__523 : decode cL_law_ 523 = .ok (.iconst 2, 1) := by decide +kernel
theorem dL_law__524 : decode cL_law_ 524 = .ok (.iadd, 1) := by decide +kernel
theorem dL_law__525 : decode cL_law_ 525 = .ok (.iaload, 1) := by decide +kernel
theorem dL_law__526 : decode cL_law_ 526 = .ok (.aload_n 0, 1) := by decide +kernel
theorem dL_law__527 : decode cL_law_ 527 = .ok (.iload 4, 2) := by decide +kernel
theorem dL_law__529 : decode cL_law_ 529 = .ok (.iconst 3, 1) := by decide +kernel
theorem dL_law__530 : decode cL_law_ 530 = .ok (.iadd, 1) := by decide +kernel
theorem dL_law__531 : decode cL_law_ 531 = .ok (.iaload, 1) := by decide +kernel
theorem dL_law__532 : decode cL_law_ 532 = .ok (.aload_n 0, 1) := by decide +kernel
theorem dL_law__533 : decode cL_law_ 533 = .ok (.iload 4, 2) := by decide +kernel
theorem dL_law__535 : decode cL_law_ 535 = .ok (.iconst 4, 1) := by decide +kernel
theorem dL_law__536 : decode cL_law_ 536 = .ok (.iadd, 1) := by decide +kernel
theorem dL_law__537 : decode cL_law_ 537 = .ok (.iaload, 1) := by decide +kernel
theorem dL_law__538 : decode cL_law_ 538 = .ok (.aload_n 0, 1) := by decide +kernel
theorem dL_law__539 : decode cL_law_ 539 = .ok (.iload 4, 2) := by decide +kernel
theorem dL_law__541 : decode cL_law_ 541 = .ok (.iconst 5, 1) := by decide +kernel
theorem dL_law__542 : decode cL_law_ 542 = .ok (.iadd, 1) := by decide +kernel
theorem dL_law__543 : decode cL_law_ 543 = .ok (.iaload, 1) := by decide +kernel
theorem dL_law__544 : decode cL_law_ 544 = .ok (.aload_n 3, 1) := by decide +kernel
theorem dL_law__545 : decode cL_law_ 545 = .ok (.invokestatic 123, 3) := by decide +kernel
theorem dL_law__548 : decode cL_law_ 548 = .ok (.istore 5, 2) := by decide +kernel
theorem dL_law__550 : decode cL_law_ 550 = .ok (.aload_n 2, 1) := by decide +kernel
theorem dL_law__551 : decode cL_law_ 551 = .ok (.aload_n 0, 1) := by decide +kernel
theorem dL_law__552 : decode cL_law_ 552 = .ok (.iload 4, 2) := by decide +kernel
theorem dL_law__554 : decode cL_law_ 554 = .ok (.iconst 1, 1) := by decide +kernel
theorem dL_law__555 : decode cL_law_ 555 = .ok (.iadd, 1) := by decide +kernel
theorem dL_law__556 : decode cL_law_ 556 = .ok (.iaload, 1) := by decide +kernel
theorem dL_law__557 : decode cL_law_ 557 = .ok (.aload_n 0, 1) := by decide +kernel
theorem dL_law__558 : decode cL_law_ 558 = .ok (.iload 4, 2) := by decide +kernel
theorem dL_law__560 : decode cL_law_ 560 = .ok (.iconst 2, 1) := by decide +kernel
theorem dL_law__561 : decode cL_law_ 561 = .ok (.iadd, 1) := by decide +kernel
theorem dL_law__562 : decode cL_law_ 562 = .ok (.iaload, 1) := by decide +kernel
theorem dL_law__563 : decode cL_law_ 563 = .ok (.aload_n 0, 1) := by decide +kernel
theorem dL_law__564 : decode cL_law_ 564 = .ok (.iload 4, 2) := by decide +kernel
theorem dL_law__566 : decode cL_law_ 566 = .ok (.iconst 3, 1) := by decide +kernel
theorem dL_law__567 : decode cL_law_ 567 = .ok (.iadd, 1) := by decide +kernel
theorem dL_law__568 : decode cL_law_ 568 = .ok (.iaload, 1) := by decide +kernel
theorem dL_law__569 : decode cL_law_ 569 = .ok (.aload_n 0, 1) := by decide +kernel
theorem dL_law__570 : decode cL_law_ 570 = .ok (.iload 4, 2) := by decide +kernel
theorem dL_law__572 : decode cL_law_ 572 = .ok (.iconst 4, 1) := by decide +kernel
theorem dL_law__573 : decode cL_law_ 573 = .ok (.iadd, 1) := by decide +kernel
theorem dL_law__574 : decode cL_law_ 574 = .ok (.iaload, 1) := by decide +kernel
theorem dL_law__575 : decode cL_law_ 575 = .ok (.aload_n 0, 1) := by decide +kernel
theorem dL_law__576 : decode cL_law_ 576 = .ok (.iload 4, 2) := by decide +kernel
theorem dL_law__578 : decode cL_law_ 578 = .ok (.iconst 5, 1) := by decide +kernel
theorem dL_law__579 : decode cL_law_ 579 = .ok (.iadd, 1) := by decide +kernel
theorem dL_law__580 : decode cL_law_ 580 = .ok (.iaload, 1) := by decide +kernel
theorem dL_law__581 : decode cL_law_ 581 = .ok (.invokevirtual 126, 3) := by decide +kernel
theorem dL_law__584 : decode cL_law_ 584 = .ok (.istore 6, 2) := by decide +kernel
theorem dL_law__586 : decode cL_law_ 586 = .ok (.aload_n 2, 1) := by decide +kernel
theorem dL_law__587 : decode cL_law_ 587 = .ok (.invokevirtual 99, 3) := by decide +kernel
theorem dL_law__590 : decode cL_law_ 590 = .ok (.iload 5, 2) := by decide +kernel
theorem dL_law__592 : decode cL_law_ 592 = .ok (.if_icmp .eq 5, 3) := by decide +kernel
theorem dL_law__595 : decode cL_law_ 595 = .ok (.iconst 0, 1) := by decide +kernel
theorem dL_law__596 : decode cL_law_ 596 = .ok (.ireturn, 1) := by decide +kernel
theorem dL_law__597 : decode cL_law_ 597 = .ok (.iload 5, 2) := by decide +kernel
theorem dL_law__599 : decode cL_law_ 599 = .ok (.ifCond .ne 15, 3) := by decide +kernel
theorem dL_law__602 : decode cL_law_ 602 = .ok (.aload_n 3, 1) := by decide +kernel
theorem dL_law__603 : decode cL_law_ 603 = .ok (.iconst 0, 1) := by decide +kernel
theorem dL_law__604 : decode cL_law_ 604 = .ok (.laload, 1) := by decide +kernel
theorem dL_law__605 : decode cL_law_ 605 = .ok (.iload 6, 2) := by decide +kernel
theorem dL_law__607 : decode cL_law_ 607 = .ok (.i2l, 1) := by decide +kernel
theorem dL_law__608 : decode cL_law_ 608 = .ok (.lcmp, 1) := by decide +kernel
theorem dL_law__609 : decode cL_law_ 609 = .ok (.ifCond .eq 5, 3) := by decide +kernel
theorem dL_law__612 : decode cL_law_ 612 = .ok (.iconst 0, 1) := by decide +kernel
theorem dL_law__613 : decode cL_law_ 613 = .ok (.ireturn, 1) := by decide +kernel
theorem dL_law__614 : decode cL_law_ 614 = .ok (.goto 1113, 3) := by decide +kernel
theorem dL_law__617 : decode cL_law_ 617 = .ok (.aload_n 1, 1) := by decide +kernel
theorem dL_law__618 : decode cL_law_ 618 = .ok (.aload_n 0, 1) := by decide +kernel
theorem dL_law__619 : decode cL_law_ 619 = .ok (.iload 4, 2) := by decide +kernel
theorem dL_law__621 : decode cL_law_ 621 = .ok (.iconst 1, 1) := by decide +kernel
theorem dL_law__622 : decode cL_law_ 622 = .ok (.iadd, 1) := by decide +kernel
theorem dL_law__623 : decode cL_law_ 623 = .ok (.iaload, 1) := by decide +kernel
theorem dL_law__624 : decode cL_law_ 624 = .ok (.aload_n 0, 1) := by decide +kernel
theorem dL_law__625 : decode cL_law_ 625 = .ok (.iload 4, 2) := by decide +kernel
theorem dL_law__627 : decode cL_law_ 627 = .ok (.iconst 2, 1) := by decide +kernel
theorem dL_law__628 : decode cL_law_ 628 = .ok (.iadd, 1) := by decide +kernel
theorem dL_law__629 : decode cL_law_ 629 = .ok (.iaload, 1) := by decide +kernel
theorem dL_law__630 : decode cL_law_ 630 = .ok (.aload_n 3, 1) := by decide +kernel
theorem dL_law__631 : decode cL_law_ 631 = .ok (.invokestatic 127, 3) := by decide +kernel
theorem dL_law__634 : decode cL_law_ 634 = .ok (.istore 5, 2) := by decide +kernel
theorem dL_law__636 : decode cL_law_ 636 = .ok (.aload_n 2, 1) := by decide +kernel
theorem dL_law__637 : decode cL_law_ 637 = .ok (.aload_n 0, 1) := by decide +kernel
theorem dL_law__638 : decode cL_law_ 638 = .ok (.iload 4, 2) := by decide +kernel
theorem dL_law__640 : decode cL_law_ 640 = .ok (.iconst 1, 1) := by decide +kernel
theorem dL_law__641 : decode cL_law_ 641 = .ok (.iadd, 1) := by decide +kernel
theorem dL_law__642 : decode cL_law_ 642 = .ok (.iaload, 1) := by decide +kernel
theorem dL_law__643 : decode cL_law_ 643 = .ok (.aload_n 0, 1) := by decide +kernel
theorem dL_law__644 : decode cL_law_ 644 = .ok (.iload 4, 2) := by decide +kernel
theorem dL_law__646 : decode cL_law_ 646 = .ok (.iconst 2, 1) := by decide +kernel
theorem dL_law__647 : decode cL_law_ 647 = .ok (.iadd, 1) := by decide +kernel
theorem dL_law__648 : decode cL_law_ 648 = .ok (.iaload, 1) := by decide +kernel
theorem dL_law__649 : decode cL_law_ 649 = .ok (.invokevirtual 129, 3) := by decide +kernel
theorem dL_law__652 : decode cL_law_ 652 = .ok (.istore 6, 2) := by decide +kernel
theorem dL_law__654 : decode cL_law_ 654 = .ok (.aload_n 2, 1) := by decide +kernel
theorem dL_law__655 : decode cL_law_ 655 = .ok (.invokevirtual 99, 3) := by decide +kernel
theorem dL_law__658 : decode cL_law_ 658 = .ok (.iload 5, 2) := by decide +kernel
theorem dL_law__660 : decode cL_law_ 660 = .ok (.if_icmp .eq 5, 3) := by decide +kernel
theorem dL_law__663 : decode cL_law_ 663 = .ok (.iconst 0, 1) := by decide +kernel
theorem dL_law__664 : decode cL_law_ 664 = .ok (.ireturn, 1) := by decide +kernel
theorem dL_law__665 : decode cL_law_ 665 = .ok (.iload 5, 2) := by decide +kernel
theorem dL_law__667 : decode cL_law_ 667 = .ok (.ifCond .ne 15, 3) := by decide +kernel
theorem dL_law__670 : decode cL_law_ 670 = .ok (.aload_n 3, 1) := by decide +kernel
theorem dL_law__671 : decode cL_law_ 671 = .ok (.iconst 0, 1) := by decide +kernel
theorem dL_law__672 : decode cL_law_ 672 = .ok (.laload, 1) := by decide +kernel
theorem dL_law__673 : decode cL_law_ 673 = .ok (.iload 6, 2) := by decide +kernel
theorem dL_law__675 : decode cL_law_ 675 = .ok (.i2l, 1) := by decide +kernel
theorem dL_law__676 : decode cL_law_ 676 = .ok (.lcmp, 1) := by decide +kernel
theorem dL_law__677 : decode cL_law_ 677 = .ok (.ifCond .eq 5, 3) := by decide +kernel
theorem dL_law__680 : decode cL_law_ 680 = .ok (.iconst 0, 1) := by decide +kernel
theorem dL_law__681 : decode cL_law_ 681 = .ok (.ireturn, 1) := by decide +kernel
theorem dL_law__682 : decode cL_law_ 682 = .ok (.goto 1045, 3) := by decide +kernel
theorem dL_law__685 : decode cL_law_ 685 = .ok (.aload_n 1, 1) := by decide +kernel
theorem dL_law__686 : decode cL_law_ 686 = .ok (.aload_n 0, 1) := by decide +kernel
theorem dL_law__687 : decode cL_law_ 687 = .ok (.iload 4, 2) := by decide +kernel
theorem dL_law__689 : decode cL_law_ 689 = .ok (.iconst 1, 1) := by decide +kernel
theorem dL_law__690 : decode cL_law_ 690 = .ok (.iadd, 1) := by decide +kernel
theorem dL_law__691 : decode cL_law_ 691 = .ok (.iaload, 1) := by decide +kernel
theorem dL_law__692 : decode cL_law_ 692 = .ok (.aload_n 3, 1) := by decide +kernel
theorem dL_law__693 : decode cL_law_ 693 = .ok (.invokestatic 130, 3) := by decide +kernel
theorem dL_law__696 : decode cL_law_ 696 = .ok (.istore 5, 2) := by decide +kernel
theorem dL_law__698 : decode cL_law_ 698 = .ok (.aload_n 2, 1) := by decide +kernel
theorem dL_law__699 : decode cL_law_ 699 = .ok (.aload_n 0, 1) := by decide +kernel
theorem dL_law__700 : decode cL_law_ 700 = .ok (.iload 4, 2) := by decide +kernel
theorem dL_law__702 : decode cL_law_ 702 = .ok (.iconst 1, 1) := by decide +kernel
theorem dL_law__703 : decode cL_law_ 703 = .ok (.iadd, 1) := by decide +kernel
theorem dL_law__704 : decode cL_law_ 704 = .ok (.iaload, 1) := by decide +kernel
theorem dL_law__705 : decode cL_law_ 705 = .ok (.invokevirtual 132, 3) := by decide +kernel
theorem dL_law__708 : decode cL_law_ 708 = .ok (.istore 6, 2) := by decide +kernel
theorem dL_law__710 : decode cL_law_ 710 = .ok (.aload_n 2, 1) := by decide +kernel
theorem dL_law__711 : decode cL_law_ 711 = .ok (.invokevirtual 99, 3) := by decide +kernel
theorem dL_law__714 : decode cL_law_ 714 = .ok (.iload 5, 2) := by decide +kernel
theorem dL_law__716 : decode cL_law_ 716 = .ok (.if_icmp .eq 5, 3) := by decide +kernel
theorem dL_law__719 : decode cL_law_ 719 = .ok (.iconst 0, 1) := by decide +kernel
theorem dL_law__720 : decode cL_law_ 720 = .ok (.ireturn, 1) := by decide +kernel
theorem dL_law__721 : decode cL_law_ 721 = .ok (.iload 5, 2) := by decide +kernel
theorem dL_law__723 : decode cL_law_ 723 = .ok (.ifCond .ne 15, 3) := by decide +kernel
theorem dL_law__726 : decode cL_law_ 726 = .ok (.aload_n 3, 1) := by decide +kernel
theorem dL_law__727 : decode cL_law_ 727 = .ok (.iconst 0, 1) := by decide +kernel
theorem dL_law__728 : decode cL_law_ 728 = .ok (.laload, 1) := by decide +kernel
theorem dL_law__729 : decode cL_law_ 729 = .ok (.iload 6, 2) := by decide +kernel
theorem dL_law__731 : decode cL_law_ 731 = .ok (.i2l, 1) := by decide +kernel
theorem dL_law__732 : decode cL_law_ 732 = .ok (.lcmp, 1) := by decide +kernel
theorem dL_law__733 : decode cL_law_ 733 = .ok (.ifCond .eq 5, 3) := by decide +kernel
theorem dL_law__736 : decode cL_law_ 736 = .ok (.iconst 0, 1) := by decide +kernel
theorem dL_law__737 : decode cL_law_ 737 = .ok (.ireturn, 1) := by decide +kernel
theorem dL_law__738 : decode cL_law_ 738 = .ok (.goto 989, 3) := by decide +kernel
theorem dL_law__741 : decode cL_law_ 741 = .ok (.aload_n 1, 1) := by decide +kernel
theorem dL_law__742 : decode cL_law_ 742 = .ok (.aload_n 0, 1) := by decide +kernel
theorem dL_law__743 : decode cL_law_ 743 = .ok (.iload 4, 2) := by decide +kernel
theorem dL_law__745 : decode cL_law_ 745 = .ok (.iconst 1, 1) := by decide +kernel
theorem dL_law__746 : decode cL_law_ 746 = .ok (.iadd, 1) := by decide +kernel
theorem dL_law__747 : decode cL_law_ 747 = .ok (.iaload, 1) := by decide +kernel
theorem dL_law__748 : decode cL_law_ 748 = .ok (.aload_n 0, 1) := by decide +kernel
theorem dL_law__749 : decode cL_law_ 749 = .ok (.iload 4, 2) := by decide +kernel
theorem dL_law__751 : decode cL_law_ 751 = .ok (.iconst 2, 1) := by decide +kernel
theorem dL_law__752 : decode cL_law_ 752 = .ok (.iadd, 1) := by decide +kernel
theorem dL_law__753 : decode cL_law_ 753 = .ok (.iaload, 1) := by decide +kernel
theorem dL_law__754 : decode cL_law_ 754 = .ok (.aload_n 0, 1) := by decide +kernel
theorem dL_law__755 : decode cL_law_ 755 = .ok (.iload 4, 2) := by decide +kernel
theorem dL_law__757 : decode cL_law_ 757 = .ok (.iconst 3, 1) := by decide +kernel
theorem dL_law__758 : decode cL_law_ 758 = .ok (.iadd, 1) := by decide +kernel
theorem dL_law__759 : decode cL_law_ 759 = .ok (.iaload, 1) := by decide +kernel
theorem dL_law__760 : decode cL_law_ 760 = .ok (.aload_n 3, 1) := by decide +kernel
theorem dL_law__761 : decode cL_law_ 761 = .ok (.invokestatic 133, 3) := by decide +kernel
theorem dL_law__764 : decode cL_law_ 764 = .ok (.istore 5, 2) := by decide +kernel
theorem dL_law__766 : decode cL_law_ 766 = .ok (.aload_n 2, 1) := by decide +kernel
theorem dL_law__767 : decode cL_law_ 767 = .ok (.aload_n 0, 1) := by decide +kernel
theorem dL_law__768 : decode cL_law_ 768 = .ok (.iload 4, 2) := by decide +kernel
theorem dL_law__770 : decode cL_law_ 770 = .ok (.iconst 1, 1) := by decide +kernel
theorem dL_law__771 : decode cL_law_ 771 = .ok (.iadd, 1) := by decide +kernel
theorem dL_law__772 : decode cL_law_ 772 = .ok (.iaload, 1) := by decide +kernel
theorem dL_law__773 : decode cL_law_ 773 = .ok (.aload_n 0, 1) := by decide +kernel
theorem dL_law__774 : decode cL_law_ 774 = .ok (.iload 4, 2) := by decide +kernel
theorem dL_law__776 : decode cL_law_ 776 = .ok (.iconst 2, 1) := by decide +kernel
theorem dL_law__777 : decode cL_law_ 777 = .ok (.iadd, 1) := by decide +kernel
theorem dL_law__778 : decode cL_law_ 778 = .ok (.iaload, 1) := by decide +kernel
theorem dL_law__779 : decode cL_law_ 779 = .ok (.aload_n 0, 1) := by decide +kernel
theorem dL_law__780 : decode cL_law_ 780 = .ok (.iload 4, 2) := by decide +kernel
theorem dL_law__782 : decode cL_law_ 782 = .ok (.iconst 3, 1) := by decide +kernel
theorem dL_law__783 : decode cL_law_ 783 = .ok (.iadd, 1) := by decide +kernel
theorem dL_law__784 : decode cL_law_ 784 = .ok (.iaload, 1) := by decide +kernel
theorem dL_law__785 : decode cL_law_ 785 = .ok (.invokevirtual 135, 3) := by decide +kernel
theorem dL_law__788 : decode cL_law_ 788 = .ok (.istore 6, 2) := by decide +kernel
theorem dL_law__790 : decode cL_law_ 790 = .ok (.aload_n 2, 1) := by decide +kernel
theorem dL_law__791 : decode cL_law_ 791 = .ok (.invokevirtual 99, 3) := by decide +kernel
theorem dL_law__794 : decode cL_law_ 794 = .ok (.iload 5, 2) := by decide +kernel
theorem dL_law__796 : decode cL_law_ 796 = .ok (.if_icmp .eq 5, 3) := by decide +kernel
theorem dL_law__799 : decode cL_law_ 799 = .ok (.iconst 0, 1) := by decide +kernel
theorem dL_law__800 : decode cL_law_ 800 = .ok (.ireturn, 1) := by decide +kernel
theorem dL_law__801 : decode cL_law_ 801 = .ok (.iload 5, 2) := by decide +kernel
theorem dL_law__803 : decode cL_law_ 803 = .ok (.ifCond .ne 15, 3) := by decide +kernel
theorem dL_law__806 : decode cL_law_ 806 = .ok (.aload_n 3, 1) := by decide +kernel
theorem dL_law__807 : decode cL_law_ 807 = .ok (.iconst 0, 1) := by decide +kernel
theorem dL_law__808 : decode cL_law_ 808 = .ok (.laload, 1) := by decide +kernel
theorem dL_law__809 : decode cL_law_ 809 = .ok (.iload 6, 2) := by decide +kernel
theorem dL_law__811 : decode cL_law_ 811 = .ok (.i2l, 1) := by decide +kernel
theorem dL_law__812 : decode cL_law_ 812 = .ok (.lcmp, 1) := by decide +kernel
theorem dL_law__813 : decode cL_law_ 813 = .ok (.ifCond .eq 5, 3) := by decide +kernel
theorem dL_law__816 : decode cL_law_ 816 = .ok (.iconst 0, 1) := by decide +kernel
theorem dL_law__817 : decode cL_law_ 817 = .ok (.ireturn, 1) := by decide +kernel
theorem dL_law__818 : decode cL_law_ 818 = .ok (.goto 909, 3) := by decide +kernel
theorem dL_law__821 : decode cL_law_ 821 = .ok (.aload_n 1, 1) := by decide +kernel
theorem dL_law__822 : decode cL_law_ 822 = .ok (.aload_n 0, 1) := by decide +kernel
theorem dL_law__823 : decode cL_law_ 823 = .ok (.iload 4, 2) := by decide +kernel
theorem dL_law__825 : decode cL_law_ 825 = .ok (.iconst 1, 1) := by decide +kernel
theorem dL_law__826 : decode cL_law_ 826 = .ok (.iadd, 1) := by decide +kernel
theorem dL_law__827 : decode cL_law_ 827 = .ok (.iaload, 1) := by decide +kernel
theorem dL_law__828 : decode cL_law_ 828 = .ok (.aload_n 0, 1) := by decide +kernel
theorem dL_law__829 : decode cL_law_ 829 = .ok (.iload 4, 2) := by decide +kernel
theorem dL_law__831 : decode cL_law_ 831 = .ok (.iconst 2, 1) := by decide +kernel
theorem dL_law__832 : decode cL_law_ 832 = .ok (.iadd, 1) := by decide +kernel
theorem dL_law__833 : decode cL_law_ 833 = .ok (.iaload, 1) := by decide +kernel
theorem dL_law__834 : decode cL_law_ 834 = .ok (.aload_n 0, 1) := by decide +kernel
theorem dL_law__835 : decode cL_law_ 835 = .ok (.iload 4, 2) := by decide +kernel
theorem dL_law__837 : decode cL_law_ 837 = .ok (.iconst 3, 1) := by decide +kernel
theorem dL_law__838 : decode cL_law_ 838 = .ok (.iadd, 1) := by decide +kernel
theorem dL_law__839 : decode cL_law_ 839 = .ok (.iaload, 1) := by decide +kernel
theorem dL_law__840 : decode cL_law_ 840 = .ok (.aload_n 3, 1) := by decide +kernel
theorem dL_law__841 : decode cL_law_ 841 = .ok (.invokestatic 136, 3) := by decide +kernel
theorem dL_law__844 : decode cL_law_ 844 = .ok (.istore 5, 2) := by decide +kernel
theorem dL_law__846 : decode cL_law_ 846 = .ok (.aload_n 2, 1) := by decide +kernel
theorem dL_law__847 : decode cL_law_ 847 = .ok (.aload_n 0, 1) := by decide +kernel
theorem dL_law__848 : decode cL_law_ 848 = .ok (.iload 4, 2) := by decide +kernel
theorem dL_law__850 : decode cL_law_ 850 = .ok (.iconst 1, 1) := by decide +kernel
theorem dL_law__851 : decode cL_law_ 851 = .ok (.iadd, 1) := by decide +kernel
theorem dL_law__852 : decode cL_law_ 852 = .ok (.iaload, 1) := by decide +kernel
theorem dL_law__853 : decode cL_law_ 853 = .ok (.aload_n 0, 1) := by decide +kernel
theorem dL_law__854 : decode cL_law_ 854 = .ok (.iload 4, 2) := by decide +kernel
theorem dL_law__856 : decode cL_law_ 856 = .ok (.iconst 2, 1) := by decide +kernel
theorem dL_law__857 : decode cL_law_ 857 = .ok (.iadd, 1) := by decide +kernel
theorem dL_law__858 : decode cL_law_ 858 = .ok (.iaload, 1) := by decide +kernel
theorem dL_law__859 : decode cL_law_ 859 = .ok (.aload_n 0, 1) := by decide +kernel
theorem dL_law__860 : decode cL_law_ 860 = .ok (.iload 4, 2) := by decide +kernel
theorem dL_law__862 : decode cL_law_ 862 = .ok (.iconst 3, 1) := by decide +kernel
theorem dL_law__863 : decode cL_law_ 863 = .ok (.iadd, 1) := by decide +kernel
theorem dL_law__864 : decode cL_law_ 864 = .ok (.iaload, 1) := by decide +kernel
theorem dL_law__865 : decode cL_law_ 865 = .ok (.invokevirtual 138, 3) := by decide +kernel
theorem dL_law__868 : decode cL_law_ 868 = .ok (.istore 6, 2) := by decide +kernel
theorem dL_law__870 : decode cL_law_ 870 = .ok (.aload_n 2, 1) := by decide +kernel
theorem dL_law__871 : decode cL_law_ 871 = .ok (.invokevirtual 99, 3) := by decide +kernel
theorem dL_law__874 : decode cL_law_ 874 = .ok (.iload 5, 2) := by decide +kernel
theorem dL_law__876 : decode cL_law_ 876 = .ok (.if_icmp .eq 5, 3) := by decide +kernel
theorem dL_law__879 : decode cL_law_ 879 = .ok (.iconst 0, 1) := by decide +kernel
theorem dL_law__880 : decode cL_law_ 880 = .ok (.ireturn, 1) := by decide +kernel
theorem dL_law__881 : decode cL_law_ 881 = .ok (.iload 5, 2) := by decide +kernel
theorem dL_law__883 : decode cL_law_ 883 = .ok (.ifCond .ne 15, 3) := by decide +kernel
theorem dL_law__886 : decode cL_law_ 886 = .ok (.aload_n 3, 1) := by decide +kernel
theorem dL_law__887 : decode cL_law_ 887 = .ok (.iconst 0, 1) := by decide +kernel
theorem dL_law__888 : decode cL_law_ 888 = .ok (.laload, 1) := by decide +kernel
theorem dL_law__889 : decode cL_law_ 889 = .ok (.iload 6, 2) := by decide +kernel
theorem dL_law__891 : decode cL_law_ 891 = .ok (.i2l, 1) := by decide +kernel
theorem dL_law__892 : decode cL_law_ 892 = .ok (.lcmp, 1) := by decide +kernel
theorem dL_law__893 : decode cL_law_ 893 = .ok (.ifCond .eq 5, 3) := by decide +kernel
theorem dL_law__896 : decode cL_law_ 896 = .ok (.iconst 0, 1) := by decide +kernel
theorem dL_law__897 : decode cL_law_ 897 = .ok (.ireturn, 1) := by decide +kernel
theorem dL_law__898 : decode cL_law_ 898 = .ok (.goto 829, 3) := by decide +kernel
theorem dL_law__901 : decode cL_law_ 901 = .ok (.aload_n 1, 1) := by decide +kernel
theorem dL_law__902 : decode cL_law_ 902 = .ok (.aload_n 0, 1) := by decide +kernel
theorem dL_law__903 : decode cL_law_ 903 = .ok (.iload 4, 2) := by decide +kernel
theorem dL_law__905 : decode cL_law_ 905 = .ok (.iconst 1, 1) := by decide +kernel
theorem dL_law__906 : decode cL_law_ 906 = .ok (.iadd, 1) := by decide +kernel
theorem dL_law__907 : decode cL_law_ 907 = .ok (.iaload, 1) := by decide +kernel
theorem dL_law__908 : decode cL_law_ 908 = .ok (.aload_n 0, 1) := by decide +kernel
theorem dL_law__909 : decode cL_law_ 909 = .ok (.iload 4, 2) := by decide +kernel
theorem dL_law__911 : decode cL_law_ 911 = .ok (.iconst 2, 1) := by decide +kernel
theorem dL_law__912 : decode cL_law_ 912 = .ok (.iadd, 1) := by decide +kernel
theorem dL_law__913 : decode cL_law_ 913 = .ok (.iaload, 1) := by decide +kernel
theorem dL_law__914 : decode cL_law_ 914 = .ok (.aload_n 0, 1) := by decide +kernel
theorem dL_law__915 : decode cL_law_ 915 = .ok (.iload 4, 2) := by decide +kernel
theorem dL_law__917 : decode cL_law_ 917 = .ok (.iconst 3, 1) := by decide +kernel
theorem dL_law__918 : decode cL_law_ 918 = .ok (.iadd, 1) := by decide +kernel
theorem dL_law__919 : decode cL_law_ 919 = .ok (.iaload, 1) := by decide +kernel
theorem dL_law__920 : decode cL_law_ 920 = .ok (.aload_n 0, 1) := by decide +kernel
theorem dL_law__921 : decode cL_law_ 921 = .ok (.iload 4, 2) := by decide +kernel
theorem dL_law__923 : decode cL_law_ 923 = .ok (.iconst 4, 1) := by decide +kernel
theorem dL_law__924 : decode cL_law_ 924 = .ok (.iadd, 1) := by decide +kernel
theorem dL_law__925 : decode cL_law_ 925 = .ok (.iaload, 1) := by decide +kernel
theorem dL_law__926 : decode cL_law_ 926 = .ok (.aload_n 3, 1) := by decide +kernel
theorem dL_law__927 : decode cL_law_ 927 = .ok (.invokestatic 139, 3) := by decide +kernel
theorem dL_law__930 : decode cL_law_ 930 = .ok (.istore 5, 2) := by decide +kernel
theorem dL_law__932 : decode cL_law_ 932 = .ok (.aload_n 2, 1) := by decide +kernel
theorem dL_law__933 : decode cL_law_ 933 = .ok (.aload_n 0, 1) := by decide +kernel
theorem dL_law__934 : decode cL_law_ 934 = .ok (.iload 4, 2) := by decide +kernel
theorem dL_law__936 : decode cL_law_ 936 = .ok (.iconst 1, 1) := by decide +kernel
theorem dL_law__937 : decode cL_law_ 937 = .ok (.iadd, 1) := by decide +kernel
theorem dL_law__938 : decode cL_law_ 938 = .ok (.iaload, 1) := by decide +kernel
theorem dL_law__939 : decode cL_law_ 939 = .ok (.aload_n 0, 1) := by decide +kernel
theorem dL_law__940 : decode cL_law_ 940 = .ok (.iload 4, 2) := by decide +kernel
theorem dL_law__942 : decode cL_law_ 942 = .ok (.iconst 2, 1) := by decide +kernel
theorem dL_law__943 : decode cL_law_ 943 = .ok (.iadd, 1) := by decide +kernel
theorem dL_law__944 : decode cL_law_ 944 = .ok (.iaload, 1) := by decide +kernel
theorem dL_law__945 : decode cL_law_ 945 = .ok (.aload_n 0, 1) := by decide +kernel
theorem dL_law__946 : decode cL_law_ 946 = .ok (.iload 4, 2) := by decide +kernel
theorem dL_law__948 : decode cL_law_ 948 = .ok (.iconst 3, 1) := by decide +kernel
theorem dL_law__949 : decode cL_law_ 949 = .ok (.iadd, 1) := by decide +kernel
theorem dL_law__950 : decode cL_law_ 950 = .ok (.iaload, 1) := by decide +kernel
theorem dL_law__951 : decode cL_law_ 951 = .ok (.aload_n 0, 1) := by decide +kernel
theorem dL_law__952 : decode cL_law_ 952 = .ok (.iload 4, 2) := by decide +kernel
theorem dL_law__954 : decode cL_law_ 954 = .ok (.iconst 4, 1) := by decide +kernel
theorem dL_law__955 : decode cL_law_ 955 = .ok (.iadd, 1) := by decide +kernel
theorem dL_law__956 : decode cL_law_ 956 = .ok (.iaload, 1) := by decide +kernel
theorem dL_law__957 : decode cL_law_ 957 = .ok (.invokevirtual 142, 3) := by decide +kernel
theorem dL_law__960 : decode cL_law_ 960 = .ok (.istore 6, 2) := by decide +kernel
theorem dL_law__962 : decode cL_law_ 962 = .ok (.aload_n 2, 1) := by decide +kernel
theorem dL_law__963 : decode cL_law_ 963 = .ok (.invokevirtual 99, 3) := by decide +kernel
theorem dL_law__966 : decode cL_law_ 966 = .ok (.iload 5, 2) := by decide +kernel
theorem dL_law__968 : decode cL_law_ 968 = .ok (.if_icmp .eq 5, 3) := by decide +kernel
theorem dL_law__971 : decode cL_law_ 971 = .ok (.iconst 0, 1) := by decide +kernel
theorem dL_law__972 : decode cL_law_ 972 = .ok (.ireturn, 1) := by decide +kernel
theorem dL_law__973 : decode cL_law_ 973 = .ok (.iload 5, 2) := by decide +kernel
theorem dL_law__975 : decode cL_law_ 975 = .ok (.ifCond .ne 15, 3) := by decide +kernel
theorem dL_law__978 : decode cL_law_ 978 = .ok (.aload_n 3, 1) := by decide +kernel
theorem dL_law__979 : decode cL_law_ 979 = .ok (.iconst 0, 1) := by decide +kernel
theorem dL_law__980 : decode cL_law_ 980 = .ok (.laload, 1) := by decide +kernel
theorem dL_law__981 : decode cL_law_ 981 = .ok (.iload 6, 2) := by decide +kernel
theorem dL_law__983 : decode cL_law_ 983 = .ok (.i2l, 1) := by decide +kernel
theorem dL_law__984 : decode cL_law_ 984 = .ok (.lcmp, 1) := by decide +kernel
theorem dL_law__985 : decode cL_law_ 985 = .ok (.ifCond .eq 5, 3) := by decide +kernel
theorem dL_law__988 : decode cL_law_ 988 = .ok (.iconst 0, 1) := by decide +kernel
theorem dL_law__989 : decode cL_law_ 989 = .ok (.ireturn, 1) := by decide +kernel
theorem dL_law__990 : decode cL_law_ 990 = .ok (.goto 737, 3) := by decide +kernel
theorem dL_law__993 : decode cL_law_ 993 = .ok (.aload_n 1, 1) := by decide +kernel
theorem dL_law__994 : decode cL_law_ 994 = .ok (.aload_n 0, 1) := by decide +kernel
theorem dL_law__995 : decode cL_law_ 995 = .ok (.iload 4, 2) := by decide +kernel
theorem dL_law__997 : decode cL_law_ 997 = .ok (.iconst 1, 1) := by decide +kernel
theorem dL_law__998 : decode cL_law_ 998 = .ok (.iadd, 1) := by decide +kernel
theorem dL_law__999 : decode cL_law_ 999 = .ok (.iaload, 1) := by decide +kernel
theorem dL_law__1000 : decode cL_law_ 1000 = .ok (.aload_n 3, 1) := by decide +kernel
theorem dL_law__1001 : decode cL_law_ 1001 = .ok (.invokestatic 143, 3) := by decide +kernel
theorem dL_law__1004 : decode cL_law_ 1004 = .ok (.istore 5, 2) := by decide +kernel
theorem dL_law__1006 : decode cL_law_ 1006 = .ok (.aload_n 2, 1) := by decide +kernel
theorem dL_law__1007 : decode cL_law_ 1007 = .ok (.aload_n 0, 1) := by decide +kernel
theorem dL_law__1008 : decode cL_law_ 1008 = .ok (.iload 4, 2) := by decide +kernel
theorem dL_law__1010 : decode cL_law_ 1010 = .ok (.iconst 1, 1) := by decide +kernel
theorem dL_law__1011 : decode cL_law_ 1011 = .ok (.iadd, 1) := by decide +kernel
theorem dL_law__1012 : decode cL_law_ 1012 = .ok (.iaload, 1) := by decide +kernel
theorem dL_law__1013 : decode cL_law_ 1013 = .ok (.invokevirtual 145, 3) := by decide +kernel
theorem dL_law__1016 : decode cL_law_ 1016 = .ok (.istore 6, 2) := by decide +kernel
theorem dL_law__1018 : decode cL_law_ 1018 = .ok (.aload_n 2, 1) := by decide +kernel
theorem dL_law__1019 : decode cL_law_ 1019 = .ok (.invokevirtual 99, 3) := by decide +kernel
theorem dL_law__1022 : decode cL_law_ 1022 = .ok (.iload 5, 2) := by decide +kernel
theorem dL_law__1024 : decode cL_law_ 1024 = .ok (.if_icmp .eq 5, 3) := by decide +kernel
theorem dL_law__1027 : decode cL_law_ 1027 = .ok (.iconst 0, 1) := by decide +kernel
theorem dL_law__1028 : decode cL_law_ 1028 = .ok (.ireturn, 1) := by decide +kernel
theorem dL_law__1029 : decode cL_law_ 1029 = .ok (.iload 5, 2) := by decide +kernel
theorem dL_law__1031 : decode cL_law_ 1031 = .ok (.ifCond .ne 15, 3) := by decide +kernel
theorem dL_law__1034 : decode cL_law_ 1034 = .ok (.aload_n 3, 1) := by decide +kernel
theorem dL_law__1035 : decode cL_law_ 1035 = .ok (.iconst 0, 1) := by decide +kernel
theorem dL_law__1036 : decode cL_law_ 1036 = .ok (.laload, 1) := by decide +kernel
theorem dL_law__1037 : decode cL_law_ 1037 = .ok (.iload 6, 2) := by decide +kernel
theorem dL_law__1039 : decode cL_law_ 1039 = .ok (.i2l, 1) := by decide +kernel
theorem dL_law__1040 : decode cL_law_ 1040 = .ok (.lcmp, 1) := by decide +kernel
theorem dL_law__1041 : decode cL_law_ 1041 = .ok (.ifCond .eq 5, 3) := by decide +kernel
theorem dL_law__1044 : decode cL_law_ 1044 = .ok (.iconst 0, 1) := by decide +kernel
theorem dL_law__1045 : decode cL_law_ 1045 = .ok (.ireturn, 1) := by decide +kernel
theorem dL_law__1046 : decode cL_law_ 1046 = .ok (.goto 681, 3) := by decide +kernel
theorem dL_law__1049 : decode cL_law_ 1049 = .ok (.aload_n 1, 1) := by decide +kernel
theorem dL_law__1050 : decode cL_law_ 1050 = .ok (.invokevirtual 146, 3) := by decide +kernel
theorem dL_law__1053 : decode cL_law_ 1053 = .ok (.aload_n 2, 1) := by decide +kernel
theorem dL_law__1054 : decode cL_law_ 1054 = .ok (.invokevirtual 150, 3) := by decide +kernel
theorem dL_law__1057 : decode cL_law_ 1057 = .ok (.lcmp, 1) := by decide +kernel
theorem dL_law__1058 : decode cL_law_ 1058 = .ok (.ifCond .eq 669, 3) := by decide +kernel
theorem dL_law__1061 : decode cL_law_ 1061 = .ok (.iconst 0, 1) := by decide +kernel
theorem dL_law__1062 : decode cL_law_ 1062 = .ok (.ireturn, 1) := by decide +kernel
theorem dL_law__1063 : decode cL_law_ 1063 = .ok (.aload_n 1, 1) := by decide +kernel
theorem dL_law__1064 : decode cL_law_ 1064 = .ok (.aload_n 0, 1) := by decide +kernel
theorem dL_law__1065 : decode cL_law_ 1065 = .ok (.iload 4, 2) := by decide +kernel
theorem dL_law__1067 : decode cL_law_ 1067 = .ok (.iconst 1, 1) := by decide +kernel
theorem dL_law__1068 : decode cL_law_ 1068 = .ok (.iadd, 1) := by decide +kernel
theorem dL_law__1069 : decode cL_law_ 1069 = .ok (.iaload, 1) := by decide +kernel
theorem dL_law__1070 : decode cL_law_ 1070 = .ok (.aload_n 0, 1) := by decide +kernel
theorem dL_law__1071 : decode cL_law_ 1071 = .ok (.iload 4, 2) := by decide +kernel
theorem dL_law__1073 : decode cL_law_ 1073 = .ok (.iconst 2, 1) := by decide +kernel
theorem dL_law__1074 : decode cL_law_ 1074 = .ok (.iadd, 1) := by decide +kernel
theorem dL_law__1075 : decode cL_law_ 1075 = .ok (.iaload, 1) := by decide +kernel
theorem dL_law__1076 : decode cL_law_ 1076 = .ok (.aload_n 3, 1) := by decide +kernel
theorem dL_law__1077 : decode cL_law_ 1077 = .ok (.invokestatic 151, 3) := by decide +kernel
theorem dL_law__1080 : decode cL_law_ 1080 = .ok (.istore 5, 2) := by decide +kernel
theorem dL_law__1082 : decode cL_law_ 1082 = .ok (.aload_n 2, 1) := by decide +kernel
theorem dL_law__1083 : decode cL_law_ 1083 = .ok (.aload_n 0, 1) := by decide +kernel
theorem dL_law__1084 : decode cL_law_ 1084 = .ok (.iload 4, 2) := by decide +kernel
theorem dL_law__1086 : decode cL_law_ 1086 = .ok (.iconst 1, 1) := by decide +kernel
theorem dL_law__1087 : decode cL_law_ 1087 = .ok (.iadd, 1) := by decide +kernel
theorem dL_law__1088 : decode cL_law_ 1088 = .ok (.iaload, 1) := by decide +kernel
theorem dL_law__1089 : decode cL_law_ 1089 = .ok (.aload_n 0, 1) := by decide +kernel
theorem dL_law__1090 : decode cL_law_ 1090 = .ok (.iload 4, 2) := by decide +kernel
theorem dL_law__1092 : decode cL_law_ 1092 = .ok (.iconst 2, 1) := by decide +kernel
theorem dL_law__1093 : decode cL_law_ 1093 = .ok (.iadd, 1) := by decide +kernel
theorem dL_law__1094 : decode cL_law_ 1094 = .ok (.iaload, 1) := by decide +kernel
theorem dL_law__1095 : decode cL_law_ 1095 = .ok (.invokevirtual 153, 3) := by decide +kernel
theorem dL_law__1098 : decode cL_law_ 1098 = .ok (.istore 6, 2) := by decide +kernel
theorem dL_law__1100 : decode cL_law_ 1100 = .ok (.aload_n 2, 1) := by decide +kernel
theorem dL_law__1101 : decode cL_law_ 1101 = .ok (.invokevirtual 99, 3) := by decide +kernel
theorem dL_law__1104 : decode cL_law_ 1104 = .ok (.iload 5, 2) := by decide +kernel
theorem dL_law__1106 : decode cL_law_ 1106 = .ok (.if_icmp .eq 5, 3) := by decide +kernel
theorem dL_law__1109 : decode cL_law_ 1109 = .ok (.iconst 0, 1) := by decide +kernel
theorem dL_law__1110 : decode cL_law_ 1110 = .ok (.ireturn, 1) := by decide +kernel
theorem dL_law__1111 : decode cL_law_ 1111 = .ok (.iload 5, 2) := by decide +kernel
theorem dL_law__1113 : decode cL_law_ 1113 = .ok (.ifCond .ne 15, 3) := by decide +kernel
theorem dL_law__1116 : decode cL_law_ 1116 = .ok (.aload_n 3, 1) := by decide +kernel
theorem dL_law__1117 : decode cL_law_ 1117 = .ok (.iconst 0, 1) := by decide +kernel
theorem dL_law__1118 : decode cL_law_ 1118 = .ok (.laload, 1) := by decide +kernel
theorem dL_law__1119 : decode cL_law_ 1119 = .ok (.iload 6, 2) := by decide +kernel
theorem dL_law__1121 : decode cL_law_ 1121 = .ok (.i2l, 1) := by decide +kernel
theorem dL_law__1122 : decode cL_law_ 1122 = .ok (.lcmp, 1) := by decide +kernel
theorem dL_law__1123 : decode cL_law_ 1123 = .ok (.ifCond .eq 5, 3) := by decide +kernel
theorem dL_law__1126 : decode cL_law_ 1126 = .ok (.iconst 0, 1) := by decide +kernel
theorem dL_law__1127 : decode cL_law_ 1127 = .ok (.ireturn, 1) := by decide +kernel
theorem dL_law__1128 : decode cL_law_ 1128 = .ok (.goto 599, 3) := by decide +kernel
theorem dL_law__1131 : decode cL_law_ 1131 = .ok (.aload_n 1, 1) := by decide +kernel
theorem dL_law__1132 : decode cL_law_ 1132 = .ok (.aload_n 0, 1) := by decide +kernel
theorem dL_law__1133 : decode cL_law_ 1133 = .ok (.iload 4, 2) := by decide +kernel
theorem dL_law__1135 : decode cL_law_ 1135 = .ok (.iconst 1, 1) := by decide +kernel
theorem dL_law__1136 : decode cL_law_ 1136 = .ok (.iadd, 1) := by decide +kernel
theorem dL_law__1137 : decode cL_law_ 1137 = .ok (.iaload, 1) := by decide +kernel
theorem dL_law__1138 : decode cL_law_ 1138 = .ok (.aload_n 3, 1) := by decide +kernel
theorem dL_law__1139 : decode cL_law_ 1139 = .ok (.invokestatic 154, 3) := by decide +kernel
theorem dL_law__1142 : decode cL_law_ 1142 = .ok (.istore 5, 2) := by decide +kernel
theorem dL_law__1144 : decode cL_law_ 1144 = .ok (.aload_n 2, 1) := by decide +kernel
theorem dL_law__1145 : decode cL_law_ 1145 = .ok (.aload_n 0, 1) := by decide +kernel
theorem dL_law__1146 : decode cL_law_ 1146 = .ok (.iload 4, 2) := by decide +kernel
theorem dL_law__1148 : decode cL_law_ 1148 = .ok (.iconst 1, 1) := by decide +kernel
theorem dL_law__1149 : decode cL_law_ 1149 = .ok (.iadd, 1) := by decide +kernel
theorem dL_law__1150 : decode cL_law_ 1150 = .ok (.iaload, 1) := by decide +kernel
theorem dL_law__1151 : decode cL_law_ 1151 = .ok (.invokevirtual 156, 3) := by decide +kernel
theorem dL_law__1154 : decode cL_law_ 1154 = .ok (.istore 6, 2) := by decide +kernel
theorem dL_law__1156 : decode cL_law_ 1156 = .ok (.aload_n 2, 1) := by decide +kernel
theorem dL_law__1157 : decode cL_law_ 1157 = .ok (.invokevirtual 99, 3) := by decide +kernel
theorem dL_law__1160 : decode cL_law_ 1160 = .ok (.iload 5, 2) := by decide +kernel
theorem dL_law__1162 : decode cL_law_ 1162 = .ok (.if_icmp .eq 5, 3) := by decide +kernel
theorem dL_law__1165 : decode cL_law_ 1165 = .ok (.iconst 0, 1) := by decide +kernel
theorem dL_law__1166 : decode cL_law_ 1166 = .ok (.ireturn, 1) := by decide +kernel
theorem dL_law__1167 : decode cL_law_ 1167 = .ok (.iload 5, 2) := by decide +kernel
theorem dL_law__1169 : decode cL_law_ 1169 = .ok (.ifCond .ne 22, 3) := by decide +kernel
theorem dL_law__1172 : decode cL_law_ 1172 = .ok (.aload_n 3, 1) := by decide +kernel
theorem dL_law__1173 : decode cL_law_ 1173 = .ok (.iconst 0, 1) := by decide +kernel
theorem dL_law__1174 : decode cL_law_ 1174 = .ok (.laload, 1) := by decide +kernel
theorem dL_law__1175 : decode cL_law_ 1175 = .ok (.iload 6, 2) := by decide +kernel
theorem dL_law__1177 : decode cL_law_ 1177 = .ok (.ifCond .eq 7, 3) := by decide +kernel
theorem dL_law__1180 : decode cL_law_ 1180 = .ok (.lconst 1, 1) := by decide +kernel
theorem dL_law__1181 : decode cL_law_ 1181 = .ok (.goto 4, 3) := by decide +kernel
theorem dL_law__1184 : decode cL_law_ 1184 = .ok (.lconst 0, 1) := by decide +kernel
theorem dL_law__1185 : decode cL_law_ 1185 = .ok (.lcmp, 1) := by decide +kernel
theorem dL_law__1186 : decode cL_law_ 1186 = .ok (.ifCond .eq 5, 3) := by decide +kernel
theorem dL_law__1189 : decode cL_law_ 1189 = .ok (.iconst 0, 1) := by decide +kernel
theorem dL_law__1190 : decode cL_law_ 1190 = .ok (.ireturn, 1) := by decide +kernel
theorem dL_law__1191 : decode cL_law_ 1191 = .ok (.goto 536, 3) := by decide +kernel
theorem dL_law__1194 : decode cL_law_ 1194 = .ok (.aload_n 1, 1) := by decide +kernel
theorem dL_law__1195 : decode cL_law_ 1195 = .ok (.aload_n 0, 1) := by decide +kernel
theorem dL_law__1196 : decode cL_law_ 1196 = .ok (.iload 4, 2) := by decide +kernel
theorem dL_law__1198 : decode cL_law_ 1198 = .ok (.iconst 1, 1) := by decide +kernel
theorem dL_law__1199 : decode cL_law_ 1199 = .ok (.iadd, 1) := by decide +kernel
theorem dL_law__1200 : decode cL_law_ 1200 = .ok (.iaload, 1) := by decide +kernel
theorem dL_law__1201 : decode cL_law_ 1201 = .ok (.aload_n 0, 1) := by decide +kernel
theorem dL_law__1202 : decode cL_law_ 1202 = .ok (.iload 4, 2) := by decide +kernel
theorem dL_law__1204 : decode cL_law_ 1204 = .ok (.iconst 2, 1) := by decide +kernel
theorem dL_law__1205 : decode cL_law_ 1205 = .ok (.iadd, 1) := by decide +kernel
theorem dL_law__1206 : decode cL_law_ 1206 = .ok (.iaload, 1) := by decide +kernel
theorem dL_law__1207 : decode cL_law_ 1207 = .ok (.aload_n 3, 1) := by decide +kernel
theorem dL_law__1208 : decode cL_law_ 1208 = .ok (.invokestatic 157, 3) := by decide +kernel
theorem dL_law__1211 : decode cL_law_ 1211 = .ok (.istore 5, 2) := by decide +kernel
theorem dL_law__1213 : decode cL_law_ 1213 = .ok (.aload_n 2, 1) := by decide +kernel
theorem dL_law__1214 : decode cL_law_ 1214 = .ok (.aload_n 0, 1) := by decide +kernel
theorem dL_law__1215 : decode cL_law_ 1215 = .ok (.iload 4, 2) := by decide +kernel
theorem dL_law__1217 : decode cL_law_ 1217 = .ok (.iconst 1, 1) := by decide +kernel
theorem dL_law__1218 : decode cL_law_ 1218 = .ok (.iadd, 1) := by decide +kernel
theorem dL_law__1219 : decode cL_law_ 1219 = .ok (.iaload, 1) := by decide +kernel
theorem dL_law__1220 : decode cL_law_ 1220 = .ok (.aload_n 0, 1) := by decide +kernel
theorem dL_law__1221 : decode cL_law_ 1221 = .ok (.iload 4, 2) := by decide +kernel
theorem dL_law__1223 : decode cL_law_ 1223 = .ok (.iconst 2, 1) := by decide +kernel
theorem dL_law__1224 : decode cL_law_ 1224 = .ok (.iadd, 1) := by decide +kernel
theorem dL_law__1225 : decode cL_law_ 1225 = .ok (.iaload, 1) := by decide +kernel
theorem dL_law__1226 : decode cL_law_ 1226 = .ok (.invokevirtual 159, 3) := by decide +kernel
theorem dL_law__1229 : decode cL_law_ 1229 = .ok (.lstore 6, 2) := by decide +kernel
theorem dL_law__1231 : decode cL_law_ 1231 = .ok (.aload_n 2, 1) := by decide +kernel
theorem dL_law__1232 : decode cL_law_ 1232 = .ok (.invokevirtual 99, 3) := by decide +kernel
theorem dL_law__1235 : decode cL_law_ 1235 = .ok (.iload 5, 2) := by decide +kernel
theorem dL_law__1237 : decode cL_law_ 1237 = .ok (.if_icmp .eq 5, 3) := by decide +kernel
theorem dL_law__1240 : decode cL_law_ 1240 = .ok (.iconst 0, 1) := by decide +kernel
theorem dL_law__1241 : decode cL_law_ 1241 = .ok (.ireturn, 1) := by decide +kernel
theorem dL_law__1242 : decode cL_law_ 1242 = .ok (.iload 5, 2) := by decide +kernel
theorem dL_law__1244 : decode cL_law_ 1244 = .ok (.ifCond .ne 14, 3) := by decide +kernel
theorem dL_law__1247 : decode cL_law_ 1247 = .ok (.aload_n 3, 1) := by decide +kernel
theorem dL_law__1248 : decode cL_law_ 1248 = .ok (.iconst 0, 1) := by decide +kernel
theorem dL_law__1249 : decode cL_law_ 1249 = .ok (.laload, 1) := by decide +kernel
theorem dL_law__1250 : decode cL_law_ 1250 = .ok (.lload 6, 2) := by decide +kernel
theorem dL_law__1252 : decode cL_law_ 1252 = .ok (.lcmp, 1) := by decide +kernel
theorem dL_law__1253 : decode cL_law_ 1253 = .ok (.ifCond .eq 5, 3) := by decide +kernel
theorem dL_law__1256 : decode cL_law_ 1256 = .ok (.iconst 0, 1) := by decide +kernel
theorem dL_law__1257 : decode cL_law_ 1257 = .ok (.ireturn, 1) := by decide +kernel
theorem dL_law__1258 : decode cL_law_ 1258 = .ok (.goto 469, 3) := by decide +kernel
theorem dL_law__1261 : decode cL_law_ 1261 = .ok (.aload_n 1, 1) := by decide +kernel
theorem dL_law__1262 : decode cL_law_ 1262 = .ok (.aload_n 0, 1) := by decide +kernel
theorem dL_law__1263 : decode cL_law_ 1263 = .ok (.iload 4, 2) := by decide +kernel
theorem dL_law__1265 : decode cL_law_ 1265 = .ok (.iconst 1, 1) := by decide +kernel
theorem dL_law__1266 : decode cL_law_ 1266 = .ok (.iadd, 1) := by decide +kernel
theorem dL_law__1267 : decode cL_law_ 1267 = .ok (.iaload, 1) := by decide +kernel
theorem dL_law__1268 : decode cL_law_ 1268 = .ok (.aload_n 0, 1) := by decide +kernel
theorem dL_law__1269 : decode cL_law_ 1269 = .ok (.iload 4, 2) := by decide +kernel
theorem dL_law__1271 : decode cL_law_ 1271 = .ok (.iconst 2, 1) := by decide +kernel
theorem dL_law__1272 : decode cL_law_ 1272 = .ok (.iadd, 1) := by decide +kernel
theorem dL_law__1273 : decode cL_law_ 1273 = .ok (.iaload, 1) := by decide +kernel
theorem dL_law__1274 : decode cL_law_ 1274 = .ok (.aload_n 0, 1) := by decide +kernel
theorem dL_law__1275 : decode cL_law_ 1275 = .ok (.iload 4, 2) := by decide +kernel
theorem dL_law__1277 : decode cL_law_ 1277 = .ok (.iconst 3, 1) := by decide +kernel
theorem dL_law__1278 : decode cL_law_ 1278 = .ok (.iadd, 1) := by decide +kernel
theorem dL_law__1279 : decode cL_law_ 1279 = .ok (.iaload, 1) := by decide +kernel
theorem dL_law__1280 : decode cL_law_ 1280 = .ok (.ifCond .eq 7, 3) := by decide +kernel
theorem dL_law__1283 : decode cL_law_ 1283 = .ok (.iconst 1, 1) := by decide +kernel
theorem dL_law__1284 : decode cL_law_ 1284 = .ok (.goto 4, 3) := by decide +kernel
theorem dL_law__1287 : decode cL_law_ 1287 = .ok (.iconst 0, 1) := by decide +kernel
theorem dL_law__1288 : decode cL_law_ 1288 = .ok (.aload_n 3, 1) := by decide +kernel
theorem dL_law__1289 : decode cL_law_ 1289 = .ok (.invokestatic 160, 3) := by decide +kernel
theorem dL_law__1292 : decode cL_law_ 1292 = .ok (.istore 5, 2) := by decide +kernel
theorem dL_law__1294 : decode cL_law_ 1294 = .ok (.aload_n 2, 1) := by decide +kernel
theorem dL_law__1295 : decode cL_law_ 1295 = .ok (.aload_n 0, 1) := by decide +kernel
theorem dL_law__1296 : decode cL_law_ 1296 = .ok (.iload 4, 2) := by decide +kernel
theorem dL_law__1298 : decode cL_law_ 1298 = .ok (.iconst 1, 1) := by decide +kernel
theorem dL_law__1299 : decode cL_law_ 1299 = .ok (.iadd, 1) := by decide +kernel
theorem dL_law__1300 : decode cL_law_ 1300 = .ok (.iaload, 1) := by decide +kernel
theorem dL_law__1301 : decode cL_law_ 1301 = .ok (.aload_n 0, 1) := by decide +kernel
theorem dL_law__1302 : decode cL_law_ 1302 = .ok (.iload 4, 2) := by decide +kernel
theorem dL_law__1304 : decode cL_law_ 1304 = .ok (.iconst 2, 1) := by decide +kernel
theorem dL_law__1305 : decode cL_law_ 1305 = .ok (.iadd, 1) := by decide +kernel
theorem dL_law__1306 : decode cL_law_ 1306 = .ok (.iaload, 1) := by decide +kernel
theorem dL_law__1307 : decode cL_law_ 1307 = .ok (.aload_n 0, 1) := by decide +kernel
theorem dL_law__1308 : decode cL_law_ 1308 = .ok (.iload 4, 2) := by decide +kernel
theorem dL_law__1310 : decode cL_law_ 1310 = .ok (.iconst 3, 1) := by decide +kernel
theorem dL_law__1311 : decode cL_law_ 1311 = .ok (.iadd, 1) := by decide +kernel
theorem dL_law__1312 : decode cL_law_ 1312 = .ok (.iaload, 1) := by decide +kernel
theorem dL_law__1313 : decode cL_law_ 1313 = .ok (.ifCond .eq 7, 3) := by decide +kernel
theorem dL_law__1316 : decode cL_law_ 1316 = .ok (.iconst 1, 1) := by decide +kernel
theorem dL_law__1317 : decode cL_law_ 1317 = .ok (.goto 4, 3) := by decide +kernel
theorem dL_law__1320 : decode cL_law_ 1320 = .ok (.iconst 0, 1) := by decide +kernel
theorem dL_law__1321 : decode cL_law_ 1321 = .ok (.invokevirtual 163, 3) := by decide +kernel
theorem dL_law__1324 : decode cL_law_ 1324 = .ok (.lstore 6, 2) := by decide +kernel
theorem dL_law__1326 : decode cL_law_ 1326 = .ok (.aload_n 2, 1) := by decide +kernel
theorem dL_law__1327 : decode cL_law_ 1327 = .ok (.invokevirtual 99, 3) := by decide +kernel
theorem dL_law__1330 : decode cL_law_ 1330 = .ok (.iload 5, 2) := by decide +kernel
theorem dL_law__1332 : decode cL_law_ 1332 = .ok (.if_icmp .eq 5, 3) := by decide +kernel
theorem dL_law__1335 : decode cL_law_ 1335 = .ok (.iconst 0, 1) := by decide +kernel
theorem dL_law__1336 : decode cL_law_ 1336 = .ok (.ireturn, 1) := by decide +kernel
theorem dL_law__1337 : decode cL_law_ 1337 = .ok (.iload 5, 2) := by decide +kernel
theorem dL_law__1339 : decode cL_law_ 1339 = .ok (.ifCond .ne 14, 3) := by decide +kernel
theorem dL_law__1342 : decode cL_law_ 1342 = .ok (.aload_n 3, 1) := by decide +kernel
theorem dL_law__1343 : decode cL_law_ 1343 = .ok (.iconst 0, 1) := by decide +kernel
theorem dL_law__1344 : decode cL_law_ 1344 = .ok (.laload, 1) := by decide +kernel
theorem dL_law__1345 : decode cL_law_ 1345 = .ok (.lload 6, 2) := by decide +kernel
theorem dL_law__1347 : decode cL_law_ 1347 = .ok (.lcmp, 1) := by decide +kernel
theorem dL_law__1348 : decode cL_law_ 1348 = .ok (.ifCond .eq 5, 3) := by decide +kernel
theorem dL_law__1351 : decode cL_law_ 1351 = .ok (.iconst 0, 1) := by decide +kernel
theorem dL_law__1352 : decode cL_law_ 1352 = .ok (.ireturn, 1) := by decide +kernel
theorem dL_law__1353 : decode cL_law_ 1353 = .ok (.goto 374, 3) := by decide +kernel
theorem dL_law__1356 : decode cL_law_ 1356 = .ok (.aload_n 1, 1) := by decide +kernel
theorem dL_law__1357 : decode cL_law_ 1357 = .ok (.aload_n 0, 1) := by decide +kernel
theorem dL_law__1358 : decode cL_law_ 1358 = .ok (.iload 4, 2) := by decide +kernel
theorem dL_law__1360 : decode cL_law_ 1360 = .ok (.iconst 1, 1) := by decide +kernel
theorem dL_law__1361 : decode cL_law_ 1361 = .ok (.iadd, 1) := by decide +kernel
theorem dL_law__1362 : decode cL_law_ 1362 = .ok (.iaload, 1) := by decide +kernel
theorem dL_law__1363 : decode cL_law_ 1363 = .ok (.aload_n 0, 1) := by decide +kernel
theorem dL_law__1364 : decode cL_law_ 1364 = .ok (.iload 4, 2) := by decide +kernel
theorem dL_law__1366 : decode cL_law_ 1366 = .ok (.iconst 2, 1) := by decide +kernel
theorem dL_law__1367 : decode cL_law_ 1367 = .ok (.iadd, 1) := by decide +kernel
theorem dL_law__1368 : decode cL_law_ 1368 = .ok (.iaload, 1) := by decide +kernel
theorem dL_law__1369 : decode cL_law_ 1369 = .ok (.aload_n 3, 1) := by decide +kernel
theorem dL_law__1370 : decode cL_law_ 1370 = .ok (.invokestatic 164, 3) := by decide +kernel
theorem dL_law__1373 : decode cL_law_ 1373 = .ok (.istore 5, 2) := by decide +kernel
theorem dL_law__1375 : decode cL_law_ 1375 = .ok (.aload_n 2, 1) := by decide +kernel
theorem dL_law__1376 : decode cL_law_ 1376 = .ok (.aload_n 0, 1) := by decide +kernel
theorem dL_law__1377 : decode cL_law_ 1377 = .ok (.iload 4, 2) := by decide +kernel
theorem dL_law__1379 : decode cL_law_ 1379 = .ok (.iconst 1, 1) := by decide +kernel
theorem dL_law__1380 : decode cL_law_ 1380 = .ok (.iadd, 1) := by decide +kernel
theorem dL_law__1381 : decode cL_law_ 1381 = .ok (.iaload, 1) := by decide +kernel
theorem dL_law__1382 : decode cL_law_ 1382 = .ok (.aload_n 0, 1) := by decide +kernel
theorem dL_law__1383 : decode cL_law_ 1383 = .ok (.iload 4, 2) := by decide +kernel
theorem dL_law__1385 : decode cL_law_ 1385 = .ok (.iconst 2, 1) := by decide +kernel
theorem dL_law__1386 : decode cL_law_ 1386 = .ok (.iadd, 1) := by decide +kernel
theorem dL_law__1387 : decode cL_law_ 1387 = .ok (.iaload, 1) := by decide +kernel
theorem dL_law__1388 : decode cL_law_ 1388 = .ok (.invokevirtual 166, 3) := by decide +kernel
theorem dL_law__1391 : decode cL_law_ 1391 = .ok (.istore 6, 2) := by decide +kernel
theorem dL_law__1393 : decode cL_law_ 1393 = .ok (.aload_n 2, 1) := by decide +kernel
theorem dL_law__1394 : decode cL_law_ 1394 = .ok (.invokevirtual 99, 3) := by decide +kernel
theorem dL_law__1397 : decode cL_law_ 1397 = .ok (.iload 5, 2) := by decide +kernel
theorem dL_law__1399 : decode cL_law_ 1399 = .ok (.if_icmp .eq 5, 3) := by decide +kernel
theorem dL_law__1402 : decode cL_law_ 1402 = .ok (.iconst 0, 1) := by decide +kernel
theorem dL_law__1403 : decode cL_law_ 1403 = .ok (.ireturn, 1) := by decide +kernel
theorem dL_law__1404 : decode cL_law_ 1404 = .ok (.iload 5, 2) := by decide +kernel
theorem dL_law__1406 : decode cL_law_ 1406 = .ok (.ifCond .ne 22, 3) := by decide +kernel
theorem dL_law__1409 : decode cL_law_ 1409 = .ok (.aload_n 3, 1) := by decide +kernel
theorem dL_law__1410 : decode cL_law_ 1410 = .ok (.iconst 0, 1) := by decide +kernel
theorem dL_law__1411 : decode cL_law_ 1411 = .ok (.laload, 1) := by decide +kernel
theorem dL_law__1412 : decode cL_law_ 1412 = .ok (.iload 6, 2) := by decide +kernel
theorem dL_law__1414 : decode cL_law_ 1414 = .ok (.ifCond .eq 7, 3) := by decide +kernel
theorem dL_law__1417 : decode cL_law_ 1417 = .ok (.lconst 1, 1) := by decide +kernel
theorem dL_law__1418 : decode cL_law_ 1418 = .ok (.goto 4, 3) := by decide +kernel
theorem dL_law__1421 : decode cL_law_ 1421 = .ok (.lconst 0, 1) := by decide +kernel
theorem dL_law__1422 : decode cL_law_ 1422 = .ok (.lcmp, 1) := by decide +kernel
theorem dL_law__1423 : decode cL_law_ 1423 = .ok (.ifCond .eq 5, 3) := by decide +kernel
theorem dL_law__1426 : decode cL_law_ 1426 = .ok (.iconst 0, 1) := by decide +kernel
theorem dL_law__1427 : decode cL_law_ 1427 = .ok (.ireturn, 1) := by decide +kernel
theorem dL_law__1428 : decode cL_law_ 1428 = .ok (.goto 299, 3) := by decide +kernel
theorem dL_law__1431 : decode cL_law_ 1431 = .ok (.aload_n 1, 1) := by decide +kernel
theorem dL_law__1432 : decode cL_law_ 1432 = .ok (.aload_n 0, 1) := by decide +kernel
theorem dL_law__1433 : decode cL_law_ 1433 = .ok (.iload 4, 2) := by decide +kernel
theorem dL_law__1435 : decode cL_law_ 1435 = .ok (.iconst 1, 1) := by decide +kernel
theorem dL_law__1436 : decode cL_law_ 1436 = .ok (.iadd, 1) := by decide +kernel
theorem dL_law__1437 : decode cL_law_ 1437 = .ok (.iaload, 1) := by decide +kernel
theorem dL_law__1438 : decode cL_law_ 1438 = .ok (.aload_n 0, 1) := by decide +kernel
theorem dL_law__1439 : decode cL_law_ 1439 = .ok (.iload 4, 2) := by decide +kernel
theorem dL_law__1441 : decode cL_law_ 1441 = .ok (.iconst 2, 1) := by decide +kernel
theorem dL_law__1442 : decode cL_law_ 1442 = .ok (.iadd, 1) := by decide +kernel
theorem dL_law__1443 : decode cL_law_ 1443 = .ok (.iaload, 1) := by decide +kernel
theorem dL_law__1444 : decode cL_law_ 1444 = .ok (.aload_n 0, 1) := by decide +kernel
theorem dL_law__1445 : decode cL_law_ 1445 = .ok (.iload 4, 2) := by decide +kernel
theorem dL_law__1447 : decode cL_law_ 1447 = .ok (.iconst 3, 1) := by decide +kernel
theorem dL_law__1448 : decode cL_law_ 1448 = .ok (.iadd, 1) := by decide +kernel
theorem dL_law__1449 : decode cL_law_ 1449 = .ok (.iaload, 1) := by decide +kernel
theorem dL_law__1450 : decode cL_law_ 1450 = .ok (.aload_n 0, 1) := by decide +kernel
theorem dL_law__1451 : decode cL_law_ 1451 = .ok (.iload 4, 2) := by decide +kernel
theorem dL_law__1453 : decode cL_law_ 1453 = .ok (.iconst 4, 1) := by decide +kernel
theorem dL_law__1454 : decode cL_law_ 1454 = .ok (.iadd, 1) := by decide +kernel
theorem dL_law__1455 : decode cL_law_ 1455 = .ok (.iaload, 1) := by decide +kernel
theorem dL_law__1456 : decode cL_law_ 1456 = .ok (.aload_n 3, 1) := by decide +kernel
theorem dL_law__1457 : decode cL_law_ 1457 = .ok (.invokestatic 167, 3) := by decide +kernel
theorem dL_law__1460 : decode cL_law_ 1460 = .ok (.istore 5, 2) := by decide +kernel
theorem dL_law__1462 : decode cL_law_ 1462 = .ok (.aload_n 2, 1) := by decide +kernel
theorem dL_law__1463 : decode cL_law_ 1463 = .ok (.aload_n 0, 1) := by decide +kernel
theorem dL_law__1464 : decode cL_law_ 1464 = .ok (.iload 4, 2) := by decide +kernel
theorem dL_law__1466 : decode cL_law_ 1466 = .ok (.iconst 1, 1) := by decide +kernel
theorem dL_law__1467 : decode cL_law_ 1467 = .ok (.iadd, 1) := by decide +kernel
theorem dL_law__1468 : decode cL_law_ 1468 = .ok (.iaload, 1) := by decide +kernel
theorem dL_law__1469 : decode cL_law_ 1469 = .ok (.aload_n 0, 1) := by decide +kernel
theorem dL_law__1470 : decode cL_law_ 1470 = .ok (.iload 4, 2) := by decide +kernel
theorem dL_law__1472 : decode cL_law_ 1472 = .ok (.iconst 2, 1) := by decide +kernel
theorem dL_law__1473 : decode cL_law_ 1473 = .ok (.iadd, 1) := by decide +kernel
theorem dL_law__1474 : decode cL_law_ 1474 = .ok (.iaload, 1) := by decide +kernel
theorem dL_law__1475 : decode cL_law_ 1475 = .ok (.aload_n 0, 1) := by decide +kernel
theorem dL_law__1476 : decode cL_law_ 1476 = .ok (.iload 4, 2) := by decide +kernel
theorem dL_law__1478 : decode cL_law_ 1478 = .ok (.iconst 3, 1) := by decide +kernel
theorem dL_law__1479 : decode cL_law_ 1479 = .ok (.iadd, 1) := by decide +kernel
theorem dL_law__1480 : decode cL_law_ 1480 = .ok (.iaload, 1) := by decide +kernel
theorem dL_law__1481 : decode cL_law_ 1481 = .ok (.aload_n 0, 1) := by decide +kernel
theorem dL_law__1482 : decode cL_law_ 1482 = .ok (.iload 4, 2) := by decide +kernel
theorem dL_law__1484 : decode cL_law_ 1484 = .ok (.iconst 4, 1) := by decide +kernel
theorem dL_law__1485 : decode cL_law_ 1485 = .ok (.iadd, 1) := by decide +kernel
theorem dL_law__1486 : decode cL_law_ 1486 = .ok (.iaload, 1) := by decide +kernel
theorem dL_law__1487 : decode cL_law_ 1487 = .ok (.invokevirtual 169, 3) := by decide +kernel
theorem dL_law__1490 : decode cL_law_ 1490 = .ok (.istore 6, 2) := by decide +kernel
theorem dL_law__1492 : decode cL_law_ 1492 = .ok (.aload_n 2, 1) := by decide +kernel
theorem dL_law__1493 : decode cL_law_ 1493 = .ok (.invokevirtual 99, 3) := by decide +kernel
theorem dL_law__1496 : decode cL_law_ 1496 = .ok (.iload 5, 2) := by decide +kernel
theorem dL_law__1498 : decode cL_law_ 1498 = .ok (.if_icmp .eq 5, 3) := by decide +kernel
theorem dL_law__1501 : decode cL_law_ 1501 = .ok (.iconst 0, 1) := by decide +kernel
theorem dL_law__1502 : decode cL_law_ 1502 = .ok (.ireturn, 1) := by decide +kernel
theorem dL_law__1503 : decode cL_law_ 1503 = .ok (.iload 5, 2) := by decide +kernel
theorem dL_law__1505 : decode cL_law_ 1505 = .ok (.ifCond .ne 15, 3) := by decide +kernel
theorem dL_law__1508 : decode cL_law_ 1508 = .ok (.aload_n 3, 1) := by decide +kernel
theorem dL_law__1509 : decode cL_law_ 1509 = .ok (.iconst 0, 1) := by decide +kernel
theorem dL_law__1510 : decode cL_law_ 1510 = .ok (.laload, 1) := by decide +kernel
theorem dL_law__1511 : decode cL_law_ 1511 = .ok (.iload 6, 2) := by decide +kernel
theorem dL_law__1513 : decode cL_law_ 1513 = .ok (.i2l, 1) := by decide +kernel
theorem dL_law__1514 : decode cL_law_ 1514 = .ok (.lcmp, 1) := by decide +kernel
theorem dL_law__1515 : decode cL_law_ 1515 = .ok (.ifCond .eq 5, 3) := by decide +kernel
theorem dL_law__1518 : decode cL_law_ 1518 = .ok (.iconst 0, 1) := by decide +kernel
theorem dL_law__1519 : decode cL_law_ 1519 = .ok (.ireturn, 1) := by decide +kernel
theorem dL_law__1520 : decode cL_law_ 1520 = .ok (.goto 207, 3) := by decide +kernel
theorem dL_law__1523 : decode cL_law_ 1523 = .ok (.aload_n 1, 1) := by decide +kernel
theorem dL_law__1524 : decode cL_law_ 1524 = .ok (.aload_n 0, 1) := by decide +kernel
theorem dL_law__1525 : decode cL_law_ 1525 = .ok (.iload 4, 2) := by decide +kernel
theorem dL_law__1527 : decode cL_law_ 1527 = .ok (.iconst 1, 1) := by decide +kernel
theorem dL_law__1528 : decode cL_law_ 1528 = .ok (.iadd, 1) := by decide +kernel
theorem dL_law__1529 : decode cL_law_ 1529 = .ok (.iaload, 1) := by decide +kernel
theorem dL_law__1530 : decode cL_law_ 1530 = .ok (.aload_n 0, 1) := by decide +kernel
theorem dL_law__1531 : decode cL_law_ 1531 = .ok (.iload 4, 2) := by decide +kernel
theorem dL_law__1533 : decode cL_law_ 1533 = .ok (.iconst 2, 1) := by decide +kernel
theorem dL_law__1534 : decode cL_law_ 1534 = .ok (.iadd, 1) := by decide +kernel
theorem dL_law__1535 : decode cL_law_ 1535 = .ok (.iaload, 1) := by decide +kernel
theorem dL_law__1536 : decode cL_law_ 1536 = .ok (.aload_n 3, 1) := by decide +kernel
theorem dL_law__1537 : decode cL_law_ 1537 = .ok (.invokestatic 170, 3) := by decide +kernel
theorem dL_law__1540 : decode cL_law_ 1540 = .ok (.istore 5, 2) := by decide +kernel
theorem dL_law__1542 : decode cL_law_ 1542 = .ok (.aload_n 2, 1) := by decide +kernel
theorem dL_law__1543 : decode cL_law_ 1543 = .ok (.aload_n 0, 1) := by decide +kernel
theorem dL_law__1544 : decode cL_law_ 1544 = .ok (.iload 4, 2) := by decide +kernel
theorem dL_law__1546 : decode cL_law_ 1546 = .ok (.iconst 1, 1) := by decide +kernel
theorem dL_law__1547 : decode cL_law_ 1547 = .ok (.iadd, 1) := by decide +kernel
theorem dL_law__1548 : decode cL_law_ 1548 = .ok (.iaload, 1) := by decide +kernel
theorem dL_law__1549 : decode cL_law_ 1549 = .ok (.aload_n 0, 1) := by decide +kernel
theorem dL_law__1550 : decode cL_law_ 1550 = .ok (.iload 4, 2) := by decide +kernel
theorem dL_law__1552 : decode cL_law_ 1552 = .ok (.iconst 2, 1) := by decide +kernel
theorem dL_law__1553 : decode cL_law_ 1553 = .ok (.iadd, 1) := by decide +kernel
theorem dL_law__1554 : decode cL_law_ 1554 = .ok (.iaload, 1) := by decide +kernel
theorem dL_law__1555 : decode cL_law_ 1555 = .ok (.invokevirtual 172, 3) := by decide +kernel
theorem dL_law__1558 : decode cL_law_ 1558 = .ok (.istore 6, 2) := by decide +kernel
theorem dL_law__1560 : decode cL_law_ 1560 = .ok (.aload_n 2, 1) := by decide +kernel
theorem dL_law__1561 : decode cL_law_ 1561 = .ok (.invokevirtual 99, 3) := by decide +kernel
theorem dL_law__1564 : decode cL_law_ 1564 = .ok (.iload 5, 2) := by decide +kernel
theorem dL_law__1566 : decode cL_law_ 1566 = .ok (.if_icmp .eq 5, 3) := by decide +kernel
theorem dL_law__1569 : decode cL_law_ 1569 = .ok (.iconst 0, 1) := by decide +kernel
theorem dL_law__1570 : decode cL_law_ 1570 = .ok (.ireturn, 1) := by decide +kernel
theorem dL_law__1571 : decode cL_law_ 1571 = .ok (.iload 5, 2) := by decide +kernel
theorem dL_law__1573 : decode cL_law_ 1573 = .ok (.ifCond .ne 15, 3) := by decide +kernel
theorem dL_law__1576 : decode cL_law_ 1576 = .ok (.aload_n 3, 1) := by decide +kernel
theorem dL_law__1577 : decode cL_law_ 1577 = .ok (.iconst 0, 1) := by decide +kernel
theorem dL_law__1578 : decode cL_law_ 1578 = .ok (.laload, 1) := by decide +kernel
theorem dL_law__1579 : decode cL_law_ 1579 = .ok (.iload 6, 2) := by decide +kernel
theorem dL_law__1581 : decode cL_law_ 1581 = .ok (.i2l, 1) := by decide +kernel
theorem dL_law__1582 : decode cL_law_ 1582 = .ok (.lcmp, 1) := by decide +kernel
theorem dL_law__1583 : decode cL_law_ 1583 = .ok (.ifCond .eq 5, 3) := by decide +kernel
theorem dL_law__1586 : decode cL_law_ 1586 = .ok (.iconst 0, 1) := by decide +kernel
theorem dL_law__1587 : decode cL_law_ 1587 = .ok (.ireturn, 1) := by decide +kernel
theorem dL_law__1588 : decode cL_law_ 1588 = .ok (.goto 139, 3) := by decide +kernel
theorem dL_law__1591 : decode cL_law_ 1591 = .ok (.aload_n 1, 1) := by decide +kernel
theorem dL_law__1592 : decode cL_law_ 1592 = .ok (.aload_n 0, 1) := by decide +kernel
theorem dL_law__1593 : decode cL_law_ 1593 = .ok (.iload 4, 2) := by decide +kernel
theorem dL_law__1595 : decode cL_law_ 1595 = .ok (.iconst 1, 1) := by decide +kernel
theorem dL_law__1596 : decode cL_law_ 1596 = .ok (.iadd, 1) := by decide +kernel
theorem dL_law__1597 : decode cL_law_ 1597 = .ok (.iaload, 1) := by decide +kernel
theorem dL_law__1598 : decode cL_law_ 1598 = .ok (.aload_n 0, 1) := by decide +kernel
theorem dL_law__1599 : decode cL_law_ 1599 = .ok (.iload 4, 2) := by decide +kernel
theorem dL_law__1601 : decode cL_law_ 1601 = .ok (.iconst 2, 1) := by decide +kernel
theorem dL_law__1602 : decode cL_law_ 1602 = .ok (.iadd, 1) := by decide +kernel
theorem dL_law__1603 : decode cL_law_ 1603 = .ok (.iaload, 1) := by decide +kernel
theorem dL_law__1604 : decode cL_law_ 1604 = .ok (.aload_n 3, 1) := by decide +kernel
theorem dL_law__1605 : decode cL_law_ 1605 = .ok (.invokestatic 173, 3) := by decide +kernel
theorem dL_law__1608 : decode cL_law_ 1608 = .ok (.istore 5, 2) := by decide +kernel
theorem dL_law__1610 : decode cL_law_ 1610 = .ok (.aload_n 2, 1) := by decide +kernel
theorem dL_law__1611 : decode cL_law_ 1611 = .ok (.aload_n 0, 1) := by decide +kernel
theorem dL_law__1612 : decode cL_law_ 1612 = .ok (.iload 4, 2) := by decide +kernel
theorem dL_law__1614 : decode cL_law_ 1614 = .ok (.iconst 1, 1) := by decide +kernel
theorem dL_law__1615 : decode cL_law_ 1615 = .ok (.iadd, 1) := by decide +kernel
theorem dL_law__1616 : decode cL_law_ 1616 = .ok (.iaload, 1) := by decide +kernel
theorem dL_law__1617 : decode cL_law_ 1617 = .ok (.aload_n 0, 1) := by decide +kernel
theorem dL_law__1618 : decode cL_law_ 1618 = .ok (.iload 4, 2) := by decide +kernel
theorem dL_law__1620 : decode cL_law_ 1620 = .ok (.iconst 2, 1) := by decide +kernel
theorem dL_law__1621 : decode cL_law_ 1621 = .ok (.iadd, 1) := by decide +kernel
theorem dL_law__1622 : decode cL_law_ 1622 = .ok (.iaload, 1) := by decide +kernel
theorem dL_law__1623 : decode cL_law_ 1623 = .ok (.invokevirtual 175, 3) := by decide +kernel
theorem dL_law__1626 : decode cL_law_ 1626 = .ok (.istore 6, 2) := by decide +kernel
theorem dL_law__1628 : decode cL_law_ 1628 = .ok (.aload_n 2, 1) := by decide +kernel
theorem dL_law__1629 : decode cL_law_ 1629 = .ok (.invokevirtual 99, 3) := by decide +kernel
theorem dL_law__1632 : decode cL_law_ 1632 = .ok (.iload 5, 2) := by decide +kernel
theorem dL_law__1634 : decode cL_law_ 1634 = .ok (.if_icmp .eq 5, 3) := by decide +kernel
theorem dL_law__1637 : decode cL_law_ 1637 = .ok (.iconst 0, 1) := by decide +kernel
theorem dL_law__1638 : decode cL_law_ 1638 = .ok (.ireturn, 1) := by decide +kernel
theorem dL_law__1639 : decode cL_law_ 1639 = .ok (.iload 5, 2) := by decide +kernel
theorem dL_law__1641 : decode cL_law_ 1641 = .ok (.ifCond .ne 15, 3) := by decide +kernel
theorem dL_law__1644 : decode cL_law_ 1644 = .ok (.aload_n 3, 1) := by decide +kernel
theorem dL_law__1645 : decode cL_law_ 1645 = .ok (.iconst 0, 1) := by decide +kernel
theorem dL_law__1646 : decode cL_law_ 1646 = .ok (.laload, 1) := by decide +kernel
theorem dL_law__1647 : decode cL_law_ 1647 = .ok (.iload 6, 2) := by decide +kernel
theorem dL_law__1649 : decode cL_law_ 1649 = .ok (.i2l, 1) := by decide +kernel
theorem dL_law__1650 : decode cL_law_ 1650 = .ok (.lcmp, 1) := by decide +kernel
theorem dL_law__1651 : decode cL_law_ 1651 = .ok (.ifCond .eq 5, 3) := by decide +kernel
theorem dL_law__1654 : decode cL_law_ 1654 = .ok (.iconst 0, 1) := by decide +kernel
theorem dL_law__1655 : decode cL_law_ 1655 = .ok (.ireturn, 1) := by decide +kernel
theorem dL_law__1656 : decode cL_law_ 1656 = .ok (.goto 71, 3) := by decide +kernel
theorem dL_law__1659 : decode cL_law_ 1659 = .ok (.aload_n 1, 1) := by decide +kernel
theorem dL_law__1660 : decode cL_law_ 1660 = .ok (.invokevirtual 176, 3) := by decide +kernel
theorem dL_law__1663 : decode cL_law_ 1663 = .ok (.aload_n 2, 1) := by decide +kernel
theorem dL_law__1664 : decode cL_law_ 1664 = .ok (.invokevirtual 179, 3) := by decide +kernel
theorem dL_law__1667 : decode cL_law_ 1667 = .ok (.if_icmp .eq 60, 3) := by decide +kernel
theorem dL_law__1670 : decode cL_law_ 1670 = .ok (.iconst 0, 1) := by decide +kernel
theorem dL_law__1671 : decode cL_law_ 1671 = .ok (.ireturn, 1) := by decide +kernel
theorem dL_law__1672 : decode cL_law_ 1672 = .ok (.aload_n 1, 1) := by decide +kernel
theorem dL_law__1673 : decode cL_law_ 1673 = .ok (.aload_n 0, 1) := by decide +kernel
theorem dL_law__1674 : decode cL_law_ 1674 = .ok (.iload 4, 2) := by decide +kernel
theorem dL_law__1676 : decode cL_law_ 1676 = .ok (.iconst 1, 1) := by decide +kernel
theorem dL_law__1677 : decode cL_law_ 1677 = .ok (.iadd, 1) := by decide +kernel
theorem dL_law__1678 : decode cL_law_ 1678 = .ok (.iaload, 1) := by decide +kernel
theorem dL_law__1679 : decode cL_law_ 1679 = .ok (.aload_n 3, 1) := by decide +kernel
theorem dL_law__1680 : decode cL_law_ 1680 = .ok (.invokestatic 180, 3) := by decide +kernel
theorem dL_law__1683 : decode cL_law_ 1683 = .ok (.istore 5, 2) := by decide +kernel
theorem dL_law__1685 : decode cL_law_ 1685 = .ok (.aload_n 2, 1) := by decide +kernel
theorem dL_law__1686 : decode cL_law_ 1686 = .ok (.aload_n 0, 1) := by decide +kernel
theorem dL_law__1687 : decode cL_law_ 1687 = .ok (.iload 4, 2) := by decide +kernel
theorem dL_law__1689 : decode cL_law_ 1689 = .ok (.iconst 1, 1) := by decide +kernel
theorem dL_law__1690 : decode cL_law_ 1690 = .ok (.iadd, 1) := by decide +kernel
theorem dL_law__1691 : decode cL_law_ 1691 = .ok (.iaload, 1) := by decide +kernel
theorem dL_law__1692 : decode cL_law_ 1692 = .ok (.invokevirtual 182, 3) := by decide +kernel
theorem dL_law__1695 : decode cL_law_ 1695 = .ok (.lstore 6, 2) := by decide +kernel
theorem dL_law__1697 : decode cL_law_ 1697 = .ok (.aload_n 2, 1) := by decide +kernel
theorem dL_law__1698 : decode cL_law_ 1698 = .ok (.invokevirtual 99, 3) := by decide +kernel
theorem dL_law__1701 : decode cL_law_ 1701 = .ok (.iload 5, 2) := by decide +kernel
theorem dL_law__1703 : decode cL_law_ 1703 = .ok (.if_icmp .eq 5, 3) := by decide +kernel
theorem dL_law__1706 : decode cL_law_ 1706 = .ok (.iconst 0, 1) := by decide +kernel
theorem dL_law__1707 : decode cL_law_ 1707 = .ok (.ireturn, 1) := by decide +kernel
theorem dL_law__1708 : decode cL_law_ 1708 = .ok (.iload 5, 2) := by decide +kernel
theorem dL_law__1710 : decode cL_law_ 1710 = .ok (.ifCond .ne 14, 3) := by decide +kernel
theorem dL_law__1713 : decode cL_law_ 1713 = .ok (.aload_n 3, 1) := by decide +kernel
theorem dL_law__1714 : decode cL_law_ 1714 = .ok (.iconst 0, 1) := by decide +kernel
theorem dL_law__1715 : decode cL_law_ 1715 = .ok (.laload, 1) := by decide +kernel
theorem dL_law__1716 : decode cL_law_ 1716 = .ok (.lload 6, 2) := by decide +kernel
theorem dL_law__1718 : decode cL_law_ 1718 = .ok (.lcmp, 1) := by decide +kernel
theorem dL_law__1719 : decode cL_law_ 1719 = .ok (.ifCond .eq 5, 3) := by decide +kernel
theorem dL_law__1722 : decode cL_law_ 1722 = .ok (.iconst 0, 1) := by decide +kernel
theorem dL_law__1723 : decode cL_law_ 1723 = .ok (.ireturn, 1) := by decide +kernel
theorem dL_law__1724 : decode cL_law_ 1724 = .ok (.goto 3, 3) := by decide +kernel
theorem dL_law__1727 : decode cL_law_ 1727 = .ok (.iinc 4 6, 3) := by decide +kernel
theorem dL_law__1730 : decode cL_law_ 1730 = .ok (.goto (-1707), 3) := by decide +kernel
theorem dL_law__1733 : decode cL_law_ 1733 = .ok (.iconst 1, 1) := by decide +kernel
theorem dL_law__1734 : decode cL_law_ 1734 = .ok (.ireturn, 1) := by decide +kernel
abbrev vwCl : List vw_C := [(RX0, TX0, 8), (RX1, TX1, 6), (RX2, TX2, 2), (RX3, TX3, 10), (RX4, TX4, 11), (RX5, TX5, 14), (RX6, TX6, 38)]
set_option maxRecDepth 100000 in
theorem inX0 : ∀ w ∈ u_ws RX0 TX0 8, w ∈ lw_tbl := by decide +kernel
set_option maxRecDepth 100000 in
theorem inX1 : ∀ w ∈ u_ws RX1 TX1 6, w ∈ lw_tbl := by decide +kernel
set_option maxRecDepth 100000 in
theorem inX2 : ∀ w ∈ u_ws RX2 TX2 2, w ∈ lw_tbl := by decide +kernel
set_option maxRecDepth 100000 in
theorem inX3 : ∀ w ∈ u_ws RX3 TX3 10, w ∈ lw_tbl := by decide +kernel
set_option maxRecDepth 100000 in
theorem inX4 : ∀ w ∈ u_ws RX4 TX4 11, w ∈ lw_tbl := by decide +kernel
set_option maxRecDepth 100000 in
theorem inX5 : ∀ w ∈ u_ws RX5 TX5 14, w ∈ lw_tbl := by decide +kernel
set_option maxRecDepth 100000 in
theorem inX6 : ∀ w ∈ u_ws RX6 TX6 38, w ∈ lw_tbl := by decide +kernel
end
section
/-! THE LAYOUT: every cell that the two constructors and the law make lies at b0 + hw_pos f i, f its family (which object or array of the source it is), i its number in the family. -/
abbrev MI : Type := Nat → Nat → Int32
abbrev MJ : Type := Nat → Nat → Int64
abbrev VF : Type := Nat → Nat → Nat → Value
def uI (I : MI) (g n : Nat) (x : Int32) : MI := fun g' n' => if g' = g ∧ n' = n then x else I g' n'
def uJ (J : MJ) (g n : Nat) (x : Int64) : MJ := fun g' n' => if g' = g ∧ n' = n then x else J g' n'

def hw_ob (f : Nat) : Bool := [true, false, true, false, false, false, true, false, false, false, true, true, false, false, false, false, true, false, false, false, false, false, false, false, false, false, true, false, false, false, false, false, false, false, false, false, false, false, false, false, false, false, false, false, false, false, false, false, false, false, false, false, false, false, false, false, false, false, false, false].getD f false
def hw_kc (f : Nat) : Nat := [5, 13, 0, 10, 12, 14, 3, 10, 10, 15, 1, 2, 16, 11, 16, 11, 4, 12, 12, 12, 10, 10, 10, 10, 10, 12, 6, 10, 11, 10, 10, 10, 12, 10, 12, 11, 11, 10, 10, 10, 10, 10, 10, 10, 10, 10, 10, 10, 10, 10, 10, 12, 10, 10, 12, 11, 11, 10, 10, 11].getD f 0
def hw_sz (f : Nat) : Nat := [14, 12, 8, 12, 12, 40, 10, 12, 12, 40, 6, 2, 12, 12, 12, 12, 11, 12, 12, 12, 12, 12, 12, 8, 8, 20, 38, 12, 12, 12, 12, 12, 12, 144, 144, 144, 144, 40, 40, 40, 40, 40, 40, 40, 40, 480, 480, 41, 41, 41, 41, 41, 8, 8, 20, 5, 12, 12, 12, 1].getD f 0
def hw_cl : List Nat := [1, 1, 12, 12, 12, 1, 40, 40, 40, 1, 40, 1, 1, 12, 1, 12, 1, 1, 1, 1, 1, 1, 1, 1, 1, 1, 1, 1, 1, 1, 1, 1, 1, 1, 1, 1, 1, 1, 1, 1, 1, 1, 1, 1, 1, 1, 1, 1, 1, 1, 1, 1, 1, 1, 1, 1, 1, 1, 1, 1]
def hw_cnt (f : Nat) : Nat := hw_cl.getD f 0
def hw_off (f : Nat) : Nat := [0, 1, 2, 3, 4, 38, 39, 40, 41, 159, 160, 200, 201, 202, 214, 215, 227, 228, 229, 230, 231, 232, 233, 234, 235, 236, 237, 238, 239, 240, 241, 242, 243, 244, 245, 246, 247, 248, 249, 250, 251, 252, 253, 254, 255, 256, 257, 258, 259, 260, 261, 262, 263, 264, 265, 266, 267, 268, 269, 270].getD f 0
def hw_st (f : Nat) : Nat := [0, 0, 3, 3, 3, 0, 3, 3, 3, 0, 1, 0, 0, 1, 0, 1, 0, 0, 0, 0, 0, 0, 0, 0, 0, 0, 0, 0, 0, 0, 0, 0, 0, 0, 0, 0, 0, 0, 0, 0, 0, 0, 0, 0, 0, 0, 0, 0, 0, 0, 0, 0, 0, 0, 0, 0, 0, 0, 0, 0].getD f 0
def hw_wd (f : Nat) : Nat := [0, 0, 0, 12, 12, 0, 0, 12, 12, 0, 0, 0, 0, 12, 0, 12, 0, 0, 0, 0, 0, 0, 0, 0, 0, 0, 0, 0, 0, 0, 0, 0, 0, 0, 0, 0, 0, 0, 0, 0, 0, 0, 0, 0, 0, 0, 0, 0, 0, 0, 0, 0, 0, 0, 0, 0, 0, 0, 0, 0].getD f 0
def hw_tb : List (List (Nat × Nat)) := [[(4, 1), (4, 5), (4, 9), (4, 11), (4, 16), (4, 23), (4, 24), (4, 25), (0, 0), (0, 1), (0, 2), (0, 3), (0, 4), (1, 3)], [(4, 2)], [(0, 5), (1, 0), (0, 6), (0, 7), (0, 8), (0, 9), (4, 3), (4, 4)], [(0, 10)], [(0, 11)], [(4, 6)], [(0, 12), (0, 13), (0, 14), (0, 15), (0, 16), (0, 17), (0, 18), (0, 19), (4, 7), (4, 8)], [(0, 20)], [(0, 21)], [(4, 10)], [(0, 22), (0, 23), (0, 24), (0, 25), (0, 26), (0, 27)], [(4, 12), (4, 14)], [(4, 13)], [(1, 1)], [(4, 15)], [(1, 2)], [(4, 1), (4, 11), (4, 17), (4, 18), (4, 19), (4, 20), (4, 21), (4, 22), (0, 37), (0, 38), (0, 39)], [(0, 31)], [(0, 32)], [(0, 33)], [(0, 34)], [(0, 35)], [(0, 36)], [(0, 28)], [(0, 29)], [(0, 30)], [(2, 40), (2, 3), (2, 4), (2, 0), (4, 27), (4, 28), (4, 29), (4, 30), (4, 31), (4, 32), (4, 33), (4, 34), (4, 35), (4, 36), (2, 1), (4, 37), (4, 38), (4, 39), (4, 40), (4, 41), (4, 42), (4, 43), (4, 44), (4, 45), (4, 46), (2, 2), (4, 47), (4, 48), (4, 49), (4, 50), (4, 51), (4, 52), (4, 53), (4, 54), (4, 55), (4, 56), (4, 57), (4, 58)], [(2, 5)], [(3, 0)], [(2, 6)], [(2, 7)], [(2, 8)], [(2, 9)], [(2, 10)], [(2, 11)], [(3, 1)], [(3, 2)], [(2, 16)], [(2, 12)], [(2, 14)], [(2, 13)], [(2, 18)], [(2, 15)], [(2, 17)], [(2, 19)], [(2, 20)], [(2, 21)], [(2, 24)], [(2, 22)], [(2, 23)], [(2, 25)], [(2, 41)], [(2, 28)], [(2, 29)], [(2, 30)], [(3, 4)], [(3, 5)], [(2, 42)], [(2, 43)], [(5, 0)]]
def hw_un : List (Nat × Nat) := [(0, 0), (1, 0), (2, 0), (3, 0), (4, 0), (2, 1), (3, 1), (4, 1), (2, 2), (3, 2), (4, 2), (2, 3), (3, 3), (4, 3), (2, 4), (3, 4), (4, 4), (2, 5), (3, 5), (4, 5), (2, 6), (3, 6), (4, 6), (2, 7), (3, 7), (4, 7), (2, 8), (3, 8), (4, 8), (2, 9), (3, 9), (4, 9), (2, 10), (3, 10), (4, 10), (2, 11), (3, 11), (4, 11), (5, 0), (6, 0), (7, 0), (8, 0), (6, 1), (7, 1), (8, 1), (6, 2), (7, 2), (8, 2), (6, 3), (7, 3), (8, 3), (6, 4), (7, 4), (8, 4), (6, 5), (7, 5), (8, 5), (6, 6), (7, 6), (8, 6), (6, 7), (7, 7), (8, 7), (6, 8), (7, 8), (8, 8), (6, 9), (7, 9), (8, 9), (6, 10), (7, 10), (8, 10), (6, 11), (7, 11), (8, 11), (6, 12), (7, 12), (8, 12), (6, 13), (7, 13), (8, 13), (6, 14), (7, 14), (8, 14), (6, 15), (7, 15), (8, 15), (6, 16), (7, 16), (8, 16), (6, 17), (7, 17), (8, 17), (6, 18), (7, 18), (8, 18), (6, 19), (7, 19), (8, 19), (6, 20), (7, 20), (8, 20), (6, 21), (7, 21), (8, 21), (6, 22), (7, 22), (8, 22), (6, 23), (7, 23), (8, 23), (6, 24), (7, 24), (8, 24), (6, 25), (7, 25), (8, 25), (6, 26), (7, 26), (8, 26), (6, 27), (7, 27), (8, 27), (6, 28), (7, 28), (8, 28), (6, 29), (7, 29), (8, 29), (6, 30), (7, 30), (8, 30), (6, 31), (7, 31), (8, 31), (6, 32), (7, 32), (8, 32), (6, 33), (7, 33), (8, 33), (6, 34), (7, 34), (8, 34), (6, 35), (7, 35), (8, 35), (6, 36), (7, 36), (8, 36), (6, 37), (7, 37), (8, 37), (6, 38), (7, 38), (8, 38), (6, 39), (7, 39), (8, 39), (9, 0), (10, 0), (10, 1), (10, 2), (10, 3), (10, 4), (10, 5), (10, 6), (10, 7), (10, 8), (10, 9), (10, 10), (10, 11), (10, 12), (10, 13), (10, 14), (10, 15), (10, 16), (10, 17), (10, 18), (10, 19), (10, 20), (10, 21), (10, 22), (10, 23), (10, 24), (10, 25), (10, 26), (10, 27), (10, 28), (10, 29), (10, 30), (10, 31), (10, 32), (10, 33), (10, 34), (10, 35), (10, 36), (10, 37), (10, 38), (10, 39), (11, 0), (12, 0), (13, 0), (13, 1), (13, 2), (13, 3), (13, 4), (13, 5), (13, 6), (13, 7), (13, 8), (13, 9), (13, 10), (13, 11), (14, 0), (15, 0), (15, 1), (15, 2), (15, 3), (15, 4), (15, 5), (15, 6), (15, 7), (15, 8), (15, 9), (15, 10), (15, 11), (16, 0), (17, 0), (18, 0), (19, 0), (20, 0), (21, 0), (22, 0), (23, 0), (24, 0), (25, 0), (26, 0), (27, 0), (28, 0), (29, 0), (30, 0), (31, 0), (32, 0), (33, 0), (34, 0), (35, 0), (36, 0), (37, 0), (38, 0), (39, 0), (40, 0), (41, 0), (42, 0), (43, 0), (44, 0), (45, 0), (46, 0), (47, 0), (48, 0), (49, 0), (50, 0), (51, 0), (52, 0), (53, 0), (54, 0), (55, 0), (56, 0), (57, 0), (58, 0), (59, 0)]
def hw_ow : List (Nat × Nat) := [(0, 8), (0, 9), (0, 10), (0, 11), (0, 12), (2, 0), (2, 2), (2, 3), (2, 4), (2, 5), (3, 0), (4, 0), (6, 0), (6, 1), (6, 2), (6, 3), (6, 4), (6, 5), (6, 6), (6, 7), (7, 0), (8, 0), (10, 0), (10, 1), (10, 2), (10, 3), (10, 4), (10, 5), (23, 0), (24, 0), (25, 0), (17, 0), (18, 0), (19, 0), (20, 0), (21, 0), (22, 0), (16, 8), (16, 9), (16, 10), (0, 0), (0, 0), (0, 0), (0, 0), (0, 0), (0, 0), (0, 0), (0, 0), (0, 0), (0, 0), (0, 0), (0, 0), (0, 0), (0, 0), (0, 0), (0, 0), (0, 0), (0, 0), (0, 0), (0, 0), (0, 0), (0, 0), (0, 0), (0, 0), (2, 1), (13, 0), (15, 0), (0, 13), (0, 0), (0, 0), (0, 0), (0, 0), (0, 0), (0, 0), (0, 0), (0, 0), (0, 0), (0, 0), (0, 0), (0, 0), (0, 0), (0, 0), (0, 0), (0, 0), (0, 0), (0, 0), (0, 0), (0, 0), (0, 0), (0, 0), (0, 0), (0, 0), (0, 0), (0, 0), (0, 0), (0, 0), (0, 0), (0, 0), (0, 0), (0, 0), (0, 0), (0, 0), (0, 0), (0, 0), (0, 0), (0, 0), (0, 0), (0, 0), (0, 0), (0, 0), (0, 0), (0, 0), (0, 0), (0, 0), (0, 0), (0, 0), (0, 0), (0, 0), (0, 0), (0, 0), (0, 0), (0, 0), (0, 0), (0, 0), (0, 0), (0, 0), (0, 0), (0, 0), (26, 3), (26, 14), (26, 25), (26, 1), (26, 2), (27, 0), (29, 0), (30, 0), (31, 0), (32, 0), (33, 0), (34, 0), (38, 0), (40, 0), (39, 0), (42, 0), (37, 0), (43, 0), (41, 0), (44, 0), (45, 0), (46, 0), (48, 0), (49, 0), (47, 0), (50, 0), (0, 0), (0, 0), (52, 0), (53, 0), (54, 0), (0, 0), (0, 0), (0, 0), (0, 0), (0, 0), (0, 0), (0, 0), (0, 0), (0, 0), (26, 0), (51, 0), (57, 0), (58, 0), (0, 0), (0, 0), (0, 0), (0, 0), (0, 0), (0, 0), (0, 0), (0, 0), (0, 0), (0, 0), (0, 0), (0, 0), (0, 0), (0, 0), (0, 0), (0, 0), (0, 0), (0, 0), (0, 0), (0, 0), (28, 0), (35, 0), (36, 0), (0, 0), (55, 0), (56, 0), (0, 0), (0, 0), (0, 0), (0, 0), (0, 0), (0, 0), (0, 0), (0, 0), (0, 0), (0, 0), (0, 0), (0, 0), (0, 0), (0, 0), (0, 0), (0, 0), (0, 0), (0, 0), (0, 0), (0, 0), (0, 0), (0, 0), (0, 0), (0, 0), (0, 0), (0, 0), (0, 0), (0, 0), (0, 0), (0, 0), (0, 0), (0, 0), (0, 0), (0, 0), (0, 0), (0, 0), (0, 0), (0, 0), (0, 0), (0, 0), (0, 0), (0, 0), (0, 0), (0, 0), (0, 0), (0, 0), (0, 0), (0, 0), (0, 0), (0, 0), (0, 0), (0, 0), (0, 0), (0, 0), (0, 0), (0, 0), (0, 0), (0, 0), (0, 0), (0, 0), (0, 0), (0, 0), (0, 0), (0, 0), (0, 0), (0, 0), (0, 0), (0, 0), (0, 0), (0, 0), (0, 0), (0, 0), (0, 0), (0, 0), (0, 0), (0, 0), (0, 0), (0, 0), (0, 0), (0, 0), (0, 0), (0, 0), (0, 0), (0, 0), (0, 0), (0, 0), (0, 0), (0, 0), (0, 0), (0, 0), (0, 0), (0, 0), (0, 0), (0, 0), (0, 0), (0, 0), (0, 0), (0, 0), (0, 0), (0, 0), (0, 0), (0, 0), (0, 0), (0, 0), (0, 0), (0, 0), (0, 0), (0, 0), (0, 0), (0, 0), (0, 0), (0, 0), (0, 0), (0, 0), (0, 0), (0, 0), (0, 0), (0, 0), (0, 0), (0, 0), (0, 0), (0, 0), (59, 0), (0, 0), (0, 0), (0, 0), (0, 0), (0, 0), (0, 0), (0, 0), (0, 0), (0, 0), (0, 0), (0, 0), (0, 0), (0, 0), (0, 0), (0, 0), (0, 0), (0, 0), (0, 0), (0, 0), (0, 0), (0, 0), (0, 0), (0, 0), (0, 0), (0, 0), (0, 0), (0, 0), (0, 0), (0, 0), (0, 0), (0, 0), (0, 0), (0, 0), (0, 0), (0, 0), (0, 0), (0, 0), (0, 0), (0, 0), (0, 0), (0, 0), (0, 0), (0, 0), (0, 0), (0, 0), (0, 0), (0, 0), (0, 0), (0, 0), (0, 0), (0, 0), (0, 0), (0, 0), (0, 0), (0, 0), (0, 0), (0, 0), (0, 0), (0, 0), (0, 0), (0, 0), (0, 0), (0, 0)]
def hw_ds (f j : Nat) : Nat × Nat := if hw_ob f = true then (hw_tb.getD f []).getD j (9, 0) else (hw_tb.getD f []).getD 0 (9, 0)
def hw_pos (f i : Nat) : Nat := hw_off f + hw_st f * i
def hw_ad (b0 f i : Nat) : Nat := b0 + hw_pos f i
def hw_ix (f i j : Nat) : Nat := if hw_ob f = true then i else if hw_wd f = 0 then j else hw_wd f * i + j
/-- what the cells hold: the class's numbers I, longs J, the reference's P, N, the law's own o; links by the layout -/
def hw_vl (b0 : Nat) (I : MI) (J : MJ) (P : MI) (N : MJ) (o : Int64) : VF := fun f i j => match (hw_ds f j).1 with
  | 0 => .int (I (hw_ds f j).2 (hw_ix f i j))
  | 1 => .long (J (hw_ds f j).2 (hw_ix f i j))
  | 2 => .int (P (hw_ds f j).2 (hw_ix f i j))
  | 3 => .long (N (hw_ds f j).2 (hw_ix f i j))
  | 4 => .ref (hw_ad b0 (hw_ds f j).2 (hw_ix f i j))
  | _ => .long o
theorem hw_lt {f i : Nat} (h : i < hw_cnt f) : f < 60 := by
  rcases Nat.lt_or_ge f 60 with q | q
  · exact q
  · have e : hw_cnt f = 0 := by
      unfold hw_cnt
      rw [List.getD_eq_getElem?_getD, List.getElem?_eq_none (by exact q)]
      rfl
    omega
set_option maxRecDepth 100000 in
theorem hw_un_ok : ∀ f, f < 60 → ∀ i, i < hw_cnt f → hw_un.getD (hw_pos f i) (0, 0) = (f, i) := by decide +kernel
set_option maxRecDepth 100000 in
theorem hw_nt_ok : ∀ f, f < 60 → ∀ i, i < hw_cnt f → hw_pos f i < 271 := by decide +kernel
set_option maxRecDepth 100000 in
theorem hw_ow_ob : ∀ f, f < 60 → hw_ob f = true → ∀ j, j < hw_sz f → (hw_ds f j).1 ≠ 4 → hw_ow.getD (64 * (hw_ds f j).1 + (hw_ds f j).2) (0, 0) = (f, j) := by decide +kernel
set_option maxRecDepth 100000 in
theorem hw_ow_ar : ∀ f, f < 60 → hw_ob f = false → (hw_ds f 0).1 ≠ 4 → hw_ow.getD (64 * (hw_ds f 0).1 + (hw_ds f 0).2) (0, 0) = (f, 0) := by decide +kernel
set_option maxRecDepth 100000 in
theorem hw_wd_ok : ∀ f, f < 60 → hw_ob f = false → (hw_wd f = 0 → hw_cnt f ≤ 1) ∧ (hw_wd f ≠ 0 → hw_sz f ≤ hw_wd f) := by decide +kernel
set_option maxRecDepth 100000 in
theorem hw_kd_ob : ∀ f, f < 60 → hw_ob f = true → ∀ j, j < hw_sz f → (hw_ds f j).1 ≤ 4 := by decide +kernel
set_option maxRecDepth 100000 in
theorem hw_kd_ar : ∀ f, f < 60 → hw_ob f = false → (hw_ds f 0).1 ≤ 4 ∨ (5, 0) = hw_ds f 0 := by decide +kernel
set_option maxRecDepth 100000 in
theorem hw_59 : ∀ f, f < 60 → hw_ob f = false → (5, 0) = hw_ds f 0 → f = 59 := by decide +kernel
theorem hw_inj {f i f' i' : Nat} (h : i < hw_cnt f) (h' : i' < hw_cnt f') (e : hw_pos f i = hw_pos f' i') : f = f' ∧ i = i' := by
  have a := hw_un_ok f (hw_lt h) i h
  have b := hw_un_ok f' (hw_lt h') i' h'
  rw [e, b] at a
  cases a
  exact ⟨rfl, rfl⟩
theorem hw_dsa {f : Nat} (h : hw_ob f = false) (j : Nat) : hw_ds f j = hw_ds f 0 := by
  unfold hw_ds
  rw [if_neg (by rw [h]; decide), if_neg (by rw [h]; decide)]
/-- two places that hold the same number are one place -/
theorem hw_one {f i j f' i' j' : Nat} (h : i < hw_cnt f) (hj : j < hw_sz f) (h' : i' < hw_cnt f') (hj' : j' < hw_sz f') (hd : hw_ds f j = hw_ds f' j') (h4 : (hw_ds f j).1 ≠ 4) (hx : hw_ix f i j = hw_ix f' i' j') : f' = f ∧ i' = i ∧ j' = j := by
  have hf := hw_lt h
  have hf' := hw_lt h'
  have h4' : (hw_ds f' j').1 ≠ 4 := by rw [← hd]; exact h4
  cases ho : hw_ob f with
  | true =>
    have a := hw_ow_ob f hf ho j hj h4
    cases ho' : hw_ob f' with
    | true =>
      have b := hw_ow_ob f' hf' ho' j' hj' h4'
      rw [hd, b] at a
      cases a
      refine ⟨rfl, ?_, rfl⟩
      unfold hw_ix at hx
      rw [if_pos ho, if_pos ho'] at hx
      exact hx.symm
    | false =>
      have b := hw_ow_ar f' hf' ho' (by rw [← hw_dsa ho' j']; exact h4')
      rw [hd, hw_dsa ho' j', b] at a
      have e : f' = f := congrArg Prod.fst a
      rw [e, ho] at ho'
      cases ho'
  | false =>
    have a := hw_ow_ar f hf ho (by rw [← hw_dsa ho j]; exact h4)
    cases ho' : hw_ob f' with
    | true =>
      have b := hw_ow_ob f' hf' ho' j' hj' h4'
      rw [← hd, hw_dsa ho j, a] at b
      have e : f = f' := congrArg Prod.fst b
      rw [e, ho'] at ho
      cases ho
    | false =>
      have b := hw_ow_ar f' hf' ho' (by rw [← hw_dsa ho' j']; exact h4')
      rw [hw_dsa ho j, hw_dsa ho' j'] at hd
      rw [hd, b] at a
      have e : f' = f := congrArg Prod.fst a
      subst e
      unfold hw_ix at hx
      have hb : ¬ (hw_ob f' = true) := by rw [ho]; decide
      rw [if_neg hb, if_neg hb] at hx
      obtain ⟨w0, w1⟩ := hw_wd_ok f' hf ho
      by_cases hz : hw_wd f' = 0
      · rw [if_pos hz, if_pos hz] at hx
        have := w0 hz
        exact ⟨rfl, by omega, hx.symm⟩
      · rw [if_neg hz, if_neg hz] at hx
        have hs := w1 hz
        have p1 : 0 < hw_wd f' := Nat.pos_of_ne_zero hz
        have e1 : (hw_wd f' * i + j) / hw_wd f' = i := by
          rw [Nat.mul_add_div p1, Nat.div_eq_of_lt (by omega)]; rfl
        have e2 : (hw_wd f' * i' + j') / hw_wd f' = i' := by
          rw [Nat.mul_add_div p1, Nat.div_eq_of_lt (by omega)]; rfl
        have e3 : i' = i := by rw [← e1, ← e2, hx]
        subst e3
        exact ⟨rfl, rfl, by omega⟩
/-- v' is v, but x at one place -/
def hw_U (v : VF) (f i j : Nat) (x : Value) (v' : VF) : Prop := ∀ f' i' j', i' < hw_cnt f' → j' < hw_sz f' → v' f' i' j' = if f' = f ∧ i' = i ∧ j' = j then x else v f' i' j'

theorem hw_UI {b0 : Nat} {I : MI} {J : MJ} {P : MI} {N : MJ} {o : Int64} {f i j g n : Nat} {x : Int32} (h : i < hw_cnt f) (hj : j < hw_sz f) (hd : hw_ds f j = (0, g)) (hn : hw_ix f i j = n) : hw_U (hw_vl b0 I J P N o) f i j (.int x) (hw_vl b0 (uI I g n x) J P N o) := by
  intro f' i' j' h' hj'
  by_cases e : f' = f ∧ i' = i ∧ j' = j
  · rw [if_pos e]
    obtain ⟨rfl, rfl, rfl⟩ := e
    unfold hw_vl
    rw [hd, hn]
    show Value.int (uI I g n x g n) = _
    simp [uI, uJ]
  · rw [if_neg e]
    unfold hw_vl
    by_cases hk : hw_ds f' j' = (0, g)
    · rw [hk]
      show Value.int (uI I g n x g (hw_ix f' i' j')) = Value.int _
      congr 1
      have hne : hw_ix f' i' j' ≠ n := fun q => e (hw_one h hj h' hj' (hd.trans hk.symm) (by rw [hd]; exact (by decide : (0 : Nat) ≠ 4)) (hn.trans q.symm))
      simp [uI, uJ, hne]
    · have hne : ¬ ((hw_ds f' j').1 = 0 ∧ (hw_ds f' j').2 = g) := fun q => hk (Prod.ext q.1 q.2)
      generalize hw_ds f' j' = d at hne
      obtain ⟨d1, d2⟩ := d
      split <;> first | rfl | (rename_i q; dsimp only at q hne ⊢; subst q; congr 1; have : d2 ≠ g := fun z => hne ⟨rfl, z⟩; simp [uI, uJ, this])
theorem hw_UJ {b0 : Nat} {I : MI} {J : MJ} {P : MI} {N : MJ} {o : Int64} {f i j g n : Nat} {x : Int64} (h : i < hw_cnt f) (hj : j < hw_sz f) (hd : hw_ds f j = (1, g)) (hn : hw_ix f i j = n) : hw_U (hw_vl b0 I J P N o) f i j (.long x) (hw_vl b0 I (uJ J g n x) P N o) := by
  intro f' i' j' h' hj'
  by_cases e : f' = f ∧ i' = i ∧ j' = j
  · rw [if_pos e]
    obtain ⟨rfl, rfl, rfl⟩ := e
    unfold hw_vl
    rw [hd, hn]
    show Value.long (uJ J g n x g n) = _
    simp [uI, uJ]
  · rw [if_neg e]
    unfold hw_vl
    by_cases hk : hw_ds f' j' = (1, g)
    · rw [hk]
      show Value.long (uJ J g n x g (hw_ix f' i' j')) = Value.long _
      congr 1
      have hne : hw_ix f' i' j' ≠ n := fun q => e (hw_one h hj h' hj' (hd.trans hk.symm) (by rw [hd]; exact (by decide : (1 : Nat) ≠ 4)) (hn.trans q.symm))
      simp [uI, uJ, hne]
    · have hne : ¬ ((hw_ds f' j').1 = 1 ∧ (hw_ds f' j').2 = g) := fun q => hk (Prod.ext q.1 q.2)
      generalize hw_ds f' j' = d at hne
      obtain ⟨d1, d2⟩ := d
      split <;> first | rfl | (rename_i q; dsimp only at q hne ⊢; subst q; congr 1; have : d2 ≠ g := fun z => hne ⟨rfl, z⟩; simp [uI, uJ, this])
theorem hw_UP {b0 : Nat} {I : MI} {J : MJ} {P : MI} {N : MJ} {o : Int64} {f i j g n : Nat} {x : Int32} (h : i < hw_cnt f) (hj : j < hw_sz f) (hd : hw_ds f j = (2, g)) (hn : hw_ix f i j = n) : hw_U (hw_vl b0 I J P N o) f i j (.int x) (hw_vl b0 I J (uI P g n x) N o) := by
  intro f' i' j' h' hj'
  by_cases e : f' = f ∧ i' = i ∧ j' = j
  · rw [if_pos e]
    obtain ⟨rfl, rfl, rfl⟩ := e
    unfold hw_vl
    rw [hd, hn]
    show Value.int (uI P g n x g n) = _
    simp [uI, uJ]
  · rw [if_neg e]
    unfold hw_vl
    by_cases hk : hw_ds f' j' = (2, g)
    · rw [hk]
      show Value.int (uI P g n x g (hw_ix f' i' j')) = Value.int _
      congr 1
      have hne : hw_ix f' i' j' ≠ n := fun q => e (hw_one h hj h' hj' (hd.trans hk.symm) (by rw [hd]; exact (by decide : (2 : Nat) ≠ 4)) (hn.trans q.symm))
      simp [uI, uJ, hne]
    · have hne : ¬ ((hw_ds f' j').1 = 2 ∧ (hw_ds f' j').2 = g) := fun q => hk (Prod.ext q.1 q.2)
      generalize hw_ds f' j' = d at hne
      obtain ⟨d1, d2⟩ := d
      split <;> first | rfl | (rename_i q; dsimp only at q hne ⊢; subst q; congr 1; have : d2 ≠ g := fun z => hne ⟨rfl, z⟩; simp [uI, uJ, this])
theorem hw_UN {b0 : Nat} {I : MI} {J : MJ} {P : MI} {N : MJ} {o : Int64} {f i j g n : Nat} {x : Int64} (h : i < hw_cnt f) (hj : j < hw_sz f) (hd : hw_ds f j = (3, g)) (hn : hw_ix f i j = n) : hw_U (hw_vl b0 I J P N o) f i j (.long x) (hw_vl b0 I J P (uJ N g n x) o) := by
  intro f' i' j' h' hj'
  by_cases e : f' = f ∧ i' = i ∧ j' = j
  · rw [if_pos e]
    obtain ⟨rfl, rfl, rfl⟩ := e
    unfold hw_vl
    rw [hd, hn]
    show Value.long (uJ N g n x g n) = _
    simp [uI, uJ]
  · rw [if_neg e]
    unfold hw_vl
    by_cases hk : hw_ds f' j' = (3, g)
    · rw [hk]
      show Value.long (uJ N g n x g (hw_ix f' i' j')) = Value.long _
      congr 1
      have hne : hw_ix f' i' j' ≠ n := fun q => e (hw_one h hj h' hj' (hd.trans hk.symm) (by rw [hd]; exact (by decide : (3 : Nat) ≠ 4)) (hn.trans q.symm))
      simp [uI, uJ, hne]
    · have hne : ¬ ((hw_ds f' j').1 = 3 ∧ (hw_ds f' j').2 = g) := fun q => hk (Prod.ext q.1 q.2)
      generalize hw_ds f' j' = d at hne
      obtain ⟨d1, d2⟩ := d
      split <;> first | rfl | (rename_i q; dsimp only at q hne ⊢; subst q; congr 1; have : d2 ≠ g := fun z => hne ⟨rfl, z⟩; simp [uI, uJ, this])
theorem hw_Uo {b0 : Nat} {I : MI} {J : MJ} {P : MI} {N : MJ} {o x : Int64} : hw_U (hw_vl b0 I J P N o) 59 0 0 (.long x) (hw_vl b0 I J P N x) := by
  intro f' i' j' h' hj'
  by_cases e : f' = 59 ∧ i' = 0 ∧ j' = 0
  · rw [if_pos e]
    obtain ⟨rfl, rfl, rfl⟩ := e
    rfl
  · rw [if_neg e]
    unfold hw_vl
    have hf := hw_lt h'
    have h5 : (hw_ds f' j').1 ≤ 4 := by
      cases ho : hw_ob f' with
      | true => exact hw_kd_ob f' hf ho j' hj'
      | false =>
        rcases hw_kd_ar f' hf ho with q | q
        · rw [hw_dsa ho j']; exact q
        · have z := hw_59 f' hf ho q
          subst z
          have e1 : hw_cnt 59 = 1 := by decide +kernel
          have e2 : hw_sz 59 = 1 := by decide +kernel
          exact absurd (show 59 = 59 ∧ i' = 0 ∧ j' = 0 by omega) e
    generalize hw_ds f' j' = d at h5
    obtain ⟨d1, d2⟩ := d
    have h6 : d1 ≤ 4 := h5
    rcases (show d1 = 0 ∨ d1 = 1 ∨ d1 = 2 ∨ d1 = 3 ∨ d1 = 4 by omega) with rfl | rfl | rfl | rfl | rfl <;> rfl
end
section
/-! THE JUDGEMENT hw_V: at pc, with the listed locals L, the stack st and the cells' values v, the machine comes to Q. -/
def hw_TB : List Cond := lw_tbl.filter goodWord
theorem hw_in {w : Cond} (i : Nat) (h : lw_tbl[i]? = some w) (g : goodWord w = true) : w ∈ hw_TB := List.mem_filter.mpr ⟨List.mem_of_getElem? h, g⟩
theorem hw_TBg {w : Cond} (h : w ∈ hw_TB) : goodWord w = true := (List.mem_filter.mp h).2
def hw_tys (D : va_G) : List (ClassId × FieldType) := [(D.1 10, .int), (D.1 11, .long), (D.1 12, .boolean), (D.1 13, .object "HundiHall$Broker"), (D.1 14, .object "HundiHall$Order"), (D.1 15, .object "HundiHall$Courier"), (D.1 16, .array .long)]
def hw_OK (D : va_G) (f q : Nat) (V : Nat → Value) (H : Heap) : Prop := (hw_ob f = true → t_OB q (D.1 (hw_kc f)) (hw_sz f) (D.2 (hw_kc f)) H V) ∧ (hw_ob f = false → H[q]? = some (arrV (D.1 (hw_kc f)) (hw_sz f) V))
theorem hw_OK.kept {D : va_G} {f q : Nat} {V : Nat → Value} {H H1 : Heap} (h : hw_OK D f q V H) (hq : H1[q]? = H[q]?) : hw_OK D f q V H1 := ⟨fun a => (h.1 a).kept hq, fun a => hq.trans (h.2 a)⟩
theorem hw_arrV {cA : ClassId} {N : Nat} {f g : Nat → Value} (h : ∀ j, j < N → f j = g j) : arrV cA N f = arrV cA N g := by
  unfold arrV
  congr 1
  congr 1
  funext j
  exact h j.val j.isLt
theorem hw_OK.to {D : va_G} {f q : Nat} {V V' : Nat → Value} {H : Heap} (h : hw_OK D f q V H) (hv : ∀ j, j < hw_sz f → V j = V' j) : hw_OK D f q V' H := ⟨fun a => (h.1 a).to hv, fun a => (h.2 a).trans (congrArg some (hw_arrV hv))⟩
def hw_HP (D : va_G) (b0 n : Nat) (v : VF) (H : Heap) : Prop := ∀ f i, i < hw_cnt f → hw_pos f i < n → hw_OK D f (hw_ad b0 f i) (v f i) H
def hw_Z (xb : Bool) (b0 n z : Nat) : Prop := b0 + n ≤ z ∧ (xb = true → z = b0 + n)
theorem hw_HP.to {D : va_G} {b0 n : Nat} {v v' : VF} {H : Heap} (h : hw_HP D b0 n v H) (hv : ∀ f i j, i < hw_cnt f → j < hw_sz f → hw_pos f i < n → v f i j = v' f i j) : hw_HP D b0 n v' H := fun f i hi hn => (h f i hi hn).to (fun j hj => hv f i j hi hj hn)
theorem hw_HP.kept {D : va_G} {b0 n : Nat} {v : VF} {H H1 : Heap} (h : hw_HP D b0 n v H) (hq : ∀ q, b0 ≤ q → q < b0 + n → H1[q]? = H[q]?) : hw_HP D b0 n v H1 := fun f i hi hn => (h f i hi hn).kept (hq _ (Nat.le_add_right _ _) (Nat.add_lt_add_left hn _))
theorem hw_HP.put {D : va_G} {b0 n f i j : Nat} {v v' : VF} {x : Value} {H H1 : Heap} (h : hw_HP D b0 n v H) (hU : hw_U v f i j x v') (hi : i < hw_cnt f) (hc : hw_OK D f (hw_ad b0 f i) (updV (v f i) j x) H1) (oq : ∀ q, q ≠ hw_ad b0 f i → H1[q]? = H[q]?) : hw_HP D b0 n v' H1 := by
  intro f' i' hi' hn'
  by_cases e : f' = f ∧ i' = i
  · obtain ⟨rfl, rfl⟩ := e
    refine hc.to (fun j' hj' => ?_)
    rw [hU f' i' j' hi' hj']
    by_cases z : j' = j
    · subst z; simp [updV]
    · simp [updV, z]
  · have ha : hw_ad b0 f' i' ≠ hw_ad b0 f i := fun z => e (hw_inj hi' hi (by unfold hw_ad at z; omega))
    refine ((h f' i' hi' hn').kept (oq _ ha)).to (fun j' hj' => ?_)
    rw [hU f' i' j' hi' hj', if_neg (fun z => e ⟨z.1, z.2.1⟩)]
def hw_str (k : Nat) (t : String) (U : State) : Prop := ∃ a, vk_R RX5 k t a U
/-- what else is known of the world: the classes of exceptions, the texts -/
def hw_XW (U : State) : Prop := (va_Nw (.declares (Bundle.initS "java/lang/RuntimeException")) U ∧ va_Nw (.declares (Bundle.initS "java/lang/Exception")) U ∧ va_Nw (.declares (Bundle.initS "java/lang/Throwable")) U) ∧
  (va_Nw (.castable "java/lang/IndexOutOfBoundsException" "java/lang/IndexOutOfBoundsException") U ∧ va_Nw (.castable "java/lang/IllegalArgumentException" "java/lang/IllegalArgumentException") U ∧ va_Nw (.castable "java/lang/IllegalStateException" "java/lang/IllegalStateException") U) ∧
  (va_Nc "java/lang/IllegalArgumentException" "java/lang/IndexOutOfBoundsException" U ∧ va_Nc "java/lang/IllegalStateException" "java/lang/IndexOutOfBoundsException" U ∧ va_Nc "java/lang/IllegalStateException" "java/lang/IllegalArgumentException" U) ∧
  (hw_str 248 "there is no such one" U ∧ hw_str 253 "a place is not below 0" U ∧ hw_str 257 "out of range" U ∧ hw_str 262 "not possible now" U ∧ hw_str 265 "both are the same broker" U)
abbrev hw_zU (b0 : Nat) (U : State) (H : Heap) : Prop := vx_Zq Bundle.tN "UNASSIGNED_STACK" Bundle.steD (fun q => b0 ≤ q) U H
abbrev hw_zN (b0 : Nat) (U : State) (H : Heap) : Prop := vx_Zq Bundle.tN "SUPPRESSED_SENTINEL" Bundle.listD (fun q => b0 ≤ q) U H
/-- a method's start: the world, the cells -/
def hw_PW (D : va_G) (b0 : Nat) (xb : Bool) (n : Nat) (v : VF) (U : State) : Prop := va_K D vwCl (hw_tys D) U ∧ hw_XW U ∧ hw_zU b0 U U.heap ∧ hw_zN b0 U U.heap ∧ hw_HP D b0 n v U.heap ∧ hw_Z xb b0 n U.heap.size
theorem hw_str.warm {k : Nat} {t : String} {s U : State} (hW : s.WarmedH U.vm) (h : hw_str k t s) : hw_str k t U := by
  obtain ⟨a, h⟩ := h
  exact ⟨a, vk_R.warm hW h⟩
theorem hw_XW.warm {s U : State} (hW : s.WarmedH U.vm) (h : hw_XW s) : hw_XW U := by
  obtain ⟨⟨h2, h3, h4⟩, ⟨h5, h6, h7⟩, ⟨h8, h9, h10⟩, ⟨k1, k2, k3, k4, k5⟩⟩ := h
  exact ⟨⟨va_Nw.warmD hW h2, va_Nw.warmD hW h3, va_Nw.warmD hW h4⟩, ⟨va_Nw.warmC hW h5, va_Nw.warmC hW h6, va_Nw.warmC hW h7⟩, ⟨h8.moved hW.alike, h9.moved hW.alike, h10.moved hW.alike⟩, ⟨k1.warm hW, k2.warm hW, k3.warm hW, k4.warm hW, k5.warm hW⟩⟩
section HW
variable {p : Program} {l : Launch} {e : Env} {R : Room} {s : State} {m : MethodId} {args : Array Value} {below : List Frame} {meth : Method} {c : Code} {Q : State → Prop}
variable {D : va_G} {b0 nL : Nat} {xb : Bool} {ka kb n : Nat} {pc : Nat} {L L' : List (Nat × Value)} {st : List Value} {v : VF} {cc : ByteArray} {own : String}
def hw_V (p : Program) (l : Launch) (e : Env) (R : Room) (s : State) (m : MethodId) (args : Array Value) (below : List Frame) (meth : Method) (c : Code) (Q : State → Prop) (D : va_G) (b0 nL : Nat) (xb : Bool) (ka kb n : Nat) (pc : Nat) (L : List (Nat × Value)) (st : List Value) (v : VF) : Prop :=
  ∀ (H : Heap) (locs : List Loc) (ls : Array Slot), hw_HP D b0 n v H → hw_Z xb b0 n H.size → va_S (fun q => b0 ≤ q) s.heap H locs → lv_has ls nL L → W p l e R s m args below meth c H locs ka kb Q (F0 m pc ls st)
def hw_C (p : Program) (s : State) (m : MethodId) (args : Array Value) (c : Code) (D : va_G) (b0 : Nat) (cc : ByteArray) (own : String) (nL : Nat) : Prop :=
  p.tables.exec = Jvm.exec ∧ c.code = cc ∧ c.maxLocals = nL ∧ s.vm.findClass own = some m.cls ∧ (∀ w ∈ hw_TB, w.before args s = true) ∧ va_K D vwCl (hw_tys D) s ∧ hw_XW s ∧ hw_zU b0 s s.heap ∧ hw_zN b0 s s.heap ∧ b0 ≤ s.heap.size
theorem hq_iconst (C : hw_C p s m args c D b0 cc own nL) {w : Int} {y : Int32} (hdg : decode cc pc = .ok (.iconst w, 1)) (hv : Int32.ofInt w = y) (k : hw_V p l e R s m args below meth c Q D b0 nL xb ka kb n (pc + 1) L (.int y :: st) v) : hw_V p l e R s m args below meth c Q D b0 nL xb ka kb n pc L st v := fun H locs ls hH hZ hS hl => lv_iconst C.1 C.2.1 hdg hv (k H locs ls hH hZ hS hl)
theorem hq_bipush (C : hw_C p s m args c D b0 cc own nL) {w : Int} {y : Int32} (hdg : decode cc pc = .ok (.bipush w, 2)) (hv : (Int8.ofInt w).toInt32 = y) (k : hw_V p l e R s m args below meth c Q D b0 nL xb ka kb n (pc + 2) L (.int y :: st) v) : hw_V p l e R s m args below meth c Q D b0 nL xb ka kb n pc L st v := fun H locs ls hH hZ hS hl => lv_bipush C.1 C.2.1 hdg hv (k H locs ls hH hZ hS hl)
theorem hq_sipush (C : hw_C p s m args c D b0 cc own nL) {w : Int} {y : Int32} (hdg : decode cc pc = .ok (.sipush w, 3)) (hv : (Int16.ofInt w).toInt32 = y) (k : hw_V p l e R s m args below meth c Q D b0 nL xb ka kb n (pc + 3) L (.int y :: st) v) : hw_V p l e R s m args below meth c Q D b0 nL xb ka kb n pc L st v := fun H locs ls hH hZ hS hl => lv_sipush C.1 C.2.1 hdg hv (k H locs ls hH hZ hS hl)
theorem hq_lconst (C : hw_C p s m args c D b0 cc own nL) {w : Fin 2} {y : Int64} (hdg : decode cc pc = .ok (.lconst w, 1)) (hv : Int64.ofNat (w : Nat) = y) (k : hw_V p l e R s m args below meth c Q D b0 nL xb ka kb n (pc + 1) L (.long y :: st) v) : hw_V p l e R s m args below meth c Q D b0 nL xb ka kb n pc L st v := fun H locs ls hH hZ hS hl => lv_lconst C.1 C.2.1 hdg hv (k H locs ls hH hZ hS hl)
theorem hq_iadd (C : hw_C p s m args c D b0 cc own nL) {x y : Int32} (hdg : decode cc pc = .ok (.iadd, 1))  (k : hw_V p l e R s m args below meth c Q D b0 nL xb ka kb n (pc + 1) L (.int (x + y) :: st) v) : hw_V p l e R s m args below meth c Q D b0 nL xb ka kb n pc L (.int y :: .int x :: st) v := fun H locs ls hH hZ hS hl => lv_iadd C.1 C.2.1 hdg  (k H locs ls hH hZ hS hl)
theorem hq_isub (C : hw_C p s m args c D b0 cc own nL) {x y : Int32} (hdg : decode cc pc = .ok (.isub, 1))  (k : hw_V p l e R s m args below meth c Q D b0 nL xb ka kb n (pc + 1) L (.int (x - y) :: st) v) : hw_V p l e R s m args below meth c Q D b0 nL xb ka kb n pc L (.int y :: .int x :: st) v := fun H locs ls hH hZ hS hl => lv_isub C.1 C.2.1 hdg  (k H locs ls hH hZ hS hl)
theorem hq_imul (C : hw_C p s m args c D b0 cc own nL) {x y : Int32} (hdg : decode cc pc = .ok (.imul, 1))  (k : hw_V p l e R s m args below meth c Q D b0 nL xb ka kb n (pc + 1) L (.int (x * y) :: st) v) : hw_V p l e R s m args below meth c Q D b0 nL xb ka kb n pc L (.int y :: .int x :: st) v := fun H locs ls hH hZ hS hl => lv_imul C.1 C.2.1 hdg  (k H locs ls hH hZ hS hl)
theorem hq_iand (C : hw_C p s m args c D b0 cc own nL) {x y : Int32} (hdg : decode cc pc = .ok (.iand, 1))  (k : hw_V p l e R s m args below meth c Q D b0 nL xb ka kb n (pc + 1) L (.int (x &&& y) :: st) v) : hw_V p l e R s m args below meth c Q D b0 nL xb ka kb n pc L (.int y :: .int x :: st) v := fun H locs ls hH hZ hS hl => lv_iand C.1 C.2.1 hdg  (k H locs ls hH hZ hS hl)
theorem hq_ior (C : hw_C p s m args c D b0 cc own nL) {x y : Int32} (hdg : decode cc pc = .ok (.ior, 1))  (k : hw_V p l e R s m args below meth c Q D b0 nL xb ka kb n (pc + 1) L (.int (x ||| y) :: st) v) : hw_V p l e R s m args below meth c Q D b0 nL xb ka kb n pc L (.int y :: .int x :: st) v := fun H locs ls hH hZ hS hl => lv_ior C.1 C.2.1 hdg  (k H locs ls hH hZ hS hl)
theorem hq_ishl (C : hw_C p s m args c D b0 cc own nL) {x y : Int32} (hdg : decode cc pc = .ok (.ishl, 1))  (k : hw_V p l e R s m args below meth c Q D b0 nL xb ka kb n (pc + 1) L (.int (x <<< (y &&& 31)) :: st) v) : hw_V p l e R s m args below meth c Q D b0 nL xb ka kb n pc L (.int y :: .int x :: st) v := fun H locs ls hH hZ hS hl => lv_ishl C.1 C.2.1 hdg  (k H locs ls hH hZ hS hl)
theorem hq_ishr (C : hw_C p s m args c D b0 cc own nL) {x y : Int32} (hdg : decode cc pc = .ok (.ishr, 1))  (k : hw_V p l e R s m args below meth c Q D b0 nL xb ka kb n (pc + 1) L (.int (x >>> (y &&& 31)) :: st) v) : hw_V p l e R s m args below meth c Q D b0 nL xb ka kb n pc L (.int y :: .int x :: st) v := fun H locs ls hH hZ hS hl => lv_ishr C.1 C.2.1 hdg  (k H locs ls hH hZ hS hl)
theorem hq_idiv (C : hw_C p s m args c D b0 cc own nL) {x y : Int32} (hdg : decode cc pc = .ok (.idiv, 1)) (hne : ¬ y = 0) (k : hw_V p l e R s m args below meth c Q D b0 nL xb ka kb n (pc + 1) L (.int (x / y) :: st) v) : hw_V p l e R s m args below meth c Q D b0 nL xb ka kb n pc L (.int y :: .int x :: st) v := fun H locs ls hH hZ hS hl => lv_idiv C.1 C.2.1 hdg hne (k H locs ls hH hZ hS hl)
theorem hq_ldiv (C : hw_C p s m args c D b0 cc own nL) {x y : Int64} (hdg : decode cc pc = .ok (.ldiv, 1)) (hne : ¬ y = 0) (k : hw_V p l e R s m args below meth c Q D b0 nL xb ka kb n (pc + 1) L (.long (x / y) :: st) v) : hw_V p l e R s m args below meth c Q D b0 nL xb ka kb n pc L (.long y :: .long x :: st) v := fun H locs ls hH hZ hS hl => lv_ldiv C.1 C.2.1 hdg hne (k H locs ls hH hZ hS hl)
theorem hq_ineg (C : hw_C p s m args c D b0 cc own nL) {x : Int32} (hdg : decode cc pc = .ok (.ineg, 1))  (k : hw_V p l e R s m args below meth c Q D b0 nL xb ka kb n (pc + 1) L (.int (-x) :: st) v) : hw_V p l e R s m args below meth c Q D b0 nL xb ka kb n pc L (.int x :: st) v := fun H locs ls hH hZ hS hl => lv_ineg C.1 C.2.1 hdg  (k H locs ls hH hZ hS hl)
theorem hq_lneg (C : hw_C p s m args c D b0 cc own nL) {x : Int64} (hdg : decode cc pc = .ok (.lneg, 1))  (k : hw_V p l e R s m args below meth c Q D b0 nL xb ka kb n (pc + 1) L (.long (-x) :: st) v) : hw_V p l e R s m args below meth c Q D b0 nL xb ka kb n pc L (.long x :: st) v := fun H locs ls hH hZ hS hl => lv_lneg C.1 C.2.1 hdg  (k H locs ls hH hZ hS hl)
theorem hq_ladd (C : hw_C p s m args c D b0 cc own nL) {x y : Int64} (hdg : decode cc pc = .ok (.ladd, 1))  (k : hw_V p l e R s m args below meth c Q D b0 nL xb ka kb n (pc + 1) L (.long (x + y) :: st) v) : hw_V p l e R s m args below meth c Q D b0 nL xb ka kb n pc L (.long y :: .long x :: st) v := fun H locs ls hH hZ hS hl => lv_ladd C.1 C.2.1 hdg  (k H locs ls hH hZ hS hl)
theorem hq_lsub (C : hw_C p s m args c D b0 cc own nL) {x y : Int64} (hdg : decode cc pc = .ok (.lsub, 1))  (k : hw_V p l e R s m args below meth c Q D b0 nL xb ka kb n (pc + 1) L (.long (x - y) :: st) v) : hw_V p l e R s m args below meth c Q D b0 nL xb ka kb n pc L (.long y :: .long x :: st) v := fun H locs ls hH hZ hS hl => lv_lsub C.1 C.2.1 hdg  (k H locs ls hH hZ hS hl)
theorem hq_lmul (C : hw_C p s m args c D b0 cc own nL) {x y : Int64} (hdg : decode cc pc = .ok (.lmul, 1))  (k : hw_V p l e R s m args below meth c Q D b0 nL xb ka kb n (pc + 1) L (.long (x * y) :: st) v) : hw_V p l e R s m args below meth c Q D b0 nL xb ka kb n pc L (.long y :: .long x :: st) v := fun H locs ls hH hZ hS hl => lv_lmul C.1 C.2.1 hdg  (k H locs ls hH hZ hS hl)
theorem hq_lcmp (C : hw_C p s m args c D b0 cc own nL) {x y : Int64} (hdg : decode cc pc = .ok (.lcmp, 1))  (k : hw_V p l e R s m args below meth c Q D b0 nL xb ka kb n (pc + 1) L (.int (lg_cmp x y) :: st) v) : hw_V p l e R s m args below meth c Q D b0 nL xb ka kb n pc L (.long y :: .long x :: st) v := fun H locs ls hH hZ hS hl => W.lcmp C.1 C.2.1 hdg  (k H locs ls hH hZ hS hl)
theorem hq_i2l (C : hw_C p s m args c D b0 cc own nL) {x : Int32} (hdg : decode cc pc = .ok (.i2l, 1))  (k : hw_V p l e R s m args below meth c Q D b0 nL xb ka kb n (pc + 1) L (.long x.toInt64 :: st) v) : hw_V p l e R s m args below meth c Q D b0 nL xb ka kb n pc L (.int x :: st) v := fun H locs ls hH hZ hS hl => lv_i2l C.1 C.2.1 hdg rfl (k H locs ls hH hZ hS hl)
theorem hq_l2i (C : hw_C p s m args c D b0 cc own nL) {x : Int64} (hdg : decode cc pc = .ok (.l2i, 1))  (k : hw_V p l e R s m args below meth c Q D b0 nL xb ka kb n (pc + 1) L (.int x.toInt32 :: st) v) : hw_V p l e R s m args below meth c Q D b0 nL xb ka kb n pc L (.long x :: st) v := fun H locs ls hH hZ hS hl => lv_l2i C.1 C.2.1 hdg rfl (k H locs ls hH hZ hS hl)
theorem hq_dup (C : hw_C p s m args c D b0 cc own nL) {va : Value} (hdg : decode cc pc = .ok (.dup, 1)) (hva : va.category = 1) (k : hw_V p l e R s m args below meth c Q D b0 nL xb ka kb n (pc + 1) L (va :: va :: st) v) : hw_V p l e R s m args below meth c Q D b0 nL xb ka kb n pc L (va :: st) v := fun H locs ls hH hZ hS hl => lv_dup C.1 C.2.1 hdg hva (k H locs ls hH hZ hS hl)
theorem hq_pop (C : hw_C p s m args c D b0 cc own nL) {va : Value} (hdg : decode cc pc = .ok (.pop, 1)) (hva : va.category = 1) (k : hw_V p l e R s m args below meth c Q D b0 nL xb ka kb n (pc + 1) L st v) : hw_V p l e R s m args below meth c Q D b0 nL xb ka kb n pc L (va :: st) v := fun H locs ls hH hZ hS hl => lv_pop C.1 C.2.1 hdg hva (k H locs ls hH hZ hS hl)
theorem hq_dup2 (C : hw_C p s m args c D b0 cc own nL) {va vb : Value} (hdg : decode cc pc = .ok (.dup2, 1)) (hva : va.category = 1) (hvb : vb.category = 1) (k : hw_V p l e R s m args below meth c Q D b0 nL xb ka kb n (pc + 1) L (va :: vb :: va :: vb :: st) v) : hw_V p l e R s m args below meth c Q D b0 nL xb ka kb n pc L (va :: vb :: st) v := fun H locs ls hH hZ hS hl => lv_dup2_11 C.1 C.2.1 hdg hva hvb (k H locs ls hH hZ hS hl)
theorem hq_dup_x1 (C : hw_C p s m args c D b0 cc own nL) {va vb : Value} (hdg : decode cc pc = .ok (.dup_x1, 1)) (hva : va.category = 1) (hvb : vb.category = 1) (k : hw_V p l e R s m args below meth c Q D b0 nL xb ka kb n (pc + 1) L (va :: vb :: va :: st) v) : hw_V p l e R s m args below meth c Q D b0 nL xb ka kb n pc L (va :: vb :: st) v := fun H locs ls hH hZ hS hl => lv_dup_x1 C.1 C.2.1 hdg hva hvb (k H locs ls hH hZ hS hl)
theorem hq_ldc (C : hw_C p s m args c D b0 cc own nL) {i : Nat} {y : Int32} (hcst : Cond.constant own i y ∈ hw_TB) (hdg : decode cc pc = .ok (.ldc i, 2)) (k : hw_V p l e R s m args below meth c Q D b0 nL xb ka kb n (pc + 2) L (.int y :: st) v) : hw_V p l e R s m args below meth c Q D b0 nL xb ka kb n pc L st v := fun H locs ls hH hZ hS hl => lv_ldc C.1 C.2.1 C.2.2.2.1 (C.2.2.2.2.1 _ hcst) hdg (k H locs ls hH hZ hS hl)
theorem hq_ldc2 (C : hw_C p s m args c D b0 cc own nL) {i : Nat} {y : Int64} (hcst : Cond.constantLong own i y ∈ hw_TB) (hdg : decode cc pc = .ok (.ldc2_w i, 3)) (k : hw_V p l e R s m args below meth c Q D b0 nL xb ka kb n (pc + 3) L (.long y :: st) v) : hw_V p l e R s m args below meth c Q D b0 nL xb ka kb n pc L st v := fun H locs ls hH hZ hS hl => lv_ldc2 C.1 C.2.1 C.2.2.2.1 (C.2.2.2.2.1 _ hcst) hdg (k H locs ls hH hZ hS hl)
theorem hq_iload_n (C : hw_C p s m args c D b0 cc own nL) {w : Fin 4} {i q : Nat} {x : Int32} (hdg : decode cc pc = .ok (.iload_n w, 1)) (hi : (w : Nat) = i) (hq : L[q]? = some (i, .int x)) (k : hw_V p l e R s m args below meth c Q D b0 nL xb ka kb n (pc + 1) L (.int x :: st) v) : hw_V p l e R s m args below meth c Q D b0 nL xb ka kb n pc L st v := fun H locs ls hH hZ hS hl => lv_iload_n C.1 C.2.1 hdg hi (lv_at hl q hq) (k H locs ls hH hZ hS hl)
theorem hq_iload (C : hw_C p s m args c D b0 cc own nL) {i q : Nat} {x : Int32} (hdg : decode cc pc = .ok (.iload i, 2)) (hq : L[q]? = some (i, .int x)) (k : hw_V p l e R s m args below meth c Q D b0 nL xb ka kb n (pc + 2) L (.int x :: st) v) : hw_V p l e R s m args below meth c Q D b0 nL xb ka kb n pc L st v := fun H locs ls hH hZ hS hl => lv_iload C.1 C.2.1 hdg (lv_at hl q hq) (k H locs ls hH hZ hS hl)
theorem hq_istore_n (C : hw_C p s m args c D b0 cc own nL) {w : Fin 4} {i : Nat} {x : Int32} (hdg : decode cc pc = .ok (.istore_n w, 1)) (hi : (w : Nat) = i) (hn : i < nL) (hL : (i, Value.int x) :: L.filter (fun q => !(q.1 == i) && !(q.1 + 1 == i && q.2.category == 2)) = L') (k : hw_V p l e R s m args below meth c Q D b0 nL xb ka kb n (pc + 1) L' st v) : hw_V p l e R s m args below meth c Q D b0 nL xb ka kb n pc L (.int x :: st) v := fun H locs ls hH hZ hS hl => lv_istore_n C.1 C.2.1 hdg hi hl hn hL (fun ls hl => k H locs ls hH hZ hS hl)
theorem hq_istore (C : hw_C p s m args c D b0 cc own nL) {i : Nat} {x : Int32} (hdg : decode cc pc = .ok (.istore i, 2)) (hn : i < nL) (hL : (i, Value.int x) :: L.filter (fun q => !(q.1 == i) && !(q.1 + 1 == i && q.2.category == 2)) = L') (k : hw_V p l e R s m args below meth c Q D b0 nL xb ka kb n (pc + 2) L' st v) : hw_V p l e R s m args below meth c Q D b0 nL xb ka kb n pc L (.int x :: st) v := fun H locs ls hH hZ hS hl => lv_istore C.1 C.2.1 hdg hl hn hL (fun ls hl => k H locs ls hH hZ hS hl)
theorem hq_lload_n (C : hw_C p s m args c D b0 cc own nL) {w : Fin 4} {i q : Nat} {x : Int64} (hdg : decode cc pc = .ok (.lload_n w, 1)) (hi : (w : Nat) = i) (hq : L[q]? = some (i, .long x)) (k : hw_V p l e R s m args below meth c Q D b0 nL xb ka kb n (pc + 1) L (.long x :: st) v) : hw_V p l e R s m args below meth c Q D b0 nL xb ka kb n pc L st v := fun H locs ls hH hZ hS hl => lv_lload_n C.1 C.2.1 hdg hi (lv_at hl q hq) (k H locs ls hH hZ hS hl)
theorem hq_lload (C : hw_C p s m args c D b0 cc own nL) {i q : Nat} {x : Int64} (hdg : decode cc pc = .ok (.lload i, 2)) (hq : L[q]? = some (i, .long x)) (k : hw_V p l e R s m args below meth c Q D b0 nL xb ka kb n (pc + 2) L (.long x :: st) v) : hw_V p l e R s m args below meth c Q D b0 nL xb ka kb n pc L st v := fun H locs ls hH hZ hS hl => lv_lload C.1 C.2.1 hdg (lv_at hl q hq) (k H locs ls hH hZ hS hl)
theorem hq_lstore_n (C : hw_C p s m args c D b0 cc own nL) {w : Fin 4} {i : Nat} {x : Int64} (hdg : decode cc pc = .ok (.lstore_n w, 1)) (hi : (w : Nat) = i) (hn : i + 1 < nL) (hL : (i, Value.long x) :: L.filter (fun q => !(q.1 == i) && (!(q.1 == i + 1) && !(q.1 + 1 == i && q.2.category == 2))) = L') (k : hw_V p l e R s m args below meth c Q D b0 nL xb ka kb n (pc + 1) L' st v) : hw_V p l e R s m args below meth c Q D b0 nL xb ka kb n pc L (.long x :: st) v := fun H locs ls hH hZ hS hl => lv_lstore_n C.1 C.2.1 hdg hi hl hn hL (fun ls hl => k H locs ls hH hZ hS hl)
theorem hq_lstore (C : hw_C p s m args c D b0 cc own nL) {i : Nat} {x : Int64} (hdg : decode cc pc = .ok (.lstore i, 2)) (hn : i + 1 < nL) (hL : (i, Value.long x) :: L.filter (fun q => !(q.1 == i) && (!(q.1 == i + 1) && !(q.1 + 1 == i && q.2.category == 2))) = L') (k : hw_V p l e R s m args below meth c Q D b0 nL xb ka kb n (pc + 2) L' st v) : hw_V p l e R s m args below meth c Q D b0 nL xb ka kb n pc L (.long x :: st) v := fun H locs ls hH hZ hS hl => lv_lstore C.1 C.2.1 hdg hl hn hL (fun ls hl => k H locs ls hH hZ hS hl)
theorem hq_aload_n (C : hw_C p s m args c D b0 cc own nL) {w : Fin 4} {i q : Nat} {x : Nat} (hdg : decode cc pc = .ok (.aload_n w, 1)) (hi : (w : Nat) = i) (hq : L[q]? = some (i, .ref x)) (k : hw_V p l e R s m args below meth c Q D b0 nL xb ka kb n (pc + 1) L (.ref x :: st) v) : hw_V p l e R s m args below meth c Q D b0 nL xb ka kb n pc L st v := fun H locs ls hH hZ hS hl => lv_aload_n C.1 C.2.1 hdg hi (lv_at hl q hq) (k H locs ls hH hZ hS hl)
theorem hq_aload (C : hw_C p s m args c D b0 cc own nL) {i q : Nat} {x : Nat} (hdg : decode cc pc = .ok (.aload i, 2)) (hq : L[q]? = some (i, .ref x)) (k : hw_V p l e R s m args below meth c Q D b0 nL xb ka kb n (pc + 2) L (.ref x :: st) v) : hw_V p l e R s m args below meth c Q D b0 nL xb ka kb n pc L st v := fun H locs ls hH hZ hS hl => lv_aload C.1 C.2.1 hdg (lv_at hl q hq) (k H locs ls hH hZ hS hl)
theorem hq_astore_n (C : hw_C p s m args c D b0 cc own nL) {w : Fin 4} {i : Nat} {x : Nat} (hdg : decode cc pc = .ok (.astore_n w, 1)) (hi : (w : Nat) = i) (hn : i < nL) (hL : (i, Value.ref x) :: L.filter (fun q => !(q.1 == i) && !(q.1 + 1 == i && q.2.category == 2)) = L') (k : hw_V p l e R s m args below meth c Q D b0 nL xb ka kb n (pc + 1) L' st v) : hw_V p l e R s m args below meth c Q D b0 nL xb ka kb n pc L (.ref x :: st) v := fun H locs ls hH hZ hS hl => lv_astore_n C.1 C.2.1 hdg hi hl hn hL (fun ls hl => k H locs ls hH hZ hS hl)
theorem hq_astore (C : hw_C p s m args c D b0 cc own nL) {i : Nat} {x : Nat} (hdg : decode cc pc = .ok (.astore i, 2)) (hn : i < nL) (hL : (i, Value.ref x) :: L.filter (fun q => !(q.1 == i) && !(q.1 + 1 == i && q.2.category == 2)) = L') (k : hw_V p l e R s m args below meth c Q D b0 nL xb ka kb n (pc + 2) L' st v) : hw_V p l e R s m args below meth c Q D b0 nL xb ka kb n pc L (.ref x :: st) v := fun H locs ls hH hZ hS hl => lv_astore C.1 C.2.1 hdg hl hn hL (fun ls hl => k H locs ls hH hZ hS hl)
theorem hq_iinc (C : hw_C p s m args c D b0 cc own nL) {i q : Nat} {w : Int} {x y : Int32} (hdg : decode cc pc = .ok (.iinc i w, 3)) (hq : L[q]? = some (i, .int x)) (hv : x + Int32.ofInt w = y) (hn : i < nL) (hL : (i, Value.int y) :: L.filter (fun q => !(q.1 == i) && !(q.1 + 1 == i && q.2.category == 2)) = L') (k : hw_V p l e R s m args below meth c Q D b0 nL xb ka kb n (pc + 3) L' st v) : hw_V p l e R s m args below meth c Q D b0 nL xb ka kb n pc L st v := fun H locs ls hH hZ hS hl => lv_iinc C.1 C.2.1 hdg hl hq hv hn hL (fun ls hl => k H locs ls hH hZ hS hl)
theorem hq_perm (ks : List Nat) (h : lv_pick L ks = L') (k : hw_V p l e R s m args below meth c Q D b0 nL xb ka kb n pc L' st v) : hw_V p l e R s m args below meth c Q D b0 nL xb ka kb n pc L st v := fun H locs ls hH hZ hS hl => k H locs ls hH hZ hS (lv_sub hl ks h)
theorem hq_widen {ka' kb' : Nat} (h1 : ka ≤ ka') (h2 : kb ≤ kb') (k : hw_V p l e R s m args below meth c Q D b0 nL xb ka' kb' n pc L st v) : hw_V p l e R s m args below meth c Q D b0 nL xb ka kb n pc L st v := fun H locs ls hH hZ hS hl => W.widen h1 h2 (k H locs ls hH hZ hS hl)
theorem hq_to {v' : VF} (hv : ∀ f i j, i < hw_cnt f → j < hw_sz f → hw_pos f i < n → v f i j = v' f i j) (k : hw_V p l e R s m args below meth c Q D b0 nL xb ka kb n pc L st v') : hw_V p l e R s m args below meth c Q D b0 nL xb ka kb n pc L st v := fun H locs ls hH hZ hS hl => k H locs ls (hH.to hv) hZ hS hl
theorem hq_if_eq (C : hw_C p s m args c D b0 cc own nL) {x : Int32} {off : Int} {tgt : Nat} (hdg : decode cc pc = .ok (.ifCond .eq off, 3)) (ht : (pc : Int) + off = (tgt : Int)) (kt : x = 0 → hw_V p l e R s m args below meth c Q D b0 nL xb ka kb n tgt L st v) (kf : ¬ x = 0 → hw_V p l e R s m args below meth c Q D b0 nL xb ka kb n (pc + 3) L st v) : hw_V p l e R s m args below meth c Q D b0 nL xb ka kb n pc L (.int x :: st) v := fun H locs ls hH hZ hS hl => lv_if_eq C.1 C.2.1 hdg ht (fun z => kt z H locs ls hH hZ hS hl) (fun z => kf z H locs ls hH hZ hS hl)
theorem hq_if_ne (C : hw_C p s m args c D b0 cc own nL) {x : Int32} {off : Int} {tgt : Nat} (hdg : decode cc pc = .ok (.ifCond .ne off, 3)) (ht : (pc : Int) + off = (tgt : Int)) (kt : ¬ x = 0 → hw_V p l e R s m args below meth c Q D b0 nL xb ka kb n tgt L st v) (kf : x = 0 → hw_V p l e R s m args below meth c Q D b0 nL xb ka kb n (pc + 3) L st v) : hw_V p l e R s m args below meth c Q D b0 nL xb ka kb n pc L (.int x :: st) v := fun H locs ls hH hZ hS hl => lv_if_ne C.1 C.2.1 hdg ht (fun z => kt z H locs ls hH hZ hS hl) (fun z => kf z H locs ls hH hZ hS hl)
theorem hq_if_lt (C : hw_C p s m args c D b0 cc own nL) {x : Int32} {off : Int} {tgt : Nat} (hdg : decode cc pc = .ok (.ifCond .lt off, 3)) (ht : (pc : Int) + off = (tgt : Int)) (kt : x < 0 → hw_V p l e R s m args below meth c Q D b0 nL xb ka kb n tgt L st v) (kf : ¬ x < 0 → hw_V p l e R s m args below meth c Q D b0 nL xb ka kb n (pc + 3) L st v) : hw_V p l e R s m args below meth c Q D b0 nL xb ka kb n pc L (.int x :: st) v := fun H locs ls hH hZ hS hl => lv_if_lt C.1 C.2.1 hdg ht (fun z => kt z H locs ls hH hZ hS hl) (fun z => kf z H locs ls hH hZ hS hl)
theorem hq_if_ge (C : hw_C p s m args c D b0 cc own nL) {x : Int32} {off : Int} {tgt : Nat} (hdg : decode cc pc = .ok (.ifCond .ge off, 3)) (ht : (pc : Int) + off = (tgt : Int)) (kt : 0 ≤ x → hw_V p l e R s m args below meth c Q D b0 nL xb ka kb n tgt L st v) (kf : ¬ 0 ≤ x → hw_V p l e R s m args below meth c Q D b0 nL xb ka kb n (pc + 3) L st v) : hw_V p l e R s m args below meth c Q D b0 nL xb ka kb n pc L (.int x :: st) v := fun H locs ls hH hZ hS hl => lv_if_ge C.1 C.2.1 hdg ht (fun z => kt z H locs ls hH hZ hS hl) (fun z => kf z H locs ls hH hZ hS hl)
theorem hq_if_gt (C : hw_C p s m args c D b0 cc own nL) {x : Int32} {off : Int} {tgt : Nat} (hdg : decode cc pc = .ok (.ifCond .gt off, 3)) (ht : (pc : Int) + off = (tgt : Int)) (kt : 0 < x → hw_V p l e R s m args below meth c Q D b0 nL xb ka kb n tgt L st v) (kf : ¬ 0 < x → hw_V p l e R s m args below meth c Q D b0 nL xb ka kb n (pc + 3) L st v) : hw_V p l e R s m args below meth c Q D b0 nL xb ka kb n pc L (.int x :: st) v := fun H locs ls hH hZ hS hl => lv_if_gt C.1 C.2.1 hdg ht (fun z => kt z H locs ls hH hZ hS hl) (fun z => kf z H locs ls hH hZ hS hl)
theorem hq_if_le (C : hw_C p s m args c D b0 cc own nL) {x : Int32} {off : Int} {tgt : Nat} (hdg : decode cc pc = .ok (.ifCond .le off, 3)) (ht : (pc : Int) + off = (tgt : Int)) (kt : x ≤ 0 → hw_V p l e R s m args below meth c Q D b0 nL xb ka kb n tgt L st v) (kf : ¬ x ≤ 0 → hw_V p l e R s m args below meth c Q D b0 nL xb ka kb n (pc + 3) L st v) : hw_V p l e R s m args below meth c Q D b0 nL xb ka kb n pc L (.int x :: st) v := fun H locs ls hH hZ hS hl => lv_if_le C.1 C.2.1 hdg ht (fun z => kt z H locs ls hH hZ hS hl) (fun z => kf z H locs ls hH hZ hS hl)
theorem hq_icmp_eq (C : hw_C p s m args c D b0 cc own nL) {x y : Int32} {off : Int} {tgt : Nat} (hdg : decode cc pc = .ok (.if_icmp .eq off, 3)) (ht : (pc : Int) + off = (tgt : Int)) (kt : x = y → hw_V p l e R s m args below meth c Q D b0 nL xb ka kb n tgt L st v) (kf : ¬ x = y → hw_V p l e R s m args below meth c Q D b0 nL xb ka kb n (pc + 3) L st v) : hw_V p l e R s m args below meth c Q D b0 nL xb ka kb n pc L (.int y :: .int x :: st) v := fun H locs ls hH hZ hS hl => lv_icmp_eq C.1 C.2.1 hdg ht (fun z => kt z H locs ls hH hZ hS hl) (fun z => kf z H locs ls hH hZ hS hl)
theorem hq_icmp_ne (C : hw_C p s m args c D b0 cc own nL) {x y : Int32} {off : Int} {tgt : Nat} (hdg : decode cc pc = .ok (.if_icmp .ne off, 3)) (ht : (pc : Int) + off = (tgt : Int)) (kt : ¬ x = y → hw_V p l e R s m args below meth c Q D b0 nL xb ka kb n tgt L st v) (kf : x = y → hw_V p l e R s m args below meth c Q D b0 nL xb ka kb n (pc + 3) L st v) : hw_V p l e R s m args below meth c Q D b0 nL xb ka kb n pc L (.int y :: .int x :: st) v := fun H locs ls hH hZ hS hl => lv_icmp_ne C.1 C.2.1 hdg ht (fun z => kt z H locs ls hH hZ hS hl) (fun z => kf z H locs ls hH hZ hS hl)
theorem hq_icmp_lt (C : hw_C p s m args c D b0 cc own nL) {x y : Int32} {off : Int} {tgt : Nat} (hdg : decode cc pc = .ok (.if_icmp .lt off, 3)) (ht : (pc : Int) + off = (tgt : Int)) (kt : x < y → hw_V p l e R s m args below meth c Q D b0 nL xb ka kb n tgt L st v) (kf : ¬ x < y → hw_V p l e R s m args below meth c Q D b0 nL xb ka kb n (pc + 3) L st v) : hw_V p l e R s m args below meth c Q D b0 nL xb ka kb n pc L (.int y :: .int x :: st) v := fun H locs ls hH hZ hS hl => lv_icmp_lt C.1 C.2.1 hdg ht (fun z => kt z H locs ls hH hZ hS hl) (fun z => kf z H locs ls hH hZ hS hl)
theorem hq_icmp_ge (C : hw_C p s m args c D b0 cc own nL) {x y : Int32} {off : Int} {tgt : Nat} (hdg : decode cc pc = .ok (.if_icmp .ge off, 3)) (ht : (pc : Int) + off = (tgt : Int)) (kt : y ≤ x → hw_V p l e R s m args below meth c Q D b0 nL xb ka kb n tgt L st v) (kf : ¬ y ≤ x → hw_V p l e R s m args below meth c Q D b0 nL xb ka kb n (pc + 3) L st v) : hw_V p l e R s m args below meth c Q D b0 nL xb ka kb n pc L (.int y :: .int x :: st) v := fun H locs ls hH hZ hS hl => lv_icmp_ge C.1 C.2.1 hdg ht (fun z => kt z H locs ls hH hZ hS hl) (fun z => kf z H locs ls hH hZ hS hl)
theorem hq_icmp_gt (C : hw_C p s m args c D b0 cc own nL) {x y : Int32} {off : Int} {tgt : Nat} (hdg : decode cc pc = .ok (.if_icmp .gt off, 3)) (ht : (pc : Int) + off = (tgt : Int)) (kt : y < x → hw_V p l e R s m args below meth c Q D b0 nL xb ka kb n tgt L st v) (kf : ¬ y < x → hw_V p l e R s m args below meth c Q D b0 nL xb ka kb n (pc + 3) L st v) : hw_V p l e R s m args below meth c Q D b0 nL xb ka kb n pc L (.int y :: .int x :: st) v := fun H locs ls hH hZ hS hl => lv_icmp_gt C.1 C.2.1 hdg ht (fun z => kt z H locs ls hH hZ hS hl) (fun z => kf z H locs ls hH hZ hS hl)
theorem hq_icmp_le (C : hw_C p s m args c D b0 cc own nL) {x y : Int32} {off : Int} {tgt : Nat} (hdg : decode cc pc = .ok (.if_icmp .le off, 3)) (ht : (pc : Int) + off = (tgt : Int)) (kt : x ≤ y → hw_V p l e R s m args below meth c Q D b0 nL xb ka kb n tgt L st v) (kf : ¬ x ≤ y → hw_V p l e R s m args below meth c Q D b0 nL xb ka kb n (pc + 3) L st v) : hw_V p l e R s m args below meth c Q D b0 nL xb ka kb n pc L (.int y :: .int x :: st) v := fun H locs ls hH hZ hS hl => lv_icmp_le C.1 C.2.1 hdg ht (fun z => kt z H locs ls hH hZ hS hl) (fun z => kf z H locs ls hH hZ hS hl)
theorem hq_goto (C : hw_C p s m args c D b0 cc own nL) {off : Int} {tgt : Nat} (hdg : decode cc pc = .ok (.goto off, 3)) (ht : (pc : Int) + off = (tgt : Int)) (k : hw_V p l e R s m args below meth c Q D b0 nL xb ka kb n tgt L st v) : hw_V p l e R s m args below meth c Q D b0 nL xb ka kb n pc L st v := fun H locs ls hH hZ hS hl => lv_goto C.1 C.2.1 hdg ht (k H locs ls hH hZ hS hl)
theorem hq_tsIn (C : hw_C p s m args c D b0 cc own nL) {dflt lo hi : Int} {offs : Array Int} {len : Nat} {x : Int32} {off : Int} {tgt : Nat} (hdg : decode cc pc = .ok (.tableswitch dflt lo hi offs, len)) (h1 : ¬ x.toInt < lo) (h2 : ¬ hi < x.toInt) (ho : offs[(x.toInt - lo).toNat]? = some off) (ht : (pc : Int) + off = (tgt : Int)) (k : hw_V p l e R s m args below meth c Q D b0 nL xb ka kb n tgt L st v) : hw_V p l e R s m args below meth c Q D b0 nL xb ka kb n pc L (.int x :: st) v := fun H locs ls hH hZ hS hl => lv_tableIn C.1 C.2.1 hdg h1 h2 ho ht (k H locs ls hH hZ hS hl)
theorem hq_tsOut (C : hw_C p s m args c D b0 cc own nL) {dflt lo hi : Int} {offs : Array Int} {len : Nat} {x : Int32} {tgt : Nat} (hdg : decode cc pc = .ok (.tableswitch dflt lo hi offs, len)) (h : x.toInt < lo ∨ hi < x.toInt) (ht : (pc : Int) + dflt = (tgt : Int)) (k : hw_V p l e R s m args below meth c Q D b0 nL xb ka kb n tgt L st v) : hw_V p l e R s m args below meth c Q D b0 nL xb ka kb n pc L (.int x :: st) v := fun H locs ls hH hZ hS hl => lv_tableOut C.1 C.2.1 hdg h ht (k H locs ls hH hZ hS hl)
/-- class ci of vwCl: its words are among ours, its fields' types, their names apart -/
def hw_CF (ci : Nat) : Prop := ∃ (Cn : String) (T : u_T) (N : Nat) (ty : Nat → FieldType), vwCl[ci]? = some (Cn, T, N) ∧ (∀ w ∈ u_ws Cn T N, w ∈ hw_TB) ∧ (∀ k, k < N → parseFieldDescriptor (T k).2.2.1 = some (ty k)) ∧ ∀ a, a < N → ∀ b, b < N → a ≠ b → (T a).2.1 ≠ (T b).2.1
theorem hw_uws {Cn : String} {T : u_T} {N : Nat} (h : ∀ w ∈ u_ws Cn T N, w ∈ lw_tbl) : ∀ w ∈ u_ws Cn T N, w ∈ hw_TB := by
  intro w hw
  refine List.mem_filter.mpr ⟨h w hw, ?_⟩
  obtain ⟨k, -, rfl⟩ := List.mem_map.mp hw
  unfold u_lay
  split <;> rfl
theorem hw_cf : ∀ ci, ci < 7 → hw_CF ci := by
  intro ci h
  match ci, h with
  | 0, _ => exact ⟨_, _, _, _, rfl, hw_uws inX0, tyX0_ok, nmX0⟩
  | 1, _ => exact ⟨_, _, _, _, rfl, hw_uws inX1, tyX1_ok, nmX1⟩
  | 2, _ => exact ⟨_, _, _, _, rfl, hw_uws inX2, tyX2_ok, nmX2⟩
  | 3, _ => exact ⟨_, _, _, _, rfl, hw_uws inX3, tyX3_ok, nmX3⟩
  | 4, _ => exact ⟨_, _, _, _, rfl, hw_uws inX4, tyX4_ok, nmX4⟩
  | 5, _ => exact ⟨_, _, _, _, rfl, hw_uws inX5, tyX5_ok, nmX5⟩
  | 6, _ => exact ⟨_, _, _, _, rfl, hw_uws inX6, tyX6_ok, nmX6⟩
set_option maxRecDepth 100000 in
theorem hw_szN0 : ∀ f, f < 60 → hw_ob f = true → (vwCl.map (fun q => q.2.2))[hw_kc f]? = some (hw_sz f) := by decide +kernel
theorem hw_szN (f : Nat) (hf : f < 60) (ho : hw_ob f = true) (Cn : String) (T : u_T) (N : Nat) (h : vwCl[hw_kc f]? = some (Cn, T, N)) : hw_sz f ≤ N := by
  have a := hw_szN0 f hf ho
  rw [List.getElem?_map, h] at a
  cases a
  exact Nat.le_refl _
/-- a field's link in the pool of a class -/
def hw_FL (own : String) (idx ci j : Nat) (ty : FieldType) (fin : Bool) : Prop := ∃ (Cn : String) (T : u_T) (N : Nat), vwCl[ci]? = some (Cn, T, N) ∧ j < N ∧ Cond.fieldLink own idx (T j).1 (T j).2.1 (T j).2.2.1 ∈ hw_TB ∧ parseFieldDescriptor (T j).2.2.1 = some ty ∧ (T j).2.2.2 = fin ∧ (fin = true → (T j).1 = own)
def hw_FR (own : String) (idx ci j : Nat) : Prop := ∃ (Cn : String) (T : u_T) (N : Nat), vwCl[ci]? = some (Cn, T, N) ∧ j < N ∧ Cond.fieldLink own idx (T j).1 (T j).2.1 (T j).2.2.1 ∈ hw_TB
theorem hq_get (C : hw_C p s m args c D b0 cc own nL) {f i j idx ci : Nat} {y : Value} (hL : hw_FR own idx ci j) (hdg : decode cc pc = .ok (.getfield idx, 3)) (ho : hw_ob f = true) (hci : hw_kc f = ci) (hj : j < hw_sz f) (hi : i < hw_cnt f) (hn : hw_pos f i < n) (hv : v f i j = y) (k : hw_V p l e R s m args below meth c Q D b0 nL xb ka kb n (pc + 3) L (y :: st) v) : hw_V p l e R s m args below meth c Q D b0 nL xb ka kb n pc L (.ref (hw_ad b0 f i) :: st) v := by
  intro H locs ls hH hZ hS hl
  subst hci
  obtain ⟨Cn, T, N, e1, e2, e3⟩ := hL
  have hlt : hw_kc f < 7 := (List.getElem?_eq_some_iff.mp e1).1
  obtain ⟨Cn', T', N', ty', g1, g2, g3, g4⟩ := hw_cf _ hlt
  cases e1.symm.trans g1
  obtain ⟨cell, q1, q2, q3, q4⟩ := (hH f i hi hn).1 ho
  obtain ⟨hSl, hfc, kC, hkC, hkind⟩ := C.2.2.2.2.2.1.1 _ _ e1
  obtain ⟨cf, kf, fi, fd, hfd, hsl⟩ := hSl j e2
  refine W.getf C.1 C.2.1 C.2.2.2.1 (C.2.2.2.2.1 _ e3) hfd (u_facts hfc hkC (u_lays C.2.2.2.2.1 g2 e2) hfd).1 q1 (by rw [q3]; exact fun h => by cases h) (v := y) ?_ rfl rfl hdg (k H locs ls hH hZ hS hl)
  rw [hsl, q4 j hj, hv]
theorem hq_put (C : hw_C p s m args c D b0 cc own nL) {f i j idx ci : Nat} {ty : FieldType} {y : Value} {v' : VF} (hL : hw_FL own idx ci j ty false) (hdg : decode cc pc = .ok (.putfield idx, 3)) (ho : hw_ob f = true) (hci : hw_kc f = ci) (hj : j < hw_sz f) (hi : i < hw_cnt f) (hn : hw_pos f i < n) (hnar : narrow ty y = y) (hfit : fits ty y = true) (hU : hw_U v f i j y v') (k : hw_V p l e R s m args below meth c Q D b0 nL xb ka kb n (pc + 3) L st v') : hw_V p l e R s m args below meth c Q D b0 nL xb ka kb n pc L (y :: .ref (hw_ad b0 f i) :: st) v := by
  intro H locs ls hH hZ hS hl
  subst hci
  obtain ⟨Cn, T, N, e1, e2, e3, e4, e5, -⟩ := hL
  have hlt : hw_kc f < 7 := (List.getElem?_eq_some_iff.mp e1).1
  obtain ⟨Cn', T', N', ty', g1, g2, g3, g4⟩ := hw_cf _ hlt
  cases e1.symm.trans g1
  have hap := va_apart (own := own) C.2.2.2.2.1 g2 ty' g3 g4 C.2.2.2.2.2.1 e1
  have hNsz : N = hw_sz f ∨ hw_sz f ≤ N := by
    rcases Nat.lt_or_ge N (hw_sz f) with z | z
    · exact absurd (hw_szN f (hw_lt hi) ho _ _ _ e1) (by omega)
    · exact Or.inr z
  obtain ⟨cell, q1, q2, q3, q4⟩ := (hH f i hi hn).1 ho
  obtain ⟨hSl, hfc, kC, hkC, hkind⟩ := C.2.2.2.2.2.1.1 _ _ e1
  obtain ⟨cf, kf, fi, fd, hfd, hsl⟩ := hSl j e2
  have hlay := C.2.2.2.2.1 _ (g2 _ (u_in_lay e2))
  unfold u_lay at hlay
  rw [if_neg (by rw [e5]; decide)] at hlay
  have hst := (u_facts hfc hkC (u_lays C.2.2.2.2.1 g2 e2) hfd).1
  have h6 := u_store hfc hkC hkind hlay hfd e4 hnar hfit
  have hsz : ∀ a b, a < hw_sz f → b < hw_sz f → a ≠ b → D.2 (hw_kc f) a ≠ D.2 (hw_kc f) b := fun a b ha hb => hap a b (by rcases hNsz with z | z <;> omega) (by rcases hNsz with z | z <;> omega)
  refine W.putK C.1 C.2.1 (f := fd) ⟨C.2.2.2.1, C.2.2.2.2.1 _ e3, ⟨_, _, _, hfd⟩, hst⟩ (by rw [q2]; exact h6) q1 q3 (by rw [hsl]; exact k2_hasslot (q4 j hj)) rfl rfl hdg fun H' a1 a2 a3 => ?_
  rw [hsl] at a1 ⊢
  exact k H' _ ls (hH.put hU hi ⟨fun _ => ⟨_, a1, q2, q3, t_set q4 hsz hj y⟩, fun z => (by rw [ho] at z; cases z)⟩ a3) (by rw [a2]; exact hZ) (hS.put a2 a3 (Nat.le_add_right _ _)) hl
set_option maxRecDepth 100000 in
theorem hw_sz31 : ∀ f, f < 60 → hw_sz f ≤ 480 := by decide +kernel
theorem hq_iald (C : hw_C p s m args c D b0 cc own nL) {f i a : Nat} {x : Int32} {y : Value} (hdg : decode cc pc = .ok (.iaload, 1)) (hkc : hw_kc f = 10) (ho : hw_ob f = false) (hx : x = nI a) (ha : a < hw_sz f) (hi : i < hw_cnt f) (hn : hw_pos f i < n) (hv : v f i a = y) (k : hw_V p l e R s m args below meth c Q D b0 nL xb ka kb n (pc + 1) L (y :: st) v) : hw_V p l e R s m args below meth c Q D b0 nL xb ka kb n pc L (.int x :: .ref (hw_ad b0 f i) :: st) v := by
  intro H locs ls hH hZ hS hl
  have h1 := (hH f i hi hn).2 ho
  rw [hkc] at h1
  have ha31 : a < 2 ^ 31 := Nat.lt_of_lt_of_le ha (Nat.le_trans (hw_sz31 f (hw_lt hi)) (by decide))
  have hcl : x.toNatClampNeg = a := by rw [hx, nI_clamp ha31]
  have hin : ¬ (x < 0 ∨ hw_sz f ≤ x.toNatClampNeg) := by
    rw [hcl, hx]
    rintro (z | z)
    · exact nI_pos ha31 z
    · omega
  exact W.iald (v := y) C.1 C.2.1 h1 ((C.2.2.2.2.2.1.2 0 _ rfl).1 _ _) (fun q => by cases q) (by rw [arrV_size]; exact hin) (by rw [hcl, arrV_read _ _ ha, hv]) rfl rfl hdg (k H locs ls hH hZ hS hl)
theorem hq_zald (C : hw_C p s m args c D b0 cc own nL) {f i a : Nat} {x : Int32} {y : Value} (hdg : decode cc pc = .ok (.baload, 1)) (hkc : hw_kc f = 12) (ho : hw_ob f = false) (hx : x = nI a) (ha : a < hw_sz f) (hi : i < hw_cnt f) (hn : hw_pos f i < n) (hv : v f i a = y) (k : hw_V p l e R s m args below meth c Q D b0 nL xb ka kb n (pc + 1) L (y :: st) v) : hw_V p l e R s m args below meth c Q D b0 nL xb ka kb n pc L (.int x :: .ref (hw_ad b0 f i) :: st) v := by
  intro H locs ls hH hZ hS hl
  have h1 := (hH f i hi hn).2 ho
  rw [hkc] at h1
  have ha31 : a < 2 ^ 31 := Nat.lt_of_lt_of_le ha (Nat.le_trans (hw_sz31 f (hw_lt hi)) (by decide))
  have hcl : x.toNatClampNeg = a := by rw [hx, nI_clamp ha31]
  have hin : ¬ (x < 0 ∨ hw_sz f ≤ x.toNatClampNeg) := by
    rw [hcl, hx]
    rintro (z | z)
    · exact nI_pos ha31 z
    · omega
  exact W.zald (v := y) C.1 C.2.1 h1 ((C.2.2.2.2.2.1.2 2 _ rfl).1 _ _) (fun q => by cases q) (by rw [arrV_size]; exact hin) (by rw [hcl, arrV_read _ _ ha, hv]) rfl rfl hdg (k H locs ls hH hZ hS hl)
theorem hq_lald (C : hw_C p s m args c D b0 cc own nL) {f i a : Nat} {x : Int32} {y : Value} (hdg : decode cc pc = .ok (.laload, 1)) (hkc : hw_kc f = 11) (ho : hw_ob f = false) (hx : x = nI a) (ha : a < hw_sz f) (hi : i < hw_cnt f) (hn : hw_pos f i < n) (hv : v f i a = y) (k : hw_V p l e R s m args below meth c Q D b0 nL xb ka kb n (pc + 1) L (y :: st) v) : hw_V p l e R s m args below meth c Q D b0 nL xb ka kb n pc L (.int x :: .ref (hw_ad b0 f i) :: st) v := by
  intro H locs ls hH hZ hS hl
  have h1 := (hH f i hi hn).2 ho
  rw [hkc] at h1
  have ha31 : a < 2 ^ 31 := Nat.lt_of_lt_of_le ha (Nat.le_trans (hw_sz31 f (hw_lt hi)) (by decide))
  have hcl : x.toNatClampNeg = a := by rw [hx, nI_clamp ha31]
  have hin : ¬ (x < 0 ∨ hw_sz f ≤ x.toNatClampNeg) := by
    rw [hcl, hx]
    rintro (z | z)
    · exact nI_pos ha31 z
    · omega
  exact W.lald (v := y) C.1 C.2.1 h1 ((C.2.2.2.2.2.1.2 1 _ rfl).1 _ _) (fun q => by cases q) (by rw [arrV_size]; exact hin) (by rw [hcl, arrV_read _ _ ha, hv]) rfl rfl hdg (k H locs ls hH hZ hS hl)
theorem hq_aaldB (C : hw_C p s m args c D b0 cc own nL) {f i a : Nat} {x : Int32} {y : Value} (hdg : decode cc pc = .ok (.aaload, 1)) (hkc : hw_kc f = 13) (ho : hw_ob f = false) (hx : x = nI a) (ha : a < hw_sz f) (hi : i < hw_cnt f) (hn : hw_pos f i < n) (hv : v f i a = y) (k : hw_V p l e R s m args below meth c Q D b0 nL xb ka kb n (pc + 1) L (y :: st) v) : hw_V p l e R s m args below meth c Q D b0 nL xb ka kb n pc L (.int x :: .ref (hw_ad b0 f i) :: st) v := by
  intro H locs ls hH hZ hS hl
  have h1 := (hH f i hi hn).2 ho
  rw [hkc] at h1
  have ha31 : a < 2 ^ 31 := Nat.lt_of_lt_of_le ha (Nat.le_trans (hw_sz31 f (hw_lt hi)) (by decide))
  have hcl : x.toNatClampNeg = a := by rw [hx, nI_clamp ha31]
  have hin : ¬ (x < 0 ∨ hw_sz f ≤ x.toNatClampNeg) := by
    rw [hcl, hx]
    rintro (z | z)
    · exact nI_pos ha31 z
    · omega
  exact W.aald (v := y) (ty := .object "HundiHall$Broker") C.1 C.2.1 h1 ((C.2.2.2.2.2.1.2 3 _ rfl).1 _ _) rfl (fun q => by cases q) (by rw [arrV_size]; exact hin) (by rw [hcl, arrV_read _ _ ha, hv]) rfl rfl hdg (k H locs ls hH hZ hS hl)
theorem hq_aaldO (C : hw_C p s m args c D b0 cc own nL) {f i a : Nat} {x : Int32} {y : Value} (hdg : decode cc pc = .ok (.aaload, 1)) (hkc : hw_kc f = 14) (ho : hw_ob f = false) (hx : x = nI a) (ha : a < hw_sz f) (hi : i < hw_cnt f) (hn : hw_pos f i < n) (hv : v f i a = y) (k : hw_V p l e R s m args below meth c Q D b0 nL xb ka kb n (pc + 1) L (y :: st) v) : hw_V p l e R s m args below meth c Q D b0 nL xb ka kb n pc L (.int x :: .ref (hw_ad b0 f i) :: st) v := by
  intro H locs ls hH hZ hS hl
  have h1 := (hH f i hi hn).2 ho
  rw [hkc] at h1
  have ha31 : a < 2 ^ 31 := Nat.lt_of_lt_of_le ha (Nat.le_trans (hw_sz31 f (hw_lt hi)) (by decide))
  have hcl : x.toNatClampNeg = a := by rw [hx, nI_clamp ha31]
  have hin : ¬ (x < 0 ∨ hw_sz f ≤ x.toNatClampNeg) := by
    rw [hcl, hx]
    rintro (z | z)
    · exact nI_pos ha31 z
    · omega
  exact W.aald (v := y) (ty := .object "HundiHall$Order") C.1 C.2.1 h1 ((C.2.2.2.2.2.1.2 4 _ rfl).1 _ _) rfl (fun q => by cases q) (by rw [arrV_size]; exact hin) (by rw [hcl, arrV_read _ _ ha, hv]) rfl rfl hdg (k H locs ls hH hZ hS hl)
theorem hq_aaldC (C : hw_C p s m args c D b0 cc own nL) {f i a : Nat} {x : Int32} {y : Value} (hdg : decode cc pc = .ok (.aaload, 1)) (hkc : hw_kc f = 15) (ho : hw_ob f = false) (hx : x = nI a) (ha : a < hw_sz f) (hi : i < hw_cnt f) (hn : hw_pos f i < n) (hv : v f i a = y) (k : hw_V p l e R s m args below meth c Q D b0 nL xb ka kb n (pc + 1) L (y :: st) v) : hw_V p l e R s m args below meth c Q D b0 nL xb ka kb n pc L (.int x :: .ref (hw_ad b0 f i) :: st) v := by
  intro H locs ls hH hZ hS hl
  have h1 := (hH f i hi hn).2 ho
  rw [hkc] at h1
  have ha31 : a < 2 ^ 31 := Nat.lt_of_lt_of_le ha (Nat.le_trans (hw_sz31 f (hw_lt hi)) (by decide))
  have hcl : x.toNatClampNeg = a := by rw [hx, nI_clamp ha31]
  have hin : ¬ (x < 0 ∨ hw_sz f ≤ x.toNatClampNeg) := by
    rw [hcl, hx]
    rintro (z | z)
    · exact nI_pos ha31 z
    · omega
  exact W.aald (v := y) (ty := .object "HundiHall$Courier") C.1 C.2.1 h1 ((C.2.2.2.2.2.1.2 5 _ rfl).1 _ _) rfl (fun q => by cases q) (by rw [arrV_size]; exact hin) (by rw [hcl, arrV_read _ _ ha, hv]) rfl rfl hdg (k H locs ls hH hZ hS hl)
theorem hq_aaldJ (C : hw_C p s m args c D b0 cc own nL) {f i a : Nat} {x : Int32} {y : Value} (hdg : decode cc pc = .ok (.aaload, 1)) (hkc : hw_kc f = 16) (ho : hw_ob f = false) (hx : x = nI a) (ha : a < hw_sz f) (hi : i < hw_cnt f) (hn : hw_pos f i < n) (hv : v f i a = y) (k : hw_V p l e R s m args below meth c Q D b0 nL xb ka kb n (pc + 1) L (y :: st) v) : hw_V p l e R s m args below meth c Q D b0 nL xb ka kb n pc L (.int x :: .ref (hw_ad b0 f i) :: st) v := by
  intro H locs ls hH hZ hS hl
  have h1 := (hH f i hi hn).2 ho
  rw [hkc] at h1
  have ha31 : a < 2 ^ 31 := Nat.lt_of_lt_of_le ha (Nat.le_trans (hw_sz31 f (hw_lt hi)) (by decide))
  have hcl : x.toNatClampNeg = a := by rw [hx, nI_clamp ha31]
  have hin : ¬ (x < 0 ∨ hw_sz f ≤ x.toNatClampNeg) := by
    rw [hcl, hx]
    rintro (z | z)
    · exact nI_pos ha31 z
    · omega
  exact W.aald (v := y) (ty := .array .long) C.1 C.2.1 h1 ((C.2.2.2.2.2.1.2 6 _ rfl).1 _ _) rfl (fun q => by cases q) (by rw [arrV_size]; exact hin) (by rw [hcl, arrV_read _ _ ha, hv]) rfl rfl hdg (k H locs ls hH hZ hS hl)
theorem hq_iast (C : hw_C p s m args c D b0 cc own nL) {f i a : Nat} {x : Int32} {y : Int32} {v' : VF} (hdg : decode cc pc = .ok (.iastore, 1)) (hkc : hw_kc f = 10) (ho : hw_ob f = false) (hx : x = nI a) (ha : a < hw_sz f) (hi : i < hw_cnt f) (hn : hw_pos f i < n) (hU : hw_U v f i a (.int y) v') (k : hw_V p l e R s m args below meth c Q D b0 nL xb ka kb n (pc + 1) L st v') : hw_V p l e R s m args below meth c Q D b0 nL xb ka kb n pc L (.int y :: .int x :: .ref (hw_ad b0 f i) :: st) v := by
  intro H locs ls hH hZ hS hl
  have h1 := (hH f i hi hn).2 ho
  rw [hkc] at h1
  have ha31 : a < 2 ^ 31 := Nat.lt_of_lt_of_le ha (Nat.le_trans (hw_sz31 f (hw_lt hi)) (by decide))
  have hcl : x.toNatClampNeg = a := by rw [hx, nI_clamp ha31]
  have hin : ¬ (x < 0 ∨ hw_sz f ≤ x.toNatClampNeg) := by
    rw [hcl, hx]
    rintro (z | z)
    · exact nI_pos ha31 z
    · omega
  refine W.iast C.1 C.2.1 h1 ((C.2.2.2.2.2.1.2 0 _ rfl).1 _ _) (fun q => by cases q) (by rw [arrV_size]; exact hin) rfl rfl hdg fun H' a1 a2 a3 => ?_
  rw [hcl] at a1 ⊢
  rw [arrV_store] at a1
  exact k H' _ ls (hH.put hU hi ⟨fun z => (by rw [ho] at z; cases z), fun _ => (by rw [hkc]; exact a1)⟩ a3) (by rw [a2]; exact hZ) (hS.put a2 a3 (Nat.le_add_right _ _)) hl
theorem hq_zast (C : hw_C p s m args c D b0 cc own nL) {f i a : Nat} {x : Int32} {y : Int32} {v' : VF} (hdg : decode cc pc = .ok (.bastore, 1)) (hkc : hw_kc f = 12) (ho : hw_ob f = false) (hx : x = nI a) (ha : a < hw_sz f) (hi : i < hw_cnt f) (hn : hw_pos f i < n) (hnar : narrow .boolean (.int y) = .int y) (hU : hw_U v f i a (.int y) v') (k : hw_V p l e R s m args below meth c Q D b0 nL xb ka kb n (pc + 1) L st v') : hw_V p l e R s m args below meth c Q D b0 nL xb ka kb n pc L (.int y :: .int x :: .ref (hw_ad b0 f i) :: st) v := by
  intro H locs ls hH hZ hS hl
  have h1 := (hH f i hi hn).2 ho
  rw [hkc] at h1
  have ha31 : a < 2 ^ 31 := Nat.lt_of_lt_of_le ha (Nat.le_trans (hw_sz31 f (hw_lt hi)) (by decide))
  have hcl : x.toNatClampNeg = a := by rw [hx, nI_clamp ha31]
  have hin : ¬ (x < 0 ∨ hw_sz f ≤ x.toNatClampNeg) := by
    rw [hcl, hx]
    rintro (z | z)
    · exact nI_pos ha31 z
    · omega
  refine W.zast C.1 C.2.1 h1 ((C.2.2.2.2.2.1.2 2 _ rfl).1 _ _) (fun q => by cases q) (by rw [arrV_size]; exact hin) rfl rfl hdg fun H' a1 a2 a3 => ?_
  rw [hcl] at a1 ⊢
  rw [hnar] at a1
  rw [arrV_store] at a1
  exact k H' _ ls (hH.put hU hi ⟨fun z => (by rw [ho] at z; cases z), fun _ => (by rw [hkc]; exact a1)⟩ a3) (by rw [a2]; exact hZ) (hS.put a2 a3 (Nat.le_add_right _ _)) hl
theorem hq_last (C : hw_C p s m args c D b0 cc own nL) {f i a : Nat} {x : Int32} {y : Int64} {v' : VF} (hdg : decode cc pc = .ok (.lastore, 1)) (hkc : hw_kc f = 11) (ho : hw_ob f = false) (hx : x = nI a) (ha : a < hw_sz f) (hi : i < hw_cnt f) (hn : hw_pos f i < n) (hU : hw_U v f i a (.long y) v') (k : hw_V p l e R s m args below meth c Q D b0 nL xb ka kb n (pc + 1) L st v') : hw_V p l e R s m args below meth c Q D b0 nL xb ka kb n pc L (.long y :: .int x :: .ref (hw_ad b0 f i) :: st) v := by
  intro H locs ls hH hZ hS hl
  have h1 := (hH f i hi hn).2 ho
  rw [hkc] at h1
  have ha31 : a < 2 ^ 31 := Nat.lt_of_lt_of_le ha (Nat.le_trans (hw_sz31 f (hw_lt hi)) (by decide))
  have hcl : x.toNatClampNeg = a := by rw [hx, nI_clamp ha31]
  have hin : ¬ (x < 0 ∨ hw_sz f ≤ x.toNatClampNeg) := by
    rw [hcl, hx]
    rintro (z | z)
    · exact nI_pos ha31 z
    · omega
  refine W.last C.1 C.2.1 h1 ((C.2.2.2.2.2.1.2 1 _ rfl).1 _ _) (fun q => by cases q) (by rw [arrV_size]; exact hin) rfl rfl hdg fun H' a1 a2 a3 => ?_
  rw [hcl] at a1 ⊢
  rw [arrV_store] at a1
  exact k H' _ ls (hH.put hU hi ⟨fun z => (by rw [ho] at z; cases z), fun _ => (by rw [hkc]; exact a1)⟩ a3) (by rw [a2]; exact hZ) (hS.put a2 a3 (Nat.le_add_right _ _)) hl
end HW
end
section
/-! CONTRACTS hw_M (returns), hw_MX (returns or throws), and the rows of calls, returns and throws. -/
def hw_Q (D : va_G) (b0 : Nat) (xb : Bool) (n : Nat) (r : Option Value) (v : VF) : Array Value → State → Outcome → State → Prop := fun _ st o t => o = .returned r ∧ hw_HP D b0 n v t.heap ∧ hw_Z xb b0 n t.heap.size ∧ va_F (fun q => b0 ≤ q) st t
/-- y, called with av where the cells hold v, returns r, and the cells hold v' then -/
def hw_M (l : Launch) (y : MethodName) (bytes : ByteArray) (maxL : Nat) (ret : Option FieldType) (rm : Room) (D : va_G) (b0 : Nat) (xb : Bool) (n : Nat) (av : List Value) (v : VF) (xb' : Bool) (n' : Nat) (r : Option Value) (v' : VF) (mc ms : Nat) : Prop :=
  Met l y (Cond.code y bytes maxL ret :: hw_TB) rm (va_Pc av (hw_PW D b0 xb n v)) (hw_Q D b0 xb' n' r v') mc ms (fun q => b0 ≤ q)
def hw_XC (D : va_G) (b0 n : Nat) (ex : Option String) (v : VF) : String → State → State → Prop := fun E st t => ex = some E ∧ hw_HP D b0 n v t.heap ∧ hw_Z false b0 n t.heap.size ∧ va_F (fun q => b0 ≤ q) st t
def hw_QX (D : va_G) (b0 n : Nat) (ex : Option String) (r : Option Value) (v : VF) : Array Value → State → Outcome → State → Prop := fun a st o t => ex = none ∧ hw_Q D b0 false n r v a st o t
/-- y, called with av where the cells hold v, throws ex (the cells hold v still), or, where ex is none, returns r, and the cells hold v' then -/
def hw_MX (l : Launch) (y : MethodName) (w : Cond) (rm : Room) (D : va_G) (b0 n : Nat) (av : List Value) (v : VF) (ex : Option String) (r : Option Value) (v' : VF) (mc ms : Nat) : Prop :=
  vx_Met l y (w :: hw_TB) rm (va_Pc av (hw_PW D b0 false n v)) (hw_QX D b0 n ex r v') (hw_XC D b0 n ex v) mc ms (fun q => b0 ≤ q)
theorem hw_blind {D : va_G} {b0 : Nat} {xb : Bool} {n : Nat} {av : List Value} {v : VF} : FrameBlind (va_Pc av (hw_PW D b0 xb n v)) := by
  intro a U g mk h
  obtain ⟨h0, h1, h2, h3, h4, h5, h6⟩ := h
  exact ⟨h0, va_K.moved (u := U) (U := U.calling g mk a) (Vm.Alike.refl U.vm) h1, hw_XW.warm (s := U) (U := U.calling g mk a) (State.WarmedH.refl U) h2, vx_Zq.moved (u := U) (U := U.calling g mk a) (Vm.Alike.refl U.vm) h3, vx_Zq.moved (u := U) (U := U.calling g mk a) (Vm.Alike.refl U.vm) h4, h5, h6⟩
theorem hw_goodIn {ws : List Cond} (h : ∀ w ∈ ws, w ∈ hw_TB) : GoodIn hw_TB ws := fun w hw => ⟨h w hw, good_of_word (hw_TBg (h w hw))⟩
/-- what is known of a method that is called on an object of class Cn -/
def hw_WV (Cn : String) (y : MethodName) (w : Cond) (k : Nat) : Prop := (w ∈ hw_TB ∧ Cond.instanceMethod y ∈ hw_TB ∧ Cond.selects Cn y y ∈ hw_TB ∧ Cond.initialized Cn ∈ hw_TB) ∧ (y.cls = Cn ∧ y.cls ≠ "java/lang/invoke/MethodHandle" ∧ y.cls ≠ "java/lang/invoke/VarHandle" ∧ (parseMethodDescriptor y.desc).map (fun d => d.parameters.length) = some k)
def hw_WS (y : MethodName) (w : Cond) (k : Nat) : Prop := (w ∈ hw_TB ∧ Cond.static y ∈ hw_TB ∧ Cond.initialized y.cls ∈ hw_TB) ∧ (y.cls ≠ "java/lang/invoke/MethodHandle" ∧ y.cls ≠ "java/lang/invoke/VarHandle" ∧ (parseMethodDescriptor y.desc).map (fun d => d.parameters.length) = some k)
def hw_WI (y : MethodName) (w : Cond) (k : Nat) : Prop := (w ∈ hw_TB ∧ Cond.instanceMethod y ∈ hw_TB ∧ Cond.initialized y.cls ∈ hw_TB) ∧ (y.name = "<init>" ∧ y.cls ≠ "java/lang/invoke/MethodHandle" ∧ y.cls ≠ "java/lang/invoke/VarHandle" ∧ (parseMethodDescriptor y.desc).map (fun d => d.parameters.length) = some k)
section HC
variable {p : Program} {l : Launch} {e : Env} {R : Room} {s : State} {m : MethodId} {args : Array Value} {below : List Frame} {meth : Method} {c : Code} {Q : State → Prop}
variable {D : va_G} {b0 nL : Nat} {xb xb' : Bool} {ka kb n n' : Nat} {pc : Nat} {L L' : List (Nat × Value)} {st st0 : List Value} {v v' : VF} {cc : ByteArray} {own : String}
variable {y : MethodName} {bytes : ByteArray} {maxL idx k mc ms : Nat} {ret : Option FieldType} {rm : Room} {As : List Value} {r : Option Value} {Cn : String} {ex : Option String} {v0 : VF} {Qc : Array Value → State → Outcome → State → Prop} {XC : String → State → State → Prop}
theorem hw_goodV (hw : hw_WV Cn y (Cond.code y bytes maxL ret) k) (hl : Cond.methodLink own idx y ∈ hw_TB) : GoodIn hw_TB (wsV own idx Cn y (Cond.code y bytes maxL ret :: hw_TB)) := by
  refine hw_goodIn fun w h => ?_
  unfold wsV at h
  rcases List.mem_append.mp h with h | h
  · simp only [List.mem_cons, List.mem_nil_iff, or_false] at h
    rcases h with rfl | rfl | rfl | rfl
    · exact hl
    · exact hw.1.2.1
    · exact hw.1.2.2.1
    · exact hw.1.2.2.2
  · rcases List.mem_cons.mp h with rfl | h
    · exact hw.1.1
    · exact h
theorem hw_goodS {w9 : Cond} (hw : hw_WS y w9 k) (hl : Cond.methodLink own idx y ∈ hw_TB) : GoodIn hw_TB (va_wsS own idx y (w9 :: hw_TB)) := by
  refine hw_goodIn fun w h => ?_
  unfold va_wsS at h
  rcases List.mem_append.mp h with h | h
  · simp only [List.mem_cons, List.mem_nil_iff, or_false] at h
    rcases h with rfl | rfl | rfl
    · exact hl
    · exact hw.1.2.1
    · exact hw.1.2.2
  · rcases List.mem_cons.mp h with rfl | h
    · exact hw.1.1
    · exact h
theorem hw_goodC {w9 : Cond} (h9 : w9 ∈ hw_TB) : GoodIn hw_TB (w9 :: hw_TB) := hw_goodIn fun w h => by
  rcases List.mem_cons.mp h with rfl | h
  · exact h9
  · exact h
/-- the world as it is when a callee begins -/
theorem hw_next (C : hw_C p s m args c D b0 cc own nL) {U : State} {H : Heap} {locs : List Loc} (hU : U.heap = H) (hW : s.WarmedH U.vm) (hH : hw_HP D b0 n v H) (hZ : hw_Z xb b0 n H.size) (hS : va_S (fun q => b0 ≤ q) s.heap H locs) : hw_PW D b0 xb n v U := by
  obtain ⟨-, -, -, -, -, h1, h2, h3, h4, -⟩ := C
  have hq : ∀ a : Nat, a < s.heap.size → ¬ (fun q => b0 ≤ q) a → H[a]? = s.heap[a]? := hS.2.1
  refine ⟨va_K.moved hW.alike h1, hw_XW.warm hW h2, ?_, ?_, by rw [hU]; exact hH, by rw [hU]; exact hZ⟩
  · rw [hU]; exact vx_Zq.moved hW.alike (h3.kept hq)
  · rw [hU]; exact vx_Zq.moved hW.alike (h4.kept hq)
theorem hw_recv (C : hw_C p s m args c D b0 cc own nL) {f i : Nat} {T : u_T} {N : Nat} {H : Heap} (hH : hw_HP D b0 n v H) (ho : hw_ob f = true) (hcl : vwCl[hw_kc f]? = some (Cn, T, N)) (hi : i < hw_cnt f) (hn : hw_pos f i < n) : ∃ cellB : Cell, H[hw_ad b0 f i]? = some cellB ∧ cellB.vm.isStatics = false ∧ s.vm.findClass Cn = some cellB.cls := by
  obtain ⟨cell, q1, q2, q3, q4⟩ := (hH f i hi hn).1 ho
  exact ⟨cell, q1, by rw [q3]; rfl, by rw [q2]; exact (C.2.2.2.2.2.1.1 _ _ hcl).2.1⟩
/-- behind a call that returns -/
theorem hw_after {H : Heap} {locs : List Loc} {ls : Array Slot} {a : Array Value} (hr : va_Run p l e R s m args below meth c H locs ka kb mc ms (F0 m pc ls st0) st (hw_Q D b0 xb' n' r v' a) (fun q => b0 ≤ q)) (hS : va_S (fun q => b0 ≤ q) s.heap H locs) (hl : lv_has ls nL L)
    (kk : hw_V p l e R s m args below meth c Q D b0 nL xb' (ka + mc) (kb + ms) n' (pc + 3) L (r.toList ++ st) v') : W p l e R s m args below meth c H locs ka kb Q (F0 m pc ls st0) := by
  intro T hT X
  obtain ⟨w, st₀, t, T', L9, h0, X', hL, e1, e2, ⟨hv, hH1, hZ1, hF⟩, stp⟩ := hr T hT X
  cases hv
  have hz : H.size ≤ t.heap.size := by rw [← h0]; exact hF.1
  have hk : ∀ q : Nat, q < H.size → ¬ b0 ≤ q → t.heap[q]? = H[q]? := fun q h1 h2 => by
    have := hF.2 q (by rw [h0]; exact h1) h2
    rw [this, h0]
  obtain ⟨t2, a1, b1⟩ := kk T'.heap (locs ++ L9) ls (by rw [e1]; exact hH1) (by rw [e1]; exact hZ1)
    ⟨Nat.le_trans hS.1 (by rw [e1]; exact hz), fun q h1 h2 => by rw [e1, hk q (Nat.lt_of_lt_of_le h1 hS.1) h2]; exact hS.2.1 q h1 h2, fun q hq => by
      rcases List.mem_append.mp hq with h | h
      · exact hS.2.2 q h
      · exact hL q h⟩ hl T' rfl X'
  exact ⟨t2, stp t2 a1, b1⟩
theorem hq_callV (C : hw_C p s m args c D b0 cc own nL) {f i : Nat} {T : u_T} {N : Nat} (hM : hw_M l y bytes maxL ret rm D b0 xb n (.ref (hw_ad b0 f i) :: As) v xb' n' r v' mc ms) (hw : hw_WV Cn y (Cond.code y bytes maxL ret) k) (hl9 : Cond.methodLink own idx y ∈ hw_TB) (ho : hw_ob f = true) (hcl : vwCl[hw_kc f]? = some (Cn, T, N)) (hi : i < hw_cnt f) (hn : hw_pos f i < n)
    (hlen : As.length = k) (hst : st0 = As.reverse ++ .ref (hw_ad b0 f i) :: st) (hrc : rm.cells = mc) (hrs : rm.slots = ms) (hR : rm.frames + 1 ≤ R.frames ∧ 8 + (maxL + 11) + rm.locals ≤ R.locals) (hroom : (st.map fun v => v.category).sum ≤ 8) (hf : ka + mc ≤ R.cells ∧ kb + ms ≤ R.slots) (hdg : decode cc pc = .ok (.invokevirtual idx, 3))
    (kk : hw_V p l e R s m args below meth c Q D b0 nL xb' (ka + mc) (kb + ms) n' (pc + 3) L (r.toList ++ st) v') : hw_V p l e R s m args below meth c Q D b0 nL xb ka kb n pc L st0 v := by
  intro H locs ls hH hZ hS hl
  refine hw_after (va_runV (Ts := hw_TB) ⟨C.1, C.2.1, C.2.2.1, C.2.2.2.1, C.2.2.2.2.1⟩ hM (cwV k C.2.2.2.2.1 (hw_goodV hw hl9) rfl hrc hrs hw.2 hR) ⟨hw_blind, hw_recv C hH ho hcl hi hn, fun U hU hW => ⟨rfl, hw_next C hU hW hH hZ hS⟩⟩ rfl hlen hl.1 hst (lv_room hroom) hdg hf) hS hl kk
theorem hq_callS (C : hw_C p s m args c D b0 cc own nL) (hM : hw_M l y bytes maxL ret rm D b0 xb n As v xb' n' r v' mc ms) (hw : hw_WS y (Cond.code y bytes maxL ret) k) (hl9 : Cond.methodLink own idx y ∈ hw_TB)
    (hlen : As.length = k) (hst : st0 = As.reverse ++ st) (hrc : rm.cells = mc) (hrs : rm.slots = ms) (hR : rm.frames + 1 ≤ R.frames ∧ 8 + (maxL + 11) + rm.locals ≤ R.locals) (hroom : (st.map fun v => v.category).sum ≤ 8) (hf : ka + mc ≤ R.cells ∧ kb + ms ≤ R.slots) (hdg : decode cc pc = .ok (.invokestatic idx, 3))
    (kk : hw_V p l e R s m args below meth c Q D b0 nL xb' (ka + mc) (kb + ms) n' (pc + 3) L (r.toList ++ st) v') : hw_V p l e R s m args below meth c Q D b0 nL xb ka kb n pc L st0 v := by
  intro H locs ls hH hZ hS hl
  refine hw_after (va_runS (Ts := hw_TB) ⟨C.1, C.2.1, C.2.2.1, C.2.2.2.1, C.2.2.2.2.1⟩ hM (va_cwS k C.2.2.2.2.1 (hw_goodS hw hl9) rfl hrc hrs hw.2 hR) ⟨hw_blind, fun U hU hW => ⟨rfl, hw_next C hU hW hH hZ hS⟩⟩ rfl hlen hl.1 hst (lv_room hroom) hdg hf) hS hl kk
theorem hq_callI (C : hw_C p s m args c D b0 cc own nL) {b : Nat} (hM : hw_M l y bytes maxL none rm D b0 xb n (.ref b :: As) v xb' n' none v' mc ms) (hw : hw_WI y (Cond.code y bytes maxL none) k) (hl9 : Cond.methodLink own idx y ∈ hw_TB)
    (hlen : As.length = k) (hst : st0 = As.reverse ++ .ref b :: st) (hrc : rm.cells = mc) (hrs : rm.slots = ms) (hR : rm.frames + 1 ≤ R.frames ∧ 8 + (maxL + 11) + rm.locals ≤ R.locals) (hroom : (st.map fun v => v.category).sum ≤ 8) (hf : ka + mc ≤ R.cells ∧ kb + ms ≤ R.slots) (hdg : decode cc pc = .ok (.invokespecial idx, 3))
    (kk : hw_V p l e R s m args below meth c Q D b0 nL xb' (ka + mc) (kb + ms) n' (pc + 3) L st v') : hw_V p l e R s m args below meth c Q D b0 nL xb ka kb n pc L st0 v := by
  intro H locs ls hH hZ hS hl
  have ht := C.2.2.2.2.1
  refine hw_after (va_runI (Ts := hw_TB) ⟨C.1, C.2.1, C.2.2.1, C.2.2.2.1, C.2.2.2.2.1⟩ hM (cwI k ht (hw_goodC hw.1.1) rfl hrc hrs (ht _ hw.1.2.2) (ht _ hl9) (ht _ hw.1.2.1) hw.2.1 hw.2.2 hR) ⟨hw_blind, fun U hU hW => ⟨rfl, hw_next C hU hW hH hZ hS⟩⟩ rfl hlen hl.1 hst (lv_room hroom) hdg hf) hS hl kk
/-! ends of a body that returns -/
theorem hq_iret (C : hw_C p s m args c D b0 cc own nL) {x z : Int32} (hr : meth.sig.returnType = some .int) (hlk : meth.locks = false) (hdg : decode cc pc = .ok (.ireturn, 1)) (hx : x = z) (hv : v = v') : hw_V p l e R s m args below meth c (MQ below (hw_Q D b0 xb n (some (.int z)) v') args s ka kb (fun q => b0 ≤ q)) D b0 nL xb ka kb n pc L [.int x] v := by
  intro H locs ls hH hZ hS hl
  subst hx hv
  exact W.iret (hlocks := hlk) C.1 C.2.1 hr (fun t ht hW => ⟨rfl, by rw [ht]; exact hH, by rw [ht]; exact hZ, hS.F ht⟩) hS.2.2 hdg
theorem hq_zret (C : hw_C p s m args c D b0 cc own nL) {x z : Int32} (hr : meth.sig.returnType = some .boolean) (hlk : meth.locks = false) (hdg : decode cc pc = .ok (.ireturn, 1)) (hnar : narrow .boolean (.int x) = .int x) (hx : x = z) (hv : v = v') : hw_V p l e R s m args below meth c (MQ below (hw_Q D b0 xb n (some (.int z)) v') args s ka kb (fun q => b0 ≤ q)) D b0 nL xb ka kb n pc L [.int x] v := by
  intro H locs ls hH hZ hS hl
  subst hx hv
  exact W.zret (hlocks := hlk) C.1 C.2.1 hr hnar (fun t ht hW => ⟨rfl, by rw [ht]; exact hH, by rw [ht]; exact hZ, hS.F ht⟩) hS.2.2 hdg
theorem hq_lret (C : hw_C p s m args c D b0 cc own nL) {x z : Int64} (hr : meth.sig.returnType = some .long) (hlk : meth.locks = false) (hdg : decode cc pc = .ok (.lreturn, 1)) (hx : x = z) (hv : v = v') : hw_V p l e R s m args below meth c (MQ below (hw_Q D b0 xb n (some (.long z)) v') args s ka kb (fun q => b0 ≤ q)) D b0 nL xb ka kb n pc L [.long x] v := by
  intro H locs ls hH hZ hS hl
  subst hx hv
  exact W.lret (hlocks := hlk) C.1 C.2.1 hr (fun t ht hW => ⟨rfl, by rw [ht]; exact hH, by rw [ht]; exact hZ, hS.F ht⟩) hS.2.2 hdg
theorem hq_vret (C : hw_C p s m args c D b0 cc own nL) (hr : meth.sig.returnType = none) (hlk : meth.locks = false) (hdg : decode cc pc = .ok (.return_, 1)) (hv : v = v') : hw_V p l e R s m args below meth c (MQ below (hw_Q D b0 xb n none v') args s ka kb (fun q => b0 ≤ q)) D b0 nL xb ka kb n pc L [] v := by
  intro H locs ls hH hZ hS hl
  subst hv
  exact W.vret (hlocks := hlk) C.1 C.2.1 hr (fun t ht hW => ⟨rfl, by rw [ht]; exact hH, by rw [ht]; exact hZ, hS.F ht⟩) hS.2.2 hdg
/-- a contract out of the walk of its body -/
theorem hw_Mof {av : List Value} (hy : plainName y.cls = true) (Ls : List (Nat × Value)) (hLs : lv_args 0 av = Ls) (hml : (lg_sl av).length ≤ maxL)
    (body : ∀ (p : Program) (e : Env) (s : State) (m : MethodId) (args : Array Value) (below : List Frame) (meth : Method) (c : Code), hw_C p s m args c D b0 bytes y.cls maxL → meth.sig.returnType = ret → meth.locks = false → meth.name = y.name →
      hw_V p l e rm s m args below meth c (MQ below (hw_Q D b0 xb' n' r v') args s mc ms (fun q => b0 ≤ q)) D b0 maxL xb 0 0 n 0 Ls [] v) : hw_M l y bytes maxL ret rm D b0 xb n av v xb' n' r v' mc ms := by
  refine Met.ofW (cc := bytes) (maxL := maxL) (ret := ret) hy rfl ?_
  intro p e s m args below meth c s₁ B hml9 hv9
  obtain ⟨rfl, h1, h2, h3, h4, h5, h6⟩ := hv9
  have hts := atoms_spec (ws := Cond.code y bytes maxL ret :: hw_TB) B.pre
  have C : hw_C p s m av.toArray c D b0 bytes y.cls maxL := ⟨B.exec, B.bytes, hml9, findClass_of_methodNamed B.named, fun w hw => hts w (List.mem_cons_of_mem _ hw), h1, h2, h3, h4, Nat.le_trans (Nat.le_add_right _ _) h6.1⟩
  rw [lg_entry_eq]
  have hl := lv_entry av (n := maxL) hml
  rw [hLs] at hl
  exact body p e s m av.toArray below meth c C B.returns B.notSynchronized (name_of_methodNamed B.named B.method).1 s.heap [] _ h5 h6 va_S.rf hl
/-! throwing -/
def hw_T (p : Program) (l : Launch) (e : Env) (R : Room) (s : State) (m : MethodId) (args : Array Value) (below : List Frame) (meth : Method) (c : Code) (Q : State → Prop) (D : va_G) (b0 nL : Nat) (ka kb n : Nat) (E : String) (pc : Nat) (L : List (Nat × Value)) (st : List Value) (v : VF) : Prop :=
  ∀ (H : Heap) (locs : List Loc) (ls : Array Slot) (q : Addr) (ce : Cell), hw_HP D b0 n v H → hw_Z false b0 n H.size → va_S (fun q => b0 ≤ q) s.heap H locs → lv_has ls nL L → H[q]? = some ce → ce.vm = .none → s.vm.findClass E = some ce.cls → vx_W p l e R s m args below meth c H locs ka kb Q (F0 m pc ls st) q
/-- behind a call that returns or throws -/
theorem hw_afterX {H : Heap} {locs : List Loc} {ls : Array Slot} {a : Array Value} (hr : vx_Run p l e R s m args below meth c H locs ka kb mc ms (F0 m pc ls st0) st (hw_QX D b0 n ex r v' a) (hw_XC D b0 n ex v) (fun q => b0 ≤ q)) (hS : va_S (fun q => b0 ≤ q) s.heap H locs) (hl : lv_has ls nL L)
    (kk : ex = none → hw_V p l e R s m args below meth c Q D b0 nL false (ka + mc) (kb + ms) n (pc + 3) L (r.toList ++ st) v') (kx : ∀ E, ex = some E → hw_T p l e R s m args below meth c Q D b0 nL (ka + mc) (kb + ms) n E pc L st v) : W p l e R s m args below meth c H locs ka kb Q (F0 m pc ls st0) := by
  have tr : ∀ (st₀ t T' : State) (L9 : List Loc), st₀.heap = H → T'.heap = t.heap → (∀ q ∈ L9, b0 ≤ q.base) → va_F (fun q => b0 ≤ q) st₀ t → va_S (fun q => b0 ≤ q) s.heap T'.heap (locs ++ L9) := by
    intro st₀ t T' L9 h0 e1 hL hF
    have hz : H.size ≤ t.heap.size := by rw [← h0]; exact hF.1
    have hk : ∀ q : Nat, q < H.size → ¬ b0 ≤ q → t.heap[q]? = H[q]? := fun q h1 h2 => by
      have := hF.2 q (by rw [h0]; exact h1) h2
      rw [this, h0]
    exact ⟨Nat.le_trans hS.1 (by rw [e1]; exact hz), fun q h1 h2 => by rw [e1, hk q (Nat.lt_of_lt_of_le h1 hS.1) h2]; exact hS.2.1 q h1 h2, fun q hq => by
      rcases List.mem_append.mp hq with h | h
      · exact hS.2.2 q h
      · exact hL q h⟩
  intro T hT X
  rcases hr T hT X with ⟨w, st₀, t, T', L9, h0, X', hL, e1, e2, ⟨hn, hv, hH1, hZ1, hF⟩, stp⟩ | ⟨q, st₀, t, T', L9, E, ce, h0, X', hL, e1, e2, ⟨hE, hH1, hZ1, hF⟩, hce, hcv, hcl, stp⟩
  · cases hv
    obtain ⟨t2, a1, b1⟩ := kk hn T'.heap (locs ++ L9) ls (by rw [e1]; exact hH1) (by rw [e1]; exact hZ1) (tr st₀ t T' L9 h0 e1 hL hF) hl T' rfl X'
    exact ⟨t2, stp t2 a1, b1⟩
  · obtain ⟨t2, a1, b1⟩ := kx E hE T'.heap (locs ++ L9) ls q ce (by rw [e1]; exact hH1) (by rw [e1]; exact hZ1) (tr st₀ t T' L9 h0 e1 hL hF) hl (by rw [e1]; exact hce) hcv hcl T' rfl X'
    exact ⟨t2, stp.trans a1, b1⟩
theorem hq_callVX (C : hw_C p s m args c D b0 cc own nL) {f i : Nat} {T : u_T} {N : Nat} (hM : hw_MX l y (Cond.code y bytes maxL ret) rm D b0 n (.ref (hw_ad b0 f i) :: As) v ex r v' mc ms) (hw : hw_WV Cn y (Cond.code y bytes maxL ret) k) (hl9 : Cond.methodLink own idx y ∈ hw_TB) (ho : hw_ob f = true) (hcl : vwCl[hw_kc f]? = some (Cn, T, N)) (hi : i < hw_cnt f) (hn : hw_pos f i < n)
    (hlen : As.length = k) (hst : st0 = As.reverse ++ .ref (hw_ad b0 f i) :: st) (hrc : rm.cells = mc) (hrs : rm.slots = ms) (hR : rm.frames + 1 ≤ R.frames ∧ 8 + (maxL + 11) + rm.locals ≤ R.locals) (hroom : (st.map fun v => v.category).sum ≤ 8) (hf : ka + mc ≤ R.cells ∧ kb + ms ≤ R.slots) (hdg : decode cc pc = .ok (.invokevirtual idx, 3))
    (kk : ex = none → hw_V p l e R s m args below meth c Q D b0 nL false (ka + mc) (kb + ms) n (pc + 3) L (r.toList ++ st) v') (kx : ∀ E, ex = some E → hw_T p l e R s m args below meth c Q D b0 nL (ka + mc) (kb + ms) n E pc L st v) : hw_V p l e R s m args below meth c Q D b0 nL false ka kb n pc L st0 v := by
  intro H locs ls hH hZ hS hl
  refine hw_afterX (vx_runV (Ts := hw_TB) ⟨C.1, C.2.1, C.2.2.1, C.2.2.2.1, C.2.2.2.2.1⟩ hM (cwV k C.2.2.2.2.1 (hw_goodV hw hl9) rfl hrc hrs hw.2 hR) ⟨hw_blind, hw_recv C hH ho hcl hi hn, fun U hU hW => ⟨rfl, hw_next C hU hW hH hZ hS⟩⟩ rfl hlen hl.1 hst (lv_room hroom) hdg hf) hS hl kk kx
theorem hq_callSX (C : hw_C p s m args c D b0 cc own nL) (hM : hw_MX l y (Cond.code y bytes maxL ret) rm D b0 n As v ex r v' mc ms) (hw : hw_WS y (Cond.code y bytes maxL ret) k) (hl9 : Cond.methodLink own idx y ∈ hw_TB)
    (hlen : As.length = k) (hst : st0 = As.reverse ++ st) (hrc : rm.cells = mc) (hrs : rm.slots = ms) (hR : rm.frames + 1 ≤ R.frames ∧ 8 + (maxL + 11) + rm.locals ≤ R.locals) (hroom : (st.map fun v => v.category).sum ≤ 8) (hf : ka + mc ≤ R.cells ∧ kb + ms ≤ R.slots) (hdg : decode cc pc = .ok (.invokestatic idx, 3))
    (kk : ex = none → hw_V p l e R s m args below meth c Q D b0 nL false (ka + mc) (kb + ms) n (pc + 3) L (r.toList ++ st) v') (kx : ∀ E, ex = some E → hw_T p l e R s m args below meth c Q D b0 nL (ka + mc) (kb + ms) n E pc L st v) : hw_V p l e R s m args below meth c Q D b0 nL false ka kb n pc L st0 v := by
  intro H locs ls hH hZ hS hl
  refine hw_afterX (vx_runS (Ts := hw_TB) ⟨C.1, C.2.1, C.2.2.1, C.2.2.2.1, C.2.2.2.2.1⟩ hM (va_cwS k C.2.2.2.2.1 (hw_goodS hw hl9) rfl hrc hrs hw.2 hR) ⟨hw_blind, fun U hU hW => ⟨rfl, hw_next C hU hW hH hZ hS⟩⟩ rfl hlen hl.1 hst (lv_room hroom) hdg hf) hS hl kk kx
theorem hq_callSXW (C : hw_C p s m args c D b0 cc own nL) {hh : List (Nat × Nat × Nat × Nat)} (hM : hw_MX l y (Cond.codeWith y bytes maxL ret hh) rm D b0 n As v ex r v' mc ms) (hw : hw_WS y (Cond.codeWith y bytes maxL ret hh) k) (hl9 : Cond.methodLink own idx y ∈ hw_TB)
    (hlen : As.length = k) (hst : st0 = As.reverse ++ st) (hrc : rm.cells = mc) (hrs : rm.slots = ms) (hR : rm.frames + 1 ≤ R.frames ∧ 8 + (maxL + 11) + rm.locals ≤ R.locals) (hroom : (st.map fun v => v.category).sum ≤ 8) (hf : ka + mc ≤ R.cells ∧ kb + ms ≤ R.slots) (hdg : decode cc pc = .ok (.invokestatic idx, 3))
    (kk : ex = none → hw_V p l e R s m args below meth c Q D b0 nL false (ka + mc) (kb + ms) n (pc + 3) L (r.toList ++ st) v') (kx : ∀ E, ex = some E → hw_T p l e R s m args below meth c Q D b0 nL (ka + mc) (kb + ms) n E pc L st v) : hw_V p l e R s m args below meth c Q D b0 nL false ka kb n pc L st0 v := by
  intro H locs ls hH hZ hS hl
  refine hw_afterX (vx_runSX (Ts := hw_TB) (hh := hh) ⟨C.1, C.2.1, C.2.2.1, C.2.2.2.1, C.2.2.2.2.1⟩ hM (vx_cwSW k C.2.2.2.2.1 (hw_goodS hw hl9) rfl hrc hrs hw.2 hR) ⟨hw_blind, fun U hU hW => ⟨rfl, hw_next C hU hW hH hZ hS⟩⟩ rfl hlen hl.1 hst (lv_room hroom) hdg hf) hS hl kk kx
/-- thrown on: nothing catches it here -/
theorem hq_out {E : String} (ht : ∀ x ∈ c.exceptionTable.toList, False) (hlk : meth.locks = false) (hE : ex = some E) (hv : v = v0) (hc : ka ≤ mc) (hs : kb ≤ ms) : hw_T p l e R s m args below meth c (vx_MQ below Qc (hw_XC D b0 n ex v0) args s mc ms (fun q => b0 ≤ q)) D b0 nL ka kb n E pc L st v := by
  intro H locs ls q ce hH hZ hS hl hce hcv hcl
  subst hv
  exact vx_out (fun x hx => (ht x hx).elim) hlk hce hcv hcl (fun t ht hA => ⟨hE, by rw [ht]; exact hH, by rw [ht]; exact hZ, hS.F ht⟩) hS.2.2 hc hs
/-! ends of a body that may throw, where it returns -/
theorem hq_retX (h : hw_V p l e R s m args below meth c (MQ below (hw_QX D b0 n ex r v') args s ka kb (fun q => b0 ≤ q)) D b0 nL xb ka kb n pc L st v) : hw_V p l e R s m args below meth c (vx_MQ below (hw_QX D b0 n ex r v') XC args s ka kb (fun q => b0 ≤ q)) D b0 nL xb ka kb n pc L st v := fun H locs ls hH hZ hS hl => vx_ret (h H locs ls hH hZ hS hl)
theorem hq_iretX (C : hw_C p s m args c D b0 cc own nL) {x z : Int32} (hr : meth.sig.returnType = some .int) (hlk : meth.locks = false) (hdg : decode cc pc = .ok (.ireturn, 1)) (he : ex = none) (hx : x = z) (hv : v = v') (hc : ka ≤ mc) (hs : kb ≤ ms) : hw_V p l e R s m args below meth c (vx_MQ below (hw_QX D b0 n ex (some (.int z)) v') XC args s mc ms (fun q => b0 ≤ q)) D b0 nL false ka kb n pc L [.int x] v := by
  refine hq_widen hc hs (hq_retX fun H locs ls hH hZ hS hl => ?_)
  subst hx hv
  exact W.iret (hlocks := hlk) C.1 C.2.1 hr (fun t ht hW => ⟨he, rfl, by rw [ht]; exact hH, by rw [ht]; exact hZ, hS.F ht⟩) hS.2.2 hdg
theorem hq_zretX (C : hw_C p s m args c D b0 cc own nL) {x z : Int32} (hr : meth.sig.returnType = some .boolean) (hlk : meth.locks = false) (hdg : decode cc pc = .ok (.ireturn, 1)) (he : ex = none) (hnar : narrow .boolean (.int x) = .int x) (hx : x = z) (hv : v = v') (hc : ka ≤ mc) (hs : kb ≤ ms) : hw_V p l e R s m args below meth c (vx_MQ below (hw_QX D b0 n ex (some (.int z)) v') XC args s mc ms (fun q => b0 ≤ q)) D b0 nL false ka kb n pc L [.int x] v := by
  refine hq_widen hc hs (hq_retX fun H locs ls hH hZ hS hl => ?_)
  subst hx hv
  exact W.zret (hlocks := hlk) C.1 C.2.1 hr hnar (fun t ht hW => ⟨he, rfl, by rw [ht]; exact hH, by rw [ht]; exact hZ, hS.F ht⟩) hS.2.2 hdg
theorem hq_lretX (C : hw_C p s m args c D b0 cc own nL) {x z : Int64} (hr : meth.sig.returnType = some .long) (hlk : meth.locks = false) (hdg : decode cc pc = .ok (.lreturn, 1)) (he : ex = none) (hx : x = z) (hv : v = v') (hc : ka ≤ mc) (hs : kb ≤ ms) : hw_V p l e R s m args below meth c (vx_MQ below (hw_QX D b0 n ex (some (.long z)) v') XC args s mc ms (fun q => b0 ≤ q)) D b0 nL false ka kb n pc L [.long x] v := by
  refine hq_widen hc hs (hq_retX fun H locs ls hH hZ hS hl => ?_)
  subst hx hv
  exact W.lret (hlocks := hlk) C.1 C.2.1 hr (fun t ht hW => ⟨he, rfl, by rw [ht]; exact hH, by rw [ht]; exact hZ, hS.F ht⟩) hS.2.2 hdg
theorem hq_vretX (C : hw_C p s m args c D b0 cc own nL) (hr : meth.sig.returnType = none) (hlk : meth.locks = false) (hdg : decode cc pc = .ok (.return_, 1)) (he : ex = none) (hv : v = v') (hc : ka ≤ mc) (hs : kb ≤ ms) : hw_V p l e R s m args below meth c (vx_MQ below (hw_QX D b0 n ex none v') XC args s mc ms (fun q => b0 ≤ q)) D b0 nL false ka kb n pc L [] v := by
  refine hq_widen hc hs (hq_retX fun H locs ls hH hZ hS hl => ?_)
  subst hv
  exact W.vret (hlocks := hlk) C.1 C.2.1 hr (fun t ht hW => ⟨he, rfl, by rw [ht]; exact hH, by rw [ht]; exact hZ, hS.F ht⟩) hS.2.2 hdg
theorem hw_MXof {av : List Value} (hy : plainName y.cls = true) (Ls : List (Nat × Value)) (hLs : lv_args 0 av = Ls) (hml : (lg_sl av).length ≤ maxL)
    (body : ∀ (p : Program) (e : Env) (s : State) (m : MethodId) (args : Array Value) (below : List Frame) (meth : Method) (c : Code), hw_C p s m args c D b0 bytes y.cls maxL → meth.sig.returnType = ret → meth.locks = false → (∀ x ∈ c.exceptionTable.toList, False) →
      hw_V p l e rm s m args below meth c (vx_MQ below (hw_QX D b0 n ex r v') (hw_XC D b0 n ex v) args s mc ms (fun q => b0 ≤ q)) D b0 maxL false 0 0 n 0 Ls [] v) : hw_MX l y (Cond.code y bytes maxL ret) rm D b0 n av v ex r v' mc ms := by
  refine vx_ofW (cc := bytes) (maxL := maxL) (ret := ret) hy rfl ?_
  intro p e s m args below meth c s₁ B hml9 ht9 hv9
  obtain ⟨rfl, h1, h2, h3, h4, h5, h6⟩ := hv9
  have hts := atoms_spec (ws := Cond.code y bytes maxL ret :: hw_TB) B.pre
  have C : hw_C p s m av.toArray c D b0 bytes y.cls maxL := ⟨B.exec, B.bytes, hml9, findClass_of_methodNamed B.named, fun w hw => hts w (List.mem_cons_of_mem _ hw), h1, h2, h3, h4, Nat.le_trans (Nat.le_add_right _ _) h6.1⟩
  rw [lg_entry_eq]
  have hl := lv_entry av (n := maxL) hml
  rw [hLs] at hl
  exact body p e s m av.toArray below meth c C B.returns B.notSynchronized ht9 s.heap [] _ h5 h6 va_S.rf hl
end HC
end
section
/-! 'throw new E("text")' -/
def hw_NM : List String := ["java/lang/RuntimeException", "java/lang/Exception"]
def hw_B (cls : String) : List Cond := [.declares (Bundle.initS "java/lang/RuntimeException"), .declares (Bundle.initS "java/lang/Exception"), .declares (Bundle.initS "java/lang/Throwable"), .castable cls cls]
def hw_TH (own : String) (ik ic : Nat) (cls : String) : Prop := Bundle.fit cls = true ∧ Cond.classLink own ik cls ∈ hw_TB ∧ Cond.initialized cls ∈ hw_TB ∧ (∀ w ∈ (vx_atS own ic cls hw_NM).filter goodWord, w ∈ lw_tbl) ∧ (∀ w ∈ (vx_atS own ic cls hw_NM).filter (fun w => !goodWord w), w ∈ hw_B cls) ∧ (∀ w ∈ Cond.classLink own ik cls :: Cond.initialized cls :: vx_atS own ic cls hw_NM, vx_ot w = true)
section HH
variable {p : Program} {l : Launch} {e : Env} {R : Room} {s : State} {m : MethodId} {args : Array Value} {below : List Frame} {meth : Method} {c : Code}
variable {D : va_G} {b0 nL : Nat} {ka kb n : Nat} {pc : Nat} {L : List (Nat × Value)} {v v0 : VF} {cc : ByteArray} {own : String} {mc ms : Nat} {ex : Option String} {Qc : Array Value → State → Outcome → State → Prop}
theorem hw_hat (C : hw_C p s m args c D b0 cc own nL) {ik ic : Nat} {cls : String} (h : hw_TH own ik ic cls) (hc : va_Nw (.castable cls cls) s) : ∀ w ∈ vx_atS own ic cls hw_NM, w.before args s = true := by
  obtain ⟨-, -, -, h4, h5, -⟩ := h
  have hX := C.2.2.2.2.2.2.1.1
  refine vx_hat (fun w hw => C.2.2.2.2.1 w (List.mem_filter.mpr ⟨h4 w hw, (List.mem_filter.mp hw).2⟩)) h5 ?_
  exact vx_c (va_Nw.use rfl hX.1) (vx_c (va_Nw.use rfl hX.2.1) (vx_c (va_Nw.use rfl hX.2.2) (vx_c (va_Nw.use rfl hc) vx_n)))
theorem hw_thx {t : State} {H : Heap} {locs : List Loc} {cls : String} (he : ex = some cls) (hH : hw_HP D b0 n v H) (hZ : hw_Z false b0 n H.size) (hS : va_S (fun q => b0 ≤ q) s.heap H locs) (h1 : H.size ≤ t.heap.size) (h2 : ∀ q : Nat, q < H.size → t.heap[q]? = H[q]?) : hw_XC D b0 n ex v cls s t :=
  ⟨he, hH.kept (fun q _ hq => h2 q (Nat.lt_of_lt_of_le hq hZ.1)), ⟨Nat.le_trans hZ.1 h1, fun z => by cases z⟩, Nat.le_trans hS.1 h1, fun q a b => (h2 q (Nat.lt_of_lt_of_le a hS.1)).trans (hS.2.1 q a b)⟩
theorem hq_throw (C : hw_C p s m args c D b0 cc own nL) {ik is ic : Nat} {cls text : String} (hlt : l.stackTraces = false) (ht : ∀ x ∈ c.exceptionTable.toList, False) (hlk : meth.locks = false) (h : hw_TH own ik ic cls) (hc : va_Nw (.castable cls cls) s) (hs9 : ∃ a, vk_R own is text a s)
    (d0 : decode cc pc = .ok (.new ik, 3)) (d3 : decode cc (pc + 3) = .ok (.dup, 1)) (d4 : decode cc (pc + 4) = .ok (.ldc is, 2)) (d6 : decode cc (pc + 6) = .ok (.invokespecial ic, 3)) (d9 : decode cc (pc + 9) = .ok (.athrow, 1))
    (hR : 5 < R.frames ∧ 82 ≤ R.locals) (hk : ka + 1 ≤ R.cells ∧ kb + 6 ≤ R.slots) (hm : ka + 1 ≤ mc ∧ kb + 6 ≤ ms) (he : ex = some cls) (hv : v = v0) : hw_V p l e R s m args below meth c (vx_MQ below Qc (hw_XC D b0 n ex v0) args s mc ms (fun q => b0 ≤ q)) D b0 nL false ka kb n pc L [] v := by
  intro H locs ls hH hZ hS hl
  subst hv
  obtain ⟨sa, hstr⟩ := hs9
  refine vx_throwS (names := hw_NM) (A := fun q => b0 ≤ q) C.1 C.2.1 hlt C.2.2.2.1 h.1 (by decide +kernel) (C.2.2.2.2.1 _ h.2.1) (C.2.2.2.2.1 _ h.2.2.1) hstr (hw_hat C h hc) h.2.2.2.2.2 C.2.2.2.2.2.2.2.1 C.2.2.2.2.2.2.2.2.1 hS (hl.1.trans C.2.2.1.symm) d0 d3 d4 d6 d9 (fun x hx => (ht x hx).elim) hR.1 ?_ hk.1 hk.2 hlk (fun t _ h1 h2 => hw_thx he hH hZ hS h1 h2) hS.2.2 hm.1 hm.2
  exact hR.2
theorem hq_throwW (C : hw_C p s m args c D b0 cc own nL) {ik is ic : Nat} {cls text : String} (hlt : l.stackTraces = false) (ht : ∀ x ∈ c.exceptionTable.toList, False) (hlk : meth.locks = false) (h : hw_TH own ik ic cls) (hc : va_Nw (.castable cls cls) s) (hs9 : ∃ a, vk_R own is text a s)
    (d0 : decode cc pc = .ok (.new ik, 3)) (d3 : decode cc (pc + 3) = .ok (.dup, 1)) (d4 : decode cc (pc + 4) = .ok (.ldc_w is, 3)) (d6 : decode cc (pc + 7) = .ok (.invokespecial ic, 3)) (d9 : decode cc (pc + 10) = .ok (.athrow, 1))
    (hR : 5 < R.frames ∧ 82 ≤ R.locals) (hk : ka + 1 ≤ R.cells ∧ kb + 6 ≤ R.slots) (hm : ka + 1 ≤ mc ∧ kb + 6 ≤ ms) (he : ex = some cls) (hv : v = v0) : hw_V p l e R s m args below meth c (vx_MQ below Qc (hw_XC D b0 n ex v0) args s mc ms (fun q => b0 ≤ q)) D b0 nL false ka kb n pc L [] v := by
  intro H locs ls hH hZ hS hl
  subst hv
  obtain ⟨sa, hstr⟩ := hs9
  refine vx_throwSW (names := hw_NM) (A := fun q => b0 ≤ q) C.1 C.2.1 hlt C.2.2.2.1 h.1 (by decide +kernel) (C.2.2.2.2.1 _ h.2.1) (C.2.2.2.2.1 _ h.2.2.1) hstr (hw_hat C h hc) h.2.2.2.2.2 C.2.2.2.2.2.2.2.1 C.2.2.2.2.2.2.2.2.1 hS (hl.1.trans C.2.2.1.symm) d0 d3 d4 d6 d9 (fun x hx => (ht x hx).elim) hR.1 ?_ hk.1 hk.2 hlk (fun t _ h1 h2 => hw_thx he hH hZ hS h1 h2) hS.2.2 hm.1 hm.2
  exact hR.2
end HH
theorem th_I : hw_TH RX5 246 250 "java/lang/IndexOutOfBoundsException" := ⟨by decide +kernel, hw_in 344 (by decide +kernel) rfl, hw_in 68 (by decide +kernel) rfl, by decide +kernel, by decide +kernel, by decide +kernel⟩
theorem th_A : hw_TH RX5 255 259 "java/lang/IllegalArgumentException" := ⟨by decide +kernel, hw_in 415 (by decide +kernel) rfl, hw_in 69 (by decide +kernel) rfl, by decide +kernel, by decide +kernel, by decide +kernel⟩
theorem th_S : hw_TH RX5 260 264 "java/lang/IllegalStateException" := ⟨by decide +kernel, hw_in 434 (by decide +kernel) rfl, hw_in 70 (by decide +kernel) rfl, by decide +kernel, by decide +kernel, by decide +kernel⟩
end
section
/-! the rows over the typed cells hw_vl b0 I J P N o; all cells stand (n = 271) -/
section HT
variable {p : Program} {l : Launch} {e : Env} {R : Room} {s : State} {m : MethodId} {args : Array Value} {below : List Frame} {meth : Method} {c : Code} {Q : State → Prop}
variable {D : va_G} {b0 nL : Nat} {xb : Bool} {ka kb : Nat} {pc : Nat} {L L' : List (Nat × Value)} {st : List Value} {cc : ByteArray} {own : String} {I : MI} {J : MJ} {P : MI} {N : MJ} {o : Int64}
theorem hw_nt {f i Nc : Nat} (h : hw_cnt f = Nc) (hi : i < Nc) : i < hw_cnt f ∧ hw_pos f i < 271 := by
  have h2 : i < hw_cnt f := by rw [h]; exact hi
  exact ⟨h2, hw_nt_ok f (hw_lt h2) i h2⟩
theorem hw_ixo {f i j : Nat} (h : hw_ob f = true) : hw_ix f i j = i := if_pos h
theorem hw_ix0 {f i j : Nat} (h : hw_ob f = false) (h0 : hw_wd f = 0) : hw_ix f i j = j := by
  unfold hw_ix
  rw [if_neg (by rw [h]; decide), if_pos h0]
theorem hw_ixw {f i j w : Nat} (h : hw_ob f = false) (h0 : hw_wd f = w + 1) : hw_ix f i j = (w + 1) * i + j := by
  unfold hw_ix
  rw [if_neg (by rw [h]; decide), if_neg (by omega), h0]
theorem hq_getI (C : hw_C p s m args c D b0 cc own nL) {f i j idx ci g : Nat} (hL : hw_FR own idx ci j) (hdg : decode cc pc = .ok (.getfield idx, 3)) (ho : hw_ob f = true) (hci : hw_kc f = ci) (hd : hw_ds f j = (0, g)) {Nc Ns : Nat} (hNc : hw_cnt f = Nc) (hNs : hw_sz f = Ns) (hj : j < Ns) (hi : i < Nc) (k : hw_V p l e R s m args below meth c Q D b0 nL xb ka kb 271 (pc + 3) L (.int (I g i) :: st) (hw_vl b0 I J P N o)) : hw_V p l e R s m args below meth c Q D b0 nL xb ka kb 271 pc L (.ref (hw_ad b0 f i) :: st) (hw_vl b0 I J P N o) :=
  hq_get C hL hdg ho hci (by rw [hNs]; exact hj) (hw_nt hNc hi).1 (hw_nt hNc hi).2 (by unfold hw_vl; rw [hd, hw_ixo ho]; rfl) k
theorem hq_getJ (C : hw_C p s m args c D b0 cc own nL) {f i j idx ci g : Nat} (hL : hw_FR own idx ci j) (hdg : decode cc pc = .ok (.getfield idx, 3)) (ho : hw_ob f = true) (hci : hw_kc f = ci) (hd : hw_ds f j = (1, g)) {Nc Ns : Nat} (hNc : hw_cnt f = Nc) (hNs : hw_sz f = Ns) (hj : j < Ns) (hi : i < Nc) (k : hw_V p l e R s m args below meth c Q D b0 nL xb ka kb 271 (pc + 3) L (.long (J g i) :: st) (hw_vl b0 I J P N o)) : hw_V p l e R s m args below meth c Q D b0 nL xb ka kb 271 pc L (.ref (hw_ad b0 f i) :: st) (hw_vl b0 I J P N o) :=
  hq_get C hL hdg ho hci (by rw [hNs]; exact hj) (hw_nt hNc hi).1 (hw_nt hNc hi).2 (by unfold hw_vl; rw [hd, hw_ixo ho]; rfl) k
theorem hq_getP (C : hw_C p s m args c D b0 cc own nL) {f i j idx ci g : Nat} (hL : hw_FR own idx ci j) (hdg : decode cc pc = .ok (.getfield idx, 3)) (ho : hw_ob f = true) (hci : hw_kc f = ci) (hd : hw_ds f j = (2, g)) {Nc Ns : Nat} (hNc : hw_cnt f = Nc) (hNs : hw_sz f = Ns) (hj : j < Ns) (hi : i < Nc) (k : hw_V p l e R s m args below meth c Q D b0 nL xb ka kb 271 (pc + 3) L (.int (P g i) :: st) (hw_vl b0 I J P N o)) : hw_V p l e R s m args below meth c Q D b0 nL xb ka kb 271 pc L (.ref (hw_ad b0 f i) :: st) (hw_vl b0 I J P N o) :=
  hq_get C hL hdg ho hci (by rw [hNs]; exact hj) (hw_nt hNc hi).1 (hw_nt hNc hi).2 (by unfold hw_vl; rw [hd, hw_ixo ho]; rfl) k
theorem hq_getN (C : hw_C p s m args c D b0 cc own nL) {f i j idx ci g : Nat} (hL : hw_FR own idx ci j) (hdg : decode cc pc = .ok (.getfield idx, 3)) (ho : hw_ob f = true) (hci : hw_kc f = ci) (hd : hw_ds f j = (3, g)) {Nc Ns : Nat} (hNc : hw_cnt f = Nc) (hNs : hw_sz f = Ns) (hj : j < Ns) (hi : i < Nc) (k : hw_V p l e R s m args below meth c Q D b0 nL xb ka kb 271 (pc + 3) L (.long (N g i) :: st) (hw_vl b0 I J P N o)) : hw_V p l e R s m args below meth c Q D b0 nL xb ka kb 271 pc L (.ref (hw_ad b0 f i) :: st) (hw_vl b0 I J P N o) :=
  hq_get C hL hdg ho hci (by rw [hNs]; exact hj) (hw_nt hNc hi).1 (hw_nt hNc hi).2 (by unfold hw_vl; rw [hd, hw_ixo ho]; rfl) k
theorem hq_getR (C : hw_C p s m args c D b0 cc own nL) {f i j idx ci g : Nat} (hL : hw_FR own idx ci j) (hdg : decode cc pc = .ok (.getfield idx, 3)) (ho : hw_ob f = true) (hci : hw_kc f = ci) (hd : hw_ds f j = (4, g)) {Nc Ns : Nat} (hNc : hw_cnt f = Nc) (hNs : hw_sz f = Ns) (hj : j < Ns) (hi : i < Nc) (k : hw_V p l e R s m args below meth c Q D b0 nL xb ka kb 271 (pc + 3) L (.ref (hw_ad b0 g i) :: st) (hw_vl b0 I J P N o)) : hw_V p l e R s m args below meth c Q D b0 nL xb ka kb 271 pc L (.ref (hw_ad b0 f i) :: st) (hw_vl b0 I J P N o) :=
  hq_get C hL hdg ho hci (by rw [hNs]; exact hj) (hw_nt hNc hi).1 (hw_nt hNc hi).2 (by unfold hw_vl; rw [hd, hw_ixo ho]; rfl) k
theorem hq_putI (C : hw_C p s m args c D b0 cc own nL) {f i j idx ci g : Nat} {ty : FieldType} {z : Int32} (hL : hw_FL own idx ci j ty false) (hdg : decode cc pc = .ok (.putfield idx, 3)) (ho : hw_ob f = true) (hci : hw_kc f = ci) (hd : hw_ds f j = (0, g)) {Nc Ns : Nat} (hNc : hw_cnt f = Nc) (hNs : hw_sz f = Ns) (hj : j < Ns) (hi : i < Nc) (hnar : narrow ty (.int z) = .int z) (hfit : fits ty (.int z) = true) (k : hw_V p l e R s m args below meth c Q D b0 nL xb ka kb 271 (pc + 3) L st (hw_vl b0 (uI I g i z) J P N o)) : hw_V p l e R s m args below meth c Q D b0 nL xb ka kb 271 pc L (.int z :: .ref (hw_ad b0 f i) :: st) (hw_vl b0 I J P N o) :=
  hq_put C hL hdg ho hci (by rw [hNs]; exact hj) (hw_nt hNc hi).1 (hw_nt hNc hi).2 hnar hfit (hw_UI (hw_nt hNc hi).1 (by rw [hNs]; exact hj) hd (hw_ixo ho)) k
theorem hq_putJ (C : hw_C p s m args c D b0 cc own nL) {f i j idx ci g : Nat} {ty : FieldType} {z : Int64} (hL : hw_FL own idx ci j ty false) (hdg : decode cc pc = .ok (.putfield idx, 3)) (ho : hw_ob f = true) (hci : hw_kc f = ci) (hd : hw_ds f j = (1, g)) {Nc Ns : Nat} (hNc : hw_cnt f = Nc) (hNs : hw_sz f = Ns) (hj : j < Ns) (hi : i < Nc) (hnar : narrow ty (.long z) = .long z) (hfit : fits ty (.long z) = true) (k : hw_V p l e R s m args below meth c Q D b0 nL xb ka kb 271 (pc + 3) L st (hw_vl b0 I (uJ J g i z) P N o)) : hw_V p l e R s m args below meth c Q D b0 nL xb ka kb 271 pc L (.long z :: .ref (hw_ad b0 f i) :: st) (hw_vl b0 I J P N o) :=
  hq_put C hL hdg ho hci (by rw [hNs]; exact hj) (hw_nt hNc hi).1 (hw_nt hNc hi).2 hnar hfit (hw_UJ (hw_nt hNc hi).1 (by rw [hNs]; exact hj) hd (hw_ixo ho)) k
theorem hq_putP (C : hw_C p s m args c D b0 cc own nL) {f i j idx ci g : Nat} {ty : FieldType} {z : Int32} (hL : hw_FL own idx ci j ty false) (hdg : decode cc pc = .ok (.putfield idx, 3)) (ho : hw_ob f = true) (hci : hw_kc f = ci) (hd : hw_ds f j = (2, g)) {Nc Ns : Nat} (hNc : hw_cnt f = Nc) (hNs : hw_sz f = Ns) (hj : j < Ns) (hi : i < Nc) (hnar : narrow ty (.int z) = .int z) (hfit : fits ty (.int z) = true) (k : hw_V p l e R s m args below meth c Q D b0 nL xb ka kb 271 (pc + 3) L st (hw_vl b0 I J (uI P g i z) N o)) : hw_V p l e R s m args below meth c Q D b0 nL xb ka kb 271 pc L (.int z :: .ref (hw_ad b0 f i) :: st) (hw_vl b0 I J P N o) :=
  hq_put C hL hdg ho hci (by rw [hNs]; exact hj) (hw_nt hNc hi).1 (hw_nt hNc hi).2 hnar hfit (hw_UP (hw_nt hNc hi).1 (by rw [hNs]; exact hj) hd (hw_ixo ho)) k
theorem hq_putN (C : hw_C p s m args c D b0 cc own nL) {f i j idx ci g : Nat} {ty : FieldType} {z : Int64} (hL : hw_FL own idx ci j ty false) (hdg : decode cc pc = .ok (.putfield idx, 3)) (ho : hw_ob f = true) (hci : hw_kc f = ci) (hd : hw_ds f j = (3, g)) {Nc Ns : Nat} (hNc : hw_cnt f = Nc) (hNs : hw_sz f = Ns) (hj : j < Ns) (hi : i < Nc) (hnar : narrow ty (.long z) = .long z) (hfit : fits ty (.long z) = true) (k : hw_V p l e R s m args below meth c Q D b0 nL xb ka kb 271 (pc + 3) L st (hw_vl b0 I J P (uJ N g i z) o)) : hw_V p l e R s m args below meth c Q D b0 nL xb ka kb 271 pc L (.long z :: .ref (hw_ad b0 f i) :: st) (hw_vl b0 I J P N o) :=
  hq_put C hL hdg ho hci (by rw [hNs]; exact hj) (hw_nt hNc hi).1 (hw_nt hNc hi).2 hnar hfit (hw_UN (hw_nt hNc hi).1 (by rw [hNs]; exact hj) hd (hw_ixo ho)) k
theorem hq_ialdI0 (C : hw_C p s m args c D b0 cc own nL) {f i a g : Nat} {x : Int32} (hdg : decode cc pc = .ok (.iaload, 1)) (hkc : hw_kc f = 10) (ho : hw_ob f = false) (hd : hw_ds f 0 = (0, g)) (hwd : hw_wd f = 0) {Nc Ns : Nat} (hNc : hw_cnt f = Nc) (hNs : hw_sz f = Ns) (hx : x = nI a) (ha : a < Ns) (hi : i < Nc) (k : hw_V p l e R s m args below meth c Q D b0 nL xb ka kb 271 (pc + 1) L (.int (I g a) :: st) (hw_vl b0 I J P N o)) : hw_V p l e R s m args below meth c Q D b0 nL xb ka kb 271 pc L (.int x :: .ref (hw_ad b0 f i) :: st) (hw_vl b0 I J P N o) :=
  hq_iald C hdg hkc ho hx (by rw [hNs]; exact ha) (hw_nt hNc hi).1 (hw_nt hNc hi).2 (by unfold hw_vl; rw [hw_dsa ho, hd, hw_ix0 ho hwd]; rfl) k
theorem hq_ialdIw (C : hw_C p s m args c D b0 cc own nL) {f i a g : Nat} {x : Int32} (hdg : decode cc pc = .ok (.iaload, 1)) (hkc : hw_kc f = 10) (ho : hw_ob f = false) (hd : hw_ds f 0 = (0, g)) {w : Nat} (hwd : hw_wd f = w + 1) {Nc Ns : Nat} (hNc : hw_cnt f = Nc) (hNs : hw_sz f = Ns) (hx : x = nI a) (ha : a < Ns) (hi : i < Nc) (k : hw_V p l e R s m args below meth c Q D b0 nL xb ka kb 271 (pc + 1) L (.int (I g ((w + 1) * i + a)) :: st) (hw_vl b0 I J P N o)) : hw_V p l e R s m args below meth c Q D b0 nL xb ka kb 271 pc L (.int x :: .ref (hw_ad b0 f i) :: st) (hw_vl b0 I J P N o) :=
  hq_iald C hdg hkc ho hx (by rw [hNs]; exact ha) (hw_nt hNc hi).1 (hw_nt hNc hi).2 (by unfold hw_vl; rw [hw_dsa ho, hd, hw_ixw ho hwd]; rfl) k
theorem hq_ialdP0 (C : hw_C p s m args c D b0 cc own nL) {f i a g : Nat} {x : Int32} (hdg : decode cc pc = .ok (.iaload, 1)) (hkc : hw_kc f = 10) (ho : hw_ob f = false) (hd : hw_ds f 0 = (2, g)) (hwd : hw_wd f = 0) {Nc Ns : Nat} (hNc : hw_cnt f = Nc) (hNs : hw_sz f = Ns) (hx : x = nI a) (ha : a < Ns) (hi : i < Nc) (k : hw_V p l e R s m args below meth c Q D b0 nL xb ka kb 271 (pc + 1) L (.int (P g a) :: st) (hw_vl b0 I J P N o)) : hw_V p l e R s m args below meth c Q D b0 nL xb ka kb 271 pc L (.int x :: .ref (hw_ad b0 f i) :: st) (hw_vl b0 I J P N o) :=
  hq_iald C hdg hkc ho hx (by rw [hNs]; exact ha) (hw_nt hNc hi).1 (hw_nt hNc hi).2 (by unfold hw_vl; rw [hw_dsa ho, hd, hw_ix0 ho hwd]; rfl) k
theorem hq_ialdPw (C : hw_C p s m args c D b0 cc own nL) {f i a g : Nat} {x : Int32} (hdg : decode cc pc = .ok (.iaload, 1)) (hkc : hw_kc f = 10) (ho : hw_ob f = false) (hd : hw_ds f 0 = (2, g)) {w : Nat} (hwd : hw_wd f = w + 1) {Nc Ns : Nat} (hNc : hw_cnt f = Nc) (hNs : hw_sz f = Ns) (hx : x = nI a) (ha : a < Ns) (hi : i < Nc) (k : hw_V p l e R s m args below meth c Q D b0 nL xb ka kb 271 (pc + 1) L (.int (P g ((w + 1) * i + a)) :: st) (hw_vl b0 I J P N o)) : hw_V p l e R s m args below meth c Q D b0 nL xb ka kb 271 pc L (.int x :: .ref (hw_ad b0 f i) :: st) (hw_vl b0 I J P N o) :=
  hq_iald C hdg hkc ho hx (by rw [hNs]; exact ha) (hw_nt hNc hi).1 (hw_nt hNc hi).2 (by unfold hw_vl; rw [hw_dsa ho, hd, hw_ixw ho hwd]; rfl) k
theorem hq_zaldI0 (C : hw_C p s m args c D b0 cc own nL) {f i a g : Nat} {x : Int32} (hdg : decode cc pc = .ok (.baload, 1)) (hkc : hw_kc f = 12) (ho : hw_ob f = false) (hd : hw_ds f 0 = (0, g)) (hwd : hw_wd f = 0) {Nc Ns : Nat} (hNc : hw_cnt f = Nc) (hNs : hw_sz f = Ns) (hx : x = nI a) (ha : a < Ns) (hi : i < Nc) (k : hw_V p l e R s m args below meth c Q D b0 nL xb ka kb 271 (pc + 1) L (.int (I g a) :: st) (hw_vl b0 I J P N o)) : hw_V p l e R s m args below meth c Q D b0 nL xb ka kb 271 pc L (.int x :: .ref (hw_ad b0 f i) :: st) (hw_vl b0 I J P N o) :=
  hq_zald C hdg hkc ho hx (by rw [hNs]; exact ha) (hw_nt hNc hi).1 (hw_nt hNc hi).2 (by unfold hw_vl; rw [hw_dsa ho, hd, hw_ix0 ho hwd]; rfl) k
theorem hq_zaldIw (C : hw_C p s m args c D b0 cc own nL) {f i a g : Nat} {x : Int32} (hdg : decode cc pc = .ok (.baload, 1)) (hkc : hw_kc f = 12) (ho : hw_ob f = false) (hd : hw_ds f 0 = (0, g)) {w : Nat} (hwd : hw_wd f = w + 1) {Nc Ns : Nat} (hNc : hw_cnt f = Nc) (hNs : hw_sz f = Ns) (hx : x = nI a) (ha : a < Ns) (hi : i < Nc) (k : hw_V p l e R s m args below meth c Q D b0 nL xb ka kb 271 (pc + 1) L (.int (I g ((w + 1) * i + a)) :: st) (hw_vl b0 I J P N o)) : hw_V p l e R s m args below meth c Q D b0 nL xb ka kb 271 pc L (.int x :: .ref (hw_ad b0 f i) :: st) (hw_vl b0 I J P N o) :=
  hq_zald C hdg hkc ho hx (by rw [hNs]; exact ha) (hw_nt hNc hi).1 (hw_nt hNc hi).2 (by unfold hw_vl; rw [hw_dsa ho, hd, hw_ixw ho hwd]; rfl) k
theorem hq_zaldP0 (C : hw_C p s m args c D b0 cc own nL) {f i a g : Nat} {x : Int32} (hdg : decode cc pc = .ok (.baload, 1)) (hkc : hw_kc f = 12) (ho : hw_ob f = false) (hd : hw_ds f 0 = (2, g)) (hwd : hw_wd f = 0) {Nc Ns : Nat} (hNc : hw_cnt f = Nc) (hNs : hw_sz f = Ns) (hx : x = nI a) (ha : a < Ns) (hi : i < Nc) (k : hw_V p l e R s m args below meth c Q D b0 nL xb ka kb 271 (pc + 1) L (.int (P g a) :: st) (hw_vl b0 I J P N o)) : hw_V p l e R s m args below meth c Q D b0 nL xb ka kb 271 pc L (.int x :: .ref (hw_ad b0 f i) :: st) (hw_vl b0 I J P N o) :=
  hq_zald C hdg hkc ho hx (by rw [hNs]; exact ha) (hw_nt hNc hi).1 (hw_nt hNc hi).2 (by unfold hw_vl; rw [hw_dsa ho, hd, hw_ix0 ho hwd]; rfl) k
theorem hq_zaldPw (C : hw_C p s m args c D b0 cc own nL) {f i a g : Nat} {x : Int32} (hdg : decode cc pc = .ok (.baload, 1)) (hkc : hw_kc f = 12) (ho : hw_ob f = false) (hd : hw_ds f 0 = (2, g)) {w : Nat} (hwd : hw_wd f = w + 1) {Nc Ns : Nat} (hNc : hw_cnt f = Nc) (hNs : hw_sz f = Ns) (hx : x = nI a) (ha : a < Ns) (hi : i < Nc) (k : hw_V p l e R s m args below meth c Q D b0 nL xb ka kb 271 (pc + 1) L (.int (P g ((w + 1) * i + a)) :: st) (hw_vl b0 I J P N o)) : hw_V p l e R s m args below meth c Q D b0 nL xb ka kb 271 pc L (.int x :: .ref (hw_ad b0 f i) :: st) (hw_vl b0 I J P N o) :=
  hq_zald C hdg hkc ho hx (by rw [hNs]; exact ha) (hw_nt hNc hi).1 (hw_nt hNc hi).2 (by unfold hw_vl; rw [hw_dsa ho, hd, hw_ixw ho hwd]; rfl) k
theorem hq_laldJ0 (C : hw_C p s m args c D b0 cc own nL) {f i a g : Nat} {x : Int32} (hdg : decode cc pc = .ok (.laload, 1)) (hkc : hw_kc f = 11) (ho : hw_ob f = false) (hd : hw_ds f 0 = (1, g)) (hwd : hw_wd f = 0) {Nc Ns : Nat} (hNc : hw_cnt f = Nc) (hNs : hw_sz f = Ns) (hx : x = nI a) (ha : a < Ns) (hi : i < Nc) (k : hw_V p l e R s m args below meth c Q D b0 nL xb ka kb 271 (pc + 1) L (.long (J g a) :: st) (hw_vl b0 I J P N o)) : hw_V p l e R s m args below meth c Q D b0 nL xb ka kb 271 pc L (.int x :: .ref (hw_ad b0 f i) :: st) (hw_vl b0 I J P N o) :=
  hq_lald C hdg hkc ho hx (by rw [hNs]; exact ha) (hw_nt hNc hi).1 (hw_nt hNc hi).2 (by unfold hw_vl; rw [hw_dsa ho, hd, hw_ix0 ho hwd]; rfl) k
theorem hq_laldJw (C : hw_C p s m args c D b0 cc own nL) {f i a g : Nat} {x : Int32} (hdg : decode cc pc = .ok (.laload, 1)) (hkc : hw_kc f = 11) (ho : hw_ob f = false) (hd : hw_ds f 0 = (1, g)) {w : Nat} (hwd : hw_wd f = w + 1) {Nc Ns : Nat} (hNc : hw_cnt f = Nc) (hNs : hw_sz f = Ns) (hx : x = nI a) (ha : a < Ns) (hi : i < Nc) (k : hw_V p l e R s m args below meth c Q D b0 nL xb ka kb 271 (pc + 1) L (.long (J g ((w + 1) * i + a)) :: st) (hw_vl b0 I J P N o)) : hw_V p l e R s m args below meth c Q D b0 nL xb ka kb 271 pc L (.int x :: .ref (hw_ad b0 f i) :: st) (hw_vl b0 I J P N o) :=
  hq_lald C hdg hkc ho hx (by rw [hNs]; exact ha) (hw_nt hNc hi).1 (hw_nt hNc hi).2 (by unfold hw_vl; rw [hw_dsa ho, hd, hw_ixw ho hwd]; rfl) k
theorem hq_laldN0 (C : hw_C p s m args c D b0 cc own nL) {f i a g : Nat} {x : Int32} (hdg : decode cc pc = .ok (.laload, 1)) (hkc : hw_kc f = 11) (ho : hw_ob f = false) (hd : hw_ds f 0 = (3, g)) (hwd : hw_wd f = 0) {Nc Ns : Nat} (hNc : hw_cnt f = Nc) (hNs : hw_sz f = Ns) (hx : x = nI a) (ha : a < Ns) (hi : i < Nc) (k : hw_V p l e R s m args below meth c Q D b0 nL xb ka kb 271 (pc + 1) L (.long (N g a) :: st) (hw_vl b0 I J P N o)) : hw_V p l e R s m args below meth c Q D b0 nL xb ka kb 271 pc L (.int x :: .ref (hw_ad b0 f i) :: st) (hw_vl b0 I J P N o) :=
  hq_lald C hdg hkc ho hx (by rw [hNs]; exact ha) (hw_nt hNc hi).1 (hw_nt hNc hi).2 (by unfold hw_vl; rw [hw_dsa ho, hd, hw_ix0 ho hwd]; rfl) k
theorem hq_laldNw (C : hw_C p s m args c D b0 cc own nL) {f i a g : Nat} {x : Int32} (hdg : decode cc pc = .ok (.laload, 1)) (hkc : hw_kc f = 11) (ho : hw_ob f = false) (hd : hw_ds f 0 = (3, g)) {w : Nat} (hwd : hw_wd f = w + 1) {Nc Ns : Nat} (hNc : hw_cnt f = Nc) (hNs : hw_sz f = Ns) (hx : x = nI a) (ha : a < Ns) (hi : i < Nc) (k : hw_V p l e R s m args below meth c Q D b0 nL xb ka kb 271 (pc + 1) L (.long (N g ((w + 1) * i + a)) :: st) (hw_vl b0 I J P N o)) : hw_V p l e R s m args below meth c Q D b0 nL xb ka kb 271 pc L (.int x :: .ref (hw_ad b0 f i) :: st) (hw_vl b0 I J P N o) :=
  hq_lald C hdg hkc ho hx (by rw [hNs]; exact ha) (hw_nt hNc hi).1 (hw_nt hNc hi).2 (by unfold hw_vl; rw [hw_dsa ho, hd, hw_ixw ho hwd]; rfl) k
theorem hq_aaldBR0 (C : hw_C p s m args c D b0 cc own nL) {f i a g : Nat} {x : Int32} (hdg : decode cc pc = .ok (.aaload, 1)) (hkc : hw_kc f = 13) (ho : hw_ob f = false) (hd : hw_ds f 0 = (4, g)) (hwd : hw_wd f = 0) {Nc Ns : Nat} (hNc : hw_cnt f = Nc) (hNs : hw_sz f = Ns) (hx : x = nI a) (ha : a < Ns) (hi : i < Nc) (k : hw_V p l e R s m args below meth c Q D b0 nL xb ka kb 271 (pc + 1) L (.ref (hw_ad b0 g a) :: st) (hw_vl b0 I J P N o)) : hw_V p l e R s m args below meth c Q D b0 nL xb ka kb 271 pc L (.int x :: .ref (hw_ad b0 f i) :: st) (hw_vl b0 I J P N o) :=
  hq_aaldB C hdg hkc ho hx (by rw [hNs]; exact ha) (hw_nt hNc hi).1 (hw_nt hNc hi).2 (by unfold hw_vl; rw [hw_dsa ho, hd, hw_ix0 ho hwd]; rfl) k
theorem hq_aaldBRw (C : hw_C p s m args c D b0 cc own nL) {f i a g : Nat} {x : Int32} (hdg : decode cc pc = .ok (.aaload, 1)) (hkc : hw_kc f = 13) (ho : hw_ob f = false) (hd : hw_ds f 0 = (4, g)) {w : Nat} (hwd : hw_wd f = w + 1) {Nc Ns : Nat} (hNc : hw_cnt f = Nc) (hNs : hw_sz f = Ns) (hx : x = nI a) (ha : a < Ns) (hi : i < Nc) (k : hw_V p l e R s m args below meth c Q D b0 nL xb ka kb 271 (pc + 1) L (.ref (hw_ad b0 g ((w + 1) * i + a)) :: st) (hw_vl b0 I J P N o)) : hw_V p l e R s m args below meth c Q D b0 nL xb ka kb 271 pc L (.int x :: .ref (hw_ad b0 f i) :: st) (hw_vl b0 I J P N o) :=
  hq_aaldB C hdg hkc ho hx (by rw [hNs]; exact ha) (hw_nt hNc hi).1 (hw_nt hNc hi).2 (by unfold hw_vl; rw [hw_dsa ho, hd, hw_ixw ho hwd]; rfl) k
theorem hq_aaldOR0 (C : hw_C p s m args c D b0 cc own nL) {f i a g : Nat} {x : Int32} (hdg : decode cc pc = .ok (.aaload, 1)) (hkc : hw_kc f = 14) (ho : hw_ob f = false) (hd : hw_ds f 0 = (4, g)) (hwd : hw_wd f = 0) {Nc Ns : Nat} (hNc : hw_cnt f = Nc) (hNs : hw_sz f = Ns) (hx : x = nI a) (ha : a < Ns) (hi : i < Nc) (k : hw_V p l e R s m args below meth c Q D b0 nL xb ka kb 271 (pc + 1) L (.ref (hw_ad b0 g a) :: st) (hw_vl b0 I J P N o)) : hw_V p l e R s m args below meth c Q D b0 nL xb ka kb 271 pc L (.int x :: .ref (hw_ad b0 f i) :: st) (hw_vl b0 I J P N o) :=
  hq_aaldO C hdg hkc ho hx (by rw [hNs]; exact ha) (hw_nt hNc hi).1 (hw_nt hNc hi).2 (by unfold hw_vl; rw [hw_dsa ho, hd, hw_ix0 ho hwd]; rfl) k
theorem hq_aaldORw (C : hw_C p s m args c D b0 cc own nL) {f i a g : Nat} {x : Int32} (hdg : decode cc pc = .ok (.aaload, 1)) (hkc : hw_kc f = 14) (ho : hw_ob f = false) (hd : hw_ds f 0 = (4, g)) {w : Nat} (hwd : hw_wd f = w + 1) {Nc Ns : Nat} (hNc : hw_cnt f = Nc) (hNs : hw_sz f = Ns) (hx : x = nI a) (ha : a < Ns) (hi : i < Nc) (k : hw_V p l e R s m args below meth c Q D b0 nL xb ka kb 271 (pc + 1) L (.ref (hw_ad b0 g ((w + 1) * i + a)) :: st) (hw_vl b0 I J P N o)) : hw_V p l e R s m args below meth c Q D b0 nL xb ka kb 271 pc L (.int x :: .ref (hw_ad b0 f i) :: st) (hw_vl b0 I J P N o) :=
  hq_aaldO C hdg hkc ho hx (by rw [hNs]; exact ha) (hw_nt hNc hi).1 (hw_nt hNc hi).2 (by unfold hw_vl; rw [hw_dsa ho, hd, hw_ixw ho hwd]; rfl) k
theorem hq_aaldCR0 (C : hw_C p s m args c D b0 cc own nL) {f i a g : Nat} {x : Int32} (hdg : decode cc pc = .ok (.aaload, 1)) (hkc : hw_kc f = 15) (ho : hw_ob f = false) (hd : hw_ds f 0 = (4, g)) (hwd : hw_wd f = 0) {Nc Ns : Nat} (hNc : hw_cnt f = Nc) (hNs : hw_sz f = Ns) (hx : x = nI a) (ha : a < Ns) (hi : i < Nc) (k : hw_V p l e R s m args below meth c Q D b0 nL xb ka kb 271 (pc + 1) L (.ref (hw_ad b0 g a) :: st) (hw_vl b0 I J P N o)) : hw_V p l e R s m args below meth c Q D b0 nL xb ka kb 271 pc L (.int x :: .ref (hw_ad b0 f i) :: st) (hw_vl b0 I J P N o) :=
  hq_aaldC C hdg hkc ho hx (by rw [hNs]; exact ha) (hw_nt hNc hi).1 (hw_nt hNc hi).2 (by unfold hw_vl; rw [hw_dsa ho, hd, hw_ix0 ho hwd]; rfl) k
theorem hq_aaldCRw (C : hw_C p s m args c D b0 cc own nL) {f i a g : Nat} {x : Int32} (hdg : decode cc pc = .ok (.aaload, 1)) (hkc : hw_kc f = 15) (ho : hw_ob f = false) (hd : hw_ds f 0 = (4, g)) {w : Nat} (hwd : hw_wd f = w + 1) {Nc Ns : Nat} (hNc : hw_cnt f = Nc) (hNs : hw_sz f = Ns) (hx : x = nI a) (ha : a < Ns) (hi : i < Nc) (k : hw_V p l e R s m args below meth c Q D b0 nL xb ka kb 271 (pc + 1) L (.ref (hw_ad b0 g ((w + 1) * i + a)) :: st) (hw_vl b0 I J P N o)) : hw_V p l e R s m args below meth c Q D b0 nL xb ka kb 271 pc L (.int x :: .ref (hw_ad b0 f i) :: st) (hw_vl b0 I J P N o) :=
  hq_aaldC C hdg hkc ho hx (by rw [hNs]; exact ha) (hw_nt hNc hi).1 (hw_nt hNc hi).2 (by unfold hw_vl; rw [hw_dsa ho, hd, hw_ixw ho hwd]; rfl) k
theorem hq_aaldJR0 (C : hw_C p s m args c D b0 cc own nL) {f i a g : Nat} {x : Int32} (hdg : decode cc pc = .ok (.aaload, 1)) (hkc : hw_kc f = 16) (ho : hw_ob f = false) (hd : hw_ds f 0 = (4, g)) (hwd : hw_wd f = 0) {Nc Ns : Nat} (hNc : hw_cnt f = Nc) (hNs : hw_sz f = Ns) (hx : x = nI a) (ha : a < Ns) (hi : i < Nc) (k : hw_V p l e R s m args below meth c Q D b0 nL xb ka kb 271 (pc + 1) L (.ref (hw_ad b0 g a) :: st) (hw_vl b0 I J P N o)) : hw_V p l e R s m args below meth c Q D b0 nL xb ka kb 271 pc L (.int x :: .ref (hw_ad b0 f i) :: st) (hw_vl b0 I J P N o) :=
  hq_aaldJ C hdg hkc ho hx (by rw [hNs]; exact ha) (hw_nt hNc hi).1 (hw_nt hNc hi).2 (by unfold hw_vl; rw [hw_dsa ho, hd, hw_ix0 ho hwd]; rfl) k
theorem hq_aaldJRw (C : hw_C p s m args c D b0 cc own nL) {f i a g : Nat} {x : Int32} (hdg : decode cc pc = .ok (.aaload, 1)) (hkc : hw_kc f = 16) (ho : hw_ob f = false) (hd : hw_ds f 0 = (4, g)) {w : Nat} (hwd : hw_wd f = w + 1) {Nc Ns : Nat} (hNc : hw_cnt f = Nc) (hNs : hw_sz f = Ns) (hx : x = nI a) (ha : a < Ns) (hi : i < Nc) (k : hw_V p l e R s m args below meth c Q D b0 nL xb ka kb 271 (pc + 1) L (.ref (hw_ad b0 g ((w + 1) * i + a)) :: st) (hw_vl b0 I J P N o)) : hw_V p l e R s m args below meth c Q D b0 nL xb ka kb 271 pc L (.int x :: .ref (hw_ad b0 f i) :: st) (hw_vl b0 I J P N o) :=
  hq_aaldJ C hdg hkc ho hx (by rw [hNs]; exact ha) (hw_nt hNc hi).1 (hw_nt hNc hi).2 (by unfold hw_vl; rw [hw_dsa ho, hd, hw_ixw ho hwd]; rfl) k
theorem hq_iastI0 (C : hw_C p s m args c D b0 cc own nL) {f i a g : Nat} {x : Int32} {z : Int32} (hdg : decode cc pc = .ok (.iastore, 1)) (hkc : hw_kc f = 10) (ho : hw_ob f = false) (hd : hw_ds f 0 = (0, g)) (hwd : hw_wd f = 0) {Nc Ns : Nat} (hNc : hw_cnt f = Nc) (hNs : hw_sz f = Ns) (hx : x = nI a) (ha : a < Ns) (hi : i < Nc) (k : hw_V p l e R s m args below meth c Q D b0 nL xb ka kb 271 (pc + 1) L st (hw_vl b0 (uI I g a z) J P N o)) : hw_V p l e R s m args below meth c Q D b0 nL xb ka kb 271 pc L (.int z :: .int x :: .ref (hw_ad b0 f i) :: st) (hw_vl b0 I J P N o) :=
  hq_iast C hdg hkc ho hx (by rw [hNs]; exact ha) (hw_nt hNc hi).1 (hw_nt hNc hi).2 (hw_UI (hw_nt hNc hi).1 (by rw [hNs]; exact ha) ((hw_dsa ho a).trans hd) (hw_ix0 ho hwd)) k
theorem hq_iastIw (C : hw_C p s m args c D b0 cc own nL) {f i a g : Nat} {x : Int32} {z : Int32} (hdg : decode cc pc = .ok (.iastore, 1)) (hkc : hw_kc f = 10) (ho : hw_ob f = false) (hd : hw_ds f 0 = (0, g)) {w : Nat} (hwd : hw_wd f = w + 1) {Nc Ns : Nat} (hNc : hw_cnt f = Nc) (hNs : hw_sz f = Ns) (hx : x = nI a) (ha : a < Ns) (hi : i < Nc) (k : hw_V p l e R s m args below meth c Q D b0 nL xb ka kb 271 (pc + 1) L st (hw_vl b0 (uI I g ((w + 1) * i + a) z) J P N o)) : hw_V p l e R s m args below meth c Q D b0 nL xb ka kb 271 pc L (.int z :: .int x :: .ref (hw_ad b0 f i) :: st) (hw_vl b0 I J P N o) :=
  hq_iast C hdg hkc ho hx (by rw [hNs]; exact ha) (hw_nt hNc hi).1 (hw_nt hNc hi).2 (hw_UI (hw_nt hNc hi).1 (by rw [hNs]; exact ha) ((hw_dsa ho a).trans hd) (hw_ixw ho hwd)) k
theorem hq_iastP0 (C : hw_C p s m args c D b0 cc own nL) {f i a g : Nat} {x : Int32} {z : Int32} (hdg : decode cc pc = .ok (.iastore, 1)) (hkc : hw_kc f = 10) (ho : hw_ob f = false) (hd : hw_ds f 0 = (2, g)) (hwd : hw_wd f = 0) {Nc Ns : Nat} (hNc : hw_cnt f = Nc) (hNs : hw_sz f = Ns) (hx : x = nI a) (ha : a < Ns) (hi : i < Nc) (k : hw_V p l e R s m args below meth c Q D b0 nL xb ka kb 271 (pc + 1) L st (hw_vl b0 I J (uI P g a z) N o)) : hw_V p l e R s m args below meth c Q D b0 nL xb ka kb 271 pc L (.int z :: .int x :: .ref (hw_ad b0 f i) :: st) (hw_vl b0 I J P N o) :=
  hq_iast C hdg hkc ho hx (by rw [hNs]; exact ha) (hw_nt hNc hi).1 (hw_nt hNc hi).2 (hw_UP (hw_nt hNc hi).1 (by rw [hNs]; exact ha) ((hw_dsa ho a).trans hd) (hw_ix0 ho hwd)) k
theorem hq_iastPw (C : hw_C p s m args c D b0 cc own nL) {f i a g : Nat} {x : Int32} {z : Int32} (hdg : decode cc pc = .ok (.iastore, 1)) (hkc : hw_kc f = 10) (ho : hw_ob f = false) (hd : hw_ds f 0 = (2, g)) {w : Nat} (hwd : hw_wd f = w + 1) {Nc Ns : Nat} (hNc : hw_cnt f = Nc) (hNs : hw_sz f = Ns) (hx : x = nI a) (ha : a < Ns) (hi : i < Nc) (k : hw_V p l e R s m args below meth c Q D b0 nL xb ka kb 271 (pc + 1) L st (hw_vl b0 I J (uI P g ((w + 1) * i + a) z) N o)) : hw_V p l e R s m args below meth c Q D b0 nL xb ka kb 271 pc L (.int z :: .int x :: .ref (hw_ad b0 f i) :: st) (hw_vl b0 I J P N o) :=
  hq_iast C hdg hkc ho hx (by rw [hNs]; exact ha) (hw_nt hNc hi).1 (hw_nt hNc hi).2 (hw_UP (hw_nt hNc hi).1 (by rw [hNs]; exact ha) ((hw_dsa ho a).trans hd) (hw_ixw ho hwd)) k
theorem hq_zastI0 (C : hw_C p s m args c D b0 cc own nL) {f i a g : Nat} {x : Int32} {z : Int32} (hdg : decode cc pc = .ok (.bastore, 1)) (hkc : hw_kc f = 12) (ho : hw_ob f = false) (hd : hw_ds f 0 = (0, g)) (hwd : hw_wd f = 0) {Nc Ns : Nat} (hNc : hw_cnt f = Nc) (hNs : hw_sz f = Ns) (hx : x = nI a) (ha : a < Ns) (hi : i < Nc) (hnar : narrow .boolean (.int z) = .int z) (k : hw_V p l e R s m args below meth c Q D b0 nL xb ka kb 271 (pc + 1) L st (hw_vl b0 (uI I g a z) J P N o)) : hw_V p l e R s m args below meth c Q D b0 nL xb ka kb 271 pc L (.int z :: .int x :: .ref (hw_ad b0 f i) :: st) (hw_vl b0 I J P N o) :=
  hq_zast C hdg hkc ho hx (by rw [hNs]; exact ha) (hw_nt hNc hi).1 (hw_nt hNc hi).2 hnar (hw_UI (hw_nt hNc hi).1 (by rw [hNs]; exact ha) ((hw_dsa ho a).trans hd) (hw_ix0 ho hwd)) k
theorem hq_zastIw (C : hw_C p s m args c D b0 cc own nL) {f i a g : Nat} {x : Int32} {z : Int32} (hdg : decode cc pc = .ok (.bastore, 1)) (hkc : hw_kc f = 12) (ho : hw_ob f = false) (hd : hw_ds f 0 = (0, g)) {w : Nat} (hwd : hw_wd f = w + 1) {Nc Ns : Nat} (hNc : hw_cnt f = Nc) (hNs : hw_sz f = Ns) (hx : x = nI a) (ha : a < Ns) (hi : i < Nc) (hnar : narrow .boolean (.int z) = .int z) (k : hw_V p l e R s m args below meth c Q D b0 nL xb ka kb 271 (pc + 1) L st (hw_vl b0 (uI I g ((w + 1) * i + a) z) J P N o)) : hw_V p l e R s m args below meth c Q D b0 nL xb ka kb 271 pc L (.int z :: .int x :: .ref (hw_ad b0 f i) :: st) (hw_vl b0 I J P N o) :=
  hq_zast C hdg hkc ho hx (by rw [hNs]; exact ha) (hw_nt hNc hi).1 (hw_nt hNc hi).2 hnar (hw_UI (hw_nt hNc hi).1 (by rw [hNs]; exact ha) ((hw_dsa ho a).trans hd) (hw_ixw ho hwd)) k
theorem hq_zastP0 (C : hw_C p s m args c D b0 cc own nL) {f i a g : Nat} {x : Int32} {z : Int32} (hdg : decode cc pc = .ok (.bastore, 1)) (hkc : hw_kc f = 12) (ho : hw_ob f = false) (hd : hw_ds f 0 = (2, g)) (hwd : hw_wd f = 0) {Nc Ns : Nat} (hNc : hw_cnt f = Nc) (hNs : hw_sz f = Ns) (hx : x = nI a) (ha : a < Ns) (hi : i < Nc) (hnar : narrow .boolean (.int z) = .int z) (k : hw_V p l e R s m args below meth c Q D b0 nL xb ka kb 271 (pc + 1) L st (hw_vl b0 I J (uI P g a z) N o)) : hw_V p l e R s m args below meth c Q D b0 nL xb ka kb 271 pc L (.int z :: .int x :: .ref (hw_ad b0 f i) :: st) (hw_vl b0 I J P N o) :=
  hq_zast C hdg hkc ho hx (by rw [hNs]; exact ha) (hw_nt hNc hi).1 (hw_nt hNc hi).2 hnar (hw_UP (hw_nt hNc hi).1 (by rw [hNs]; exact ha) ((hw_dsa ho a).trans hd) (hw_ix0 ho hwd)) k
theorem hq_zastPw (C : hw_C p s m args c D b0 cc own nL) {f i a g : Nat} {x : Int32} {z : Int32} (hdg : decode cc pc = .ok (.bastore, 1)) (hkc : hw_kc f = 12) (ho : hw_ob f = false) (hd : hw_ds f 0 = (2, g)) {w : Nat} (hwd : hw_wd f = w + 1) {Nc Ns : Nat} (hNc : hw_cnt f = Nc) (hNs : hw_sz f = Ns) (hx : x = nI a) (ha : a < Ns) (hi : i < Nc) (hnar : narrow .boolean (.int z) = .int z) (k : hw_V p l e R s m args below meth c Q D b0 nL xb ka kb 271 (pc + 1) L st (hw_vl b0 I J (uI P g ((w + 1) * i + a) z) N o)) : hw_V p l e R s m args below meth c Q D b0 nL xb ka kb 271 pc L (.int z :: .int x :: .ref (hw_ad b0 f i) :: st) (hw_vl b0 I J P N o) :=
  hq_zast C hdg hkc ho hx (by rw [hNs]; exact ha) (hw_nt hNc hi).1 (hw_nt hNc hi).2 hnar (hw_UP (hw_nt hNc hi).1 (by rw [hNs]; exact ha) ((hw_dsa ho a).trans hd) (hw_ixw ho hwd)) k
theorem hq_lastJ0 (C : hw_C p s m args c D b0 cc own nL) {f i a g : Nat} {x : Int32} {z : Int64} (hdg : decode cc pc = .ok (.lastore, 1)) (hkc : hw_kc f = 11) (ho : hw_ob f = false) (hd : hw_ds f 0 = (1, g)) (hwd : hw_wd f = 0) {Nc Ns : Nat} (hNc : hw_cnt f = Nc) (hNs : hw_sz f = Ns) (hx : x = nI a) (ha : a < Ns) (hi : i < Nc) (k : hw_V p l e R s m args below meth c Q D b0 nL xb ka kb 271 (pc + 1) L st (hw_vl b0 I (uJ J g a z) P N o)) : hw_V p l e R s m args below meth c Q D b0 nL xb ka kb 271 pc L (.long z :: .int x :: .ref (hw_ad b0 f i) :: st) (hw_vl b0 I J P N o) :=
  hq_last C hdg hkc ho hx (by rw [hNs]; exact ha) (hw_nt hNc hi).1 (hw_nt hNc hi).2 (hw_UJ (hw_nt hNc hi).1 (by rw [hNs]; exact ha) ((hw_dsa ho a).trans hd) (hw_ix0 ho hwd)) k
theorem hq_lastJw (C : hw_C p s m args c D b0 cc own nL) {f i a g : Nat} {x : Int32} {z : Int64} (hdg : decode cc pc = .ok (.lastore, 1)) (hkc : hw_kc f = 11) (ho : hw_ob f = false) (hd : hw_ds f 0 = (1, g)) {w : Nat} (hwd : hw_wd f = w + 1) {Nc Ns : Nat} (hNc : hw_cnt f = Nc) (hNs : hw_sz f = Ns) (hx : x = nI a) (ha : a < Ns) (hi : i < Nc) (k : hw_V p l e R s m args below meth c Q D b0 nL xb ka kb 271 (pc + 1) L st (hw_vl b0 I (uJ J g ((w + 1) * i + a) z) P N o)) : hw_V p l e R s m args below meth c Q D b0 nL xb ka kb 271 pc L (.long z :: .int x :: .ref (hw_ad b0 f i) :: st) (hw_vl b0 I J P N o) :=
  hq_last C hdg hkc ho hx (by rw [hNs]; exact ha) (hw_nt hNc hi).1 (hw_nt hNc hi).2 (hw_UJ (hw_nt hNc hi).1 (by rw [hNs]; exact ha) ((hw_dsa ho a).trans hd) (hw_ixw ho hwd)) k
theorem hq_lastN0 (C : hw_C p s m args c D b0 cc own nL) {f i a g : Nat} {x : Int32} {z : Int64} (hdg : decode cc pc = .ok (.lastore, 1)) (hkc : hw_kc f = 11) (ho : hw_ob f = false) (hd : hw_ds f 0 = (3, g)) (hwd : hw_wd f = 0) {Nc Ns : Nat} (hNc : hw_cnt f = Nc) (hNs : hw_sz f = Ns) (hx : x = nI a) (ha : a < Ns) (hi : i < Nc) (k : hw_V p l e R s m args below meth c Q D b0 nL xb ka kb 271 (pc + 1) L st (hw_vl b0 I J P (uJ N g a z) o)) : hw_V p l e R s m args below meth c Q D b0 nL xb ka kb 271 pc L (.long z :: .int x :: .ref (hw_ad b0 f i) :: st) (hw_vl b0 I J P N o) :=
  hq_last C hdg hkc ho hx (by rw [hNs]; exact ha) (hw_nt hNc hi).1 (hw_nt hNc hi).2 (hw_UN (hw_nt hNc hi).1 (by rw [hNs]; exact ha) ((hw_dsa ho a).trans hd) (hw_ix0 ho hwd)) k
theorem hq_lastNw (C : hw_C p s m args c D b0 cc own nL) {f i a g : Nat} {x : Int32} {z : Int64} (hdg : decode cc pc = .ok (.lastore, 1)) (hkc : hw_kc f = 11) (ho : hw_ob f = false) (hd : hw_ds f 0 = (3, g)) {w : Nat} (hwd : hw_wd f = w + 1) {Nc Ns : Nat} (hNc : hw_cnt f = Nc) (hNs : hw_sz f = Ns) (hx : x = nI a) (ha : a < Ns) (hi : i < Nc) (k : hw_V p l e R s m args below meth c Q D b0 nL xb ka kb 271 (pc + 1) L st (hw_vl b0 I J P (uJ N g ((w + 1) * i + a) z) o)) : hw_V p l e R s m args below meth c Q D b0 nL xb ka kb 271 pc L (.long z :: .int x :: .ref (hw_ad b0 f i) :: st) (hw_vl b0 I J P N o) :=
  hq_last C hdg hkc ho hx (by rw [hNs]; exact ha) (hw_nt hNc hi).1 (hw_nt hNc hi).2 (hw_UN (hw_nt hNc hi).1 (by rw [hNs]; exact ha) ((hw_dsa ho a).trans hd) (hw_ixw ho hwd)) k
theorem hq_lasto (C : hw_C p s m args c D b0 cc own nL) {x : Int32} {z : Int64} (hdg : decode cc pc = .ok (.lastore, 1)) (hx : x = nI 0) (k : hw_V p l e R s m args below meth c Q D b0 nL xb ka kb 271 (pc + 1) L st (hw_vl b0 I J P N z)) : hw_V p l e R s m args below meth c Q D b0 nL xb ka kb 271 pc L (.long z :: .int x :: .ref (hw_ad b0 59 0) :: st) (hw_vl b0 I J P N o) :=
  hq_last C hdg (by decide) (by decide) hx (by decide) (by decide) (by decide) hw_Uo k
theorem hq_laldo (C : hw_C p s m args c D b0 cc own nL) {x : Int32} (hdg : decode cc pc = .ok (.laload, 1)) (hx : x = nI 0) (k : hw_V p l e R s m args below meth c Q D b0 nL xb ka kb 271 (pc + 1) L (.long o :: st) (hw_vl b0 I J P N o)) : hw_V p l e R s m args below meth c Q D b0 nL xb ka kb 271 pc L (.int x :: .ref (hw_ad b0 59 0) :: st) (hw_vl b0 I J P N o) :=
  hq_lald C hdg (by decide) (by decide) hx (by decide) (by decide) (by decide) rfl k
theorem hw_inc (a : Nat) : nI a + Int32.ofInt 1 = nI (a + 1) := nI_1 a
theorem hw_sts {I I' : MI} {J J' : MJ} {P P' : MI} {N N' : MJ} {o o' : Int64} (h1 : I = I') (h2 : J = J') (h3 : P = P') (h4 : N = N') (h5 : o = o') : hw_vl b0 I J P N o = hw_vl b0 I' J' P' N' o' := by rw [h1, h2, h3, h4, h5]
/-- the cells by equal numbers -/
theorem hq_eq {I' : MI} {J' : MJ} {P' : MI} {N' : MJ} {o' : Int64} (h1 : I = I') (h2 : J = J') (h3 : P = P') (h4 : N = N') (h5 : o = o') (k : hw_V p l e R s m args below meth c Q D b0 nL xb ka kb 271 pc L st (hw_vl b0 I' J' P' N' o')) : hw_V p l e R s m args below meth c Q D b0 nL xb ka kb 271 pc L st (hw_vl b0 I J P N o) := by rw [h1, h2, h3, h4, h5]; exact k
theorem hq_st {st' : List Value} (h : st = st') (k : hw_V p l e R s m args below meth c Q D b0 nL xb ka kb 271 pc L st' (hw_vl b0 I J P N o)) : hw_V p l e R s m args below meth c Q D b0 nL xb ka kb 271 pc L st (hw_vl b0 I J P N o) := by rw [h]; exact k
end HT
end
section
/-! links, methods, rooms: by program -/
theorem fr_X5_74 : hw_FR RX5 74 0 0 := ⟨_, _, _, rfl, by decide, hw_in 87 (by decide +kernel) rfl⟩
theorem fl_X5_74 : hw_FL RX5 74 0 0 .int false := ⟨_, _, _, rfl, by decide, hw_in 87 (by decide +kernel) rfl, by decide +kernel, rfl, (fun h => by cases h)⟩
theorem fr_X5_77 : hw_FR RX5 77 0 1 := ⟨_, _, _, rfl, by decide, hw_in 88 (by decide +kernel) rfl⟩
theorem fl_X5_77 : hw_FL RX5 77 0 1 .long false := ⟨_, _, _, rfl, by decide, hw_in 88 (by decide +kernel) rfl, by decide +kernel, rfl, (fun h => by cases h)⟩
theorem fr_X5_81 : hw_FR RX5 81 0 2 := ⟨_, _, _, rfl, by decide, hw_in 89 (by decide +kernel) rfl⟩
theorem fl_X5_81 : hw_FL RX5 81 0 2 .int false := ⟨_, _, _, rfl, by decide, hw_in 89 (by decide +kernel) rfl, by decide +kernel, rfl, (fun h => by cases h)⟩
theorem fr_X4_67 : hw_FR RX4 67 0 2 := ⟨_, _, _, rfl, by decide, hw_in 90 (by decide +kernel) rfl⟩
theorem fl_X4_67 : hw_FL RX4 67 0 2 .int false := ⟨_, _, _, rfl, by decide, hw_in 90 (by decide +kernel) rfl, by decide +kernel, rfl, (fun h => by cases h)⟩
theorem fr_X0_19 : hw_FR RX0 19 0 3 := ⟨_, _, _, rfl, by decide, hw_in 91 (by decide +kernel) rfl⟩
theorem fl_X0_19 : hw_FL RX0 19 0 3 .int false := ⟨_, _, _, rfl, by decide, hw_in 91 (by decide +kernel) rfl, by decide +kernel, rfl, (fun h => by cases h)⟩
theorem fr_X5_97 : hw_FR RX5 97 0 3 := ⟨_, _, _, rfl, by decide, hw_in 92 (by decide +kernel) rfl⟩
theorem fl_X5_97 : hw_FL RX5 97 0 3 .int false := ⟨_, _, _, rfl, by decide, hw_in 92 (by decide +kernel) rfl, by decide +kernel, rfl, (fun h => by cases h)⟩
theorem fr_X5_115 : hw_FR RX5 115 0 4 := ⟨_, _, _, rfl, by decide, hw_in 93 (by decide +kernel) rfl⟩
theorem fl_X5_115 : hw_FL RX5 115 0 4 .int false := ⟨_, _, _, rfl, by decide, hw_in 93 (by decide +kernel) rfl, by decide +kernel, rfl, (fun h => by cases h)⟩
theorem fr_X5_118 : hw_FR RX5 118 0 5 := ⟨_, _, _, rfl, by decide, hw_in 94 (by decide +kernel) rfl⟩
theorem fl_X5_118 : hw_FL RX5 118 0 5 .boolean false := ⟨_, _, _, rfl, by decide, hw_in 94 (by decide +kernel) rfl, by decide +kernel, rfl, (fun h => by cases h)⟩
theorem fr_X0_9 : hw_FR RX0 9 0 6 := ⟨_, _, _, rfl, by decide, hw_in 95 (by decide +kernel) rfl⟩
theorem fl_X0_9 : hw_FL RX0 9 0 6 (.array .int) true := ⟨_, _, _, rfl, by decide, hw_in 95 (by decide +kernel) rfl, by decide +kernel, rfl, (fun _ => rfl)⟩
theorem fr_X5_87 : hw_FR RX5 87 0 6 := ⟨_, _, _, rfl, by decide, hw_in 96 (by decide +kernel) rfl⟩
theorem fr_X0_15 : hw_FR RX0 15 0 7 := ⟨_, _, _, rfl, by decide, hw_in 97 (by decide +kernel) rfl⟩
theorem fl_X0_15 : hw_FL RX0 15 0 7 (.array .boolean) true := ⟨_, _, _, rfl, by decide, hw_in 97 (by decide +kernel) rfl, by decide +kernel, rfl, (fun _ => rfl)⟩
theorem fr_X5_90 : hw_FR RX5 90 0 7 := ⟨_, _, _, rfl, by decide, hw_in 98 (by decide +kernel) rfl⟩
theorem fr_X3_34 : hw_FR RX3 34 3 0 := ⟨_, _, _, rfl, by decide, hw_in 125 (by decide +kernel) rfl⟩
theorem fl_X3_34 : hw_FL RX3 34 3 0 .int false := ⟨_, _, _, rfl, by decide, hw_in 125 (by decide +kernel) rfl, by decide +kernel, rfl, (fun h => by cases h)⟩
theorem fr_X5_131 : hw_FR RX5 131 3 0 := ⟨_, _, _, rfl, by decide, hw_in 126 (by decide +kernel) rfl⟩
theorem fl_X5_131 : hw_FL RX5 131 3 0 .int false := ⟨_, _, _, rfl, by decide, hw_in 126 (by decide +kernel) rfl, by decide +kernel, rfl, (fun h => by cases h)⟩
theorem fr_X5_134 : hw_FR RX5 134 3 1 := ⟨_, _, _, rfl, by decide, hw_in 127 (by decide +kernel) rfl⟩
theorem fl_X5_134 : hw_FL RX5 134 3 1 .int false := ⟨_, _, _, rfl, by decide, hw_in 127 (by decide +kernel) rfl, by decide +kernel, rfl, (fun h => by cases h)⟩
theorem fr_X5_145 : hw_FR RX5 145 3 2 := ⟨_, _, _, rfl, by decide, hw_in 128 (by decide +kernel) rfl⟩
theorem fl_X5_145 : hw_FL RX5 145 3 2 .int false := ⟨_, _, _, rfl, by decide, hw_in 128 (by decide +kernel) rfl, by decide +kernel, rfl, (fun h => by cases h)⟩
theorem fr_X5_137 : hw_FR RX5 137 3 3 := ⟨_, _, _, rfl, by decide, hw_in 129 (by decide +kernel) rfl⟩
theorem fl_X5_137 : hw_FL RX5 137 3 3 .int false := ⟨_, _, _, rfl, by decide, hw_in 129 (by decide +kernel) rfl, by decide +kernel, rfl, (fun h => by cases h)⟩
theorem fr_X3_22 : hw_FR RX3 22 3 4 := ⟨_, _, _, rfl, by decide, hw_in 130 (by decide +kernel) rfl⟩
theorem fl_X3_22 : hw_FL RX3 22 3 4 .int false := ⟨_, _, _, rfl, by decide, hw_in 130 (by decide +kernel) rfl, by decide +kernel, rfl, (fun h => by cases h)⟩
theorem fr_X5_140 : hw_FR RX5 140 3 4 := ⟨_, _, _, rfl, by decide, hw_in 131 (by decide +kernel) rfl⟩
theorem fl_X5_140 : hw_FL RX5 140 3 4 .int false := ⟨_, _, _, rfl, by decide, hw_in 131 (by decide +kernel) rfl, by decide +kernel, rfl, (fun h => by cases h)⟩
theorem fr_X3_25 : hw_FR RX3 25 3 5 := ⟨_, _, _, rfl, by decide, hw_in 132 (by decide +kernel) rfl⟩
theorem fl_X3_25 : hw_FL RX3 25 3 5 .int false := ⟨_, _, _, rfl, by decide, hw_in 132 (by decide +kernel) rfl, by decide +kernel, rfl, (fun h => by cases h)⟩
theorem fr_X5_221 : hw_FR RX5 221 3 5 := ⟨_, _, _, rfl, by decide, hw_in 133 (by decide +kernel) rfl⟩
theorem fl_X5_221 : hw_FL RX5 221 3 5 .int false := ⟨_, _, _, rfl, by decide, hw_in 133 (by decide +kernel) rfl, by decide +kernel, rfl, (fun h => by cases h)⟩
theorem fr_X5_162 : hw_FR RX5 162 3 6 := ⟨_, _, _, rfl, by decide, hw_in 134 (by decide +kernel) rfl⟩
theorem fl_X5_162 : hw_FL RX5 162 3 6 .int false := ⟨_, _, _, rfl, by decide, hw_in 134 (by decide +kernel) rfl, by decide +kernel, rfl, (fun h => by cases h)⟩
theorem fr_X3_18 : hw_FR RX3 18 3 7 := ⟨_, _, _, rfl, by decide, hw_in 135 (by decide +kernel) rfl⟩
theorem fl_X3_18 : hw_FL RX3 18 3 7 .int false := ⟨_, _, _, rfl, by decide, hw_in 135 (by decide +kernel) rfl, by decide +kernel, rfl, (fun h => by cases h)⟩
theorem fr_X5_275 : hw_FR RX5 275 3 7 := ⟨_, _, _, rfl, by decide, hw_in 136 (by decide +kernel) rfl⟩
theorem fl_X5_275 : hw_FL RX5 275 3 7 .int false := ⟨_, _, _, rfl, by decide, hw_in 136 (by decide +kernel) rfl, by decide +kernel, rfl, (fun h => by cases h)⟩
theorem fr_X3_9 : hw_FR RX3 9 3 8 := ⟨_, _, _, rfl, by decide, hw_in 137 (by decide +kernel) rfl⟩
theorem fl_X3_9 : hw_FL RX3 9 3 8 (.array .int) true := ⟨_, _, _, rfl, by decide, hw_in 137 (by decide +kernel) rfl, by decide +kernel, rfl, (fun _ => rfl)⟩
theorem fr_X5_276 : hw_FR RX5 276 3 8 := ⟨_, _, _, rfl, by decide, hw_in 138 (by decide +kernel) rfl⟩
theorem fr_X3_15 : hw_FR RX3 15 3 9 := ⟨_, _, _, rfl, by decide, hw_in 139 (by decide +kernel) rfl⟩
theorem fl_X3_15 : hw_FL RX3 15 3 9 (.array .int) true := ⟨_, _, _, rfl, by decide, hw_in 139 (by decide +kernel) rfl, by decide +kernel, rfl, (fun _ => rfl)⟩
theorem fr_X5_278 : hw_FR RX5 278 3 9 := ⟨_, _, _, rfl, by decide, hw_in 140 (by decide +kernel) rfl⟩
theorem fr_X5_182 : hw_FR RX5 182 1 0 := ⟨_, _, _, rfl, by decide, hw_in 169 (by decide +kernel) rfl⟩
theorem fl_X5_182 : hw_FL RX5 182 1 0 .int false := ⟨_, _, _, rfl, by decide, hw_in 169 (by decide +kernel) rfl, by decide +kernel, rfl, (fun h => by cases h)⟩
theorem fr_X5_185 : hw_FR RX5 185 1 1 := ⟨_, _, _, rfl, by decide, hw_in 170 (by decide +kernel) rfl⟩
theorem fl_X5_185 : hw_FL RX5 185 1 1 .int false := ⟨_, _, _, rfl, by decide, hw_in 170 (by decide +kernel) rfl, by decide +kernel, rfl, (fun h => by cases h)⟩
theorem fr_X5_188 : hw_FR RX5 188 1 2 := ⟨_, _, _, rfl, by decide, hw_in 171 (by decide +kernel) rfl⟩
theorem fl_X5_188 : hw_FL RX5 188 1 2 .int false := ⟨_, _, _, rfl, by decide, hw_in 171 (by decide +kernel) rfl, by decide +kernel, rfl, (fun h => by cases h)⟩
theorem fr_X5_189 : hw_FR RX5 189 1 3 := ⟨_, _, _, rfl, by decide, hw_in 172 (by decide +kernel) rfl⟩
theorem fl_X5_189 : hw_FL RX5 189 1 3 .int false := ⟨_, _, _, rfl, by decide, hw_in 172 (by decide +kernel) rfl, by decide +kernel, rfl, (fun h => by cases h)⟩
theorem fr_X5_192 : hw_FR RX5 192 1 4 := ⟨_, _, _, rfl, by decide, hw_in 173 (by decide +kernel) rfl⟩
theorem fl_X5_192 : hw_FL RX5 192 1 4 .boolean false := ⟨_, _, _, rfl, by decide, hw_in 173 (by decide +kernel) rfl, by decide +kernel, rfl, (fun h => by cases h)⟩
theorem fr_X5_195 : hw_FR RX5 195 1 5 := ⟨_, _, _, rfl, by decide, hw_in 174 (by decide +kernel) rfl⟩
theorem fl_X5_195 : hw_FL RX5 195 1 5 .boolean false := ⟨_, _, _, rfl, by decide, hw_in 174 (by decide +kernel) rfl, by decide +kernel, rfl, (fun h => by cases h)⟩
theorem fr_X2_11 : hw_FR RX2 11 2 0 := ⟨_, _, _, rfl, by decide, hw_in 196 (by decide +kernel) rfl⟩
theorem fl_X2_11 : hw_FL RX2 11 2 0 (.array (.array .long)) true := ⟨_, _, _, rfl, by decide, hw_in 196 (by decide +kernel) rfl, by decide +kernel, rfl, (fun _ => rfl)⟩
theorem fr_X4_70 : hw_FR RX4 70 2 0 := ⟨_, _, _, rfl, by decide, hw_in 197 (by decide +kernel) rfl⟩
theorem fr_X5_171 : hw_FR RX5 171 2 0 := ⟨_, _, _, rfl, by decide, hw_in 198 (by decide +kernel) rfl⟩
theorem fr_X2_16 : hw_FR RX2 16 2 1 := ⟨_, _, _, rfl, by decide, hw_in 199 (by decide +kernel) rfl⟩
theorem fl_X2_16 : hw_FL RX2 16 2 1 (.array (.array .long)) true := ⟨_, _, _, rfl, by decide, hw_in 199 (by decide +kernel) rfl, by decide +kernel, rfl, (fun _ => rfl)⟩
theorem fr_X5_206 : hw_FR RX5 206 2 1 := ⟨_, _, _, rfl, by decide, hw_in 200 (by decide +kernel) rfl⟩
theorem fr_X4_31 : hw_FR RX4 31 4 0 := ⟨_, _, _, rfl, by decide, hw_in 213 (by decide +kernel) rfl⟩
theorem fl_X4_31 : hw_FL RX4 31 4 0 (.array (.object "HundiHall$Broker")) true := ⟨_, _, _, rfl, by decide, hw_in 213 (by decide +kernel) rfl, by decide +kernel, rfl, (fun _ => rfl)⟩
theorem fr_X4_35 : hw_FR RX4 35 4 1 := ⟨_, _, _, rfl, by decide, hw_in 214 (by decide +kernel) rfl⟩
theorem fl_X4_35 : hw_FL RX4 35 4 1 (.object "HundiHall$Ledger") true := ⟨_, _, _, rfl, by decide, hw_in 214 (by decide +kernel) rfl, by decide +kernel, rfl, (fun _ => rfl)⟩
theorem fr_X4_9 : hw_FR RX4 9 4 2 := ⟨_, _, _, rfl, by decide, hw_in 215 (by decide +kernel) rfl⟩
theorem fl_X4_9 : hw_FL RX4 9 4 2 (.array .boolean) true := ⟨_, _, _, rfl, by decide, hw_in 215 (by decide +kernel) rfl, by decide +kernel, rfl, (fun _ => rfl)⟩
theorem fr_X4_15 : hw_FR RX4 15 4 3 := ⟨_, _, _, rfl, by decide, hw_in 216 (by decide +kernel) rfl⟩
theorem fl_X4_15 : hw_FL RX4 15 4 3 (.array .boolean) true := ⟨_, _, _, rfl, by decide, hw_in 216 (by decide +kernel) rfl, by decide +kernel, rfl, (fun _ => rfl)⟩
theorem fr_X4_18 : hw_FR RX4 18 4 4 := ⟨_, _, _, rfl, by decide, hw_in 217 (by decide +kernel) rfl⟩
theorem fl_X4_18 : hw_FL RX4 18 4 4 (.array .boolean) true := ⟨_, _, _, rfl, by decide, hw_in 217 (by decide +kernel) rfl, by decide +kernel, rfl, (fun _ => rfl)⟩
theorem fr_X4_21 : hw_FR RX4 21 4 5 := ⟨_, _, _, rfl, by decide, hw_in 218 (by decide +kernel) rfl⟩
theorem fl_X4_21 : hw_FL RX4 21 4 5 (.array .int) true := ⟨_, _, _, rfl, by decide, hw_in 218 (by decide +kernel) rfl, by decide +kernel, rfl, (fun _ => rfl)⟩
theorem fr_X3_37 : hw_FR RX3 37 4 5 := ⟨_, _, _, rfl, by decide, hw_in 219 (by decide +kernel) rfl⟩
theorem fr_X4_25 : hw_FR RX4 25 4 6 := ⟨_, _, _, rfl, by decide, hw_in 220 (by decide +kernel) rfl⟩
theorem fl_X4_25 : hw_FL RX4 25 4 6 (.array .int) true := ⟨_, _, _, rfl, by decide, hw_in 220 (by decide +kernel) rfl, by decide +kernel, rfl, (fun _ => rfl)⟩
theorem fr_X4_28 : hw_FR RX4 28 4 7 := ⟨_, _, _, rfl, by decide, hw_in 221 (by decide +kernel) rfl⟩
theorem fl_X4_28 : hw_FL RX4 28 4 7 (.array .int) true := ⟨_, _, _, rfl, by decide, hw_in 221 (by decide +kernel) rfl, by decide +kernel, rfl, (fun _ => rfl)⟩
theorem fr_X3_31 : hw_FR RX3 31 4 7 := ⟨_, _, _, rfl, by decide, hw_in 222 (by decide +kernel) rfl⟩
theorem fr_X5_215 : hw_FR RX5 215 4 7 := ⟨_, _, _, rfl, by decide, hw_in 223 (by decide +kernel) rfl⟩
theorem fr_X4_53 : hw_FR RX4 53 4 8 := ⟨_, _, _, rfl, by decide, hw_in 224 (by decide +kernel) rfl⟩
theorem fl_X4_53 : hw_FL RX4 53 4 8 .int false := ⟨_, _, _, rfl, by decide, hw_in 224 (by decide +kernel) rfl, by decide +kernel, rfl, (fun h => by cases h)⟩
theorem fr_X3_28 : hw_FR RX3 28 4 8 := ⟨_, _, _, rfl, by decide, hw_in 225 (by decide +kernel) rfl⟩
theorem fl_X3_28 : hw_FL RX3 28 4 8 .int false := ⟨_, _, _, rfl, by decide, hw_in 225 (by decide +kernel) rfl, by decide +kernel, rfl, (fun h => by cases h)⟩
theorem fr_X5_212 : hw_FR RX5 212 4 8 := ⟨_, _, _, rfl, by decide, hw_in 226 (by decide +kernel) rfl⟩
theorem fl_X5_212 : hw_FL RX5 212 4 8 .int false := ⟨_, _, _, rfl, by decide, hw_in 226 (by decide +kernel) rfl, by decide +kernel, rfl, (fun h => by cases h)⟩
theorem fr_X4_39 : hw_FR RX4 39 4 9 := ⟨_, _, _, rfl, by decide, hw_in 227 (by decide +kernel) rfl⟩
theorem fl_X4_39 : hw_FL RX4 39 4 9 .int false := ⟨_, _, _, rfl, by decide, hw_in 227 (by decide +kernel) rfl, by decide +kernel, rfl, (fun h => by cases h)⟩
theorem fr_X4_43 : hw_FR RX4 43 4 10 := ⟨_, _, _, rfl, by decide, hw_in 228 (by decide +kernel) rfl⟩
theorem fl_X4_43 : hw_FL RX4 43 4 10 .boolean false := ⟨_, _, _, rfl, by decide, hw_in 228 (by decide +kernel) rfl, by decide +kernel, rfl, (fun h => by cases h)⟩
theorem wc_X5_50 : Cond.constant RX5 50 1000000 ∈ hw_TB := hw_in 252 (by decide +kernel) rfl
theorem fr_X5_11 : hw_FR RX5 11 5 0 := ⟨_, _, _, rfl, by decide, hw_in 253 (by decide +kernel) rfl⟩
theorem fl_X5_11 : hw_FL RX5 11 5 0 (.array (.object "HundiHall$Broker")) true := ⟨_, _, _, rfl, by decide, hw_in 253 (by decide +kernel) rfl, by decide +kernel, rfl, (fun _ => rfl)⟩
theorem fr_X5_18 : hw_FR RX5 18 5 1 := ⟨_, _, _, rfl, by decide, hw_in 254 (by decide +kernel) rfl⟩
theorem fl_X5_18 : hw_FL RX5 18 5 1 (.array (.object "HundiHall$Order")) true := ⟨_, _, _, rfl, by decide, hw_in 254 (by decide +kernel) rfl, by decide +kernel, rfl, (fun _ => rfl)⟩
theorem fr_X5_25 : hw_FR RX5 25 5 2 := ⟨_, _, _, rfl, by decide, hw_in 255 (by decide +kernel) rfl⟩
theorem fl_X5_25 : hw_FL RX5 25 5 2 (.array (.object "HundiHall$Courier")) true := ⟨_, _, _, rfl, by decide, hw_in 255 (by decide +kernel) rfl, by decide +kernel, rfl, (fun _ => rfl)⟩
theorem fr_X5_33 : hw_FR RX5 33 5 3 := ⟨_, _, _, rfl, by decide, hw_in 256 (by decide +kernel) rfl⟩
theorem fl_X5_33 : hw_FL RX5 33 5 3 (.object "HundiHall$Ledger") true := ⟨_, _, _, rfl, by decide, hw_in 256 (by decide +kernel) rfl, by decide +kernel, rfl, (fun _ => rfl)⟩
theorem fr_X5_42 : hw_FR RX5 42 5 4 := ⟨_, _, _, rfl, by decide, hw_in 257 (by decide +kernel) rfl⟩
theorem fl_X5_42 : hw_FL RX5 42 5 4 (.object "HundiHall$WayFinder") true := ⟨_, _, _, rfl, by decide, hw_in 257 (by decide +kernel) rfl, by decide +kernel, rfl, (fun _ => rfl)⟩
theorem fr_X5_46 : hw_FR RX5 46 5 5 := ⟨_, _, _, rfl, by decide, hw_in 258 (by decide +kernel) rfl⟩
theorem fl_X5_46 : hw_FL RX5 46 5 5 (.array .int) true := ⟨_, _, _, rfl, by decide, hw_in 258 (by decide +kernel) rfl, by decide +kernel, rfl, (fun _ => rfl)⟩
theorem fr_X5_51 : hw_FR RX5 51 5 6 := ⟨_, _, _, rfl, by decide, hw_in 259 (by decide +kernel) rfl⟩
theorem fl_X5_51 : hw_FL RX5 51 5 6 (.array .int) true := ⟨_, _, _, rfl, by decide, hw_in 259 (by decide +kernel) rfl, by decide +kernel, rfl, (fun _ => rfl)⟩
theorem fr_X5_54 : hw_FR RX5 54 5 7 := ⟨_, _, _, rfl, by decide, hw_in 260 (by decide +kernel) rfl⟩
theorem fl_X5_54 : hw_FL RX5 54 5 7 (.array .boolean) true := ⟨_, _, _, rfl, by decide, hw_in 260 (by decide +kernel) rfl, by decide +kernel, rfl, (fun _ => rfl)⟩
theorem fr_X5_66 : hw_FR RX5 66 5 8 := ⟨_, _, _, rfl, by decide, hw_in 261 (by decide +kernel) rfl⟩
theorem fl_X5_66 : hw_FL RX5 66 5 8 .int false := ⟨_, _, _, rfl, by decide, hw_in 261 (by decide +kernel) rfl, by decide +kernel, rfl, (fun h => by cases h)⟩
theorem fr_X5_124 : hw_FR RX5 124 5 9 := ⟨_, _, _, rfl, by decide, hw_in 262 (by decide +kernel) rfl⟩
theorem fl_X5_124 : hw_FL RX5 124 5 9 .int false := ⟨_, _, _, rfl, by decide, hw_in 262 (by decide +kernel) rfl, by decide +kernel, rfl, (fun h => by cases h)⟩
theorem fr_X5_179 : hw_FR RX5 179 5 10 := ⟨_, _, _, rfl, by decide, hw_in 263 (by decide +kernel) rfl⟩
theorem fl_X5_179 : hw_FL RX5 179 5 10 .int false := ⟨_, _, _, rfl, by decide, hw_in 263 (by decide +kernel) rfl, by decide +kernel, rfl, (fun h => by cases h)⟩
theorem fr_X5_112 : hw_FR RX5 112 5 11 := ⟨_, _, _, rfl, by decide, hw_in 264 (by decide +kernel) rfl⟩
theorem fl_X5_112 : hw_FL RX5 112 5 11 .int false := ⟨_, _, _, rfl, by decide, hw_in 264 (by decide +kernel) rfl, by decide +kernel, rfl, (fun h => by cases h)⟩
theorem fr_X5_93 : hw_FR RX5 93 5 12 := ⟨_, _, _, rfl, by decide, hw_in 265 (by decide +kernel) rfl⟩
theorem fl_X5_93 : hw_FL RX5 93 5 12 .boolean false := ⟨_, _, _, rfl, by decide, hw_in 265 (by decide +kernel) rfl, by decide +kernel, rfl, (fun h => by cases h)⟩
theorem fr_X5_121 : hw_FR RX5 121 5 13 := ⟨_, _, _, rfl, by decide, hw_in 266 (by decide +kernel) rfl⟩
theorem fl_X5_121 : hw_FL RX5 121 5 13 .long false := ⟨_, _, _, rfl, by decide, hw_in 266 (by decide +kernel) rfl, by decide +kernel, rfl, (fun h => by cases h)⟩
theorem wc_X6_87 : Cond.constant RX6 87 1000000 ∈ hw_TB := hw_in 780 (by decide +kernel) rfl
theorem fr_X6_109 : hw_FR RX6 109 6 0 := ⟨_, _, _, rfl, by decide, hw_in 781 (by decide +kernel) rfl⟩
theorem fl_X6_109 : hw_FL RX6 109 6 0 .int false := ⟨_, _, _, rfl, by decide, hw_in 781 (by decide +kernel) rfl, by decide +kernel, rfl, (fun h => by cases h)⟩
theorem fr_X6_194 : hw_FR RX6 194 6 1 := ⟨_, _, _, rfl, by decide, hw_in 782 (by decide +kernel) rfl⟩
theorem fl_X6_194 : hw_FL RX6 194 6 1 .int false := ⟨_, _, _, rfl, by decide, hw_in 782 (by decide +kernel) rfl, by decide +kernel, rfl, (fun h => by cases h)⟩
theorem fr_X6_131 : hw_FR RX6 131 6 2 := ⟨_, _, _, rfl, by decide, hw_in 783 (by decide +kernel) rfl⟩
theorem fl_X6_131 : hw_FL RX6 131 6 2 .boolean false := ⟨_, _, _, rfl, by decide, hw_in 783 (by decide +kernel) rfl, by decide +kernel, rfl, (fun h => by cases h)⟩
theorem fr_X6_113 : hw_FR RX6 113 6 3 := ⟨_, _, _, rfl, by decide, hw_in 784 (by decide +kernel) rfl⟩
theorem fl_X6_113 : hw_FL RX6 113 6 3 .int false := ⟨_, _, _, rfl, by decide, hw_in 784 (by decide +kernel) rfl, by decide +kernel, rfl, (fun h => by cases h)⟩
theorem fr_X6_7 : hw_FR RX6 7 6 4 := ⟨_, _, _, rfl, by decide, hw_in 785 (by decide +kernel) rfl⟩
theorem fl_X6_7 : hw_FL RX6 7 6 4 (.array .int) true := ⟨_, _, _, rfl, by decide, hw_in 785 (by decide +kernel) rfl, by decide +kernel, rfl, (fun _ => rfl)⟩
theorem fr_X6_13 : hw_FR RX6 13 6 5 := ⟨_, _, _, rfl, by decide, hw_in 786 (by decide +kernel) rfl⟩
theorem fl_X6_13 : hw_FL RX6 13 6 5 (.array .long) true := ⟨_, _, _, rfl, by decide, hw_in 786 (by decide +kernel) rfl, by decide +kernel, rfl, (fun _ => rfl)⟩
theorem fr_X6_17 : hw_FR RX6 17 6 6 := ⟨_, _, _, rfl, by decide, hw_in 787 (by decide +kernel) rfl⟩
theorem fl_X6_17 : hw_FL RX6 17 6 6 (.array .int) true := ⟨_, _, _, rfl, by decide, hw_in 787 (by decide +kernel) rfl, by decide +kernel, rfl, (fun _ => rfl)⟩
theorem fr_X6_20 : hw_FR RX6 20 6 7 := ⟨_, _, _, rfl, by decide, hw_in 788 (by decide +kernel) rfl⟩
theorem fl_X6_20 : hw_FL RX6 20 6 7 (.array .int) true := ⟨_, _, _, rfl, by decide, hw_in 788 (by decide +kernel) rfl, by decide +kernel, rfl, (fun _ => rfl)⟩
theorem fr_X6_23 : hw_FR RX6 23 6 8 := ⟨_, _, _, rfl, by decide, hw_in 789 (by decide +kernel) rfl⟩
theorem fl_X6_23 : hw_FL RX6 23 6 8 (.array .int) true := ⟨_, _, _, rfl, by decide, hw_in 789 (by decide +kernel) rfl, by decide +kernel, rfl, (fun _ => rfl)⟩
theorem fr_X6_26 : hw_FR RX6 26 6 9 := ⟨_, _, _, rfl, by decide, hw_in 790 (by decide +kernel) rfl⟩
theorem fl_X6_26 : hw_FL RX6 26 6 9 (.array .boolean) true := ⟨_, _, _, rfl, by decide, hw_in 790 (by decide +kernel) rfl, by decide +kernel, rfl, (fun _ => rfl)⟩
theorem fr_X6_30 : hw_FR RX6 30 6 10 := ⟨_, _, _, rfl, by decide, hw_in 791 (by decide +kernel) rfl⟩
theorem fl_X6_30 : hw_FL RX6 30 6 10 (.array .int) true := ⟨_, _, _, rfl, by decide, hw_in 791 (by decide +kernel) rfl, by decide +kernel, rfl, (fun _ => rfl)⟩
theorem fr_X6_33 : hw_FR RX6 33 6 11 := ⟨_, _, _, rfl, by decide, hw_in 792 (by decide +kernel) rfl⟩
theorem fl_X6_33 : hw_FL RX6 33 6 11 (.array .boolean) true := ⟨_, _, _, rfl, by decide, hw_in 792 (by decide +kernel) rfl, by decide +kernel, rfl, (fun _ => rfl)⟩
theorem fr_X6_36 : hw_FR RX6 36 6 12 := ⟨_, _, _, rfl, by decide, hw_in 793 (by decide +kernel) rfl⟩
theorem fl_X6_36 : hw_FL RX6 36 6 12 (.array .long) true := ⟨_, _, _, rfl, by decide, hw_in 793 (by decide +kernel) rfl, by decide +kernel, rfl, (fun _ => rfl)⟩
theorem fr_X6_39 : hw_FR RX6 39 6 13 := ⟨_, _, _, rfl, by decide, hw_in 794 (by decide +kernel) rfl⟩
theorem fl_X6_39 : hw_FL RX6 39 6 13 (.array .long) true := ⟨_, _, _, rfl, by decide, hw_in 794 (by decide +kernel) rfl, by decide +kernel, rfl, (fun _ => rfl)⟩
theorem fr_X6_181 : hw_FR RX6 181 6 14 := ⟨_, _, _, rfl, by decide, hw_in 795 (by decide +kernel) rfl⟩
theorem fl_X6_181 : hw_FL RX6 181 6 14 .int false := ⟨_, _, _, rfl, by decide, hw_in 795 (by decide +kernel) rfl, by decide +kernel, rfl, (fun h => by cases h)⟩
theorem fr_X6_42 : hw_FR RX6 42 6 15 := ⟨_, _, _, rfl, by decide, hw_in 796 (by decide +kernel) rfl⟩
theorem fl_X6_42 : hw_FL RX6 42 6 15 (.array .int) true := ⟨_, _, _, rfl, by decide, hw_in 796 (by decide +kernel) rfl, by decide +kernel, rfl, (fun _ => rfl)⟩
theorem fr_X6_45 : hw_FR RX6 45 6 16 := ⟨_, _, _, rfl, by decide, hw_in 797 (by decide +kernel) rfl⟩
theorem fl_X6_45 : hw_FL RX6 45 6 16 (.array .int) true := ⟨_, _, _, rfl, by decide, hw_in 797 (by decide +kernel) rfl, by decide +kernel, rfl, (fun _ => rfl)⟩
theorem fr_X6_48 : hw_FR RX6 48 6 17 := ⟨_, _, _, rfl, by decide, hw_in 798 (by decide +kernel) rfl⟩
theorem fl_X6_48 : hw_FL RX6 48 6 17 (.array .int) true := ⟨_, _, _, rfl, by decide, hw_in 798 (by decide +kernel) rfl, by decide +kernel, rfl, (fun _ => rfl)⟩
theorem fr_X6_51 : hw_FR RX6 51 6 18 := ⟨_, _, _, rfl, by decide, hw_in 799 (by decide +kernel) rfl⟩
theorem fl_X6_51 : hw_FL RX6 51 6 18 (.array .int) true := ⟨_, _, _, rfl, by decide, hw_in 799 (by decide +kernel) rfl, by decide +kernel, rfl, (fun _ => rfl)⟩
theorem fr_X6_54 : hw_FR RX6 54 6 19 := ⟨_, _, _, rfl, by decide, hw_in 800 (by decide +kernel) rfl⟩
theorem fl_X6_54 : hw_FL RX6 54 6 19 (.array .int) true := ⟨_, _, _, rfl, by decide, hw_in 800 (by decide +kernel) rfl, by decide +kernel, rfl, (fun _ => rfl)⟩
theorem fr_X6_57 : hw_FR RX6 57 6 20 := ⟨_, _, _, rfl, by decide, hw_in 801 (by decide +kernel) rfl⟩
theorem fl_X6_57 : hw_FL RX6 57 6 20 (.array .int) true := ⟨_, _, _, rfl, by decide, hw_in 801 (by decide +kernel) rfl, by decide +kernel, rfl, (fun _ => rfl)⟩
theorem fr_X6_60 : hw_FR RX6 60 6 21 := ⟨_, _, _, rfl, by decide, hw_in 802 (by decide +kernel) rfl⟩
theorem fl_X6_60 : hw_FL RX6 60 6 21 (.array .int) true := ⟨_, _, _, rfl, by decide, hw_in 802 (by decide +kernel) rfl, by decide +kernel, rfl, (fun _ => rfl)⟩
theorem fr_X6_63 : hw_FR RX6 63 6 22 := ⟨_, _, _, rfl, by decide, hw_in 803 (by decide +kernel) rfl⟩
theorem fl_X6_63 : hw_FL RX6 63 6 22 (.array .int) true := ⟨_, _, _, rfl, by decide, hw_in 803 (by decide +kernel) rfl, by decide +kernel, rfl, (fun _ => rfl)⟩
theorem fr_X6_66 : hw_FR RX6 66 6 23 := ⟨_, _, _, rfl, by decide, hw_in 804 (by decide +kernel) rfl⟩
theorem fl_X6_66 : hw_FL RX6 66 6 23 (.array .int) true := ⟨_, _, _, rfl, by decide, hw_in 804 (by decide +kernel) rfl, by decide +kernel, rfl, (fun _ => rfl)⟩
theorem fr_X6_69 : hw_FR RX6 69 6 24 := ⟨_, _, _, rfl, by decide, hw_in 805 (by decide +kernel) rfl⟩
theorem fl_X6_69 : hw_FL RX6 69 6 24 (.array .int) true := ⟨_, _, _, rfl, by decide, hw_in 805 (by decide +kernel) rfl, by decide +kernel, rfl, (fun _ => rfl)⟩
theorem fr_X6_200 : hw_FR RX6 200 6 25 := ⟨_, _, _, rfl, by decide, hw_in 806 (by decide +kernel) rfl⟩
theorem fl_X6_200 : hw_FL RX6 200 6 25 .int false := ⟨_, _, _, rfl, by decide, hw_in 806 (by decide +kernel) rfl, by decide +kernel, rfl, (fun h => by cases h)⟩
theorem fr_X6_72 : hw_FR RX6 72 6 26 := ⟨_, _, _, rfl, by decide, hw_in 807 (by decide +kernel) rfl⟩
theorem fl_X6_72 : hw_FL RX6 72 6 26 (.array .int) true := ⟨_, _, _, rfl, by decide, hw_in 807 (by decide +kernel) rfl, by decide +kernel, rfl, (fun _ => rfl)⟩
theorem fr_X6_75 : hw_FR RX6 75 6 27 := ⟨_, _, _, rfl, by decide, hw_in 808 (by decide +kernel) rfl⟩
theorem fl_X6_75 : hw_FL RX6 75 6 27 (.array .int) true := ⟨_, _, _, rfl, by decide, hw_in 808 (by decide +kernel) rfl, by decide +kernel, rfl, (fun _ => rfl)⟩
theorem fr_X6_78 : hw_FR RX6 78 6 28 := ⟨_, _, _, rfl, by decide, hw_in 809 (by decide +kernel) rfl⟩
theorem fl_X6_78 : hw_FL RX6 78 6 28 (.array .int) true := ⟨_, _, _, rfl, by decide, hw_in 809 (by decide +kernel) rfl, by decide +kernel, rfl, (fun _ => rfl)⟩
theorem fr_X6_81 : hw_FR RX6 81 6 29 := ⟨_, _, _, rfl, by decide, hw_in 810 (by decide +kernel) rfl⟩
theorem fl_X6_81 : hw_FL RX6 81 6 29 (.array .int) true := ⟨_, _, _, rfl, by decide, hw_in 810 (by decide +kernel) rfl, by decide +kernel, rfl, (fun _ => rfl)⟩
theorem fr_X6_84 : hw_FR RX6 84 6 30 := ⟨_, _, _, rfl, by decide, hw_in 811 (by decide +kernel) rfl⟩
theorem fl_X6_84 : hw_FL RX6 84 6 30 (.array .boolean) true := ⟨_, _, _, rfl, by decide, hw_in 811 (by decide +kernel) rfl, by decide +kernel, rfl, (fun _ => rfl)⟩
theorem fr_X6_88 : hw_FR RX6 88 6 31 := ⟨_, _, _, rfl, by decide, hw_in 812 (by decide +kernel) rfl⟩
theorem fl_X6_88 : hw_FL RX6 88 6 31 (.array .int) true := ⟨_, _, _, rfl, by decide, hw_in 812 (by decide +kernel) rfl, by decide +kernel, rfl, (fun _ => rfl)⟩
theorem fr_X6_91 : hw_FR RX6 91 6 32 := ⟨_, _, _, rfl, by decide, hw_in 813 (by decide +kernel) rfl⟩
theorem fl_X6_91 : hw_FL RX6 91 6 32 (.array .int) true := ⟨_, _, _, rfl, by decide, hw_in 813 (by decide +kernel) rfl, by decide +kernel, rfl, (fun _ => rfl)⟩
theorem fr_X6_94 : hw_FR RX6 94 6 33 := ⟨_, _, _, rfl, by decide, hw_in 814 (by decide +kernel) rfl⟩
theorem fl_X6_94 : hw_FL RX6 94 6 33 (.array .boolean) true := ⟨_, _, _, rfl, by decide, hw_in 814 (by decide +kernel) rfl, by decide +kernel, rfl, (fun _ => rfl)⟩
theorem fr_X6_97 : hw_FR RX6 97 6 34 := ⟨_, _, _, rfl, by decide, hw_in 815 (by decide +kernel) rfl⟩
theorem fl_X6_97 : hw_FL RX6 97 6 34 (.array .long) true := ⟨_, _, _, rfl, by decide, hw_in 815 (by decide +kernel) rfl, by decide +kernel, rfl, (fun _ => rfl)⟩
theorem fr_X6_100 : hw_FR RX6 100 6 35 := ⟨_, _, _, rfl, by decide, hw_in 816 (by decide +kernel) rfl⟩
theorem fl_X6_100 : hw_FL RX6 100 6 35 (.array .long) true := ⟨_, _, _, rfl, by decide, hw_in 816 (by decide +kernel) rfl, by decide +kernel, rfl, (fun _ => rfl)⟩
theorem fr_X6_103 : hw_FR RX6 103 6 36 := ⟨_, _, _, rfl, by decide, hw_in 817 (by decide +kernel) rfl⟩
theorem fl_X6_103 : hw_FL RX6 103 6 36 (.array .int) true := ⟨_, _, _, rfl, by decide, hw_in 817 (by decide +kernel) rfl, by decide +kernel, rfl, (fun _ => rfl)⟩
theorem fr_X6_106 : hw_FR RX6 106 6 37 := ⟨_, _, _, rfl, by decide, hw_in 818 (by decide +kernel) rfl⟩
theorem fl_X6_106 : hw_FL RX6 106 6 37 (.array .int) true := ⟨_, _, _, rfl, by decide, hw_in 818 (by decide +kernel) rfl, by decide +kernel, rfl, (fun _ => rfl)⟩
theorem wc_X6_143 : Cond.constantLong RX6 143 1000 ∈ hw_TB := hw_in 975 (by decide +kernel) rfl
theorem wc_X6_147 : Cond.constantLong RX6 147 1000000000000 ∈ hw_TB := hw_in 976 (by decide +kernel) rfl
theorem wc_X6_145 : Cond.constantLong RX6 145 2 ∈ hw_TB := hw_in 985 (by decide +kernel) rfl
abbrev rX5_init : Room := { frames := 2, cells := 0, slots := 0, locals := 38 }
abbrev wX5_init : Cond := .code yX5_init cX5_init 2 none
theorem wi_X5_init : hw_WI yX5_init wX5_init 0 := ⟨⟨hw_in 76 (by decide +kernel) rfl, hw_in 75 (by decide +kernel) rfl, hw_in 58 (by decide +kernel) rfl⟩, by decide +kernel⟩
abbrev rX5_broker : Room := { frames := 7, cells := 4, slots := 24, locals := 104 }
abbrev wX5_broker : Cond := .code yX5_broker cX5_broker 5 (some .int)
theorem wv_X5_broker : hw_WV RX5 yX5_broker wX5_broker 3 := ⟨⟨hw_in 340 (by decide +kernel) rfl, hw_in 338 (by decide +kernel) rfl, hw_in 339 (by decide +kernel) rfl, hw_in 58 (by decide +kernel) rfl⟩, by decide +kernel⟩
abbrev rX5_rate : Room := { frames := 7, cells := 2, slots := 12, locals := 104 }
abbrev wX5_rate : Cond := .code yX5_rate cX5_rate 4 (some .int)
theorem wv_X5_rate : hw_WV RX5 yX5_rate wX5_rate 2 := ⟨⟨hw_in 456 (by decide +kernel) rfl, hw_in 454 (by decide +kernel) rfl, hw_in 455 (by decide +kernel) rfl, hw_in 58 (by decide +kernel) rfl⟩, by decide +kernel⟩
abbrev rX5_trust : Room := { frames := 8, cells := 4, slots := 24, locals := 125 }
abbrev wX5_trust : Cond := .code yX5_trust cX5_trust 5 none
theorem wv_X5_trust : hw_WV RX5 yX5_trust wX5_trust 4 := ⟨⟨hw_in 463 (by decide +kernel) rfl, hw_in 461 (by decide +kernel) rfl, hw_in 462 (by decide +kernel) rfl, hw_in 58 (by decide +kernel) rfl⟩, by decide +kernel⟩
abbrev rX5_festival : Room := { frames := 0, cells := 0, slots := 0, locals := 0 }
abbrev wX5_festival : Cond := .code yX5_festival cX5_festival 1 (some .boolean)
theorem wv_X5_festival : hw_WV RX5 yX5_festival wX5_festival 0 := ⟨⟨hw_in 299 (by decide +kernel) rfl, hw_in 297 (by decide +kernel) rfl, hw_in 298 (by decide +kernel) rfl, hw_in 58 (by decide +kernel) rfl⟩, by decide +kernel⟩
abbrev rX5_breakWord : Room := { frames := 7, cells := 2, slots := 12, locals := 161 }
abbrev wX5_breakWord : Cond := .code yX5_breakWord cX5_breakWord 3 (some .int)
theorem wv_X5_breakWord : hw_WV RX5 yX5_breakWord wX5_breakWord 1 := ⟨⟨hw_in 475 (by decide +kernel) rfl, hw_in 473 (by decide +kernel) rfl, hw_in 474 (by decide +kernel) rfl, hw_in 58 (by decide +kernel) rfl⟩, by decide +kernel⟩
abbrev rX5_raid : Room := { frames := 7, cells := 2, slots := 12, locals := 161 }
abbrev wX5_raid : Cond := .code yX5_raid cX5_raid 5 (some .int)
theorem wv_X5_raid : hw_WV RX5 yX5_raid wX5_raid 1 := ⟨⟨hw_in 580 (by decide +kernel) rfl, hw_in 578 (by decide +kernel) rfl, hw_in 579 (by decide +kernel) rfl, hw_in 58 (by decide +kernel) rfl⟩, by decide +kernel⟩
abbrev rX5_order : Room := { frames := 8, cells := 9, slots := 54, locals := 138 }
abbrev wX5_order : Cond := .code yX5_order cX5_order 7 (some .int)
theorem wv_X5_order : hw_WV RX5 yX5_order wX5_order 5 := ⟨⟨hw_in 588 (by decide +kernel) rfl, hw_in 586 (by decide +kernel) rfl, hw_in 587 (by decide +kernel) rfl, hw_in 58 (by decide +kernel) rfl⟩, by decide +kernel⟩
abbrev rX5_fetch : Room := { frames := 7, cells := 4, slots := 24, locals := 104 }
abbrev wX5_fetch : Cond := .code yX5_fetch cX5_fetch 5 (some .int)
theorem wv_X5_fetch : hw_WV RX5 yX5_fetch wX5_fetch 2 := ⟨⟨hw_in 607 (by decide +kernel) rfl, hw_in 605 (by decide +kernel) rfl, hw_in 606 (by decide +kernel) rfl, hw_in 58 (by decide +kernel) rfl⟩, by decide +kernel⟩
abbrev rX5_pass : Room := { frames := 7, cells := 1, slots := 6, locals := 112 }
abbrev wX5_pass : Cond := .code yX5_pass cX5_pass 3 (some .int)
theorem wv_X5_pass : hw_WV RX5 yX5_pass wX5_pass 1 := ⟨⟨hw_in 618 (by decide +kernel) rfl, hw_in 616 (by decide +kernel) rfl, hw_in 617 (by decide +kernel) rfl, hw_in 58 (by decide +kernel) rfl⟩, by decide +kernel⟩
abbrev rX5_pay : Room := { frames := 8, cells := 7, slots := 42, locals := 125 }
abbrev wX5_pay : Cond := .code yX5_pay cX5_pay 4 (some .int)
theorem wv_X5_pay : hw_WV RX5 yX5_pay wX5_pay 3 := ⟨⟨hw_in 653 (by decide +kernel) rfl, hw_in 651 (by decide +kernel) rfl, hw_in 652 (by decide +kernel) rfl, hw_in 58 (by decide +kernel) rfl⟩, by decide +kernel⟩
abbrev rX5_deliver : Room := { frames := 8, cells := 6, slots := 36, locals := 125 }
abbrev wX5_deliver : Cond := .code yX5_deliver cX5_deliver 4 (some .int)
theorem wv_X5_deliver : hw_WV RX5 yX5_deliver wX5_deliver 3 := ⟨⟨hw_in 660 (by decide +kernel) rfl, hw_in 658 (by decide +kernel) rfl, hw_in 659 (by decide +kernel) rfl, hw_in 58 (by decide +kernel) rfl⟩, by decide +kernel⟩
abbrev rX5_courier : Room := { frames := 8, cells := 7, slots := 42, locals := 125 }
abbrev wX5_courier : Cond := .code yX5_courier cX5_courier 6 (some .int)
theorem wv_X5_courier : hw_WV RX5 yX5_courier wX5_courier 4 := ⟨⟨hw_in 667 (by decide +kernel) rfl, hw_in 665 (by decide +kernel) rfl, hw_in 666 (by decide +kernel) rfl, hw_in 58 (by decide +kernel) rfl⟩, by decide +kernel⟩
abbrev rX5_rob : Room := { frames := 7, cells := 2, slots := 12, locals := 103 }
abbrev wX5_rob : Cond := .code yX5_rob cX5_rob 2 (some .int)
theorem wv_X5_rob : hw_WV RX5 yX5_rob wX5_rob 1 := ⟨⟨hw_in 674 (by decide +kernel) rfl, hw_in 672 (by decide +kernel) rfl, hw_in 673 (by decide +kernel) rfl, hw_in 58 (by decide +kernel) rfl⟩, by decide +kernel⟩
abbrev rX5_ring : Room := { frames := 3, cells := 0, slots := 0, locals := 73 }
abbrev wX5_ring : Cond := .code yX5_ring cX5_ring 6 (some .long)
theorem wv_X5_ring : hw_WV RX5 yX5_ring wX5_ring 0 := ⟨⟨hw_in 303 (by decide +kernel) rfl, hw_in 301 (by decide +kernel) rfl, hw_in 302 (by decide +kernel) rfl, hw_in 58 (by decide +kernel) rfl⟩, by decide +kernel⟩
abbrev rX5_law : Room := { frames := 7, cells := 2, slots := 12, locals := 104 }
abbrev wX5_law : Cond := .code yX5_law cX5_law 3 (some .int)
theorem wv_X5_law : hw_WV RX5 yX5_law wX5_law 2 := ⟨⟨hw_in 681 (by decide +kernel) rfl, hw_in 679 (by decide +kernel) rfl, hw_in 680 (by decide +kernel) rfl, hw_in 58 (by decide +kernel) rfl⟩, by decide +kernel⟩
abbrev rX5_list : Room := { frames := 7, cells := 1, slots := 6, locals := 103 }
abbrev wX5_list : Cond := .code yX5_list cX5_list 2 (some .boolean)
theorem wv_X5_list : hw_WV RX5 yX5_list wX5_list 1 := ⟨⟨hw_in 688 (by decide +kernel) rfl, hw_in 686 (by decide +kernel) rfl, hw_in 687 (by decide +kernel) rfl, hw_in 58 (by decide +kernel) rfl⟩, by decide +kernel⟩
abbrev rX5_brokerOf : Room := { frames := 7, cells := 2, slots := 12, locals := 104 }
abbrev wX5_brokerOf : Cond := .code yX5_brokerOf cX5_brokerOf 3 (some .long)
theorem wv_X5_brokerOf : hw_WV RX5 yX5_brokerOf wX5_brokerOf 2 := ⟨⟨hw_in 695 (by decide +kernel) rfl, hw_in 693 (by decide +kernel) rfl, hw_in 694 (by decide +kernel) rfl, hw_in 58 (by decide +kernel) rfl⟩, by decide +kernel⟩
abbrev rX5_debt : Room := { frames := 7, cells := 2, slots := 12, locals := 103 }
abbrev wX5_debt : Cond := .code yX5_debt cX5_debt 4 (some .long)
theorem wv_X5_debt : hw_WV RX5 yX5_debt wX5_debt 3 := ⟨⟨hw_in 706 (by decide +kernel) rfl, hw_in 704 (by decide +kernel) rfl, hw_in 705 (by decide +kernel) rfl, hw_in 58 (by decide +kernel) rfl⟩, by decide +kernel⟩
abbrev rX5_agree : Room := { frames := 7, cells := 2, slots := 12, locals := 103 }
abbrev wX5_agree : Cond := .code yX5_agree cX5_agree 3 (some .boolean)
theorem wv_X5_agree : hw_WV RX5 yX5_agree wX5_agree 2 := ⟨⟨hw_in 713 (by decide +kernel) rfl, hw_in 711 (by decide +kernel) rfl, hw_in 712 (by decide +kernel) rfl, hw_in 58 (by decide +kernel) rfl⟩, by decide +kernel⟩
abbrev rX5_way : Room := { frames := 8, cells := 5, slots := 30, locals := 138 }
abbrev wX5_way : Cond := .code yX5_way cX5_way 5 (some .int)
theorem wv_X5_way : hw_WV RX5 yX5_way wX5_way 4 := ⟨⟨hw_in 720 (by decide +kernel) rfl, hw_in 718 (by decide +kernel) rfl, hw_in 719 (by decide +kernel) rfl, hw_in 58 (by decide +kernel) rfl⟩, by decide +kernel⟩
abbrev rX5_wayOf : Room := { frames := 7, cells := 2, slots := 12, locals := 103 }
abbrev wX5_wayOf : Cond := .code yX5_wayOf cX5_wayOf 3 (some .int)
theorem wv_X5_wayOf : hw_WV RX5 yX5_wayOf wX5_wayOf 2 := ⟨⟨hw_in 731 (by decide +kernel) rfl, hw_in 729 (by decide +kernel) rfl, hw_in 730 (by decide +kernel) rfl, hw_in 58 (by decide +kernel) rfl⟩, by decide +kernel⟩
abbrev rX5_orderOf : Room := { frames := 7, cells := 2, slots := 12, locals := 104 }
abbrev wX5_orderOf : Cond := .code yX5_orderOf cX5_orderOf 4 (some .int)
theorem wv_X5_orderOf : hw_WV RX5 yX5_orderOf wX5_orderOf 2 := ⟨⟨hw_in 742 (by decide +kernel) rfl, hw_in 740 (by decide +kernel) rfl, hw_in 741 (by decide +kernel) rfl, hw_in 58 (by decide +kernel) rfl⟩, by decide +kernel⟩
abbrev rX5_inquiry : Room := { frames := 1, cells := 0, slots := 0, locals := 23 }
abbrev wX5_inquiry : Cond := .code yX5_inquiry cX5_inquiry 4 (some .int)
theorem wv_X5_inquiry : hw_WV RX5 yX5_inquiry wX5_inquiry 0 := ⟨⟨hw_in 326 (by decide +kernel) rfl, hw_in 324 (by decide +kernel) rfl, hw_in 325 (by decide +kernel) rfl, hw_in 58 (by decide +kernel) rfl⟩, by decide +kernel⟩
abbrev rX5_sum : Room := { frames := 7, cells := 1, slots := 6, locals := 104 }
abbrev wX5_sum : Cond := .code yX5_sum cX5_sum 2 (some .long)
theorem wv_X5_sum : hw_WV RX5 yX5_sum wX5_sum 1 := ⟨⟨hw_in 749 (by decide +kernel) rfl, hw_in 747 (by decide +kernel) rfl, hw_in 748 (by decide +kernel) rfl, hw_in 58 (by decide +kernel) rfl⟩, by decide +kernel⟩
abbrev rX5_requireIndex : Room := { frames := 6, cells := 1, slots := 6, locals := 82 }
abbrev wX5_requireIndex : Cond := .code yX5_requireIndex cX5_requireIndex 2 none
theorem ws_X5_requireIndex : hw_WS yX5_requireIndex wX5_requireIndex 2 := ⟨⟨hw_in 343 (by decide +kernel) rfl, hw_in 342 (by decide +kernel) rfl, hw_in 58 (by decide +kernel) rfl⟩, by decide +kernel⟩
abbrev rX5_requirePlace : Room := { frames := 6, cells := 1, slots := 6, locals := 82 }
abbrev wX5_requirePlace : Cond := .code yX5_requirePlace cX5_requirePlace 1 none
theorem ws_X5_requirePlace : hw_WS yX5_requirePlace wX5_requirePlace 1 := ⟨⟨hw_in 723 (by decide +kernel) rfl, hw_in 722 (by decide +kernel) rfl, hw_in 58 (by decide +kernel) rfl⟩, by decide +kernel⟩
abbrev rX5_requireRange : Room := { frames := 6, cells := 1, slots := 6, locals := 82 }
abbrev wX5_requireRange : Cond := .code yX5_requireRange cX5_requireRange 3 none
theorem ws_X5_requireRange : hw_WS yX5_requireRange wX5_requireRange 3 := ⟨⟨hw_in 414 (by decide +kernel) rfl, hw_in 413 (by decide +kernel) rfl, hw_in 58 (by decide +kernel) rfl⟩, by decide +kernel⟩
abbrev rX5_requireState : Room := { frames := 6, cells := 1, slots := 6, locals := 82 }
abbrev wX5_requireState : Cond := .code yX5_requireState cX5_requireState 1 none
theorem ws_X5_requireState : hw_WS yX5_requireState wX5_requireState 1 := ⟨⟨hw_in 433 (by decide +kernel) rfl, hw_in 432 (by decide +kernel) rfl, hw_in 58 (by decide +kernel) rfl⟩, by decide +kernel⟩
abbrev rX5_requireTwoBrokers : Room := { frames := 7, cells := 3, slots := 18, locals := 103 }
abbrev wX5_requireTwoBrokers : Cond := .code yX5_requireTwoBrokers cX5_requireTwoBrokers 3 none
theorem wv_X5_requireTwoBrokers : hw_WV RX5 yX5_requireTwoBrokers wX5_requireTwoBrokers 2 := ⟨⟨hw_in 467 (by decide +kernel) rfl, hw_in 466 (by decide +kernel) rfl, hw_in 3 (by decide +kernel) rfl, hw_in 58 (by decide +kernel) rfl⟩, by decide +kernel⟩
abbrev rX5_findWay : Room := { frames := 5, cells := 0, slots := 0, locals := 115 }
abbrev wX5_findWay : Cond := .code yX5_findWay cX5_findWay 4 (some .boolean)
theorem wv_X5_findWay : hw_WV RX5 yX5_findWay wX5_findWay 3 := ⟨⟨hw_in 592 (by decide +kernel) rfl, hw_in 591 (by decide +kernel) rfl, hw_in 18 (by decide +kernel) rfl, hw_in 58 (by decide +kernel) rfl⟩, by decide +kernel⟩
abbrev rX5_letArise : Room := { frames := 1, cells := 0, slots := 0, locals := 24 }
abbrev wX5_letArise : Cond := .code yX5_letArise cX5_letArise 5 none
theorem wv_X5_letArise : hw_WV RX5 yX5_letArise wX5_letArise 1 := ⟨⟨hw_in 569 (by decide +kernel) rfl, hw_in 568 (by decide +kernel) rfl, hw_in 16 (by decide +kernel) rfl, hw_in 58 (by decide +kernel) rfl⟩, by decide +kernel⟩
abbrev rX5_takeBack : Room := { frames := 1, cells := 0, slots := 0, locals := 24 }
abbrev wX5_takeBack : Cond := .code yX5_takeBack cX5_takeBack 7 none
theorem wv_X5_takeBack : hw_WV RX5 yX5_takeBack wX5_takeBack 3 := ⟨⟨hw_in 487 (by decide +kernel) rfl, hw_in 486 (by decide +kernel) rfl, hw_in 5 (by decide +kernel) rfl, hw_in 58 (by decide +kernel) rfl⟩, by decide +kernel⟩
abbrev rX5_goBack : Room := { frames := 2, cells := 0, slots := 0, locals := 50 }
abbrev wX5_goBack : Cond := .code yX5_goBack cX5_goBack 2 none
theorem wv_X5_goBack : hw_WV RX5 yX5_goBack wX5_goBack 1 := ⟨⟨hw_in 611 (by decide +kernel) rfl, hw_in 610 (by decide +kernel) rfl, hw_in 20 (by decide +kernel) rfl, hw_in 58 (by decide +kernel) rfl⟩, by decide +kernel⟩
abbrev rX5_endForward : Room := { frames := 1, cells := 0, slots := 0, locals := 20 }
abbrev wX5_endForward : Cond := .code yX5_endForward cX5_endForward 2 none
theorem wv_X5_endForward : hw_WV RX5 yX5_endForward wX5_endForward 1 := ⟨⟨hw_in 573 (by decide +kernel) rfl, hw_in 572 (by decide +kernel) rfl, hw_in 17 (by decide +kernel) rfl, hw_in 58 (by decide +kernel) rfl⟩, by decide +kernel⟩
abbrev rX5_loseOrdersFrom : Room := { frames := 2, cells := 0, slots := 0, locals := 50 }
abbrev wX5_loseOrdersFrom : Cond := .code yX5_loseOrdersFrom cX5_loseOrdersFrom 5 (some .int)
theorem wv_X5_loseOrdersFrom : hw_WV RX5 yX5_loseOrdersFrom wX5_loseOrdersFrom 1 := ⟨⟨hw_in 479 (by decide +kernel) rfl, hw_in 478 (by decide +kernel) rfl, hw_in 4 (by decide +kernel) rfl, hw_in 58 (by decide +kernel) rfl⟩, by decide +kernel⟩
abbrev rX5_avoid : Room := { frames := 6, cells := 0, slots := 0, locals := 139 }
abbrev wX5_avoid : Cond := .code yX5_avoid cX5_avoid 3 none
theorem wv_X5_avoid : hw_WV RX5 yX5_avoid wX5_avoid 1 := ⟨⟨hw_in 493 (by decide +kernel) rfl, hw_in 492 (by decide +kernel) rfl, hw_in 6 (by decide +kernel) rfl, hw_in 58 (by decide +kernel) rfl⟩, by decide +kernel⟩
abbrev rX5_lookAnew : Room := { frames := 5, cells := 0, slots := 0, locals := 115 }
abbrev wX5_lookAnew : Cond := .code yX5_lookAnew cX5_lookAnew 5 none
theorem wv_X5_lookAnew : hw_WV RX5 yX5_lookAnew wX5_lookAnew 1 := ⟨⟨hw_in 501 (by decide +kernel) rfl, hw_in 500 (by decide +kernel) rfl, hw_in 7 (by decide +kernel) rfl, hw_in 58 (by decide +kernel) rfl⟩, by decide +kernel⟩
abbrev rX5_tellTown : Room := { frames := 0, cells := 0, slots := 0, locals := 0 }
abbrev wX5_tellTown : Cond := .code yX5_tellTown cX5_tellTown 3 none
theorem wv_X5_tellTown : hw_WV RX5 yX5_tellTown wX5_tellTown 2 := ⟨⟨hw_in 600 (by decide +kernel) rfl, hw_in 599 (by decide +kernel) rfl, hw_in 19 (by decide +kernel) rfl, hw_in 58 (by decide +kernel) rfl⟩, by decide +kernel⟩
abbrev rX5_passHour : Room := { frames := 4, cells := 0, slots := 0, locals := 92 }
abbrev wX5_passHour : Cond := .code yX5_passHour cX5_passHour 1 none
theorem wv_X5_passHour : hw_WV RX5 yX5_passHour wX5_passHour 0 := ⟨⟨hw_in 622 (by decide +kernel) rfl, hw_in 621 (by decide +kernel) rfl, hw_in 21 (by decide +kernel) rfl, hw_in 58 (by decide +kernel) rfl⟩, by decide +kernel⟩
abbrev rX5_endRaids : Room := { frames := 0, cells := 0, slots := 0, locals := 0 }
abbrev wX5_endRaids : Cond := .code yX5_endRaids cX5_endRaids 2 none
theorem wv_X5_endRaids : hw_WV RX5 yX5_endRaids wX5_endRaids 0 := ⟨⟨hw_in 626 (by decide +kernel) rfl, hw_in 625 (by decide +kernel) rfl, hw_in 22 (by decide +kernel) rfl, hw_in 58 (by decide +kernel) rfl⟩, by decide +kernel⟩
abbrev rX5_moveMessages : Room := { frames := 1, cells := 0, slots := 0, locals := 24 }
abbrev wX5_moveMessages : Cond := .code yX5_moveMessages cX5_moveMessages 5 none
theorem wv_X5_moveMessages : hw_WV RX5 yX5_moveMessages wX5_moveMessages 0 := ⟨⟨hw_in 630 (by decide +kernel) rfl, hw_in 629 (by decide +kernel) rfl, hw_in 23 (by decide +kernel) rfl, hw_in 58 (by decide +kernel) rfl⟩, by decide +kernel⟩
abbrev rX5_sendBackOld : Room := { frames := 3, cells := 0, slots := 0, locals := 71 }
abbrev wX5_sendBackOld : Cond := .code yX5_sendBackOld cX5_sendBackOld 2 none
theorem wv_X5_sendBackOld : hw_WV RX5 yX5_sendBackOld wX5_sendBackOld 0 := ⟨⟨hw_in 634 (by decide +kernel) rfl, hw_in 633 (by decide +kernel) rfl, hw_in 24 (by decide +kernel) rfl, hw_in 58 (by decide +kernel) rfl⟩, by decide +kernel⟩
abbrev rX5_giveBack : Room := { frames := 1, cells := 0, slots := 0, locals := 20 }
abbrev wX5_giveBack : Cond := .code yX5_giveBack cX5_giveBack 4 none
theorem wv_X5_giveBack : hw_WV RX5 yX5_giveBack wX5_giveBack 0 := ⟨⟨hw_in 642 (by decide +kernel) rfl, hw_in 641 (by decide +kernel) rfl, hw_in 25 (by decide +kernel) rfl, hw_in 58 (by decide +kernel) rfl⟩, by decide +kernel⟩
abbrev rX5_receiveCouriers : Room := { frames := 2, cells := 0, slots := 0, locals := 48 }
abbrev wX5_receiveCouriers : Cond := .code yX5_receiveCouriers cX5_receiveCouriers 3 none
theorem wv_X5_receiveCouriers : hw_WV RX5 yX5_receiveCouriers wX5_receiveCouriers 0 := ⟨⟨hw_in 646 (by decide +kernel) rfl, hw_in 645 (by decide +kernel) rfl, hw_in 26 (by decide +kernel) rfl, hw_in 58 (by decide +kernel) rfl⟩, by decide +kernel⟩
abbrev rX5_clearRing : Room := { frames := 2, cells := 0, slots := 0, locals := 48 }
abbrev wX5_clearRing : Cond := .code yX5_clearRing cX5_clearRing 6 (some .long)
theorem wv_X5_clearRing : hw_WV RX5 yX5_clearRing wX5_clearRing 3 := ⟨⟨hw_in 307 (by decide +kernel) rfl, hw_in 306 (by decide +kernel) rfl, hw_in 0 (by decide +kernel) rfl, hw_in 58 (by decide +kernel) rfl⟩, by decide +kernel⟩
abbrev rX5_worthOf : Room := { frames := 0, cells := 0, slots := 0, locals := 0 }
abbrev wX5_worthOf : Cond := .code yX5_worthOf cX5_worthOf 5 (some .long)
theorem wv_X5_worthOf : hw_WV RX5 yX5_worthOf wX5_worthOf 1 := ⟨⟨hw_in 699 (by decide +kernel) rfl, hw_in 698 (by decide +kernel) rfl, hw_in 27 (by decide +kernel) rfl, hw_in 58 (by decide +kernel) rfl⟩, by decide +kernel⟩
abbrev rX5_namedByBook : Room := { frames := 0, cells := 0, slots := 0, locals := 0 }
abbrev wX5_namedByBook : Cond := .code yX5_namedByBook cX5_namedByBook 4 (some .int)
theorem wv_X5_namedByBook : hw_WV RX5 yX5_namedByBook wX5_namedByBook 1 := ⟨⟨hw_in 330 (by decide +kernel) rfl, hw_in 329 (by decide +kernel) rfl, hw_in 1 (by decide +kernel) rfl, hw_in 58 (by decide +kernel) rfl⟩, by decide +kernel⟩
abbrev rX5_sumGiven : Room := { frames := 0, cells := 0, slots := 0, locals := 0 }
abbrev wX5_sumGiven : Cond := .code yX5_sumGiven cX5_sumGiven 4 (some .long)
theorem wv_X5_sumGiven : hw_WV RX5 yX5_sumGiven wX5_sumGiven 0 := ⟨⟨hw_in 753 (by decide +kernel) rfl, hw_in 752 (by decide +kernel) rfl, hw_in 28 (by decide +kernel) rfl, hw_in 58 (by decide +kernel) rfl⟩, by decide +kernel⟩
abbrev rX5_sumGivenIn : Room := { frames := 0, cells := 0, slots := 0, locals := 0 }
abbrev wX5_sumGivenIn : Cond := .code yX5_sumGivenIn cX5_sumGivenIn 5 (some .long)
theorem wv_X5_sumGivenIn : hw_WV RX5 yX5_sumGivenIn wX5_sumGivenIn 1 := ⟨⟨hw_in 761 (by decide +kernel) rfl, hw_in 760 (by decide +kernel) rfl, hw_in 30 (by decide +kernel) rfl, hw_in 58 (by decide +kernel) rfl⟩, by decide +kernel⟩
abbrev rX5_sumPaidOut : Room := { frames := 0, cells := 0, slots := 0, locals := 0 }
abbrev wX5_sumPaidOut : Cond := .code yX5_sumPaidOut cX5_sumPaidOut 4 (some .long)
theorem wv_X5_sumPaidOut : hw_WV RX5 yX5_sumPaidOut wX5_sumPaidOut 0 := ⟨⟨hw_in 757 (by decide +kernel) rfl, hw_in 756 (by decide +kernel) rfl, hw_in 29 (by decide +kernel) rfl, hw_in 58 (by decide +kernel) rfl⟩, by decide +kernel⟩
abbrev rX5_sumRobbed : Room := { frames := 0, cells := 0, slots := 0, locals := 0 }
abbrev wX5_sumRobbed : Cond := .code yX5_sumRobbed cX5_sumRobbed 4 (some .long)
theorem wv_X5_sumRobbed : hw_WV RX5 yX5_sumRobbed wX5_sumRobbed 0 := ⟨⟨hw_in 765 (by decide +kernel) rfl, hw_in 764 (by decide +kernel) rfl, hw_in 31 (by decide +kernel) rfl, hw_in 58 (by decide +kernel) rfl⟩, by decide +kernel⟩
abbrev rX5_sumOnRoad : Room := { frames := 0, cells := 0, slots := 0, locals := 0 }
abbrev wX5_sumOnRoad : Cond := .code yX5_sumOnRoad cX5_sumOnRoad 4 (some .long)
theorem wv_X5_sumOnRoad : hw_WV RX5 yX5_sumOnRoad wX5_sumOnRoad 0 := ⟨⟨hw_in 769 (by decide +kernel) rfl, hw_in 768 (by decide +kernel) rfl, hw_in 32 (by decide +kernel) rfl, hw_in 58 (by decide +kernel) rfl⟩, by decide +kernel⟩
abbrev rX5_sumCash : Room := { frames := 0, cells := 0, slots := 0, locals := 0 }
abbrev wX5_sumCash : Cond := .code yX5_sumCash cX5_sumCash 4 (some .long)
theorem wv_X5_sumCash : hw_WV RX5 yX5_sumCash wX5_sumCash 0 := ⟨⟨hw_in 773 (by decide +kernel) rfl, hw_in 772 (by decide +kernel) rfl, hw_in 33 (by decide +kernel) rfl, hw_in 58 (by decide +kernel) rfl⟩, by decide +kernel⟩
abbrev rX6_init : Room := { frames := 1, cells := 0, slots := 0, locals := 16 }
abbrev wX6_init : Cond := .code yX6_init cX6_init 1 none
theorem wi_X6_init : hw_WI yX6_init wX6_init 0 := ⟨⟨hw_in 778 (by decide +kernel) rfl, hw_in 777 (by decide +kernel) rfl, hw_in 64 (by decide +kernel) rfl⟩, by decide +kernel⟩
abbrev rX6_thrown : Room := { frames := 0, cells := 0, slots := 0, locals := 0 }
abbrev wX6_thrown : Cond := .code yX6_thrown cX6_thrown 1 (some .int)
theorem wv_X6_thrown : hw_WV RX6 yX6_thrown wX6_thrown 0 := ⟨⟨hw_in 899 (by decide +kernel) rfl, hw_in 897 (by decide +kernel) rfl, hw_in 898 (by decide +kernel) rfl, hw_in 64 (by decide +kernel) rfl⟩, by decide +kernel⟩
abbrev rX6_goesWell : Room := { frames := 0, cells := 0, slots := 0, locals := 0 }
abbrev wX6_goesWell : Cond := .code yX6_goesWell cX6_goesWell 2 (some .boolean)
theorem wv_X6_goesWell : hw_WV RX6 yX6_goesWell wX6_goesWell 1 := ⟨⟨hw_in 910 (by decide +kernel) rfl, hw_in 909 (by decide +kernel) rfl, hw_in 34 (by decide +kernel) rfl, hw_in 64 (by decide +kernel) rfl⟩, by decide +kernel⟩
abbrev rX6_in : Room := { frames := 0, cells := 0, slots := 0, locals := 0 }
abbrev wX6_in : Cond := .code yX6_in cX6_in 3 (some .boolean)
theorem ws_X6_in : hw_WS yX6_in wX6_in 3 := ⟨⟨hw_in 906 (by decide +kernel) rfl, hw_in 905 (by decide +kernel) rfl, hw_in 64 (by decide +kernel) rfl⟩, by decide +kernel⟩
abbrev rX6_isBroker : Room := { frames := 1, cells := 0, slots := 0, locals := 22 }
abbrev wX6_isBroker : Cond := .code yX6_isBroker cX6_isBroker 2 (some .boolean)
theorem wv_X6_isBroker : hw_WV RX6 yX6_isBroker wX6_isBroker 1 := ⟨⟨hw_in 918 (by decide +kernel) rfl, hw_in 917 (by decide +kernel) rfl, hw_in 35 (by decide +kernel) rfl, hw_in 64 (by decide +kernel) rfl⟩, by decide +kernel⟩
abbrev rX6_areBrokers : Room := { frames := 2, cells := 0, slots := 0, locals := 43 }
abbrev wX6_areBrokers : Cond := .code yX6_areBrokers cX6_areBrokers 3 (some .boolean)
theorem wv_X6_areBrokers : hw_WV RX6 yX6_areBrokers wX6_areBrokers 2 := ⟨⟨hw_in 926 (by decide +kernel) rfl, hw_in 925 (by decide +kernel) rfl, hw_in 36 (by decide +kernel) rfl, hw_in 64 (by decide +kernel) rfl⟩, by decide +kernel⟩
abbrev rX6_broker : Room := { frames := 1, cells := 0, slots := 0, locals := 22 }
abbrev wX6_broker : Cond := .code yX6_broker cX6_broker 5 (some .int)
theorem wv_X6_broker : hw_WV RX6 yX6_broker wX6_broker 3 := ⟨⟨hw_in 903 (by decide +kernel) rfl, hw_in 901 (by decide +kernel) rfl, hw_in 902 (by decide +kernel) rfl, hw_in 64 (by decide +kernel) rfl⟩, by decide +kernel⟩
abbrev rX6_rate : Room := { frames := 2, cells := 0, slots := 0, locals := 43 }
abbrev wX6_rate : Cond := .code yX6_rate cX6_rate 5 (some .int)
theorem wv_X6_rate : hw_WV RX6 yX6_rate wX6_rate 2 := ⟨⟨hw_in 914 (by decide +kernel) rfl, hw_in 912 (by decide +kernel) rfl, hw_in 913 (by decide +kernel) rfl, hw_in 64 (by decide +kernel) rfl⟩, by decide +kernel⟩
abbrev rX6_trust : Room := { frames := 3, cells := 0, slots := 0, locals := 65 }
abbrev wX6_trust : Cond := .code yX6_trust cX6_trust 6 none
theorem wv_X6_trust : hw_WV RX6 yX6_trust wX6_trust 4 := ⟨⟨hw_in 922 (by decide +kernel) rfl, hw_in 920 (by decide +kernel) rfl, hw_in 921 (by decide +kernel) rfl, hw_in 64 (by decide +kernel) rfl⟩, by decide +kernel⟩
abbrev rX6_festival : Room := { frames := 0, cells := 0, slots := 0, locals := 0 }
abbrev wX6_festival : Cond := .code yX6_festival cX6_festival 1 (some .boolean)
theorem wv_X6_festival : hw_WV RX6 yX6_festival wX6_festival 0 := ⟨⟨hw_in 930 (by decide +kernel) rfl, hw_in 928 (by decide +kernel) rfl, hw_in 929 (by decide +kernel) rfl, hw_in 64 (by decide +kernel) rfl⟩, by decide +kernel⟩
abbrev rX6_owe : Room := { frames := 0, cells := 0, slots := 0, locals := 0 }
abbrev wX6_owe : Cond := .code yX6_owe cX6_owe 6 none
theorem wv_X6_owe : hw_WV RX6 yX6_owe wX6_owe 4 := ⟨⟨hw_in 950 (by decide +kernel) rfl, hw_in 949 (by decide +kernel) rfl, hw_in 40 (by decide +kernel) rfl, hw_in 64 (by decide +kernel) rfl⟩, by decide +kernel⟩
abbrev rX6_oweBoth : Room := { frames := 1, cells := 0, slots := 0, locals := 25 }
abbrev wX6_oweBoth : Cond := .code yX6_oweBoth cX6_oweBoth 5 none
theorem wv_X6_oweBoth : hw_WV RX6 yX6_oweBoth wX6_oweBoth 3 := ⟨⟨hw_in 1029 (by decide +kernel) rfl, hw_in 1028 (by decide +kernel) rfl, hw_in 55 (by decide +kernel) rfl, hw_in 64 (by decide +kernel) rfl⟩, by decide +kernel⟩
abbrev rX6_oweOn : Room := { frames := 1, cells := 0, slots := 0, locals := 25 }
abbrev wX6_oweOn : Cond := .code yX6_oweOn cX6_oweOn 8 none
theorem wv_X6_oweOn : hw_WV RX6 yX6_oweOn wX6_oweOn 3 := ⟨⟨hw_in 946 (by decide +kernel) rfl, hw_in 945 (by decide +kernel) rfl, hw_in 39 (by decide +kernel) rfl, hw_in 64 (by decide +kernel) rfl⟩, by decide +kernel⟩
abbrev rX6_takeBack : Room := { frames := 2, cells := 0, slots := 0, locals := 52 }
abbrev wX6_takeBack : Cond := .code yX6_takeBack cX6_takeBack 4 none
theorem wv_X6_takeBack : hw_WV RX6 yX6_takeBack wX6_takeBack 2 := ⟨⟨hw_in 942 (by decide +kernel) rfl, hw_in 941 (by decide +kernel) rfl, hw_in 38 (by decide +kernel) rfl, hw_in 64 (by decide +kernel) rfl⟩, by decide +kernel⟩
abbrev rX6_feeOf : Room := { frames := 0, cells := 0, slots := 0, locals := 0 }
abbrev wX6_feeOf : Cond := .code yX6_feeOf cX6_feeOf 3 (some .long)
theorem wv_X6_feeOf : hw_WV RX6 yX6_feeOf wX6_feeOf 2 := ⟨⟨hw_in 974 (by decide +kernel) rfl, hw_in 973 (by decide +kernel) rfl, hw_in 46 (by decide +kernel) rfl, hw_in 64 (by decide +kernel) rfl⟩, by decide +kernel⟩
abbrev rX6_limitOf : Room := { frames := 0, cells := 0, slots := 0, locals := 0 }
abbrev wX6_limitOf : Cond := .code yX6_limitOf cX6_limitOf 4 (some .long)
theorem wv_X6_limitOf : hw_WV RX6 yX6_limitOf wX6_limitOf 2 := ⟨⟨hw_in 984 (by decide +kernel) rfl, hw_in 983 (by decide +kernel) rfl, hw_in 48 (by decide +kernel) rfl, hw_in 64 (by decide +kernel) rfl⟩, by decide +kernel⟩
abbrev rX6_canOwe : Room := { frames := 1, cells := 0, slots := 0, locals := 23 }
abbrev wX6_canOwe : Cond := .code yX6_canOwe cX6_canOwe 4 (some .boolean)
theorem wv_X6_canOwe : hw_WV RX6 yX6_canOwe wX6_canOwe 3 := ⟨⟨hw_in 980 (by decide +kernel) rfl, hw_in 979 (by decide +kernel) rfl, hw_in 47 (by decide +kernel) rfl, hw_in 64 (by decide +kernel) rfl⟩, by decide +kernel⟩
abbrev rX6_findWays : Room := { frames := 2, cells := 0, slots := 0, locals := 46 }
abbrev wX6_findWays : Cond := .code yX6_findWays cX6_findWays 10 none
theorem wv_X6_findWays : hw_WV RX6 yX6_findWays wX6_findWays 3 := ⟨⟨hw_in 970 (by decide +kernel) rfl, hw_in 969 (by decide +kernel) rfl, hw_in 45 (by decide +kernel) rfl, hw_in 64 (by decide +kernel) rfl⟩, by decide +kernel⟩
abbrev rX6_findWay : Room := { frames := 3, cells := 0, slots := 0, locals := 75 }
abbrev wX6_findWay : Cond := .code yX6_findWay cX6_findWay 10 (some .int)
theorem wv_X6_findWay : hw_WV RX6 yX6_findWay wX6_findWay 4 := ⟨⟨hw_in 966 (by decide +kernel) rfl, hw_in 965 (by decide +kernel) rfl, hw_in 44 (by decide +kernel) rfl, hw_in 64 (by decide +kernel) rfl⟩, by decide +kernel⟩
abbrev rX6_lay : Room := { frames := 2, cells := 0, slots := 0, locals := 52 }
abbrev wX6_lay : Cond := .code yX6_lay cX6_lay 5 none
theorem wv_X6_lay : hw_WV RX6 yX6_lay wX6_lay 3 := ⟨⟨hw_in 989 (by decide +kernel) rfl, hw_in 988 (by decide +kernel) rfl, hw_in 49 (by decide +kernel) rfl, hw_in 64 (by decide +kernel) rfl⟩, by decide +kernel⟩
abbrev rX6_firstOf : Room := { frames := 0, cells := 0, slots := 0, locals := 0 }
abbrev wX6_firstOf : Cond := .code yX6_firstOf cX6_firstOf 2 (some .int)
theorem wv_X6_firstOf : hw_WV RX6 yX6_firstOf wX6_firstOf 1 := ⟨⟨hw_in 938 (by decide +kernel) rfl, hw_in 937 (by decide +kernel) rfl, hw_in 37 (by decide +kernel) rfl, hw_in 64 (by decide +kernel) rfl⟩, by decide +kernel⟩
abbrev rX6_goBack : Room := { frames := 3, cells := 0, slots := 0, locals := 75 }
abbrev wX6_goBack : Cond := .code yX6_goBack cX6_goBack 2 none
theorem wv_X6_goBack : hw_WV RX6 yX6_goBack wX6_goBack 1 := ⟨⟨hw_in 993 (by decide +kernel) rfl, hw_in 992 (by decide +kernel) rfl, hw_in 50 (by decide +kernel) rfl, hw_in 64 (by decide +kernel) rfl⟩, by decide +kernel⟩
abbrev rX6_placeOn : Room := { frames := 0, cells := 0, slots := 0, locals := 0 }
abbrev wX6_placeOn : Cond := .code yX6_placeOn cX6_placeOn 5 (some .int)
theorem wv_X6_placeOn : hw_WV RX6 yX6_placeOn wX6_placeOn 2 := ⟨⟨hw_in 958 (by decide +kernel) rfl, hw_in 957 (by decide +kernel) rfl, hw_in 42 (by decide +kernel) rfl, hw_in 64 (by decide +kernel) rfl⟩, by decide +kernel⟩
abbrev rX6_goElsewhere : Room := { frames := 4, cells := 0, slots := 0, locals := 104 }
abbrev wX6_goElsewhere : Cond := .code yX6_goElsewhere cX6_goElsewhere 10 none
theorem wv_X6_goElsewhere : hw_WV RX6 yX6_goElsewhere wX6_goElsewhere 1 := ⟨⟨hw_in 962 (by decide +kernel) rfl, hw_in 961 (by decide +kernel) rfl, hw_in 43 (by decide +kernel) rfl, hw_in 64 (by decide +kernel) rfl⟩, by decide +kernel⟩
abbrev rX6_failsFor : Room := { frames := 5, cells := 0, slots := 0, locals := 133 }
abbrev wX6_failsFor : Cond := .code yX6_failsFor cX6_failsFor 3 none
theorem wv_X6_failsFor : hw_WV RX6 yX6_failsFor wX6_failsFor 1 := ⟨⟨hw_in 954 (by decide +kernel) rfl, hw_in 953 (by decide +kernel) rfl, hw_in 41 (by decide +kernel) rfl, hw_in 64 (by decide +kernel) rfl⟩, by decide +kernel⟩
abbrev rX6_breakWord : Room := { frames := 6, cells := 0, slots := 0, locals := 155 }
abbrev wX6_breakWord : Cond := .code yX6_breakWord cX6_breakWord 5 (some .int)
theorem wv_X6_breakWord : hw_WV RX6 yX6_breakWord wX6_breakWord 1 := ⟨⟨hw_in 934 (by decide +kernel) rfl, hw_in 932 (by decide +kernel) rfl, hw_in 933 (by decide +kernel) rfl, hw_in 64 (by decide +kernel) rfl⟩, by decide +kernel⟩
abbrev rX6_raid : Room := { frames := 6, cells := 0, slots := 0, locals := 155 }
abbrev wX6_raid : Cond := .code yX6_raid cX6_raid 4 (some .int)
theorem wv_X6_raid : hw_WV RX6 yX6_raid wX6_raid 1 := ⟨⟨hw_in 997 (by decide +kernel) rfl, hw_in 995 (by decide +kernel) rfl, hw_in 996 (by decide +kernel) rfl, hw_in 64 (by decide +kernel) rfl⟩, by decide +kernel⟩
abbrev rX6_order : Room := { frames := 4, cells := 0, slots := 0, locals := 104 }
abbrev wX6_order : Cond := .code yX6_order cX6_order 10 (some .int)
theorem wv_X6_order : hw_WV RX6 yX6_order wX6_order 5 := ⟨⟨hw_in 1001 (by decide +kernel) rfl, hw_in 999 (by decide +kernel) rfl, hw_in 1000 (by decide +kernel) rfl, hw_in 64 (by decide +kernel) rfl⟩, by decide +kernel⟩
abbrev rX6_isOrder : Room := { frames := 1, cells := 0, slots := 0, locals := 22 }
abbrev wX6_isOrder : Cond := .code yX6_isOrder cX6_isOrder 2 (some .boolean)
theorem wv_X6_isOrder : hw_WV RX6 yX6_isOrder wX6_isOrder 1 := ⟨⟨hw_in 1009 (by decide +kernel) rfl, hw_in 1008 (by decide +kernel) rfl, hw_in 51 (by decide +kernel) rfl, hw_in 64 (by decide +kernel) rfl⟩, by decide +kernel⟩
abbrev rX6_fetch : Room := { frames := 4, cells := 0, slots := 0, locals := 96 }
abbrev wX6_fetch : Cond := .code yX6_fetch cX6_fetch 6 (some .int)
theorem wv_X6_fetch : hw_WV RX6 yX6_fetch wX6_fetch 2 := ⟨⟨hw_in 1005 (by decide +kernel) rfl, hw_in 1003 (by decide +kernel) rfl, hw_in 1004 (by decide +kernel) rfl, hw_in 64 (by decide +kernel) rfl⟩, by decide +kernel⟩
abbrev rX6_move : Room := { frames := 1, cells := 0, slots := 0, locals := 25 }
abbrev wX6_move : Cond := .code yX6_move cX6_move 3 none
theorem wv_X6_move : hw_WV RX6 yX6_move wX6_move 1 := ⟨⟨hw_in 1021 (by decide +kernel) rfl, hw_in 1020 (by decide +kernel) rfl, hw_in 53 (by decide +kernel) rfl, hw_in 64 (by decide +kernel) rfl⟩, by decide +kernel⟩
abbrev rX6_comeAll : Room := { frames := 2, cells := 0, slots := 0, locals := 49 }
abbrev wX6_comeAll : Cond := .code yX6_comeAll cX6_comeAll 2 none
theorem wv_X6_comeAll : hw_WV RX6 yX6_comeAll wX6_comeAll 0 := ⟨⟨hw_in 1025 (by decide +kernel) rfl, hw_in 1024 (by decide +kernel) rfl, hw_in 54 (by decide +kernel) rfl, hw_in 64 (by decide +kernel) rfl⟩, by decide +kernel⟩
abbrev rX6_nextHour : Room := { frames := 4, cells := 0, slots := 0, locals := 96 }
abbrev wX6_nextHour : Cond := .code yX6_nextHour cX6_nextHour 3 none
theorem wv_X6_nextHour : hw_WV RX6 yX6_nextHour wX6_nextHour 0 := ⟨⟨hw_in 1017 (by decide +kernel) rfl, hw_in 1016 (by decide +kernel) rfl, hw_in 52 (by decide +kernel) rfl, hw_in 64 (by decide +kernel) rfl⟩, by decide +kernel⟩
abbrev rX6_pass : Room := { frames := 5, cells := 0, slots := 0, locals := 118 }
abbrev wX6_pass : Cond := .code yX6_pass cX6_pass 3 (some .int)
theorem wv_X6_pass : hw_WV RX6 yX6_pass wX6_pass 1 := ⟨⟨hw_in 1013 (by decide +kernel) rfl, hw_in 1011 (by decide +kernel) rfl, hw_in 1012 (by decide +kernel) rfl, hw_in 64 (by decide +kernel) rfl⟩, by decide +kernel⟩
abbrev rX6_pay : Room := { frames := 3, cells := 0, slots := 0, locals := 65 }
abbrev wX6_pay : Cond := .code yX6_pay cX6_pay 7 (some .int)
theorem wv_X6_pay : hw_WV RX6 yX6_pay wX6_pay 3 := ⟨⟨hw_in 1033 (by decide +kernel) rfl, hw_in 1031 (by decide +kernel) rfl, hw_in 1032 (by decide +kernel) rfl, hw_in 64 (by decide +kernel) rfl⟩, by decide +kernel⟩
abbrev rX6_deliver : Room := { frames := 3, cells := 0, slots := 0, locals := 65 }
abbrev wX6_deliver : Cond := .code yX6_deliver cX6_deliver 7 (some .int)
theorem wv_X6_deliver : hw_WV RX6 yX6_deliver wX6_deliver 3 := ⟨⟨hw_in 1037 (by decide +kernel) rfl, hw_in 1035 (by decide +kernel) rfl, hw_in 1036 (by decide +kernel) rfl, hw_in 64 (by decide +kernel) rfl⟩, by decide +kernel⟩
abbrev rX6_courier : Room := { frames := 3, cells := 0, slots := 0, locals := 65 }
abbrev wX6_courier : Cond := .code yX6_courier cX6_courier 8 (some .int)
theorem wv_X6_courier : hw_WV RX6 yX6_courier wX6_courier 4 := ⟨⟨hw_in 1041 (by decide +kernel) rfl, hw_in 1039 (by decide +kernel) rfl, hw_in 1040 (by decide +kernel) rfl, hw_in 64 (by decide +kernel) rfl⟩, by decide +kernel⟩
abbrev rX6_rob : Room := { frames := 1, cells := 0, slots := 0, locals := 22 }
abbrev wX6_rob : Cond := .code yX6_rob cX6_rob 3 (some .int)
theorem wv_X6_rob : hw_WV RX6 yX6_rob wX6_rob 1 := ⟨⟨hw_in 1045 (by decide +kernel) rfl, hw_in 1043 (by decide +kernel) rfl, hw_in 1044 (by decide +kernel) rfl, hw_in 64 (by decide +kernel) rfl⟩, by decide +kernel⟩
abbrev rX6_clear : Room := { frames := 2, cells := 0, slots := 0, locals := 49 }
abbrev wX6_clear : Cond := .code yX6_clear cX6_clear 12 (some .long)
theorem wv_X6_clear : hw_WV RX6 yX6_clear wX6_clear 3 := ⟨⟨hw_in 1053 (by decide +kernel) rfl, hw_in 1052 (by decide +kernel) rfl, hw_in 56 (by decide +kernel) rfl, hw_in 64 (by decide +kernel) rfl⟩, by decide +kernel⟩
abbrev rX6_ring : Room := { frames := 3, cells := 0, slots := 0, locals := 80 }
abbrev wX6_ring : Cond := .code yX6_ring cX6_ring 6 (some .long)
theorem wv_X6_ring : hw_WV RX6 yX6_ring wX6_ring 0 := ⟨⟨hw_in 1049 (by decide +kernel) rfl, hw_in 1047 (by decide +kernel) rfl, hw_in 1048 (by decide +kernel) rfl, hw_in 64 (by decide +kernel) rfl⟩, by decide +kernel⟩
abbrev rX6_law : Room := { frames := 1, cells := 0, slots := 0, locals := 22 }
abbrev wX6_law : Cond := .code yX6_law cX6_law 4 (some .int)
theorem wv_X6_law : hw_WV RX6 yX6_law wX6_law 2 := ⟨⟨hw_in 1057 (by decide +kernel) rfl, hw_in 1055 (by decide +kernel) rfl, hw_in 1056 (by decide +kernel) rfl, hw_in 64 (by decide +kernel) rfl⟩, by decide +kernel⟩
abbrev rX6_list : Room := { frames := 1, cells := 0, slots := 0, locals := 22 }
abbrev wX6_list : Cond := .code yX6_list cX6_list 2 (some .boolean)
theorem wv_X6_list : hw_WV RX6 yX6_list wX6_list 1 := ⟨⟨hw_in 1061 (by decide +kernel) rfl, hw_in 1059 (by decide +kernel) rfl, hw_in 1060 (by decide +kernel) rfl, hw_in 64 (by decide +kernel) rfl⟩, by decide +kernel⟩
abbrev rX6_brokerOf : Room := { frames := 2, cells := 0, slots := 0, locals := 43 }
abbrev wX6_brokerOf : Cond := .code yX6_brokerOf cX6_brokerOf 7 (some .long)
theorem wv_X6_brokerOf : hw_WV RX6 yX6_brokerOf wX6_brokerOf 2 := ⟨⟨hw_in 1065 (by decide +kernel) rfl, hw_in 1063 (by decide +kernel) rfl, hw_in 1064 (by decide +kernel) rfl, hw_in 64 (by decide +kernel) rfl⟩, by decide +kernel⟩
abbrev rX6_debt : Room := { frames := 3, cells := 0, slots := 0, locals := 65 }
abbrev wX6_debt : Cond := .code yX6_debt cX6_debt 4 (some .long)
theorem wv_X6_debt : hw_WV RX6 yX6_debt wX6_debt 3 := ⟨⟨hw_in 1069 (by decide +kernel) rfl, hw_in 1067 (by decide +kernel) rfl, hw_in 1068 (by decide +kernel) rfl, hw_in 64 (by decide +kernel) rfl⟩, by decide +kernel⟩
abbrev rX6_agree : Room := { frames := 3, cells := 0, slots := 0, locals := 65 }
abbrev wX6_agree : Cond := .code yX6_agree cX6_agree 3 (some .boolean)
theorem wv_X6_agree : hw_WV RX6 yX6_agree wX6_agree 2 := ⟨⟨hw_in 1073 (by decide +kernel) rfl, hw_in 1071 (by decide +kernel) rfl, hw_in 1072 (by decide +kernel) rfl, hw_in 64 (by decide +kernel) rfl⟩, by decide +kernel⟩
abbrev rX6_way : Room := { frames := 4, cells := 0, slots := 0, locals := 104 }
abbrev wX6_way : Cond := .code yX6_way cX6_way 7 (some .int)
theorem wv_X6_way : hw_WV RX6 yX6_way wX6_way 4 := ⟨⟨hw_in 1077 (by decide +kernel) rfl, hw_in 1075 (by decide +kernel) rfl, hw_in 1076 (by decide +kernel) rfl, hw_in 64 (by decide +kernel) rfl⟩, by decide +kernel⟩
abbrev rX6_wayOf : Room := { frames := 2, cells := 0, slots := 0, locals := 43 }
abbrev wX6_wayOf : Cond := .code yX6_wayOf cX6_wayOf 3 (some .int)
theorem wv_X6_wayOf : hw_WV RX6 yX6_wayOf wX6_wayOf 2 := ⟨⟨hw_in 1081 (by decide +kernel) rfl, hw_in 1079 (by decide +kernel) rfl, hw_in 1080 (by decide +kernel) rfl, hw_in 64 (by decide +kernel) rfl⟩, by decide +kernel⟩
abbrev rX6_orderOf : Room := { frames := 2, cells := 0, slots := 0, locals := 43 }
abbrev wX6_orderOf : Cond := .code yX6_orderOf cX6_orderOf 4 (some .int)
theorem wv_X6_orderOf : hw_WV RX6 yX6_orderOf wX6_orderOf 2 := ⟨⟨hw_in 1085 (by decide +kernel) rfl, hw_in 1083 (by decide +kernel) rfl, hw_in 1084 (by decide +kernel) rfl, hw_in 64 (by decide +kernel) rfl⟩, by decide +kernel⟩
abbrev rX6_inquiry : Room := { frames := 0, cells := 0, slots := 0, locals := 0 }
abbrev wX6_inquiry : Cond := .code yX6_inquiry cX6_inquiry 5 (some .int)
theorem wv_X6_inquiry : hw_WV RX6 yX6_inquiry wX6_inquiry 0 := ⟨⟨hw_in 1089 (by decide +kernel) rfl, hw_in 1087 (by decide +kernel) rfl, hw_in 1088 (by decide +kernel) rfl, hw_in 64 (by decide +kernel) rfl⟩, by decide +kernel⟩
abbrev rX6_sum : Room := { frames := 1, cells := 0, slots := 0, locals := 22 }
abbrev wX6_sum : Cond := .code yX6_sum cX6_sum 5 (some .long)
theorem wv_X6_sum : hw_WV RX6 yX6_sum wX6_sum 1 := ⟨⟨hw_in 1093 (by decide +kernel) rfl, hw_in 1091 (by decide +kernel) rfl, hw_in 1092 (by decide +kernel) rfl, hw_in 64 (by decide +kernel) rfl⟩, by decide +kernel⟩
abbrev rX0_init : Room := { frames := 1, cells := 0, slots := 0, locals := 16 }
abbrev wX0_init : Cond := .code yX0_init cX0_init 1 none
theorem wi_X0_init : hw_WI yX0_init wX0_init 0 := ⟨⟨hw_in 85 (by decide +kernel) rfl, hw_in 84 (by decide +kernel) rfl, hw_in 59 (by decide +kernel) rfl⟩, by decide +kernel⟩
abbrev rX0_isGood : Room := { frames := 0, cells := 0, slots := 0, locals := 0 }
abbrev wX0_isGood : Cond := .code yX0_isGood cX0_isGood 1 (some .boolean)
theorem wv_X0_isGood : hw_WV RX0 yX0_isGood wX0_isGood 0 := ⟨⟨hw_in 509 (by decide +kernel) rfl, hw_in 507 (by decide +kernel) rfl, hw_in 508 (by decide +kernel) rfl, hw_in 59 (by decide +kernel) rfl⟩, by decide +kernel⟩
abbrev rX0_limitNow : Room := { frames := 0, cells := 0, slots := 0, locals := 0 }
abbrev wX0_limitNow : Cond := .code yX0_limitNow cX0_limitNow 3 (some .int)
theorem wv_X0_limitNow : hw_WV RX0 yX0_limitNow wX0_limitNow 2 := ⟨⟨hw_in 549 (by decide +kernel) rfl, hw_in 547 (by decide +kernel) rfl, hw_in 548 (by decide +kernel) rfl, hw_in 59 (by decide +kernel) rfl⟩, by decide +kernel⟩
abbrev rX1_init : Room := { frames := 1, cells := 0, slots := 0, locals := 16 }
abbrev wX1_init : Cond := .code yX1_init cX1_init 1 none
theorem wi_X1_init : hw_WI yX1_init wX1_init 0 := ⟨⟨hw_in 167 (by decide +kernel) rfl, hw_in 166 (by decide +kernel) rfl, hw_in 61 (by decide +kernel) rfl⟩, by decide +kernel⟩
abbrev rX2_init : Room := { frames := 1, cells := 0, slots := 0, locals := 16 }
abbrev wX2_init : Cond := .code yX2_init cX2_init 1 none
theorem wi_X2_init : hw_WI yX2_init wX2_init 0 := ⟨⟨hw_in 192 (by decide +kernel) rfl, hw_in 191 (by decide +kernel) rfl, hw_in 62 (by decide +kernel) rfl⟩, by decide +kernel⟩
abbrev rX2_change : Room := { frames := 0, cells := 0, slots := 0, locals := 0 }
abbrev wX2_change : Cond := .code yX2_change cX2_change 5 none
theorem wv_X2_change : hw_WV RX2 yX2_change wX2_change 3 := ⟨⟨hw_in 318 (by decide +kernel) rfl, hw_in 316 (by decide +kernel) rfl, hw_in 317 (by decide +kernel) rfl, hw_in 62 (by decide +kernel) rfl⟩, by decide +kernel⟩
abbrev rX2_write : Room := { frames := 0, cells := 0, slots := 0, locals := 0 }
abbrev wX2_write : Cond := .code yX2_write cX2_write 5 none
theorem wv_X2_write : hw_WV RX2 yX2_write wX2_write 3 := ⟨⟨hw_in 322 (by decide +kernel) rfl, hw_in 320 (by decide +kernel) rfl, hw_in 321 (by decide +kernel) rfl, hw_in 62 (by decide +kernel) rfl⟩, by decide +kernel⟩
abbrev rX2_changeKnown : Room := { frames := 1, cells := 0, slots := 0, locals := 24 }
abbrev wX2_changeKnown : Cond := .code yX2_changeKnown cX2_changeKnown 5 none
theorem wv_X2_changeKnown : hw_WV RX2 yX2_changeKnown wX2_changeKnown 3 := ⟨⟨hw_in 314 (by decide +kernel) rfl, hw_in 312 (by decide +kernel) rfl, hw_in 313 (by decide +kernel) rfl, hw_in 62 (by decide +kernel) rfl⟩, by decide +kernel⟩
abbrev rX3_init : Room := { frames := 1, cells := 0, slots := 0, locals := 16 }
abbrev wX3_init : Cond := .code yX3_init cX3_init 1 none
theorem wi_X3_init : hw_WI yX3_init wX3_init 0 := ⟨⟨hw_in 123 (by decide +kernel) rfl, hw_in 122 (by decide +kernel) rfl, hw_in 60 (by decide +kernel) rfl⟩, by decide +kernel⟩
abbrev rX3_firstBroker : Room := { frames := 0, cells := 0, slots := 0, locals := 0 }
abbrev wX3_firstBroker : Cond := .code yX3_firstBroker cX3_firstBroker 1 (some .int)
theorem wv_X3_firstBroker : hw_WV RX3 yX3_firstBroker wX3_firstBroker 0 := ⟨⟨hw_in 483 (by decide +kernel) rfl, hw_in 481 (by decide +kernel) rfl, hw_in 482 (by decide +kernel) rfl, hw_in 60 (by decide +kernel) rfl⟩, by decide +kernel⟩
abbrev rX3_lastBroker : Room := { frames := 0, cells := 0, slots := 0, locals := 0 }
abbrev wX3_lastBroker : Cond := .code yX3_lastBroker cX3_lastBroker 1 (some .int)
theorem wv_X3_lastBroker : hw_WV RX3 yX3_lastBroker wX3_lastBroker 0 := ⟨⟨hw_in 517 (by decide +kernel) rfl, hw_in 515 (by decide +kernel) rfl, hw_in 516 (by decide +kernel) rfl, hw_in 60 (by decide +kernel) rfl⟩, by decide +kernel⟩
abbrev rX3_brokerAt : Room := { frames := 0, cells := 0, slots := 0, locals := 0 }
abbrev wX3_brokerAt : Cond := .code yX3_brokerAt cX3_brokerAt 2 (some .int)
theorem wv_X3_brokerAt : hw_WV RX3 yX3_brokerAt wX3_brokerAt 1 := ⟨⟨hw_in 735 (by decide +kernel) rfl, hw_in 733 (by decide +kernel) rfl, hw_in 734 (by decide +kernel) rfl, hw_in 60 (by decide +kernel) rfl⟩, by decide +kernel⟩
abbrev rX3_isOpen : Room := { frames := 0, cells := 0, slots := 0, locals := 0 }
abbrev wX3_isOpen : Cond := .code yX3_isOpen cX3_isOpen 1 (some .boolean)
theorem wv_X3_isOpen : hw_WV RX3 yX3_isOpen wX3_isOpen 0 := ⟨⟨hw_in 638 (by decide +kernel) rfl, hw_in 636 (by decide +kernel) rfl, hw_in 637 (by decide +kernel) rfl, hw_in 60 (by decide +kernel) rfl⟩, by decide +kernel⟩
abbrev rX3_isStillToPass : Room := { frames := 0, cells := 0, slots := 0, locals := 0 }
abbrev wX3_isStillToPass : Cond := .code yX3_isStillToPass cX3_isStillToPass 3 (some .boolean)
theorem wv_X3_isStillToPass : hw_WV RX3 yX3_isStillToPass wX3_isStillToPass 1 := ⟨⟨hw_in 497 (by decide +kernel) rfl, hw_in 495 (by decide +kernel) rfl, hw_in 496 (by decide +kernel) rfl, hw_in 60 (by decide +kernel) rfl⟩, by decide +kernel⟩
abbrev rX3_takeWay : Room := { frames := 0, cells := 0, slots := 0, locals := 0 }
abbrev wX3_takeWay : Cond := .code yX3_takeWay cX3_takeWay 5 none
theorem wv_X3_takeWay : hw_WV RX3 yX3_takeWay wX3_takeWay 2 := ⟨⟨hw_in 565 (by decide +kernel) rfl, hw_in 563 (by decide +kernel) rfl, hw_in 564 (by decide +kernel) rfl, hw_in 60 (by decide +kernel) rfl⟩, by decide +kernel⟩
abbrev rX4_init : Room := { frames := 1, cells := 0, slots := 0, locals := 16 }
abbrev wX4_init : Cond := .code yX4_init cX4_init 3 none
theorem wi_X4_init : hw_WI yX4_init wX4_init 2 := ⟨⟨hw_in 211 (by decide +kernel) rfl, hw_in 210 (by decide +kernel) rfl, hw_in 63 (by decide +kernel) rfl⟩, by decide +kernel⟩
abbrev rX4_start : Room := { frames := 1, cells := 0, slots := 0, locals := 20 }
abbrev wX4_start : Cond := .code yX4_start cX4_start 5 none
theorem wv_X4_start : hw_WV RX4 yX4_start wX4_start 3 := ⟨⟨hw_in 505 (by decide +kernel) rfl, hw_in 503 (by decide +kernel) rfl, hw_in 504 (by decide +kernel) rfl, hw_in 63 (by decide +kernel) rfl⟩, by decide +kernel⟩
abbrev rX4_leaveOut : Room := { frames := 0, cells := 0, slots := 0, locals := 0 }
abbrev wX4_leaveOut : Cond := .code yX4_leaveOut cX4_leaveOut 2 none
theorem wv_X4_leaveOut : hw_WV RX4 yX4_leaveOut wX4_leaveOut 1 := ⟨⟨hw_in 513 (by decide +kernel) rfl, hw_in 511 (by decide +kernel) rfl, hw_in 512 (by decide +kernel) rfl, hw_in 63 (by decide +kernel) rfl⟩, by decide +kernel⟩
abbrev rX4_find : Room := { frames := 4, cells := 0, slots := 0, locals := 92 }
abbrev wX4_find : Cond := .code yX4_find cX4_find 4 (some .boolean)
theorem wv_X4_find : hw_WV RX4 yX4_find wX4_find 2 := ⟨⟨hw_in 521 (by decide +kernel) rfl, hw_in 519 (by decide +kernel) rfl, hw_in 520 (by decide +kernel) rfl, hw_in 63 (by decide +kernel) rfl⟩, by decide +kernel⟩
abbrev rX4_allFees : Room := { frames := 0, cells := 0, slots := 0, locals := 0 }
abbrev wX4_allFees : Cond := .code yX4_allFees cX4_allFees 1 (some .int)
theorem wv_X4_allFees : hw_WV RX4 yX4_allFees wX4_allFees 0 := ⟨⟨hw_in 596 (by decide +kernel) rfl, hw_in 594 (by decide +kernel) rfl, hw_in 595 (by decide +kernel) rfl, hw_in 63 (by decide +kernel) rfl⟩, by decide +kernel⟩
abbrev rX4_feesBehindFirst : Room := { frames := 0, cells := 0, slots := 0, locals := 0 }
abbrev wX4_feesBehindFirst : Cond := .code yX4_feesBehindFirst cX4_feesBehindFirst 1 (some .int)
theorem wv_X4_feesBehindFirst : hw_WV RX4 yX4_feesBehindFirst wX4_feesBehindFirst 0 := ⟨⟨hw_in 561 (by decide +kernel) rfl, hw_in 559 (by decide +kernel) rfl, hw_in 560 (by decide +kernel) rfl, hw_in 63 (by decide +kernel) rfl⟩, by decide +kernel⟩
abbrev rX4_feeOf : Room := { frames := 0, cells := 0, slots := 0, locals := 0 }
abbrev wX4_feeOf : Cond := .code yX4_feeOf cX4_feeOf 2 (some .int)
theorem wv_X4_feeOf : hw_WV RX4 yX4_feeOf wX4_feeOf 1 := ⟨⟨hw_in 529 (by decide +kernel) rfl, hw_in 528 (by decide +kernel) rfl, hw_in 9 (by decide +kernel) rfl, hw_in 63 (by decide +kernel) rfl⟩, by decide +kernel⟩
abbrev rX4_canOwe : Room := { frames := 1, cells := 0, slots := 0, locals := 22 }
abbrev wX4_canOwe : Cond := .code yX4_canOwe cX4_canOwe 5 (some .boolean)
theorem wv_X4_canOwe : hw_WV RX4 yX4_canOwe wX4_canOwe 2 := ⟨⟨hw_in 545 (by decide +kernel) rfl, hw_in 544 (by decide +kernel) rfl, hw_in 13 (by decide +kernel) rfl, hw_in 63 (by decide +kernel) rfl⟩, by decide +kernel⟩
abbrev rX4_startAt : Room := { frames := 1, cells := 0, slots := 0, locals := 21 }
abbrev wX4_startAt : Cond := .code yX4_startAt cX4_startAt 3 none
theorem wv_X4_startAt : hw_WV RX4 yX4_startAt wX4_startAt 1 := ⟨⟨hw_in 525 (by decide +kernel) rfl, hw_in 524 (by decide +kernel) rfl, hw_in 8 (by decide +kernel) rfl, hw_in 63 (by decide +kernel) rfl⟩, by decide +kernel⟩
abbrev rX4_bestUnsettled : Room := { frames := 1, cells := 0, slots := 0, locals := 23 }
abbrev wX4_bestUnsettled : Cond := .code yX4_bestUnsettled cX4_bestUnsettled 3 (some .int)
theorem wv_X4_bestUnsettled : hw_WV RX4 yX4_bestUnsettled wX4_bestUnsettled 0 := ⟨⟨hw_in 537 (by decide +kernel) rfl, hw_in 536 (by decide +kernel) rfl, hw_in 11 (by decide +kernel) rfl, hw_in 63 (by decide +kernel) rfl⟩, by decide +kernel⟩
abbrev rX4_isBetter : Room := { frames := 0, cells := 0, slots := 0, locals := 0 }
abbrev wX4_isBetter : Cond := .code yX4_isBetter cX4_isBetter 4 (some .boolean)
theorem wv_X4_isBetter : hw_WV RX4 yX4_isBetter wX4_isBetter 3 := ⟨⟨hw_in 541 (by decide +kernel) rfl, hw_in 540 (by decide +kernel) rfl, hw_in 12 (by decide +kernel) rfl, hw_in 63 (by decide +kernel) rfl⟩, by decide +kernel⟩
abbrev rX4_reachFromBest : Room := { frames := 2, cells := 0, slots := 0, locals := 46 }
abbrev wX4_reachFromBest : Cond := .code yX4_reachFromBest cX4_reachFromBest 5 none
theorem wv_X4_reachFromBest : hw_WV RX4 yX4_reachFromBest wX4_reachFromBest 0 := ⟨⟨hw_in 533 (by decide +kernel) rfl, hw_in 532 (by decide +kernel) rfl, hw_in 10 (by decide +kernel) rfl, hw_in 63 (by decide +kernel) rfl⟩, by decide +kernel⟩
abbrev rX4_follow : Room := { frames := 3, cells := 0, slots := 0, locals := 68 }
abbrev wX4_follow : Cond := .code yX4_follow cX4_follow 5 none
theorem wv_X4_follow : hw_WV RX4 yX4_follow wX4_follow 2 := ⟨⟨hw_in 553 (by decide +kernel) rfl, hw_in 552 (by decide +kernel) rfl, hw_in 14 (by decide +kernel) rfl, hw_in 63 (by decide +kernel) rfl⟩, by decide +kernel⟩
abbrev rX4_nextOf : Room := { frames := 2, cells := 0, slots := 0, locals := 46 }
abbrev wX4_nextOf : Cond := .code yX4_nextOf cX4_nextOf 3 (some .int)
theorem wv_X4_nextOf : hw_WV RX4 yX4_nextOf wX4_nextOf 1 := ⟨⟨hw_in 557 (by decide +kernel) rfl, hw_in 556 (by decide +kernel) rfl, hw_in 15 (by decide +kernel) rfl, hw_in 63 (by decide +kernel) rfl⟩, by decide +kernel⟩
abbrev rL_broker : Room := { frames := 8, cells := 4, slots := 24, locals := 128 }
abbrev rL_rate : Room := { frames := 8, cells := 2, slots := 12, locals := 127 }
abbrev rL_trust : Room := { frames := 9, cells := 4, slots := 24, locals := 149 }
abbrev rL_breakWord : Room := { frames := 8, cells := 2, slots := 12, locals := 183 }
abbrev rL_raid : Room := { frames := 8, cells := 2, slots := 12, locals := 185 }
abbrev rL_order : Room := { frames := 9, cells := 9, slots := 54, locals := 164 }
abbrev rL_fetch : Room := { frames := 8, cells := 4, slots := 24, locals := 128 }
abbrev rL_pass : Room := { frames := 8, cells := 1, slots := 6, locals := 134 }
abbrev rL_pay : Room := { frames := 9, cells := 7, slots := 42, locals := 148 }
abbrev rL_deliver : Room := { frames := 9, cells := 6, slots := 36, locals := 148 }
abbrev rL_courier : Room := { frames := 9, cells := 7, slots := 42, locals := 150 }
abbrev rL_rob : Room := { frames := 8, cells := 2, slots := 12, locals := 124 }
abbrev rL_law : Room := { frames := 8, cells := 2, slots := 12, locals := 126 }
abbrev rL_list : Room := { frames := 8, cells := 1, slots := 6, locals := 124 }
abbrev rL_brokerOf : Room := { frames := 8, cells := 2, slots := 12, locals := 126 }
abbrev rL_debt : Room := { frames := 8, cells := 2, slots := 12, locals := 126 }
abbrev rL_agree : Room := { frames := 8, cells := 2, slots := 12, locals := 125 }
abbrev rL_way : Room := { frames := 9, cells := 5, slots := 30, locals := 162 }
abbrev rL_wayOf : Room := { frames := 8, cells := 2, slots := 12, locals := 125 }
abbrev rL_orderOf : Room := { frames := 8, cells := 2, slots := 12, locals := 127 }
abbrev rL_sum : Room := { frames := 8, cells := 1, slots := 6, locals := 125 }
theorem ml_L_89 : Cond.methodLink RL 89 yX5_init ∈ hw_TB := hw_in 74 (by decide +kernel) rfl
theorem ml_X5_39 : Cond.methodLink RX5 39 yX4_init ∈ hw_TB := hw_in 209 (by decide +kernel) rfl
theorem ml_L_111 : Cond.methodLink RL 111 yX5_festival ∈ hw_TB := hw_in 296 (by decide +kernel) rfl
theorem ml_L_146 : Cond.methodLink RL 146 yX5_ring ∈ hw_TB := hw_in 300 (by decide +kernel) rfl
theorem ml_X5_198 : Cond.methodLink RX5 198 yX5_clearRing ∈ hw_TB := hw_in 304 (by decide +kernel) rfl
theorem ml_X5_175 : Cond.methodLink RX5 175 yX2_changeKnown ∈ hw_TB := hw_in 311 (by decide +kernel) rfl
theorem ml_X2_19 : Cond.methodLink RX2 19 yX2_change ∈ hw_TB := hw_in 315 (by decide +kernel) rfl
theorem ml_X2_23 : Cond.methodLink RX2 23 yX2_write ∈ hw_TB := hw_in 319 (by decide +kernel) rfl
theorem ml_L_176 : Cond.methodLink RL 176 yX5_inquiry ∈ hw_TB := hw_in 323 (by decide +kernel) rfl
theorem ml_X5_224 : Cond.methodLink RX5 224 yX5_namedByBook ∈ hw_TB := hw_in 327 (by decide +kernel) rfl
theorem ml_L_93 : Cond.methodLink RL 93 yL_broker ∈ hw_TB := hw_in 331 (by decide +kernel) rfl
theorem ml_L_7 : Cond.methodLink RL 7 yX5_broker ∈ hw_TB := hw_in 337 (by decide +kernel) rfl
theorem ml_X5_58 : Cond.methodLink RX5 58 yX5_requireIndex ∈ hw_TB := hw_in 341 (by decide +kernel) rfl
theorem ml_X5_62 : Cond.methodLink RX5 62 yX5_requireRange ∈ hw_TB := hw_in 412 (by decide +kernel) rfl
theorem ml_X5_70 : Cond.methodLink RX5 70 yX5_requireState ∈ hw_TB := hw_in 431 (by decide +kernel) rfl
theorem ml_L_103 : Cond.methodLink RL 103 yL_rate ∈ hw_TB := hw_in 450 (by decide +kernel) rfl
theorem ml_L_19 : Cond.methodLink RL 19 yX5_rate ∈ hw_TB := hw_in 453 (by decide +kernel) rfl
theorem ml_L_107 : Cond.methodLink RL 107 yL_trust ∈ hw_TB := hw_in 457 (by decide +kernel) rfl
theorem ml_L_23 : Cond.methodLink RL 23 yX5_trust ∈ hw_TB := hw_in 460 (by decide +kernel) rfl
theorem ml_X5_84 : Cond.methodLink RX5 84 yX5_requireTwoBrokers ∈ hw_TB := hw_in 464 (by decide +kernel) rfl
theorem ml_L_116 : Cond.methodLink RL 116 yL_breakWord ∈ hw_TB := hw_in 469 (by decide +kernel) rfl
theorem ml_L_27 : Cond.methodLink RL 27 yX5_breakWord ∈ hw_TB := hw_in 472 (by decide +kernel) rfl
theorem ml_X5_100 : Cond.methodLink RX5 100 yX5_loseOrdersFrom ∈ hw_TB := hw_in 476 (by decide +kernel) rfl
theorem ml_X5_294 : Cond.methodLink RX5 294 yX3_firstBroker ∈ hw_TB := hw_in 480 (by decide +kernel) rfl
theorem ml_X5_287 : Cond.methodLink RX5 287 yX5_takeBack ∈ hw_TB := hw_in 484 (by decide +kernel) rfl
theorem ml_X5_281 : Cond.methodLink RX5 281 yX2_change ∈ hw_TB := hw_in 488 (by decide +kernel) rfl
theorem ml_X5_284 : Cond.methodLink RX5 284 yX2_write ∈ hw_TB := hw_in 489 (by decide +kernel) rfl
theorem ml_X5_104 : Cond.methodLink RX5 104 yX5_avoid ∈ hw_TB := hw_in 490 (by decide +kernel) rfl
theorem ml_X5_297 : Cond.methodLink RX5 297 yX3_isStillToPass ∈ hw_TB := hw_in 494 (by decide +kernel) rfl
theorem ml_X5_301 : Cond.methodLink RX5 301 yX5_lookAnew ∈ hw_TB := hw_in 498 (by decide +kernel) rfl
theorem ml_X5_267 : Cond.methodLink RX5 267 yX4_start ∈ hw_TB := hw_in 502 (by decide +kernel) rfl
theorem ml_X4_47 : Cond.methodLink RX4 47 yX0_isGood ∈ hw_TB := hw_in 506 (by decide +kernel) rfl
theorem ml_X5_304 : Cond.methodLink RX5 304 yX4_leaveOut ∈ hw_TB := hw_in 510 (by decide +kernel) rfl
theorem ml_X5_159 : Cond.methodLink RX5 159 yX3_lastBroker ∈ hw_TB := hw_in 514 (by decide +kernel) rfl
theorem ml_X5_271 : Cond.methodLink RX5 271 yX4_find ∈ hw_TB := hw_in 518 (by decide +kernel) rfl
theorem ml_X4_56 : Cond.methodLink RX4 56 yX4_startAt ∈ hw_TB := hw_in 522 (by decide +kernel) rfl
theorem ml_X4_80 : Cond.methodLink RX4 80 yX4_feeOf ∈ hw_TB := hw_in 526 (by decide +kernel) rfl
theorem ml_X4_60 : Cond.methodLink RX4 60 yX4_reachFromBest ∈ hw_TB := hw_in 530 (by decide +kernel) rfl
theorem ml_X4_88 : Cond.methodLink RX4 88 yX4_bestUnsettled ∈ hw_TB := hw_in 534 (by decide +kernel) rfl
theorem ml_X4_84 : Cond.methodLink RX4 84 yX4_isBetter ∈ hw_TB := hw_in 538 (by decide +kernel) rfl
theorem ml_X4_92 : Cond.methodLink RX4 92 yX4_canOwe ∈ hw_TB := hw_in 542 (by decide +kernel) rfl
theorem ml_X4_76 : Cond.methodLink RX4 76 yX0_limitNow ∈ hw_TB := hw_in 546 (by decide +kernel) rfl
theorem ml_X4_63 : Cond.methodLink RX4 63 yX4_follow ∈ hw_TB := hw_in 550 (by decide +kernel) rfl
theorem ml_X4_96 : Cond.methodLink RX4 96 yX4_nextOf ∈ hw_TB := hw_in 554 (by decide +kernel) rfl
theorem ml_X5_307 : Cond.methodLink RX5 307 yX4_feesBehindFirst ∈ hw_TB := hw_in 558 (by decide +kernel) rfl
theorem ml_X5_148 : Cond.methodLink RX5 148 yX3_takeWay ∈ hw_TB := hw_in 562 (by decide +kernel) rfl
theorem ml_X5_152 : Cond.methodLink RX5 152 yX5_letArise ∈ hw_TB := hw_in 566 (by decide +kernel) rfl
theorem ml_X5_291 : Cond.methodLink RX5 291 yX5_endForward ∈ hw_TB := hw_in 570 (by decide +kernel) rfl
theorem ml_L_120 : Cond.methodLink RL 120 yL_raid ∈ hw_TB := hw_in 574 (by decide +kernel) rfl
theorem ml_L_31 : Cond.methodLink RL 31 yX5_raid ∈ hw_TB := hw_in 577 (by decide +kernel) rfl
theorem ml_X5_108 : Cond.methodLink RX5 108 yX0_isGood ∈ hw_TB := hw_in 581 (by decide +kernel) rfl
theorem ml_L_123 : Cond.methodLink RL 123 yL_order ∈ hw_TB := hw_in 582 (by decide +kernel) rfl
theorem ml_L_34 : Cond.methodLink RL 34 yX5_order ∈ hw_TB := hw_in 585 (by decide +kernel) rfl
theorem ml_X5_127 : Cond.methodLink RX5 127 yX5_findWay ∈ hw_TB := hw_in 589 (by decide +kernel) rfl
theorem ml_X5_141 : Cond.methodLink RX5 141 yX4_allFees ∈ hw_TB := hw_in 593 (by decide +kernel) rfl
theorem ml_X5_156 : Cond.methodLink RX5 156 yX5_tellTown ∈ hw_TB := hw_in 597 (by decide +kernel) rfl
theorem ml_L_127 : Cond.methodLink RL 127 yL_fetch ∈ hw_TB := hw_in 601 (by decide +kernel) rfl
theorem ml_L_38 : Cond.methodLink RL 38 yX5_fetch ∈ hw_TB := hw_in 604 (by decide +kernel) rfl
theorem ml_X5_165 : Cond.methodLink RX5 165 yX5_goBack ∈ hw_TB := hw_in 608 (by decide +kernel) rfl
theorem ml_L_130 : Cond.methodLink RL 130 yL_pass ∈ hw_TB := hw_in 612 (by decide +kernel) rfl
theorem ml_L_41 : Cond.methodLink RL 41 yX5_pass ∈ hw_TB := hw_in 615 (by decide +kernel) rfl
theorem ml_X5_168 : Cond.methodLink RX5 168 yX5_passHour ∈ hw_TB := hw_in 619 (by decide +kernel) rfl
theorem ml_X5_310 : Cond.methodLink RX5 310 yX5_endRaids ∈ hw_TB := hw_in 623 (by decide +kernel) rfl
theorem ml_X5_313 : Cond.methodLink RX5 313 yX5_moveMessages ∈ hw_TB := hw_in 627 (by decide +kernel) rfl
theorem ml_X5_316 : Cond.methodLink RX5 316 yX5_sendBackOld ∈ hw_TB := hw_in 631 (by decide +kernel) rfl
theorem ml_X5_325 : Cond.methodLink RX5 325 yX3_isOpen ∈ hw_TB := hw_in 635 (by decide +kernel) rfl
theorem ml_X5_319 : Cond.methodLink RX5 319 yX5_giveBack ∈ hw_TB := hw_in 639 (by decide +kernel) rfl
theorem ml_X5_322 : Cond.methodLink RX5 322 yX5_receiveCouriers ∈ hw_TB := hw_in 643 (by decide +kernel) rfl
theorem ml_L_133 : Cond.methodLink RL 133 yL_pay ∈ hw_TB := hw_in 647 (by decide +kernel) rfl
theorem ml_L_44 : Cond.methodLink RL 44 yX5_pay ∈ hw_TB := hw_in 650 (by decide +kernel) rfl
theorem ml_L_136 : Cond.methodLink RL 136 yL_deliver ∈ hw_TB := hw_in 654 (by decide +kernel) rfl
theorem ml_L_47 : Cond.methodLink RL 47 yX5_deliver ∈ hw_TB := hw_in 657 (by decide +kernel) rfl
theorem ml_L_139 : Cond.methodLink RL 139 yL_courier ∈ hw_TB := hw_in 661 (by decide +kernel) rfl
theorem ml_L_50 : Cond.methodLink RL 50 yX5_courier ∈ hw_TB := hw_in 664 (by decide +kernel) rfl
theorem ml_L_143 : Cond.methodLink RL 143 yL_rob ∈ hw_TB := hw_in 668 (by decide +kernel) rfl
theorem ml_L_54 : Cond.methodLink RL 54 yX5_rob ∈ hw_TB := hw_in 671 (by decide +kernel) rfl
theorem ml_L_151 : Cond.methodLink RL 151 yL_law ∈ hw_TB := hw_in 675 (by decide +kernel) rfl
theorem ml_L_57 : Cond.methodLink RL 57 yX5_law ∈ hw_TB := hw_in 678 (by decide +kernel) rfl
theorem ml_L_154 : Cond.methodLink RL 154 yL_list ∈ hw_TB := hw_in 682 (by decide +kernel) rfl
theorem ml_L_60 : Cond.methodLink RL 60 yX5_list ∈ hw_TB := hw_in 685 (by decide +kernel) rfl
theorem ml_L_157 : Cond.methodLink RL 157 yL_brokerOf ∈ hw_TB := hw_in 689 (by decide +kernel) rfl
theorem ml_L_64 : Cond.methodLink RL 64 yX5_brokerOf ∈ hw_TB := hw_in 692 (by decide +kernel) rfl
theorem ml_X5_202 : Cond.methodLink RX5 202 yX5_worthOf ∈ hw_TB := hw_in 696 (by decide +kernel) rfl
theorem ml_L_160 : Cond.methodLink RL 160 yL_debt ∈ hw_TB := hw_in 700 (by decide +kernel) rfl
theorem ml_L_68 : Cond.methodLink RL 68 yX5_debt ∈ hw_TB := hw_in 703 (by decide +kernel) rfl
theorem ml_L_164 : Cond.methodLink RL 164 yL_agree ∈ hw_TB := hw_in 707 (by decide +kernel) rfl
theorem ml_L_72 : Cond.methodLink RL 72 yX5_agree ∈ hw_TB := hw_in 710 (by decide +kernel) rfl
theorem ml_L_167 : Cond.methodLink RL 167 yL_way ∈ hw_TB := hw_in 714 (by decide +kernel) rfl
theorem ml_L_76 : Cond.methodLink RL 76 yX5_way ∈ hw_TB := hw_in 717 (by decide +kernel) rfl
theorem ml_X5_209 : Cond.methodLink RX5 209 yX5_requirePlace ∈ hw_TB := hw_in 721 (by decide +kernel) rfl
theorem ml_L_170 : Cond.methodLink RL 170 yL_wayOf ∈ hw_TB := hw_in 725 (by decide +kernel) rfl
theorem ml_L_79 : Cond.methodLink RL 79 yX5_wayOf ∈ hw_TB := hw_in 728 (by decide +kernel) rfl
theorem ml_X5_218 : Cond.methodLink RX5 218 yX3_brokerAt ∈ hw_TB := hw_in 732 (by decide +kernel) rfl
theorem ml_L_173 : Cond.methodLink RL 173 yL_orderOf ∈ hw_TB := hw_in 736 (by decide +kernel) rfl
theorem ml_L_82 : Cond.methodLink RL 82 yX5_orderOf ∈ hw_TB := hw_in 739 (by decide +kernel) rfl
theorem ml_L_180 : Cond.methodLink RL 180 yL_sum ∈ hw_TB := hw_in 743 (by decide +kernel) rfl
theorem ml_L_85 : Cond.methodLink RL 85 yX5_sum ∈ hw_TB := hw_in 746 (by decide +kernel) rfl
theorem ml_X5_227 : Cond.methodLink RX5 227 yX5_sumGiven ∈ hw_TB := hw_in 750 (by decide +kernel) rfl
theorem ml_X5_231 : Cond.methodLink RX5 231 yX5_sumPaidOut ∈ hw_TB := hw_in 754 (by decide +kernel) rfl
theorem ml_X5_234 : Cond.methodLink RX5 234 yX5_sumGivenIn ∈ hw_TB := hw_in 758 (by decide +kernel) rfl
theorem ml_X5_237 : Cond.methodLink RX5 237 yX5_sumRobbed ∈ hw_TB := hw_in 762 (by decide +kernel) rfl
theorem ml_X5_240 : Cond.methodLink RX5 240 yX5_sumOnRoad ∈ hw_TB := hw_in 766 (by decide +kernel) rfl
theorem ml_X5_243 : Cond.methodLink RX5 243 yX5_sumCash ∈ hw_TB := hw_in 770 (by decide +kernel) rfl
theorem ml_L_92 : Cond.methodLink RL 92 yX6_init ∈ hw_TB := hw_in 776 (by decide +kernel) rfl
theorem ml_L_99 : Cond.methodLink RL 99 yX6_thrown ∈ hw_TB := hw_in 896 (by decide +kernel) rfl
theorem ml_L_98 : Cond.methodLink RL 98 yX6_broker ∈ hw_TB := hw_in 900 (by decide +kernel) rfl
theorem ml_X6_116 : Cond.methodLink RX6 116 yX6_in ∈ hw_TB := hw_in 904 (by decide +kernel) rfl
theorem ml_X6_124 : Cond.methodLink RX6 124 yX6_goesWell ∈ hw_TB := hw_in 907 (by decide +kernel) rfl
theorem ml_L_106 : Cond.methodLink RL 106 yX6_rate ∈ hw_TB := hw_in 911 (by decide +kernel) rfl
theorem ml_X6_120 : Cond.methodLink RX6 120 yX6_isBroker ∈ hw_TB := hw_in 915 (by decide +kernel) rfl
theorem ml_L_110 : Cond.methodLink RL 110 yX6_trust ∈ hw_TB := hw_in 919 (by decide +kernel) rfl
theorem ml_X6_127 : Cond.methodLink RX6 127 yX6_areBrokers ∈ hw_TB := hw_in 923 (by decide +kernel) rfl
theorem ml_L_115 : Cond.methodLink RL 115 yX6_festival ∈ hw_TB := hw_in 927 (by decide +kernel) rfl
theorem ml_L_119 : Cond.methodLink RL 119 yX6_breakWord ∈ hw_TB := hw_in 931 (by decide +kernel) rfl
theorem ml_X6_166 : Cond.methodLink RX6 166 yX6_firstOf ∈ hw_TB := hw_in 935 (by decide +kernel) rfl
theorem ml_X6_162 : Cond.methodLink RX6 162 yX6_takeBack ∈ hw_TB := hw_in 939 (by decide +kernel) rfl
theorem ml_X6_139 : Cond.methodLink RX6 139 yX6_oweOn ∈ hw_TB := hw_in 943 (by decide +kernel) rfl
theorem ml_X6_135 : Cond.methodLink RX6 135 yX6_owe ∈ hw_TB := hw_in 947 (by decide +kernel) rfl
theorem ml_X6_191 : Cond.methodLink RX6 191 yX6_failsFor ∈ hw_TB := hw_in 951 (by decide +kernel) rfl
theorem ml_X6_184 : Cond.methodLink RX6 184 yX6_placeOn ∈ hw_TB := hw_in 955 (by decide +kernel) rfl
theorem ml_X6_188 : Cond.methodLink RX6 188 yX6_goElsewhere ∈ hw_TB := hw_in 959 (by decide +kernel) rfl
theorem ml_X6_170 : Cond.methodLink RX6 170 yX6_findWay ∈ hw_TB := hw_in 963 (by decide +kernel) rfl
theorem ml_X6_159 : Cond.methodLink RX6 159 yX6_findWays ∈ hw_TB := hw_in 967 (by decide +kernel) rfl
theorem ml_X6_153 : Cond.methodLink RX6 153 yX6_feeOf ∈ hw_TB := hw_in 971 (by decide +kernel) rfl
theorem ml_X6_156 : Cond.methodLink RX6 156 yX6_canOwe ∈ hw_TB := hw_in 977 (by decide +kernel) rfl
theorem ml_X6_149 : Cond.methodLink RX6 149 yX6_limitOf ∈ hw_TB := hw_in 981 (by decide +kernel) rfl
theorem ml_X6_174 : Cond.methodLink RX6 174 yX6_lay ∈ hw_TB := hw_in 986 (by decide +kernel) rfl
theorem ml_X6_177 : Cond.methodLink RX6 177 yX6_goBack ∈ hw_TB := hw_in 990 (by decide +kernel) rfl
theorem ml_L_122 : Cond.methodLink RL 122 yX6_raid ∈ hw_TB := hw_in 994 (by decide +kernel) rfl
theorem ml_L_126 : Cond.methodLink RL 126 yX6_order ∈ hw_TB := hw_in 998 (by decide +kernel) rfl
theorem ml_L_129 : Cond.methodLink RL 129 yX6_fetch ∈ hw_TB := hw_in 1002 (by decide +kernel) rfl
theorem ml_X6_197 : Cond.methodLink RX6 197 yX6_isOrder ∈ hw_TB := hw_in 1006 (by decide +kernel) rfl
theorem ml_L_132 : Cond.methodLink RL 132 yX6_pass ∈ hw_TB := hw_in 1010 (by decide +kernel) rfl
theorem ml_X6_213 : Cond.methodLink RX6 213 yX6_nextHour ∈ hw_TB := hw_in 1014 (by decide +kernel) rfl
theorem ml_X6_207 : Cond.methodLink RX6 207 yX6_move ∈ hw_TB := hw_in 1018 (by decide +kernel) rfl
theorem ml_X6_210 : Cond.methodLink RX6 210 yX6_comeAll ∈ hw_TB := hw_in 1022 (by decide +kernel) rfl
theorem ml_X6_203 : Cond.methodLink RX6 203 yX6_oweBoth ∈ hw_TB := hw_in 1026 (by decide +kernel) rfl
theorem ml_L_135 : Cond.methodLink RL 135 yX6_pay ∈ hw_TB := hw_in 1030 (by decide +kernel) rfl
theorem ml_L_138 : Cond.methodLink RL 138 yX6_deliver ∈ hw_TB := hw_in 1034 (by decide +kernel) rfl
theorem ml_L_142 : Cond.methodLink RL 142 yX6_courier ∈ hw_TB := hw_in 1038 (by decide +kernel) rfl
theorem ml_L_145 : Cond.methodLink RL 145 yX6_rob ∈ hw_TB := hw_in 1042 (by decide +kernel) rfl
theorem ml_L_150 : Cond.methodLink RL 150 yX6_ring ∈ hw_TB := hw_in 1046 (by decide +kernel) rfl
theorem ml_X6_216 : Cond.methodLink RX6 216 yX6_clear ∈ hw_TB := hw_in 1050 (by decide +kernel) rfl
theorem ml_L_153 : Cond.methodLink RL 153 yX6_law ∈ hw_TB := hw_in 1054 (by decide +kernel) rfl
theorem ml_L_156 : Cond.methodLink RL 156 yX6_list ∈ hw_TB := hw_in 1058 (by decide +kernel) rfl
theorem ml_L_159 : Cond.methodLink RL 159 yX6_brokerOf ∈ hw_TB := hw_in 1062 (by decide +kernel) rfl
theorem ml_L_163 : Cond.methodLink RL 163 yX6_debt ∈ hw_TB := hw_in 1066 (by decide +kernel) rfl
theorem ml_L_166 : Cond.methodLink RL 166 yX6_agree ∈ hw_TB := hw_in 1070 (by decide +kernel) rfl
theorem ml_L_169 : Cond.methodLink RL 169 yX6_way ∈ hw_TB := hw_in 1074 (by decide +kernel) rfl
theorem ml_L_172 : Cond.methodLink RL 172 yX6_wayOf ∈ hw_TB := hw_in 1078 (by decide +kernel) rfl
theorem ml_L_175 : Cond.methodLink RL 175 yX6_orderOf ∈ hw_TB := hw_in 1082 (by decide +kernel) rfl
theorem ml_L_179 : Cond.methodLink RL 179 yX6_inquiry ∈ hw_TB := hw_in 1086 (by decide +kernel) rfl
theorem ml_L_182 : Cond.methodLink RL 182 yX6_sum ∈ hw_TB := hw_in 1090 (by decide +kernel) rfl
end
