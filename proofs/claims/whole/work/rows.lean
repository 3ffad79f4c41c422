section
def lw_okq (q : MethodName × Nat) : Prop := (q.1.cls ≠ "java/lang/invoke/MethodHandle" ∧ q.1.cls ≠ "java/lang/invoke/VarHandle") ∧ Cond.instantiable q.1.cls q.2 ∈ tables_1 ∧ Cond.privateMethod q.1 ∈ tables_1 ∧ Cond.instanceMethod q.1 ∈ tables_1
theorem lw_p0 : lw_okq (⟨"RoseWheel", "colourOf", "(I)I"⟩, 16) := ⟨⟨by decide +kernel, by decide +kernel⟩, List.mem_of_getElem? (i := 18) (by decide +kernel), List.mem_of_getElem? (i := 381) (by decide +kernel), List.mem_of_getElem? (i := 382) (by decide +kernel)⟩
theorem lw_p1 : lw_okq (⟨"RoseWheel", "owedByAll", "(I)I"⟩, 16) := ⟨⟨by decide +kernel, by decide +kernel⟩, List.mem_of_getElem? (i := 18) (by decide +kernel), List.mem_of_getElem? (i := 396) (by decide +kernel), List.mem_of_getElem? (i := 397) (by decide +kernel)⟩
theorem lw_p2 : lw_okq (⟨"RoseWheel", "areTwo", "(II)Z"⟩, 16) := ⟨⟨by decide +kernel, by decide +kernel⟩, List.mem_of_getElem? (i := 18) (by decide +kernel), List.mem_of_getElem? (i := 407) (by decide +kernel), List.mem_of_getElem? (i := 408) (by decide +kernel)⟩
theorem lw_p3 : lw_okq (⟨"RoseWheel", "turnBehind", "(I)I"⟩, 16) := ⟨⟨by decide +kernel, by decide +kernel⟩, List.mem_of_getElem? (i := 18) (by decide +kernel), List.mem_of_getElem? (i := 425) (by decide +kernel), List.mem_of_getElem? (i := 426) (by decide +kernel)⟩
theorem lw_p4 : lw_okq (⟨"RoseWheel", "holdFeast", "()V"⟩, 16) := ⟨⟨by decide +kernel, by decide +kernel⟩, List.mem_of_getElem? (i := 18) (by decide +kernel), List.mem_of_getElem? (i := 438) (by decide +kernel), List.mem_of_getElem? (i := 439) (by decide +kernel)⟩
theorem lw_p5 : lw_okq (⟨"RoseWheel", "oweBlueTo", "(I)V"⟩, 16) := ⟨⟨by decide +kernel, by decide +kernel⟩, List.mem_of_getElem? (i := 18) (by decide +kernel), List.mem_of_getElem? (i := 442) (by decide +kernel), List.mem_of_getElem? (i := 443) (by decide +kernel)⟩
theorem lw_p6 : lw_okq (⟨"RoseWheel", "whoIsOn", "(I)I"⟩, 16) := ⟨⟨by decide +kernel, by decide +kernel⟩, List.mem_of_getElem? (i := 18) (by decide +kernel), List.mem_of_getElem? (i := 451) (by decide +kernel), List.mem_of_getElem? (i := 452) (by decide +kernel)⟩
theorem lw_p7 : lw_okq (⟨"RoseWheel", "owedInAll", "()I"⟩, 16) := ⟨⟨by decide +kernel, by decide +kernel⟩, List.mem_of_getElem? (i := 18) (by decide +kernel), List.mem_of_getElem? (i := 475) (by decide +kernel), List.mem_of_getElem? (i := 476) (by decide +kernel)⟩
theorem lw_p8 : lw_okq (⟨"RoseWheel", "ringOfDebts", "()I"⟩, 16) := ⟨⟨by decide +kernel, by decide +kernel⟩, List.mem_of_getElem? (i := 18) (by decide +kernel), List.mem_of_getElem? (i := 488) (by decide +kernel), List.mem_of_getElem? (i := 489) (by decide +kernel)⟩
theorem lw_p9 : lw_okq (⟨"RoseWheel", "debtorsBehind", "(I)I"⟩, 16) := ⟨⟨by decide +kernel, by decide +kernel⟩, List.mem_of_getElem? (i := 18) (by decide +kernel), List.mem_of_getElem? (i := 492) (by decide +kernel), List.mem_of_getElem? (i := 493) (by decide +kernel)⟩
theorem lw_p10 : lw_okq (⟨"RoseWheel", "debtorsOf", "(I)I"⟩, 16) := ⟨⟨by decide +kernel, by decide +kernel⟩, List.mem_of_getElem? (i := 18) (by decide +kernel), List.mem_of_getElem? (i := 496) (by decide +kernel), List.mem_of_getElem? (i := 497) (by decide +kernel)⟩
theorem lw_p11 : lw_okq (⟨"RoseWheel", "colourBehind", "(II)I"⟩, 16) := ⟨⟨by decide +kernel, by decide +kernel⟩, List.mem_of_getElem? (i := 18) (by decide +kernel), List.mem_of_getElem? (i := 512) (by decide +kernel), List.mem_of_getElem? (i := 513) (by decide +kernel)⟩
theorem lw_p12 : lw_okq (⟨"RoseWheel", "speedsFor", "(III)I"⟩, 16) := ⟨⟨by decide +kernel, by decide +kernel⟩, List.mem_of_getElem? (i := 18) (by decide +kernel), List.mem_of_getElem? (i := 523) (by decide +kernel), List.mem_of_getElem? (i := 524) (by decide +kernel)⟩
theorem lw_p13 : lw_okq (⟨"RoseWheel", "leastSpeedFor", "(II)I"⟩, 16) := ⟨⟨by decide +kernel, by decide +kernel⟩, List.mem_of_getElem? (i := 18) (by decide +kernel), List.mem_of_getElem? (i := 527) (by decide +kernel), List.mem_of_getElem? (i := 528) (by decide +kernel)⟩
theorem lw_p14 : lw_okq (⟨"RoseWheel", "seatAll", "(I)I"⟩, 16) := ⟨⟨by decide +kernel, by decide +kernel⟩, List.mem_of_getElem? (i := 18) (by decide +kernel), List.mem_of_getElem? (i := 548) (by decide +kernel), List.mem_of_getElem? (i := 549) (by decide +kernel)⟩
theorem lw_p15 : lw_okq (⟨"RoseWheel", "mostServed", "()I"⟩, 16) := ⟨⟨by decide +kernel, by decide +kernel⟩, List.mem_of_getElem? (i := 18) (by decide +kernel), List.mem_of_getElem? (i := 553) (by decide +kernel), List.mem_of_getElem? (i := 554) (by decide +kernel)⟩
def lw_privs_1 : List (MethodName × Nat) := [(⟨"RoseWheel", "colourOf", "(I)I"⟩, 16), (⟨"RoseWheel", "owedByAll", "(I)I"⟩, 16), (⟨"RoseWheel", "areTwo", "(II)Z"⟩, 16), (⟨"RoseWheel", "turnBehind", "(I)I"⟩, 16), (⟨"RoseWheel", "holdFeast", "()V"⟩, 16), (⟨"RoseWheel", "oweBlueTo", "(I)V"⟩, 16), (⟨"RoseWheel", "whoIsOn", "(I)I"⟩, 16), (⟨"RoseWheel", "owedInAll", "()I"⟩, 16), (⟨"RoseWheel", "ringOfDebts", "()I"⟩, 16), (⟨"RoseWheel", "debtorsBehind", "(I)I"⟩, 16), (⟨"RoseWheel", "debtorsOf", "(I)I"⟩, 16), (⟨"RoseWheel", "colourBehind", "(II)I"⟩, 16), (⟨"RoseWheel", "speedsFor", "(III)I"⟩, 16), (⟨"RoseWheel", "leastSpeedFor", "(II)I"⟩, 16), (⟨"RoseWheel", "seatAll", "(I)I"⟩, 16), (⟨"RoseWheel", "mostServed", "()I"⟩, 16)]
theorem lw_r1 : ∀ q ∈ lw_privs_1, lw_okq q := List.forall_mem_cons.mpr ⟨lw_p0, List.forall_mem_cons.mpr ⟨lw_p1, List.forall_mem_cons.mpr ⟨lw_p2, List.forall_mem_cons.mpr ⟨lw_p3, List.forall_mem_cons.mpr ⟨lw_p4, List.forall_mem_cons.mpr ⟨lw_p5, List.forall_mem_cons.mpr ⟨lw_p6, List.forall_mem_cons.mpr ⟨lw_p7, List.forall_mem_cons.mpr ⟨lw_p8, List.forall_mem_cons.mpr ⟨lw_p9, List.forall_mem_cons.mpr ⟨lw_p10, List.forall_mem_cons.mpr ⟨lw_p11, List.forall_mem_cons.mpr ⟨lw_p12, List.forall_mem_cons.mpr ⟨lw_p13, List.forall_mem_cons.mpr ⟨lw_p14, List.forall_mem_cons.mpr ⟨lw_p15, fun _ h => absurd h List.not_mem_nil⟩⟩⟩⟩⟩⟩⟩⟩⟩⟩⟩⟩⟩⟩⟩⟩
theorem lw_p16 : lw_okq (⟨"RoseWheel", "lowestSeat", "(IIII)I"⟩, 16) := ⟨⟨by decide +kernel, by decide +kernel⟩, List.mem_of_getElem? (i := 18) (by decide +kernel), List.mem_of_getElem? (i := 557) (by decide +kernel), List.mem_of_getElem? (i := 558) (by decide +kernel)⟩
theorem lw_p17 : lw_okq (⟨"RoseWheel", "isAsSeen", "(I)Z"⟩, 16) := ⟨⟨by decide +kernel, by decide +kernel⟩, List.mem_of_getElem? (i := 18) (by decide +kernel), List.mem_of_getElem? (i := 580) (by decide +kernel), List.mem_of_getElem? (i := 581) (by decide +kernel)⟩
theorem lw_p18 : lw_okq (⟨"RoseWheel", "speedsAsSeen", "()J"⟩, 16) := ⟨⟨by decide +kernel, by decide +kernel⟩, List.mem_of_getElem? (i := 18) (by decide +kernel), List.mem_of_getElem? (i := 588) (by decide +kernel), List.mem_of_getElem? (i := 589) (by decide +kernel)⟩
theorem lw_p19 : lw_okq (⟨"RoseWheel", "mostOfOneColour", "(IJ)I"⟩, 16) := ⟨⟨by decide +kernel, by decide +kernel⟩, List.mem_of_getElem? (i := 18) (by decide +kernel), List.mem_of_getElem? (i := 592) (by decide +kernel), List.mem_of_getElem? (i := 593) (by decide +kernel)⟩
theorem lw_p20 : lw_okq (⟨"RoseWheel", "findLaws", "()I"⟩, 16) := ⟨⟨by decide +kernel, by decide +kernel⟩, List.mem_of_getElem? (i := 18) (by decide +kernel), List.mem_of_getElem? (i := 607) (by decide +kernel), List.mem_of_getElem? (i := 608) (by decide +kernel)⟩
theorem lw_p21 : lw_okq (⟨"RoseWheel", "isAsHeard", "(II)Z"⟩, 16) := ⟨⟨by decide +kernel, by decide +kernel⟩, List.mem_of_getElem? (i := 18) (by decide +kernel), List.mem_of_getElem? (i := 611) (by decide +kernel), List.mem_of_getElem? (i := 612) (by decide +kernel)⟩
theorem lw_p22 : lw_okq (⟨"RoseWheel", "mostOfOneSound", "(II)I"⟩, 16) := ⟨⟨by decide +kernel, by decide +kernel⟩, List.mem_of_getElem? (i := 18) (by decide +kernel), List.mem_of_getElem? (i := 620) (by decide +kernel), List.mem_of_getElem? (i := 621) (by decide +kernel)⟩
theorem lw_p23 : lw_okq (⟨"RoseWheelModel", "next", "()V"⟩, 34) := ⟨⟨by decide +kernel, by decide +kernel⟩, List.mem_of_getElem? (i := 683) (by decide +kernel), List.mem_of_getElem? (i := 807) (by decide +kernel), List.mem_of_getElem? (i := 808) (by decide +kernel)⟩
theorem lw_p24 : lw_okq (⟨"RoseWheelModel", "letterAt", "(I)I"⟩, 34) := ⟨⟨by decide +kernel, by decide +kernel⟩, List.mem_of_getElem? (i := 683) (by decide +kernel), List.mem_of_getElem? (i := 811) (by decide +kernel), List.mem_of_getElem? (i := 812) (by decide +kernel)⟩
theorem lw_p25 : lw_okq (⟨"RoseWheelModel", "readItem", "()V"⟩, 34) := ⟨⟨by decide +kernel, by decide +kernel⟩, List.mem_of_getElem? (i := 683) (by decide +kernel), List.mem_of_getElem? (i := 821) (by decide +kernel), List.mem_of_getElem? (i := 822) (by decide +kernel)⟩
theorem lw_p26 : lw_okq (⟨"RoseWheelModel", "mayBegin", "(I)Z"⟩, 34) := ⟨⟨by decide +kernel, by decide +kernel⟩, List.mem_of_getElem? (i := 683) (by decide +kernel), List.mem_of_getElem? (i := 825) (by decide +kernel), List.mem_of_getElem? (i := 826) (by decide +kernel)⟩
theorem lw_p27 : lw_okq (⟨"RoseWheelModel", "takesNumber", "(II)I"⟩, 34) := ⟨⟨by decide +kernel, by decide +kernel⟩, List.mem_of_getElem? (i := 683) (by decide +kernel), List.mem_of_getElem? (i := 829) (by decide +kernel), List.mem_of_getElem? (i := 830) (by decide +kernel)⟩
theorem lw_p28 : lw_okq (⟨"RoseWheelModel", "readOne", "()V"⟩, 34) := ⟨⟨by decide +kernel, by decide +kernel⟩, List.mem_of_getElem? (i := 683) (by decide +kernel), List.mem_of_getElem? (i := 833) (by decide +kernel), List.mem_of_getElem? (i := 834) (by decide +kernel)⟩
theorem lw_p29 : lw_okq (⟨"RoseWheelModel", "settles", "()V"⟩, 34) := ⟨⟨by decide +kernel, by decide +kernel⟩, List.mem_of_getElem? (i := 683) (by decide +kernel), List.mem_of_getElem? (i := 837) (by decide +kernel), List.mem_of_getElem? (i := 838) (by decide +kernel)⟩
theorem lw_p30 : lw_okq (⟨"RoseWheelModel", "isSpot", "(I)Z"⟩, 34) := ⟨⟨by decide +kernel, by decide +kernel⟩, List.mem_of_getElem? (i := 683) (by decide +kernel), List.mem_of_getElem? (i := 845) (by decide +kernel), List.mem_of_getElem? (i := 846) (by decide +kernel)⟩
theorem lw_p31 : lw_okq (⟨"RoseWheelModel", "isOne", "(I)Z"⟩, 34) := ⟨⟨by decide +kernel, by decide +kernel⟩, List.mem_of_getElem? (i := 683) (by decide +kernel), List.mem_of_getElem? (i := 853) (by decide +kernel), List.mem_of_getElem? (i := 854) (by decide +kernel)⟩
def lw_privs_2 : List (MethodName × Nat) := [(⟨"RoseWheel", "lowestSeat", "(IIII)I"⟩, 16), (⟨"RoseWheel", "isAsSeen", "(I)Z"⟩, 16), (⟨"RoseWheel", "speedsAsSeen", "()J"⟩, 16), (⟨"RoseWheel", "mostOfOneColour", "(IJ)I"⟩, 16), (⟨"RoseWheel", "findLaws", "()I"⟩, 16), (⟨"RoseWheel", "isAsHeard", "(II)Z"⟩, 16), (⟨"RoseWheel", "mostOfOneSound", "(II)I"⟩, 16), (⟨"RoseWheelModel", "next", "()V"⟩, 34), (⟨"RoseWheelModel", "letterAt", "(I)I"⟩, 34), (⟨"RoseWheelModel", "readItem", "()V"⟩, 34), (⟨"RoseWheelModel", "mayBegin", "(I)Z"⟩, 34), (⟨"RoseWheelModel", "takesNumber", "(II)I"⟩, 34), (⟨"RoseWheelModel", "readOne", "()V"⟩, 34), (⟨"RoseWheelModel", "settles", "()V"⟩, 34), (⟨"RoseWheelModel", "isSpot", "(I)Z"⟩, 34), (⟨"RoseWheelModel", "isOne", "(I)Z"⟩, 34)]
theorem lw_r2 : ∀ q ∈ lw_privs_2, lw_okq q := List.forall_mem_cons.mpr ⟨lw_p16, List.forall_mem_cons.mpr ⟨lw_p17, List.forall_mem_cons.mpr ⟨lw_p18, List.forall_mem_cons.mpr ⟨lw_p19, List.forall_mem_cons.mpr ⟨lw_p20, List.forall_mem_cons.mpr ⟨lw_p21, List.forall_mem_cons.mpr ⟨lw_p22, List.forall_mem_cons.mpr ⟨lw_p23, List.forall_mem_cons.mpr ⟨lw_p24, List.forall_mem_cons.mpr ⟨lw_p25, List.forall_mem_cons.mpr ⟨lw_p26, List.forall_mem_cons.mpr ⟨lw_p27, List.forall_mem_cons.mpr ⟨lw_p28, List.forall_mem_cons.mpr ⟨lw_p29, List.forall_mem_cons.mpr ⟨lw_p30, List.forall_mem_cons.mpr ⟨lw_p31, fun _ h => absurd h List.not_mem_nil⟩⟩⟩⟩⟩⟩⟩⟩⟩⟩⟩⟩⟩⟩⟩⟩
theorem lw_p32 : lw_okq (⟨"RoseWheelModel", "standsIn", "(I)I"⟩, 34) := ⟨⟨by decide +kernel, by decide +kernel⟩, List.mem_of_getElem? (i := 683) (by decide +kernel), List.mem_of_getElem? (i := 857) (by decide +kernel), List.mem_of_getElem? (i := 858) (by decide +kernel)⟩
theorem lw_p33 : lw_okq (⟨"RoseWheelModel", "colourAt", "(II)I"⟩, 34) := ⟨⟨by decide +kernel, by decide +kernel⟩, List.mem_of_getElem? (i := 683) (by decide +kernel), List.mem_of_getElem? (i := 861) (by decide +kernel), List.mem_of_getElem? (i := 862) (by decide +kernel)⟩
theorem lw_p34 : lw_okq (⟨"RoseWheelModel", "owedAll", "(I)I"⟩, 34) := ⟨⟨by decide +kernel, by decide +kernel⟩, List.mem_of_getElem? (i := 683) (by decide +kernel), List.mem_of_getElem? (i := 865) (by decide +kernel), List.mem_of_getElem? (i := 866) (by decide +kernel)⟩
theorem lw_p35 : lw_okq (⟨"RoseWheelModel", "areTwo", "(II)Z"⟩, 34) := ⟨⟨by decide +kernel, by decide +kernel⟩, List.mem_of_getElem? (i := 683) (by decide +kernel), List.mem_of_getElem? (i := 873) (by decide +kernel), List.mem_of_getElem? (i := 874) (by decide +kernel)⟩
theorem lw_p36 : lw_okq (⟨"RoseWheelModel", "remembers", "()V"⟩, 34) := ⟨⟨by decide +kernel, by decide +kernel⟩, List.mem_of_getElem? (i := 683) (by decide +kernel), List.mem_of_getElem? (i := 884) (by decide +kernel), List.mem_of_getElem? (i := 885) (by decide +kernel)⟩
theorem lw_p37 : lw_okq (⟨"RoseWheelModel", "clicksOf", "(I)I"⟩, 34) := ⟨⟨by decide +kernel, by decide +kernel⟩, List.mem_of_getElem? (i := 683) (by decide +kernel), List.mem_of_getElem? (i := 888) (by decide +kernel), List.mem_of_getElem? (i := 889) (by decide +kernel)⟩
theorem lw_p38 : lw_okq (⟨"RoseWheelModel", "feasts", "()V"⟩, 34) := ⟨⟨by decide +kernel, by decide +kernel⟩, List.mem_of_getElem? (i := 683) (by decide +kernel), List.mem_of_getElem? (i := 895) (by decide +kernel), List.mem_of_getElem? (i := 896) (by decide +kernel)⟩
theorem lw_p39 : lw_okq (⟨"RoseWheelModel", "whoHas", "(I)I"⟩, 34) := ⟨⟨by decide +kernel, by decide +kernel⟩, List.mem_of_getElem? (i := 683) (by decide +kernel), List.mem_of_getElem? (i := 903) (by decide +kernel), List.mem_of_getElem? (i := 904) (by decide +kernel)⟩
theorem lw_p40 : lw_okq (⟨"RoseWheelModel", "alike", "()I"⟩, 34) := ⟨⟨by decide +kernel, by decide +kernel⟩, List.mem_of_getElem? (i := 683) (by decide +kernel), List.mem_of_getElem? (i := 927) (by decide +kernel), List.mem_of_getElem? (i := 928) (by decide +kernel)⟩
theorem lw_p41 : lw_okq (⟨"RoseWheelModel", "isAlike", "(I)Z"⟩, 34) := ⟨⟨by decide +kernel, by decide +kernel⟩, List.mem_of_getElem? (i := 683) (by decide +kernel), List.mem_of_getElem? (i := 931) (by decide +kernel), List.mem_of_getElem? (i := 932) (by decide +kernel)⟩
theorem lw_p42 : lw_okq (⟨"RoseWheelModel", "ring", "()I"⟩, 34) := ⟨⟨by decide +kernel, by decide +kernel⟩, List.mem_of_getElem? (i := 683) (by decide +kernel), List.mem_of_getElem? (i := 935) (by decide +kernel), List.mem_of_getElem? (i := 936) (by decide +kernel)⟩
theorem lw_p43 : lw_okq (⟨"RoseWheelModel", "shadeOf", "(II)I"⟩, 34) := ⟨⟨by decide +kernel, by decide +kernel⟩, List.mem_of_getElem? (i := 683) (by decide +kernel), List.mem_of_getElem? (i := 954) (by decide +kernel), List.mem_of_getElem? (i := 955) (by decide +kernel)⟩
theorem lw_p44 : lw_okq (⟨"RoseWheelModel", "speedsOf", "(III)I"⟩, 34) := ⟨⟨by decide +kernel, by decide +kernel⟩, List.mem_of_getElem? (i := 683) (by decide +kernel), List.mem_of_getElem? (i := 965) (by decide +kernel), List.mem_of_getElem? (i := 966) (by decide +kernel)⟩
theorem lw_p45 : lw_okq (⟨"RoseWheelModel", "sits", "(I)I"⟩, 34) := ⟨⟨by decide +kernel, by decide +kernel⟩, List.mem_of_getElem? (i := 683) (by decide +kernel), List.mem_of_getElem? (i := 981) (by decide +kernel), List.mem_of_getElem? (i := 982) (by decide +kernel)⟩
theorem lw_p46 : lw_okq (⟨"RoseWheelModel", "mostYet", "()I"⟩, 34) := ⟨⟨by decide +kernel, by decide +kernel⟩, List.mem_of_getElem? (i := 683) (by decide +kernel), List.mem_of_getElem? (i := 985) (by decide +kernel), List.mem_of_getElem? (i := 986) (by decide +kernel)⟩
theorem lw_p47 : lw_okq (⟨"RoseWheelModel", "isSeen", "(I)Z"⟩, 34) := ⟨⟨by decide +kernel, by decide +kernel⟩, List.mem_of_getElem? (i := 683) (by decide +kernel), List.mem_of_getElem? (i := 1004) (by decide +kernel), List.mem_of_getElem? (i := 1005) (by decide +kernel)⟩
def lw_privs_3 : List (MethodName × Nat) := [(⟨"RoseWheelModel", "standsIn", "(I)I"⟩, 34), (⟨"RoseWheelModel", "colourAt", "(II)I"⟩, 34), (⟨"RoseWheelModel", "owedAll", "(I)I"⟩, 34), (⟨"RoseWheelModel", "areTwo", "(II)Z"⟩, 34), (⟨"RoseWheelModel", "remembers", "()V"⟩, 34), (⟨"RoseWheelModel", "clicksOf", "(I)I"⟩, 34), (⟨"RoseWheelModel", "feasts", "()V"⟩, 34), (⟨"RoseWheelModel", "whoHas", "(I)I"⟩, 34), (⟨"RoseWheelModel", "alike", "()I"⟩, 34), (⟨"RoseWheelModel", "isAlike", "(I)Z"⟩, 34), (⟨"RoseWheelModel", "ring", "()I"⟩, 34), (⟨"RoseWheelModel", "shadeOf", "(II)I"⟩, 34), (⟨"RoseWheelModel", "speedsOf", "(III)I"⟩, 34), (⟨"RoseWheelModel", "sits", "(I)I"⟩, 34), (⟨"RoseWheelModel", "mostYet", "()I"⟩, 34), (⟨"RoseWheelModel", "isSeen", "(I)Z"⟩, 34)]
theorem lw_r3 : ∀ q ∈ lw_privs_3, lw_okq q := List.forall_mem_cons.mpr ⟨lw_p32, List.forall_mem_cons.mpr ⟨lw_p33, List.forall_mem_cons.mpr ⟨lw_p34, List.forall_mem_cons.mpr ⟨lw_p35, List.forall_mem_cons.mpr ⟨lw_p36, List.forall_mem_cons.mpr ⟨lw_p37, List.forall_mem_cons.mpr ⟨lw_p38, List.forall_mem_cons.mpr ⟨lw_p39, List.forall_mem_cons.mpr ⟨lw_p40, List.forall_mem_cons.mpr ⟨lw_p41, List.forall_mem_cons.mpr ⟨lw_p42, List.forall_mem_cons.mpr ⟨lw_p43, List.forall_mem_cons.mpr ⟨lw_p44, List.forall_mem_cons.mpr ⟨lw_p45, List.forall_mem_cons.mpr ⟨lw_p46, List.forall_mem_cons.mpr ⟨lw_p47, fun _ h => absurd h List.not_mem_nil⟩⟩⟩⟩⟩⟩⟩⟩⟩⟩⟩⟩⟩⟩⟩⟩
theorem lw_p48 : lw_okq (⟨"RoseWheelModel", "isHeard", "(II)Z"⟩, 34) := ⟨⟨by decide +kernel, by decide +kernel⟩, List.mem_of_getElem? (i := 683) (by decide +kernel), List.mem_of_getElem? (i := 1021) (by decide +kernel), List.mem_of_getElem? (i := 1022) (by decide +kernel)⟩
theorem lw_p49 : lw_okq (⟨"RoseWheelModel", "greatest", "(I)I"⟩, 34) := ⟨⟨by decide +kernel, by decide +kernel⟩, List.mem_of_getElem? (i := 683) (by decide +kernel), List.mem_of_getElem? (i := 1030) (by decide +kernel), List.mem_of_getElem? (i := 1031) (by decide +kernel)⟩
def lw_privs_4 : List (MethodName × Nat) := [(⟨"RoseWheelModel", "isHeard", "(II)Z"⟩, 34), (⟨"RoseWheelModel", "greatest", "(I)I"⟩, 34)]
theorem lw_r4 : ∀ q ∈ lw_privs_4, lw_okq q := List.forall_mem_cons.mpr ⟨lw_p48, List.forall_mem_cons.mpr ⟨lw_p49, fun _ h => absurd h List.not_mem_nil⟩⟩
def lw_privs : List (MethodName × Nat) := lw_privs_1 ++ (lw_privs_2 ++ (lw_privs_3 ++ (lw_privs_4)))
def lw_tbl : List Cond := k2_sels lw_privs ++ tables_1
theorem lw_privs_ok : ∀ q ∈ lw_privs, lw_okq q := by
  show ∀ q ∈ lw_privs_1 ++ (lw_privs_2 ++ (lw_privs_3 ++ (lw_privs_4))), lw_okq q
  exact List.forall_mem_append.mpr ⟨lw_r1, List.forall_mem_append.mpr ⟨lw_r2, List.forall_mem_append.mpr ⟨lw_r3, lw_r4⟩⟩⟩
end
section
/-! tables of names, fields, types (begun from the printed names) -/
def RX0 : String := "RoseWheel$Asked"
def TX0 : u_T := fun k => match k with
  | 0 => ("RoseWheel$Asked", "number", "I", false)
  | 1 => ("RoseWheel$Asked", "spot", "I", false)
  | 2 => ("RoseWheel$Asked", "colour", "I", false)
  | 3 => ("RoseWheel$Asked", "patience", "I", false)
  | 4 => ("RoseWheel$Asked", "feasts", "I", false)
  | _ => ("RoseWheel$Asked", "trace", "J", false)
def tyX0 : Nat → FieldType := fun k => match k with
  | 0 => .int
  | 1 => .int
  | 2 => .int
  | 3 => .int
  | 4 => .int
  | _ => .long
theorem nmX0 : ∀ a, a < 6 → ∀ b, b < 6 → a ≠ b → (TX0 a).2.1 ≠ (TX0 b).2.1 := by decide +kernel
theorem tyX0_ok : ∀ k, k < 6 → parseFieldDescriptor (TX0 k).2.2.1 = some (tyX0 k) := by decide +kernel
theorem inX0 : ∀ w ∈ u_ws RX0 TX0 6, w ∈ lw_tbl := by decide +kernel
def RX1 : String := "RoseWheel$Beadle"
def TX1 : u_T := fun k => match k with
  | _ => ("", "", "", false)
def tyX1 : Nat → FieldType := fun k => match k with
  | _ => .int
theorem nmX1 : ∀ a, a < 0 → ∀ b, b < 0 → a ≠ b → (TX1 a).2.1 ≠ (TX1 b).2.1 := by decide +kernel
theorem tyX1_ok : ∀ k, k < 0 → parseFieldDescriptor (TX1 k).2.2.1 = some (tyX1 k) := by decide +kernel
theorem inX1 : ∀ w ∈ u_ws RX1 TX1 0, w ∈ lw_tbl := by decide +kernel
def RX2 : String := "RoseWheel$Blind"
def TX2 : u_T := fun k => match k with
  | _ => ("", "", "", false)
def tyX2 : Nat → FieldType := fun k => match k with
  | _ => .int
theorem nmX2 : ∀ a, a < 0 → ∀ b, b < 0 → a ≠ b → (TX2 a).2.1 ≠ (TX2 b).2.1 := by decide +kernel
theorem tyX2_ok : ∀ k, k < 0 → parseFieldDescriptor (TX2 k).2.2.1 = some (tyX2 k) := by decide +kernel
theorem inX2 : ∀ w ∈ u_ws RX2 TX2 0, w ∈ lw_tbl := by decide +kernel
def RX3 : String := "RoseWheel$Cripple"
def TX3 : u_T := fun k => match k with
  | _ => ("", "", "", false)
def tyX3 : Nat → FieldType := fun k => match k with
  | _ => .int
theorem nmX3 : ∀ a, a < 0 → ∀ b, b < 0 → a ≠ b → (TX3 a).2.1 ≠ (TX3 b).2.1 := by decide +kernel
theorem tyX3_ok : ∀ k, k < 0 → parseFieldDescriptor (TX3 k).2.2.1 = some (tyX3 k) := by decide +kernel
theorem inX3 : ∀ w ∈ u_ws RX3 TX3 0, w ∈ lw_tbl := by decide +kernel
def RX4 : String := "RoseWheel$Daughter"
def TX4 : u_T := fun k => match k with
  | _ => ("", "", "", false)
def tyX4 : Nat → FieldType := fun k => match k with
  | _ => .int
theorem nmX4 : ∀ a, a < 0 → ∀ b, b < 0 → a ≠ b → (TX4 a).2.1 ≠ (TX4 b).2.1 := by decide +kernel
theorem tyX4_ok : ∀ k, k < 0 → parseFieldDescriptor (TX4 k).2.2.1 = some (tyX4 k) := by decide +kernel
theorem inX4 : ∀ w ∈ u_ws RX4 TX4 0, w ∈ lw_tbl := by decide +kernel
def RX5 : String := "RoseWheel$Days"
def TX5 : u_T := fun k => match k with
  | 0 => ("RoseWheel$Days", "cells", "[I", true)
  | _ => ("RoseWheel$Days", "undoable", "I", false)
def tyX5 : Nat → FieldType := fun k => match k with
  | 0 => .array .int
  | _ => .int
theorem nmX5 : ∀ a, a < 2 → ∀ b, b < 2 → a ≠ b → (TX5 a).2.1 ≠ (TX5 b).2.1 := by decide +kernel
theorem tyX5_ok : ∀ k, k < 2 → parseFieldDescriptor (TX5 k).2.2.1 = some (tyX5 k) := by decide +kernel
theorem inX5 : ∀ w ∈ u_ws RX5 TX5 2, w ∈ lw_tbl := by decide +kernel
def RX6 : String := "RoseWheel$Dog"
def TX6 : u_T := fun k => match k with
  | _ => ("", "", "", false)
def tyX6 : Nat → FieldType := fun k => match k with
  | _ => .int
theorem nmX6 : ∀ a, a < 0 → ∀ b, b < 0 → a ≠ b → (TX6 a).2.1 ≠ (TX6 b).2.1 := by decide +kernel
theorem tyX6_ok : ∀ k, k < 0 → parseFieldDescriptor (TX6 k).2.2.1 = some (tyX6 k) := by decide +kernel
theorem inX6 : ∀ w ∈ u_ws RX6 TX6 0, w ∈ lw_tbl := by decide +kernel
def RX7 : String := "RoseWheel$Notes"
def TX7 : u_T := fun k => match k with
  | 0 => ("RoseWheel$Notes", "first", "[I", true)
  | 1 => ("RoseWheel$Notes", "second", "[I", true)
  | _ => ("RoseWheel$Notes", "size", "I", false)
def tyX7 : Nat → FieldType := fun k => match k with
  | 0 => .array .int
  | 1 => .array .int
  | _ => .int
theorem nmX7 : ∀ a, a < 3 → ∀ b, b < 3 → a ≠ b → (TX7 a).2.1 ≠ (TX7 b).2.1 := by decide +kernel
theorem tyX7_ok : ∀ k, k < 3 → parseFieldDescriptor (TX7 k).2.2.1 = some (tyX7 k) := by decide +kernel
theorem inX7 : ∀ w ∈ u_ws RX7 TX7 3, w ∈ lw_tbl := by decide +kernel
def RX8 : String := "RoseWheel$One"
def TX8 : u_T := fun k => match k with
  | _ => ("", "", "", false)
def tyX8 : Nat → FieldType := fun k => match k with
  | _ => .int
theorem nmX8 : ∀ a, a < 0 → ∀ b, b < 0 → a ≠ b → (TX8 a).2.1 ≠ (TX8 b).2.1 := by decide +kernel
theorem tyX8_ok : ∀ k, k < 0 → parseFieldDescriptor (TX8 k).2.2.1 = some (tyX8 k) := by decide +kernel
theorem inX8 : ∀ w ∈ u_ws RX8 TX8 0, w ∈ lw_tbl := by decide +kernel
def RX9 : String := "RoseWheel$Text"
def TX9 : u_T := fun k => match k with
  | 0 => ("RoseWheel$Text", "bytes", "[I", true)
  | 1 => ("RoseWheel$Text", "length", "I", false)
  | 2 => ("RoseWheel$Text", "next", "I", false)
  | 3 => ("RoseWheel$Text", "start", "I", false)
  | 4 => ("RoseWheel$Text", "token", "I", false)
  | 5 => ("RoseWheel$Text", "value", "I", false)
  | 6 => ("RoseWheel$Text", "keepsTold", "Z", false)
  | _ => ("RoseWheel$Text", "dragTold", "Z", false)
def tyX9 : Nat → FieldType := fun k => match k with
  | 0 => .array .int
  | 1 => .int
  | 2 => .int
  | 3 => .int
  | 4 => .int
  | 5 => .int
  | 6 => .boolean
  | _ => .boolean
theorem nmX9 : ∀ a, a < 8 → ∀ b, b < 8 → a ≠ b → (TX9 a).2.1 ≠ (TX9 b).2.1 := by decide +kernel
theorem tyX9_ok : ∀ k, k < 8 → parseFieldDescriptor (TX9 k).2.2.1 = some (tyX9 k) := by decide +kernel
theorem inX9 : ∀ w ∈ u_ws RX9 TX9 8, w ∈ lw_tbl := by decide +kernel
def RX10 : String := "RoseWheel$Window"
def TX10 : u_T := fun k => match k with
  | 0 => ("RoseWheel$Window", "panes", "[I", true)
  | 1 => ("RoseWheel$Window", "places", "[I", true)
  | 2 => ("RoseWheel$Window", "wants", "[I", true)
  | 3 => ("RoseWheel$Window", "paneCount", "I", false)
  | 4 => ("RoseWheel$Window", "people", "I", false)
  | 5 => ("RoseWheel$Window", "keeps", "I", false)
  | _ => ("RoseWheel$Window", "drag", "I", false)
def tyX10 : Nat → FieldType := fun k => match k with
  | 0 => .array .int
  | 1 => .array .int
  | 2 => .array .int
  | 3 => .int
  | 4 => .int
  | 5 => .int
  | _ => .int
theorem nmX10 : ∀ a, a < 7 → ∀ b, b < 7 → a ≠ b → (TX10 a).2.1 ≠ (TX10 b).2.1 := by decide +kernel
theorem tyX10_ok : ∀ k, k < 7 → parseFieldDescriptor (TX10 k).2.2.1 = some (tyX10 k) := by decide +kernel
theorem inX10 : ∀ w ∈ u_ws RX10 TX10 7, w ∈ lw_tbl := by decide +kernel
def RX11 : String := "RoseWheel"
def TX11 : u_T := fun k => match k with
  | 0 => ("RoseWheel", "text", "LRoseWheel$Text;", true)
  | 1 => ("RoseWheel", "window", "LRoseWheel$Window;", false)
  | 2 => ("RoseWheel", "draft", "LRoseWheel$Window;", false)
  | 3 => ("RoseWheel", "days", "LRoseWheel$Days;", true)
  | 4 => ("RoseWheel", "images", "[LRoseWheel$Days;", true)
  | 5 => ("RoseWheel", "kept", "[Z", true)
  | 6 => ("RoseWheel", "seen", "LRoseWheel$Notes;", true)
  | 7 => ("RoseWheel", "heard", "LRoseWheel$Notes;", true)
  | 8 => ("RoseWheel", "asked", "LRoseWheel$Asked;", true)
  | 9 => ("RoseWheel", "kinds", "[LRoseWheel$One;", true)
  | 10 => ("RoseWheel", "lawsThatFit", "[I", true)
  | 11 => ("RoseWheel", "lawsByClicks", "[I", true)
  | 12 => ("RoseWheel", "speedsByColour", "[I", true)
  | 13 => ("RoseWheel", "freeByColour", "[I", true)
  | 14 => ("RoseWheel", "wantedByColour", "[I", true)
  | _ => ("RoseWheel", "seatOf", "[I", true)
def tyX11 : Nat → FieldType := fun k => match k with
  | 0 => .object "RoseWheel$Text"
  | 1 => .object "RoseWheel$Window"
  | 2 => .object "RoseWheel$Window"
  | 3 => .object "RoseWheel$Days"
  | 4 => .array (.object "RoseWheel$Days")
  | 5 => .array .boolean
  | 6 => .object "RoseWheel$Notes"
  | 7 => .object "RoseWheel$Notes"
  | 8 => .object "RoseWheel$Asked"
  | 9 => .array (.object "RoseWheel$One")
  | 10 => .array .int
  | 11 => .array .int
  | 12 => .array .int
  | 13 => .array .int
  | 14 => .array .int
  | _ => .array .int
theorem nmX11 : ∀ a, a < 16 → ∀ b, b < 16 → a ≠ b → (TX11 a).2.1 ≠ (TX11 b).2.1 := by decide +kernel
theorem tyX11_ok : ∀ k, k < 16 → parseFieldDescriptor (TX11 k).2.2.1 = some (tyX11 k) := by decide +kernel
theorem inX11 : ∀ w ∈ u_ws RX11 TX11 16, w ∈ lw_tbl := by decide +kernel
def RX12 : String := "RoseWheelModel"
def TX12 : u_T := fun k => match k with
  | 0 => ("RoseWheelModel", "panes", "I", false)
  | 1 => ("RoseWheelModel", "pane", "[I", true)
  | 2 => ("RoseWheelModel", "keeps", "I", false)
  | 3 => ("RoseWheelModel", "drag", "I", false)
  | 4 => ("RoseWheelModel", "people", "I", false)
  | 5 => ("RoseWheelModel", "wants", "[I", true)
  | 6 => ("RoseWheelModel", "st", "[I", true)
  | 7 => ("RoseWheelModel", "images", "[I", true)
  | 8 => ("RoseWheelModel", "isKept", "[Z", true)
  | 9 => ("RoseWheelModel", "seenMany", "I", false)
  | 10 => ("RoseWheelModel", "seen", "[I", true)
  | 11 => ("RoseWheelModel", "heardMany", "I", false)
  | 12 => ("RoseWheelModel", "heard", "[I", true)
  | 13 => ("RoseWheelModel", "trace", "J", false)
  | 14 => ("RoseWheelModel", "text", "[I", true)
  | 15 => ("RoseWheelModel", "texted", "I", false)
  | 16 => ("RoseWheelModel", "cursor", "I", false)
  | 17 => ("RoseWheelModel", "start", "I", false)
  | 18 => ("RoseWheelModel", "token", "I", false)
  | 19 => ("RoseWheelModel", "number", "I", false)
  | 20 => ("RoseWheelModel", "isWrong", "Z", false)
  | 21 => ("RoseWheelModel", "items", "I", false)
  | 22 => ("RoseWheelModel", "saidPanes", "I", false)
  | 23 => ("RoseWheelModel", "saidPane", "[I", true)
  | 24 => ("RoseWheelModel", "saidKeeps", "I", false)
  | 25 => ("RoseWheelModel", "saidDrag", "I", false)
  | 26 => ("RoseWheelModel", "saidPeople", "I", false)
  | 27 => ("RoseWheelModel", "saidSpot", "[I", true)
  | 28 => ("RoseWheelModel", "saidWant", "[I", true)
  | 29 => ("RoseWheelModel", "by", "[I", true)
  | 30 => ("RoseWheelModel", "wanted", "[I", true)
  | 31 => ("RoseWheelModel", "free", "[I", true)
  | 32 => ("RoseWheelModel", "stands", "[I", true)
  | _ => ("RoseWheelModel", "parts", "[I", true)
def tyX12 : Nat → FieldType := fun k => match k with
  | 0 => .int
  | 1 => .array .int
  | 2 => .int
  | 3 => .int
  | 4 => .int
  | 5 => .array .int
  | 6 => .array .int
  | 7 => .array .int
  | 8 => .array .boolean
  | 9 => .int
  | 10 => .array .int
  | 11 => .int
  | 12 => .array .int
  | 13 => .long
  | 14 => .array .int
  | 15 => .int
  | 16 => .int
  | 17 => .int
  | 18 => .int
  | 19 => .int
  | 20 => .boolean
  | 21 => .int
  | 22 => .int
  | 23 => .array .int
  | 24 => .int
  | 25 => .int
  | 26 => .int
  | 27 => .array .int
  | 28 => .array .int
  | 29 => .array .int
  | 30 => .array .int
  | 31 => .array .int
  | 32 => .array .int
  | _ => .array .int
theorem nmX12 : ∀ a, a < 34 → ∀ b, b < 34 → a ≠ b → (TX12 a).2.1 ≠ (TX12 b).2.1 := by decide +kernel
theorem tyX12_ok : ∀ k, k < 34 → parseFieldDescriptor (TX12 k).2.2.1 = some (tyX12 k) := by decide +kernel
theorem inX12 : ∀ w ∈ u_ws RX12 TX12 34, w ∈ lw_tbl := by decide +kernel
def zNN (c : Nat) : Nat := ([6, 0, 0, 0, 0, 2, 0, 3, 0, 8, 7, 16, 34] : List Nat).getD c 0
def zTT (c : Nat) : u_T := match c with
  | 0 => TX0
  | 1 => TX1
  | 2 => TX2
  | 3 => TX3
  | 4 => TX4
  | 5 => TX5
  | 6 => TX6
  | 7 => TX7
  | 8 => TX8
  | 9 => TX9
  | 10 => TX10
  | 11 => TX11
  | _ => TX12
def zRR (c : Nat) : String := match c with
  | 0 => RX0
  | 1 => RX1
  | 2 => RX2
  | 3 => RX3
  | 4 => RX4
  | 5 => RX5
  | 6 => RX6
  | 7 => RX7
  | 8 => RX8
  | 9 => RX9
  | 10 => RX10
  | 11 => RX11
  | _ => RX12
def zty (c : Nat) : Nat → FieldType := match c with
  | 0 => tyX0
  | 1 => tyX1
  | 2 => tyX2
  | 3 => tyX3
  | 4 => tyX4
  | 5 => tyX5
  | 6 => tyX6
  | 7 => tyX7
  | 8 => tyX8
  | 9 => tyX9
  | 10 => tyX10
  | 11 => tyX11
  | _ => tyX12
def zcl : List vw_C := [(RX0, TX0, 6), (RX1, TX1, 0), (RX2, TX2, 0), (RX3, TX3, 0), (RX4, TX4, 0), (RX5, TX5, 2), (RX6, TX6, 0), (RX7, TX7, 3), (RX8, TX8, 0), (RX9, TX9, 8), (RX10, TX10, 7), (RX11, TX11, 16), (RX12, TX12, 34)]
theorem zcl_at : ∀ c, c < 13 → zcl[c]? = some (zRR c, zTT c, zNN c) := by
  intro c hc
  match c, hc with
  | 0, _ => exact rfl
  | 1, _ => exact rfl
  | 2, _ => exact rfl
  | 3, _ => exact rfl
  | 4, _ => exact rfl
  | 5, _ => exact rfl
  | 6, _ => exact rfl
  | 7, _ => exact rfl
  | 8, _ => exact rfl
  | 9, _ => exact rfl
  | 10, _ => exact rfl
  | 11, _ => exact rfl
  | 12, _ => exact rfl
theorem zcl_in : ∀ c, c < 13 → ∀ w ∈ u_ws (zRR c) (zTT c) (zNN c), w ∈ lw_tbl := by
  intro c hc
  match c, hc with
  | 0, _ => exact inX0
  | 1, _ => exact inX1
  | 2, _ => exact inX2
  | 3, _ => exact inX3
  | 4, _ => exact inX4
  | 5, _ => exact inX5
  | 6, _ => exact inX6
  | 7, _ => exact inX7
  | 8, _ => exact inX8
  | 9, _ => exact inX9
  | 10, _ => exact inX10
  | 11, _ => exact inX11
  | 12, _ => exact inX12
theorem zcl_ty : ∀ c, c < 13 → ∀ k, k < zNN c → parseFieldDescriptor (zTT c k).2.2.1 = some (zty c k) := by
  intro c hc
  match c, hc with
  | 0, _ => exact tyX0_ok
  | 1, _ => exact tyX1_ok
  | 2, _ => exact tyX2_ok
  | 3, _ => exact tyX3_ok
  | 4, _ => exact tyX4_ok
  | 5, _ => exact tyX5_ok
  | 6, _ => exact tyX6_ok
  | 7, _ => exact tyX7_ok
  | 8, _ => exact tyX8_ok
  | 9, _ => exact tyX9_ok
  | 10, _ => exact tyX10_ok
  | 11, _ => exact tyX11_ok
  | 12, _ => exact tyX12_ok
theorem zcl_nm : ∀ c, c < 13 → ∀ a, a < zNN c → ∀ b, b < zNN c → a ≠ b → (zTT c a).2.1 ≠ (zTT c b).2.1 := by
  intro c hc
  match c, hc with
  | 0, _ => exact nmX0
  | 1, _ => exact nmX1
  | 2, _ => exact nmX2
  | 3, _ => exact nmX3
  | 4, _ => exact nmX4
  | 5, _ => exact nmX5
  | 6, _ => exact nmX6
  | 7, _ => exact nmX7
  | 8, _ => exact nmX8
  | 9, _ => exact nmX9
  | 10, _ => exact nmX10
  | 11, _ => exact nmX11
  | 12, _ => exact nmX12
/-- of each cell its sort (below 13: an object; 100 int, 101 boolean, 102, 103 rows of references) and its length -/
def zks (a : Nat) : Nat × Nat := ([(11, 0), (9, 0), (100, 150), (10, 0), (100, 12), (100, 6), (100, 6), (10, 0), (100, 12), (100, 6), (100, 6), (5, 0), (100, 572), (102, 2), (5, 0), (100, 572), (5, 0), (100, 572), (101, 2), (7, 0), (100, 6), (100, 6), (7, 0), (100, 6), (100, 6), (0, 0), (103, 6), (8, 0), (2, 0), (1, 0), (3, 0), (4, 0), (6, 0), (100, 90), (100, 383), (100, 6), (100, 6), (100, 6), (100, 6), (12, 0), (100, 12), (100, 6), (100, 573), (100, 1146), (101, 2), (100, 12), (100, 12), (100, 150), (100, 12), (100, 6), (100, 6), (100, 6), (100, 6), (100, 6), (100, 6), (100, 1000)] : List (Nat × Nat)).getD a (99, 0)
/-- what the fields and rows of references hold that never change -/
def zsr (a k : Nat) : Nat := (([[1, 0, 0, 11, 13, 18, 19, 22, 25, 26, 33, 34, 35, 36, 37, 38], [2], [], [4, 5, 6], [], [], [], [8, 9, 10], [], [], [], [12], [], [14, 16], [15], [], [17], [], [], [20, 21], [], [], [23, 24], [], [], [], [27, 28, 29, 30, 31, 32], [], [], [], [], [], [], [], [], [], [], [], [], [0, 40, 0, 0, 0, 41, 42, 43, 44, 0, 45, 0, 46, 0, 47, 0, 0, 0, 0, 0, 0, 0, 0, 48, 0, 0, 0, 49, 50, 51, 52, 53, 54, 55], [], [], [], [], [], [], [], [], [], [], [], [], [], [], [], []] : List (List Nat)).getD a []).getD k 0
end
section
/-- a method: its name, its bytes, how many locals, what it returns, its room -/
abbrev zM : Type := MethodName × ByteArray × Nat × Option FieldType × Nat × Nat
def M_a_init : zM := (⟨"RoseWheel$Asked", "<init>", "()V"⟩, prog_2_method_1_code, 1, none, 1, 20)
def M_kE_init : zM := (⟨"RoseWheel$Beadle", "<init>", "()V"⟩, prog_3_method_1_code, 1, none, 2, 40)
def M_kE_worth : zM := (⟨"RoseWheel$Beadle", "worth", "(LRoseWheel$Asked;)I"⟩, prog_3_method_2_code, 2, some .int, 1, 21)
def M_kB_init : zM := (⟨"RoseWheel$Blind", "<init>", "()V"⟩, prog_4_method_1_code, 1, none, 2, 40)
def M_kB_worth : zM := (⟨"RoseWheel$Blind", "worth", "(LRoseWheel$Asked;)I"⟩, prog_4_method_2_code, 2, some .int, 1, 21)
def M_kC_init : zM := (⟨"RoseWheel$Cripple", "<init>", "()V"⟩, prog_5_method_1_code, 1, none, 3, 60)
def M_kC_worth : zM := (⟨"RoseWheel$Cripple", "worth", "(LRoseWheel$Asked;)I"⟩, prog_5_method_2_code, 2, some .int, 2, 42)
def M_kD_init : zM := (⟨"RoseWheel$Daughter", "<init>", "()V"⟩, prog_6_method_1_code, 1, none, 3, 60)
def M_kD_worth : zM := (⟨"RoseWheel$Daughter", "worth", "(LRoseWheel$Asked;)I"⟩, prog_6_method_2_code, 2, some .int, 2, 42)
def M_d_init : zM := (⟨"RoseWheel$Days", "<init>", "()V"⟩, prog_7_method_1_code, 1, none, 1, 20)
def M_d_debt : zM := (⟨"RoseWheel$Days", "debt", "(II)I"⟩, prog_7_method_2_code, 2, some .int, 0, 0)
def M_d_value : zM := (⟨"RoseWheel$Days", "value", "(I)I"⟩, prog_7_method_3_code, 3, some .int, 0, 0)
def M_d_put : zM := (⟨"RoseWheel$Days", "put", "(II)V"⟩, prog_7_method_4_code, 4, none, 0, 0)
def M_d_begin : zM := (⟨"RoseWheel$Days", "begin", "(LRoseWheel$Window;)V"⟩, prog_7_method_5_code, 3, none, 1, 23)
def M_d_remember : zM := (⟨"RoseWheel$Days", "remember", "()V"⟩, prog_7_method_6_code, 1, none, 1, 26)
def M_d_become : zM := (⟨"RoseWheel$Days", "become", "(LRoseWheel$Days;)V"⟩, prog_7_method_7_code, 2, none, 1, 26)
def M_kG_init : zM := (⟨"RoseWheel$Dog", "<init>", "()V"⟩, prog_8_method_1_code, 1, none, 2, 40)
def M_kG_worth : zM := (⟨"RoseWheel$Dog", "worth", "(LRoseWheel$Asked;)I"⟩, prog_8_method_2_code, 2, some .int, 1, 21)
def M_n_init : zM := (⟨"RoseWheel$Notes", "<init>", "()V"⟩, prog_9_method_1_code, 1, none, 1, 20)
def M_n_add : zM := (⟨"RoseWheel$Notes", "add", "(II)Z"⟩, prog_9_method_2_code, 3, some .boolean, 0, 0)
def M_kO_init : zM := (⟨"RoseWheel$One", "<init>", "()V"⟩, prog_10_method_1_code, 1, none, 1, 20)
def M_kO_worth : zM := (⟨"RoseWheel$One", "worth", "(LRoseWheel$Asked;)I"⟩, prog_10_method_2_code, 2, some .int, 0, 0)
def M_t_init : zM := (⟨"RoseWheel$Text", "<init>", "()V"⟩, prog_11_method_1_code, 1, none, 1, 20)
def M_t_add : zM := (⟨"RoseWheel$Text", "add", "(I)Z"⟩, prog_11_method_2_code, 2, some .boolean, 0, 0)
def M_t_readInto : zM := (⟨"RoseWheel$Text", "readInto", "(LRoseWheel$Window;)I"⟩, prog_11_method_3_code, 3, some .int, 6, 127)
def M_t_readItem : zM := (⟨"RoseWheel$Text", "readItem", "(LRoseWheel$Window;)Z"⟩, prog_11_method_4_code, 2, some .boolean, 5, 106)
def M_t_readPane : zM := (⟨"RoseWheel$Text", "readPane", "(LRoseWheel$Window;)Z"⟩, prog_11_method_5_code, 2, some .boolean, 4, 85)
def M_t_readKeeps : zM := (⟨"RoseWheel$Text", "readKeeps", "(LRoseWheel$Window;)Z"⟩, prog_11_method_6_code, 2, some .boolean, 4, 85)
def M_t_readDrag : zM := (⟨"RoseWheel$Text", "readDrag", "(LRoseWheel$Window;)Z"⟩, prog_11_method_7_code, 2, some .boolean, 4, 85)
def M_t_readPerson : zM := (⟨"RoseWheel$Text", "readPerson", "(LRoseWheel$Window;)Z"⟩, prog_11_method_8_code, 2, some .boolean, 4, 85)
def M_t_readNumber : zM := (⟨"RoseWheel$Text", "readNumber", "(II)Z"⟩, prog_11_method_9_code, 3, some .boolean, 3, 63)
def M_t_readSemicolon : zM := (⟨"RoseWheel$Text", "readSemicolon", "()Z"⟩, prog_11_method_10_code, 1, some .boolean, 3, 63)
def M_t_readToken : zM := (⟨"RoseWheel$Text", "readToken", "()V"⟩, prog_11_method_11_code, 2, none, 2, 42)
def M_t_readLetters : zM := (⟨"RoseWheel$Text", "readLetters", "()V"⟩, prog_11_method_12_code, 1, none, 1, 21)
def M_t_readDigits : zM := (⟨"RoseWheel$Text", "readDigits", "()V"⟩, prog_11_method_13_code, 2, none, 1, 21)
def M_t_byteAt : zM := (⟨"RoseWheel$Text", "byteAt", "(I)I"⟩, prog_11_method_14_code, 2, some .int, 0, 0)
def M_t_isLetter : zM := (⟨"RoseWheel$Text", "isLetter", "(I)Z"⟩, prog_11_method_15_code, 1, some .boolean, 0, 0)
def M_t_isDigit : zM := (⟨"RoseWheel$Text", "isDigit", "(I)Z"⟩, prog_11_method_16_code, 1, some .boolean, 0, 0)
def M_w_init : zM := (⟨"RoseWheel$Window", "<init>", "()V"⟩, prog_12_method_1_code, 1, none, 1, 20)
def M_w_empty : zM := (⟨"RoseWheel$Window", "empty", "()V"⟩, prog_12_method_2_code, 1, none, 0, 0)
def M_w_hasSpot : zM := (⟨"RoseWheel$Window", "hasSpot", "(I)Z"⟩, prog_12_method_3_code, 2, some .boolean, 0, 0)
def M_w_hasPerson : zM := (⟨"RoseWheel$Window", "hasPerson", "(I)Z"⟩, prog_12_method_4_code, 2, some .boolean, 0, 0)
def M_w_isPlaceTold : zM := (⟨"RoseWheel$Window", "isPlaceTold", "(I)Z"⟩, prog_12_method_5_code, 3, some .boolean, 0, 0)
def M_w_roundThe : zM := (⟨"RoseWheel$Window", "roundThe", "(I)I"⟩, prog_12_method_6_code, 2, some .int, 1, 22)
def M_w_wayRound : zM := (⟨"RoseWheel$Window", "wayRound", "(II)I"⟩, prog_12_method_7_code, 3, some .int, 2, 43)
def M_w_colourAt : zM := (⟨"RoseWheel$Window", "colourAt", "(II)I"⟩, prog_12_method_8_code, 3, some .int, 2, 43)
def M_w_leastLikeTurn : zM := (⟨"RoseWheel$Window", "leastLikeTurn", "()I"⟩, prog_12_method_9_code, 2, some .int, 4, 87)
def M_w_isAlike : zM := (⟨"RoseWheel$Window", "isAlike", "(I)Z"⟩, prog_12_method_10_code, 3, some .boolean, 3, 65)
def M_w_clicksOf : zM := (⟨"RoseWheel$Window", "clicksOf", "(I)I"⟩, prog_12_method_11_code, 2, some .int, 1, 25)
def M_w_clicksBy : zM := (⟨"RoseWheel$Window", "clicksBy", "(III)I"⟩, prog_12_method_12_code, 6, some .int, 0, 0)
def M_x_init : zM := (⟨"RoseWheel", "<init>", "()V"⟩, prog_1_method_1_code, 1, none, 4, 80)
def M_x_type : zM := (⟨"RoseWheel", "type", "(I)I"⟩, prog_1_method_2_code, 2, some .int, 1, 22)
def M_x_clear : zM := (⟨"RoseWheel", "clear", "()I"⟩, prog_1_method_3_code, 2, some .int, 0, 0)
def M_x_rose : zM := (⟨"RoseWheel", "rose", "()I"⟩, prog_1_method_4_code, 4, some .int, 7, 149)
def M_x_pane : zM := (⟨"RoseWheel", "pane", "(I)I"⟩, prog_1_method_5_code, 2, some .int, 1, 21)
def M_x_one : zM := (⟨"RoseWheel", "one", "(II)I"⟩, prog_1_method_6_code, 3, some .int, 4, 86)
def M_x_owed : zM := (⟨"RoseWheel", "owed", "(II)I"⟩, prog_1_method_7_code, 3, some .int, 2, 43)
def M_x_spins : zM := (⟨"RoseWheel", "spins", "(I)I"⟩, prog_1_method_8_code, 2, some .int, 6, 131)
def M_x_goes : zM := (⟨"RoseWheel", "goes", "(II)I"⟩, prog_1_method_9_code, 4, some .int, 2, 46)
def M_x_passes : zM := (⟨"RoseWheel", "passes", "(I)I"⟩, prog_1_method_10_code, 2, some .int, 2, 46)
def M_x_covers : zM := (⟨"RoseWheel", "covers", "(I)I"⟩, prog_1_method_11_code, 4, some .int, 4, 86)
def M_x_forgives : zM := (⟨"RoseWheel", "forgives", "(II)I"⟩, prog_1_method_12_code, 4, some .int, 2, 46)
def M_x_undo : zM := (⟨"RoseWheel", "undo", "()I"⟩, prog_1_method_13_code, 1, some .int, 0, 0)
def M_x_now : zM := (⟨"RoseWheel", "now", "(I)I"⟩, prog_1_method_14_code, 2, some .int, 5, 108)
def M_x_clicks : zM := (⟨"RoseWheel", "clicks", "(I)I"⟩, prog_1_method_15_code, 2, some .int, 2, 46)
def M_x_stops : zM := (⟨"RoseWheel", "stops", "(I)I"⟩, prog_1_method_16_code, 2, some .int, 3, 67)
def M_x_shade : zM := (⟨"RoseWheel", "shade", "(II)I"⟩, prog_1_method_17_code, 3, some .int, 4, 89)
def M_x_speeds : zM := (⟨"RoseWheel", "speeds", "(III)I"⟩, prog_1_method_18_code, 4, some .int, 5, 114)
def M_x_steps : zM := (⟨"RoseWheel", "steps", "(IIII)I"⟩, prog_1_method_19_code, 12, some .int, 4, 89)
def M_x_chair : zM := (⟨"RoseWheel", "chair", "(II)I"⟩, prog_1_method_20_code, 7, some .int, 5, 114)
def M_x_seats : zM := (⟨"RoseWheel", "seats", "(II)I"⟩, prog_1_method_21_code, 4, some .int, 6, 142)
def M_x_odds : zM := (⟨"RoseWheel", "odds", "(IIIII)I"⟩, prog_1_method_22_code, 11, some .int, 5, 114)
def M_x_saw : zM := (⟨"RoseWheel", "saw", "(II)I"⟩, prog_1_method_23_code, 3, some .int, 2, 42)
def M_x_spun : zM := (⟨"RoseWheel", "spun", "(I)I"⟩, prog_1_method_24_code, 6, some .int, 5, 111)
def M_x_look : zM := (⟨"RoseWheel", "look", "()I"⟩, prog_1_method_25_code, 7, some .int, 6, 134)
def M_x_hears : zM := (⟨"RoseWheel", "hears", "(II)I"⟩, prog_1_method_26_code, 3, some .int, 2, 42)
def M_x_laws : zM := (⟨"RoseWheel", "laws", "(I)I"⟩, prog_1_method_27_code, 3, some .int, 3, 71)
def M_x_tryNext : zM := (⟨"RoseWheel", "tryNext", "()I"⟩, prog_1_method_28_code, 6, some .int, 3, 71)
def M_x_forget : zM := (⟨"RoseWheel", "forget", "()I"⟩, prog_1_method_29_code, 2, some .int, 0, 0)
def M_x_mark : zM := (⟨"RoseWheel", "mark", "(II)I"⟩, prog_1_method_30_code, 3, some .int, 4, 86)
def M_x_keep : zM := (⟨"RoseWheel", "keep", "(I)I"⟩, prog_1_method_31_code, 2, some .int, 2, 47)
def M_x_back : zM := (⟨"RoseWheel", "back", "(I)I"⟩, prog_1_method_32_code, 2, some .int, 2, 47)
def M_x_count : zM := (⟨"RoseWheel", "count", "(I)I"⟩, prog_1_method_33_code, 2, some .int, 0, 0)
def M_x_trace : zM := (⟨"RoseWheel", "trace", "()J"⟩, prog_1_method_34_code, 1, some .long, 0, 0)
def M_x_isWithin : zM := (⟨"RoseWheel", "isWithin", "(III)Z"⟩, prog_1_method_35_code, 3, some .boolean, 0, 0)
def M_x_isSpeed : zM := (⟨"RoseWheel", "isSpeed", "(I)Z"⟩, prog_1_method_36_code, 1, some .boolean, 1, 22)
def M_x_isColour : zM := (⟨"RoseWheel", "isColour", "(I)Z"⟩, prog_1_method_37_code, 1, some .boolean, 1, 22)
def M_x_areTwo : zM := (⟨"RoseWheel", "areTwo", "(II)Z"⟩, prog_1_method_38_code, 3, some .boolean, 1, 21)
def M_x_colourOf : zM := (⟨"RoseWheel", "colourOf", "(I)I"⟩, prog_1_method_39_code, 2, some .int, 3, 65)
def M_x_whoIsOn : zM := (⟨"RoseWheel", "whoIsOn", "(I)I"⟩, prog_1_method_40_code, 3, some .int, 1, 22)
def M_x_holdFeast : zM := (⟨"RoseWheel", "holdFeast", "()V"⟩, prog_1_method_41_code, 4, none, 5, 108)
def M_x_oweBlueTo : zM := (⟨"RoseWheel", "oweBlueTo", "(I)V"⟩, prog_1_method_42_code, 3, none, 4, 86)
def M_x_owedByAll : zM := (⟨"RoseWheel", "owedByAll", "(I)I"⟩, prog_1_method_43_code, 4, some .int, 1, 22)
def M_x_owedInAll : zM := (⟨"RoseWheel", "owedInAll", "()I"⟩, prog_1_method_44_code, 3, some .int, 2, 45)
def M_x_ringOfDebts : zM := (⟨"RoseWheel", "ringOfDebts", "()I"⟩, prog_1_method_45_code, 3, some .int, 3, 70)
def M_x_debtorsBehind : zM := (⟨"RoseWheel", "debtorsBehind", "(I)I"⟩, prog_1_method_46_code, 6, some .int, 2, 45)
def M_x_debtorsOf : zM := (⟨"RoseWheel", "debtorsOf", "(I)I"⟩, prog_1_method_47_code, 4, some .int, 1, 22)
def M_x_turnBehind : zM := (⟨"RoseWheel", "turnBehind", "(I)I"⟩, prog_1_method_48_code, 2, some .int, 2, 46)
def M_x_colourBehind : zM := (⟨"RoseWheel", "colourBehind", "(II)I"⟩, prog_1_method_49_code, 3, some .int, 3, 67)
def M_x_speedsFor : zM := (⟨"RoseWheel", "speedsFor", "(III)I"⟩, prog_1_method_50_code, 6, some .int, 4, 89)
def M_x_leastSpeedFor : zM := (⟨"RoseWheel", "leastSpeedFor", "(II)I"⟩, prog_1_method_51_code, 4, some .int, 4, 89)
def M_x_commonDivisor : zM := (⟨"RoseWheel", "commonDivisor", "(II)I"⟩, prog_1_method_52_code, 6, some .int, 0, 0)
def M_x_seatAll : zM := (⟨"RoseWheel", "seatAll", "(I)I"⟩, prog_1_method_53_code, 7, some .int, 5, 116)
def M_x_lowestSeat : zM := (⟨"RoseWheel", "lowestSeat", "(IIII)I"⟩, prog_1_method_54_code, 8, some .int, 4, 89)
def M_x_mostServed : zM := (⟨"RoseWheel", "mostServed", "()I"⟩, prog_1_method_55_code, 3, some .int, 1, 21)
def M_x_isAsSeen : zM := (⟨"RoseWheel", "isAsSeen", "(I)Z"⟩, prog_1_method_56_code, 3, some .boolean, 4, 89)
def M_x_speedsAsSeen : zM := (⟨"RoseWheel", "speedsAsSeen", "()J"⟩, prog_1_method_57_code, 4, some .long, 5, 111)
def M_x_mostOfOneColour : zM := (⟨"RoseWheel", "mostOfOneColour", "(IJ)I"⟩, prog_1_method_58_code, 7, some .int, 4, 89)
def M_x_findLaws : zM := (⟨"RoseWheel", "findLaws", "()I"⟩, prog_1_method_59_code, 4, some .int, 2, 48)
def M_x_isAsHeard : zM := (⟨"RoseWheel", "isAsHeard", "(II)Z"⟩, prog_1_method_60_code, 4, some .boolean, 1, 25)
def M_x_mostOfOneSound : zM := (⟨"RoseWheel", "mostOfOneSound", "(II)I"⟩, prog_1_method_61_code, 6, some .int, 1, 25)
def M_m_init : zM := (⟨"RoseWheelModel", "<init>", "()V"⟩, prog_14_method_1_code, 1, none, 1, 20)
def M_m_in : zM := (⟨"RoseWheelModel", "in", "(III)Z"⟩, prog_14_method_3_code, 3, some .boolean, 0, 0)
def M_m_has : zM := (⟨"RoseWheelModel", "has", "(II)Z"⟩, prog_14_method_4_code, 2, some .boolean, 0, 0)
def M_m_isOne : zM := (⟨"RoseWheelModel", "isOne", "(I)Z"⟩, prog_14_method_5_code, 2, some .boolean, 1, 22)
def M_m_isSpot : zM := (⟨"RoseWheelModel", "isSpot", "(I)Z"⟩, prog_14_method_6_code, 2, some .boolean, 1, 22)
def M_m_isColour : zM := (⟨"RoseWheelModel", "isColour", "(I)Z"⟩, prog_14_method_7_code, 1, some .boolean, 1, 22)
def M_m_isSpeed : zM := (⟨"RoseWheelModel", "isSpeed", "(I)Z"⟩, prog_14_method_8_code, 1, some .boolean, 1, 22)
def M_m_type : zM := (⟨"RoseWheelModel", "type", "(I)I"⟩, prog_14_method_9_code, 2, some .int, 1, 22)
def M_m_clear : zM := (⟨"RoseWheelModel", "clear", "()I"⟩, prog_14_method_10_code, 2, some .int, 0, 0)
def M_m_letterAt : zM := (⟨"RoseWheelModel", "letterAt", "(I)I"⟩, prog_14_method_11_code, 2, some .int, 0, 0)
def M_m_isFigure : zM := (⟨"RoseWheelModel", "isFigure", "(I)Z"⟩, prog_14_method_12_code, 1, some .boolean, 1, 22)
def M_m_isLetter : zM := (⟨"RoseWheelModel", "isLetter", "(I)Z"⟩, prog_14_method_13_code, 1, some .boolean, 1, 22)
def M_m_next : zM := (⟨"RoseWheelModel", "next", "()V"⟩, prog_14_method_14_code, 2, none, 2, 42)
def M_m_takesNumber : zM := (⟨"RoseWheelModel", "takesNumber", "(II)I"⟩, prog_14_method_15_code, 5, some .int, 3, 63)
def M_m_readOne : zM := (⟨"RoseWheelModel", "readOne", "()V"⟩, prog_14_method_16_code, 2, none, 4, 87)
def M_m_mayBegin : zM := (⟨"RoseWheelModel", "mayBegin", "(I)Z"⟩, prog_14_method_17_code, 2, some .boolean, 0, 0)
def M_m_readItem : zM := (⟨"RoseWheelModel", "readItem", "()V"⟩, prog_14_method_18_code, 2, none, 5, 108)
def M_m_rose : zM := (⟨"RoseWheelModel", "rose", "()I"⟩, prog_14_method_19_code, 1, some .int, 6, 129)
def M_m_settles : zM := (⟨"RoseWheelModel", "settles", "()V"⟩, prog_14_method_20_code, 2, none, 0, 0)
def M_m_pane : zM := (⟨"RoseWheelModel", "pane", "(I)I"⟩, prog_14_method_21_code, 2, some .int, 2, 43)
def M_m_colourAt : zM := (⟨"RoseWheelModel", "colourAt", "(II)I"⟩, prog_14_method_22_code, 3, some .int, 0, 0)
def M_m_standsIn : zM := (⟨"RoseWheelModel", "standsIn", "(I)I"⟩, prog_14_method_23_code, 2, some .int, 1, 22)
def M_m_owedAll : zM := (⟨"RoseWheelModel", "owedAll", "(I)I"⟩, prog_14_method_24_code, 4, some .int, 0, 0)
def M_m_one : zM := (⟨"RoseWheelModel", "one", "(II)I"⟩, prog_14_method_25_code, 3, some .int, 2, 43)
def M_m_areTwo : zM := (⟨"RoseWheelModel", "areTwo", "(II)Z"⟩, prog_14_method_26_code, 3, some .boolean, 2, 43)
def M_m_owed : zM := (⟨"RoseWheelModel", "owed", "(II)I"⟩, prog_14_method_27_code, 3, some .int, 3, 65)
def M_m_remembers : zM := (⟨"RoseWheelModel", "remembers", "()V"⟩, prog_14_method_28_code, 3, none, 0, 0)
def M_m_clicksBy : zM := (⟨"RoseWheelModel", "clicksBy", "(III)I"⟩, prog_14_method_29_code, 5, some .int, 0, 0)
def M_m_clicksOf : zM := (⟨"RoseWheelModel", "clicksOf", "(I)I"⟩, prog_14_method_30_code, 2, some .int, 1, 24)
def M_m_feasts : zM := (⟨"RoseWheelModel", "feasts", "()V"⟩, prog_14_method_31_code, 4, none, 2, 43)
def M_m_spins : zM := (⟨"RoseWheelModel", "spins", "(I)I"⟩, prog_14_method_32_code, 2, some .int, 3, 66)
def M_m_whoHas : zM := (⟨"RoseWheelModel", "whoHas", "(I)I"⟩, prog_14_method_33_code, 4, some .int, 0, 0)
def M_m_goes : zM := (⟨"RoseWheelModel", "goes", "(II)I"⟩, prog_14_method_34_code, 4, some .int, 2, 43)
def M_m_passes : zM := (⟨"RoseWheelModel", "passes", "(I)I"⟩, prog_14_method_35_code, 2, some .int, 1, 22)
def M_m_covers : zM := (⟨"RoseWheelModel", "covers", "(I)I"⟩, prog_14_method_36_code, 4, some .int, 2, 43)
def M_m_forgives : zM := (⟨"RoseWheelModel", "forgives", "(II)I"⟩, prog_14_method_37_code, 4, some .int, 3, 65)
def M_m_undo : zM := (⟨"RoseWheelModel", "undo", "()I"⟩, prog_14_method_38_code, 3, some .int, 0, 0)
def M_m_isAlike : zM := (⟨"RoseWheelModel", "isAlike", "(I)Z"⟩, prog_14_method_39_code, 4, some .boolean, 0, 0)
def M_m_alike : zM := (⟨"RoseWheelModel", "alike", "()I"⟩, prog_14_method_40_code, 3, some .int, 1, 23)
def M_m_ring : zM := (⟨"RoseWheelModel", "ring", "()I"⟩, prog_14_method_41_code, 3, some .int, 1, 21)
def M_m_now : zM := (⟨"RoseWheelModel", "now", "(I)I"⟩, prog_14_method_42_code, 4, some .int, 2, 45)
def M_m_clicks : zM := (⟨"RoseWheelModel", "clicks", "(I)I"⟩, prog_14_method_43_code, 2, some .int, 2, 45)
def M_m_stops : zM := (⟨"RoseWheelModel", "stops", "(I)I"⟩, prog_14_method_44_code, 2, some .int, 2, 45)
def M_m_shadeOf : zM := (⟨"RoseWheelModel", "shadeOf", "(II)I"⟩, prog_14_method_45_code, 3, some .int, 2, 45)
def M_m_shade : zM := (⟨"RoseWheelModel", "shade", "(II)I"⟩, prog_14_method_46_code, 3, some .int, 3, 67)
def M_m_speedsOf : zM := (⟨"RoseWheelModel", "speedsOf", "(III)I"⟩, prog_14_method_47_code, 6, some .int, 3, 67)
def M_m_speeds : zM := (⟨"RoseWheelModel", "speeds", "(III)I"⟩, prog_14_method_48_code, 6, some .int, 4, 92)
def M_m_steps : zM := (⟨"RoseWheelModel", "steps", "(IIII)I"⟩, prog_14_method_49_code, 12, some .int, 3, 67)
def M_m_chair : zM := (⟨"RoseWheelModel", "chair", "(II)I"⟩, prog_14_method_50_code, 7, some .int, 4, 92)
def M_m_mostYet : zM := (⟨"RoseWheelModel", "mostYet", "()I"⟩, prog_14_method_51_code, 3, some .int, 0, 0)
def M_m_sits : zM := (⟨"RoseWheelModel", "sits", "(I)I"⟩, prog_14_method_52_code, 10, some .int, 3, 67)
def M_m_seats : zM := (⟨"RoseWheelModel", "seats", "(II)I"⟩, prog_14_method_53_code, 4, some .int, 4, 96)
def M_m_lowest : zM := (⟨"RoseWheelModel", "lowest", "(III)I"⟩, prog_14_method_54_code, 6, some .int, 0, 0)
def M_m_odds : zM := (⟨"RoseWheelModel", "odds", "(IIIII)I"⟩, prog_14_method_55_code, 7, some .int, 4, 92)
def M_m_saw : zM := (⟨"RoseWheelModel", "saw", "(II)I"⟩, prog_14_method_56_code, 3, some .int, 2, 43)
def M_m_isSeen : zM := (⟨"RoseWheelModel", "isSeen", "(I)Z"⟩, prog_14_method_57_code, 4, some .boolean, 3, 67)
def M_m_spun : zM := (⟨"RoseWheelModel", "spun", "(I)I"⟩, prog_14_method_58_code, 6, some .int, 4, 90)
def M_m_look : zM := (⟨"RoseWheelModel", "look", "()I"⟩, prog_14_method_59_code, 7, some .int, 5, 115)
def M_m_hears : zM := (⟨"RoseWheelModel", "hears", "(II)I"⟩, prog_14_method_60_code, 3, some .int, 2, 42)
def M_m_isHeard : zM := (⟨"RoseWheelModel", "isHeard", "(II)Z"⟩, prog_14_method_61_code, 5, some .boolean, 1, 24)
def M_m_laws : zM := (⟨"RoseWheelModel", "laws", "(I)I"⟩, prog_14_method_62_code, 5, some .int, 2, 48)
def M_m_greatest : zM := (⟨"RoseWheelModel", "greatest", "(I)I"⟩, prog_14_method_63_code, 5, some .int, 2, 48)
def M_m_tryNext : zM := (⟨"RoseWheelModel", "tryNext", "()I"⟩, prog_14_method_64_code, 6, some .int, 3, 72)
def M_m_forget : zM := (⟨"RoseWheelModel", "forget", "()I"⟩, prog_14_method_65_code, 2, some .int, 0, 0)
def M_m_mark : zM := (⟨"RoseWheelModel", "mark", "(II)I"⟩, prog_14_method_66_code, 6, some .int, 2, 43)
def M_m_keep : zM := (⟨"RoseWheelModel", "keep", "(I)I"⟩, prog_14_method_67_code, 3, some .int, 1, 22)
def M_m_back : zM := (⟨"RoseWheelModel", "back", "(I)I"⟩, prog_14_method_68_code, 3, some .int, 1, 22)
def M_m_count : zM := (⟨"RoseWheelModel", "count", "(I)I"⟩, prog_14_method_69_code, 2, some .int, 0, 0)
def M_m_trace : zM := (⟨"RoseWheelModel", "trace", "()J"⟩, prog_14_method_70_code, 1, some .long, 0, 0)
def M_j_floorMod : zM := (⟨"java/lang/Math", "floorMod", "(II)I"⟩, prog_15_method_50_code, 3, some .int, 0, 0)
def M_j_max : zM := (⟨"java/lang/Math", "max", "(II)I"⟩, prog_15_method_65_code, 2, some .int, 0, 0)
def M_j_min : zM := (⟨"java/lang/Math", "min", "(II)I"⟩, prog_15_method_69_code, 2, some .int, 0, 0)
def M_j_fill : zM := (⟨"java/util/Arrays", "fill", "([II)V"⟩, prog_17_method_103_code, 4, none, 0, 0)
end
section
theorem D_kE_worth_0 : decode M_kE_worth.2.1 0 = .ok (.aload_n 1, 1) := by decide +kernel
theorem D_kE_worth_1 : decode M_kE_worth.2.1 1 = .ok (.dup, 1) := by decide +kernel
theorem D_kE_worth_2 : decode M_kE_worth.2.1 2 = .ok (.getfield 7, 3) := by decide +kernel
theorem D_kE_worth_5 : decode M_kE_worth.2.1 5 = .ok (.ldc2_w 13, 3) := by decide +kernel
theorem D_kE_worth_8 : decode M_kE_worth.2.1 8 = .ok (.ladd, 1) := by decide +kernel
theorem D_kE_worth_9 : decode M_kE_worth.2.1 9 = .ok (.putfield 7, 3) := by decide +kernel
theorem D_kE_worth_12 : decode M_kE_worth.2.1 12 = .ok (.aload_n 0, 1) := by decide +kernel
theorem D_kE_worth_13 : decode M_kE_worth.2.1 13 = .ok (.aload_n 1, 1) := by decide +kernel
theorem D_kE_worth_14 : decode M_kE_worth.2.1 14 = .ok (.invokespecial 15, 3) := by decide +kernel
theorem D_kE_worth_17 : decode M_kE_worth.2.1 17 = .ok (.aload_n 1, 1) := by decide +kernel
theorem D_kE_worth_18 : decode M_kE_worth.2.1 18 = .ok (.getfield 19, 3) := by decide +kernel
theorem D_kE_worth_21 : decode M_kE_worth.2.1 21 = .ok (.isub, 1) := by decide +kernel
theorem D_kE_worth_22 : decode M_kE_worth.2.1 22 = .ok (.ireturn, 1) := by decide +kernel
theorem D_kB_worth_0 : decode M_kB_worth.2.1 0 = .ok (.aload_n 1, 1) := by decide +kernel
theorem D_kB_worth_1 : decode M_kB_worth.2.1 1 = .ok (.dup, 1) := by decide +kernel
theorem D_kB_worth_2 : decode M_kB_worth.2.1 2 = .ok (.getfield 7, 3) := by decide +kernel
theorem D_kB_worth_5 : decode M_kB_worth.2.1 5 = .ok (.ldc2_w 13, 3) := by decide +kernel
theorem D_kB_worth_8 : decode M_kB_worth.2.1 8 = .ok (.ladd, 1) := by decide +kernel
theorem D_kB_worth_9 : decode M_kB_worth.2.1 9 = .ok (.putfield 7, 3) := by decide +kernel
theorem D_kB_worth_12 : decode M_kB_worth.2.1 12 = .ok (.aload_n 0, 1) := by decide +kernel
theorem D_kB_worth_13 : decode M_kB_worth.2.1 13 = .ok (.aload_n 1, 1) := by decide +kernel
theorem D_kB_worth_14 : decode M_kB_worth.2.1 14 = .ok (.invokespecial 15, 3) := by decide +kernel
theorem D_kB_worth_17 : decode M_kB_worth.2.1 17 = .ok (.aload_n 1, 1) := by decide +kernel
theorem D_kB_worth_18 : decode M_kB_worth.2.1 18 = .ok (.getfield 19, 3) := by decide +kernel
theorem D_kB_worth_21 : decode M_kB_worth.2.1 21 = .ok (.iadd, 1) := by decide +kernel
theorem D_kB_worth_22 : decode M_kB_worth.2.1 22 = .ok (.ireturn, 1) := by decide +kernel
theorem D_kC_worth_0 : decode M_kC_worth.2.1 0 = .ok (.aload_n 1, 1) := by decide +kernel
theorem D_kC_worth_1 : decode M_kC_worth.2.1 1 = .ok (.dup, 1) := by decide +kernel
theorem D_kC_worth_2 : decode M_kC_worth.2.1 2 = .ok (.getfield 7, 3) := by decide +kernel
theorem D_kC_worth_5 : decode M_kC_worth.2.1 5 = .ok (.ldc2_w 13, 3) := by decide +kernel
theorem D_kC_worth_8 : decode M_kC_worth.2.1 8 = .ok (.ladd, 1) := by decide +kernel
theorem D_kC_worth_9 : decode M_kC_worth.2.1 9 = .ok (.putfield 7, 3) := by decide +kernel
theorem D_kC_worth_12 : decode M_kC_worth.2.1 12 = .ok (.aload_n 0, 1) := by decide +kernel
theorem D_kC_worth_13 : decode M_kC_worth.2.1 13 = .ok (.aload_n 1, 1) := by decide +kernel
theorem D_kC_worth_14 : decode M_kC_worth.2.1 14 = .ok (.invokespecial 15, 3) := by decide +kernel
theorem D_kC_worth_17 : decode M_kC_worth.2.1 17 = .ok (.iconst 2, 1) := by decide +kernel
theorem D_kC_worth_18 : decode M_kC_worth.2.1 18 = .ok (.imul, 1) := by decide +kernel
theorem D_kC_worth_19 : decode M_kC_worth.2.1 19 = .ok (.ireturn, 1) := by decide +kernel
theorem D_kD_worth_0 : decode M_kD_worth.2.1 0 = .ok (.aload_n 1, 1) := by decide +kernel
theorem D_kD_worth_1 : decode M_kD_worth.2.1 1 = .ok (.dup, 1) := by decide +kernel
theorem D_kD_worth_2 : decode M_kD_worth.2.1 2 = .ok (.getfield 7, 3) := by decide +kernel
theorem D_kD_worth_5 : decode M_kD_worth.2.1 5 = .ok (.ldc2_w 13, 3) := by decide +kernel
theorem D_kD_worth_8 : decode M_kD_worth.2.1 8 = .ok (.ladd, 1) := by decide +kernel
theorem D_kD_worth_9 : decode M_kD_worth.2.1 9 = .ok (.putfield 7, 3) := by decide +kernel
theorem D_kD_worth_12 : decode M_kD_worth.2.1 12 = .ok (.aload_n 0, 1) := by decide +kernel
theorem D_kD_worth_13 : decode M_kD_worth.2.1 13 = .ok (.aload_n 1, 1) := by decide +kernel
theorem D_kD_worth_14 : decode M_kD_worth.2.1 14 = .ok (.invokespecial 15, 3) := by decide +kernel
theorem D_kD_worth_17 : decode M_kD_worth.2.1 17 = .ok (.aload_n 1, 1) := by decide +kernel
theorem D_kD_worth_18 : decode M_kD_worth.2.1 18 = .ok (.getfield 19, 3) := by decide +kernel
theorem D_kD_worth_21 : decode M_kD_worth.2.1 21 = .ok (.iadd, 1) := by decide +kernel
theorem D_kD_worth_22 : decode M_kD_worth.2.1 22 = .ok (.ireturn, 1) := by decide +kernel
theorem D_d_debt_0 : decode M_d_debt.2.1 0 = .ok (.bipush 16, 2) := by decide +kernel
theorem D_d_debt_2 : decode M_d_debt.2.1 2 = .ok (.iload_n 0, 1) := by decide +kernel
theorem D_d_debt_3 : decode M_d_debt.2.1 3 = .ok (.bipush 6, 2) := by decide +kernel
theorem D_d_debt_5 : decode M_d_debt.2.1 5 = .ok (.imul, 1) := by decide +kernel
theorem D_d_debt_6 : decode M_d_debt.2.1 6 = .ok (.iadd, 1) := by decide +kernel
theorem D_d_debt_7 : decode M_d_debt.2.1 7 = .ok (.iload_n 1, 1) := by decide +kernel
theorem D_d_debt_8 : decode M_d_debt.2.1 8 = .ok (.iadd, 1) := by decide +kernel
theorem D_d_debt_9 : decode M_d_debt.2.1 9 = .ok (.ireturn, 1) := by decide +kernel
theorem D_d_value_0 : decode M_d_value.2.1 0 = .ok (.aload_n 0, 1) := by decide +kernel
theorem D_d_value_1 : decode M_d_value.2.1 1 = .ok (.getfield 15, 3) := by decide +kernel
theorem D_d_value_4 : decode M_d_value.2.1 4 = .ok (.bipush 52, 2) := by decide +kernel
theorem D_d_value_6 : decode M_d_value.2.1 6 = .ok (.imul, 1) := by decide +kernel
theorem D_d_value_7 : decode M_d_value.2.1 7 = .ok (.iload_n 1, 1) := by decide +kernel
theorem D_d_value_8 : decode M_d_value.2.1 8 = .ok (.iadd, 1) := by decide +kernel
theorem D_d_value_9 : decode M_d_value.2.1 9 = .ok (.istore_n 2, 1) := by decide +kernel
theorem D_d_value_10 : decode M_d_value.2.1 10 = .ok (.iload_n 2, 1) := by decide +kernel
theorem D_d_value_11 : decode M_d_value.2.1 11 = .ok (.ifCond .lt 21, 3) := by decide +kernel
theorem D_d_value_14 : decode M_d_value.2.1 14 = .ok (.iload_n 2, 1) := by decide +kernel
theorem D_d_value_15 : decode M_d_value.2.1 15 = .ok (.aload_n 0, 1) := by decide +kernel
theorem D_d_value_16 : decode M_d_value.2.1 16 = .ok (.getfield 11, 3) := by decide +kernel
theorem D_d_value_19 : decode M_d_value.2.1 19 = .ok (.arraylength, 1) := by decide +kernel
theorem D_d_value_20 : decode M_d_value.2.1 20 = .ok (.if_icmp .ge 12, 3) := by decide +kernel
theorem D_d_value_23 : decode M_d_value.2.1 23 = .ok (.aload_n 0, 1) := by decide +kernel
theorem D_d_value_24 : decode M_d_value.2.1 24 = .ok (.getfield 11, 3) := by decide +kernel
theorem D_d_value_27 : decode M_d_value.2.1 27 = .ok (.iload_n 2, 1) := by decide +kernel
theorem D_d_value_28 : decode M_d_value.2.1 28 = .ok (.iaload, 1) := by decide +kernel
theorem D_d_value_29 : decode M_d_value.2.1 29 = .ok (.goto 4, 3) := by decide +kernel
theorem D_d_value_32 : decode M_d_value.2.1 32 = .ok (.iconst 0, 1) := by decide +kernel
theorem D_d_value_33 : decode M_d_value.2.1 33 = .ok (.ireturn, 1) := by decide +kernel
theorem D_d_put_0 : decode M_d_put.2.1 0 = .ok (.aload_n 0, 1) := by decide +kernel
theorem D_d_put_1 : decode M_d_put.2.1 1 = .ok (.getfield 15, 3) := by decide +kernel
theorem D_d_put_4 : decode M_d_put.2.1 4 = .ok (.bipush 52, 2) := by decide +kernel
theorem D_d_put_6 : decode M_d_put.2.1 6 = .ok (.imul, 1) := by decide +kernel
theorem D_d_put_7 : decode M_d_put.2.1 7 = .ok (.iload_n 1, 1) := by decide +kernel
theorem D_d_put_8 : decode M_d_put.2.1 8 = .ok (.iadd, 1) := by decide +kernel
theorem D_d_put_9 : decode M_d_put.2.1 9 = .ok (.istore_n 3, 1) := by decide +kernel
theorem D_d_put_10 : decode M_d_put.2.1 10 = .ok (.iload_n 3, 1) := by decide +kernel
theorem D_d_put_11 : decode M_d_put.2.1 11 = .ok (.ifCond .lt 19, 3) := by decide +kernel
theorem D_d_put_14 : decode M_d_put.2.1 14 = .ok (.iload_n 3, 1) := by decide +kernel
theorem D_d_put_15 : decode M_d_put.2.1 15 = .ok (.aload_n 0, 1) := by decide +kernel
theorem D_d_put_16 : decode M_d_put.2.1 16 = .ok (.getfield 11, 3) := by decide +kernel
theorem D_d_put_19 : decode M_d_put.2.1 19 = .ok (.arraylength, 1) := by decide +kernel
theorem D_d_put_20 : decode M_d_put.2.1 20 = .ok (.if_icmp .ge 10, 3) := by decide +kernel
theorem D_d_put_23 : decode M_d_put.2.1 23 = .ok (.aload_n 0, 1) := by decide +kernel
theorem D_d_put_24 : decode M_d_put.2.1 24 = .ok (.getfield 11, 3) := by decide +kernel
theorem D_d_put_27 : decode M_d_put.2.1 27 = .ok (.iload_n 3, 1) := by decide +kernel
theorem D_d_put_28 : decode M_d_put.2.1 28 = .ok (.iload_n 2, 1) := by decide +kernel
theorem D_d_put_29 : decode M_d_put.2.1 29 = .ok (.iastore, 1) := by decide +kernel
theorem D_d_put_30 : decode M_d_put.2.1 30 = .ok (.return_, 1) := by decide +kernel
theorem D_d_begin_0 : decode M_d_begin.2.1 0 = .ok (.aload_n 0, 1) := by decide +kernel
theorem D_d_begin_1 : decode M_d_begin.2.1 1 = .ok (.getfield 11, 3) := by decide +kernel
theorem D_d_begin_4 : decode M_d_begin.2.1 4 = .ok (.iconst 0, 1) := by decide +kernel
theorem D_d_begin_5 : decode M_d_begin.2.1 5 = .ok (.invokestatic 19, 3) := by decide +kernel
theorem D_d_begin_8 : decode M_d_begin.2.1 8 = .ok (.aload_n 0, 1) := by decide +kernel
theorem D_d_begin_9 : decode M_d_begin.2.1 9 = .ok (.iconst 0, 1) := by decide +kernel
theorem D_d_begin_10 : decode M_d_begin.2.1 10 = .ok (.putfield 15, 3) := by decide +kernel
theorem D_d_begin_13 : decode M_d_begin.2.1 13 = .ok (.iconst 0, 1) := by decide +kernel
theorem D_d_begin_14 : decode M_d_begin.2.1 14 = .ok (.istore_n 2, 1) := by decide +kernel
theorem D_d_begin_15 : decode M_d_begin.2.1 15 = .ok (.iload_n 2, 1) := by decide +kernel
theorem D_d_begin_16 : decode M_d_begin.2.1 16 = .ok (.aload_n 1, 1) := by decide +kernel
theorem D_d_begin_17 : decode M_d_begin.2.1 17 = .ok (.getfield 25, 3) := by decide +kernel
theorem D_d_begin_20 : decode M_d_begin.2.1 20 = .ok (.if_icmp .ge 22, 3) := by decide +kernel
theorem D_d_begin_23 : decode M_d_begin.2.1 23 = .ok (.aload_n 0, 1) := by decide +kernel
theorem D_d_begin_24 : decode M_d_begin.2.1 24 = .ok (.iconst 4, 1) := by decide +kernel
theorem D_d_begin_25 : decode M_d_begin.2.1 25 = .ok (.iload_n 2, 1) := by decide +kernel
theorem D_d_begin_26 : decode M_d_begin.2.1 26 = .ok (.iadd, 1) := by decide +kernel
theorem D_d_begin_27 : decode M_d_begin.2.1 27 = .ok (.aload_n 1, 1) := by decide +kernel
theorem D_d_begin_28 : decode M_d_begin.2.1 28 = .ok (.getfield 30, 3) := by decide +kernel
theorem D_d_begin_31 : decode M_d_begin.2.1 31 = .ok (.iload_n 2, 1) := by decide +kernel
theorem D_d_begin_32 : decode M_d_begin.2.1 32 = .ok (.iaload, 1) := by decide +kernel
theorem D_d_begin_33 : decode M_d_begin.2.1 33 = .ok (.invokevirtual 33, 3) := by decide +kernel
theorem D_d_begin_36 : decode M_d_begin.2.1 36 = .ok (.iinc 2 1, 3) := by decide +kernel
theorem D_d_begin_39 : decode M_d_begin.2.1 39 = .ok (.goto (-24), 3) := by decide +kernel
theorem D_d_begin_42 : decode M_d_begin.2.1 42 = .ok (.return_, 1) := by decide +kernel
theorem D_d_remember_0 : decode M_d_remember.2.1 0 = .ok (.aload_n 0, 1) := by decide +kernel
theorem D_d_remember_1 : decode M_d_remember.2.1 1 = .ok (.getfield 15, 3) := by decide +kernel
theorem D_d_remember_4 : decode M_d_remember.2.1 4 = .ok (.bipush 10, 2) := by decide +kernel
theorem D_d_remember_6 : decode M_d_remember.2.1 6 = .ok (.if_icmp .ge 45, 3) := by decide +kernel
theorem D_d_remember_9 : decode M_d_remember.2.1 9 = .ok (.aload_n 0, 1) := by decide +kernel
theorem D_d_remember_10 : decode M_d_remember.2.1 10 = .ok (.getfield 11, 3) := by decide +kernel
theorem D_d_remember_13 : decode M_d_remember.2.1 13 = .ok (.aload_n 0, 1) := by decide +kernel
theorem D_d_remember_14 : decode M_d_remember.2.1 14 = .ok (.getfield 15, 3) := by decide +kernel
theorem D_d_remember_17 : decode M_d_remember.2.1 17 = .ok (.bipush 52, 2) := by decide +kernel
theorem D_d_remember_19 : decode M_d_remember.2.1 19 = .ok (.imul, 1) := by decide +kernel
theorem D_d_remember_20 : decode M_d_remember.2.1 20 = .ok (.aload_n 0, 1) := by decide +kernel
theorem D_d_remember_21 : decode M_d_remember.2.1 21 = .ok (.getfield 11, 3) := by decide +kernel
theorem D_d_remember_24 : decode M_d_remember.2.1 24 = .ok (.aload_n 0, 1) := by decide +kernel
theorem D_d_remember_25 : decode M_d_remember.2.1 25 = .ok (.getfield 15, 3) := by decide +kernel
theorem D_d_remember_28 : decode M_d_remember.2.1 28 = .ok (.iconst 1, 1) := by decide +kernel
theorem D_d_remember_29 : decode M_d_remember.2.1 29 = .ok (.iadd, 1) := by decide +kernel
theorem D_d_remember_30 : decode M_d_remember.2.1 30 = .ok (.bipush 52, 2) := by decide +kernel
theorem D_d_remember_32 : decode M_d_remember.2.1 32 = .ok (.imul, 1) := by decide +kernel
theorem D_d_remember_33 : decode M_d_remember.2.1 33 = .ok (.bipush 52, 2) := by decide +kernel
theorem D_d_remember_35 : decode M_d_remember.2.1 35 = .ok (.invokestatic 37, 3) := by decide +kernel
theorem D_d_remember_38 : decode M_d_remember.2.1 38 = .ok (.aload_n 0, 1) := by decide +kernel
theorem D_d_remember_39 : decode M_d_remember.2.1 39 = .ok (.dup, 1) := by decide +kernel
theorem D_d_remember_40 : decode M_d_remember.2.1 40 = .ok (.getfield 15, 3) := by decide +kernel
theorem D_d_remember_43 : decode M_d_remember.2.1 43 = .ok (.iconst 1, 1) := by decide +kernel
theorem D_d_remember_44 : decode M_d_remember.2.1 44 = .ok (.iadd, 1) := by decide +kernel
theorem D_d_remember_45 : decode M_d_remember.2.1 45 = .ok (.putfield 15, 3) := by decide +kernel
theorem D_d_remember_48 : decode M_d_remember.2.1 48 = .ok (.goto 20, 3) := by decide +kernel
theorem D_d_remember_51 : decode M_d_remember.2.1 51 = .ok (.aload_n 0, 1) := by decide +kernel
theorem D_d_remember_52 : decode M_d_remember.2.1 52 = .ok (.getfield 11, 3) := by decide +kernel
theorem D_d_remember_55 : decode M_d_remember.2.1 55 = .ok (.bipush 52, 2) := by decide +kernel
theorem D_d_remember_57 : decode M_d_remember.2.1 57 = .ok (.aload_n 0, 1) := by decide +kernel
theorem D_d_remember_58 : decode M_d_remember.2.1 58 = .ok (.getfield 11, 3) := by decide +kernel
theorem D_d_remember_61 : decode M_d_remember.2.1 61 = .ok (.iconst 0, 1) := by decide +kernel
theorem D_d_remember_62 : decode M_d_remember.2.1 62 = .ok (.sipush 520, 3) := by decide +kernel
theorem D_d_remember_65 : decode M_d_remember.2.1 65 = .ok (.invokestatic 37, 3) := by decide +kernel
theorem D_d_remember_68 : decode M_d_remember.2.1 68 = .ok (.return_, 1) := by decide +kernel
theorem D_d_become_0 : decode M_d_become.2.1 0 = .ok (.aload_n 1, 1) := by decide +kernel
theorem D_d_become_1 : decode M_d_become.2.1 1 = .ok (.getfield 11, 3) := by decide +kernel
theorem D_d_become_4 : decode M_d_become.2.1 4 = .ok (.iconst 0, 1) := by decide +kernel
theorem D_d_become_5 : decode M_d_become.2.1 5 = .ok (.aload_n 0, 1) := by decide +kernel
theorem D_d_become_6 : decode M_d_become.2.1 6 = .ok (.getfield 11, 3) := by decide +kernel
theorem D_d_become_9 : decode M_d_become.2.1 9 = .ok (.iconst 0, 1) := by decide +kernel
theorem D_d_become_10 : decode M_d_become.2.1 10 = .ok (.aload_n 0, 1) := by decide +kernel
theorem D_d_become_11 : decode M_d_become.2.1 11 = .ok (.getfield 11, 3) := by decide +kernel
theorem D_d_become_14 : decode M_d_become.2.1 14 = .ok (.arraylength, 1) := by decide +kernel
theorem D_d_become_15 : decode M_d_become.2.1 15 = .ok (.invokestatic 37, 3) := by decide +kernel
theorem D_d_become_18 : decode M_d_become.2.1 18 = .ok (.aload_n 0, 1) := by decide +kernel
theorem D_d_become_19 : decode M_d_become.2.1 19 = .ok (.aload_n 1, 1) := by decide +kernel
theorem D_d_become_20 : decode M_d_become.2.1 20 = .ok (.getfield 15, 3) := by decide +kernel
theorem D_d_become_23 : decode M_d_become.2.1 23 = .ok (.putfield 15, 3) := by decide +kernel
theorem D_d_become_26 : decode M_d_become.2.1 26 = .ok (.return_, 1) := by decide +kernel
theorem D_kG_worth_0 : decode M_kG_worth.2.1 0 = .ok (.aload_n 1, 1) := by decide +kernel
theorem D_kG_worth_1 : decode M_kG_worth.2.1 1 = .ok (.dup, 1) := by decide +kernel
theorem D_kG_worth_2 : decode M_kG_worth.2.1 2 = .ok (.getfield 7, 3) := by decide +kernel
theorem D_kG_worth_5 : decode M_kG_worth.2.1 5 = .ok (.ldc2_w 13, 3) := by decide +kernel
theorem D_kG_worth_8 : decode M_kG_worth.2.1 8 = .ok (.ladd, 1) := by decide +kernel
theorem D_kG_worth_9 : decode M_kG_worth.2.1 9 = .ok (.putfield 7, 3) := by decide +kernel
theorem D_kG_worth_12 : decode M_kG_worth.2.1 12 = .ok (.aload_n 0, 1) := by decide +kernel
theorem D_kG_worth_13 : decode M_kG_worth.2.1 13 = .ok (.aload_n 1, 1) := by decide +kernel
theorem D_kG_worth_14 : decode M_kG_worth.2.1 14 = .ok (.invokespecial 15, 3) := by decide +kernel
theorem D_kG_worth_17 : decode M_kG_worth.2.1 17 = .ok (.aload_n 1, 1) := by decide +kernel
theorem D_kG_worth_18 : decode M_kG_worth.2.1 18 = .ok (.getfield 19, 3) := by decide +kernel
theorem D_kG_worth_21 : decode M_kG_worth.2.1 21 = .ok (.iadd, 1) := by decide +kernel
theorem D_kG_worth_22 : decode M_kG_worth.2.1 22 = .ok (.ireturn, 1) := by decide +kernel
theorem D_n_add_0 : decode M_n_add.2.1 0 = .ok (.aload_n 0, 1) := by decide +kernel
theorem D_n_add_1 : decode M_n_add.2.1 1 = .ok (.getfield 18, 3) := by decide +kernel
theorem D_n_add_4 : decode M_n_add.2.1 4 = .ok (.aload_n 0, 1) := by decide +kernel
theorem D_n_add_5 : decode M_n_add.2.1 5 = .ok (.getfield 9, 3) := by decide +kernel
theorem D_n_add_8 : decode M_n_add.2.1 8 = .ok (.arraylength, 1) := by decide +kernel
theorem D_n_add_9 : decode M_n_add.2.1 9 = .ok (.if_icmp .lt 5, 3) := by decide +kernel
theorem D_n_add_12 : decode M_n_add.2.1 12 = .ok (.iconst 0, 1) := by decide +kernel
theorem D_n_add_13 : decode M_n_add.2.1 13 = .ok (.ireturn, 1) := by decide +kernel
theorem D_n_add_14 : decode M_n_add.2.1 14 = .ok (.aload_n 0, 1) := by decide +kernel
theorem D_n_add_15 : decode M_n_add.2.1 15 = .ok (.getfield 9, 3) := by decide +kernel
theorem D_n_add_18 : decode M_n_add.2.1 18 = .ok (.aload_n 0, 1) := by decide +kernel
theorem D_n_add_19 : decode M_n_add.2.1 19 = .ok (.getfield 18, 3) := by decide +kernel
theorem D_n_add_22 : decode M_n_add.2.1 22 = .ok (.iload_n 1, 1) := by decide +kernel
theorem D_n_add_23 : decode M_n_add.2.1 23 = .ok (.iastore, 1) := by decide +kernel
theorem D_n_add_24 : decode M_n_add.2.1 24 = .ok (.aload_n 0, 1) := by decide +kernel
theorem D_n_add_25 : decode M_n_add.2.1 25 = .ok (.getfield 15, 3) := by decide +kernel
theorem D_n_add_28 : decode M_n_add.2.1 28 = .ok (.aload_n 0, 1) := by decide +kernel
theorem D_n_add_29 : decode M_n_add.2.1 29 = .ok (.getfield 18, 3) := by decide +kernel
theorem D_n_add_32 : decode M_n_add.2.1 32 = .ok (.iload_n 2, 1) := by decide +kernel
theorem D_n_add_33 : decode M_n_add.2.1 33 = .ok (.iastore, 1) := by decide +kernel
theorem D_n_add_34 : decode M_n_add.2.1 34 = .ok (.aload_n 0, 1) := by decide +kernel
theorem D_n_add_35 : decode M_n_add.2.1 35 = .ok (.dup, 1) := by decide +kernel
theorem D_n_add_36 : decode M_n_add.2.1 36 = .ok (.getfield 18, 3) := by decide +kernel
theorem D_n_add_39 : decode M_n_add.2.1 39 = .ok (.iconst 1, 1) := by decide +kernel
theorem D_n_add_40 : decode M_n_add.2.1 40 = .ok (.iadd, 1) := by decide +kernel
theorem D_n_add_41 : decode M_n_add.2.1 41 = .ok (.putfield 18, 3) := by decide +kernel
theorem D_n_add_44 : decode M_n_add.2.1 44 = .ok (.iconst 1, 1) := by decide +kernel
theorem D_n_add_45 : decode M_n_add.2.1 45 = .ok (.ireturn, 1) := by decide +kernel
theorem D_kO_worth_0 : decode M_kO_worth.2.1 0 = .ok (.aload_n 1, 1) := by decide +kernel
theorem D_kO_worth_1 : decode M_kO_worth.2.1 1 = .ok (.dup, 1) := by decide +kernel
theorem D_kO_worth_2 : decode M_kO_worth.2.1 2 = .ok (.getfield 7, 3) := by decide +kernel
theorem D_kO_worth_5 : decode M_kO_worth.2.1 5 = .ok (.lconst 1, 1) := by decide +kernel
theorem D_kO_worth_6 : decode M_kO_worth.2.1 6 = .ok (.ladd, 1) := by decide +kernel
theorem D_kO_worth_7 : decode M_kO_worth.2.1 7 = .ok (.putfield 7, 3) := by decide +kernel
theorem D_kO_worth_10 : decode M_kO_worth.2.1 10 = .ok (.aload_n 1, 1) := by decide +kernel
theorem D_kO_worth_11 : decode M_kO_worth.2.1 11 = .ok (.getfield 13, 3) := by decide +kernel
theorem D_kO_worth_14 : decode M_kO_worth.2.1 14 = .ok (.ireturn, 1) := by decide +kernel
theorem D_t_add_0 : decode M_t_add.2.1 0 = .ok (.aload_n 0, 1) := by decide +kernel
theorem D_t_add_1 : decode M_t_add.2.1 1 = .ok (.getfield 15, 3) := by decide +kernel
theorem D_t_add_4 : decode M_t_add.2.1 4 = .ok (.aload_n 0, 1) := by decide +kernel
theorem D_t_add_5 : decode M_t_add.2.1 5 = .ok (.getfield 9, 3) := by decide +kernel
theorem D_t_add_8 : decode M_t_add.2.1 8 = .ok (.arraylength, 1) := by decide +kernel
theorem D_t_add_9 : decode M_t_add.2.1 9 = .ok (.if_icmp .lt 5, 3) := by decide +kernel
theorem D_t_add_12 : decode M_t_add.2.1 12 = .ok (.iconst 0, 1) := by decide +kernel
theorem D_t_add_13 : decode M_t_add.2.1 13 = .ok (.ireturn, 1) := by decide +kernel
theorem D_t_add_14 : decode M_t_add.2.1 14 = .ok (.aload_n 0, 1) := by decide +kernel
theorem D_t_add_15 : decode M_t_add.2.1 15 = .ok (.getfield 9, 3) := by decide +kernel
theorem D_t_add_18 : decode M_t_add.2.1 18 = .ok (.aload_n 0, 1) := by decide +kernel
theorem D_t_add_19 : decode M_t_add.2.1 19 = .ok (.getfield 15, 3) := by decide +kernel
theorem D_t_add_22 : decode M_t_add.2.1 22 = .ok (.iload_n 1, 1) := by decide +kernel
theorem D_t_add_23 : decode M_t_add.2.1 23 = .ok (.iastore, 1) := by decide +kernel
theorem D_t_add_24 : decode M_t_add.2.1 24 = .ok (.aload_n 0, 1) := by decide +kernel
theorem D_t_add_25 : decode M_t_add.2.1 25 = .ok (.dup, 1) := by decide +kernel
theorem D_t_add_26 : decode M_t_add.2.1 26 = .ok (.getfield 15, 3) := by decide +kernel
theorem D_t_add_29 : decode M_t_add.2.1 29 = .ok (.iconst 1, 1) := by decide +kernel
theorem D_t_add_30 : decode M_t_add.2.1 30 = .ok (.iadd, 1) := by decide +kernel
theorem D_t_add_31 : decode M_t_add.2.1 31 = .ok (.putfield 15, 3) := by decide +kernel
theorem D_t_add_34 : decode M_t_add.2.1 34 = .ok (.iconst 1, 1) := by decide +kernel
theorem D_t_add_35 : decode M_t_add.2.1 35 = .ok (.ireturn, 1) := by decide +kernel
theorem D_t_readInto_0 : decode M_t_readInto.2.1 0 = .ok (.aload_n 1, 1) := by decide +kernel
theorem D_t_readInto_1 : decode M_t_readInto.2.1 1 = .ok (.invokevirtual 19, 3) := by decide +kernel
theorem D_t_readInto_4 : decode M_t_readInto.2.1 4 = .ok (.aload_n 0, 1) := by decide +kernel
theorem D_t_readInto_5 : decode M_t_readInto.2.1 5 = .ok (.iconst 0, 1) := by decide +kernel
theorem D_t_readInto_6 : decode M_t_readInto.2.1 6 = .ok (.putfield 24, 3) := by decide +kernel
theorem D_t_readInto_9 : decode M_t_readInto.2.1 9 = .ok (.aload_n 0, 1) := by decide +kernel
theorem D_t_readInto_10 : decode M_t_readInto.2.1 10 = .ok (.iconst 0, 1) := by decide +kernel
theorem D_t_readInto_11 : decode M_t_readInto.2.1 11 = .ok (.putfield 27, 3) := by decide +kernel
theorem D_t_readInto_14 : decode M_t_readInto.2.1 14 = .ok (.aload_n 0, 1) := by decide +kernel
theorem D_t_readInto_15 : decode M_t_readInto.2.1 15 = .ok (.iconst 0, 1) := by decide +kernel
theorem D_t_readInto_16 : decode M_t_readInto.2.1 16 = .ok (.putfield 31, 3) := by decide +kernel
theorem D_t_readInto_19 : decode M_t_readInto.2.1 19 = .ok (.iconst 0, 1) := by decide +kernel
theorem D_t_readInto_20 : decode M_t_readInto.2.1 20 = .ok (.istore_n 2, 1) := by decide +kernel
theorem D_t_readInto_21 : decode M_t_readInto.2.1 21 = .ok (.iload_n 2, 1) := by decide +kernel
theorem D_t_readInto_22 : decode M_t_readInto.2.1 22 = .ok (.sipush 150, 3) := by decide +kernel
theorem D_t_readInto_25 : decode M_t_readInto.2.1 25 = .ok (.if_icmp .gt 33, 3) := by decide +kernel
theorem D_t_readInto_28 : decode M_t_readInto.2.1 28 = .ok (.aload_n 0, 1) := by decide +kernel
theorem D_t_readInto_29 : decode M_t_readInto.2.1 29 = .ok (.invokevirtual 34, 3) := by decide +kernel
theorem D_t_readInto_32 : decode M_t_readInto.2.1 32 = .ok (.aload_n 0, 1) := by decide +kernel
theorem D_t_readInto_33 : decode M_t_readInto.2.1 33 = .ok (.getfield 37, 3) := by decide +kernel
theorem D_t_readInto_36 : decode M_t_readInto.2.1 36 = .ok (.ifCond .ne 5, 3) := by decide +kernel
theorem D_t_readInto_39 : decode M_t_readInto.2.1 39 = .ok (.iload_n 2, 1) := by decide +kernel
theorem D_t_readInto_40 : decode M_t_readInto.2.1 40 = .ok (.ireturn, 1) := by decide +kernel
theorem D_t_readInto_41 : decode M_t_readInto.2.1 41 = .ok (.aload_n 0, 1) := by decide +kernel
theorem D_t_readInto_42 : decode M_t_readInto.2.1 42 = .ok (.aload_n 1, 1) := by decide +kernel
theorem D_t_readInto_43 : decode M_t_readInto.2.1 43 = .ok (.invokevirtual 40, 3) := by decide +kernel
theorem D_t_readInto_46 : decode M_t_readInto.2.1 46 = .ok (.ifCond .ne 6, 3) := by decide +kernel
theorem D_t_readInto_49 : decode M_t_readInto.2.1 49 = .ok (.goto 9, 3) := by decide +kernel
theorem D_t_readInto_52 : decode M_t_readInto.2.1 52 = .ok (.iinc 2 1, 3) := by decide +kernel
theorem D_t_readInto_55 : decode M_t_readInto.2.1 55 = .ok (.goto (-34), 3) := by decide +kernel
theorem D_t_readInto_58 : decode M_t_readInto.2.1 58 = .ok (.bipush (-10), 2) := by decide +kernel
theorem D_t_readInto_60 : decode M_t_readInto.2.1 60 = .ok (.aload_n 0, 1) := by decide +kernel
theorem D_t_readInto_61 : decode M_t_readInto.2.1 61 = .ok (.getfield 44, 3) := by decide +kernel
theorem D_t_readInto_64 : decode M_t_readInto.2.1 64 = .ok (.isub, 1) := by decide +kernel
theorem D_t_readInto_65 : decode M_t_readInto.2.1 65 = .ok (.ireturn, 1) := by decide +kernel
theorem D_t_readItem_0 : decode M_t_readItem.2.1 0 = .ok (.aload_n 0, 1) := by decide +kernel
theorem D_t_readItem_1 : decode M_t_readItem.2.1 1 = .ok (.getfield 37, 3) := by decide +kernel
theorem D_t_readItem_4 : decode M_t_readItem.2.1 4 = .ok (.iconst 1, 1) := by decide +kernel
theorem D_t_readItem_5 : decode M_t_readItem.2.1 5 = .ok (.if_icmp .eq 5, 3) := by decide +kernel
theorem D_t_readItem_8 : decode M_t_readItem.2.1 8 = .ok (.iconst 0, 1) := by decide +kernel
theorem D_t_readItem_9 : decode M_t_readItem.2.1 9 = .ok (.ireturn, 1) := by decide +kernel
theorem D_t_readItem_10 : decode M_t_readItem.2.1 10 = .ok (.aload_n 0, 1) := by decide +kernel
theorem D_t_readItem_11 : decode M_t_readItem.2.1 11 = .ok (.getfield 47, 3) := by decide +kernel
theorem D_t_readItem_14 : decode M_t_readItem.2.1 14 = .ok (.lookupswitch 66 #[(99, 42), (100, 54), (107, 48), (112, 60)], 42) := by decide +kernel
theorem D_t_readItem_56 : decode M_t_readItem.2.1 56 = .ok (.aload_n 0, 1) := by decide +kernel
theorem D_t_readItem_57 : decode M_t_readItem.2.1 57 = .ok (.aload_n 1, 1) := by decide +kernel
theorem D_t_readItem_58 : decode M_t_readItem.2.1 58 = .ok (.invokevirtual 50, 3) := by decide +kernel
theorem D_t_readItem_61 : decode M_t_readItem.2.1 61 = .ok (.ireturn, 1) := by decide +kernel
theorem D_t_readItem_62 : decode M_t_readItem.2.1 62 = .ok (.aload_n 0, 1) := by decide +kernel
theorem D_t_readItem_63 : decode M_t_readItem.2.1 63 = .ok (.aload_n 1, 1) := by decide +kernel
theorem D_t_readItem_64 : decode M_t_readItem.2.1 64 = .ok (.invokevirtual 53, 3) := by decide +kernel
theorem D_t_readItem_67 : decode M_t_readItem.2.1 67 = .ok (.ireturn, 1) := by decide +kernel
theorem D_t_readItem_68 : decode M_t_readItem.2.1 68 = .ok (.aload_n 0, 1) := by decide +kernel
theorem D_t_readItem_69 : decode M_t_readItem.2.1 69 = .ok (.aload_n 1, 1) := by decide +kernel
theorem D_t_readItem_70 : decode M_t_readItem.2.1 70 = .ok (.invokevirtual 56, 3) := by decide +kernel
theorem D_t_readItem_73 : decode M_t_readItem.2.1 73 = .ok (.ireturn, 1) := by decide +kernel
theorem D_t_readItem_74 : decode M_t_readItem.2.1 74 = .ok (.aload_n 0, 1) := by decide +kernel
theorem D_t_readItem_75 : decode M_t_readItem.2.1 75 = .ok (.aload_n 1, 1) := by decide +kernel
theorem D_t_readItem_76 : decode M_t_readItem.2.1 76 = .ok (.invokevirtual 59, 3) := by decide +kernel
theorem D_t_readItem_79 : decode M_t_readItem.2.1 79 = .ok (.ireturn, 1) := by decide +kernel
theorem D_t_readItem_80 : decode M_t_readItem.2.1 80 = .ok (.iconst 0, 1) := by decide +kernel
theorem D_t_readItem_81 : decode M_t_readItem.2.1 81 = .ok (.ireturn, 1) := by decide +kernel
theorem D_t_readPane_0 : decode M_t_readPane.2.1 0 = .ok (.aload_n 1, 1) := by decide +kernel
theorem D_t_readPane_1 : decode M_t_readPane.2.1 1 = .ok (.getfield 62, 3) := by decide +kernel
theorem D_t_readPane_4 : decode M_t_readPane.2.1 4 = .ok (.bipush 12, 2) := by decide +kernel
theorem D_t_readPane_6 : decode M_t_readPane.2.1 6 = .ok (.if_icmp .ge 12, 3) := by decide +kernel
theorem D_t_readPane_9 : decode M_t_readPane.2.1 9 = .ok (.aload_n 0, 1) := by decide +kernel
theorem D_t_readPane_10 : decode M_t_readPane.2.1 10 = .ok (.iconst 0, 1) := by decide +kernel
theorem D_t_readPane_11 : decode M_t_readPane.2.1 11 = .ok (.iconst 5, 1) := by decide +kernel
theorem D_t_readPane_12 : decode M_t_readPane.2.1 12 = .ok (.invokevirtual 65, 3) := by decide +kernel
theorem D_t_readPane_15 : decode M_t_readPane.2.1 15 = .ok (.ifCond .ne 5, 3) := by decide +kernel
theorem D_t_readPane_18 : decode M_t_readPane.2.1 18 = .ok (.iconst 0, 1) := by decide +kernel
theorem D_t_readPane_19 : decode M_t_readPane.2.1 19 = .ok (.ireturn, 1) := by decide +kernel
theorem D_t_readPane_20 : decode M_t_readPane.2.1 20 = .ok (.aload_n 1, 1) := by decide +kernel
theorem D_t_readPane_21 : decode M_t_readPane.2.1 21 = .ok (.getfield 69, 3) := by decide +kernel
theorem D_t_readPane_24 : decode M_t_readPane.2.1 24 = .ok (.aload_n 1, 1) := by decide +kernel
theorem D_t_readPane_25 : decode M_t_readPane.2.1 25 = .ok (.getfield 62, 3) := by decide +kernel
theorem D_t_readPane_28 : decode M_t_readPane.2.1 28 = .ok (.aload_n 0, 1) := by decide +kernel
theorem D_t_readPane_29 : decode M_t_readPane.2.1 29 = .ok (.getfield 47, 3) := by decide +kernel
theorem D_t_readPane_32 : decode M_t_readPane.2.1 32 = .ok (.iastore, 1) := by decide +kernel
theorem D_t_readPane_33 : decode M_t_readPane.2.1 33 = .ok (.aload_n 1, 1) := by decide +kernel
theorem D_t_readPane_34 : decode M_t_readPane.2.1 34 = .ok (.dup, 1) := by decide +kernel
theorem D_t_readPane_35 : decode M_t_readPane.2.1 35 = .ok (.getfield 62, 3) := by decide +kernel
theorem D_t_readPane_38 : decode M_t_readPane.2.1 38 = .ok (.iconst 1, 1) := by decide +kernel
theorem D_t_readPane_39 : decode M_t_readPane.2.1 39 = .ok (.iadd, 1) := by decide +kernel
theorem D_t_readPane_40 : decode M_t_readPane.2.1 40 = .ok (.putfield 62, 3) := by decide +kernel
theorem D_t_readPane_43 : decode M_t_readPane.2.1 43 = .ok (.aload_n 0, 1) := by decide +kernel
theorem D_t_readPane_44 : decode M_t_readPane.2.1 44 = .ok (.invokevirtual 72, 3) := by decide +kernel
theorem D_t_readPane_47 : decode M_t_readPane.2.1 47 = .ok (.ireturn, 1) := by decide +kernel
theorem D_t_readKeeps_0 : decode M_t_readKeeps.2.1 0 = .ok (.aload_n 0, 1) := by decide +kernel
theorem D_t_readKeeps_1 : decode M_t_readKeeps.2.1 1 = .ok (.getfield 27, 3) := by decide +kernel
theorem D_t_readKeeps_4 : decode M_t_readKeeps.2.1 4 = .ok (.ifCond .ne 13, 3) := by decide +kernel
theorem D_t_readKeeps_7 : decode M_t_readKeeps.2.1 7 = .ok (.aload_n 0, 1) := by decide +kernel
theorem D_t_readKeeps_8 : decode M_t_readKeeps.2.1 8 = .ok (.iconst 0, 1) := by decide +kernel
theorem D_t_readKeeps_9 : decode M_t_readKeeps.2.1 9 = .ok (.bipush 9, 2) := by decide +kernel
theorem D_t_readKeeps_11 : decode M_t_readKeeps.2.1 11 = .ok (.invokevirtual 65, 3) := by decide +kernel
theorem D_t_readKeeps_14 : decode M_t_readKeeps.2.1 14 = .ok (.ifCond .ne 5, 3) := by decide +kernel
theorem D_t_readKeeps_17 : decode M_t_readKeeps.2.1 17 = .ok (.iconst 0, 1) := by decide +kernel
theorem D_t_readKeeps_18 : decode M_t_readKeeps.2.1 18 = .ok (.ireturn, 1) := by decide +kernel
theorem D_t_readKeeps_19 : decode M_t_readKeeps.2.1 19 = .ok (.aload_n 0, 1) := by decide +kernel
theorem D_t_readKeeps_20 : decode M_t_readKeeps.2.1 20 = .ok (.iconst 1, 1) := by decide +kernel
theorem D_t_readKeeps_21 : decode M_t_readKeeps.2.1 21 = .ok (.putfield 27, 3) := by decide +kernel
theorem D_t_readKeeps_24 : decode M_t_readKeeps.2.1 24 = .ok (.aload_n 1, 1) := by decide +kernel
theorem D_t_readKeeps_25 : decode M_t_readKeeps.2.1 25 = .ok (.aload_n 0, 1) := by decide +kernel
theorem D_t_readKeeps_26 : decode M_t_readKeeps.2.1 26 = .ok (.getfield 47, 3) := by decide +kernel
theorem D_t_readKeeps_29 : decode M_t_readKeeps.2.1 29 = .ok (.putfield 76, 3) := by decide +kernel
theorem D_t_readKeeps_32 : decode M_t_readKeeps.2.1 32 = .ok (.aload_n 0, 1) := by decide +kernel
theorem D_t_readKeeps_33 : decode M_t_readKeeps.2.1 33 = .ok (.invokevirtual 72, 3) := by decide +kernel
theorem D_t_readKeeps_36 : decode M_t_readKeeps.2.1 36 = .ok (.ireturn, 1) := by decide +kernel
theorem D_t_readDrag_0 : decode M_t_readDrag.2.1 0 = .ok (.aload_n 0, 1) := by decide +kernel
theorem D_t_readDrag_1 : decode M_t_readDrag.2.1 1 = .ok (.getfield 31, 3) := by decide +kernel
theorem D_t_readDrag_4 : decode M_t_readDrag.2.1 4 = .ok (.ifCond .ne 13, 3) := by decide +kernel
theorem D_t_readDrag_7 : decode M_t_readDrag.2.1 7 = .ok (.aload_n 0, 1) := by decide +kernel
theorem D_t_readDrag_8 : decode M_t_readDrag.2.1 8 = .ok (.iconst 1, 1) := by decide +kernel
theorem D_t_readDrag_9 : decode M_t_readDrag.2.1 9 = .ok (.bipush 9, 2) := by decide +kernel
theorem D_t_readDrag_11 : decode M_t_readDrag.2.1 11 = .ok (.invokevirtual 65, 3) := by decide +kernel
theorem D_t_readDrag_14 : decode M_t_readDrag.2.1 14 = .ok (.ifCond .ne 5, 3) := by decide +kernel
theorem D_t_readDrag_17 : decode M_t_readDrag.2.1 17 = .ok (.iconst 0, 1) := by decide +kernel
theorem D_t_readDrag_18 : decode M_t_readDrag.2.1 18 = .ok (.ireturn, 1) := by decide +kernel
theorem D_t_readDrag_19 : decode M_t_readDrag.2.1 19 = .ok (.aload_n 0, 1) := by decide +kernel
theorem D_t_readDrag_20 : decode M_t_readDrag.2.1 20 = .ok (.iconst 1, 1) := by decide +kernel
theorem D_t_readDrag_21 : decode M_t_readDrag.2.1 21 = .ok (.putfield 31, 3) := by decide +kernel
theorem D_t_readDrag_24 : decode M_t_readDrag.2.1 24 = .ok (.aload_n 1, 1) := by decide +kernel
theorem D_t_readDrag_25 : decode M_t_readDrag.2.1 25 = .ok (.aload_n 0, 1) := by decide +kernel
theorem D_t_readDrag_26 : decode M_t_readDrag.2.1 26 = .ok (.getfield 47, 3) := by decide +kernel
theorem D_t_readDrag_29 : decode M_t_readDrag.2.1 29 = .ok (.putfield 79, 3) := by decide +kernel
theorem D_t_readDrag_32 : decode M_t_readDrag.2.1 32 = .ok (.aload_n 0, 1) := by decide +kernel
theorem D_t_readDrag_33 : decode M_t_readDrag.2.1 33 = .ok (.invokevirtual 72, 3) := by decide +kernel
theorem D_t_readDrag_36 : decode M_t_readDrag.2.1 36 = .ok (.ireturn, 1) := by decide +kernel
theorem D_t_readPerson_0 : decode M_t_readPerson.2.1 0 = .ok (.aload_n 1, 1) := by decide +kernel
theorem D_t_readPerson_1 : decode M_t_readPerson.2.1 1 = .ok (.getfield 82, 3) := by decide +kernel
theorem D_t_readPerson_4 : decode M_t_readPerson.2.1 4 = .ok (.bipush 6, 2) := by decide +kernel
theorem D_t_readPerson_6 : decode M_t_readPerson.2.1 6 = .ok (.if_icmp .ge 28, 3) := by decide +kernel
theorem D_t_readPerson_9 : decode M_t_readPerson.2.1 9 = .ok (.aload_n 0, 1) := by decide +kernel
theorem D_t_readPerson_10 : decode M_t_readPerson.2.1 10 = .ok (.iconst 0, 1) := by decide +kernel
theorem D_t_readPerson_11 : decode M_t_readPerson.2.1 11 = .ok (.aload_n 1, 1) := by decide +kernel
theorem D_t_readPerson_12 : decode M_t_readPerson.2.1 12 = .ok (.getfield 62, 3) := by decide +kernel
theorem D_t_readPerson_15 : decode M_t_readPerson.2.1 15 = .ok (.iconst 1, 1) := by decide +kernel
theorem D_t_readPerson_16 : decode M_t_readPerson.2.1 16 = .ok (.isub, 1) := by decide +kernel
theorem D_t_readPerson_17 : decode M_t_readPerson.2.1 17 = .ok (.invokevirtual 65, 3) := by decide +kernel
theorem D_t_readPerson_20 : decode M_t_readPerson.2.1 20 = .ok (.ifCond .eq 14, 3) := by decide +kernel
theorem D_t_readPerson_23 : decode M_t_readPerson.2.1 23 = .ok (.aload_n 1, 1) := by decide +kernel
theorem D_t_readPerson_24 : decode M_t_readPerson.2.1 24 = .ok (.aload_n 0, 1) := by decide +kernel
theorem D_t_readPerson_25 : decode M_t_readPerson.2.1 25 = .ok (.getfield 47, 3) := by decide +kernel
theorem D_t_readPerson_28 : decode M_t_readPerson.2.1 28 = .ok (.invokevirtual 85, 3) := by decide +kernel
theorem D_t_readPerson_31 : decode M_t_readPerson.2.1 31 = .ok (.ifCond .eq 5, 3) := by decide +kernel
theorem D_t_readPerson_34 : decode M_t_readPerson.2.1 34 = .ok (.iconst 0, 1) := by decide +kernel
theorem D_t_readPerson_35 : decode M_t_readPerson.2.1 35 = .ok (.ireturn, 1) := by decide +kernel
theorem D_t_readPerson_36 : decode M_t_readPerson.2.1 36 = .ok (.aload_n 1, 1) := by decide +kernel
theorem D_t_readPerson_37 : decode M_t_readPerson.2.1 37 = .ok (.getfield 89, 3) := by decide +kernel
theorem D_t_readPerson_40 : decode M_t_readPerson.2.1 40 = .ok (.aload_n 1, 1) := by decide +kernel
theorem D_t_readPerson_41 : decode M_t_readPerson.2.1 41 = .ok (.getfield 82, 3) := by decide +kernel
theorem D_t_readPerson_44 : decode M_t_readPerson.2.1 44 = .ok (.aload_n 0, 1) := by decide +kernel
theorem D_t_readPerson_45 : decode M_t_readPerson.2.1 45 = .ok (.getfield 47, 3) := by decide +kernel
theorem D_t_readPerson_48 : decode M_t_readPerson.2.1 48 = .ok (.iastore, 1) := by decide +kernel
theorem D_t_readPerson_49 : decode M_t_readPerson.2.1 49 = .ok (.aload_n 0, 1) := by decide +kernel
theorem D_t_readPerson_50 : decode M_t_readPerson.2.1 50 = .ok (.iconst 1, 1) := by decide +kernel
theorem D_t_readPerson_51 : decode M_t_readPerson.2.1 51 = .ok (.iconst 5, 1) := by decide +kernel
theorem D_t_readPerson_52 : decode M_t_readPerson.2.1 52 = .ok (.invokevirtual 65, 3) := by decide +kernel
theorem D_t_readPerson_55 : decode M_t_readPerson.2.1 55 = .ok (.ifCond .ne 5, 3) := by decide +kernel
theorem D_t_readPerson_58 : decode M_t_readPerson.2.1 58 = .ok (.iconst 0, 1) := by decide +kernel
theorem D_t_readPerson_59 : decode M_t_readPerson.2.1 59 = .ok (.ireturn, 1) := by decide +kernel
theorem D_t_readPerson_60 : decode M_t_readPerson.2.1 60 = .ok (.aload_n 1, 1) := by decide +kernel
theorem D_t_readPerson_61 : decode M_t_readPerson.2.1 61 = .ok (.getfield 92, 3) := by decide +kernel
theorem D_t_readPerson_64 : decode M_t_readPerson.2.1 64 = .ok (.aload_n 1, 1) := by decide +kernel
theorem D_t_readPerson_65 : decode M_t_readPerson.2.1 65 = .ok (.getfield 82, 3) := by decide +kernel
theorem D_t_readPerson_68 : decode M_t_readPerson.2.1 68 = .ok (.aload_n 0, 1) := by decide +kernel
theorem D_t_readPerson_69 : decode M_t_readPerson.2.1 69 = .ok (.getfield 47, 3) := by decide +kernel
theorem D_t_readPerson_72 : decode M_t_readPerson.2.1 72 = .ok (.iastore, 1) := by decide +kernel
theorem D_t_readPerson_73 : decode M_t_readPerson.2.1 73 = .ok (.aload_n 1, 1) := by decide +kernel
theorem D_t_readPerson_74 : decode M_t_readPerson.2.1 74 = .ok (.dup, 1) := by decide +kernel
theorem D_t_readPerson_75 : decode M_t_readPerson.2.1 75 = .ok (.getfield 82, 3) := by decide +kernel
theorem D_t_readPerson_78 : decode M_t_readPerson.2.1 78 = .ok (.iconst 1, 1) := by decide +kernel
theorem D_t_readPerson_79 : decode M_t_readPerson.2.1 79 = .ok (.iadd, 1) := by decide +kernel
theorem D_t_readPerson_80 : decode M_t_readPerson.2.1 80 = .ok (.putfield 82, 3) := by decide +kernel
theorem D_t_readPerson_83 : decode M_t_readPerson.2.1 83 = .ok (.aload_n 0, 1) := by decide +kernel
theorem D_t_readPerson_84 : decode M_t_readPerson.2.1 84 = .ok (.invokevirtual 72, 3) := by decide +kernel
theorem D_t_readPerson_87 : decode M_t_readPerson.2.1 87 = .ok (.ireturn, 1) := by decide +kernel
theorem D_t_readNumber_0 : decode M_t_readNumber.2.1 0 = .ok (.aload_n 0, 1) := by decide +kernel
theorem D_t_readNumber_1 : decode M_t_readNumber.2.1 1 = .ok (.invokevirtual 34, 3) := by decide +kernel
theorem D_t_readNumber_4 : decode M_t_readNumber.2.1 4 = .ok (.aload_n 0, 1) := by decide +kernel
theorem D_t_readNumber_5 : decode M_t_readNumber.2.1 5 = .ok (.getfield 37, 3) := by decide +kernel
theorem D_t_readNumber_8 : decode M_t_readNumber.2.1 8 = .ok (.iconst 2, 1) := by decide +kernel
theorem D_t_readNumber_9 : decode M_t_readNumber.2.1 9 = .ok (.if_icmp .ne 23, 3) := by decide +kernel
theorem D_t_readNumber_12 : decode M_t_readNumber.2.1 12 = .ok (.aload_n 0, 1) := by decide +kernel
theorem D_t_readNumber_13 : decode M_t_readNumber.2.1 13 = .ok (.getfield 47, 3) := by decide +kernel
theorem D_t_readNumber_16 : decode M_t_readNumber.2.1 16 = .ok (.iload_n 1, 1) := by decide +kernel
theorem D_t_readNumber_17 : decode M_t_readNumber.2.1 17 = .ok (.if_icmp .lt 15, 3) := by decide +kernel
theorem D_t_readNumber_20 : decode M_t_readNumber.2.1 20 = .ok (.aload_n 0, 1) := by decide +kernel
theorem D_t_readNumber_21 : decode M_t_readNumber.2.1 21 = .ok (.getfield 47, 3) := by decide +kernel
theorem D_t_readNumber_24 : decode M_t_readNumber.2.1 24 = .ok (.iload_n 2, 1) := by decide +kernel
theorem D_t_readNumber_25 : decode M_t_readNumber.2.1 25 = .ok (.if_icmp .gt 7, 3) := by decide +kernel
theorem D_t_readNumber_28 : decode M_t_readNumber.2.1 28 = .ok (.iconst 1, 1) := by decide +kernel
theorem D_t_readNumber_29 : decode M_t_readNumber.2.1 29 = .ok (.goto 4, 3) := by decide +kernel
theorem D_t_readNumber_32 : decode M_t_readNumber.2.1 32 = .ok (.iconst 0, 1) := by decide +kernel
theorem D_t_readNumber_33 : decode M_t_readNumber.2.1 33 = .ok (.ireturn, 1) := by decide +kernel
theorem D_t_readSemicolon_0 : decode M_t_readSemicolon.2.1 0 = .ok (.aload_n 0, 1) := by decide +kernel
theorem D_t_readSemicolon_1 : decode M_t_readSemicolon.2.1 1 = .ok (.invokevirtual 34, 3) := by decide +kernel
theorem D_t_readSemicolon_4 : decode M_t_readSemicolon.2.1 4 = .ok (.aload_n 0, 1) := by decide +kernel
theorem D_t_readSemicolon_5 : decode M_t_readSemicolon.2.1 5 = .ok (.getfield 37, 3) := by decide +kernel
theorem D_t_readSemicolon_8 : decode M_t_readSemicolon.2.1 8 = .ok (.iconst 3, 1) := by decide +kernel
theorem D_t_readSemicolon_9 : decode M_t_readSemicolon.2.1 9 = .ok (.if_icmp .ne 7, 3) := by decide +kernel
theorem D_t_readSemicolon_12 : decode M_t_readSemicolon.2.1 12 = .ok (.iconst 1, 1) := by decide +kernel
theorem D_t_readSemicolon_13 : decode M_t_readSemicolon.2.1 13 = .ok (.goto 4, 3) := by decide +kernel
theorem D_t_readSemicolon_16 : decode M_t_readSemicolon.2.1 16 = .ok (.iconst 0, 1) := by decide +kernel
theorem D_t_readSemicolon_17 : decode M_t_readSemicolon.2.1 17 = .ok (.ireturn, 1) := by decide +kernel
theorem D_t_readToken_0 : decode M_t_readToken.2.1 0 = .ok (.aload_n 0, 1) := by decide +kernel
theorem D_t_readToken_1 : decode M_t_readToken.2.1 1 = .ok (.getfield 24, 3) := by decide +kernel
theorem D_t_readToken_4 : decode M_t_readToken.2.1 4 = .ok (.aload_n 0, 1) := by decide +kernel
theorem D_t_readToken_5 : decode M_t_readToken.2.1 5 = .ok (.getfield 15, 3) := by decide +kernel
theorem D_t_readToken_8 : decode M_t_readToken.2.1 8 = .ok (.if_icmp .ge 29, 3) := by decide +kernel
theorem D_t_readToken_11 : decode M_t_readToken.2.1 11 = .ok (.aload_n 0, 1) := by decide +kernel
theorem D_t_readToken_12 : decode M_t_readToken.2.1 12 = .ok (.aload_n 0, 1) := by decide +kernel
theorem D_t_readToken_13 : decode M_t_readToken.2.1 13 = .ok (.getfield 24, 3) := by decide +kernel
theorem D_t_readToken_16 : decode M_t_readToken.2.1 16 = .ok (.invokevirtual 95, 3) := by decide +kernel
theorem D_t_readToken_19 : decode M_t_readToken.2.1 19 = .ok (.bipush 32, 2) := by decide +kernel
theorem D_t_readToken_21 : decode M_t_readToken.2.1 21 = .ok (.if_icmp .ne 16, 3) := by decide +kernel
theorem D_t_readToken_24 : decode M_t_readToken.2.1 24 = .ok (.aload_n 0, 1) := by decide +kernel
theorem D_t_readToken_25 : decode M_t_readToken.2.1 25 = .ok (.dup, 1) := by decide +kernel
theorem D_t_readToken_26 : decode M_t_readToken.2.1 26 = .ok (.getfield 24, 3) := by decide +kernel
theorem D_t_readToken_29 : decode M_t_readToken.2.1 29 = .ok (.iconst 1, 1) := by decide +kernel
theorem D_t_readToken_30 : decode M_t_readToken.2.1 30 = .ok (.iadd, 1) := by decide +kernel
theorem D_t_readToken_31 : decode M_t_readToken.2.1 31 = .ok (.putfield 24, 3) := by decide +kernel
theorem D_t_readToken_34 : decode M_t_readToken.2.1 34 = .ok (.goto (-34), 3) := by decide +kernel
theorem D_t_readToken_37 : decode M_t_readToken.2.1 37 = .ok (.aload_n 0, 1) := by decide +kernel
theorem D_t_readToken_38 : decode M_t_readToken.2.1 38 = .ok (.aload_n 0, 1) := by decide +kernel
theorem D_t_readToken_39 : decode M_t_readToken.2.1 39 = .ok (.getfield 24, 3) := by decide +kernel
theorem D_t_readToken_42 : decode M_t_readToken.2.1 42 = .ok (.putfield 44, 3) := by decide +kernel
theorem D_t_readToken_45 : decode M_t_readToken.2.1 45 = .ok (.aload_n 0, 1) := by decide +kernel
theorem D_t_readToken_46 : decode M_t_readToken.2.1 46 = .ok (.iconst 0, 1) := by decide +kernel
theorem D_t_readToken_47 : decode M_t_readToken.2.1 47 = .ok (.putfield 47, 3) := by decide +kernel
theorem D_t_readToken_50 : decode M_t_readToken.2.1 50 = .ok (.aload_n 0, 1) := by decide +kernel
theorem D_t_readToken_51 : decode M_t_readToken.2.1 51 = .ok (.aload_n 0, 1) := by decide +kernel
theorem D_t_readToken_52 : decode M_t_readToken.2.1 52 = .ok (.getfield 44, 3) := by decide +kernel
theorem D_t_readToken_55 : decode M_t_readToken.2.1 55 = .ok (.invokevirtual 95, 3) := by decide +kernel
theorem D_t_readToken_58 : decode M_t_readToken.2.1 58 = .ok (.istore_n 1, 1) := by decide +kernel
theorem D_t_readToken_59 : decode M_t_readToken.2.1 59 = .ok (.aload_n 0, 1) := by decide +kernel
theorem D_t_readToken_60 : decode M_t_readToken.2.1 60 = .ok (.getfield 44, 3) := by decide +kernel
theorem D_t_readToken_63 : decode M_t_readToken.2.1 63 = .ok (.aload_n 0, 1) := by decide +kernel
theorem D_t_readToken_64 : decode M_t_readToken.2.1 64 = .ok (.getfield 15, 3) := by decide +kernel
theorem D_t_readToken_67 : decode M_t_readToken.2.1 67 = .ok (.if_icmp .lt 11, 3) := by decide +kernel
theorem D_t_readToken_70 : decode M_t_readToken.2.1 70 = .ok (.aload_n 0, 1) := by decide +kernel
theorem D_t_readToken_71 : decode M_t_readToken.2.1 71 = .ok (.iconst 0, 1) := by decide +kernel
theorem D_t_readToken_72 : decode M_t_readToken.2.1 72 = .ok (.putfield 37, 3) := by decide +kernel
theorem D_t_readToken_75 : decode M_t_readToken.2.1 75 = .ok (.goto 56, 3) := by decide +kernel
theorem D_t_readToken_78 : decode M_t_readToken.2.1 78 = .ok (.iload_n 1, 1) := by decide +kernel
theorem D_t_readToken_79 : decode M_t_readToken.2.1 79 = .ok (.invokestatic 99, 3) := by decide +kernel
theorem D_t_readToken_82 : decode M_t_readToken.2.1 82 = .ok (.ifCond .eq 10, 3) := by decide +kernel
theorem D_t_readToken_85 : decode M_t_readToken.2.1 85 = .ok (.aload_n 0, 1) := by decide +kernel
theorem D_t_readToken_86 : decode M_t_readToken.2.1 86 = .ok (.invokevirtual 102, 3) := by decide +kernel
theorem D_t_readToken_89 : decode M_t_readToken.2.1 89 = .ok (.goto 42, 3) := by decide +kernel
theorem D_t_readToken_92 : decode M_t_readToken.2.1 92 = .ok (.iload_n 1, 1) := by decide +kernel
theorem D_t_readToken_93 : decode M_t_readToken.2.1 93 = .ok (.invokestatic 105, 3) := by decide +kernel
theorem D_t_readToken_96 : decode M_t_readToken.2.1 96 = .ok (.ifCond .eq 10, 3) := by decide +kernel
theorem D_t_readToken_99 : decode M_t_readToken.2.1 99 = .ok (.aload_n 0, 1) := by decide +kernel
theorem D_t_readToken_100 : decode M_t_readToken.2.1 100 = .ok (.invokevirtual 108, 3) := by decide +kernel
theorem D_t_readToken_103 : decode M_t_readToken.2.1 103 = .ok (.goto 28, 3) := by decide +kernel
theorem D_t_readToken_106 : decode M_t_readToken.2.1 106 = .ok (.aload_n 0, 1) := by decide +kernel
theorem D_t_readToken_107 : decode M_t_readToken.2.1 107 = .ok (.iload_n 1, 1) := by decide +kernel
theorem D_t_readToken_108 : decode M_t_readToken.2.1 108 = .ok (.bipush 59, 2) := by decide +kernel
theorem D_t_readToken_110 : decode M_t_readToken.2.1 110 = .ok (.if_icmp .ne 7, 3) := by decide +kernel
theorem D_t_readToken_113 : decode M_t_readToken.2.1 113 = .ok (.iconst 3, 1) := by decide +kernel
theorem D_t_readToken_114 : decode M_t_readToken.2.1 114 = .ok (.goto 4, 3) := by decide +kernel
theorem D_t_readToken_117 : decode M_t_readToken.2.1 117 = .ok (.iconst 4, 1) := by decide +kernel
theorem D_t_readToken_118 : decode M_t_readToken.2.1 118 = .ok (.putfield 37, 3) := by decide +kernel
theorem D_t_readToken_121 : decode M_t_readToken.2.1 121 = .ok (.aload_n 0, 1) := by decide +kernel
theorem D_t_readToken_122 : decode M_t_readToken.2.1 122 = .ok (.dup, 1) := by decide +kernel
theorem D_t_readToken_123 : decode M_t_readToken.2.1 123 = .ok (.getfield 24, 3) := by decide +kernel
theorem D_t_readToken_126 : decode M_t_readToken.2.1 126 = .ok (.iconst 1, 1) := by decide +kernel
theorem D_t_readToken_127 : decode M_t_readToken.2.1 127 = .ok (.iadd, 1) := by decide +kernel
theorem D_t_readToken_128 : decode M_t_readToken.2.1 128 = .ok (.putfield 24, 3) := by decide +kernel
theorem D_t_readToken_131 : decode M_t_readToken.2.1 131 = .ok (.return_, 1) := by decide +kernel
theorem D_t_readLetters_0 : decode M_t_readLetters.2.1 0 = .ok (.aload_n 0, 1) := by decide +kernel
theorem D_t_readLetters_1 : decode M_t_readLetters.2.1 1 = .ok (.iconst 1, 1) := by decide +kernel
theorem D_t_readLetters_2 : decode M_t_readLetters.2.1 2 = .ok (.putfield 37, 3) := by decide +kernel
theorem D_t_readLetters_5 : decode M_t_readLetters.2.1 5 = .ok (.aload_n 0, 1) := by decide +kernel
theorem D_t_readLetters_6 : decode M_t_readLetters.2.1 6 = .ok (.getfield 24, 3) := by decide +kernel
theorem D_t_readLetters_9 : decode M_t_readLetters.2.1 9 = .ok (.aload_n 0, 1) := by decide +kernel
theorem D_t_readLetters_10 : decode M_t_readLetters.2.1 10 = .ok (.getfield 15, 3) := by decide +kernel
theorem D_t_readLetters_13 : decode M_t_readLetters.2.1 13 = .ok (.if_icmp .ge 30, 3) := by decide +kernel
theorem D_t_readLetters_16 : decode M_t_readLetters.2.1 16 = .ok (.aload_n 0, 1) := by decide +kernel
theorem D_t_readLetters_17 : decode M_t_readLetters.2.1 17 = .ok (.aload_n 0, 1) := by decide +kernel
theorem D_t_readLetters_18 : decode M_t_readLetters.2.1 18 = .ok (.getfield 24, 3) := by decide +kernel
theorem D_t_readLetters_21 : decode M_t_readLetters.2.1 21 = .ok (.invokevirtual 95, 3) := by decide +kernel
theorem D_t_readLetters_24 : decode M_t_readLetters.2.1 24 = .ok (.invokestatic 99, 3) := by decide +kernel
theorem D_t_readLetters_27 : decode M_t_readLetters.2.1 27 = .ok (.ifCond .eq 16, 3) := by decide +kernel
theorem D_t_readLetters_30 : decode M_t_readLetters.2.1 30 = .ok (.aload_n 0, 1) := by decide +kernel
theorem D_t_readLetters_31 : decode M_t_readLetters.2.1 31 = .ok (.dup, 1) := by decide +kernel
theorem D_t_readLetters_32 : decode M_t_readLetters.2.1 32 = .ok (.getfield 24, 3) := by decide +kernel
theorem D_t_readLetters_35 : decode M_t_readLetters.2.1 35 = .ok (.iconst 1, 1) := by decide +kernel
theorem D_t_readLetters_36 : decode M_t_readLetters.2.1 36 = .ok (.iadd, 1) := by decide +kernel
theorem D_t_readLetters_37 : decode M_t_readLetters.2.1 37 = .ok (.putfield 24, 3) := by decide +kernel
theorem D_t_readLetters_40 : decode M_t_readLetters.2.1 40 = .ok (.goto (-35), 3) := by decide +kernel
theorem D_t_readLetters_43 : decode M_t_readLetters.2.1 43 = .ok (.aload_n 0, 1) := by decide +kernel
theorem D_t_readLetters_44 : decode M_t_readLetters.2.1 44 = .ok (.aload_n 0, 1) := by decide +kernel
theorem D_t_readLetters_45 : decode M_t_readLetters.2.1 45 = .ok (.getfield 24, 3) := by decide +kernel
theorem D_t_readLetters_48 : decode M_t_readLetters.2.1 48 = .ok (.aload_n 0, 1) := by decide +kernel
theorem D_t_readLetters_49 : decode M_t_readLetters.2.1 49 = .ok (.getfield 44, 3) := by decide +kernel
theorem D_t_readLetters_52 : decode M_t_readLetters.2.1 52 = .ok (.isub, 1) := by decide +kernel
theorem D_t_readLetters_53 : decode M_t_readLetters.2.1 53 = .ok (.iconst 1, 1) := by decide +kernel
theorem D_t_readLetters_54 : decode M_t_readLetters.2.1 54 = .ok (.if_icmp .ne 14, 3) := by decide +kernel
theorem D_t_readLetters_57 : decode M_t_readLetters.2.1 57 = .ok (.aload_n 0, 1) := by decide +kernel
theorem D_t_readLetters_58 : decode M_t_readLetters.2.1 58 = .ok (.aload_n 0, 1) := by decide +kernel
theorem D_t_readLetters_59 : decode M_t_readLetters.2.1 59 = .ok (.getfield 44, 3) := by decide +kernel
theorem D_t_readLetters_62 : decode M_t_readLetters.2.1 62 = .ok (.invokevirtual 95, 3) := by decide +kernel
theorem D_t_readLetters_65 : decode M_t_readLetters.2.1 65 = .ok (.goto 4, 3) := by decide +kernel
theorem D_t_readLetters_68 : decode M_t_readLetters.2.1 68 = .ok (.iconst 0, 1) := by decide +kernel
theorem D_t_readLetters_69 : decode M_t_readLetters.2.1 69 = .ok (.putfield 47, 3) := by decide +kernel
theorem D_t_readLetters_72 : decode M_t_readLetters.2.1 72 = .ok (.return_, 1) := by decide +kernel
theorem D_t_readDigits_0 : decode M_t_readDigits.2.1 0 = .ok (.aload_n 0, 1) := by decide +kernel
theorem D_t_readDigits_1 : decode M_t_readDigits.2.1 1 = .ok (.getfield 24, 3) := by decide +kernel
theorem D_t_readDigits_4 : decode M_t_readDigits.2.1 4 = .ok (.aload_n 0, 1) := by decide +kernel
theorem D_t_readDigits_5 : decode M_t_readDigits.2.1 5 = .ok (.getfield 15, 3) := by decide +kernel
theorem D_t_readDigits_8 : decode M_t_readDigits.2.1 8 = .ok (.if_icmp .ge 58, 3) := by decide +kernel
theorem D_t_readDigits_11 : decode M_t_readDigits.2.1 11 = .ok (.aload_n 0, 1) := by decide +kernel
theorem D_t_readDigits_12 : decode M_t_readDigits.2.1 12 = .ok (.aload_n 0, 1) := by decide +kernel
theorem D_t_readDigits_13 : decode M_t_readDigits.2.1 13 = .ok (.getfield 24, 3) := by decide +kernel
theorem D_t_readDigits_16 : decode M_t_readDigits.2.1 16 = .ok (.invokevirtual 95, 3) := by decide +kernel
theorem D_t_readDigits_19 : decode M_t_readDigits.2.1 19 = .ok (.invokestatic 105, 3) := by decide +kernel
theorem D_t_readDigits_22 : decode M_t_readDigits.2.1 22 = .ok (.ifCond .eq 44, 3) := by decide +kernel
theorem D_t_readDigits_25 : decode M_t_readDigits.2.1 25 = .ok (.aload_n 0, 1) := by decide +kernel
theorem D_t_readDigits_26 : decode M_t_readDigits.2.1 26 = .ok (.aload_n 0, 1) := by decide +kernel
theorem D_t_readDigits_27 : decode M_t_readDigits.2.1 27 = .ok (.getfield 47, 3) := by decide +kernel
theorem D_t_readDigits_30 : decode M_t_readDigits.2.1 30 = .ok (.bipush 10, 2) := by decide +kernel
theorem D_t_readDigits_32 : decode M_t_readDigits.2.1 32 = .ok (.imul, 1) := by decide +kernel
theorem D_t_readDigits_33 : decode M_t_readDigits.2.1 33 = .ok (.aload_n 0, 1) := by decide +kernel
theorem D_t_readDigits_34 : decode M_t_readDigits.2.1 34 = .ok (.aload_n 0, 1) := by decide +kernel
theorem D_t_readDigits_35 : decode M_t_readDigits.2.1 35 = .ok (.getfield 24, 3) := by decide +kernel
theorem D_t_readDigits_38 : decode M_t_readDigits.2.1 38 = .ok (.invokevirtual 95, 3) := by decide +kernel
theorem D_t_readDigits_41 : decode M_t_readDigits.2.1 41 = .ok (.iadd, 1) := by decide +kernel
theorem D_t_readDigits_42 : decode M_t_readDigits.2.1 42 = .ok (.bipush 48, 2) := by decide +kernel
theorem D_t_readDigits_44 : decode M_t_readDigits.2.1 44 = .ok (.isub, 1) := by decide +kernel
theorem D_t_readDigits_45 : decode M_t_readDigits.2.1 45 = .ok (.bipush 100, 2) := by decide +kernel
theorem D_t_readDigits_47 : decode M_t_readDigits.2.1 47 = .ok (.invokestatic 111, 3) := by decide +kernel
theorem D_t_readDigits_50 : decode M_t_readDigits.2.1 50 = .ok (.putfield 47, 3) := by decide +kernel
theorem D_t_readDigits_53 : decode M_t_readDigits.2.1 53 = .ok (.aload_n 0, 1) := by decide +kernel
theorem D_t_readDigits_54 : decode M_t_readDigits.2.1 54 = .ok (.dup, 1) := by decide +kernel
theorem D_t_readDigits_55 : decode M_t_readDigits.2.1 55 = .ok (.getfield 24, 3) := by decide +kernel
theorem D_t_readDigits_58 : decode M_t_readDigits.2.1 58 = .ok (.iconst 1, 1) := by decide +kernel
theorem D_t_readDigits_59 : decode M_t_readDigits.2.1 59 = .ok (.iadd, 1) := by decide +kernel
theorem D_t_readDigits_60 : decode M_t_readDigits.2.1 60 = .ok (.putfield 24, 3) := by decide +kernel
theorem D_t_readDigits_63 : decode M_t_readDigits.2.1 63 = .ok (.goto (-63), 3) := by decide +kernel
theorem D_t_readDigits_66 : decode M_t_readDigits.2.1 66 = .ok (.aload_n 0, 1) := by decide +kernel
theorem D_t_readDigits_67 : decode M_t_readDigits.2.1 67 = .ok (.aload_n 0, 1) := by decide +kernel
theorem D_t_readDigits_68 : decode M_t_readDigits.2.1 68 = .ok (.getfield 44, 3) := by decide +kernel
theorem D_t_readDigits_71 : decode M_t_readDigits.2.1 71 = .ok (.invokevirtual 95, 3) := by decide +kernel
theorem D_t_readDigits_74 : decode M_t_readDigits.2.1 74 = .ok (.bipush 48, 2) := by decide +kernel
theorem D_t_readDigits_76 : decode M_t_readDigits.2.1 76 = .ok (.if_icmp .ne 20, 3) := by decide +kernel
theorem D_t_readDigits_79 : decode M_t_readDigits.2.1 79 = .ok (.aload_n 0, 1) := by decide +kernel
theorem D_t_readDigits_80 : decode M_t_readDigits.2.1 80 = .ok (.getfield 24, 3) := by decide +kernel
theorem D_t_readDigits_83 : decode M_t_readDigits.2.1 83 = .ok (.aload_n 0, 1) := by decide +kernel
theorem D_t_readDigits_84 : decode M_t_readDigits.2.1 84 = .ok (.getfield 44, 3) := by decide +kernel
theorem D_t_readDigits_87 : decode M_t_readDigits.2.1 87 = .ok (.isub, 1) := by decide +kernel
theorem D_t_readDigits_88 : decode M_t_readDigits.2.1 88 = .ok (.iconst 1, 1) := by decide +kernel
theorem D_t_readDigits_89 : decode M_t_readDigits.2.1 89 = .ok (.if_icmp .le 7, 3) := by decide +kernel
theorem D_t_readDigits_92 : decode M_t_readDigits.2.1 92 = .ok (.iconst 1, 1) := by decide +kernel
theorem D_t_readDigits_93 : decode M_t_readDigits.2.1 93 = .ok (.goto 4, 3) := by decide +kernel
theorem D_t_readDigits_96 : decode M_t_readDigits.2.1 96 = .ok (.iconst 0, 1) := by decide +kernel
theorem D_t_readDigits_97 : decode M_t_readDigits.2.1 97 = .ok (.istore_n 1, 1) := by decide +kernel
theorem D_t_readDigits_98 : decode M_t_readDigits.2.1 98 = .ok (.aload_n 0, 1) := by decide +kernel
theorem D_t_readDigits_99 : decode M_t_readDigits.2.1 99 = .ok (.iload_n 1, 1) := by decide +kernel
theorem D_t_readDigits_100 : decode M_t_readDigits.2.1 100 = .ok (.ifCond .ne 12, 3) := by decide +kernel
theorem D_t_readDigits_103 : decode M_t_readDigits.2.1 103 = .ok (.aload_n 0, 1) := by decide +kernel
theorem D_t_readDigits_104 : decode M_t_readDigits.2.1 104 = .ok (.getfield 47, 3) := by decide +kernel
theorem D_t_readDigits_107 : decode M_t_readDigits.2.1 107 = .ok (.bipush 99, 2) := by decide +kernel
theorem D_t_readDigits_109 : decode M_t_readDigits.2.1 109 = .ok (.if_icmp .le 7, 3) := by decide +kernel
theorem D_t_readDigits_112 : decode M_t_readDigits.2.1 112 = .ok (.iconst 4, 1) := by decide +kernel
theorem D_t_readDigits_113 : decode M_t_readDigits.2.1 113 = .ok (.goto 4, 3) := by decide +kernel
theorem D_t_readDigits_116 : decode M_t_readDigits.2.1 116 = .ok (.iconst 2, 1) := by decide +kernel
theorem D_t_readDigits_117 : decode M_t_readDigits.2.1 117 = .ok (.putfield 37, 3) := by decide +kernel
theorem D_t_readDigits_120 : decode M_t_readDigits.2.1 120 = .ok (.return_, 1) := by decide +kernel
theorem D_t_byteAt_0 : decode M_t_byteAt.2.1 0 = .ok (.iload_n 1, 1) := by decide +kernel
theorem D_t_byteAt_1 : decode M_t_byteAt.2.1 1 = .ok (.ifCond .lt 29, 3) := by decide +kernel
theorem D_t_byteAt_4 : decode M_t_byteAt.2.1 4 = .ok (.iload_n 1, 1) := by decide +kernel
theorem D_t_byteAt_5 : decode M_t_byteAt.2.1 5 = .ok (.aload_n 0, 1) := by decide +kernel
theorem D_t_byteAt_6 : decode M_t_byteAt.2.1 6 = .ok (.getfield 15, 3) := by decide +kernel
theorem D_t_byteAt_9 : decode M_t_byteAt.2.1 9 = .ok (.if_icmp .ge 21, 3) := by decide +kernel
theorem D_t_byteAt_12 : decode M_t_byteAt.2.1 12 = .ok (.iload_n 1, 1) := by decide +kernel
theorem D_t_byteAt_13 : decode M_t_byteAt.2.1 13 = .ok (.aload_n 0, 1) := by decide +kernel
theorem D_t_byteAt_14 : decode M_t_byteAt.2.1 14 = .ok (.getfield 9, 3) := by decide +kernel
theorem D_t_byteAt_17 : decode M_t_byteAt.2.1 17 = .ok (.arraylength, 1) := by decide +kernel
theorem D_t_byteAt_18 : decode M_t_byteAt.2.1 18 = .ok (.if_icmp .ge 12, 3) := by decide +kernel
theorem D_t_byteAt_21 : decode M_t_byteAt.2.1 21 = .ok (.aload_n 0, 1) := by decide +kernel
theorem D_t_byteAt_22 : decode M_t_byteAt.2.1 22 = .ok (.getfield 9, 3) := by decide +kernel
theorem D_t_byteAt_25 : decode M_t_byteAt.2.1 25 = .ok (.iload_n 1, 1) := by decide +kernel
theorem D_t_byteAt_26 : decode M_t_byteAt.2.1 26 = .ok (.iaload, 1) := by decide +kernel
theorem D_t_byteAt_27 : decode M_t_byteAt.2.1 27 = .ok (.goto 4, 3) := by decide +kernel
theorem D_t_byteAt_30 : decode M_t_byteAt.2.1 30 = .ok (.iconst 0, 1) := by decide +kernel
theorem D_t_byteAt_31 : decode M_t_byteAt.2.1 31 = .ok (.ireturn, 1) := by decide +kernel
theorem D_t_isLetter_0 : decode M_t_isLetter.2.1 0 = .ok (.iload_n 0, 1) := by decide +kernel
theorem D_t_isLetter_1 : decode M_t_isLetter.2.1 1 = .ok (.bipush 97, 2) := by decide +kernel
theorem D_t_isLetter_3 : decode M_t_isLetter.2.1 3 = .ok (.if_icmp .lt 13, 3) := by decide +kernel
theorem D_t_isLetter_6 : decode M_t_isLetter.2.1 6 = .ok (.iload_n 0, 1) := by decide +kernel
theorem D_t_isLetter_7 : decode M_t_isLetter.2.1 7 = .ok (.bipush 122, 2) := by decide +kernel
theorem D_t_isLetter_9 : decode M_t_isLetter.2.1 9 = .ok (.if_icmp .gt 7, 3) := by decide +kernel
theorem D_t_isLetter_12 : decode M_t_isLetter.2.1 12 = .ok (.iconst 1, 1) := by decide +kernel
theorem D_t_isLetter_13 : decode M_t_isLetter.2.1 13 = .ok (.goto 4, 3) := by decide +kernel
theorem D_t_isLetter_16 : decode M_t_isLetter.2.1 16 = .ok (.iconst 0, 1) := by decide +kernel
theorem D_t_isLetter_17 : decode M_t_isLetter.2.1 17 = .ok (.ireturn, 1) := by decide +kernel
theorem D_t_isDigit_0 : decode M_t_isDigit.2.1 0 = .ok (.iload_n 0, 1) := by decide +kernel
theorem D_t_isDigit_1 : decode M_t_isDigit.2.1 1 = .ok (.bipush 48, 2) := by decide +kernel
theorem D_t_isDigit_3 : decode M_t_isDigit.2.1 3 = .ok (.if_icmp .lt 13, 3) := by decide +kernel
theorem D_t_isDigit_6 : decode M_t_isDigit.2.1 6 = .ok (.iload_n 0, 1) := by decide +kernel
theorem D_t_isDigit_7 : decode M_t_isDigit.2.1 7 = .ok (.bipush 57, 2) := by decide +kernel
theorem D_t_isDigit_9 : decode M_t_isDigit.2.1 9 = .ok (.if_icmp .gt 7, 3) := by decide +kernel
theorem D_t_isDigit_12 : decode M_t_isDigit.2.1 12 = .ok (.iconst 1, 1) := by decide +kernel
theorem D_t_isDigit_13 : decode M_t_isDigit.2.1 13 = .ok (.goto 4, 3) := by decide +kernel
theorem D_t_isDigit_16 : decode M_t_isDigit.2.1 16 = .ok (.iconst 0, 1) := by decide +kernel
theorem D_t_isDigit_17 : decode M_t_isDigit.2.1 17 = .ok (.ireturn, 1) := by decide +kernel
theorem D_j_floorMod_0 : decode M_j_floorMod.2.1 0 = .ok (.iload_n 0, 1) := by decide +kernel
theorem D_j_floorMod_1 : decode M_j_floorMod.2.1 1 = .ok (.iload_n 1, 1) := by decide +kernel
theorem D_j_floorMod_2 : decode M_j_floorMod.2.1 2 = .ok (.irem, 1) := by decide +kernel
theorem D_j_floorMod_3 : decode M_j_floorMod.2.1 3 = .ok (.istore_n 2, 1) := by decide +kernel
theorem D_j_floorMod_4 : decode M_j_floorMod.2.1 4 = .ok (.iload_n 0, 1) := by decide +kernel
theorem D_j_floorMod_5 : decode M_j_floorMod.2.1 5 = .ok (.iload_n 1, 1) := by decide +kernel
theorem D_j_floorMod_6 : decode M_j_floorMod.2.1 6 = .ok (.ixor, 1) := by decide +kernel
theorem D_j_floorMod_7 : decode M_j_floorMod.2.1 7 = .ok (.ifCond .ge 11, 3) := by decide +kernel
theorem D_j_floorMod_10 : decode M_j_floorMod.2.1 10 = .ok (.iload_n 2, 1) := by decide +kernel
theorem D_j_floorMod_11 : decode M_j_floorMod.2.1 11 = .ok (.ifCond .eq 7, 3) := by decide +kernel
theorem D_j_floorMod_14 : decode M_j_floorMod.2.1 14 = .ok (.iload_n 2, 1) := by decide +kernel
theorem D_j_floorMod_15 : decode M_j_floorMod.2.1 15 = .ok (.iload_n 1, 1) := by decide +kernel
theorem D_j_floorMod_16 : decode M_j_floorMod.2.1 16 = .ok (.iadd, 1) := by decide +kernel
theorem D_j_floorMod_17 : decode M_j_floorMod.2.1 17 = .ok (.ireturn, 1) := by decide +kernel
theorem D_j_floorMod_18 : decode M_j_floorMod.2.1 18 = .ok (.iload_n 2, 1) := by decide +kernel
theorem D_j_floorMod_19 : decode M_j_floorMod.2.1 19 = .ok (.ireturn, 1) := by decide +kernel
theorem D_j_max_0 : decode M_j_max.2.1 0 = .ok (.iload_n 0, 1) := by decide +kernel
theorem D_j_max_1 : decode M_j_max.2.1 1 = .ok (.iload_n 1, 1) := by decide +kernel
theorem D_j_max_2 : decode M_j_max.2.1 2 = .ok (.if_icmp .lt 7, 3) := by decide +kernel
theorem D_j_max_5 : decode M_j_max.2.1 5 = .ok (.iload_n 0, 1) := by decide +kernel
theorem D_j_max_6 : decode M_j_max.2.1 6 = .ok (.goto 4, 3) := by decide +kernel
theorem D_j_max_9 : decode M_j_max.2.1 9 = .ok (.iload_n 1, 1) := by decide +kernel
theorem D_j_max_10 : decode M_j_max.2.1 10 = .ok (.ireturn, 1) := by decide +kernel
theorem D_j_min_0 : decode M_j_min.2.1 0 = .ok (.iload_n 0, 1) := by decide +kernel
theorem D_j_min_1 : decode M_j_min.2.1 1 = .ok (.iload_n 1, 1) := by decide +kernel
theorem D_j_min_2 : decode M_j_min.2.1 2 = .ok (.if_icmp .gt 7, 3) := by decide +kernel
theorem D_j_min_5 : decode M_j_min.2.1 5 = .ok (.iload_n 0, 1) := by decide +kernel
theorem D_j_min_6 : decode M_j_min.2.1 6 = .ok (.goto 4, 3) := by decide +kernel
theorem D_j_min_9 : decode M_j_min.2.1 9 = .ok (.iload_n 1, 1) := by decide +kernel
theorem D_j_min_10 : decode M_j_min.2.1 10 = .ok (.ireturn, 1) := by decide +kernel
theorem D_j_fill_0 : decode M_j_fill.2.1 0 = .ok (.iconst 0, 1) := by decide +kernel
theorem D_j_fill_1 : decode M_j_fill.2.1 1 = .ok (.istore_n 2, 1) := by decide +kernel
theorem D_j_fill_2 : decode M_j_fill.2.1 2 = .ok (.aload_n 0, 1) := by decide +kernel
theorem D_j_fill_3 : decode M_j_fill.2.1 3 = .ok (.arraylength, 1) := by decide +kernel
theorem D_j_fill_4 : decode M_j_fill.2.1 4 = .ok (.istore_n 3, 1) := by decide +kernel
theorem D_j_fill_5 : decode M_j_fill.2.1 5 = .ok (.iload_n 2, 1) := by decide +kernel
theorem D_j_fill_6 : decode M_j_fill.2.1 6 = .ok (.iload_n 3, 1) := by decide +kernel
theorem D_j_fill_7 : decode M_j_fill.2.1 7 = .ok (.if_icmp .ge 13, 3) := by decide +kernel
theorem D_j_fill_10 : decode M_j_fill.2.1 10 = .ok (.aload_n 0, 1) := by decide +kernel
theorem D_j_fill_11 : decode M_j_fill.2.1 11 = .ok (.iload_n 2, 1) := by decide +kernel
theorem D_j_fill_12 : decode M_j_fill.2.1 12 = .ok (.iload_n 1, 1) := by decide +kernel
theorem D_j_fill_13 : decode M_j_fill.2.1 13 = .ok (.iastore, 1) := by decide +kernel
theorem D_j_fill_14 : decode M_j_fill.2.1 14 = .ok (.iinc 2 1, 3) := by decide +kernel
theorem D_j_fill_17 : decode M_j_fill.2.1 17 = .ok (.goto (-12), 3) := by decide +kernel
theorem D_j_fill_20 : decode M_j_fill.2.1 20 = .ok (.return_, 1) := by decide +kernel
end
section
theorem D_w_empty_0 : decode M_w_empty.2.1 0 = .ok (.aload_n 0, 1) := by decide +kernel
theorem D_w_empty_1 : decode M_w_empty.2.1 1 = .ok (.iconst 0, 1) := by decide +kernel
theorem D_w_empty_2 : decode M_w_empty.2.1 2 = .ok (.putfield 21, 3) := by decide +kernel
theorem D_w_empty_5 : decode M_w_empty.2.1 5 = .ok (.aload_n 0, 1) := by decide +kernel
theorem D_w_empty_6 : decode M_w_empty.2.1 6 = .ok (.iconst 0, 1) := by decide +kernel
theorem D_w_empty_7 : decode M_w_empty.2.1 7 = .ok (.putfield 25, 3) := by decide +kernel
theorem D_w_empty_10 : decode M_w_empty.2.1 10 = .ok (.aload_n 0, 1) := by decide +kernel
theorem D_w_empty_11 : decode M_w_empty.2.1 11 = .ok (.bipush 8, 2) := by decide +kernel
theorem D_w_empty_13 : decode M_w_empty.2.1 13 = .ok (.putfield 28, 3) := by decide +kernel
theorem D_w_empty_16 : decode M_w_empty.2.1 16 = .ok (.aload_n 0, 1) := by decide +kernel
theorem D_w_empty_17 : decode M_w_empty.2.1 17 = .ok (.iconst 1, 1) := by decide +kernel
theorem D_w_empty_18 : decode M_w_empty.2.1 18 = .ok (.putfield 31, 3) := by decide +kernel
theorem D_w_empty_21 : decode M_w_empty.2.1 21 = .ok (.return_, 1) := by decide +kernel
theorem D_w_hasSpot_0 : decode M_w_hasSpot.2.1 0 = .ok (.iload_n 1, 1) := by decide +kernel
theorem D_w_hasSpot_1 : decode M_w_hasSpot.2.1 1 = .ok (.ifCond .lt 24, 3) := by decide +kernel
theorem D_w_hasSpot_4 : decode M_w_hasSpot.2.1 4 = .ok (.iload_n 1, 1) := by decide +kernel
theorem D_w_hasSpot_5 : decode M_w_hasSpot.2.1 5 = .ok (.aload_n 0, 1) := by decide +kernel
theorem D_w_hasSpot_6 : decode M_w_hasSpot.2.1 6 = .ok (.getfield 21, 3) := by decide +kernel
theorem D_w_hasSpot_9 : decode M_w_hasSpot.2.1 9 = .ok (.if_icmp .ge 16, 3) := by decide +kernel
theorem D_w_hasSpot_12 : decode M_w_hasSpot.2.1 12 = .ok (.iload_n 1, 1) := by decide +kernel
theorem D_w_hasSpot_13 : decode M_w_hasSpot.2.1 13 = .ok (.aload_n 0, 1) := by decide +kernel
theorem D_w_hasSpot_14 : decode M_w_hasSpot.2.1 14 = .ok (.getfield 9, 3) := by decide +kernel
theorem D_w_hasSpot_17 : decode M_w_hasSpot.2.1 17 = .ok (.arraylength, 1) := by decide +kernel
theorem D_w_hasSpot_18 : decode M_w_hasSpot.2.1 18 = .ok (.if_icmp .ge 7, 3) := by decide +kernel
theorem D_w_hasSpot_21 : decode M_w_hasSpot.2.1 21 = .ok (.iconst 1, 1) := by decide +kernel
theorem D_w_hasSpot_22 : decode M_w_hasSpot.2.1 22 = .ok (.goto 4, 3) := by decide +kernel
theorem D_w_hasSpot_25 : decode M_w_hasSpot.2.1 25 = .ok (.iconst 0, 1) := by decide +kernel
theorem D_w_hasSpot_26 : decode M_w_hasSpot.2.1 26 = .ok (.ireturn, 1) := by decide +kernel
theorem D_w_hasPerson_0 : decode M_w_hasPerson.2.1 0 = .ok (.iload_n 1, 1) := by decide +kernel
theorem D_w_hasPerson_1 : decode M_w_hasPerson.2.1 1 = .ok (.ifCond .lt 24, 3) := by decide +kernel
theorem D_w_hasPerson_4 : decode M_w_hasPerson.2.1 4 = .ok (.iload_n 1, 1) := by decide +kernel
theorem D_w_hasPerson_5 : decode M_w_hasPerson.2.1 5 = .ok (.aload_n 0, 1) := by decide +kernel
theorem D_w_hasPerson_6 : decode M_w_hasPerson.2.1 6 = .ok (.getfield 25, 3) := by decide +kernel
theorem D_w_hasPerson_9 : decode M_w_hasPerson.2.1 9 = .ok (.if_icmp .ge 16, 3) := by decide +kernel
theorem D_w_hasPerson_12 : decode M_w_hasPerson.2.1 12 = .ok (.iload_n 1, 1) := by decide +kernel
theorem D_w_hasPerson_13 : decode M_w_hasPerson.2.1 13 = .ok (.aload_n 0, 1) := by decide +kernel
theorem D_w_hasPerson_14 : decode M_w_hasPerson.2.1 14 = .ok (.getfield 18, 3) := by decide +kernel
theorem D_w_hasPerson_17 : decode M_w_hasPerson.2.1 17 = .ok (.arraylength, 1) := by decide +kernel
theorem D_w_hasPerson_18 : decode M_w_hasPerson.2.1 18 = .ok (.if_icmp .ge 7, 3) := by decide +kernel
theorem D_w_hasPerson_21 : decode M_w_hasPerson.2.1 21 = .ok (.iconst 1, 1) := by decide +kernel
theorem D_w_hasPerson_22 : decode M_w_hasPerson.2.1 22 = .ok (.goto 4, 3) := by decide +kernel
theorem D_w_hasPerson_25 : decode M_w_hasPerson.2.1 25 = .ok (.iconst 0, 1) := by decide +kernel
theorem D_w_hasPerson_26 : decode M_w_hasPerson.2.1 26 = .ok (.ireturn, 1) := by decide +kernel
theorem D_w_isPlaceTold_0 : decode M_w_isPlaceTold.2.1 0 = .ok (.iconst 0, 1) := by decide +kernel
theorem D_w_isPlaceTold_1 : decode M_w_isPlaceTold.2.1 1 = .ok (.istore_n 2, 1) := by decide +kernel
theorem D_w_isPlaceTold_2 : decode M_w_isPlaceTold.2.1 2 = .ok (.iload_n 2, 1) := by decide +kernel
theorem D_w_isPlaceTold_3 : decode M_w_isPlaceTold.2.1 3 = .ok (.aload_n 0, 1) := by decide +kernel
theorem D_w_isPlaceTold_4 : decode M_w_isPlaceTold.2.1 4 = .ok (.getfield 25, 3) := by decide +kernel
theorem D_w_isPlaceTold_7 : decode M_w_isPlaceTold.2.1 7 = .ok (.if_icmp .ge 21, 3) := by decide +kernel
theorem D_w_isPlaceTold_10 : decode M_w_isPlaceTold.2.1 10 = .ok (.aload_n 0, 1) := by decide +kernel
theorem D_w_isPlaceTold_11 : decode M_w_isPlaceTold.2.1 11 = .ok (.getfield 15, 3) := by decide +kernel
theorem D_w_isPlaceTold_14 : decode M_w_isPlaceTold.2.1 14 = .ok (.iload_n 2, 1) := by decide +kernel
theorem D_w_isPlaceTold_15 : decode M_w_isPlaceTold.2.1 15 = .ok (.iaload, 1) := by decide +kernel
theorem D_w_isPlaceTold_16 : decode M_w_isPlaceTold.2.1 16 = .ok (.iload_n 1, 1) := by decide +kernel
theorem D_w_isPlaceTold_17 : decode M_w_isPlaceTold.2.1 17 = .ok (.if_icmp .ne 5, 3) := by decide +kernel
theorem D_w_isPlaceTold_20 : decode M_w_isPlaceTold.2.1 20 = .ok (.iconst 1, 1) := by decide +kernel
theorem D_w_isPlaceTold_21 : decode M_w_isPlaceTold.2.1 21 = .ok (.ireturn, 1) := by decide +kernel
theorem D_w_isPlaceTold_22 : decode M_w_isPlaceTold.2.1 22 = .ok (.iinc 2 1, 3) := by decide +kernel
theorem D_w_isPlaceTold_25 : decode M_w_isPlaceTold.2.1 25 = .ok (.goto (-23), 3) := by decide +kernel
theorem D_w_isPlaceTold_28 : decode M_w_isPlaceTold.2.1 28 = .ok (.iconst 0, 1) := by decide +kernel
theorem D_w_isPlaceTold_29 : decode M_w_isPlaceTold.2.1 29 = .ok (.ireturn, 1) := by decide +kernel
theorem D_w_roundThe_0 : decode M_w_roundThe.2.1 0 = .ok (.aload_n 0, 1) := by decide +kernel
theorem D_w_roundThe_1 : decode M_w_roundThe.2.1 1 = .ok (.getfield 21, 3) := by decide +kernel
theorem D_w_roundThe_4 : decode M_w_roundThe.2.1 4 = .ok (.ifCond .le 14, 3) := by decide +kernel
theorem D_w_roundThe_7 : decode M_w_roundThe.2.1 7 = .ok (.iload_n 1, 1) := by decide +kernel
theorem D_w_roundThe_8 : decode M_w_roundThe.2.1 8 = .ok (.aload_n 0, 1) := by decide +kernel
theorem D_w_roundThe_9 : decode M_w_roundThe.2.1 9 = .ok (.getfield 21, 3) := by decide +kernel
theorem D_w_roundThe_12 : decode M_w_roundThe.2.1 12 = .ok (.invokestatic 34, 3) := by decide +kernel
theorem D_w_roundThe_15 : decode M_w_roundThe.2.1 15 = .ok (.goto 4, 3) := by decide +kernel
theorem D_w_roundThe_18 : decode M_w_roundThe.2.1 18 = .ok (.iconst 0, 1) := by decide +kernel
theorem D_w_roundThe_19 : decode M_w_roundThe.2.1 19 = .ok (.ireturn, 1) := by decide +kernel
theorem D_w_wayRound_0 : decode M_w_wayRound.2.1 0 = .ok (.aload_n 0, 1) := by decide +kernel
theorem D_w_wayRound_1 : decode M_w_wayRound.2.1 1 = .ok (.iload_n 2, 1) := by decide +kernel
theorem D_w_wayRound_2 : decode M_w_wayRound.2.1 2 = .ok (.iload_n 1, 1) := by decide +kernel
theorem D_w_wayRound_3 : decode M_w_wayRound.2.1 3 = .ok (.isub, 1) := by decide +kernel
theorem D_w_wayRound_4 : decode M_w_wayRound.2.1 4 = .ok (.invokevirtual 40, 3) := by decide +kernel
theorem D_w_wayRound_7 : decode M_w_wayRound.2.1 7 = .ok (.aload_n 0, 1) := by decide +kernel
theorem D_w_wayRound_8 : decode M_w_wayRound.2.1 8 = .ok (.iload_n 1, 1) := by decide +kernel
theorem D_w_wayRound_9 : decode M_w_wayRound.2.1 9 = .ok (.iload_n 2, 1) := by decide +kernel
theorem D_w_wayRound_10 : decode M_w_wayRound.2.1 10 = .ok (.isub, 1) := by decide +kernel
theorem D_w_wayRound_11 : decode M_w_wayRound.2.1 11 = .ok (.invokevirtual 40, 3) := by decide +kernel
theorem D_w_wayRound_14 : decode M_w_wayRound.2.1 14 = .ok (.invokestatic 44, 3) := by decide +kernel
theorem D_w_wayRound_17 : decode M_w_wayRound.2.1 17 = .ok (.ireturn, 1) := by decide +kernel
theorem D_w_colourAt_0 : decode M_w_colourAt.2.1 0 = .ok (.aload_n 0, 1) := by decide +kernel
theorem D_w_colourAt_1 : decode M_w_colourAt.2.1 1 = .ok (.getfield 9, 3) := by decide +kernel
theorem D_w_colourAt_4 : decode M_w_colourAt.2.1 4 = .ok (.aload_n 0, 1) := by decide +kernel
theorem D_w_colourAt_5 : decode M_w_colourAt.2.1 5 = .ok (.iload_n 1, 1) := by decide +kernel
theorem D_w_colourAt_6 : decode M_w_colourAt.2.1 6 = .ok (.iload_n 2, 1) := by decide +kernel
theorem D_w_colourAt_7 : decode M_w_colourAt.2.1 7 = .ok (.iadd, 1) := by decide +kernel
theorem D_w_colourAt_8 : decode M_w_colourAt.2.1 8 = .ok (.invokevirtual 40, 3) := by decide +kernel
theorem D_w_colourAt_11 : decode M_w_colourAt.2.1 11 = .ok (.iaload, 1) := by decide +kernel
theorem D_w_colourAt_12 : decode M_w_colourAt.2.1 12 = .ok (.ireturn, 1) := by decide +kernel
theorem D_w_leastLikeTurn_0 : decode M_w_leastLikeTurn.2.1 0 = .ok (.iconst 1, 1) := by decide +kernel
theorem D_w_leastLikeTurn_1 : decode M_w_leastLikeTurn.2.1 1 = .ok (.istore_n 1, 1) := by decide +kernel
theorem D_w_leastLikeTurn_2 : decode M_w_leastLikeTurn.2.1 2 = .ok (.iload_n 1, 1) := by decide +kernel
theorem D_w_leastLikeTurn_3 : decode M_w_leastLikeTurn.2.1 3 = .ok (.aload_n 0, 1) := by decide +kernel
theorem D_w_leastLikeTurn_4 : decode M_w_leastLikeTurn.2.1 4 = .ok (.getfield 21, 3) := by decide +kernel
theorem D_w_leastLikeTurn_7 : decode M_w_leastLikeTurn.2.1 7 = .ok (.if_icmp .gt 19, 3) := by decide +kernel
theorem D_w_leastLikeTurn_10 : decode M_w_leastLikeTurn.2.1 10 = .ok (.aload_n 0, 1) := by decide +kernel
theorem D_w_leastLikeTurn_11 : decode M_w_leastLikeTurn.2.1 11 = .ok (.iload_n 1, 1) := by decide +kernel
theorem D_w_leastLikeTurn_12 : decode M_w_leastLikeTurn.2.1 12 = .ok (.invokevirtual 47, 3) := by decide +kernel
theorem D_w_leastLikeTurn_15 : decode M_w_leastLikeTurn.2.1 15 = .ok (.ifCond .eq 5, 3) := by decide +kernel
theorem D_w_leastLikeTurn_18 : decode M_w_leastLikeTurn.2.1 18 = .ok (.iload_n 1, 1) := by decide +kernel
theorem D_w_leastLikeTurn_19 : decode M_w_leastLikeTurn.2.1 19 = .ok (.ireturn, 1) := by decide +kernel
theorem D_w_leastLikeTurn_20 : decode M_w_leastLikeTurn.2.1 20 = .ok (.iinc 1 1, 3) := by decide +kernel
theorem D_w_leastLikeTurn_23 : decode M_w_leastLikeTurn.2.1 23 = .ok (.goto (-21), 3) := by decide +kernel
theorem D_w_leastLikeTurn_26 : decode M_w_leastLikeTurn.2.1 26 = .ok (.bipush (-9), 2) := by decide +kernel
theorem D_w_leastLikeTurn_28 : decode M_w_leastLikeTurn.2.1 28 = .ok (.ireturn, 1) := by decide +kernel
theorem D_w_isAlike_0 : decode M_w_isAlike.2.1 0 = .ok (.iconst 0, 1) := by decide +kernel
theorem D_w_isAlike_1 : decode M_w_isAlike.2.1 1 = .ok (.istore_n 2, 1) := by decide +kernel
theorem D_w_isAlike_2 : decode M_w_isAlike.2.1 2 = .ok (.iload_n 2, 1) := by decide +kernel
theorem D_w_isAlike_3 : decode M_w_isAlike.2.1 3 = .ok (.aload_n 0, 1) := by decide +kernel
theorem D_w_isAlike_4 : decode M_w_isAlike.2.1 4 = .ok (.getfield 21, 3) := by decide +kernel
theorem D_w_isAlike_7 : decode M_w_isAlike.2.1 7 = .ok (.if_icmp .ge 26, 3) := by decide +kernel
theorem D_w_isAlike_10 : decode M_w_isAlike.2.1 10 = .ok (.aload_n 0, 1) := by decide +kernel
theorem D_w_isAlike_11 : decode M_w_isAlike.2.1 11 = .ok (.getfield 9, 3) := by decide +kernel
theorem D_w_isAlike_14 : decode M_w_isAlike.2.1 14 = .ok (.iload_n 2, 1) := by decide +kernel
theorem D_w_isAlike_15 : decode M_w_isAlike.2.1 15 = .ok (.iaload, 1) := by decide +kernel
theorem D_w_isAlike_16 : decode M_w_isAlike.2.1 16 = .ok (.aload_n 0, 1) := by decide +kernel
theorem D_w_isAlike_17 : decode M_w_isAlike.2.1 17 = .ok (.iload_n 2, 1) := by decide +kernel
theorem D_w_isAlike_18 : decode M_w_isAlike.2.1 18 = .ok (.iload_n 1, 1) := by decide +kernel
theorem D_w_isAlike_19 : decode M_w_isAlike.2.1 19 = .ok (.invokevirtual 51, 3) := by decide +kernel
theorem D_w_isAlike_22 : decode M_w_isAlike.2.1 22 = .ok (.if_icmp .eq 5, 3) := by decide +kernel
theorem D_w_isAlike_25 : decode M_w_isAlike.2.1 25 = .ok (.iconst 0, 1) := by decide +kernel
theorem D_w_isAlike_26 : decode M_w_isAlike.2.1 26 = .ok (.ireturn, 1) := by decide +kernel
theorem D_w_isAlike_27 : decode M_w_isAlike.2.1 27 = .ok (.iinc 2 1, 3) := by decide +kernel
theorem D_w_isAlike_30 : decode M_w_isAlike.2.1 30 = .ok (.goto (-28), 3) := by decide +kernel
theorem D_w_isAlike_33 : decode M_w_isAlike.2.1 33 = .ok (.iconst 1, 1) := by decide +kernel
theorem D_w_isAlike_34 : decode M_w_isAlike.2.1 34 = .ok (.ireturn, 1) := by decide +kernel
theorem D_w_clicksOf_0 : decode M_w_clicksOf.2.1 0 = .ok (.iload_n 1, 1) := by decide +kernel
theorem D_w_clicksOf_1 : decode M_w_clicksOf.2.1 1 = .ok (.aload_n 0, 1) := by decide +kernel
theorem D_w_clicksOf_2 : decode M_w_clicksOf.2.1 2 = .ok (.getfield 28, 3) := by decide +kernel
theorem D_w_clicksOf_5 : decode M_w_clicksOf.2.1 5 = .ok (.aload_n 0, 1) := by decide +kernel
theorem D_w_clicksOf_6 : decode M_w_clicksOf.2.1 6 = .ok (.getfield 31, 3) := by decide +kernel
theorem D_w_clicksOf_9 : decode M_w_clicksOf.2.1 9 = .ok (.invokestatic 54, 3) := by decide +kernel
theorem D_w_clicksOf_12 : decode M_w_clicksOf.2.1 12 = .ok (.ireturn, 1) := by decide +kernel
theorem D_w_clicksBy_0 : decode M_w_clicksBy.2.1 0 = .ok (.iconst 0, 1) := by decide +kernel
theorem D_w_clicksBy_1 : decode M_w_clicksBy.2.1 1 = .ok (.istore_n 3, 1) := by decide +kernel
theorem D_w_clicksBy_2 : decode M_w_clicksBy.2.1 2 = .ok (.iload_n 0, 1) := by decide +kernel
theorem D_w_clicksBy_3 : decode M_w_clicksBy.2.1 3 = .ok (.istore 4, 2) := by decide +kernel
theorem D_w_clicksBy_5 : decode M_w_clicksBy.2.1 5 = .ok (.iconst 0, 1) := by decide +kernel
theorem D_w_clicksBy_6 : decode M_w_clicksBy.2.1 6 = .ok (.istore 5, 2) := by decide +kernel
theorem D_w_clicksBy_8 : decode M_w_clicksBy.2.1 8 = .ok (.iload 5, 2) := by decide +kernel
theorem D_w_clicksBy_10 : decode M_w_clicksBy.2.1 10 = .ok (.bipush 60, 2) := by decide +kernel
theorem D_w_clicksBy_12 : decode M_w_clicksBy.2.1 12 = .ok (.if_icmp .ge 30, 3) := by decide +kernel
theorem D_w_clicksBy_15 : decode M_w_clicksBy.2.1 15 = .ok (.iload 4, 2) := by decide +kernel
theorem D_w_clicksBy_17 : decode M_w_clicksBy.2.1 17 = .ok (.ifCond .le 25, 3) := by decide +kernel
theorem D_w_clicksBy_20 : decode M_w_clicksBy.2.1 20 = .ok (.iload_n 3, 1) := by decide +kernel
theorem D_w_clicksBy_21 : decode M_w_clicksBy.2.1 21 = .ok (.iload 4, 2) := by decide +kernel
theorem D_w_clicksBy_23 : decode M_w_clicksBy.2.1 23 = .ok (.iadd, 1) := by decide +kernel
theorem D_w_clicksBy_24 : decode M_w_clicksBy.2.1 24 = .ok (.istore_n 3, 1) := by decide +kernel
theorem D_w_clicksBy_25 : decode M_w_clicksBy.2.1 25 = .ok (.iload 4, 2) := by decide +kernel
theorem D_w_clicksBy_27 : decode M_w_clicksBy.2.1 27 = .ok (.iload_n 1, 1) := by decide +kernel
theorem D_w_clicksBy_28 : decode M_w_clicksBy.2.1 28 = .ok (.imul, 1) := by decide +kernel
theorem D_w_clicksBy_29 : decode M_w_clicksBy.2.1 29 = .ok (.bipush 10, 2) := by decide +kernel
theorem D_w_clicksBy_31 : decode M_w_clicksBy.2.1 31 = .ok (.idiv, 1) := by decide +kernel
theorem D_w_clicksBy_32 : decode M_w_clicksBy.2.1 32 = .ok (.iload_n 2, 1) := by decide +kernel
theorem D_w_clicksBy_33 : decode M_w_clicksBy.2.1 33 = .ok (.isub, 1) := by decide +kernel
theorem D_w_clicksBy_34 : decode M_w_clicksBy.2.1 34 = .ok (.istore 4, 2) := by decide +kernel
theorem D_w_clicksBy_36 : decode M_w_clicksBy.2.1 36 = .ok (.iinc 5 1, 3) := by decide +kernel
theorem D_w_clicksBy_39 : decode M_w_clicksBy.2.1 39 = .ok (.goto (-31), 3) := by decide +kernel
theorem D_w_clicksBy_42 : decode M_w_clicksBy.2.1 42 = .ok (.iload_n 3, 1) := by decide +kernel
theorem D_w_clicksBy_43 : decode M_w_clicksBy.2.1 43 = .ok (.ireturn, 1) := by decide +kernel
theorem D_x_type_0 : decode M_x_type.2.1 0 = .ok (.iload_n 1, 1) := by decide +kernel
theorem D_x_type_1 : decode M_x_type.2.1 1 = .ok (.iconst 0, 1) := by decide +kernel
theorem D_x_type_2 : decode M_x_type.2.1 2 = .ok (.sipush 255, 3) := by decide +kernel
theorem D_x_type_5 : decode M_x_type.2.1 5 = .ok (.invokestatic 99, 3) := by decide +kernel
theorem D_x_type_8 : decode M_x_type.2.1 8 = .ok (.ifCond .ne 5, 3) := by decide +kernel
theorem D_x_type_11 : decode M_x_type.2.1 11 = .ok (.iconst (-1), 1) := by decide +kernel
theorem D_x_type_12 : decode M_x_type.2.1 12 = .ok (.ireturn, 1) := by decide +kernel
theorem D_x_type_13 : decode M_x_type.2.1 13 = .ok (.aload_n 0, 1) := by decide +kernel
theorem D_x_type_14 : decode M_x_type.2.1 14 = .ok (.getfield 10, 3) := by decide +kernel
theorem D_x_type_17 : decode M_x_type.2.1 17 = .ok (.iload_n 1, 1) := by decide +kernel
theorem D_x_type_18 : decode M_x_type.2.1 18 = .ok (.invokevirtual 103, 3) := by decide +kernel
theorem D_x_type_21 : decode M_x_type.2.1 21 = .ok (.ifCond .eq 13, 3) := by decide +kernel
theorem D_x_type_24 : decode M_x_type.2.1 24 = .ok (.aload_n 0, 1) := by decide +kernel
theorem D_x_type_25 : decode M_x_type.2.1 25 = .ok (.getfield 10, 3) := by decide +kernel
theorem D_x_type_28 : decode M_x_type.2.1 28 = .ok (.getfield 107, 3) := by decide +kernel
theorem D_x_type_31 : decode M_x_type.2.1 31 = .ok (.goto 5, 3) := by decide +kernel
theorem D_x_type_34 : decode M_x_type.2.1 34 = .ok (.bipush (-3), 2) := by decide +kernel
theorem D_x_type_36 : decode M_x_type.2.1 36 = .ok (.ireturn, 1) := by decide +kernel
theorem D_x_clear_0 : decode M_x_clear.2.1 0 = .ok (.aload_n 0, 1) := by decide +kernel
theorem D_x_clear_1 : decode M_x_clear.2.1 1 = .ok (.getfield 10, 3) := by decide +kernel
theorem D_x_clear_4 : decode M_x_clear.2.1 4 = .ok (.getfield 107, 3) := by decide +kernel
theorem D_x_clear_7 : decode M_x_clear.2.1 7 = .ok (.istore_n 1, 1) := by decide +kernel
theorem D_x_clear_8 : decode M_x_clear.2.1 8 = .ok (.aload_n 0, 1) := by decide +kernel
theorem D_x_clear_9 : decode M_x_clear.2.1 9 = .ok (.getfield 10, 3) := by decide +kernel
theorem D_x_clear_12 : decode M_x_clear.2.1 12 = .ok (.iconst 0, 1) := by decide +kernel
theorem D_x_clear_13 : decode M_x_clear.2.1 13 = .ok (.putfield 107, 3) := by decide +kernel
theorem D_x_clear_16 : decode M_x_clear.2.1 16 = .ok (.iload_n 1, 1) := by decide +kernel
theorem D_x_clear_17 : decode M_x_clear.2.1 17 = .ok (.ireturn, 1) := by decide +kernel
theorem D_x_rose_0 : decode M_x_rose.2.1 0 = .ok (.aload_n 0, 1) := by decide +kernel
theorem D_x_rose_1 : decode M_x_rose.2.1 1 = .ok (.getfield 10, 3) := by decide +kernel
theorem D_x_rose_4 : decode M_x_rose.2.1 4 = .ok (.aload_n 0, 1) := by decide +kernel
theorem D_x_rose_5 : decode M_x_rose.2.1 5 = .ok (.getfield 23, 3) := by decide +kernel
theorem D_x_rose_8 : decode M_x_rose.2.1 8 = .ok (.invokevirtual 111, 3) := by decide +kernel
theorem D_x_rose_11 : decode M_x_rose.2.1 11 = .ok (.istore_n 1, 1) := by decide +kernel
theorem D_x_rose_12 : decode M_x_rose.2.1 12 = .ok (.iload_n 1, 1) := by decide +kernel
theorem D_x_rose_13 : decode M_x_rose.2.1 13 = .ok (.ifCond .ge 5, 3) := by decide +kernel
theorem D_x_rose_16 : decode M_x_rose.2.1 16 = .ok (.iload_n 1, 1) := by decide +kernel
theorem D_x_rose_17 : decode M_x_rose.2.1 17 = .ok (.ireturn, 1) := by decide +kernel
theorem D_x_rose_18 : decode M_x_rose.2.1 18 = .ok (.aload_n 0, 1) := by decide +kernel
theorem D_x_rose_19 : decode M_x_rose.2.1 19 = .ok (.getfield 23, 3) := by decide +kernel
theorem D_x_rose_22 : decode M_x_rose.2.1 22 = .ok (.astore_n 2, 1) := by decide +kernel
theorem D_x_rose_23 : decode M_x_rose.2.1 23 = .ok (.aload_n 0, 1) := by decide +kernel
theorem D_x_rose_24 : decode M_x_rose.2.1 24 = .ok (.aload_n 0, 1) := by decide +kernel
theorem D_x_rose_25 : decode M_x_rose.2.1 25 = .ok (.getfield 19, 3) := by decide +kernel
theorem D_x_rose_28 : decode M_x_rose.2.1 28 = .ok (.putfield 23, 3) := by decide +kernel
theorem D_x_rose_31 : decode M_x_rose.2.1 31 = .ok (.aload_n 0, 1) := by decide +kernel
theorem D_x_rose_32 : decode M_x_rose.2.1 32 = .ok (.aload_n 2, 1) := by decide +kernel
theorem D_x_rose_33 : decode M_x_rose.2.1 33 = .ok (.putfield 19, 3) := by decide +kernel
theorem D_x_rose_36 : decode M_x_rose.2.1 36 = .ok (.aload_n 0, 1) := by decide +kernel
theorem D_x_rose_37 : decode M_x_rose.2.1 37 = .ok (.getfield 10, 3) := by decide +kernel
theorem D_x_rose_40 : decode M_x_rose.2.1 40 = .ok (.iconst 0, 1) := by decide +kernel
theorem D_x_rose_41 : decode M_x_rose.2.1 41 = .ok (.putfield 107, 3) := by decide +kernel
theorem D_x_rose_44 : decode M_x_rose.2.1 44 = .ok (.aload_n 0, 1) := by decide +kernel
theorem D_x_rose_45 : decode M_x_rose.2.1 45 = .ok (.getfield 29, 3) := by decide +kernel
theorem D_x_rose_48 : decode M_x_rose.2.1 48 = .ok (.aload_n 0, 1) := by decide +kernel
theorem D_x_rose_49 : decode M_x_rose.2.1 49 = .ok (.getfield 19, 3) := by decide +kernel
theorem D_x_rose_52 : decode M_x_rose.2.1 52 = .ok (.invokevirtual 115, 3) := by decide +kernel
theorem D_x_rose_55 : decode M_x_rose.2.1 55 = .ok (.aload_n 0, 1) := by decide +kernel
theorem D_x_rose_56 : decode M_x_rose.2.1 56 = .ok (.getfield 44, 3) := by decide +kernel
theorem D_x_rose_59 : decode M_x_rose.2.1 59 = .ok (.iconst 0, 1) := by decide +kernel
theorem D_x_rose_60 : decode M_x_rose.2.1 60 = .ok (.putfield 119, 3) := by decide +kernel
theorem D_x_rose_63 : decode M_x_rose.2.1 63 = .ok (.aload_n 0, 1) := by decide +kernel
theorem D_x_rose_64 : decode M_x_rose.2.1 64 = .ok (.getfield 48, 3) := by decide +kernel
theorem D_x_rose_67 : decode M_x_rose.2.1 67 = .ok (.iconst 0, 1) := by decide +kernel
theorem D_x_rose_68 : decode M_x_rose.2.1 68 = .ok (.putfield 119, 3) := by decide +kernel
theorem D_x_rose_71 : decode M_x_rose.2.1 71 = .ok (.iconst 0, 1) := by decide +kernel
theorem D_x_rose_72 : decode M_x_rose.2.1 72 = .ok (.istore_n 3, 1) := by decide +kernel
theorem D_x_rose_73 : decode M_x_rose.2.1 73 = .ok (.iload_n 3, 1) := by decide +kernel
theorem D_x_rose_74 : decode M_x_rose.2.1 74 = .ok (.aload_n 0, 1) := by decide +kernel
theorem D_x_rose_75 : decode M_x_rose.2.1 75 = .ok (.getfield 37, 3) := by decide +kernel
theorem D_x_rose_78 : decode M_x_rose.2.1 78 = .ok (.arraylength, 1) := by decide +kernel
theorem D_x_rose_79 : decode M_x_rose.2.1 79 = .ok (.if_icmp .ge 16, 3) := by decide +kernel
theorem D_x_rose_82 : decode M_x_rose.2.1 82 = .ok (.aload_n 0, 1) := by decide +kernel
theorem D_x_rose_83 : decode M_x_rose.2.1 83 = .ok (.getfield 37, 3) := by decide +kernel
theorem D_x_rose_86 : decode M_x_rose.2.1 86 = .ok (.iload_n 3, 1) := by decide +kernel
theorem D_x_rose_87 : decode M_x_rose.2.1 87 = .ok (.iconst 0, 1) := by decide +kernel
theorem D_x_rose_88 : decode M_x_rose.2.1 88 = .ok (.bastore, 1) := by decide +kernel
theorem D_x_rose_89 : decode M_x_rose.2.1 89 = .ok (.iinc 3 1, 3) := by decide +kernel
theorem D_x_rose_92 : decode M_x_rose.2.1 92 = .ok (.goto (-19), 3) := by decide +kernel
theorem D_x_rose_95 : decode M_x_rose.2.1 95 = .ok (.iload_n 1, 1) := by decide +kernel
theorem D_x_rose_96 : decode M_x_rose.2.1 96 = .ok (.ireturn, 1) := by decide +kernel
theorem D_x_pane_0 : decode M_x_pane.2.1 0 = .ok (.aload_n 0, 1) := by decide +kernel
theorem D_x_pane_1 : decode M_x_pane.2.1 1 = .ok (.getfield 19, 3) := by decide +kernel
theorem D_x_pane_4 : decode M_x_pane.2.1 4 = .ok (.iload_n 1, 1) := by decide +kernel
theorem D_x_pane_5 : decode M_x_pane.2.1 5 = .ok (.invokevirtual 122, 3) := by decide +kernel
theorem D_x_pane_8 : decode M_x_pane.2.1 8 = .ok (.ifCond .eq 15, 3) := by decide +kernel
theorem D_x_pane_11 : decode M_x_pane.2.1 11 = .ok (.aload_n 0, 1) := by decide +kernel
theorem D_x_pane_12 : decode M_x_pane.2.1 12 = .ok (.getfield 19, 3) := by decide +kernel
theorem D_x_pane_15 : decode M_x_pane.2.1 15 = .ok (.getfield 125, 3) := by decide +kernel
theorem D_x_pane_18 : decode M_x_pane.2.1 18 = .ok (.iload_n 1, 1) := by decide +kernel
theorem D_x_pane_19 : decode M_x_pane.2.1 19 = .ok (.iaload, 1) := by decide +kernel
theorem D_x_pane_20 : decode M_x_pane.2.1 20 = .ok (.goto 4, 3) := by decide +kernel
theorem D_x_pane_23 : decode M_x_pane.2.1 23 = .ok (.iconst (-1), 1) := by decide +kernel
theorem D_x_pane_24 : decode M_x_pane.2.1 24 = .ok (.ireturn, 1) := by decide +kernel
theorem D_x_one_0 : decode M_x_one.2.1 0 = .ok (.aload_n 0, 1) := by decide +kernel
theorem D_x_one_1 : decode M_x_one.2.1 1 = .ok (.getfield 19, 3) := by decide +kernel
theorem D_x_one_4 : decode M_x_one.2.1 4 = .ok (.iload_n 1, 1) := by decide +kernel
theorem D_x_one_5 : decode M_x_one.2.1 5 = .ok (.invokevirtual 128, 3) := by decide +kernel
theorem D_x_one_8 : decode M_x_one.2.1 8 = .ok (.ifCond .ne 5, 3) := by decide +kernel
theorem D_x_one_11 : decode M_x_one.2.1 11 = .ok (.iconst (-1), 1) := by decide +kernel
theorem D_x_one_12 : decode M_x_one.2.1 12 = .ok (.ireturn, 1) := by decide +kernel
theorem D_x_one_13 : decode M_x_one.2.1 13 = .ok (.iload_n 2, 1) := by decide +kernel
theorem D_x_one_14 : decode M_x_one.2.1 14 = .ok (.tableswitch 79 0 4 #[34, 45, 55, 61, 73], 34) := by decide +kernel
theorem D_x_one_48 : decode M_x_one.2.1 48 = .ok (.aload_n 0, 1) := by decide +kernel
theorem D_x_one_49 : decode M_x_one.2.1 49 = .ok (.getfield 29, 3) := by decide +kernel
theorem D_x_one_52 : decode M_x_one.2.1 52 = .ok (.iconst 4, 1) := by decide +kernel
theorem D_x_one_53 : decode M_x_one.2.1 53 = .ok (.iload_n 1, 1) := by decide +kernel
theorem D_x_one_54 : decode M_x_one.2.1 54 = .ok (.iadd, 1) := by decide +kernel
theorem D_x_one_55 : decode M_x_one.2.1 55 = .ok (.invokevirtual 131, 3) := by decide +kernel
theorem D_x_one_58 : decode M_x_one.2.1 58 = .ok (.ireturn, 1) := by decide +kernel
theorem D_x_one_59 : decode M_x_one.2.1 59 = .ok (.aload_n 0, 1) := by decide +kernel
theorem D_x_one_60 : decode M_x_one.2.1 60 = .ok (.getfield 19, 3) := by decide +kernel
theorem D_x_one_63 : decode M_x_one.2.1 63 = .ok (.getfield 135, 3) := by decide +kernel
theorem D_x_one_66 : decode M_x_one.2.1 66 = .ok (.iload_n 1, 1) := by decide +kernel
theorem D_x_one_67 : decode M_x_one.2.1 67 = .ok (.iaload, 1) := by decide +kernel
theorem D_x_one_68 : decode M_x_one.2.1 68 = .ok (.ireturn, 1) := by decide +kernel
theorem D_x_one_69 : decode M_x_one.2.1 69 = .ok (.aload_n 0, 1) := by decide +kernel
theorem D_x_one_70 : decode M_x_one.2.1 70 = .ok (.iload_n 1, 1) := by decide +kernel
theorem D_x_one_71 : decode M_x_one.2.1 71 = .ok (.invokevirtual 138, 3) := by decide +kernel
theorem D_x_one_74 : decode M_x_one.2.1 74 = .ok (.ireturn, 1) := by decide +kernel
theorem D_x_one_75 : decode M_x_one.2.1 75 = .ok (.aload_n 0, 1) := by decide +kernel
theorem D_x_one_76 : decode M_x_one.2.1 76 = .ok (.getfield 29, 3) := by decide +kernel
theorem D_x_one_79 : decode M_x_one.2.1 79 = .ok (.bipush 10, 2) := by decide +kernel
theorem D_x_one_81 : decode M_x_one.2.1 81 = .ok (.iload_n 1, 1) := by decide +kernel
theorem D_x_one_82 : decode M_x_one.2.1 82 = .ok (.iadd, 1) := by decide +kernel
theorem D_x_one_83 : decode M_x_one.2.1 83 = .ok (.invokevirtual 131, 3) := by decide +kernel
theorem D_x_one_86 : decode M_x_one.2.1 86 = .ok (.ireturn, 1) := by decide +kernel
theorem D_x_one_87 : decode M_x_one.2.1 87 = .ok (.aload_n 0, 1) := by decide +kernel
theorem D_x_one_88 : decode M_x_one.2.1 88 = .ok (.iload_n 1, 1) := by decide +kernel
theorem D_x_one_89 : decode M_x_one.2.1 89 = .ok (.invokevirtual 141, 3) := by decide +kernel
theorem D_x_one_92 : decode M_x_one.2.1 92 = .ok (.ireturn, 1) := by decide +kernel
theorem D_x_one_93 : decode M_x_one.2.1 93 = .ok (.iconst (-1), 1) := by decide +kernel
theorem D_x_one_94 : decode M_x_one.2.1 94 = .ok (.ireturn, 1) := by decide +kernel
theorem D_x_owed_0 : decode M_x_owed.2.1 0 = .ok (.aload_n 0, 1) := by decide +kernel
theorem D_x_owed_1 : decode M_x_owed.2.1 1 = .ok (.iload_n 1, 1) := by decide +kernel
theorem D_x_owed_2 : decode M_x_owed.2.1 2 = .ok (.iload_n 2, 1) := by decide +kernel
theorem D_x_owed_3 : decode M_x_owed.2.1 3 = .ok (.invokevirtual 144, 3) := by decide +kernel
theorem D_x_owed_6 : decode M_x_owed.2.1 6 = .ok (.ifCond .eq 18, 3) := by decide +kernel
theorem D_x_owed_9 : decode M_x_owed.2.1 9 = .ok (.aload_n 0, 1) := by decide +kernel
theorem D_x_owed_10 : decode M_x_owed.2.1 10 = .ok (.getfield 29, 3) := by decide +kernel
theorem D_x_owed_13 : decode M_x_owed.2.1 13 = .ok (.iload_n 1, 1) := by decide +kernel
theorem D_x_owed_14 : decode M_x_owed.2.1 14 = .ok (.iload_n 2, 1) := by decide +kernel
theorem D_x_owed_15 : decode M_x_owed.2.1 15 = .ok (.invokestatic 148, 3) := by decide +kernel
theorem D_x_owed_18 : decode M_x_owed.2.1 18 = .ok (.invokevirtual 131, 3) := by decide +kernel
theorem D_x_owed_21 : decode M_x_owed.2.1 21 = .ok (.goto 4, 3) := by decide +kernel
theorem D_x_owed_24 : decode M_x_owed.2.1 24 = .ok (.iconst (-1), 1) := by decide +kernel
theorem D_x_owed_25 : decode M_x_owed.2.1 25 = .ok (.ireturn, 1) := by decide +kernel
theorem D_x_spins_0 : decode M_x_spins.2.1 0 = .ok (.iload_n 1, 1) := by decide +kernel
theorem D_x_spins_1 : decode M_x_spins.2.1 1 = .ok (.invokestatic 152, 3) := by decide +kernel
theorem D_x_spins_4 : decode M_x_spins.2.1 4 = .ok (.ifCond .ne 5, 3) := by decide +kernel
theorem D_x_spins_7 : decode M_x_spins.2.1 7 = .ok (.iconst (-1), 1) := by decide +kernel
theorem D_x_spins_8 : decode M_x_spins.2.1 8 = .ok (.ireturn, 1) := by decide +kernel
theorem D_x_spins_9 : decode M_x_spins.2.1 9 = .ok (.aload_n 0, 1) := by decide +kernel
theorem D_x_spins_10 : decode M_x_spins.2.1 10 = .ok (.getfield 19, 3) := by decide +kernel
theorem D_x_spins_13 : decode M_x_spins.2.1 13 = .ok (.getfield 155, 3) := by decide +kernel
theorem D_x_spins_16 : decode M_x_spins.2.1 16 = .ok (.ifCond .ne 6, 3) := by decide +kernel
theorem D_x_spins_19 : decode M_x_spins.2.1 19 = .ok (.bipush (-2), 2) := by decide +kernel
theorem D_x_spins_21 : decode M_x_spins.2.1 21 = .ok (.ireturn, 1) := by decide +kernel
theorem D_x_spins_22 : decode M_x_spins.2.1 22 = .ok (.aload_n 0, 1) := by decide +kernel
theorem D_x_spins_23 : decode M_x_spins.2.1 23 = .ok (.getfield 29, 3) := by decide +kernel
theorem D_x_spins_26 : decode M_x_spins.2.1 26 = .ok (.iconst 3, 1) := by decide +kernel
theorem D_x_spins_27 : decode M_x_spins.2.1 27 = .ok (.invokevirtual 131, 3) := by decide +kernel
theorem D_x_spins_30 : decode M_x_spins.2.1 30 = .ok (.sipush 999, 3) := by decide +kernel
theorem D_x_spins_33 : decode M_x_spins.2.1 33 = .ok (.if_icmp .lt 6, 3) := by decide +kernel
theorem D_x_spins_36 : decode M_x_spins.2.1 36 = .ok (.bipush (-3), 2) := by decide +kernel
theorem D_x_spins_38 : decode M_x_spins.2.1 38 = .ok (.ireturn, 1) := by decide +kernel
theorem D_x_spins_39 : decode M_x_spins.2.1 39 = .ok (.aload_n 0, 1) := by decide +kernel
theorem D_x_spins_40 : decode M_x_spins.2.1 40 = .ok (.getfield 29, 3) := by decide +kernel
theorem D_x_spins_43 : decode M_x_spins.2.1 43 = .ok (.invokevirtual 158, 3) := by decide +kernel
theorem D_x_spins_46 : decode M_x_spins.2.1 46 = .ok (.aload_n 0, 1) := by decide +kernel
theorem D_x_spins_47 : decode M_x_spins.2.1 47 = .ok (.getfield 29, 3) := by decide +kernel
theorem D_x_spins_50 : decode M_x_spins.2.1 50 = .ok (.iconst 0, 1) := by decide +kernel
theorem D_x_spins_51 : decode M_x_spins.2.1 51 = .ok (.aload_n 0, 1) := by decide +kernel
theorem D_x_spins_52 : decode M_x_spins.2.1 52 = .ok (.iload_n 1, 1) := by decide +kernel
theorem D_x_spins_53 : decode M_x_spins.2.1 53 = .ok (.invokevirtual 161, 3) := by decide +kernel
theorem D_x_spins_56 : decode M_x_spins.2.1 56 = .ok (.invokevirtual 164, 3) := by decide +kernel
theorem D_x_spins_59 : decode M_x_spins.2.1 59 = .ok (.aload_n 0, 1) := by decide +kernel
theorem D_x_spins_60 : decode M_x_spins.2.1 60 = .ok (.invokevirtual 168, 3) := by decide +kernel
theorem D_x_spins_63 : decode M_x_spins.2.1 63 = .ok (.aload_n 0, 1) := by decide +kernel
theorem D_x_spins_64 : decode M_x_spins.2.1 64 = .ok (.getfield 29, 3) := by decide +kernel
theorem D_x_spins_67 : decode M_x_spins.2.1 67 = .ok (.iconst 0, 1) := by decide +kernel
theorem D_x_spins_68 : decode M_x_spins.2.1 68 = .ok (.invokevirtual 131, 3) := by decide +kernel
theorem D_x_spins_71 : decode M_x_spins.2.1 71 = .ok (.ireturn, 1) := by decide +kernel
theorem D_x_goes_0 : decode M_x_goes.2.1 0 = .ok (.aload_n 0, 1) := by decide +kernel
theorem D_x_goes_1 : decode M_x_goes.2.1 1 = .ok (.getfield 19, 3) := by decide +kernel
theorem D_x_goes_4 : decode M_x_goes.2.1 4 = .ok (.iload_n 1, 1) := by decide +kernel
theorem D_x_goes_5 : decode M_x_goes.2.1 5 = .ok (.invokevirtual 128, 3) := by decide +kernel
theorem D_x_goes_8 : decode M_x_goes.2.1 8 = .ok (.ifCond .eq 14, 3) := by decide +kernel
theorem D_x_goes_11 : decode M_x_goes.2.1 11 = .ok (.aload_n 0, 1) := by decide +kernel
theorem D_x_goes_12 : decode M_x_goes.2.1 12 = .ok (.getfield 19, 3) := by decide +kernel
theorem D_x_goes_15 : decode M_x_goes.2.1 15 = .ok (.iload_n 2, 1) := by decide +kernel
theorem D_x_goes_16 : decode M_x_goes.2.1 16 = .ok (.invokevirtual 122, 3) := by decide +kernel
theorem D_x_goes_19 : decode M_x_goes.2.1 19 = .ok (.ifCond .ne 5, 3) := by decide +kernel
theorem D_x_goes_22 : decode M_x_goes.2.1 22 = .ok (.iconst (-1), 1) := by decide +kernel
theorem D_x_goes_23 : decode M_x_goes.2.1 23 = .ok (.ireturn, 1) := by decide +kernel
theorem D_x_goes_24 : decode M_x_goes.2.1 24 = .ok (.aload_n 0, 1) := by decide +kernel
theorem D_x_goes_25 : decode M_x_goes.2.1 25 = .ok (.iload_n 2, 1) := by decide +kernel
theorem D_x_goes_26 : decode M_x_goes.2.1 26 = .ok (.invokevirtual 171, 3) := by decide +kernel
theorem D_x_goes_29 : decode M_x_goes.2.1 29 = .ok (.iconst (-1), 1) := by decide +kernel
theorem D_x_goes_30 : decode M_x_goes.2.1 30 = .ok (.if_icmp .eq 6, 3) := by decide +kernel
theorem D_x_goes_33 : decode M_x_goes.2.1 33 = .ok (.bipush (-2), 2) := by decide +kernel
theorem D_x_goes_35 : decode M_x_goes.2.1 35 = .ok (.ireturn, 1) := by decide +kernel
theorem D_x_goes_36 : decode M_x_goes.2.1 36 = .ok (.aload_n 0, 1) := by decide +kernel
theorem D_x_goes_37 : decode M_x_goes.2.1 37 = .ok (.getfield 29, 3) := by decide +kernel
theorem D_x_goes_40 : decode M_x_goes.2.1 40 = .ok (.iconst 4, 1) := by decide +kernel
theorem D_x_goes_41 : decode M_x_goes.2.1 41 = .ok (.iload_n 1, 1) := by decide +kernel
theorem D_x_goes_42 : decode M_x_goes.2.1 42 = .ok (.iadd, 1) := by decide +kernel
theorem D_x_goes_43 : decode M_x_goes.2.1 43 = .ok (.invokevirtual 131, 3) := by decide +kernel
theorem D_x_goes_46 : decode M_x_goes.2.1 46 = .ok (.istore_n 3, 1) := by decide +kernel
theorem D_x_goes_47 : decode M_x_goes.2.1 47 = .ok (.aload_n 0, 1) := by decide +kernel
theorem D_x_goes_48 : decode M_x_goes.2.1 48 = .ok (.getfield 29, 3) := by decide +kernel
theorem D_x_goes_51 : decode M_x_goes.2.1 51 = .ok (.invokevirtual 158, 3) := by decide +kernel
theorem D_x_goes_54 : decode M_x_goes.2.1 54 = .ok (.aload_n 0, 1) := by decide +kernel
theorem D_x_goes_55 : decode M_x_goes.2.1 55 = .ok (.getfield 29, 3) := by decide +kernel
theorem D_x_goes_58 : decode M_x_goes.2.1 58 = .ok (.iconst 4, 1) := by decide +kernel
theorem D_x_goes_59 : decode M_x_goes.2.1 59 = .ok (.iload_n 1, 1) := by decide +kernel
theorem D_x_goes_60 : decode M_x_goes.2.1 60 = .ok (.iadd, 1) := by decide +kernel
theorem D_x_goes_61 : decode M_x_goes.2.1 61 = .ok (.iload_n 2, 1) := by decide +kernel
theorem D_x_goes_62 : decode M_x_goes.2.1 62 = .ok (.invokevirtual 164, 3) := by decide +kernel
theorem D_x_goes_65 : decode M_x_goes.2.1 65 = .ok (.iload_n 3, 1) := by decide +kernel
theorem D_x_goes_66 : decode M_x_goes.2.1 66 = .ok (.ireturn, 1) := by decide +kernel
theorem D_x_passes_0 : decode M_x_passes.2.1 0 = .ok (.iload_n 1, 1) := by decide +kernel
theorem D_x_passes_1 : decode M_x_passes.2.1 1 = .ok (.iconst 1, 1) := by decide +kernel
theorem D_x_passes_2 : decode M_x_passes.2.1 2 = .ok (.bipush 11, 2) := by decide +kernel
theorem D_x_passes_4 : decode M_x_passes.2.1 4 = .ok (.invokestatic 99, 3) := by decide +kernel
theorem D_x_passes_7 : decode M_x_passes.2.1 7 = .ok (.ifCond .ne 5, 3) := by decide +kernel
theorem D_x_passes_10 : decode M_x_passes.2.1 10 = .ok (.iconst (-1), 1) := by decide +kernel
theorem D_x_passes_11 : decode M_x_passes.2.1 11 = .ok (.ireturn, 1) := by decide +kernel
theorem D_x_passes_12 : decode M_x_passes.2.1 12 = .ok (.aload_n 0, 1) := by decide +kernel
theorem D_x_passes_13 : decode M_x_passes.2.1 13 = .ok (.getfield 19, 3) := by decide +kernel
theorem D_x_passes_16 : decode M_x_passes.2.1 16 = .ok (.getfield 155, 3) := by decide +kernel
theorem D_x_passes_19 : decode M_x_passes.2.1 19 = .ok (.ifCond .ne 6, 3) := by decide +kernel
theorem D_x_passes_22 : decode M_x_passes.2.1 22 = .ok (.bipush (-2), 2) := by decide +kernel
theorem D_x_passes_24 : decode M_x_passes.2.1 24 = .ok (.ireturn, 1) := by decide +kernel
theorem D_x_passes_25 : decode M_x_passes.2.1 25 = .ok (.aload_n 0, 1) := by decide +kernel
theorem D_x_passes_26 : decode M_x_passes.2.1 26 = .ok (.getfield 29, 3) := by decide +kernel
theorem D_x_passes_29 : decode M_x_passes.2.1 29 = .ok (.invokevirtual 158, 3) := by decide +kernel
theorem D_x_passes_32 : decode M_x_passes.2.1 32 = .ok (.aload_n 0, 1) := by decide +kernel
theorem D_x_passes_33 : decode M_x_passes.2.1 33 = .ok (.getfield 29, 3) := by decide +kernel
theorem D_x_passes_36 : decode M_x_passes.2.1 36 = .ok (.iconst 1, 1) := by decide +kernel
theorem D_x_passes_37 : decode M_x_passes.2.1 37 = .ok (.aload_n 0, 1) := by decide +kernel
theorem D_x_passes_38 : decode M_x_passes.2.1 38 = .ok (.getfield 19, 3) := by decide +kernel
theorem D_x_passes_41 : decode M_x_passes.2.1 41 = .ok (.aload_n 0, 1) := by decide +kernel
theorem D_x_passes_42 : decode M_x_passes.2.1 42 = .ok (.getfield 29, 3) := by decide +kernel
theorem D_x_passes_45 : decode M_x_passes.2.1 45 = .ok (.iconst 1, 1) := by decide +kernel
theorem D_x_passes_46 : decode M_x_passes.2.1 46 = .ok (.invokevirtual 131, 3) := by decide +kernel
theorem D_x_passes_49 : decode M_x_passes.2.1 49 = .ok (.iload_n 1, 1) := by decide +kernel
theorem D_x_passes_50 : decode M_x_passes.2.1 50 = .ok (.iadd, 1) := by decide +kernel
theorem D_x_passes_51 : decode M_x_passes.2.1 51 = .ok (.invokevirtual 174, 3) := by decide +kernel
theorem D_x_passes_54 : decode M_x_passes.2.1 54 = .ok (.invokevirtual 164, 3) := by decide +kernel
theorem D_x_passes_57 : decode M_x_passes.2.1 57 = .ok (.aload_n 0, 1) := by decide +kernel
theorem D_x_passes_58 : decode M_x_passes.2.1 58 = .ok (.getfield 29, 3) := by decide +kernel
theorem D_x_passes_61 : decode M_x_passes.2.1 61 = .ok (.iconst 1, 1) := by decide +kernel
theorem D_x_passes_62 : decode M_x_passes.2.1 62 = .ok (.invokevirtual 131, 3) := by decide +kernel
theorem D_x_passes_65 : decode M_x_passes.2.1 65 = .ok (.ireturn, 1) := by decide +kernel
theorem D_x_covers_0 : decode M_x_covers.2.1 0 = .ok (.iload_n 1, 1) := by decide +kernel
theorem D_x_covers_1 : decode M_x_covers.2.1 1 = .ok (.iconst 0, 1) := by decide +kernel
theorem D_x_covers_2 : decode M_x_covers.2.1 2 = .ok (.iconst 1, 1) := by decide +kernel
theorem D_x_covers_3 : decode M_x_covers.2.1 3 = .ok (.invokestatic 99, 3) := by decide +kernel
theorem D_x_covers_6 : decode M_x_covers.2.1 6 = .ok (.ifCond .ne 5, 3) := by decide +kernel
theorem D_x_covers_9 : decode M_x_covers.2.1 9 = .ok (.iconst (-1), 1) := by decide +kernel
theorem D_x_covers_10 : decode M_x_covers.2.1 10 = .ok (.ireturn, 1) := by decide +kernel
theorem D_x_covers_11 : decode M_x_covers.2.1 11 = .ok (.aload_n 0, 1) := by decide +kernel
theorem D_x_covers_12 : decode M_x_covers.2.1 12 = .ok (.getfield 29, 3) := by decide +kernel
theorem D_x_covers_15 : decode M_x_covers.2.1 15 = .ok (.iconst 2, 1) := by decide +kernel
theorem D_x_covers_16 : decode M_x_covers.2.1 16 = .ok (.invokevirtual 131, 3) := by decide +kernel
theorem D_x_covers_19 : decode M_x_covers.2.1 19 = .ok (.iload_n 1, 1) := by decide +kernel
theorem D_x_covers_20 : decode M_x_covers.2.1 20 = .ok (.if_icmp .ne 6, 3) := by decide +kernel
theorem D_x_covers_23 : decode M_x_covers.2.1 23 = .ok (.bipush (-2), 2) := by decide +kernel
theorem D_x_covers_25 : decode M_x_covers.2.1 25 = .ok (.ireturn, 1) := by decide +kernel
theorem D_x_covers_26 : decode M_x_covers.2.1 26 = .ok (.aload_n 0, 1) := by decide +kernel
theorem D_x_covers_27 : decode M_x_covers.2.1 27 = .ok (.getfield 29, 3) := by decide +kernel
theorem D_x_covers_30 : decode M_x_covers.2.1 30 = .ok (.invokevirtual 158, 3) := by decide +kernel
theorem D_x_covers_33 : decode M_x_covers.2.1 33 = .ok (.aload_n 0, 1) := by decide +kernel
theorem D_x_covers_34 : decode M_x_covers.2.1 34 = .ok (.getfield 29, 3) := by decide +kernel
theorem D_x_covers_37 : decode M_x_covers.2.1 37 = .ok (.iconst 2, 1) := by decide +kernel
theorem D_x_covers_38 : decode M_x_covers.2.1 38 = .ok (.iload_n 1, 1) := by decide +kernel
theorem D_x_covers_39 : decode M_x_covers.2.1 39 = .ok (.invokevirtual 164, 3) := by decide +kernel
theorem D_x_covers_42 : decode M_x_covers.2.1 42 = .ok (.iconst 0, 1) := by decide +kernel
theorem D_x_covers_43 : decode M_x_covers.2.1 43 = .ok (.istore_n 2, 1) := by decide +kernel
theorem D_x_covers_44 : decode M_x_covers.2.1 44 = .ok (.iconst 0, 1) := by decide +kernel
theorem D_x_covers_45 : decode M_x_covers.2.1 45 = .ok (.istore_n 3, 1) := by decide +kernel
theorem D_x_covers_46 : decode M_x_covers.2.1 46 = .ok (.iload_n 3, 1) := by decide +kernel
theorem D_x_covers_47 : decode M_x_covers.2.1 47 = .ok (.aload_n 0, 1) := by decide +kernel
theorem D_x_covers_48 : decode M_x_covers.2.1 48 = .ok (.getfield 19, 3) := by decide +kernel
theorem D_x_covers_51 : decode M_x_covers.2.1 51 = .ok (.getfield 177, 3) := by decide +kernel
theorem D_x_covers_54 : decode M_x_covers.2.1 54 = .ok (.if_icmp .ge 20, 3) := by decide +kernel
theorem D_x_covers_57 : decode M_x_covers.2.1 57 = .ok (.aload_n 0, 1) := by decide +kernel
theorem D_x_covers_58 : decode M_x_covers.2.1 58 = .ok (.iload_n 3, 1) := by decide +kernel
theorem D_x_covers_59 : decode M_x_covers.2.1 59 = .ok (.invokevirtual 138, 3) := by decide +kernel
theorem D_x_covers_62 : decode M_x_covers.2.1 62 = .ok (.ifCond .ne 6, 3) := by decide +kernel
theorem D_x_covers_65 : decode M_x_covers.2.1 65 = .ok (.iinc 2 1, 3) := by decide +kernel
theorem D_x_covers_68 : decode M_x_covers.2.1 68 = .ok (.iinc 3 1, 3) := by decide +kernel
theorem D_x_covers_71 : decode M_x_covers.2.1 71 = .ok (.goto (-25), 3) := by decide +kernel
theorem D_x_covers_74 : decode M_x_covers.2.1 74 = .ok (.iload_n 2, 1) := by decide +kernel
theorem D_x_covers_75 : decode M_x_covers.2.1 75 = .ok (.ireturn, 1) := by decide +kernel
theorem D_x_forgives_0 : decode M_x_forgives.2.1 0 = .ok (.aload_n 0, 1) := by decide +kernel
theorem D_x_forgives_1 : decode M_x_forgives.2.1 1 = .ok (.iload_n 1, 1) := by decide +kernel
theorem D_x_forgives_2 : decode M_x_forgives.2.1 2 = .ok (.iload_n 2, 1) := by decide +kernel
theorem D_x_forgives_3 : decode M_x_forgives.2.1 3 = .ok (.invokevirtual 144, 3) := by decide +kernel
theorem D_x_forgives_6 : decode M_x_forgives.2.1 6 = .ok (.ifCond .ne 5, 3) := by decide +kernel
theorem D_x_forgives_9 : decode M_x_forgives.2.1 9 = .ok (.iconst (-1), 1) := by decide +kernel
theorem D_x_forgives_10 : decode M_x_forgives.2.1 10 = .ok (.ireturn, 1) := by decide +kernel
theorem D_x_forgives_11 : decode M_x_forgives.2.1 11 = .ok (.aload_n 0, 1) := by decide +kernel
theorem D_x_forgives_12 : decode M_x_forgives.2.1 12 = .ok (.getfield 29, 3) := by decide +kernel
theorem D_x_forgives_15 : decode M_x_forgives.2.1 15 = .ok (.iload_n 1, 1) := by decide +kernel
theorem D_x_forgives_16 : decode M_x_forgives.2.1 16 = .ok (.iload_n 2, 1) := by decide +kernel
theorem D_x_forgives_17 : decode M_x_forgives.2.1 17 = .ok (.invokestatic 148, 3) := by decide +kernel
theorem D_x_forgives_20 : decode M_x_forgives.2.1 20 = .ok (.invokevirtual 131, 3) := by decide +kernel
theorem D_x_forgives_23 : decode M_x_forgives.2.1 23 = .ok (.istore_n 3, 1) := by decide +kernel
theorem D_x_forgives_24 : decode M_x_forgives.2.1 24 = .ok (.iload_n 3, 1) := by decide +kernel
theorem D_x_forgives_25 : decode M_x_forgives.2.1 25 = .ok (.ifCond .ne 6, 3) := by decide +kernel
theorem D_x_forgives_28 : decode M_x_forgives.2.1 28 = .ok (.bipush (-2), 2) := by decide +kernel
theorem D_x_forgives_30 : decode M_x_forgives.2.1 30 = .ok (.ireturn, 1) := by decide +kernel
theorem D_x_forgives_31 : decode M_x_forgives.2.1 31 = .ok (.aload_n 0, 1) := by decide +kernel
theorem D_x_forgives_32 : decode M_x_forgives.2.1 32 = .ok (.getfield 29, 3) := by decide +kernel
theorem D_x_forgives_35 : decode M_x_forgives.2.1 35 = .ok (.invokevirtual 158, 3) := by decide +kernel
theorem D_x_forgives_38 : decode M_x_forgives.2.1 38 = .ok (.aload_n 0, 1) := by decide +kernel
theorem D_x_forgives_39 : decode M_x_forgives.2.1 39 = .ok (.getfield 29, 3) := by decide +kernel
theorem D_x_forgives_42 : decode M_x_forgives.2.1 42 = .ok (.iload_n 1, 1) := by decide +kernel
theorem D_x_forgives_43 : decode M_x_forgives.2.1 43 = .ok (.iload_n 2, 1) := by decide +kernel
theorem D_x_forgives_44 : decode M_x_forgives.2.1 44 = .ok (.invokestatic 148, 3) := by decide +kernel
theorem D_x_forgives_47 : decode M_x_forgives.2.1 47 = .ok (.iconst 0, 1) := by decide +kernel
theorem D_x_forgives_48 : decode M_x_forgives.2.1 48 = .ok (.invokevirtual 164, 3) := by decide +kernel
theorem D_x_forgives_51 : decode M_x_forgives.2.1 51 = .ok (.iload_n 3, 1) := by decide +kernel
theorem D_x_forgives_52 : decode M_x_forgives.2.1 52 = .ok (.ireturn, 1) := by decide +kernel
theorem D_x_undo_0 : decode M_x_undo.2.1 0 = .ok (.aload_n 0, 1) := by decide +kernel
theorem D_x_undo_1 : decode M_x_undo.2.1 1 = .ok (.getfield 29, 3) := by decide +kernel
theorem D_x_undo_4 : decode M_x_undo.2.1 4 = .ok (.getfield 180, 3) := by decide +kernel
theorem D_x_undo_7 : decode M_x_undo.2.1 7 = .ok (.ifCond .ne 6, 3) := by decide +kernel
theorem D_x_undo_10 : decode M_x_undo.2.1 10 = .ok (.bipush (-2), 2) := by decide +kernel
theorem D_x_undo_12 : decode M_x_undo.2.1 12 = .ok (.ireturn, 1) := by decide +kernel
theorem D_x_undo_13 : decode M_x_undo.2.1 13 = .ok (.aload_n 0, 1) := by decide +kernel
theorem D_x_undo_14 : decode M_x_undo.2.1 14 = .ok (.getfield 29, 3) := by decide +kernel
theorem D_x_undo_17 : decode M_x_undo.2.1 17 = .ok (.dup, 1) := by decide +kernel
theorem D_x_undo_18 : decode M_x_undo.2.1 18 = .ok (.getfield 180, 3) := by decide +kernel
theorem D_x_undo_21 : decode M_x_undo.2.1 21 = .ok (.iconst 1, 1) := by decide +kernel
theorem D_x_undo_22 : decode M_x_undo.2.1 22 = .ok (.isub, 1) := by decide +kernel
theorem D_x_undo_23 : decode M_x_undo.2.1 23 = .ok (.putfield 180, 3) := by decide +kernel
theorem D_x_undo_26 : decode M_x_undo.2.1 26 = .ok (.aload_n 0, 1) := by decide +kernel
theorem D_x_undo_27 : decode M_x_undo.2.1 27 = .ok (.getfield 29, 3) := by decide +kernel
theorem D_x_undo_30 : decode M_x_undo.2.1 30 = .ok (.getfield 180, 3) := by decide +kernel
theorem D_x_undo_33 : decode M_x_undo.2.1 33 = .ok (.ireturn, 1) := by decide +kernel
theorem D_x_now_0 : decode M_x_now.2.1 0 = .ok (.iload_n 1, 1) := by decide +kernel
theorem D_x_now_1 : decode M_x_now.2.1 1 = .ok (.tableswitch 97 0 6 #[43, 52, 61, 70, 79, 84, 92], 43) := by decide +kernel
theorem D_x_now_44 : decode M_x_now.2.1 44 = .ok (.aload_n 0, 1) := by decide +kernel
theorem D_x_now_45 : decode M_x_now.2.1 45 = .ok (.getfield 29, 3) := by decide +kernel
theorem D_x_now_48 : decode M_x_now.2.1 48 = .ok (.iconst 0, 1) := by decide +kernel
theorem D_x_now_49 : decode M_x_now.2.1 49 = .ok (.invokevirtual 131, 3) := by decide +kernel
theorem D_x_now_52 : decode M_x_now.2.1 52 = .ok (.ireturn, 1) := by decide +kernel
theorem D_x_now_53 : decode M_x_now.2.1 53 = .ok (.aload_n 0, 1) := by decide +kernel
theorem D_x_now_54 : decode M_x_now.2.1 54 = .ok (.getfield 29, 3) := by decide +kernel
theorem D_x_now_57 : decode M_x_now.2.1 57 = .ok (.iconst 1, 1) := by decide +kernel
theorem D_x_now_58 : decode M_x_now.2.1 58 = .ok (.invokevirtual 131, 3) := by decide +kernel
theorem D_x_now_61 : decode M_x_now.2.1 61 = .ok (.ireturn, 1) := by decide +kernel
theorem D_x_now_62 : decode M_x_now.2.1 62 = .ok (.aload_n 0, 1) := by decide +kernel
theorem D_x_now_63 : decode M_x_now.2.1 63 = .ok (.getfield 29, 3) := by decide +kernel
theorem D_x_now_66 : decode M_x_now.2.1 66 = .ok (.iconst 2, 1) := by decide +kernel
theorem D_x_now_67 : decode M_x_now.2.1 67 = .ok (.invokevirtual 131, 3) := by decide +kernel
theorem D_x_now_70 : decode M_x_now.2.1 70 = .ok (.ireturn, 1) := by decide +kernel
theorem D_x_now_71 : decode M_x_now.2.1 71 = .ok (.aload_n 0, 1) := by decide +kernel
theorem D_x_now_72 : decode M_x_now.2.1 72 = .ok (.getfield 29, 3) := by decide +kernel
theorem D_x_now_75 : decode M_x_now.2.1 75 = .ok (.iconst 3, 1) := by decide +kernel
theorem D_x_now_76 : decode M_x_now.2.1 76 = .ok (.invokevirtual 131, 3) := by decide +kernel
theorem D_x_now_79 : decode M_x_now.2.1 79 = .ok (.ireturn, 1) := by decide +kernel
theorem D_x_now_80 : decode M_x_now.2.1 80 = .ok (.aload_n 0, 1) := by decide +kernel
theorem D_x_now_81 : decode M_x_now.2.1 81 = .ok (.invokevirtual 183, 3) := by decide +kernel
theorem D_x_now_84 : decode M_x_now.2.1 84 = .ok (.ireturn, 1) := by decide +kernel
theorem D_x_now_85 : decode M_x_now.2.1 85 = .ok (.aload_n 0, 1) := by decide +kernel
theorem D_x_now_86 : decode M_x_now.2.1 86 = .ok (.getfield 19, 3) := by decide +kernel
theorem D_x_now_89 : decode M_x_now.2.1 89 = .ok (.invokevirtual 187, 3) := by decide +kernel
theorem D_x_now_92 : decode M_x_now.2.1 92 = .ok (.ireturn, 1) := by decide +kernel
theorem D_x_now_93 : decode M_x_now.2.1 93 = .ok (.aload_n 0, 1) := by decide +kernel
theorem D_x_now_94 : decode M_x_now.2.1 94 = .ok (.invokevirtual 190, 3) := by decide +kernel
theorem D_x_now_97 : decode M_x_now.2.1 97 = .ok (.ireturn, 1) := by decide +kernel
theorem D_x_now_98 : decode M_x_now.2.1 98 = .ok (.iconst (-1), 1) := by decide +kernel
theorem D_x_now_99 : decode M_x_now.2.1 99 = .ok (.ireturn, 1) := by decide +kernel
theorem D_x_clicks_0 : decode M_x_clicks.2.1 0 = .ok (.iload_n 1, 1) := by decide +kernel
theorem D_x_clicks_1 : decode M_x_clicks.2.1 1 = .ok (.invokestatic 152, 3) := by decide +kernel
theorem D_x_clicks_4 : decode M_x_clicks.2.1 4 = .ok (.ifCond .eq 14, 3) := by decide +kernel
theorem D_x_clicks_7 : decode M_x_clicks.2.1 7 = .ok (.aload_n 0, 1) := by decide +kernel
theorem D_x_clicks_8 : decode M_x_clicks.2.1 8 = .ok (.getfield 19, 3) := by decide +kernel
theorem D_x_clicks_11 : decode M_x_clicks.2.1 11 = .ok (.iload_n 1, 1) := by decide +kernel
theorem D_x_clicks_12 : decode M_x_clicks.2.1 12 = .ok (.invokevirtual 193, 3) := by decide +kernel
theorem D_x_clicks_15 : decode M_x_clicks.2.1 15 = .ok (.goto 4, 3) := by decide +kernel
theorem D_x_clicks_18 : decode M_x_clicks.2.1 18 = .ok (.iconst (-1), 1) := by decide +kernel
theorem D_x_clicks_19 : decode M_x_clicks.2.1 19 = .ok (.ireturn, 1) := by decide +kernel
theorem D_x_stops_0 : decode M_x_stops.2.1 0 = .ok (.iload_n 1, 1) := by decide +kernel
theorem D_x_stops_1 : decode M_x_stops.2.1 1 = .ok (.invokestatic 152, 3) := by decide +kernel
theorem D_x_stops_4 : decode M_x_stops.2.1 4 = .ok (.ifCond .ne 5, 3) := by decide +kernel
theorem D_x_stops_7 : decode M_x_stops.2.1 7 = .ok (.iconst (-1), 1) := by decide +kernel
theorem D_x_stops_8 : decode M_x_stops.2.1 8 = .ok (.ireturn, 1) := by decide +kernel
theorem D_x_stops_9 : decode M_x_stops.2.1 9 = .ok (.aload_n 0, 1) := by decide +kernel
theorem D_x_stops_10 : decode M_x_stops.2.1 10 = .ok (.getfield 19, 3) := by decide +kernel
theorem D_x_stops_13 : decode M_x_stops.2.1 13 = .ok (.getfield 155, 3) := by decide +kernel
theorem D_x_stops_16 : decode M_x_stops.2.1 16 = .ok (.ifCond .ne 8, 3) := by decide +kernel
theorem D_x_stops_19 : decode M_x_stops.2.1 19 = .ok (.bipush (-2), 2) := by decide +kernel
theorem D_x_stops_21 : decode M_x_stops.2.1 21 = .ok (.goto 8, 3) := by decide +kernel
theorem D_x_stops_24 : decode M_x_stops.2.1 24 = .ok (.aload_n 0, 1) := by decide +kernel
theorem D_x_stops_25 : decode M_x_stops.2.1 25 = .ok (.iload_n 1, 1) := by decide +kernel
theorem D_x_stops_26 : decode M_x_stops.2.1 26 = .ok (.invokevirtual 161, 3) := by decide +kernel
theorem D_x_stops_29 : decode M_x_stops.2.1 29 = .ok (.ireturn, 1) := by decide +kernel
theorem D_x_shade_0 : decode M_x_shade.2.1 0 = .ok (.aload_n 0, 1) := by decide +kernel
theorem D_x_shade_1 : decode M_x_shade.2.1 1 = .ok (.getfield 19, 3) := by decide +kernel
theorem D_x_shade_4 : decode M_x_shade.2.1 4 = .ok (.iload_n 1, 1) := by decide +kernel
theorem D_x_shade_5 : decode M_x_shade.2.1 5 = .ok (.invokevirtual 122, 3) := by decide +kernel
theorem D_x_shade_8 : decode M_x_shade.2.1 8 = .ok (.ifCond .eq 19, 3) := by decide +kernel
theorem D_x_shade_11 : decode M_x_shade.2.1 11 = .ok (.iload_n 2, 1) := by decide +kernel
theorem D_x_shade_12 : decode M_x_shade.2.1 12 = .ok (.invokestatic 152, 3) := by decide +kernel
theorem D_x_shade_15 : decode M_x_shade.2.1 15 = .ok (.ifCond .eq 12, 3) := by decide +kernel
theorem D_x_shade_18 : decode M_x_shade.2.1 18 = .ok (.aload_n 0, 1) := by decide +kernel
theorem D_x_shade_19 : decode M_x_shade.2.1 19 = .ok (.iload_n 1, 1) := by decide +kernel
theorem D_x_shade_20 : decode M_x_shade.2.1 20 = .ok (.iload_n 2, 1) := by decide +kernel
theorem D_x_shade_21 : decode M_x_shade.2.1 21 = .ok (.invokevirtual 196, 3) := by decide +kernel
theorem D_x_shade_24 : decode M_x_shade.2.1 24 = .ok (.goto 4, 3) := by decide +kernel
theorem D_x_shade_27 : decode M_x_shade.2.1 27 = .ok (.iconst (-1), 1) := by decide +kernel
theorem D_x_shade_28 : decode M_x_shade.2.1 28 = .ok (.ireturn, 1) := by decide +kernel
theorem D_x_speeds_0 : decode M_x_speeds.2.1 0 = .ok (.aload_n 0, 1) := by decide +kernel
theorem D_x_speeds_1 : decode M_x_speeds.2.1 1 = .ok (.getfield 19, 3) := by decide +kernel
theorem D_x_speeds_4 : decode M_x_speeds.2.1 4 = .ok (.iload_n 1, 1) := by decide +kernel
theorem D_x_speeds_5 : decode M_x_speeds.2.1 5 = .ok (.invokevirtual 122, 3) := by decide +kernel
theorem D_x_speeds_8 : decode M_x_speeds.2.1 8 = .ok (.ifCond .eq 19, 3) := by decide +kernel
theorem D_x_speeds_11 : decode M_x_speeds.2.1 11 = .ok (.iload_n 2, 1) := by decide +kernel
theorem D_x_speeds_12 : decode M_x_speeds.2.1 12 = .ok (.invokestatic 199, 3) := by decide +kernel
theorem D_x_speeds_15 : decode M_x_speeds.2.1 15 = .ok (.ifCond .eq 12, 3) := by decide +kernel
theorem D_x_speeds_18 : decode M_x_speeds.2.1 18 = .ok (.iload_n 3, 1) := by decide +kernel
theorem D_x_speeds_19 : decode M_x_speeds.2.1 19 = .ok (.iconst 0, 1) := by decide +kernel
theorem D_x_speeds_20 : decode M_x_speeds.2.1 20 = .ok (.iconst 1, 1) := by decide +kernel
theorem D_x_speeds_21 : decode M_x_speeds.2.1 21 = .ok (.invokestatic 99, 3) := by decide +kernel
theorem D_x_speeds_24 : decode M_x_speeds.2.1 24 = .ok (.ifCond .ne 5, 3) := by decide +kernel
theorem D_x_speeds_27 : decode M_x_speeds.2.1 27 = .ok (.iconst (-1), 1) := by decide +kernel
theorem D_x_speeds_28 : decode M_x_speeds.2.1 28 = .ok (.ireturn, 1) := by decide +kernel
theorem D_x_speeds_29 : decode M_x_speeds.2.1 29 = .ok (.iload_n 3, 1) := by decide +kernel
theorem D_x_speeds_30 : decode M_x_speeds.2.1 30 = .ok (.ifCond .ne 14, 3) := by decide +kernel
theorem D_x_speeds_33 : decode M_x_speeds.2.1 33 = .ok (.aload_n 0, 1) := by decide +kernel
theorem D_x_speeds_34 : decode M_x_speeds.2.1 34 = .ok (.iload_n 1, 1) := by decide +kernel
theorem D_x_speeds_35 : decode M_x_speeds.2.1 35 = .ok (.iload_n 2, 1) := by decide +kernel
theorem D_x_speeds_36 : decode M_x_speeds.2.1 36 = .ok (.bipush 60, 2) := by decide +kernel
theorem D_x_speeds_38 : decode M_x_speeds.2.1 38 = .ok (.invokevirtual 202, 3) := by decide +kernel
theorem D_x_speeds_41 : decode M_x_speeds.2.1 41 = .ok (.goto 9, 3) := by decide +kernel
theorem D_x_speeds_44 : decode M_x_speeds.2.1 44 = .ok (.aload_n 0, 1) := by decide +kernel
theorem D_x_speeds_45 : decode M_x_speeds.2.1 45 = .ok (.iload_n 1, 1) := by decide +kernel
theorem D_x_speeds_46 : decode M_x_speeds.2.1 46 = .ok (.iload_n 2, 1) := by decide +kernel
theorem D_x_speeds_47 : decode M_x_speeds.2.1 47 = .ok (.invokevirtual 206, 3) := by decide +kernel
theorem D_x_speeds_50 : decode M_x_speeds.2.1 50 = .ok (.ireturn, 1) := by decide +kernel
theorem D_x_steps_0 : decode M_x_steps.2.1 0 = .ok (.aload_n 0, 1) := by decide +kernel
theorem D_x_steps_1 : decode M_x_steps.2.1 1 = .ok (.getfield 19, 3) := by decide +kernel
theorem D_x_steps_4 : decode M_x_steps.2.1 4 = .ok (.iload_n 1, 1) := by decide +kernel
theorem D_x_steps_5 : decode M_x_steps.2.1 5 = .ok (.invokevirtual 128, 3) := by decide +kernel
theorem D_x_steps_8 : decode M_x_steps.2.1 8 = .ok (.ifCond .eq 27, 3) := by decide +kernel
theorem D_x_steps_11 : decode M_x_steps.2.1 11 = .ok (.iload_n 2, 1) := by decide +kernel
theorem D_x_steps_12 : decode M_x_steps.2.1 12 = .ok (.invokestatic 199, 3) := by decide +kernel
theorem D_x_steps_15 : decode M_x_steps.2.1 15 = .ok (.ifCond .eq 20, 3) := by decide +kernel
theorem D_x_steps_18 : decode M_x_steps.2.1 18 = .ok (.iload_n 3, 1) := by decide +kernel
theorem D_x_steps_19 : decode M_x_steps.2.1 19 = .ok (.invokestatic 152, 3) := by decide +kernel
theorem D_x_steps_22 : decode M_x_steps.2.1 22 = .ok (.ifCond .eq 13, 3) := by decide +kernel
theorem D_x_steps_25 : decode M_x_steps.2.1 25 = .ok (.iload 4, 2) := by decide +kernel
theorem D_x_steps_27 : decode M_x_steps.2.1 27 = .ok (.iconst 0, 1) := by decide +kernel
theorem D_x_steps_28 : decode M_x_steps.2.1 28 = .ok (.iconst 1, 1) := by decide +kernel
theorem D_x_steps_29 : decode M_x_steps.2.1 29 = .ok (.invokestatic 99, 3) := by decide +kernel
theorem D_x_steps_32 : decode M_x_steps.2.1 32 = .ok (.ifCond .ne 5, 3) := by decide +kernel
theorem D_x_steps_35 : decode M_x_steps.2.1 35 = .ok (.iconst (-1), 1) := by decide +kernel
theorem D_x_steps_36 : decode M_x_steps.2.1 36 = .ok (.ireturn, 1) := by decide +kernel
theorem D_x_steps_37 : decode M_x_steps.2.1 37 = .ok (.aload_n 0, 1) := by decide +kernel
theorem D_x_steps_38 : decode M_x_steps.2.1 38 = .ok (.getfield 29, 3) := by decide +kernel
theorem D_x_steps_41 : decode M_x_steps.2.1 41 = .ok (.iconst 4, 1) := by decide +kernel
theorem D_x_steps_42 : decode M_x_steps.2.1 42 = .ok (.iload_n 1, 1) := by decide +kernel
theorem D_x_steps_43 : decode M_x_steps.2.1 43 = .ok (.iadd, 1) := by decide +kernel
theorem D_x_steps_44 : decode M_x_steps.2.1 44 = .ok (.invokevirtual 131, 3) := by decide +kernel
theorem D_x_steps_47 : decode M_x_steps.2.1 47 = .ok (.istore 5, 2) := by decide +kernel
theorem D_x_steps_49 : decode M_x_steps.2.1 49 = .ok (.bipush (-9), 2) := by decide +kernel
theorem D_x_steps_51 : decode M_x_steps.2.1 51 = .ok (.istore 6, 2) := by decide +kernel
theorem D_x_steps_53 : decode M_x_steps.2.1 53 = .ok (.bipush (-9), 2) := by decide +kernel
theorem D_x_steps_55 : decode M_x_steps.2.1 55 = .ok (.istore 7, 2) := by decide +kernel
theorem D_x_steps_57 : decode M_x_steps.2.1 57 = .ok (.iconst 0, 1) := by decide +kernel
theorem D_x_steps_58 : decode M_x_steps.2.1 58 = .ok (.istore 8, 2) := by decide +kernel
theorem D_x_steps_60 : decode M_x_steps.2.1 60 = .ok (.iload 8, 2) := by decide +kernel
theorem D_x_steps_62 : decode M_x_steps.2.1 62 = .ok (.aload_n 0, 1) := by decide +kernel
theorem D_x_steps_63 : decode M_x_steps.2.1 63 = .ok (.getfield 19, 3) := by decide +kernel
theorem D_x_steps_66 : decode M_x_steps.2.1 66 = .ok (.getfield 155, 3) := by decide +kernel
theorem D_x_steps_69 : decode M_x_steps.2.1 69 = .ok (.if_icmp .ge 87, 3) := by decide +kernel
theorem D_x_steps_72 : decode M_x_steps.2.1 72 = .ok (.aload_n 0, 1) := by decide +kernel
theorem D_x_steps_73 : decode M_x_steps.2.1 73 = .ok (.iload 8, 2) := by decide +kernel
theorem D_x_steps_75 : decode M_x_steps.2.1 75 = .ok (.invokevirtual 171, 3) := by decide +kernel
theorem D_x_steps_78 : decode M_x_steps.2.1 78 = .ok (.istore 9, 2) := by decide +kernel
theorem D_x_steps_80 : decode M_x_steps.2.1 80 = .ok (.iload 9, 2) := by decide +kernel
theorem D_x_steps_82 : decode M_x_steps.2.1 82 = .ok (.iconst (-1), 1) := by decide +kernel
theorem D_x_steps_83 : decode M_x_steps.2.1 83 = .ok (.if_icmp .eq 9, 3) := by decide +kernel
theorem D_x_steps_86 : decode M_x_steps.2.1 86 = .ok (.iload 9, 2) := by decide +kernel
theorem D_x_steps_88 : decode M_x_steps.2.1 88 = .ok (.iload_n 1, 1) := by decide +kernel
theorem D_x_steps_89 : decode M_x_steps.2.1 89 = .ok (.if_icmp .ne 7, 3) := by decide +kernel
theorem D_x_steps_92 : decode M_x_steps.2.1 92 = .ok (.iconst 1, 1) := by decide +kernel
theorem D_x_steps_93 : decode M_x_steps.2.1 93 = .ok (.goto 4, 3) := by decide +kernel
theorem D_x_steps_96 : decode M_x_steps.2.1 96 = .ok (.iconst 0, 1) := by decide +kernel
theorem D_x_steps_97 : decode M_x_steps.2.1 97 = .ok (.istore 10, 2) := by decide +kernel
theorem D_x_steps_99 : decode M_x_steps.2.1 99 = .ok (.iload 10, 2) := by decide +kernel
theorem D_x_steps_101 : decode M_x_steps.2.1 101 = .ok (.ifCond .eq 49, 3) := by decide +kernel
theorem D_x_steps_104 : decode M_x_steps.2.1 104 = .ok (.aload_n 0, 1) := by decide +kernel
theorem D_x_steps_105 : decode M_x_steps.2.1 105 = .ok (.iload 8, 2) := by decide +kernel
theorem D_x_steps_107 : decode M_x_steps.2.1 107 = .ok (.iload_n 3, 1) := by decide +kernel
theorem D_x_steps_108 : decode M_x_steps.2.1 108 = .ok (.invokevirtual 196, 3) := by decide +kernel
theorem D_x_steps_111 : decode M_x_steps.2.1 111 = .ok (.iload_n 2, 1) := by decide +kernel
theorem D_x_steps_112 : decode M_x_steps.2.1 112 = .ok (.if_icmp .ne 38, 3) := by decide +kernel
theorem D_x_steps_115 : decode M_x_steps.2.1 115 = .ok (.aload_n 0, 1) := by decide +kernel
theorem D_x_steps_116 : decode M_x_steps.2.1 116 = .ok (.getfield 19, 3) := by decide +kernel
theorem D_x_steps_119 : decode M_x_steps.2.1 119 = .ok (.iload 5, 2) := by decide +kernel
theorem D_x_steps_121 : decode M_x_steps.2.1 121 = .ok (.iload 8, 2) := by decide +kernel
theorem D_x_steps_123 : decode M_x_steps.2.1 123 = .ok (.invokevirtual 209, 3) := by decide +kernel
theorem D_x_steps_126 : decode M_x_steps.2.1 126 = .ok (.istore 11, 2) := by decide +kernel
theorem D_x_steps_128 : decode M_x_steps.2.1 128 = .ok (.iload 6, 2) := by decide +kernel
theorem D_x_steps_130 : decode M_x_steps.2.1 130 = .ok (.bipush (-9), 2) := by decide +kernel
theorem D_x_steps_132 : decode M_x_steps.2.1 132 = .ok (.if_icmp .eq 10, 3) := by decide +kernel
theorem D_x_steps_135 : decode M_x_steps.2.1 135 = .ok (.iload 11, 2) := by decide +kernel
theorem D_x_steps_137 : decode M_x_steps.2.1 137 = .ok (.iload 6, 2) := by decide +kernel
theorem D_x_steps_139 : decode M_x_steps.2.1 139 = .ok (.if_icmp .ge 11, 3) := by decide +kernel
theorem D_x_steps_142 : decode M_x_steps.2.1 142 = .ok (.iload 11, 2) := by decide +kernel
theorem D_x_steps_144 : decode M_x_steps.2.1 144 = .ok (.istore 6, 2) := by decide +kernel
theorem D_x_steps_146 : decode M_x_steps.2.1 146 = .ok (.iload 8, 2) := by decide +kernel
theorem D_x_steps_148 : decode M_x_steps.2.1 148 = .ok (.istore 7, 2) := by decide +kernel
theorem D_x_steps_150 : decode M_x_steps.2.1 150 = .ok (.iinc 8 1, 3) := by decide +kernel
theorem D_x_steps_153 : decode M_x_steps.2.1 153 = .ok (.goto (-93), 3) := by decide +kernel
theorem D_x_steps_156 : decode M_x_steps.2.1 156 = .ok (.iload 4, 2) := by decide +kernel
theorem D_x_steps_158 : decode M_x_steps.2.1 158 = .ok (.ifCond .ne 8, 3) := by decide +kernel
theorem D_x_steps_161 : decode M_x_steps.2.1 161 = .ok (.iload 6, 2) := by decide +kernel
theorem D_x_steps_163 : decode M_x_steps.2.1 163 = .ok (.goto 5, 3) := by decide +kernel
theorem D_x_steps_166 : decode M_x_steps.2.1 166 = .ok (.iload 7, 2) := by decide +kernel
theorem D_x_steps_168 : decode M_x_steps.2.1 168 = .ok (.ireturn, 1) := by decide +kernel
theorem D_x_chair_0 : decode M_x_chair.2.1 0 = .ok (.iload_n 1, 1) := by decide +kernel
theorem D_x_chair_1 : decode M_x_chair.2.1 1 = .ok (.invokestatic 199, 3) := by decide +kernel
theorem D_x_chair_4 : decode M_x_chair.2.1 4 = .ok (.ifCond .eq 12, 3) := by decide +kernel
theorem D_x_chair_7 : decode M_x_chair.2.1 7 = .ok (.iload_n 2, 1) := by decide +kernel
theorem D_x_chair_8 : decode M_x_chair.2.1 8 = .ok (.iconst 0, 1) := by decide +kernel
theorem D_x_chair_9 : decode M_x_chair.2.1 9 = .ok (.iconst 1, 1) := by decide +kernel
theorem D_x_chair_10 : decode M_x_chair.2.1 10 = .ok (.invokestatic 99, 3) := by decide +kernel
theorem D_x_chair_13 : decode M_x_chair.2.1 13 = .ok (.ifCond .ne 5, 3) := by decide +kernel
theorem D_x_chair_16 : decode M_x_chair.2.1 16 = .ok (.iconst (-1), 1) := by decide +kernel
theorem D_x_chair_17 : decode M_x_chair.2.1 17 = .ok (.ireturn, 1) := by decide +kernel
theorem D_x_chair_18 : decode M_x_chair.2.1 18 = .ok (.bipush (-9), 2) := by decide +kernel
theorem D_x_chair_20 : decode M_x_chair.2.1 20 = .ok (.istore_n 3, 1) := by decide +kernel
theorem D_x_chair_21 : decode M_x_chair.2.1 21 = .ok (.bipush (-9), 2) := by decide +kernel
theorem D_x_chair_23 : decode M_x_chair.2.1 23 = .ok (.istore 4, 2) := by decide +kernel
theorem D_x_chair_25 : decode M_x_chair.2.1 25 = .ok (.iconst 0, 1) := by decide +kernel
theorem D_x_chair_26 : decode M_x_chair.2.1 26 = .ok (.istore 5, 2) := by decide +kernel
theorem D_x_chair_28 : decode M_x_chair.2.1 28 = .ok (.iload 5, 2) := by decide +kernel
theorem D_x_chair_30 : decode M_x_chair.2.1 30 = .ok (.aload_n 0, 1) := by decide +kernel
theorem D_x_chair_31 : decode M_x_chair.2.1 31 = .ok (.getfield 19, 3) := by decide +kernel
theorem D_x_chair_34 : decode M_x_chair.2.1 34 = .ok (.getfield 155, 3) := by decide +kernel
theorem D_x_chair_37 : decode M_x_chair.2.1 37 = .ok (.if_icmp .ge 40, 3) := by decide +kernel
theorem D_x_chair_40 : decode M_x_chair.2.1 40 = .ok (.aload_n 0, 1) := by decide +kernel
theorem D_x_chair_41 : decode M_x_chair.2.1 41 = .ok (.iload 5, 2) := by decide +kernel
theorem D_x_chair_43 : decode M_x_chair.2.1 43 = .ok (.iload_n 1, 1) := by decide +kernel
theorem D_x_chair_44 : decode M_x_chair.2.1 44 = .ok (.bipush 60, 2) := by decide +kernel
theorem D_x_chair_46 : decode M_x_chair.2.1 46 = .ok (.invokevirtual 202, 3) := by decide +kernel
theorem D_x_chair_49 : decode M_x_chair.2.1 49 = .ok (.istore 6, 2) := by decide +kernel
theorem D_x_chair_51 : decode M_x_chair.2.1 51 = .ok (.iload_n 3, 1) := by decide +kernel
theorem D_x_chair_52 : decode M_x_chair.2.1 52 = .ok (.bipush (-9), 2) := by decide +kernel
theorem D_x_chair_54 : decode M_x_chair.2.1 54 = .ok (.if_icmp .eq 10, 3) := by decide +kernel
theorem D_x_chair_57 : decode M_x_chair.2.1 57 = .ok (.iload 6, 2) := by decide +kernel
theorem D_x_chair_59 : decode M_x_chair.2.1 59 = .ok (.iload 4, 2) := by decide +kernel
theorem D_x_chair_61 : decode M_x_chair.2.1 61 = .ok (.if_icmp .le 10, 3) := by decide +kernel
theorem D_x_chair_64 : decode M_x_chair.2.1 64 = .ok (.iload 5, 2) := by decide +kernel
theorem D_x_chair_66 : decode M_x_chair.2.1 66 = .ok (.istore_n 3, 1) := by decide +kernel
theorem D_x_chair_67 : decode M_x_chair.2.1 67 = .ok (.iload 6, 2) := by decide +kernel
theorem D_x_chair_69 : decode M_x_chair.2.1 69 = .ok (.istore 4, 2) := by decide +kernel
theorem D_x_chair_71 : decode M_x_chair.2.1 71 = .ok (.iinc 5 1, 3) := by decide +kernel
theorem D_x_chair_74 : decode M_x_chair.2.1 74 = .ok (.goto (-46), 3) := by decide +kernel
theorem D_x_chair_77 : decode M_x_chair.2.1 77 = .ok (.iload_n 2, 1) := by decide +kernel
theorem D_x_chair_78 : decode M_x_chair.2.1 78 = .ok (.ifCond .ne 7, 3) := by decide +kernel
theorem D_x_chair_81 : decode M_x_chair.2.1 81 = .ok (.iload_n 3, 1) := by decide +kernel
theorem D_x_chair_82 : decode M_x_chair.2.1 82 = .ok (.goto 5, 3) := by decide +kernel
theorem D_x_chair_85 : decode M_x_chair.2.1 85 = .ok (.iload 4, 2) := by decide +kernel
theorem D_x_chair_87 : decode M_x_chair.2.1 87 = .ok (.ireturn, 1) := by decide +kernel
theorem D_x_seats_0 : decode M_x_seats.2.1 0 = .ok (.iload_n 1, 1) := by decide +kernel
theorem D_x_seats_1 : decode M_x_seats.2.1 1 = .ok (.invokestatic 152, 3) := by decide +kernel
theorem D_x_seats_4 : decode M_x_seats.2.1 4 = .ok (.ifCond .eq 19, 3) := by decide +kernel
theorem D_x_seats_7 : decode M_x_seats.2.1 7 = .ok (.iload_n 2, 1) := by decide +kernel
theorem D_x_seats_8 : decode M_x_seats.2.1 8 = .ok (.iconst (-1), 1) := by decide +kernel
theorem D_x_seats_9 : decode M_x_seats.2.1 9 = .ok (.if_icmp .eq 16, 3) := by decide +kernel
theorem D_x_seats_12 : decode M_x_seats.2.1 12 = .ok (.aload_n 0, 1) := by decide +kernel
theorem D_x_seats_13 : decode M_x_seats.2.1 13 = .ok (.getfield 19, 3) := by decide +kernel
theorem D_x_seats_16 : decode M_x_seats.2.1 16 = .ok (.iload_n 2, 1) := by decide +kernel
theorem D_x_seats_17 : decode M_x_seats.2.1 17 = .ok (.invokevirtual 128, 3) := by decide +kernel
theorem D_x_seats_20 : decode M_x_seats.2.1 20 = .ok (.ifCond .ne 5, 3) := by decide +kernel
theorem D_x_seats_23 : decode M_x_seats.2.1 23 = .ok (.iconst (-1), 1) := by decide +kernel
theorem D_x_seats_24 : decode M_x_seats.2.1 24 = .ok (.ireturn, 1) := by decide +kernel
theorem D_x_seats_25 : decode M_x_seats.2.1 25 = .ok (.aload_n 0, 1) := by decide +kernel
theorem D_x_seats_26 : decode M_x_seats.2.1 26 = .ok (.getfield 19, 3) := by decide +kernel
theorem D_x_seats_29 : decode M_x_seats.2.1 29 = .ok (.getfield 155, 3) := by decide +kernel
theorem D_x_seats_32 : decode M_x_seats.2.1 32 = .ok (.ifCond .ne 6, 3) := by decide +kernel
theorem D_x_seats_35 : decode M_x_seats.2.1 35 = .ok (.bipush (-2), 2) := by decide +kernel
theorem D_x_seats_37 : decode M_x_seats.2.1 37 = .ok (.ireturn, 1) := by decide +kernel
theorem D_x_seats_38 : decode M_x_seats.2.1 38 = .ok (.aload_n 0, 1) := by decide +kernel
theorem D_x_seats_39 : decode M_x_seats.2.1 39 = .ok (.iload_n 1, 1) := by decide +kernel
theorem D_x_seats_40 : decode M_x_seats.2.1 40 = .ok (.invokevirtual 212, 3) := by decide +kernel
theorem D_x_seats_43 : decode M_x_seats.2.1 43 = .ok (.istore_n 3, 1) := by decide +kernel
theorem D_x_seats_44 : decode M_x_seats.2.1 44 = .ok (.iload_n 2, 1) := by decide +kernel
theorem D_x_seats_45 : decode M_x_seats.2.1 45 = .ok (.iconst (-1), 1) := by decide +kernel
theorem D_x_seats_46 : decode M_x_seats.2.1 46 = .ok (.if_icmp .ne 7, 3) := by decide +kernel
theorem D_x_seats_49 : decode M_x_seats.2.1 49 = .ok (.iload_n 3, 1) := by decide +kernel
theorem D_x_seats_50 : decode M_x_seats.2.1 50 = .ok (.goto 9, 3) := by decide +kernel
theorem D_x_seats_53 : decode M_x_seats.2.1 53 = .ok (.aload_n 0, 1) := by decide +kernel
theorem D_x_seats_54 : decode M_x_seats.2.1 54 = .ok (.getfield 96, 3) := by decide +kernel
theorem D_x_seats_57 : decode M_x_seats.2.1 57 = .ok (.iload_n 2, 1) := by decide +kernel
theorem D_x_seats_58 : decode M_x_seats.2.1 58 = .ok (.iaload, 1) := by decide +kernel
theorem D_x_seats_59 : decode M_x_seats.2.1 59 = .ok (.ireturn, 1) := by decide +kernel
theorem D_x_odds_0 : decode M_x_odds.2.1 0 = .ok (.aload_n 0, 1) := by decide +kernel
theorem D_x_odds_1 : decode M_x_odds.2.1 1 = .ok (.getfield 19, 3) := by decide +kernel
theorem D_x_odds_4 : decode M_x_odds.2.1 4 = .ok (.iload_n 1, 1) := by decide +kernel
theorem D_x_odds_5 : decode M_x_odds.2.1 5 = .ok (.invokevirtual 122, 3) := by decide +kernel
theorem D_x_odds_8 : decode M_x_odds.2.1 8 = .ok (.ifCond .eq 38, 3) := by decide +kernel
theorem D_x_odds_11 : decode M_x_odds.2.1 11 = .ok (.iload_n 2, 1) := by decide +kernel
theorem D_x_odds_12 : decode M_x_odds.2.1 12 = .ok (.invokestatic 199, 3) := by decide +kernel
theorem D_x_odds_15 : decode M_x_odds.2.1 15 = .ok (.ifCond .eq 31, 3) := by decide +kernel
theorem D_x_odds_18 : decode M_x_odds.2.1 18 = .ok (.iload_n 3, 1) := by decide +kernel
theorem D_x_odds_19 : decode M_x_odds.2.1 19 = .ok (.invokestatic 152, 3) := by decide +kernel
theorem D_x_odds_22 : decode M_x_odds.2.1 22 = .ok (.ifCond .eq 24, 3) := by decide +kernel
theorem D_x_odds_25 : decode M_x_odds.2.1 25 = .ok (.iload 4, 2) := by decide +kernel
theorem D_x_odds_27 : decode M_x_odds.2.1 27 = .ok (.iconst 0, 1) := by decide +kernel
theorem D_x_odds_28 : decode M_x_odds.2.1 28 = .ok (.bipush 10, 2) := by decide +kernel
theorem D_x_odds_30 : decode M_x_odds.2.1 30 = .ok (.invokestatic 99, 3) := by decide +kernel
theorem D_x_odds_33 : decode M_x_odds.2.1 33 = .ok (.ifCond .eq 13, 3) := by decide +kernel
theorem D_x_odds_36 : decode M_x_odds.2.1 36 = .ok (.iload 5, 2) := by decide +kernel
theorem D_x_odds_38 : decode M_x_odds.2.1 38 = .ok (.iconst 0, 1) := by decide +kernel
theorem D_x_odds_39 : decode M_x_odds.2.1 39 = .ok (.iconst 1, 1) := by decide +kernel
theorem D_x_odds_40 : decode M_x_odds.2.1 40 = .ok (.invokestatic 99, 3) := by decide +kernel
theorem D_x_odds_43 : decode M_x_odds.2.1 43 = .ok (.ifCond .ne 5, 3) := by decide +kernel
theorem D_x_odds_46 : decode M_x_odds.2.1 46 = .ok (.iconst (-1), 1) := by decide +kernel
theorem D_x_odds_47 : decode M_x_odds.2.1 47 = .ok (.ireturn, 1) := by decide +kernel
theorem D_x_odds_48 : decode M_x_odds.2.1 48 = .ok (.bipush 10, 2) := by decide +kernel
theorem D_x_odds_50 : decode M_x_odds.2.1 50 = .ok (.iload 4, 2) := by decide +kernel
theorem D_x_odds_52 : decode M_x_odds.2.1 52 = .ok (.isub, 1) := by decide +kernel
theorem D_x_odds_53 : decode M_x_odds.2.1 53 = .ok (.aload_n 0, 1) := by decide +kernel
theorem D_x_odds_54 : decode M_x_odds.2.1 54 = .ok (.iload_n 1, 1) := by decide +kernel
theorem D_x_odds_55 : decode M_x_odds.2.1 55 = .ok (.iload_n 2, 1) := by decide +kernel
theorem D_x_odds_56 : decode M_x_odds.2.1 56 = .ok (.iload_n 3, 1) := by decide +kernel
theorem D_x_odds_57 : decode M_x_odds.2.1 57 = .ok (.invokevirtual 202, 3) := by decide +kernel
theorem D_x_odds_60 : decode M_x_odds.2.1 60 = .ok (.imul, 1) := by decide +kernel
theorem D_x_odds_61 : decode M_x_odds.2.1 61 = .ok (.istore 6, 2) := by decide +kernel
theorem D_x_odds_63 : decode M_x_odds.2.1 63 = .ok (.iload_n 2, 1) := by decide +kernel
theorem D_x_odds_64 : decode M_x_odds.2.1 64 = .ok (.ifCond .ne 10, 3) := by decide +kernel
theorem D_x_odds_67 : decode M_x_odds.2.1 67 = .ok (.iload 4, 2) := by decide +kernel
theorem D_x_odds_69 : decode M_x_odds.2.1 69 = .ok (.iload_n 3, 1) := by decide +kernel
theorem D_x_odds_70 : decode M_x_odds.2.1 70 = .ok (.imul, 1) := by decide +kernel
theorem D_x_odds_71 : decode M_x_odds.2.1 71 = .ok (.goto 4, 3) := by decide +kernel
theorem D_x_odds_74 : decode M_x_odds.2.1 74 = .ok (.iconst 0, 1) := by decide +kernel
theorem D_x_odds_75 : decode M_x_odds.2.1 75 = .ok (.istore 7, 2) := by decide +kernel
theorem D_x_odds_77 : decode M_x_odds.2.1 77 = .ok (.iload 6, 2) := by decide +kernel
theorem D_x_odds_79 : decode M_x_odds.2.1 79 = .ok (.iload 7, 2) := by decide +kernel
theorem D_x_odds_81 : decode M_x_odds.2.1 81 = .ok (.iadd, 1) := by decide +kernel
theorem D_x_odds_82 : decode M_x_odds.2.1 82 = .ok (.istore 8, 2) := by decide +kernel
theorem D_x_odds_84 : decode M_x_odds.2.1 84 = .ok (.bipush 10, 2) := by decide +kernel
theorem D_x_odds_86 : decode M_x_odds.2.1 86 = .ok (.iload_n 3, 1) := by decide +kernel
theorem D_x_odds_87 : decode M_x_odds.2.1 87 = .ok (.imul, 1) := by decide +kernel
theorem D_x_odds_88 : decode M_x_odds.2.1 88 = .ok (.istore 9, 2) := by decide +kernel
theorem D_x_odds_90 : decode M_x_odds.2.1 90 = .ok (.iload 9, 2) := by decide +kernel
theorem D_x_odds_92 : decode M_x_odds.2.1 92 = .ok (.iload 8, 2) := by decide +kernel
theorem D_x_odds_94 : decode M_x_odds.2.1 94 = .ok (.invokestatic 215, 3) := by decide +kernel
theorem D_x_odds_97 : decode M_x_odds.2.1 97 = .ok (.istore 10, 2) := by decide +kernel
theorem D_x_odds_99 : decode M_x_odds.2.1 99 = .ok (.iload 10, 2) := by decide +kernel
theorem D_x_odds_101 : decode M_x_odds.2.1 101 = .ok (.ifCond .ne 5, 3) := by decide +kernel
theorem D_x_odds_104 : decode M_x_odds.2.1 104 = .ok (.iconst (-1), 1) := by decide +kernel
theorem D_x_odds_105 : decode M_x_odds.2.1 105 = .ok (.ireturn, 1) := by decide +kernel
theorem D_x_odds_106 : decode M_x_odds.2.1 106 = .ok (.iload 5, 2) := by decide +kernel
theorem D_x_odds_108 : decode M_x_odds.2.1 108 = .ok (.ifCond .ne 11, 3) := by decide +kernel
theorem D_x_odds_111 : decode M_x_odds.2.1 111 = .ok (.iload 8, 2) := by decide +kernel
theorem D_x_odds_113 : decode M_x_odds.2.1 113 = .ok (.iload 10, 2) := by decide +kernel
theorem D_x_odds_115 : decode M_x_odds.2.1 115 = .ok (.idiv, 1) := by decide +kernel
theorem D_x_odds_116 : decode M_x_odds.2.1 116 = .ok (.goto 8, 3) := by decide +kernel
theorem D_x_odds_119 : decode M_x_odds.2.1 119 = .ok (.iload 9, 2) := by decide +kernel
theorem D_x_odds_121 : decode M_x_odds.2.1 121 = .ok (.iload 10, 2) := by decide +kernel
theorem D_x_odds_123 : decode M_x_odds.2.1 123 = .ok (.idiv, 1) := by decide +kernel
theorem D_x_odds_124 : decode M_x_odds.2.1 124 = .ok (.ireturn, 1) := by decide +kernel
theorem D_x_saw_0 : decode M_x_saw.2.1 0 = .ok (.aload_n 0, 1) := by decide +kernel
theorem D_x_saw_1 : decode M_x_saw.2.1 1 = .ok (.getfield 19, 3) := by decide +kernel
theorem D_x_saw_4 : decode M_x_saw.2.1 4 = .ok (.iload_n 1, 1) := by decide +kernel
theorem D_x_saw_5 : decode M_x_saw.2.1 5 = .ok (.invokevirtual 122, 3) := by decide +kernel
theorem D_x_saw_8 : decode M_x_saw.2.1 8 = .ok (.ifCond .eq 10, 3) := by decide +kernel
theorem D_x_saw_11 : decode M_x_saw.2.1 11 = .ok (.iload_n 2, 1) := by decide +kernel
theorem D_x_saw_12 : decode M_x_saw.2.1 12 = .ok (.invokestatic 199, 3) := by decide +kernel
theorem D_x_saw_15 : decode M_x_saw.2.1 15 = .ok (.ifCond .ne 5, 3) := by decide +kernel
theorem D_x_saw_18 : decode M_x_saw.2.1 18 = .ok (.iconst (-1), 1) := by decide +kernel
theorem D_x_saw_19 : decode M_x_saw.2.1 19 = .ok (.ireturn, 1) := by decide +kernel
theorem D_x_saw_20 : decode M_x_saw.2.1 20 = .ok (.aload_n 0, 1) := by decide +kernel
theorem D_x_saw_21 : decode M_x_saw.2.1 21 = .ok (.getfield 44, 3) := by decide +kernel
theorem D_x_saw_24 : decode M_x_saw.2.1 24 = .ok (.iload_n 1, 1) := by decide +kernel
theorem D_x_saw_25 : decode M_x_saw.2.1 25 = .ok (.iload_n 2, 1) := by decide +kernel
theorem D_x_saw_26 : decode M_x_saw.2.1 26 = .ok (.invokevirtual 218, 3) := by decide +kernel
theorem D_x_saw_29 : decode M_x_saw.2.1 29 = .ok (.ifCond .eq 13, 3) := by decide +kernel
theorem D_x_saw_32 : decode M_x_saw.2.1 32 = .ok (.aload_n 0, 1) := by decide +kernel
theorem D_x_saw_33 : decode M_x_saw.2.1 33 = .ok (.getfield 44, 3) := by decide +kernel
theorem D_x_saw_36 : decode M_x_saw.2.1 36 = .ok (.getfield 119, 3) := by decide +kernel
theorem D_x_saw_39 : decode M_x_saw.2.1 39 = .ok (.goto 5, 3) := by decide +kernel
theorem D_x_saw_42 : decode M_x_saw.2.1 42 = .ok (.bipush (-3), 2) := by decide +kernel
theorem D_x_saw_44 : decode M_x_saw.2.1 44 = .ok (.ireturn, 1) := by decide +kernel
theorem D_x_spun_0 : decode M_x_spun.2.1 0 = .ok (.iload_n 1, 1) := by decide +kernel
theorem D_x_spun_1 : decode M_x_spun.2.1 1 = .ok (.iconst 0, 1) := by decide +kernel
theorem D_x_spun_2 : decode M_x_spun.2.1 2 = .ok (.iconst 2, 1) := by decide +kernel
theorem D_x_spun_3 : decode M_x_spun.2.1 3 = .ok (.invokestatic 99, 3) := by decide +kernel
theorem D_x_spun_6 : decode M_x_spun.2.1 6 = .ok (.ifCond .ne 5, 3) := by decide +kernel
theorem D_x_spun_9 : decode M_x_spun.2.1 9 = .ok (.iconst (-1), 1) := by decide +kernel
theorem D_x_spun_10 : decode M_x_spun.2.1 10 = .ok (.ireturn, 1) := by decide +kernel
theorem D_x_spun_11 : decode M_x_spun.2.1 11 = .ok (.iconst 0, 1) := by decide +kernel
theorem D_x_spun_12 : decode M_x_spun.2.1 12 = .ok (.istore_n 2, 1) := by decide +kernel
theorem D_x_spun_13 : decode M_x_spun.2.1 13 = .ok (.bipush (-9), 2) := by decide +kernel
theorem D_x_spun_15 : decode M_x_spun.2.1 15 = .ok (.istore_n 3, 1) := by decide +kernel
theorem D_x_spun_16 : decode M_x_spun.2.1 16 = .ok (.bipush (-9), 2) := by decide +kernel
theorem D_x_spun_18 : decode M_x_spun.2.1 18 = .ok (.istore 4, 2) := by decide +kernel
theorem D_x_spun_20 : decode M_x_spun.2.1 20 = .ok (.iconst 1, 1) := by decide +kernel
theorem D_x_spun_21 : decode M_x_spun.2.1 21 = .ok (.istore 5, 2) := by decide +kernel
theorem D_x_spun_23 : decode M_x_spun.2.1 23 = .ok (.iload 5, 2) := by decide +kernel
theorem D_x_spun_25 : decode M_x_spun.2.1 25 = .ok (.bipush 60, 2) := by decide +kernel
theorem D_x_spun_27 : decode M_x_spun.2.1 27 = .ok (.if_icmp .gt 38, 3) := by decide +kernel
theorem D_x_spun_30 : decode M_x_spun.2.1 30 = .ok (.aload_n 0, 1) := by decide +kernel
theorem D_x_spun_31 : decode M_x_spun.2.1 31 = .ok (.iload 5, 2) := by decide +kernel
theorem D_x_spun_33 : decode M_x_spun.2.1 33 = .ok (.invokevirtual 220, 3) := by decide +kernel
theorem D_x_spun_36 : decode M_x_spun.2.1 36 = .ok (.ifCond .eq 23, 3) := by decide +kernel
theorem D_x_spun_39 : decode M_x_spun.2.1 39 = .ok (.iinc 2 1, 3) := by decide +kernel
theorem D_x_spun_42 : decode M_x_spun.2.1 42 = .ok (.iload_n 3, 1) := by decide +kernel
theorem D_x_spun_43 : decode M_x_spun.2.1 43 = .ok (.bipush (-9), 2) := by decide +kernel
theorem D_x_spun_45 : decode M_x_spun.2.1 45 = .ok (.if_icmp .ne 8, 3) := by decide +kernel
theorem D_x_spun_48 : decode M_x_spun.2.1 48 = .ok (.iload 5, 2) := by decide +kernel
theorem D_x_spun_50 : decode M_x_spun.2.1 50 = .ok (.goto 4, 3) := by decide +kernel
theorem D_x_spun_53 : decode M_x_spun.2.1 53 = .ok (.iload_n 3, 1) := by decide +kernel
theorem D_x_spun_54 : decode M_x_spun.2.1 54 = .ok (.istore_n 3, 1) := by decide +kernel
theorem D_x_spun_55 : decode M_x_spun.2.1 55 = .ok (.iload 5, 2) := by decide +kernel
theorem D_x_spun_57 : decode M_x_spun.2.1 57 = .ok (.istore 4, 2) := by decide +kernel
theorem D_x_spun_59 : decode M_x_spun.2.1 59 = .ok (.iinc 5 1, 3) := by decide +kernel
theorem D_x_spun_62 : decode M_x_spun.2.1 62 = .ok (.goto (-39), 3) := by decide +kernel
theorem D_x_spun_65 : decode M_x_spun.2.1 65 = .ok (.iload_n 1, 1) := by decide +kernel
theorem D_x_spun_66 : decode M_x_spun.2.1 66 = .ok (.ifCond .ne 5, 3) := by decide +kernel
theorem D_x_spun_69 : decode M_x_spun.2.1 69 = .ok (.iload_n 2, 1) := by decide +kernel
theorem D_x_spun_70 : decode M_x_spun.2.1 70 = .ok (.ireturn, 1) := by decide +kernel
theorem D_x_spun_71 : decode M_x_spun.2.1 71 = .ok (.iload_n 1, 1) := by decide +kernel
theorem D_x_spun_72 : decode M_x_spun.2.1 72 = .ok (.iconst 1, 1) := by decide +kernel
theorem D_x_spun_73 : decode M_x_spun.2.1 73 = .ok (.if_icmp .ne 7, 3) := by decide +kernel
theorem D_x_spun_76 : decode M_x_spun.2.1 76 = .ok (.iload_n 3, 1) := by decide +kernel
theorem D_x_spun_77 : decode M_x_spun.2.1 77 = .ok (.goto 5, 3) := by decide +kernel
theorem D_x_spun_80 : decode M_x_spun.2.1 80 = .ok (.iload 4, 2) := by decide +kernel
theorem D_x_spun_82 : decode M_x_spun.2.1 82 = .ok (.ireturn, 1) := by decide +kernel
theorem D_x_look_0 : decode M_x_look.2.1 0 = .ok (.aload_n 0, 1) := by decide +kernel
theorem D_x_look_1 : decode M_x_look.2.1 1 = .ok (.invokevirtual 223, 3) := by decide +kernel
theorem D_x_look_4 : decode M_x_look.2.1 4 = .ok (.lstore_n 1, 1) := by decide +kernel
theorem D_x_look_5 : decode M_x_look.2.1 5 = .ok (.lload_n 1, 1) := by decide +kernel
theorem D_x_look_6 : decode M_x_look.2.1 6 = .ok (.lconst 0, 1) := by decide +kernel
theorem D_x_look_7 : decode M_x_look.2.1 7 = .ok (.lcmp, 1) := by decide +kernel
theorem D_x_look_8 : decode M_x_look.2.1 8 = .ok (.ifCond .ne 6, 3) := by decide +kernel
theorem D_x_look_11 : decode M_x_look.2.1 11 = .ok (.bipush (-9), 2) := by decide +kernel
theorem D_x_look_13 : decode M_x_look.2.1 13 = .ok (.ireturn, 1) := by decide +kernel
theorem D_x_look_14 : decode M_x_look.2.1 14 = .ok (.bipush (-9), 2) := by decide +kernel
theorem D_x_look_16 : decode M_x_look.2.1 16 = .ok (.istore_n 3, 1) := by decide +kernel
theorem D_x_look_17 : decode M_x_look.2.1 17 = .ok (.bipush (-9), 2) := by decide +kernel
theorem D_x_look_19 : decode M_x_look.2.1 19 = .ok (.istore 4, 2) := by decide +kernel
theorem D_x_look_21 : decode M_x_look.2.1 21 = .ok (.iconst 0, 1) := by decide +kernel
theorem D_x_look_22 : decode M_x_look.2.1 22 = .ok (.istore 5, 2) := by decide +kernel
theorem D_x_look_24 : decode M_x_look.2.1 24 = .ok (.iload 5, 2) := by decide +kernel
theorem D_x_look_26 : decode M_x_look.2.1 26 = .ok (.aload_n 0, 1) := by decide +kernel
theorem D_x_look_27 : decode M_x_look.2.1 27 = .ok (.getfield 19, 3) := by decide +kernel
theorem D_x_look_30 : decode M_x_look.2.1 30 = .ok (.getfield 155, 3) := by decide +kernel
theorem D_x_look_33 : decode M_x_look.2.1 33 = .ok (.if_icmp .ge 38, 3) := by decide +kernel
theorem D_x_look_36 : decode M_x_look.2.1 36 = .ok (.aload_n 0, 1) := by decide +kernel
theorem D_x_look_37 : decode M_x_look.2.1 37 = .ok (.iload 5, 2) := by decide +kernel
theorem D_x_look_39 : decode M_x_look.2.1 39 = .ok (.lload_n 1, 1) := by decide +kernel
theorem D_x_look_40 : decode M_x_look.2.1 40 = .ok (.invokevirtual 227, 3) := by decide +kernel
theorem D_x_look_43 : decode M_x_look.2.1 43 = .ok (.istore 6, 2) := by decide +kernel
theorem D_x_look_45 : decode M_x_look.2.1 45 = .ok (.iload_n 3, 1) := by decide +kernel
theorem D_x_look_46 : decode M_x_look.2.1 46 = .ok (.bipush (-9), 2) := by decide +kernel
theorem D_x_look_48 : decode M_x_look.2.1 48 = .ok (.if_icmp .eq 10, 3) := by decide +kernel
theorem D_x_look_51 : decode M_x_look.2.1 51 = .ok (.iload 6, 2) := by decide +kernel
theorem D_x_look_53 : decode M_x_look.2.1 53 = .ok (.iload 4, 2) := by decide +kernel
theorem D_x_look_55 : decode M_x_look.2.1 55 = .ok (.if_icmp .ge 10, 3) := by decide +kernel
theorem D_x_look_58 : decode M_x_look.2.1 58 = .ok (.iload 5, 2) := by decide +kernel
theorem D_x_look_60 : decode M_x_look.2.1 60 = .ok (.istore_n 3, 1) := by decide +kernel
theorem D_x_look_61 : decode M_x_look.2.1 61 = .ok (.iload 6, 2) := by decide +kernel
theorem D_x_look_63 : decode M_x_look.2.1 63 = .ok (.istore 4, 2) := by decide +kernel
theorem D_x_look_65 : decode M_x_look.2.1 65 = .ok (.iinc 5 1, 3) := by decide +kernel
theorem D_x_look_68 : decode M_x_look.2.1 68 = .ok (.goto (-44), 3) := by decide +kernel
theorem D_x_look_71 : decode M_x_look.2.1 71 = .ok (.iload_n 3, 1) := by decide +kernel
theorem D_x_look_72 : decode M_x_look.2.1 72 = .ok (.ireturn, 1) := by decide +kernel
theorem D_x_hears_0 : decode M_x_hears.2.1 0 = .ok (.iload_n 1, 1) := by decide +kernel
theorem D_x_hears_1 : decode M_x_hears.2.1 1 = .ok (.invokestatic 152, 3) := by decide +kernel
theorem D_x_hears_4 : decode M_x_hears.2.1 4 = .ok (.ifCond .eq 14, 3) := by decide +kernel
theorem D_x_hears_7 : decode M_x_hears.2.1 7 = .ok (.iload_n 2, 1) := by decide +kernel
theorem D_x_hears_8 : decode M_x_hears.2.1 8 = .ok (.iconst 0, 1) := by decide +kernel
theorem D_x_hears_9 : decode M_x_hears.2.1 9 = .ok (.sipush 999, 3) := by decide +kernel
theorem D_x_hears_12 : decode M_x_hears.2.1 12 = .ok (.invokestatic 99, 3) := by decide +kernel
theorem D_x_hears_15 : decode M_x_hears.2.1 15 = .ok (.ifCond .ne 5, 3) := by decide +kernel
theorem D_x_hears_18 : decode M_x_hears.2.1 18 = .ok (.iconst (-1), 1) := by decide +kernel
theorem D_x_hears_19 : decode M_x_hears.2.1 19 = .ok (.ireturn, 1) := by decide +kernel
theorem D_x_hears_20 : decode M_x_hears.2.1 20 = .ok (.aload_n 0, 1) := by decide +kernel
theorem D_x_hears_21 : decode M_x_hears.2.1 21 = .ok (.getfield 48, 3) := by decide +kernel
theorem D_x_hears_24 : decode M_x_hears.2.1 24 = .ok (.iload_n 1, 1) := by decide +kernel
theorem D_x_hears_25 : decode M_x_hears.2.1 25 = .ok (.iload_n 2, 1) := by decide +kernel
theorem D_x_hears_26 : decode M_x_hears.2.1 26 = .ok (.invokevirtual 218, 3) := by decide +kernel
theorem D_x_hears_29 : decode M_x_hears.2.1 29 = .ok (.ifCond .eq 13, 3) := by decide +kernel
theorem D_x_hears_32 : decode M_x_hears.2.1 32 = .ok (.aload_n 0, 1) := by decide +kernel
theorem D_x_hears_33 : decode M_x_hears.2.1 33 = .ok (.getfield 48, 3) := by decide +kernel
theorem D_x_hears_36 : decode M_x_hears.2.1 36 = .ok (.getfield 119, 3) := by decide +kernel
theorem D_x_hears_39 : decode M_x_hears.2.1 39 = .ok (.goto 5, 3) := by decide +kernel
theorem D_x_hears_42 : decode M_x_hears.2.1 42 = .ok (.bipush (-3), 2) := by decide +kernel
theorem D_x_hears_44 : decode M_x_hears.2.1 44 = .ok (.ireturn, 1) := by decide +kernel
theorem D_x_laws_0 : decode M_x_laws.2.1 0 = .ok (.iload_n 1, 1) := by decide +kernel
theorem D_x_laws_1 : decode M_x_laws.2.1 1 = .ok (.iconst 0, 1) := by decide +kernel
theorem D_x_laws_2 : decode M_x_laws.2.1 2 = .ok (.iconst 1, 1) := by decide +kernel
theorem D_x_laws_3 : decode M_x_laws.2.1 3 = .ok (.invokestatic 99, 3) := by decide +kernel
theorem D_x_laws_6 : decode M_x_laws.2.1 6 = .ok (.ifCond .ne 5, 3) := by decide +kernel
theorem D_x_laws_9 : decode M_x_laws.2.1 9 = .ok (.iconst (-1), 1) := by decide +kernel
theorem D_x_laws_10 : decode M_x_laws.2.1 10 = .ok (.ireturn, 1) := by decide +kernel
theorem D_x_laws_11 : decode M_x_laws.2.1 11 = .ok (.aload_n 0, 1) := by decide +kernel
theorem D_x_laws_12 : decode M_x_laws.2.1 12 = .ok (.invokevirtual 231, 3) := by decide +kernel
theorem D_x_laws_15 : decode M_x_laws.2.1 15 = .ok (.istore_n 2, 1) := by decide +kernel
theorem D_x_laws_16 : decode M_x_laws.2.1 16 = .ok (.iload_n 1, 1) := by decide +kernel
theorem D_x_laws_17 : decode M_x_laws.2.1 17 = .ok (.ifCond .ne 5, 3) := by decide +kernel
theorem D_x_laws_20 : decode M_x_laws.2.1 20 = .ok (.iload_n 2, 1) := by decide +kernel
theorem D_x_laws_21 : decode M_x_laws.2.1 21 = .ok (.ireturn, 1) := by decide +kernel
theorem D_x_laws_22 : decode M_x_laws.2.1 22 = .ok (.iload_n 2, 1) := by decide +kernel
theorem D_x_laws_23 : decode M_x_laws.2.1 23 = .ok (.ifCond .ne 8, 3) := by decide +kernel
theorem D_x_laws_26 : decode M_x_laws.2.1 26 = .ok (.bipush (-9), 2) := by decide +kernel
theorem D_x_laws_28 : decode M_x_laws.2.1 28 = .ok (.goto 9, 3) := by decide +kernel
theorem D_x_laws_31 : decode M_x_laws.2.1 31 = .ok (.aload_n 0, 1) := by decide +kernel
theorem D_x_laws_32 : decode M_x_laws.2.1 32 = .ok (.getfield 80, 3) := by decide +kernel
theorem D_x_laws_35 : decode M_x_laws.2.1 35 = .ok (.iconst 0, 1) := by decide +kernel
theorem D_x_laws_36 : decode M_x_laws.2.1 36 = .ok (.iaload, 1) := by decide +kernel
theorem D_x_laws_37 : decode M_x_laws.2.1 37 = .ok (.ireturn, 1) := by decide +kernel
theorem D_x_tryNext_0 : decode M_x_tryNext.2.1 0 = .ok (.aload_n 0, 1) := by decide +kernel
theorem D_x_tryNext_1 : decode M_x_tryNext.2.1 1 = .ok (.invokevirtual 231, 3) := by decide +kernel
theorem D_x_tryNext_4 : decode M_x_tryNext.2.1 4 = .ok (.istore_n 1, 1) := by decide +kernel
theorem D_x_tryNext_5 : decode M_x_tryNext.2.1 5 = .ok (.iload_n 1, 1) := by decide +kernel
theorem D_x_tryNext_6 : decode M_x_tryNext.2.1 6 = .ok (.ifCond .ne 6, 3) := by decide +kernel
theorem D_x_tryNext_9 : decode M_x_tryNext.2.1 9 = .ok (.bipush (-9), 2) := by decide +kernel
theorem D_x_tryNext_11 : decode M_x_tryNext.2.1 11 = .ok (.ireturn, 1) := by decide +kernel
theorem D_x_tryNext_12 : decode M_x_tryNext.2.1 12 = .ok (.bipush (-9), 2) := by decide +kernel
theorem D_x_tryNext_14 : decode M_x_tryNext.2.1 14 = .ok (.istore_n 2, 1) := by decide +kernel
theorem D_x_tryNext_15 : decode M_x_tryNext.2.1 15 = .ok (.bipush (-9), 2) := by decide +kernel
theorem D_x_tryNext_17 : decode M_x_tryNext.2.1 17 = .ok (.istore_n 3, 1) := by decide +kernel
theorem D_x_tryNext_18 : decode M_x_tryNext.2.1 18 = .ok (.iconst 1, 1) := by decide +kernel
theorem D_x_tryNext_19 : decode M_x_tryNext.2.1 19 = .ok (.istore 4, 2) := by decide +kernel
theorem D_x_tryNext_21 : decode M_x_tryNext.2.1 21 = .ok (.iload 4, 2) := by decide +kernel
theorem D_x_tryNext_23 : decode M_x_tryNext.2.1 23 = .ok (.bipush 60, 2) := by decide +kernel
theorem D_x_tryNext_25 : decode M_x_tryNext.2.1 25 = .ok (.if_icmp .gt 36, 3) := by decide +kernel
theorem D_x_tryNext_28 : decode M_x_tryNext.2.1 28 = .ok (.aload_n 0, 1) := by decide +kernel
theorem D_x_tryNext_29 : decode M_x_tryNext.2.1 29 = .ok (.iload 4, 2) := by decide +kernel
theorem D_x_tryNext_31 : decode M_x_tryNext.2.1 31 = .ok (.iload_n 1, 1) := by decide +kernel
theorem D_x_tryNext_32 : decode M_x_tryNext.2.1 32 = .ok (.invokevirtual 234, 3) := by decide +kernel
theorem D_x_tryNext_35 : decode M_x_tryNext.2.1 35 = .ok (.istore 5, 2) := by decide +kernel
theorem D_x_tryNext_37 : decode M_x_tryNext.2.1 37 = .ok (.iload_n 2, 1) := by decide +kernel
theorem D_x_tryNext_38 : decode M_x_tryNext.2.1 38 = .ok (.bipush (-9), 2) := by decide +kernel
theorem D_x_tryNext_40 : decode M_x_tryNext.2.1 40 = .ok (.if_icmp .eq 9, 3) := by decide +kernel
theorem D_x_tryNext_43 : decode M_x_tryNext.2.1 43 = .ok (.iload 5, 2) := by decide +kernel
theorem D_x_tryNext_45 : decode M_x_tryNext.2.1 45 = .ok (.iload_n 3, 1) := by decide +kernel
theorem D_x_tryNext_46 : decode M_x_tryNext.2.1 46 = .ok (.if_icmp .ge 9, 3) := by decide +kernel
theorem D_x_tryNext_49 : decode M_x_tryNext.2.1 49 = .ok (.iload 4, 2) := by decide +kernel
theorem D_x_tryNext_51 : decode M_x_tryNext.2.1 51 = .ok (.istore_n 2, 1) := by decide +kernel
theorem D_x_tryNext_52 : decode M_x_tryNext.2.1 52 = .ok (.iload 5, 2) := by decide +kernel
theorem D_x_tryNext_54 : decode M_x_tryNext.2.1 54 = .ok (.istore_n 3, 1) := by decide +kernel
theorem D_x_tryNext_55 : decode M_x_tryNext.2.1 55 = .ok (.iinc 4 1, 3) := by decide +kernel
theorem D_x_tryNext_58 : decode M_x_tryNext.2.1 58 = .ok (.goto (-37), 3) := by decide +kernel
theorem D_x_tryNext_61 : decode M_x_tryNext.2.1 61 = .ok (.iload_n 2, 1) := by decide +kernel
theorem D_x_tryNext_62 : decode M_x_tryNext.2.1 62 = .ok (.ireturn, 1) := by decide +kernel
theorem D_x_forget_0 : decode M_x_forget.2.1 0 = .ok (.aload_n 0, 1) := by decide +kernel
theorem D_x_forget_1 : decode M_x_forget.2.1 1 = .ok (.getfield 44, 3) := by decide +kernel
theorem D_x_forget_4 : decode M_x_forget.2.1 4 = .ok (.getfield 119, 3) := by decide +kernel
theorem D_x_forget_7 : decode M_x_forget.2.1 7 = .ok (.aload_n 0, 1) := by decide +kernel
theorem D_x_forget_8 : decode M_x_forget.2.1 8 = .ok (.getfield 48, 3) := by decide +kernel
theorem D_x_forget_11 : decode M_x_forget.2.1 11 = .ok (.getfield 119, 3) := by decide +kernel
theorem D_x_forget_14 : decode M_x_forget.2.1 14 = .ok (.iadd, 1) := by decide +kernel
theorem D_x_forget_15 : decode M_x_forget.2.1 15 = .ok (.istore_n 1, 1) := by decide +kernel
theorem D_x_forget_16 : decode M_x_forget.2.1 16 = .ok (.aload_n 0, 1) := by decide +kernel
theorem D_x_forget_17 : decode M_x_forget.2.1 17 = .ok (.getfield 44, 3) := by decide +kernel
theorem D_x_forget_20 : decode M_x_forget.2.1 20 = .ok (.iconst 0, 1) := by decide +kernel
theorem D_x_forget_21 : decode M_x_forget.2.1 21 = .ok (.putfield 119, 3) := by decide +kernel
theorem D_x_forget_24 : decode M_x_forget.2.1 24 = .ok (.aload_n 0, 1) := by decide +kernel
theorem D_x_forget_25 : decode M_x_forget.2.1 25 = .ok (.getfield 48, 3) := by decide +kernel
theorem D_x_forget_28 : decode M_x_forget.2.1 28 = .ok (.iconst 0, 1) := by decide +kernel
theorem D_x_forget_29 : decode M_x_forget.2.1 29 = .ok (.putfield 119, 3) := by decide +kernel
theorem D_x_forget_32 : decode M_x_forget.2.1 32 = .ok (.iload_n 1, 1) := by decide +kernel
theorem D_x_forget_33 : decode M_x_forget.2.1 33 = .ok (.ireturn, 1) := by decide +kernel
theorem D_x_mark_0 : decode M_x_mark.2.1 0 = .ok (.iload_n 1, 1) := by decide +kernel
theorem D_x_mark_1 : decode M_x_mark.2.1 1 = .ok (.iconst 0, 1) := by decide +kernel
theorem D_x_mark_2 : decode M_x_mark.2.1 2 = .ok (.aload_n 0, 1) := by decide +kernel
theorem D_x_mark_3 : decode M_x_mark.2.1 3 = .ok (.getfield 76, 3) := by decide +kernel
theorem D_x_mark_6 : decode M_x_mark.2.1 6 = .ok (.arraylength, 1) := by decide +kernel
theorem D_x_mark_7 : decode M_x_mark.2.1 7 = .ok (.iconst 1, 1) := by decide +kernel
theorem D_x_mark_8 : decode M_x_mark.2.1 8 = .ok (.isub, 1) := by decide +kernel
theorem D_x_mark_9 : decode M_x_mark.2.1 9 = .ok (.invokestatic 99, 3) := by decide +kernel
theorem D_x_mark_12 : decode M_x_mark.2.1 12 = .ok (.ifCond .eq 14, 3) := by decide +kernel
theorem D_x_mark_15 : decode M_x_mark.2.1 15 = .ok (.aload_n 0, 1) := by decide +kernel
theorem D_x_mark_16 : decode M_x_mark.2.1 16 = .ok (.getfield 19, 3) := by decide +kernel
theorem D_x_mark_19 : decode M_x_mark.2.1 19 = .ok (.iload_n 2, 1) := by decide +kernel
theorem D_x_mark_20 : decode M_x_mark.2.1 20 = .ok (.invokevirtual 128, 3) := by decide +kernel
theorem D_x_mark_23 : decode M_x_mark.2.1 23 = .ok (.ifCond .ne 6, 3) := by decide +kernel
theorem D_x_mark_26 : decode M_x_mark.2.1 26 = .ok (.ldc 237, 2) := by decide +kernel
theorem D_x_mark_28 : decode M_x_mark.2.1 28 = .ok (.ireturn, 1) := by decide +kernel
theorem D_x_mark_29 : decode M_x_mark.2.1 29 = .ok (.aload_n 0, 1) := by decide +kernel
theorem D_x_mark_30 : decode M_x_mark.2.1 30 = .ok (.getfield 54, 3) := by decide +kernel
theorem D_x_mark_33 : decode M_x_mark.2.1 33 = .ok (.iload_n 2, 1) := by decide +kernel
theorem D_x_mark_34 : decode M_x_mark.2.1 34 = .ok (.putfield 238, 3) := by decide +kernel
theorem D_x_mark_37 : decode M_x_mark.2.1 37 = .ok (.aload_n 0, 1) := by decide +kernel
theorem D_x_mark_38 : decode M_x_mark.2.1 38 = .ok (.getfield 54, 3) := by decide +kernel
theorem D_x_mark_41 : decode M_x_mark.2.1 41 = .ok (.aload_n 0, 1) := by decide +kernel
theorem D_x_mark_42 : decode M_x_mark.2.1 42 = .ok (.getfield 29, 3) := by decide +kernel
theorem D_x_mark_45 : decode M_x_mark.2.1 45 = .ok (.iconst 4, 1) := by decide +kernel
theorem D_x_mark_46 : decode M_x_mark.2.1 46 = .ok (.iload_n 2, 1) := by decide +kernel
theorem D_x_mark_47 : decode M_x_mark.2.1 47 = .ok (.iadd, 1) := by decide +kernel
theorem D_x_mark_48 : decode M_x_mark.2.1 48 = .ok (.invokevirtual 131, 3) := by decide +kernel
theorem D_x_mark_51 : decode M_x_mark.2.1 51 = .ok (.putfield 241, 3) := by decide +kernel
theorem D_x_mark_54 : decode M_x_mark.2.1 54 = .ok (.aload_n 0, 1) := by decide +kernel
theorem D_x_mark_55 : decode M_x_mark.2.1 55 = .ok (.getfield 54, 3) := by decide +kernel
theorem D_x_mark_58 : decode M_x_mark.2.1 58 = .ok (.aload_n 0, 1) := by decide +kernel
theorem D_x_mark_59 : decode M_x_mark.2.1 59 = .ok (.iload_n 2, 1) := by decide +kernel
theorem D_x_mark_60 : decode M_x_mark.2.1 60 = .ok (.invokevirtual 138, 3) := by decide +kernel
theorem D_x_mark_63 : decode M_x_mark.2.1 63 = .ok (.putfield 244, 3) := by decide +kernel
theorem D_x_mark_66 : decode M_x_mark.2.1 66 = .ok (.aload_n 0, 1) := by decide +kernel
theorem D_x_mark_67 : decode M_x_mark.2.1 67 = .ok (.getfield 54, 3) := by decide +kernel
theorem D_x_mark_70 : decode M_x_mark.2.1 70 = .ok (.aload_n 0, 1) := by decide +kernel
theorem D_x_mark_71 : decode M_x_mark.2.1 71 = .ok (.getfield 29, 3) := by decide +kernel
theorem D_x_mark_74 : decode M_x_mark.2.1 74 = .ok (.bipush 10, 2) := by decide +kernel
theorem D_x_mark_76 : decode M_x_mark.2.1 76 = .ok (.iload_n 2, 1) := by decide +kernel
theorem D_x_mark_77 : decode M_x_mark.2.1 77 = .ok (.iadd, 1) := by decide +kernel
theorem D_x_mark_78 : decode M_x_mark.2.1 78 = .ok (.invokevirtual 131, 3) := by decide +kernel
theorem D_x_mark_81 : decode M_x_mark.2.1 81 = .ok (.putfield 247, 3) := by decide +kernel
theorem D_x_mark_84 : decode M_x_mark.2.1 84 = .ok (.aload_n 0, 1) := by decide +kernel
theorem D_x_mark_85 : decode M_x_mark.2.1 85 = .ok (.getfield 54, 3) := by decide +kernel
theorem D_x_mark_88 : decode M_x_mark.2.1 88 = .ok (.aload_n 0, 1) := by decide +kernel
theorem D_x_mark_89 : decode M_x_mark.2.1 89 = .ok (.getfield 29, 3) := by decide +kernel
theorem D_x_mark_92 : decode M_x_mark.2.1 92 = .ok (.iconst 3, 1) := by decide +kernel
theorem D_x_mark_93 : decode M_x_mark.2.1 93 = .ok (.invokevirtual 131, 3) := by decide +kernel
theorem D_x_mark_96 : decode M_x_mark.2.1 96 = .ok (.putfield 250, 3) := by decide +kernel
theorem D_x_mark_99 : decode M_x_mark.2.1 99 = .ok (.aload_n 0, 1) := by decide +kernel
theorem D_x_mark_100 : decode M_x_mark.2.1 100 = .ok (.getfield 76, 3) := by decide +kernel
theorem D_x_mark_103 : decode M_x_mark.2.1 103 = .ok (.iload_n 1, 1) := by decide +kernel
theorem D_x_mark_104 : decode M_x_mark.2.1 104 = .ok (.aaload, 1) := by decide +kernel
theorem D_x_mark_105 : decode M_x_mark.2.1 105 = .ok (.aload_n 0, 1) := by decide +kernel
theorem D_x_mark_106 : decode M_x_mark.2.1 106 = .ok (.getfield 54, 3) := by decide +kernel
theorem D_x_mark_109 : decode M_x_mark.2.1 109 = .ok (.invokevirtual 253, 3) := by decide +kernel
theorem D_x_mark_112 : decode M_x_mark.2.1 112 = .ok (.ireturn, 1) := by decide +kernel
theorem D_x_keep_0 : decode M_x_keep.2.1 0 = .ok (.iload_n 1, 1) := by decide +kernel
theorem D_x_keep_1 : decode M_x_keep.2.1 1 = .ok (.iconst 0, 1) := by decide +kernel
theorem D_x_keep_2 : decode M_x_keep.2.1 2 = .ok (.iconst 1, 1) := by decide +kernel
theorem D_x_keep_3 : decode M_x_keep.2.1 3 = .ok (.invokestatic 99, 3) := by decide +kernel
theorem D_x_keep_6 : decode M_x_keep.2.1 6 = .ok (.ifCond .ne 5, 3) := by decide +kernel
theorem D_x_keep_9 : decode M_x_keep.2.1 9 = .ok (.iconst (-1), 1) := by decide +kernel
theorem D_x_keep_10 : decode M_x_keep.2.1 10 = .ok (.ireturn, 1) := by decide +kernel
theorem D_x_keep_11 : decode M_x_keep.2.1 11 = .ok (.aload_n 0, 1) := by decide +kernel
theorem D_x_keep_12 : decode M_x_keep.2.1 12 = .ok (.getfield 33, 3) := by decide +kernel
theorem D_x_keep_15 : decode M_x_keep.2.1 15 = .ok (.iload_n 1, 1) := by decide +kernel
theorem D_x_keep_16 : decode M_x_keep.2.1 16 = .ok (.aaload, 1) := by decide +kernel
theorem D_x_keep_17 : decode M_x_keep.2.1 17 = .ok (.aload_n 0, 1) := by decide +kernel
theorem D_x_keep_18 : decode M_x_keep.2.1 18 = .ok (.getfield 29, 3) := by decide +kernel
theorem D_x_keep_21 : decode M_x_keep.2.1 21 = .ok (.invokevirtual 257, 3) := by decide +kernel
theorem D_x_keep_24 : decode M_x_keep.2.1 24 = .ok (.aload_n 0, 1) := by decide +kernel
theorem D_x_keep_25 : decode M_x_keep.2.1 25 = .ok (.getfield 37, 3) := by decide +kernel
theorem D_x_keep_28 : decode M_x_keep.2.1 28 = .ok (.iload_n 1, 1) := by decide +kernel
theorem D_x_keep_29 : decode M_x_keep.2.1 29 = .ok (.iconst 1, 1) := by decide +kernel
theorem D_x_keep_30 : decode M_x_keep.2.1 30 = .ok (.bastore, 1) := by decide +kernel
theorem D_x_keep_31 : decode M_x_keep.2.1 31 = .ok (.aload_n 0, 1) := by decide +kernel
theorem D_x_keep_32 : decode M_x_keep.2.1 32 = .ok (.getfield 29, 3) := by decide +kernel
theorem D_x_keep_35 : decode M_x_keep.2.1 35 = .ok (.iconst 3, 1) := by decide +kernel
theorem D_x_keep_36 : decode M_x_keep.2.1 36 = .ok (.invokevirtual 131, 3) := by decide +kernel
theorem D_x_keep_39 : decode M_x_keep.2.1 39 = .ok (.ireturn, 1) := by decide +kernel
theorem D_x_back_0 : decode M_x_back.2.1 0 = .ok (.iload_n 1, 1) := by decide +kernel
theorem D_x_back_1 : decode M_x_back.2.1 1 = .ok (.iconst 0, 1) := by decide +kernel
theorem D_x_back_2 : decode M_x_back.2.1 2 = .ok (.iconst 1, 1) := by decide +kernel
theorem D_x_back_3 : decode M_x_back.2.1 3 = .ok (.invokestatic 99, 3) := by decide +kernel
theorem D_x_back_6 : decode M_x_back.2.1 6 = .ok (.ifCond .ne 5, 3) := by decide +kernel
theorem D_x_back_9 : decode M_x_back.2.1 9 = .ok (.iconst (-1), 1) := by decide +kernel
theorem D_x_back_10 : decode M_x_back.2.1 10 = .ok (.ireturn, 1) := by decide +kernel
theorem D_x_back_11 : decode M_x_back.2.1 11 = .ok (.aload_n 0, 1) := by decide +kernel
theorem D_x_back_12 : decode M_x_back.2.1 12 = .ok (.getfield 37, 3) := by decide +kernel
theorem D_x_back_15 : decode M_x_back.2.1 15 = .ok (.iload_n 1, 1) := by decide +kernel
theorem D_x_back_16 : decode M_x_back.2.1 16 = .ok (.baload, 1) := by decide +kernel
theorem D_x_back_17 : decode M_x_back.2.1 17 = .ok (.ifCond .ne 6, 3) := by decide +kernel
theorem D_x_back_20 : decode M_x_back.2.1 20 = .ok (.bipush (-2), 2) := by decide +kernel
theorem D_x_back_22 : decode M_x_back.2.1 22 = .ok (.ireturn, 1) := by decide +kernel
theorem D_x_back_23 : decode M_x_back.2.1 23 = .ok (.aload_n 0, 1) := by decide +kernel
theorem D_x_back_24 : decode M_x_back.2.1 24 = .ok (.getfield 29, 3) := by decide +kernel
theorem D_x_back_27 : decode M_x_back.2.1 27 = .ok (.aload_n 0, 1) := by decide +kernel
theorem D_x_back_28 : decode M_x_back.2.1 28 = .ok (.getfield 33, 3) := by decide +kernel
theorem D_x_back_31 : decode M_x_back.2.1 31 = .ok (.iload_n 1, 1) := by decide +kernel
theorem D_x_back_32 : decode M_x_back.2.1 32 = .ok (.aaload, 1) := by decide +kernel
theorem D_x_back_33 : decode M_x_back.2.1 33 = .ok (.invokevirtual 257, 3) := by decide +kernel
theorem D_x_back_36 : decode M_x_back.2.1 36 = .ok (.aload_n 0, 1) := by decide +kernel
theorem D_x_back_37 : decode M_x_back.2.1 37 = .ok (.getfield 29, 3) := by decide +kernel
theorem D_x_back_40 : decode M_x_back.2.1 40 = .ok (.iconst 3, 1) := by decide +kernel
theorem D_x_back_41 : decode M_x_back.2.1 41 = .ok (.invokevirtual 131, 3) := by decide +kernel
theorem D_x_back_44 : decode M_x_back.2.1 44 = .ok (.ireturn, 1) := by decide +kernel
theorem D_x_count_0 : decode M_x_count.2.1 0 = .ok (.iload_n 1, 1) := by decide +kernel
theorem D_x_count_1 : decode M_x_count.2.1 1 = .ok (.tableswitch 111 0 7 #[47, 55, 63, 71, 79, 87, 95, 103], 47) := by decide +kernel
theorem D_x_count_48 : decode M_x_count.2.1 48 = .ok (.aload_n 0, 1) := by decide +kernel
theorem D_x_count_49 : decode M_x_count.2.1 49 = .ok (.getfield 19, 3) := by decide +kernel
theorem D_x_count_52 : decode M_x_count.2.1 52 = .ok (.getfield 155, 3) := by decide +kernel
theorem D_x_count_55 : decode M_x_count.2.1 55 = .ok (.ireturn, 1) := by decide +kernel
theorem D_x_count_56 : decode M_x_count.2.1 56 = .ok (.aload_n 0, 1) := by decide +kernel
theorem D_x_count_57 : decode M_x_count.2.1 57 = .ok (.getfield 19, 3) := by decide +kernel
theorem D_x_count_60 : decode M_x_count.2.1 60 = .ok (.getfield 261, 3) := by decide +kernel
theorem D_x_count_63 : decode M_x_count.2.1 63 = .ok (.ireturn, 1) := by decide +kernel
theorem D_x_count_64 : decode M_x_count.2.1 64 = .ok (.aload_n 0, 1) := by decide +kernel
theorem D_x_count_65 : decode M_x_count.2.1 65 = .ok (.getfield 19, 3) := by decide +kernel
theorem D_x_count_68 : decode M_x_count.2.1 68 = .ok (.getfield 264, 3) := by decide +kernel
theorem D_x_count_71 : decode M_x_count.2.1 71 = .ok (.ireturn, 1) := by decide +kernel
theorem D_x_count_72 : decode M_x_count.2.1 72 = .ok (.aload_n 0, 1) := by decide +kernel
theorem D_x_count_73 : decode M_x_count.2.1 73 = .ok (.getfield 19, 3) := by decide +kernel
theorem D_x_count_76 : decode M_x_count.2.1 76 = .ok (.getfield 177, 3) := by decide +kernel
theorem D_x_count_79 : decode M_x_count.2.1 79 = .ok (.ireturn, 1) := by decide +kernel
theorem D_x_count_80 : decode M_x_count.2.1 80 = .ok (.aload_n 0, 1) := by decide +kernel
theorem D_x_count_81 : decode M_x_count.2.1 81 = .ok (.getfield 44, 3) := by decide +kernel
theorem D_x_count_84 : decode M_x_count.2.1 84 = .ok (.getfield 119, 3) := by decide +kernel
theorem D_x_count_87 : decode M_x_count.2.1 87 = .ok (.ireturn, 1) := by decide +kernel
theorem D_x_count_88 : decode M_x_count.2.1 88 = .ok (.aload_n 0, 1) := by decide +kernel
theorem D_x_count_89 : decode M_x_count.2.1 89 = .ok (.getfield 48, 3) := by decide +kernel
theorem D_x_count_92 : decode M_x_count.2.1 92 = .ok (.getfield 119, 3) := by decide +kernel
theorem D_x_count_95 : decode M_x_count.2.1 95 = .ok (.ireturn, 1) := by decide +kernel
theorem D_x_count_96 : decode M_x_count.2.1 96 = .ok (.aload_n 0, 1) := by decide +kernel
theorem D_x_count_97 : decode M_x_count.2.1 97 = .ok (.getfield 29, 3) := by decide +kernel
theorem D_x_count_100 : decode M_x_count.2.1 100 = .ok (.getfield 180, 3) := by decide +kernel
theorem D_x_count_103 : decode M_x_count.2.1 103 = .ok (.ireturn, 1) := by decide +kernel
theorem D_x_count_104 : decode M_x_count.2.1 104 = .ok (.aload_n 0, 1) := by decide +kernel
theorem D_x_count_105 : decode M_x_count.2.1 105 = .ok (.getfield 10, 3) := by decide +kernel
theorem D_x_count_108 : decode M_x_count.2.1 108 = .ok (.getfield 107, 3) := by decide +kernel
theorem D_x_count_111 : decode M_x_count.2.1 111 = .ok (.ireturn, 1) := by decide +kernel
theorem D_x_count_112 : decode M_x_count.2.1 112 = .ok (.iconst (-1), 1) := by decide +kernel
theorem D_x_count_113 : decode M_x_count.2.1 113 = .ok (.ireturn, 1) := by decide +kernel
theorem D_x_trace_0 : decode M_x_trace.2.1 0 = .ok (.aload_n 0, 1) := by decide +kernel
theorem D_x_trace_1 : decode M_x_trace.2.1 1 = .ok (.getfield 54, 3) := by decide +kernel
theorem D_x_trace_4 : decode M_x_trace.2.1 4 = .ok (.getfield 267, 3) := by decide +kernel
theorem D_x_trace_7 : decode M_x_trace.2.1 7 = .ok (.lreturn, 1) := by decide +kernel
theorem D_x_isWithin_0 : decode M_x_isWithin.2.1 0 = .ok (.iload_n 0, 1) := by decide +kernel
theorem D_x_isWithin_1 : decode M_x_isWithin.2.1 1 = .ok (.iload_n 1, 1) := by decide +kernel
theorem D_x_isWithin_2 : decode M_x_isWithin.2.1 2 = .ok (.if_icmp .lt 12, 3) := by decide +kernel
theorem D_x_isWithin_5 : decode M_x_isWithin.2.1 5 = .ok (.iload_n 0, 1) := by decide +kernel
theorem D_x_isWithin_6 : decode M_x_isWithin.2.1 6 = .ok (.iload_n 2, 1) := by decide +kernel
theorem D_x_isWithin_7 : decode M_x_isWithin.2.1 7 = .ok (.if_icmp .gt 7, 3) := by decide +kernel
theorem D_x_isWithin_10 : decode M_x_isWithin.2.1 10 = .ok (.iconst 1, 1) := by decide +kernel
theorem D_x_isWithin_11 : decode M_x_isWithin.2.1 11 = .ok (.goto 4, 3) := by decide +kernel
theorem D_x_isWithin_14 : decode M_x_isWithin.2.1 14 = .ok (.iconst 0, 1) := by decide +kernel
theorem D_x_isWithin_15 : decode M_x_isWithin.2.1 15 = .ok (.ireturn, 1) := by decide +kernel
theorem D_x_isSpeed_0 : decode M_x_isSpeed.2.1 0 = .ok (.iload_n 0, 1) := by decide +kernel
theorem D_x_isSpeed_1 : decode M_x_isSpeed.2.1 1 = .ok (.iconst 1, 1) := by decide +kernel
theorem D_x_isSpeed_2 : decode M_x_isSpeed.2.1 2 = .ok (.bipush 60, 2) := by decide +kernel
theorem D_x_isSpeed_4 : decode M_x_isSpeed.2.1 4 = .ok (.invokestatic 99, 3) := by decide +kernel
theorem D_x_isSpeed_7 : decode M_x_isSpeed.2.1 7 = .ok (.ireturn, 1) := by decide +kernel
theorem D_x_isColour_0 : decode M_x_isColour.2.1 0 = .ok (.iload_n 0, 1) := by decide +kernel
theorem D_x_isColour_1 : decode M_x_isColour.2.1 1 = .ok (.iconst 0, 1) := by decide +kernel
theorem D_x_isColour_2 : decode M_x_isColour.2.1 2 = .ok (.iconst 5, 1) := by decide +kernel
theorem D_x_isColour_3 : decode M_x_isColour.2.1 3 = .ok (.invokestatic 99, 3) := by decide +kernel
theorem D_x_isColour_6 : decode M_x_isColour.2.1 6 = .ok (.ireturn, 1) := by decide +kernel
theorem D_x_areTwo_0 : decode M_x_areTwo.2.1 0 = .ok (.iload_n 1, 1) := by decide +kernel
theorem D_x_areTwo_1 : decode M_x_areTwo.2.1 1 = .ok (.iload_n 2, 1) := by decide +kernel
theorem D_x_areTwo_2 : decode M_x_areTwo.2.1 2 = .ok (.if_icmp .eq 29, 3) := by decide +kernel
theorem D_x_areTwo_5 : decode M_x_areTwo.2.1 5 = .ok (.aload_n 0, 1) := by decide +kernel
theorem D_x_areTwo_6 : decode M_x_areTwo.2.1 6 = .ok (.getfield 19, 3) := by decide +kernel
theorem D_x_areTwo_9 : decode M_x_areTwo.2.1 9 = .ok (.iload_n 1, 1) := by decide +kernel
theorem D_x_areTwo_10 : decode M_x_areTwo.2.1 10 = .ok (.invokevirtual 128, 3) := by decide +kernel
theorem D_x_areTwo_13 : decode M_x_areTwo.2.1 13 = .ok (.ifCond .eq 18, 3) := by decide +kernel
theorem D_x_areTwo_16 : decode M_x_areTwo.2.1 16 = .ok (.aload_n 0, 1) := by decide +kernel
theorem D_x_areTwo_17 : decode M_x_areTwo.2.1 17 = .ok (.getfield 19, 3) := by decide +kernel
theorem D_x_areTwo_20 : decode M_x_areTwo.2.1 20 = .ok (.iload_n 2, 1) := by decide +kernel
theorem D_x_areTwo_21 : decode M_x_areTwo.2.1 21 = .ok (.invokevirtual 128, 3) := by decide +kernel
theorem D_x_areTwo_24 : decode M_x_areTwo.2.1 24 = .ok (.ifCond .eq 7, 3) := by decide +kernel
theorem D_x_areTwo_27 : decode M_x_areTwo.2.1 27 = .ok (.iconst 1, 1) := by decide +kernel
theorem D_x_areTwo_28 : decode M_x_areTwo.2.1 28 = .ok (.goto 4, 3) := by decide +kernel
theorem D_x_areTwo_31 : decode M_x_areTwo.2.1 31 = .ok (.iconst 0, 1) := by decide +kernel
theorem D_x_areTwo_32 : decode M_x_areTwo.2.1 32 = .ok (.ireturn, 1) := by decide +kernel
theorem D_x_colourOf_0 : decode M_x_colourOf.2.1 0 = .ok (.aload_n 0, 1) := by decide +kernel
theorem D_x_colourOf_1 : decode M_x_colourOf.2.1 1 = .ok (.getfield 29, 3) := by decide +kernel
theorem D_x_colourOf_4 : decode M_x_colourOf.2.1 4 = .ok (.iconst 2, 1) := by decide +kernel
theorem D_x_colourOf_5 : decode M_x_colourOf.2.1 5 = .ok (.invokevirtual 131, 3) := by decide +kernel
theorem D_x_colourOf_8 : decode M_x_colourOf.2.1 8 = .ok (.iconst 1, 1) := by decide +kernel
theorem D_x_colourOf_9 : decode M_x_colourOf.2.1 9 = .ok (.if_icmp .ne 5, 3) := by decide +kernel
theorem D_x_colourOf_12 : decode M_x_colourOf.2.1 12 = .ok (.iconst 0, 1) := by decide +kernel
theorem D_x_colourOf_13 : decode M_x_colourOf.2.1 13 = .ok (.ireturn, 1) := by decide +kernel
theorem D_x_colourOf_14 : decode M_x_colourOf.2.1 14 = .ok (.aload_n 0, 1) := by decide +kernel
theorem D_x_colourOf_15 : decode M_x_colourOf.2.1 15 = .ok (.getfield 19, 3) := by decide +kernel
theorem D_x_colourOf_18 : decode M_x_colourOf.2.1 18 = .ok (.aload_n 0, 1) := by decide +kernel
theorem D_x_colourOf_19 : decode M_x_colourOf.2.1 19 = .ok (.getfield 29, 3) := by decide +kernel
theorem D_x_colourOf_22 : decode M_x_colourOf.2.1 22 = .ok (.iconst 4, 1) := by decide +kernel
theorem D_x_colourOf_23 : decode M_x_colourOf.2.1 23 = .ok (.iload_n 1, 1) := by decide +kernel
theorem D_x_colourOf_24 : decode M_x_colourOf.2.1 24 = .ok (.iadd, 1) := by decide +kernel
theorem D_x_colourOf_25 : decode M_x_colourOf.2.1 25 = .ok (.invokevirtual 131, 3) := by decide +kernel
theorem D_x_colourOf_28 : decode M_x_colourOf.2.1 28 = .ok (.aload_n 0, 1) := by decide +kernel
theorem D_x_colourOf_29 : decode M_x_colourOf.2.1 29 = .ok (.getfield 29, 3) := by decide +kernel
theorem D_x_colourOf_32 : decode M_x_colourOf.2.1 32 = .ok (.iconst 0, 1) := by decide +kernel
theorem D_x_colourOf_33 : decode M_x_colourOf.2.1 33 = .ok (.invokevirtual 131, 3) := by decide +kernel
theorem D_x_colourOf_36 : decode M_x_colourOf.2.1 36 = .ok (.aload_n 0, 1) := by decide +kernel
theorem D_x_colourOf_37 : decode M_x_colourOf.2.1 37 = .ok (.getfield 29, 3) := by decide +kernel
theorem D_x_colourOf_40 : decode M_x_colourOf.2.1 40 = .ok (.iconst 1, 1) := by decide +kernel
theorem D_x_colourOf_41 : decode M_x_colourOf.2.1 41 = .ok (.invokevirtual 131, 3) := by decide +kernel
theorem D_x_colourOf_44 : decode M_x_colourOf.2.1 44 = .ok (.iadd, 1) := by decide +kernel
theorem D_x_colourOf_45 : decode M_x_colourOf.2.1 45 = .ok (.invokevirtual 271, 3) := by decide +kernel
theorem D_x_colourOf_48 : decode M_x_colourOf.2.1 48 = .ok (.ireturn, 1) := by decide +kernel
theorem D_x_whoIsOn_0 : decode M_x_whoIsOn.2.1 0 = .ok (.iconst 0, 1) := by decide +kernel
theorem D_x_whoIsOn_1 : decode M_x_whoIsOn.2.1 1 = .ok (.istore_n 2, 1) := by decide +kernel
theorem D_x_whoIsOn_2 : decode M_x_whoIsOn.2.1 2 = .ok (.iload_n 2, 1) := by decide +kernel
theorem D_x_whoIsOn_3 : decode M_x_whoIsOn.2.1 3 = .ok (.aload_n 0, 1) := by decide +kernel
theorem D_x_whoIsOn_4 : decode M_x_whoIsOn.2.1 4 = .ok (.getfield 19, 3) := by decide +kernel
theorem D_x_whoIsOn_7 : decode M_x_whoIsOn.2.1 7 = .ok (.getfield 177, 3) := by decide +kernel
theorem D_x_whoIsOn_10 : decode M_x_whoIsOn.2.1 10 = .ok (.if_icmp .ge 25, 3) := by decide +kernel
theorem D_x_whoIsOn_13 : decode M_x_whoIsOn.2.1 13 = .ok (.aload_n 0, 1) := by decide +kernel
theorem D_x_whoIsOn_14 : decode M_x_whoIsOn.2.1 14 = .ok (.getfield 29, 3) := by decide +kernel
theorem D_x_whoIsOn_17 : decode M_x_whoIsOn.2.1 17 = .ok (.iconst 4, 1) := by decide +kernel
theorem D_x_whoIsOn_18 : decode M_x_whoIsOn.2.1 18 = .ok (.iload_n 2, 1) := by decide +kernel
theorem D_x_whoIsOn_19 : decode M_x_whoIsOn.2.1 19 = .ok (.iadd, 1) := by decide +kernel
theorem D_x_whoIsOn_20 : decode M_x_whoIsOn.2.1 20 = .ok (.invokevirtual 131, 3) := by decide +kernel
theorem D_x_whoIsOn_23 : decode M_x_whoIsOn.2.1 23 = .ok (.iload_n 1, 1) := by decide +kernel
theorem D_x_whoIsOn_24 : decode M_x_whoIsOn.2.1 24 = .ok (.if_icmp .ne 5, 3) := by decide +kernel
theorem D_x_whoIsOn_27 : decode M_x_whoIsOn.2.1 27 = .ok (.iload_n 2, 1) := by decide +kernel
theorem D_x_whoIsOn_28 : decode M_x_whoIsOn.2.1 28 = .ok (.ireturn, 1) := by decide +kernel
theorem D_x_whoIsOn_29 : decode M_x_whoIsOn.2.1 29 = .ok (.iinc 2 1, 3) := by decide +kernel
theorem D_x_whoIsOn_32 : decode M_x_whoIsOn.2.1 32 = .ok (.goto (-30), 3) := by decide +kernel
theorem D_x_whoIsOn_35 : decode M_x_whoIsOn.2.1 35 = .ok (.iconst (-1), 1) := by decide +kernel
theorem D_x_whoIsOn_36 : decode M_x_whoIsOn.2.1 36 = .ok (.ireturn, 1) := by decide +kernel
theorem D_x_holdFeast_0 : decode M_x_holdFeast.2.1 0 = .ok (.aload_n 0, 1) := by decide +kernel
theorem D_x_holdFeast_1 : decode M_x_holdFeast.2.1 1 = .ok (.getfield 29, 3) := by decide +kernel
theorem D_x_holdFeast_4 : decode M_x_holdFeast.2.1 4 = .ok (.iconst 3, 1) := by decide +kernel
theorem D_x_holdFeast_5 : decode M_x_holdFeast.2.1 5 = .ok (.aload_n 0, 1) := by decide +kernel
theorem D_x_holdFeast_6 : decode M_x_holdFeast.2.1 6 = .ok (.getfield 29, 3) := by decide +kernel
theorem D_x_holdFeast_9 : decode M_x_holdFeast.2.1 9 = .ok (.iconst 3, 1) := by decide +kernel
theorem D_x_holdFeast_10 : decode M_x_holdFeast.2.1 10 = .ok (.invokevirtual 131, 3) := by decide +kernel
theorem D_x_holdFeast_13 : decode M_x_holdFeast.2.1 13 = .ok (.iconst 1, 1) := by decide +kernel
theorem D_x_holdFeast_14 : decode M_x_holdFeast.2.1 14 = .ok (.iadd, 1) := by decide +kernel
theorem D_x_holdFeast_15 : decode M_x_holdFeast.2.1 15 = .ok (.invokevirtual 164, 3) := by decide +kernel
theorem D_x_holdFeast_18 : decode M_x_holdFeast.2.1 18 = .ok (.iconst 0, 1) := by decide +kernel
theorem D_x_holdFeast_19 : decode M_x_holdFeast.2.1 19 = .ok (.istore_n 1, 1) := by decide +kernel
theorem D_x_holdFeast_20 : decode M_x_holdFeast.2.1 20 = .ok (.iload_n 1, 1) := by decide +kernel
theorem D_x_holdFeast_21 : decode M_x_holdFeast.2.1 21 = .ok (.aload_n 0, 1) := by decide +kernel
theorem D_x_holdFeast_22 : decode M_x_holdFeast.2.1 22 = .ok (.getfield 19, 3) := by decide +kernel
theorem D_x_holdFeast_25 : decode M_x_holdFeast.2.1 25 = .ok (.getfield 177, 3) := by decide +kernel
theorem D_x_holdFeast_28 : decode M_x_holdFeast.2.1 28 = .ok (.if_icmp .ge 65, 3) := by decide +kernel
theorem D_x_holdFeast_31 : decode M_x_holdFeast.2.1 31 = .ok (.aload_n 0, 1) := by decide +kernel
theorem D_x_holdFeast_32 : decode M_x_holdFeast.2.1 32 = .ok (.iload_n 1, 1) := by decide +kernel
theorem D_x_holdFeast_33 : decode M_x_holdFeast.2.1 33 = .ok (.invokevirtual 138, 3) := by decide +kernel
theorem D_x_holdFeast_36 : decode M_x_holdFeast.2.1 36 = .ok (.istore_n 2, 1) := by decide +kernel
theorem D_x_holdFeast_37 : decode M_x_holdFeast.2.1 37 = .ok (.iload_n 2, 1) := by decide +kernel
theorem D_x_holdFeast_38 : decode M_x_holdFeast.2.1 38 = .ok (.iconst 1, 1) := by decide +kernel
theorem D_x_holdFeast_39 : decode M_x_holdFeast.2.1 39 = .ok (.if_icmp .ne 8, 3) := by decide +kernel
theorem D_x_holdFeast_42 : decode M_x_holdFeast.2.1 42 = .ok (.aload_n 0, 1) := by decide +kernel
theorem D_x_holdFeast_43 : decode M_x_holdFeast.2.1 43 = .ok (.iload_n 1, 1) := by decide +kernel
theorem D_x_holdFeast_44 : decode M_x_holdFeast.2.1 44 = .ok (.invokevirtual 274, 3) := by decide +kernel
theorem D_x_holdFeast_47 : decode M_x_holdFeast.2.1 47 = .ok (.aload_n 0, 1) := by decide +kernel
theorem D_x_holdFeast_48 : decode M_x_holdFeast.2.1 48 = .ok (.getfield 29, 3) := by decide +kernel
theorem D_x_holdFeast_51 : decode M_x_holdFeast.2.1 51 = .ok (.bipush 10, 2) := by decide +kernel
theorem D_x_holdFeast_53 : decode M_x_holdFeast.2.1 53 = .ok (.iload_n 1, 1) := by decide +kernel
theorem D_x_holdFeast_54 : decode M_x_holdFeast.2.1 54 = .ok (.iadd, 1) := by decide +kernel
theorem D_x_holdFeast_55 : decode M_x_holdFeast.2.1 55 = .ok (.invokevirtual 131, 3) := by decide +kernel
theorem D_x_holdFeast_58 : decode M_x_holdFeast.2.1 58 = .ok (.iconst 1, 1) := by decide +kernel
theorem D_x_holdFeast_59 : decode M_x_holdFeast.2.1 59 = .ok (.iadd, 1) := by decide +kernel
theorem D_x_holdFeast_60 : decode M_x_holdFeast.2.1 60 = .ok (.bipush 99, 2) := by decide +kernel
theorem D_x_holdFeast_62 : decode M_x_holdFeast.2.1 62 = .ok (.invokestatic 278, 3) := by decide +kernel
theorem D_x_holdFeast_65 : decode M_x_holdFeast.2.1 65 = .ok (.istore_n 3, 1) := by decide +kernel
theorem D_x_holdFeast_66 : decode M_x_holdFeast.2.1 66 = .ok (.aload_n 0, 1) := by decide +kernel
theorem D_x_holdFeast_67 : decode M_x_holdFeast.2.1 67 = .ok (.getfield 29, 3) := by decide +kernel
theorem D_x_holdFeast_70 : decode M_x_holdFeast.2.1 70 = .ok (.bipush 10, 2) := by decide +kernel
theorem D_x_holdFeast_72 : decode M_x_holdFeast.2.1 72 = .ok (.iload_n 1, 1) := by decide +kernel
theorem D_x_holdFeast_73 : decode M_x_holdFeast.2.1 73 = .ok (.iadd, 1) := by decide +kernel
theorem D_x_holdFeast_74 : decode M_x_holdFeast.2.1 74 = .ok (.iload_n 2, 1) := by decide +kernel
theorem D_x_holdFeast_75 : decode M_x_holdFeast.2.1 75 = .ok (.iconst 3, 1) := by decide +kernel
theorem D_x_holdFeast_76 : decode M_x_holdFeast.2.1 76 = .ok (.if_icmp .ne 7, 3) := by decide +kernel
theorem D_x_holdFeast_79 : decode M_x_holdFeast.2.1 79 = .ok (.iload_n 3, 1) := by decide +kernel
theorem D_x_holdFeast_80 : decode M_x_holdFeast.2.1 80 = .ok (.goto 4, 3) := by decide +kernel
theorem D_x_holdFeast_83 : decode M_x_holdFeast.2.1 83 = .ok (.iconst 0, 1) := by decide +kernel
theorem D_x_holdFeast_84 : decode M_x_holdFeast.2.1 84 = .ok (.invokevirtual 164, 3) := by decide +kernel
theorem D_x_holdFeast_87 : decode M_x_holdFeast.2.1 87 = .ok (.iinc 1 1, 3) := by decide +kernel
theorem D_x_holdFeast_90 : decode M_x_holdFeast.2.1 90 = .ok (.goto (-70), 3) := by decide +kernel
theorem D_x_holdFeast_93 : decode M_x_holdFeast.2.1 93 = .ok (.return_, 1) := by decide +kernel
theorem D_x_oweBlueTo_0 : decode M_x_oweBlueTo.2.1 0 = .ok (.iconst 0, 1) := by decide +kernel
theorem D_x_oweBlueTo_1 : decode M_x_oweBlueTo.2.1 1 = .ok (.istore_n 2, 1) := by decide +kernel
theorem D_x_oweBlueTo_2 : decode M_x_oweBlueTo.2.1 2 = .ok (.iload_n 2, 1) := by decide +kernel
theorem D_x_oweBlueTo_3 : decode M_x_oweBlueTo.2.1 3 = .ok (.aload_n 0, 1) := by decide +kernel
theorem D_x_oweBlueTo_4 : decode M_x_oweBlueTo.2.1 4 = .ok (.getfield 19, 3) := by decide +kernel
theorem D_x_oweBlueTo_7 : decode M_x_oweBlueTo.2.1 7 = .ok (.getfield 177, 3) := by decide +kernel
theorem D_x_oweBlueTo_10 : decode M_x_oweBlueTo.2.1 10 = .ok (.if_icmp .ge 49, 3) := by decide +kernel
theorem D_x_oweBlueTo_13 : decode M_x_oweBlueTo.2.1 13 = .ok (.aload_n 0, 1) := by decide +kernel
theorem D_x_oweBlueTo_14 : decode M_x_oweBlueTo.2.1 14 = .ok (.iload_n 2, 1) := by decide +kernel
theorem D_x_oweBlueTo_15 : decode M_x_oweBlueTo.2.1 15 = .ok (.invokevirtual 138, 3) := by decide +kernel
theorem D_x_oweBlueTo_18 : decode M_x_oweBlueTo.2.1 18 = .ok (.iconst 2, 1) := by decide +kernel
theorem D_x_oweBlueTo_19 : decode M_x_oweBlueTo.2.1 19 = .ok (.if_icmp .ne 34, 3) := by decide +kernel
theorem D_x_oweBlueTo_22 : decode M_x_oweBlueTo.2.1 22 = .ok (.aload_n 0, 1) := by decide +kernel
theorem D_x_oweBlueTo_23 : decode M_x_oweBlueTo.2.1 23 = .ok (.getfield 29, 3) := by decide +kernel
theorem D_x_oweBlueTo_26 : decode M_x_oweBlueTo.2.1 26 = .ok (.iload_n 1, 1) := by decide +kernel
theorem D_x_oweBlueTo_27 : decode M_x_oweBlueTo.2.1 27 = .ok (.iload_n 2, 1) := by decide +kernel
theorem D_x_oweBlueTo_28 : decode M_x_oweBlueTo.2.1 28 = .ok (.invokestatic 148, 3) := by decide +kernel
theorem D_x_oweBlueTo_31 : decode M_x_oweBlueTo.2.1 31 = .ok (.aload_n 0, 1) := by decide +kernel
theorem D_x_oweBlueTo_32 : decode M_x_oweBlueTo.2.1 32 = .ok (.getfield 29, 3) := by decide +kernel
theorem D_x_oweBlueTo_35 : decode M_x_oweBlueTo.2.1 35 = .ok (.iload_n 1, 1) := by decide +kernel
theorem D_x_oweBlueTo_36 : decode M_x_oweBlueTo.2.1 36 = .ok (.iload_n 2, 1) := by decide +kernel
theorem D_x_oweBlueTo_37 : decode M_x_oweBlueTo.2.1 37 = .ok (.invokestatic 148, 3) := by decide +kernel
theorem D_x_oweBlueTo_40 : decode M_x_oweBlueTo.2.1 40 = .ok (.invokevirtual 131, 3) := by decide +kernel
theorem D_x_oweBlueTo_43 : decode M_x_oweBlueTo.2.1 43 = .ok (.iconst 1, 1) := by decide +kernel
theorem D_x_oweBlueTo_44 : decode M_x_oweBlueTo.2.1 44 = .ok (.iadd, 1) := by decide +kernel
theorem D_x_oweBlueTo_45 : decode M_x_oweBlueTo.2.1 45 = .ok (.bipush 99, 2) := by decide +kernel
theorem D_x_oweBlueTo_47 : decode M_x_oweBlueTo.2.1 47 = .ok (.invokestatic 278, 3) := by decide +kernel
theorem D_x_oweBlueTo_50 : decode M_x_oweBlueTo.2.1 50 = .ok (.invokevirtual 164, 3) := by decide +kernel
theorem D_x_oweBlueTo_53 : decode M_x_oweBlueTo.2.1 53 = .ok (.iinc 2 1, 3) := by decide +kernel
theorem D_x_oweBlueTo_56 : decode M_x_oweBlueTo.2.1 56 = .ok (.goto (-54), 3) := by decide +kernel
theorem D_x_oweBlueTo_59 : decode M_x_oweBlueTo.2.1 59 = .ok (.return_, 1) := by decide +kernel
theorem D_x_owedByAll_0 : decode M_x_owedByAll.2.1 0 = .ok (.iconst 0, 1) := by decide +kernel
theorem D_x_owedByAll_1 : decode M_x_owedByAll.2.1 1 = .ok (.istore_n 2, 1) := by decide +kernel
theorem D_x_owedByAll_2 : decode M_x_owedByAll.2.1 2 = .ok (.iconst 0, 1) := by decide +kernel
theorem D_x_owedByAll_3 : decode M_x_owedByAll.2.1 3 = .ok (.istore_n 3, 1) := by decide +kernel
theorem D_x_owedByAll_4 : decode M_x_owedByAll.2.1 4 = .ok (.iload_n 3, 1) := by decide +kernel
theorem D_x_owedByAll_5 : decode M_x_owedByAll.2.1 5 = .ok (.aload_n 0, 1) := by decide +kernel
theorem D_x_owedByAll_6 : decode M_x_owedByAll.2.1 6 = .ok (.getfield 19, 3) := by decide +kernel
theorem D_x_owedByAll_9 : decode M_x_owedByAll.2.1 9 = .ok (.getfield 177, 3) := by decide +kernel
theorem D_x_owedByAll_12 : decode M_x_owedByAll.2.1 12 = .ok (.if_icmp .ge 24, 3) := by decide +kernel
theorem D_x_owedByAll_15 : decode M_x_owedByAll.2.1 15 = .ok (.iload_n 2, 1) := by decide +kernel
theorem D_x_owedByAll_16 : decode M_x_owedByAll.2.1 16 = .ok (.aload_n 0, 1) := by decide +kernel
theorem D_x_owedByAll_17 : decode M_x_owedByAll.2.1 17 = .ok (.getfield 29, 3) := by decide +kernel
theorem D_x_owedByAll_20 : decode M_x_owedByAll.2.1 20 = .ok (.iload_n 1, 1) := by decide +kernel
theorem D_x_owedByAll_21 : decode M_x_owedByAll.2.1 21 = .ok (.iload_n 3, 1) := by decide +kernel
theorem D_x_owedByAll_22 : decode M_x_owedByAll.2.1 22 = .ok (.invokestatic 148, 3) := by decide +kernel
theorem D_x_owedByAll_25 : decode M_x_owedByAll.2.1 25 = .ok (.invokevirtual 131, 3) := by decide +kernel
theorem D_x_owedByAll_28 : decode M_x_owedByAll.2.1 28 = .ok (.iadd, 1) := by decide +kernel
theorem D_x_owedByAll_29 : decode M_x_owedByAll.2.1 29 = .ok (.istore_n 2, 1) := by decide +kernel
theorem D_x_owedByAll_30 : decode M_x_owedByAll.2.1 30 = .ok (.iinc 3 1, 3) := by decide +kernel
theorem D_x_owedByAll_33 : decode M_x_owedByAll.2.1 33 = .ok (.goto (-29), 3) := by decide +kernel
theorem D_x_owedByAll_36 : decode M_x_owedByAll.2.1 36 = .ok (.iload_n 2, 1) := by decide +kernel
theorem D_x_owedByAll_37 : decode M_x_owedByAll.2.1 37 = .ok (.ireturn, 1) := by decide +kernel
theorem D_x_owedInAll_0 : decode M_x_owedInAll.2.1 0 = .ok (.iconst 0, 1) := by decide +kernel
theorem D_x_owedInAll_1 : decode M_x_owedInAll.2.1 1 = .ok (.istore_n 1, 1) := by decide +kernel
theorem D_x_owedInAll_2 : decode M_x_owedInAll.2.1 2 = .ok (.iconst 0, 1) := by decide +kernel
theorem D_x_owedInAll_3 : decode M_x_owedInAll.2.1 3 = .ok (.istore_n 2, 1) := by decide +kernel
theorem D_x_owedInAll_4 : decode M_x_owedInAll.2.1 4 = .ok (.iload_n 2, 1) := by decide +kernel
theorem D_x_owedInAll_5 : decode M_x_owedInAll.2.1 5 = .ok (.aload_n 0, 1) := by decide +kernel
theorem D_x_owedInAll_6 : decode M_x_owedInAll.2.1 6 = .ok (.getfield 19, 3) := by decide +kernel
theorem D_x_owedInAll_9 : decode M_x_owedInAll.2.1 9 = .ok (.getfield 177, 3) := by decide +kernel
theorem D_x_owedInAll_12 : decode M_x_owedInAll.2.1 12 = .ok (.if_icmp .ge 17, 3) := by decide +kernel
theorem D_x_owedInAll_15 : decode M_x_owedInAll.2.1 15 = .ok (.iload_n 1, 1) := by decide +kernel
theorem D_x_owedInAll_16 : decode M_x_owedInAll.2.1 16 = .ok (.aload_n 0, 1) := by decide +kernel
theorem D_x_owedInAll_17 : decode M_x_owedInAll.2.1 17 = .ok (.iload_n 2, 1) := by decide +kernel
theorem D_x_owedInAll_18 : decode M_x_owedInAll.2.1 18 = .ok (.invokevirtual 141, 3) := by decide +kernel
theorem D_x_owedInAll_21 : decode M_x_owedInAll.2.1 21 = .ok (.iadd, 1) := by decide +kernel
theorem D_x_owedInAll_22 : decode M_x_owedInAll.2.1 22 = .ok (.istore_n 1, 1) := by decide +kernel
theorem D_x_owedInAll_23 : decode M_x_owedInAll.2.1 23 = .ok (.iinc 2 1, 3) := by decide +kernel
theorem D_x_owedInAll_26 : decode M_x_owedInAll.2.1 26 = .ok (.goto (-22), 3) := by decide +kernel
theorem D_x_owedInAll_29 : decode M_x_owedInAll.2.1 29 = .ok (.iload_n 1, 1) := by decide +kernel
theorem D_x_owedInAll_30 : decode M_x_owedInAll.2.1 30 = .ok (.ireturn, 1) := by decide +kernel
theorem D_x_ringOfDebts_0 : decode M_x_ringOfDebts.2.1 0 = .ok (.iconst 0, 1) := by decide +kernel
theorem D_x_ringOfDebts_1 : decode M_x_ringOfDebts.2.1 1 = .ok (.istore_n 1, 1) := by decide +kernel
theorem D_x_ringOfDebts_2 : decode M_x_ringOfDebts.2.1 2 = .ok (.iconst 0, 1) := by decide +kernel
theorem D_x_ringOfDebts_3 : decode M_x_ringOfDebts.2.1 3 = .ok (.istore_n 2, 1) := by decide +kernel
theorem D_x_ringOfDebts_4 : decode M_x_ringOfDebts.2.1 4 = .ok (.iload_n 2, 1) := by decide +kernel
theorem D_x_ringOfDebts_5 : decode M_x_ringOfDebts.2.1 5 = .ok (.aload_n 0, 1) := by decide +kernel
theorem D_x_ringOfDebts_6 : decode M_x_ringOfDebts.2.1 6 = .ok (.getfield 19, 3) := by decide +kernel
theorem D_x_ringOfDebts_9 : decode M_x_ringOfDebts.2.1 9 = .ok (.getfield 177, 3) := by decide +kernel
theorem D_x_ringOfDebts_12 : decode M_x_ringOfDebts.2.1 12 = .ok (.if_icmp .ge 28, 3) := by decide +kernel
theorem D_x_ringOfDebts_15 : decode M_x_ringOfDebts.2.1 15 = .ok (.aload_n 0, 1) := by decide +kernel
theorem D_x_ringOfDebts_16 : decode M_x_ringOfDebts.2.1 16 = .ok (.iload_n 2, 1) := by decide +kernel
theorem D_x_ringOfDebts_17 : decode M_x_ringOfDebts.2.1 17 = .ok (.invokevirtual 283, 3) := by decide +kernel
theorem D_x_ringOfDebts_20 : decode M_x_ringOfDebts.2.1 20 = .ok (.iload_n 2, 1) := by decide +kernel
theorem D_x_ringOfDebts_21 : decode M_x_ringOfDebts.2.1 21 = .ok (.ishr, 1) := by decide +kernel
theorem D_x_ringOfDebts_22 : decode M_x_ringOfDebts.2.1 22 = .ok (.iconst 1, 1) := by decide +kernel
theorem D_x_ringOfDebts_23 : decode M_x_ringOfDebts.2.1 23 = .ok (.iand, 1) := by decide +kernel
theorem D_x_ringOfDebts_24 : decode M_x_ringOfDebts.2.1 24 = .ok (.iconst 1, 1) := by decide +kernel
theorem D_x_ringOfDebts_25 : decode M_x_ringOfDebts.2.1 25 = .ok (.if_icmp .ne 9, 3) := by decide +kernel
theorem D_x_ringOfDebts_28 : decode M_x_ringOfDebts.2.1 28 = .ok (.iload_n 1, 1) := by decide +kernel
theorem D_x_ringOfDebts_29 : decode M_x_ringOfDebts.2.1 29 = .ok (.iconst 1, 1) := by decide +kernel
theorem D_x_ringOfDebts_30 : decode M_x_ringOfDebts.2.1 30 = .ok (.iload_n 2, 1) := by decide +kernel
theorem D_x_ringOfDebts_31 : decode M_x_ringOfDebts.2.1 31 = .ok (.ishl, 1) := by decide +kernel
theorem D_x_ringOfDebts_32 : decode M_x_ringOfDebts.2.1 32 = .ok (.ior, 1) := by decide +kernel
theorem D_x_ringOfDebts_33 : decode M_x_ringOfDebts.2.1 33 = .ok (.istore_n 1, 1) := by decide +kernel
theorem D_x_ringOfDebts_34 : decode M_x_ringOfDebts.2.1 34 = .ok (.iinc 2 1, 3) := by decide +kernel
theorem D_x_ringOfDebts_37 : decode M_x_ringOfDebts.2.1 37 = .ok (.goto (-33), 3) := by decide +kernel
theorem D_x_ringOfDebts_40 : decode M_x_ringOfDebts.2.1 40 = .ok (.iload_n 1, 1) := by decide +kernel
theorem D_x_ringOfDebts_41 : decode M_x_ringOfDebts.2.1 41 = .ok (.ireturn, 1) := by decide +kernel
theorem D_x_debtorsBehind_0 : decode M_x_debtorsBehind.2.1 0 = .ok (.aload_n 0, 1) := by decide +kernel
theorem D_x_debtorsBehind_1 : decode M_x_debtorsBehind.2.1 1 = .ok (.iload_n 1, 1) := by decide +kernel
theorem D_x_debtorsBehind_2 : decode M_x_debtorsBehind.2.1 2 = .ok (.invokevirtual 286, 3) := by decide +kernel
theorem D_x_debtorsBehind_5 : decode M_x_debtorsBehind.2.1 5 = .ok (.istore_n 2, 1) := by decide +kernel
theorem D_x_debtorsBehind_6 : decode M_x_debtorsBehind.2.1 6 = .ok (.iconst 1, 1) := by decide +kernel
theorem D_x_debtorsBehind_7 : decode M_x_debtorsBehind.2.1 7 = .ok (.istore_n 3, 1) := by decide +kernel
theorem D_x_debtorsBehind_8 : decode M_x_debtorsBehind.2.1 8 = .ok (.iload_n 3, 1) := by decide +kernel
theorem D_x_debtorsBehind_9 : decode M_x_debtorsBehind.2.1 9 = .ok (.aload_n 0, 1) := by decide +kernel
theorem D_x_debtorsBehind_10 : decode M_x_debtorsBehind.2.1 10 = .ok (.getfield 19, 3) := by decide +kernel
theorem D_x_debtorsBehind_13 : decode M_x_debtorsBehind.2.1 13 = .ok (.getfield 177, 3) := by decide +kernel
theorem D_x_debtorsBehind_16 : decode M_x_debtorsBehind.2.1 16 = .ok (.if_icmp .ge 53, 3) := by decide +kernel
theorem D_x_debtorsBehind_19 : decode M_x_debtorsBehind.2.1 19 = .ok (.iload_n 2, 1) := by decide +kernel
theorem D_x_debtorsBehind_20 : decode M_x_debtorsBehind.2.1 20 = .ok (.istore 4, 2) := by decide +kernel
theorem D_x_debtorsBehind_22 : decode M_x_debtorsBehind.2.1 22 = .ok (.iconst 0, 1) := by decide +kernel
theorem D_x_debtorsBehind_23 : decode M_x_debtorsBehind.2.1 23 = .ok (.istore 5, 2) := by decide +kernel
theorem D_x_debtorsBehind_25 : decode M_x_debtorsBehind.2.1 25 = .ok (.iload 5, 2) := by decide +kernel
theorem D_x_debtorsBehind_27 : decode M_x_debtorsBehind.2.1 27 = .ok (.aload_n 0, 1) := by decide +kernel
theorem D_x_debtorsBehind_28 : decode M_x_debtorsBehind.2.1 28 = .ok (.getfield 19, 3) := by decide +kernel
theorem D_x_debtorsBehind_31 : decode M_x_debtorsBehind.2.1 31 = .ok (.getfield 177, 3) := by decide +kernel
theorem D_x_debtorsBehind_34 : decode M_x_debtorsBehind.2.1 34 = .ok (.if_icmp .ge 29, 3) := by decide +kernel
theorem D_x_debtorsBehind_37 : decode M_x_debtorsBehind.2.1 37 = .ok (.iload 4, 2) := by decide +kernel
theorem D_x_debtorsBehind_39 : decode M_x_debtorsBehind.2.1 39 = .ok (.iload 5, 2) := by decide +kernel
theorem D_x_debtorsBehind_41 : decode M_x_debtorsBehind.2.1 41 = .ok (.ishr, 1) := by decide +kernel
theorem D_x_debtorsBehind_42 : decode M_x_debtorsBehind.2.1 42 = .ok (.iconst 1, 1) := by decide +kernel
theorem D_x_debtorsBehind_43 : decode M_x_debtorsBehind.2.1 43 = .ok (.iand, 1) := by decide +kernel
theorem D_x_debtorsBehind_44 : decode M_x_debtorsBehind.2.1 44 = .ok (.iconst 1, 1) := by decide +kernel
theorem D_x_debtorsBehind_45 : decode M_x_debtorsBehind.2.1 45 = .ok (.if_icmp .ne 12, 3) := by decide +kernel
theorem D_x_debtorsBehind_48 : decode M_x_debtorsBehind.2.1 48 = .ok (.iload_n 2, 1) := by decide +kernel
theorem D_x_debtorsBehind_49 : decode M_x_debtorsBehind.2.1 49 = .ok (.aload_n 0, 1) := by decide +kernel
theorem D_x_debtorsBehind_50 : decode M_x_debtorsBehind.2.1 50 = .ok (.iload 5, 2) := by decide +kernel
theorem D_x_debtorsBehind_52 : decode M_x_debtorsBehind.2.1 52 = .ok (.invokevirtual 286, 3) := by decide +kernel
theorem D_x_debtorsBehind_55 : decode M_x_debtorsBehind.2.1 55 = .ok (.ior, 1) := by decide +kernel
theorem D_x_debtorsBehind_56 : decode M_x_debtorsBehind.2.1 56 = .ok (.istore_n 2, 1) := by decide +kernel
theorem D_x_debtorsBehind_57 : decode M_x_debtorsBehind.2.1 57 = .ok (.iinc 5 1, 3) := by decide +kernel
theorem D_x_debtorsBehind_60 : decode M_x_debtorsBehind.2.1 60 = .ok (.goto (-35), 3) := by decide +kernel
theorem D_x_debtorsBehind_63 : decode M_x_debtorsBehind.2.1 63 = .ok (.iinc 3 1, 3) := by decide +kernel
theorem D_x_debtorsBehind_66 : decode M_x_debtorsBehind.2.1 66 = .ok (.goto (-58), 3) := by decide +kernel
theorem D_x_debtorsBehind_69 : decode M_x_debtorsBehind.2.1 69 = .ok (.iload_n 2, 1) := by decide +kernel
theorem D_x_debtorsBehind_70 : decode M_x_debtorsBehind.2.1 70 = .ok (.ireturn, 1) := by decide +kernel
theorem D_x_debtorsOf_0 : decode M_x_debtorsOf.2.1 0 = .ok (.iconst 0, 1) := by decide +kernel
theorem D_x_debtorsOf_1 : decode M_x_debtorsOf.2.1 1 = .ok (.istore_n 2, 1) := by decide +kernel
theorem D_x_debtorsOf_2 : decode M_x_debtorsOf.2.1 2 = .ok (.iconst 0, 1) := by decide +kernel
theorem D_x_debtorsOf_3 : decode M_x_debtorsOf.2.1 3 = .ok (.istore_n 3, 1) := by decide +kernel
theorem D_x_debtorsOf_4 : decode M_x_debtorsOf.2.1 4 = .ok (.iload_n 3, 1) := by decide +kernel
theorem D_x_debtorsOf_5 : decode M_x_debtorsOf.2.1 5 = .ok (.aload_n 0, 1) := by decide +kernel
theorem D_x_debtorsOf_6 : decode M_x_debtorsOf.2.1 6 = .ok (.getfield 19, 3) := by decide +kernel
theorem D_x_debtorsOf_9 : decode M_x_debtorsOf.2.1 9 = .ok (.getfield 177, 3) := by decide +kernel
theorem D_x_debtorsOf_12 : decode M_x_debtorsOf.2.1 12 = .ok (.if_icmp .ge 30, 3) := by decide +kernel
theorem D_x_debtorsOf_15 : decode M_x_debtorsOf.2.1 15 = .ok (.aload_n 0, 1) := by decide +kernel
theorem D_x_debtorsOf_16 : decode M_x_debtorsOf.2.1 16 = .ok (.getfield 29, 3) := by decide +kernel
theorem D_x_debtorsOf_19 : decode M_x_debtorsOf.2.1 19 = .ok (.iload_n 1, 1) := by decide +kernel
theorem D_x_debtorsOf_20 : decode M_x_debtorsOf.2.1 20 = .ok (.iload_n 3, 1) := by decide +kernel
theorem D_x_debtorsOf_21 : decode M_x_debtorsOf.2.1 21 = .ok (.invokestatic 148, 3) := by decide +kernel
theorem D_x_debtorsOf_24 : decode M_x_debtorsOf.2.1 24 = .ok (.invokevirtual 131, 3) := by decide +kernel
theorem D_x_debtorsOf_27 : decode M_x_debtorsOf.2.1 27 = .ok (.ifCond .le 9, 3) := by decide +kernel
theorem D_x_debtorsOf_30 : decode M_x_debtorsOf.2.1 30 = .ok (.iload_n 2, 1) := by decide +kernel
theorem D_x_debtorsOf_31 : decode M_x_debtorsOf.2.1 31 = .ok (.iconst 1, 1) := by decide +kernel
theorem D_x_debtorsOf_32 : decode M_x_debtorsOf.2.1 32 = .ok (.iload_n 3, 1) := by decide +kernel
theorem D_x_debtorsOf_33 : decode M_x_debtorsOf.2.1 33 = .ok (.ishl, 1) := by decide +kernel
theorem D_x_debtorsOf_34 : decode M_x_debtorsOf.2.1 34 = .ok (.ior, 1) := by decide +kernel
theorem D_x_debtorsOf_35 : decode M_x_debtorsOf.2.1 35 = .ok (.istore_n 2, 1) := by decide +kernel
theorem D_x_debtorsOf_36 : decode M_x_debtorsOf.2.1 36 = .ok (.iinc 3 1, 3) := by decide +kernel
theorem D_x_debtorsOf_39 : decode M_x_debtorsOf.2.1 39 = .ok (.goto (-35), 3) := by decide +kernel
theorem D_x_debtorsOf_42 : decode M_x_debtorsOf.2.1 42 = .ok (.iload_n 2, 1) := by decide +kernel
theorem D_x_debtorsOf_43 : decode M_x_debtorsOf.2.1 43 = .ok (.ireturn, 1) := by decide +kernel
theorem D_x_turnBehind_0 : decode M_x_turnBehind.2.1 0 = .ok (.aload_n 0, 1) := by decide +kernel
theorem D_x_turnBehind_1 : decode M_x_turnBehind.2.1 1 = .ok (.getfield 19, 3) := by decide +kernel
theorem D_x_turnBehind_4 : decode M_x_turnBehind.2.1 4 = .ok (.aload_n 0, 1) := by decide +kernel
theorem D_x_turnBehind_5 : decode M_x_turnBehind.2.1 5 = .ok (.getfield 29, 3) := by decide +kernel
theorem D_x_turnBehind_8 : decode M_x_turnBehind.2.1 8 = .ok (.iconst 0, 1) := by decide +kernel
theorem D_x_turnBehind_9 : decode M_x_turnBehind.2.1 9 = .ok (.invokevirtual 131, 3) := by decide +kernel
theorem D_x_turnBehind_12 : decode M_x_turnBehind.2.1 12 = .ok (.aload_n 0, 1) := by decide +kernel
theorem D_x_turnBehind_13 : decode M_x_turnBehind.2.1 13 = .ok (.getfield 19, 3) := by decide +kernel
theorem D_x_turnBehind_16 : decode M_x_turnBehind.2.1 16 = .ok (.iload_n 1, 1) := by decide +kernel
theorem D_x_turnBehind_17 : decode M_x_turnBehind.2.1 17 = .ok (.invokevirtual 193, 3) := by decide +kernel
theorem D_x_turnBehind_20 : decode M_x_turnBehind.2.1 20 = .ok (.iadd, 1) := by decide +kernel
theorem D_x_turnBehind_21 : decode M_x_turnBehind.2.1 21 = .ok (.invokevirtual 174, 3) := by decide +kernel
theorem D_x_turnBehind_24 : decode M_x_turnBehind.2.1 24 = .ok (.ireturn, 1) := by decide +kernel
theorem D_x_colourBehind_0 : decode M_x_colourBehind.2.1 0 = .ok (.aload_n 0, 1) := by decide +kernel
theorem D_x_colourBehind_1 : decode M_x_colourBehind.2.1 1 = .ok (.getfield 19, 3) := by decide +kernel
theorem D_x_colourBehind_4 : decode M_x_colourBehind.2.1 4 = .ok (.iload_n 1, 1) := by decide +kernel
theorem D_x_colourBehind_5 : decode M_x_colourBehind.2.1 5 = .ok (.aload_n 0, 1) := by decide +kernel
theorem D_x_colourBehind_6 : decode M_x_colourBehind.2.1 6 = .ok (.iload_n 2, 1) := by decide +kernel
theorem D_x_colourBehind_7 : decode M_x_colourBehind.2.1 7 = .ok (.invokevirtual 161, 3) := by decide +kernel
theorem D_x_colourBehind_10 : decode M_x_colourBehind.2.1 10 = .ok (.aload_n 0, 1) := by decide +kernel
theorem D_x_colourBehind_11 : decode M_x_colourBehind.2.1 11 = .ok (.getfield 29, 3) := by decide +kernel
theorem D_x_colourBehind_14 : decode M_x_colourBehind.2.1 14 = .ok (.iconst 1, 1) := by decide +kernel
theorem D_x_colourBehind_15 : decode M_x_colourBehind.2.1 15 = .ok (.invokevirtual 131, 3) := by decide +kernel
theorem D_x_colourBehind_18 : decode M_x_colourBehind.2.1 18 = .ok (.iadd, 1) := by decide +kernel
theorem D_x_colourBehind_19 : decode M_x_colourBehind.2.1 19 = .ok (.invokevirtual 271, 3) := by decide +kernel
theorem D_x_colourBehind_22 : decode M_x_colourBehind.2.1 22 = .ok (.ireturn, 1) := by decide +kernel
theorem D_x_speedsFor_0 : decode M_x_speedsFor.2.1 0 = .ok (.iconst 0, 1) := by decide +kernel
theorem D_x_speedsFor_1 : decode M_x_speedsFor.2.1 1 = .ok (.istore 4, 2) := by decide +kernel
theorem D_x_speedsFor_3 : decode M_x_speedsFor.2.1 3 = .ok (.iconst 1, 1) := by decide +kernel
theorem D_x_speedsFor_4 : decode M_x_speedsFor.2.1 4 = .ok (.istore 5, 2) := by decide +kernel
theorem D_x_speedsFor_6 : decode M_x_speedsFor.2.1 6 = .ok (.iload 5, 2) := by decide +kernel
theorem D_x_speedsFor_8 : decode M_x_speedsFor.2.1 8 = .ok (.iload_n 3, 1) := by decide +kernel
theorem D_x_speedsFor_9 : decode M_x_speedsFor.2.1 9 = .ok (.if_icmp .gt 23, 3) := by decide +kernel
theorem D_x_speedsFor_12 : decode M_x_speedsFor.2.1 12 = .ok (.aload_n 0, 1) := by decide +kernel
theorem D_x_speedsFor_13 : decode M_x_speedsFor.2.1 13 = .ok (.iload_n 1, 1) := by decide +kernel
theorem D_x_speedsFor_14 : decode M_x_speedsFor.2.1 14 = .ok (.iload 5, 2) := by decide +kernel
theorem D_x_speedsFor_16 : decode M_x_speedsFor.2.1 16 = .ok (.invokevirtual 196, 3) := by decide +kernel
theorem D_x_speedsFor_19 : decode M_x_speedsFor.2.1 19 = .ok (.iload_n 2, 1) := by decide +kernel
theorem D_x_speedsFor_20 : decode M_x_speedsFor.2.1 20 = .ok (.if_icmp .ne 6, 3) := by decide +kernel
theorem D_x_speedsFor_23 : decode M_x_speedsFor.2.1 23 = .ok (.iinc 4 1, 3) := by decide +kernel
theorem D_x_speedsFor_26 : decode M_x_speedsFor.2.1 26 = .ok (.iinc 5 1, 3) := by decide +kernel
theorem D_x_speedsFor_29 : decode M_x_speedsFor.2.1 29 = .ok (.goto (-23), 3) := by decide +kernel
theorem D_x_speedsFor_32 : decode M_x_speedsFor.2.1 32 = .ok (.iload 4, 2) := by decide +kernel
theorem D_x_speedsFor_34 : decode M_x_speedsFor.2.1 34 = .ok (.ireturn, 1) := by decide +kernel
theorem D_x_leastSpeedFor_0 : decode M_x_leastSpeedFor.2.1 0 = .ok (.iconst 1, 1) := by decide +kernel
theorem D_x_leastSpeedFor_1 : decode M_x_leastSpeedFor.2.1 1 = .ok (.istore_n 3, 1) := by decide +kernel
theorem D_x_leastSpeedFor_2 : decode M_x_leastSpeedFor.2.1 2 = .ok (.iload_n 3, 1) := by decide +kernel
theorem D_x_leastSpeedFor_3 : decode M_x_leastSpeedFor.2.1 3 = .ok (.bipush 60, 2) := by decide +kernel
theorem D_x_leastSpeedFor_5 : decode M_x_leastSpeedFor.2.1 5 = .ok (.if_icmp .gt 21, 3) := by decide +kernel
theorem D_x_leastSpeedFor_8 : decode M_x_leastSpeedFor.2.1 8 = .ok (.aload_n 0, 1) := by decide +kernel
theorem D_x_leastSpeedFor_9 : decode M_x_leastSpeedFor.2.1 9 = .ok (.iload_n 1, 1) := by decide +kernel
theorem D_x_leastSpeedFor_10 : decode M_x_leastSpeedFor.2.1 10 = .ok (.iload_n 3, 1) := by decide +kernel
theorem D_x_leastSpeedFor_11 : decode M_x_leastSpeedFor.2.1 11 = .ok (.invokevirtual 196, 3) := by decide +kernel
theorem D_x_leastSpeedFor_14 : decode M_x_leastSpeedFor.2.1 14 = .ok (.iload_n 2, 1) := by decide +kernel
theorem D_x_leastSpeedFor_15 : decode M_x_leastSpeedFor.2.1 15 = .ok (.if_icmp .ne 5, 3) := by decide +kernel
theorem D_x_leastSpeedFor_18 : decode M_x_leastSpeedFor.2.1 18 = .ok (.iload_n 3, 1) := by decide +kernel
theorem D_x_leastSpeedFor_19 : decode M_x_leastSpeedFor.2.1 19 = .ok (.ireturn, 1) := by decide +kernel
theorem D_x_leastSpeedFor_20 : decode M_x_leastSpeedFor.2.1 20 = .ok (.iinc 3 1, 3) := by decide +kernel
theorem D_x_leastSpeedFor_23 : decode M_x_leastSpeedFor.2.1 23 = .ok (.goto (-21), 3) := by decide +kernel
theorem D_x_leastSpeedFor_26 : decode M_x_leastSpeedFor.2.1 26 = .ok (.bipush (-9), 2) := by decide +kernel
theorem D_x_leastSpeedFor_28 : decode M_x_leastSpeedFor.2.1 28 = .ok (.ireturn, 1) := by decide +kernel
theorem D_x_commonDivisor_0 : decode M_x_commonDivisor.2.1 0 = .ok (.iload_n 0, 1) := by decide +kernel
theorem D_x_commonDivisor_1 : decode M_x_commonDivisor.2.1 1 = .ok (.istore_n 2, 1) := by decide +kernel
theorem D_x_commonDivisor_2 : decode M_x_commonDivisor.2.1 2 = .ok (.iload_n 1, 1) := by decide +kernel
theorem D_x_commonDivisor_3 : decode M_x_commonDivisor.2.1 3 = .ok (.istore_n 3, 1) := by decide +kernel
theorem D_x_commonDivisor_4 : decode M_x_commonDivisor.2.1 4 = .ok (.iconst 0, 1) := by decide +kernel
theorem D_x_commonDivisor_5 : decode M_x_commonDivisor.2.1 5 = .ok (.istore 4, 2) := by decide +kernel
theorem D_x_commonDivisor_7 : decode M_x_commonDivisor.2.1 7 = .ok (.iload 4, 2) := by decide +kernel
theorem D_x_commonDivisor_9 : decode M_x_commonDivisor.2.1 9 = .ok (.bipush 64, 2) := by decide +kernel
theorem D_x_commonDivisor_11 : decode M_x_commonDivisor.2.1 11 = .ok (.if_icmp .ge 23, 3) := by decide +kernel
theorem D_x_commonDivisor_14 : decode M_x_commonDivisor.2.1 14 = .ok (.iload_n 3, 1) := by decide +kernel
theorem D_x_commonDivisor_15 : decode M_x_commonDivisor.2.1 15 = .ok (.ifCond .le 19, 3) := by decide +kernel
theorem D_x_commonDivisor_18 : decode M_x_commonDivisor.2.1 18 = .ok (.iload_n 2, 1) := by decide +kernel
theorem D_x_commonDivisor_19 : decode M_x_commonDivisor.2.1 19 = .ok (.iload_n 3, 1) := by decide +kernel
theorem D_x_commonDivisor_20 : decode M_x_commonDivisor.2.1 20 = .ok (.irem, 1) := by decide +kernel
theorem D_x_commonDivisor_21 : decode M_x_commonDivisor.2.1 21 = .ok (.istore 5, 2) := by decide +kernel
theorem D_x_commonDivisor_23 : decode M_x_commonDivisor.2.1 23 = .ok (.iload_n 3, 1) := by decide +kernel
theorem D_x_commonDivisor_24 : decode M_x_commonDivisor.2.1 24 = .ok (.istore_n 2, 1) := by decide +kernel
theorem D_x_commonDivisor_25 : decode M_x_commonDivisor.2.1 25 = .ok (.iload 5, 2) := by decide +kernel
theorem D_x_commonDivisor_27 : decode M_x_commonDivisor.2.1 27 = .ok (.istore_n 3, 1) := by decide +kernel
theorem D_x_commonDivisor_28 : decode M_x_commonDivisor.2.1 28 = .ok (.iinc 4 1, 3) := by decide +kernel
theorem D_x_commonDivisor_31 : decode M_x_commonDivisor.2.1 31 = .ok (.goto (-24), 3) := by decide +kernel
theorem D_x_commonDivisor_34 : decode M_x_commonDivisor.2.1 34 = .ok (.iload_n 2, 1) := by decide +kernel
theorem D_x_commonDivisor_35 : decode M_x_commonDivisor.2.1 35 = .ok (.ireturn, 1) := by decide +kernel
theorem D_x_seatAll_0 : decode M_x_seatAll.2.1 0 = .ok (.aload_n 0, 1) := by decide +kernel
theorem D_x_seatAll_1 : decode M_x_seatAll.2.1 1 = .ok (.getfield 90, 3) := by decide +kernel
theorem D_x_seatAll_4 : decode M_x_seatAll.2.1 4 = .ok (.iconst 0, 1) := by decide +kernel
theorem D_x_seatAll_5 : decode M_x_seatAll.2.1 5 = .ok (.invokestatic 289, 3) := by decide +kernel
theorem D_x_seatAll_8 : decode M_x_seatAll.2.1 8 = .ok (.aload_n 0, 1) := by decide +kernel
theorem D_x_seatAll_9 : decode M_x_seatAll.2.1 9 = .ok (.getfield 93, 3) := by decide +kernel
theorem D_x_seatAll_12 : decode M_x_seatAll.2.1 12 = .ok (.iconst 0, 1) := by decide +kernel
theorem D_x_seatAll_13 : decode M_x_seatAll.2.1 13 = .ok (.invokestatic 289, 3) := by decide +kernel
theorem D_x_seatAll_16 : decode M_x_seatAll.2.1 16 = .ok (.iconst 0, 1) := by decide +kernel
theorem D_x_seatAll_17 : decode M_x_seatAll.2.1 17 = .ok (.istore_n 2, 1) := by decide +kernel
theorem D_x_seatAll_18 : decode M_x_seatAll.2.1 18 = .ok (.iload_n 2, 1) := by decide +kernel
theorem D_x_seatAll_19 : decode M_x_seatAll.2.1 19 = .ok (.aload_n 0, 1) := by decide +kernel
theorem D_x_seatAll_20 : decode M_x_seatAll.2.1 20 = .ok (.getfield 19, 3) := by decide +kernel
theorem D_x_seatAll_23 : decode M_x_seatAll.2.1 23 = .ok (.getfield 155, 3) := by decide +kernel
theorem D_x_seatAll_26 : decode M_x_seatAll.2.1 26 = .ok (.if_icmp .ge 24, 3) := by decide +kernel
theorem D_x_seatAll_29 : decode M_x_seatAll.2.1 29 = .ok (.aload_n 0, 1) := by decide +kernel
theorem D_x_seatAll_30 : decode M_x_seatAll.2.1 30 = .ok (.getfield 90, 3) := by decide +kernel
theorem D_x_seatAll_33 : decode M_x_seatAll.2.1 33 = .ok (.aload_n 0, 1) := by decide +kernel
theorem D_x_seatAll_34 : decode M_x_seatAll.2.1 34 = .ok (.iload_n 2, 1) := by decide +kernel
theorem D_x_seatAll_35 : decode M_x_seatAll.2.1 35 = .ok (.iload_n 1, 1) := by decide +kernel
theorem D_x_seatAll_36 : decode M_x_seatAll.2.1 36 = .ok (.invokevirtual 196, 3) := by decide +kernel
theorem D_x_seatAll_39 : decode M_x_seatAll.2.1 39 = .ok (.dup2, 1) := by decide +kernel
theorem D_x_seatAll_40 : decode M_x_seatAll.2.1 40 = .ok (.iaload, 1) := by decide +kernel
theorem D_x_seatAll_41 : decode M_x_seatAll.2.1 41 = .ok (.iconst 1, 1) := by decide +kernel
theorem D_x_seatAll_42 : decode M_x_seatAll.2.1 42 = .ok (.iadd, 1) := by decide +kernel
theorem D_x_seatAll_43 : decode M_x_seatAll.2.1 43 = .ok (.iastore, 1) := by decide +kernel
theorem D_x_seatAll_44 : decode M_x_seatAll.2.1 44 = .ok (.iinc 2 1, 3) := by decide +kernel
theorem D_x_seatAll_47 : decode M_x_seatAll.2.1 47 = .ok (.goto (-29), 3) := by decide +kernel
theorem D_x_seatAll_50 : decode M_x_seatAll.2.1 50 = .ok (.iconst 0, 1) := by decide +kernel
theorem D_x_seatAll_51 : decode M_x_seatAll.2.1 51 = .ok (.istore_n 2, 1) := by decide +kernel
theorem D_x_seatAll_52 : decode M_x_seatAll.2.1 52 = .ok (.iload_n 2, 1) := by decide +kernel
theorem D_x_seatAll_53 : decode M_x_seatAll.2.1 53 = .ok (.aload_n 0, 1) := by decide +kernel
theorem D_x_seatAll_54 : decode M_x_seatAll.2.1 54 = .ok (.getfield 19, 3) := by decide +kernel
theorem D_x_seatAll_57 : decode M_x_seatAll.2.1 57 = .ok (.getfield 177, 3) := by decide +kernel
theorem D_x_seatAll_60 : decode M_x_seatAll.2.1 60 = .ok (.if_icmp .ge 27, 3) := by decide +kernel
theorem D_x_seatAll_63 : decode M_x_seatAll.2.1 63 = .ok (.aload_n 0, 1) := by decide +kernel
theorem D_x_seatAll_64 : decode M_x_seatAll.2.1 64 = .ok (.getfield 93, 3) := by decide +kernel
theorem D_x_seatAll_67 : decode M_x_seatAll.2.1 67 = .ok (.aload_n 0, 1) := by decide +kernel
theorem D_x_seatAll_68 : decode M_x_seatAll.2.1 68 = .ok (.getfield 19, 3) := by decide +kernel
theorem D_x_seatAll_71 : decode M_x_seatAll.2.1 71 = .ok (.getfield 135, 3) := by decide +kernel
theorem D_x_seatAll_74 : decode M_x_seatAll.2.1 74 = .ok (.iload_n 2, 1) := by decide +kernel
theorem D_x_seatAll_75 : decode M_x_seatAll.2.1 75 = .ok (.iaload, 1) := by decide +kernel
theorem D_x_seatAll_76 : decode M_x_seatAll.2.1 76 = .ok (.dup2, 1) := by decide +kernel
theorem D_x_seatAll_77 : decode M_x_seatAll.2.1 77 = .ok (.iaload, 1) := by decide +kernel
theorem D_x_seatAll_78 : decode M_x_seatAll.2.1 78 = .ok (.iconst 1, 1) := by decide +kernel
theorem D_x_seatAll_79 : decode M_x_seatAll.2.1 79 = .ok (.iadd, 1) := by decide +kernel
theorem D_x_seatAll_80 : decode M_x_seatAll.2.1 80 = .ok (.iastore, 1) := by decide +kernel
theorem D_x_seatAll_81 : decode M_x_seatAll.2.1 81 = .ok (.iinc 2 1, 3) := by decide +kernel
theorem D_x_seatAll_84 : decode M_x_seatAll.2.1 84 = .ok (.goto (-32), 3) := by decide +kernel
theorem D_x_seatAll_87 : decode M_x_seatAll.2.1 87 = .ok (.aload_n 0, 1) := by decide +kernel
theorem D_x_seatAll_88 : decode M_x_seatAll.2.1 88 = .ok (.invokevirtual 295, 3) := by decide +kernel
theorem D_x_seatAll_91 : decode M_x_seatAll.2.1 91 = .ok (.istore_n 2, 1) := by decide +kernel
theorem D_x_seatAll_92 : decode M_x_seatAll.2.1 92 = .ok (.iload_n 2, 1) := by decide +kernel
theorem D_x_seatAll_93 : decode M_x_seatAll.2.1 93 = .ok (.istore_n 3, 1) := by decide +kernel
theorem D_x_seatAll_94 : decode M_x_seatAll.2.1 94 = .ok (.iconst 0, 1) := by decide +kernel
theorem D_x_seatAll_95 : decode M_x_seatAll.2.1 95 = .ok (.istore 4, 2) := by decide +kernel
theorem D_x_seatAll_97 : decode M_x_seatAll.2.1 97 = .ok (.iconst 0, 1) := by decide +kernel
theorem D_x_seatAll_98 : decode M_x_seatAll.2.1 98 = .ok (.istore 5, 2) := by decide +kernel
theorem D_x_seatAll_100 : decode M_x_seatAll.2.1 100 = .ok (.iload 5, 2) := by decide +kernel
theorem D_x_seatAll_102 : decode M_x_seatAll.2.1 102 = .ok (.aload_n 0, 1) := by decide +kernel
theorem D_x_seatAll_103 : decode M_x_seatAll.2.1 103 = .ok (.getfield 19, 3) := by decide +kernel
theorem D_x_seatAll_106 : decode M_x_seatAll.2.1 106 = .ok (.getfield 177, 3) := by decide +kernel
theorem D_x_seatAll_109 : decode M_x_seatAll.2.1 109 = .ok (.if_icmp .ge 81, 3) := by decide +kernel
theorem D_x_seatAll_112 : decode M_x_seatAll.2.1 112 = .ok (.aload_n 0, 1) := by decide +kernel
theorem D_x_seatAll_113 : decode M_x_seatAll.2.1 113 = .ok (.getfield 93, 3) := by decide +kernel
theorem D_x_seatAll_116 : decode M_x_seatAll.2.1 116 = .ok (.aload_n 0, 1) := by decide +kernel
theorem D_x_seatAll_117 : decode M_x_seatAll.2.1 117 = .ok (.getfield 19, 3) := by decide +kernel
theorem D_x_seatAll_120 : decode M_x_seatAll.2.1 120 = .ok (.getfield 135, 3) := by decide +kernel
theorem D_x_seatAll_123 : decode M_x_seatAll.2.1 123 = .ok (.iload 5, 2) := by decide +kernel
theorem D_x_seatAll_125 : decode M_x_seatAll.2.1 125 = .ok (.iaload, 1) := by decide +kernel
theorem D_x_seatAll_126 : decode M_x_seatAll.2.1 126 = .ok (.dup2, 1) := by decide +kernel
theorem D_x_seatAll_127 : decode M_x_seatAll.2.1 127 = .ok (.iaload, 1) := by decide +kernel
theorem D_x_seatAll_128 : decode M_x_seatAll.2.1 128 = .ok (.iconst 1, 1) := by decide +kernel
theorem D_x_seatAll_129 : decode M_x_seatAll.2.1 129 = .ok (.isub, 1) := by decide +kernel
theorem D_x_seatAll_130 : decode M_x_seatAll.2.1 130 = .ok (.iastore, 1) := by decide +kernel
theorem D_x_seatAll_131 : decode M_x_seatAll.2.1 131 = .ok (.aload_n 0, 1) := by decide +kernel
theorem D_x_seatAll_132 : decode M_x_seatAll.2.1 132 = .ok (.iload 5, 2) := by decide +kernel
theorem D_x_seatAll_134 : decode M_x_seatAll.2.1 134 = .ok (.iload_n 1, 1) := by decide +kernel
theorem D_x_seatAll_135 : decode M_x_seatAll.2.1 135 = .ok (.iload 4, 2) := by decide +kernel
theorem D_x_seatAll_137 : decode M_x_seatAll.2.1 137 = .ok (.iload_n 3, 1) := by decide +kernel
theorem D_x_seatAll_138 : decode M_x_seatAll.2.1 138 = .ok (.invokevirtual 298, 3) := by decide +kernel
theorem D_x_seatAll_141 : decode M_x_seatAll.2.1 141 = .ok (.istore 6, 2) := by decide +kernel
theorem D_x_seatAll_143 : decode M_x_seatAll.2.1 143 = .ok (.aload_n 0, 1) := by decide +kernel
theorem D_x_seatAll_144 : decode M_x_seatAll.2.1 144 = .ok (.getfield 96, 3) := by decide +kernel
theorem D_x_seatAll_147 : decode M_x_seatAll.2.1 147 = .ok (.iload 5, 2) := by decide +kernel
theorem D_x_seatAll_149 : decode M_x_seatAll.2.1 149 = .ok (.iload 6, 2) := by decide +kernel
theorem D_x_seatAll_151 : decode M_x_seatAll.2.1 151 = .ok (.iastore, 1) := by decide +kernel
theorem D_x_seatAll_152 : decode M_x_seatAll.2.1 152 = .ok (.iload 4, 2) := by decide +kernel
theorem D_x_seatAll_154 : decode M_x_seatAll.2.1 154 = .ok (.iconst 1, 1) := by decide +kernel
theorem D_x_seatAll_155 : decode M_x_seatAll.2.1 155 = .ok (.iload 6, 2) := by decide +kernel
theorem D_x_seatAll_157 : decode M_x_seatAll.2.1 157 = .ok (.ishl, 1) := by decide +kernel
theorem D_x_seatAll_158 : decode M_x_seatAll.2.1 158 = .ok (.ior, 1) := by decide +kernel
theorem D_x_seatAll_159 : decode M_x_seatAll.2.1 159 = .ok (.istore 4, 2) := by decide +kernel
theorem D_x_seatAll_161 : decode M_x_seatAll.2.1 161 = .ok (.aload_n 0, 1) := by decide +kernel
theorem D_x_seatAll_162 : decode M_x_seatAll.2.1 162 = .ok (.iload 6, 2) := by decide +kernel
theorem D_x_seatAll_164 : decode M_x_seatAll.2.1 164 = .ok (.iload_n 1, 1) := by decide +kernel
theorem D_x_seatAll_165 : decode M_x_seatAll.2.1 165 = .ok (.invokevirtual 196, 3) := by decide +kernel
theorem D_x_seatAll_168 : decode M_x_seatAll.2.1 168 = .ok (.aload_n 0, 1) := by decide +kernel
theorem D_x_seatAll_169 : decode M_x_seatAll.2.1 169 = .ok (.getfield 19, 3) := by decide +kernel
theorem D_x_seatAll_172 : decode M_x_seatAll.2.1 172 = .ok (.getfield 135, 3) := by decide +kernel
theorem D_x_seatAll_175 : decode M_x_seatAll.2.1 175 = .ok (.iload 5, 2) := by decide +kernel
theorem D_x_seatAll_177 : decode M_x_seatAll.2.1 177 = .ok (.iaload, 1) := by decide +kernel
theorem D_x_seatAll_178 : decode M_x_seatAll.2.1 178 = .ok (.if_icmp .ne 6, 3) := by decide +kernel
theorem D_x_seatAll_181 : decode M_x_seatAll.2.1 181 = .ok (.iinc 3 (-1), 3) := by decide +kernel
theorem D_x_seatAll_184 : decode M_x_seatAll.2.1 184 = .ok (.iinc 5 1, 3) := by decide +kernel
theorem D_x_seatAll_187 : decode M_x_seatAll.2.1 187 = .ok (.goto (-87), 3) := by decide +kernel
theorem D_x_seatAll_190 : decode M_x_seatAll.2.1 190 = .ok (.iload_n 2, 1) := by decide +kernel
theorem D_x_seatAll_191 : decode M_x_seatAll.2.1 191 = .ok (.ireturn, 1) := by decide +kernel
theorem D_x_lowestSeat_0 : decode M_x_lowestSeat.2.1 0 = .ok (.iconst 0, 1) := by decide +kernel
theorem D_x_lowestSeat_1 : decode M_x_lowestSeat.2.1 1 = .ok (.istore 5, 2) := by decide +kernel
theorem D_x_lowestSeat_3 : decode M_x_lowestSeat.2.1 3 = .ok (.iload 5, 2) := by decide +kernel
theorem D_x_lowestSeat_5 : decode M_x_lowestSeat.2.1 5 = .ok (.aload_n 0, 1) := by decide +kernel
theorem D_x_lowestSeat_6 : decode M_x_lowestSeat.2.1 6 = .ok (.getfield 19, 3) := by decide +kernel
theorem D_x_lowestSeat_9 : decode M_x_lowestSeat.2.1 9 = .ok (.getfield 155, 3) := by decide +kernel
theorem D_x_lowestSeat_12 : decode M_x_lowestSeat.2.1 12 = .ok (.if_icmp .ge 85, 3) := by decide +kernel
theorem D_x_lowestSeat_15 : decode M_x_lowestSeat.2.1 15 = .ok (.iload_n 3, 1) := by decide +kernel
theorem D_x_lowestSeat_16 : decode M_x_lowestSeat.2.1 16 = .ok (.iload 5, 2) := by decide +kernel
theorem D_x_lowestSeat_18 : decode M_x_lowestSeat.2.1 18 = .ok (.ishr, 1) := by decide +kernel
theorem D_x_lowestSeat_19 : decode M_x_lowestSeat.2.1 19 = .ok (.iconst 1, 1) := by decide +kernel
theorem D_x_lowestSeat_20 : decode M_x_lowestSeat.2.1 20 = .ok (.iand, 1) := by decide +kernel
theorem D_x_lowestSeat_21 : decode M_x_lowestSeat.2.1 21 = .ok (.ifCond .ne 70, 3) := by decide +kernel
theorem D_x_lowestSeat_24 : decode M_x_lowestSeat.2.1 24 = .ok (.aload_n 0, 1) := by decide +kernel
theorem D_x_lowestSeat_25 : decode M_x_lowestSeat.2.1 25 = .ok (.iload 5, 2) := by decide +kernel
theorem D_x_lowestSeat_27 : decode M_x_lowestSeat.2.1 27 = .ok (.iload_n 2, 1) := by decide +kernel
theorem D_x_lowestSeat_28 : decode M_x_lowestSeat.2.1 28 = .ok (.invokevirtual 196, 3) := by decide +kernel
theorem D_x_lowestSeat_31 : decode M_x_lowestSeat.2.1 31 = .ok (.istore 6, 2) := by decide +kernel
theorem D_x_lowestSeat_33 : decode M_x_lowestSeat.2.1 33 = .ok (.iload 6, 2) := by decide +kernel
theorem D_x_lowestSeat_35 : decode M_x_lowestSeat.2.1 35 = .ok (.aload_n 0, 1) := by decide +kernel
theorem D_x_lowestSeat_36 : decode M_x_lowestSeat.2.1 36 = .ok (.getfield 19, 3) := by decide +kernel
theorem D_x_lowestSeat_39 : decode M_x_lowestSeat.2.1 39 = .ok (.getfield 135, 3) := by decide +kernel
theorem D_x_lowestSeat_42 : decode M_x_lowestSeat.2.1 42 = .ok (.iload_n 1, 1) := by decide +kernel
theorem D_x_lowestSeat_43 : decode M_x_lowestSeat.2.1 43 = .ok (.iaload, 1) := by decide +kernel
theorem D_x_lowestSeat_44 : decode M_x_lowestSeat.2.1 44 = .ok (.if_icmp .ne 7, 3) := by decide +kernel
theorem D_x_lowestSeat_47 : decode M_x_lowestSeat.2.1 47 = .ok (.iconst 1, 1) := by decide +kernel
theorem D_x_lowestSeat_48 : decode M_x_lowestSeat.2.1 48 = .ok (.goto 4, 3) := by decide +kernel
theorem D_x_lowestSeat_51 : decode M_x_lowestSeat.2.1 51 = .ok (.iconst 0, 1) := by decide +kernel
theorem D_x_lowestSeat_52 : decode M_x_lowestSeat.2.1 52 = .ok (.istore 7, 2) := by decide +kernel
theorem D_x_lowestSeat_54 : decode M_x_lowestSeat.2.1 54 = .ok (.aload_n 0, 1) := by decide +kernel
theorem D_x_lowestSeat_55 : decode M_x_lowestSeat.2.1 55 = .ok (.getfield 90, 3) := by decide +kernel
theorem D_x_lowestSeat_58 : decode M_x_lowestSeat.2.1 58 = .ok (.iload 6, 2) := by decide +kernel
theorem D_x_lowestSeat_60 : decode M_x_lowestSeat.2.1 60 = .ok (.dup2, 1) := by decide +kernel
theorem D_x_lowestSeat_61 : decode M_x_lowestSeat.2.1 61 = .ok (.iaload, 1) := by decide +kernel
theorem D_x_lowestSeat_62 : decode M_x_lowestSeat.2.1 62 = .ok (.iconst 1, 1) := by decide +kernel
theorem D_x_lowestSeat_63 : decode M_x_lowestSeat.2.1 63 = .ok (.isub, 1) := by decide +kernel
theorem D_x_lowestSeat_64 : decode M_x_lowestSeat.2.1 64 = .ok (.iastore, 1) := by decide +kernel
theorem D_x_lowestSeat_65 : decode M_x_lowestSeat.2.1 65 = .ok (.iload 7, 2) := by decide +kernel
theorem D_x_lowestSeat_67 : decode M_x_lowestSeat.2.1 67 = .ok (.aload_n 0, 1) := by decide +kernel
theorem D_x_lowestSeat_68 : decode M_x_lowestSeat.2.1 68 = .ok (.invokevirtual 295, 3) := by decide +kernel
theorem D_x_lowestSeat_71 : decode M_x_lowestSeat.2.1 71 = .ok (.iadd, 1) := by decide +kernel
theorem D_x_lowestSeat_72 : decode M_x_lowestSeat.2.1 72 = .ok (.iload 4, 2) := by decide +kernel
theorem D_x_lowestSeat_74 : decode M_x_lowestSeat.2.1 74 = .ok (.if_icmp .ne 6, 3) := by decide +kernel
theorem D_x_lowestSeat_77 : decode M_x_lowestSeat.2.1 77 = .ok (.iload 5, 2) := by decide +kernel
theorem D_x_lowestSeat_79 : decode M_x_lowestSeat.2.1 79 = .ok (.ireturn, 1) := by decide +kernel
theorem D_x_lowestSeat_80 : decode M_x_lowestSeat.2.1 80 = .ok (.aload_n 0, 1) := by decide +kernel
theorem D_x_lowestSeat_81 : decode M_x_lowestSeat.2.1 81 = .ok (.getfield 90, 3) := by decide +kernel
theorem D_x_lowestSeat_84 : decode M_x_lowestSeat.2.1 84 = .ok (.iload 6, 2) := by decide +kernel
theorem D_x_lowestSeat_86 : decode M_x_lowestSeat.2.1 86 = .ok (.dup2, 1) := by decide +kernel
theorem D_x_lowestSeat_87 : decode M_x_lowestSeat.2.1 87 = .ok (.iaload, 1) := by decide +kernel
theorem D_x_lowestSeat_88 : decode M_x_lowestSeat.2.1 88 = .ok (.iconst 1, 1) := by decide +kernel
theorem D_x_lowestSeat_89 : decode M_x_lowestSeat.2.1 89 = .ok (.iadd, 1) := by decide +kernel
theorem D_x_lowestSeat_90 : decode M_x_lowestSeat.2.1 90 = .ok (.iastore, 1) := by decide +kernel
theorem D_x_lowestSeat_91 : decode M_x_lowestSeat.2.1 91 = .ok (.iinc 5 1, 3) := by decide +kernel
theorem D_x_lowestSeat_94 : decode M_x_lowestSeat.2.1 94 = .ok (.goto (-91), 3) := by decide +kernel
theorem D_x_lowestSeat_97 : decode M_x_lowestSeat.2.1 97 = .ok (.iconst 0, 1) := by decide +kernel
theorem D_x_lowestSeat_98 : decode M_x_lowestSeat.2.1 98 = .ok (.ireturn, 1) := by decide +kernel
theorem D_x_mostServed_0 : decode M_x_mostServed.2.1 0 = .ok (.iconst 0, 1) := by decide +kernel
theorem D_x_mostServed_1 : decode M_x_mostServed.2.1 1 = .ok (.istore_n 1, 1) := by decide +kernel
theorem D_x_mostServed_2 : decode M_x_mostServed.2.1 2 = .ok (.iconst 0, 1) := by decide +kernel
theorem D_x_mostServed_3 : decode M_x_mostServed.2.1 3 = .ok (.istore_n 2, 1) := by decide +kernel
theorem D_x_mostServed_4 : decode M_x_mostServed.2.1 4 = .ok (.iload_n 2, 1) := by decide +kernel
theorem D_x_mostServed_5 : decode M_x_mostServed.2.1 5 = .ok (.bipush 6, 2) := by decide +kernel
theorem D_x_mostServed_7 : decode M_x_mostServed.2.1 7 = .ok (.if_icmp .ge 27, 3) := by decide +kernel
theorem D_x_mostServed_10 : decode M_x_mostServed.2.1 10 = .ok (.iload_n 1, 1) := by decide +kernel
theorem D_x_mostServed_11 : decode M_x_mostServed.2.1 11 = .ok (.aload_n 0, 1) := by decide +kernel
theorem D_x_mostServed_12 : decode M_x_mostServed.2.1 12 = .ok (.getfield 90, 3) := by decide +kernel
theorem D_x_mostServed_15 : decode M_x_mostServed.2.1 15 = .ok (.iload_n 2, 1) := by decide +kernel
theorem D_x_mostServed_16 : decode M_x_mostServed.2.1 16 = .ok (.iaload, 1) := by decide +kernel
theorem D_x_mostServed_17 : decode M_x_mostServed.2.1 17 = .ok (.aload_n 0, 1) := by decide +kernel
theorem D_x_mostServed_18 : decode M_x_mostServed.2.1 18 = .ok (.getfield 93, 3) := by decide +kernel
theorem D_x_mostServed_21 : decode M_x_mostServed.2.1 21 = .ok (.iload_n 2, 1) := by decide +kernel
theorem D_x_mostServed_22 : decode M_x_mostServed.2.1 22 = .ok (.iaload, 1) := by decide +kernel
theorem D_x_mostServed_23 : decode M_x_mostServed.2.1 23 = .ok (.invokestatic 278, 3) := by decide +kernel
theorem D_x_mostServed_26 : decode M_x_mostServed.2.1 26 = .ok (.iadd, 1) := by decide +kernel
theorem D_x_mostServed_27 : decode M_x_mostServed.2.1 27 = .ok (.istore_n 1, 1) := by decide +kernel
theorem D_x_mostServed_28 : decode M_x_mostServed.2.1 28 = .ok (.iinc 2 1, 3) := by decide +kernel
theorem D_x_mostServed_31 : decode M_x_mostServed.2.1 31 = .ok (.goto (-27), 3) := by decide +kernel
theorem D_x_mostServed_34 : decode M_x_mostServed.2.1 34 = .ok (.iload_n 1, 1) := by decide +kernel
theorem D_x_mostServed_35 : decode M_x_mostServed.2.1 35 = .ok (.ireturn, 1) := by decide +kernel
theorem D_x_isAsSeen_0 : decode M_x_isAsSeen.2.1 0 = .ok (.iconst 0, 1) := by decide +kernel
theorem D_x_isAsSeen_1 : decode M_x_isAsSeen.2.1 1 = .ok (.istore_n 2, 1) := by decide +kernel
theorem D_x_isAsSeen_2 : decode M_x_isAsSeen.2.1 2 = .ok (.iload_n 2, 1) := by decide +kernel
theorem D_x_isAsSeen_3 : decode M_x_isAsSeen.2.1 3 = .ok (.aload_n 0, 1) := by decide +kernel
theorem D_x_isAsSeen_4 : decode M_x_isAsSeen.2.1 4 = .ok (.getfield 44, 3) := by decide +kernel
theorem D_x_isAsSeen_7 : decode M_x_isAsSeen.2.1 7 = .ok (.getfield 119, 3) := by decide +kernel
theorem D_x_isAsSeen_10 : decode M_x_isAsSeen.2.1 10 = .ok (.if_icmp .ge 37, 3) := by decide +kernel
theorem D_x_isAsSeen_13 : decode M_x_isAsSeen.2.1 13 = .ok (.aload_n 0, 1) := by decide +kernel
theorem D_x_isAsSeen_14 : decode M_x_isAsSeen.2.1 14 = .ok (.aload_n 0, 1) := by decide +kernel
theorem D_x_isAsSeen_15 : decode M_x_isAsSeen.2.1 15 = .ok (.getfield 44, 3) := by decide +kernel
theorem D_x_isAsSeen_18 : decode M_x_isAsSeen.2.1 18 = .ok (.getfield 302, 3) := by decide +kernel
theorem D_x_isAsSeen_21 : decode M_x_isAsSeen.2.1 21 = .ok (.iload_n 2, 1) := by decide +kernel
theorem D_x_isAsSeen_22 : decode M_x_isAsSeen.2.1 22 = .ok (.iaload, 1) := by decide +kernel
theorem D_x_isAsSeen_23 : decode M_x_isAsSeen.2.1 23 = .ok (.iload_n 1, 1) := by decide +kernel
theorem D_x_isAsSeen_24 : decode M_x_isAsSeen.2.1 24 = .ok (.invokevirtual 196, 3) := by decide +kernel
theorem D_x_isAsSeen_27 : decode M_x_isAsSeen.2.1 27 = .ok (.aload_n 0, 1) := by decide +kernel
theorem D_x_isAsSeen_28 : decode M_x_isAsSeen.2.1 28 = .ok (.getfield 44, 3) := by decide +kernel
theorem D_x_isAsSeen_31 : decode M_x_isAsSeen.2.1 31 = .ok (.getfield 305, 3) := by decide +kernel
theorem D_x_isAsSeen_34 : decode M_x_isAsSeen.2.1 34 = .ok (.iload_n 2, 1) := by decide +kernel
theorem D_x_isAsSeen_35 : decode M_x_isAsSeen.2.1 35 = .ok (.iaload, 1) := by decide +kernel
theorem D_x_isAsSeen_36 : decode M_x_isAsSeen.2.1 36 = .ok (.if_icmp .eq 5, 3) := by decide +kernel
theorem D_x_isAsSeen_39 : decode M_x_isAsSeen.2.1 39 = .ok (.iconst 0, 1) := by decide +kernel
theorem D_x_isAsSeen_40 : decode M_x_isAsSeen.2.1 40 = .ok (.ireturn, 1) := by decide +kernel
theorem D_x_isAsSeen_41 : decode M_x_isAsSeen.2.1 41 = .ok (.iinc 2 1, 3) := by decide +kernel
theorem D_x_isAsSeen_44 : decode M_x_isAsSeen.2.1 44 = .ok (.goto (-42), 3) := by decide +kernel
theorem D_x_isAsSeen_47 : decode M_x_isAsSeen.2.1 47 = .ok (.iconst 1, 1) := by decide +kernel
theorem D_x_isAsSeen_48 : decode M_x_isAsSeen.2.1 48 = .ok (.ireturn, 1) := by decide +kernel
theorem D_x_speedsAsSeen_0 : decode M_x_speedsAsSeen.2.1 0 = .ok (.lconst 0, 1) := by decide +kernel
theorem D_x_speedsAsSeen_1 : decode M_x_speedsAsSeen.2.1 1 = .ok (.lstore_n 1, 1) := by decide +kernel
theorem D_x_speedsAsSeen_2 : decode M_x_speedsAsSeen.2.1 2 = .ok (.iconst 1, 1) := by decide +kernel
theorem D_x_speedsAsSeen_3 : decode M_x_speedsAsSeen.2.1 3 = .ok (.istore_n 3, 1) := by decide +kernel
theorem D_x_speedsAsSeen_4 : decode M_x_speedsAsSeen.2.1 4 = .ok (.iload_n 3, 1) := by decide +kernel
theorem D_x_speedsAsSeen_5 : decode M_x_speedsAsSeen.2.1 5 = .ok (.bipush 60, 2) := by decide +kernel
theorem D_x_speedsAsSeen_7 : decode M_x_speedsAsSeen.2.1 7 = .ok (.if_icmp .gt 23, 3) := by decide +kernel
theorem D_x_speedsAsSeen_10 : decode M_x_speedsAsSeen.2.1 10 = .ok (.aload_n 0, 1) := by decide +kernel
theorem D_x_speedsAsSeen_11 : decode M_x_speedsAsSeen.2.1 11 = .ok (.iload_n 3, 1) := by decide +kernel
theorem D_x_speedsAsSeen_12 : decode M_x_speedsAsSeen.2.1 12 = .ok (.invokevirtual 220, 3) := by decide +kernel
theorem D_x_speedsAsSeen_15 : decode M_x_speedsAsSeen.2.1 15 = .ok (.ifCond .eq 9, 3) := by decide +kernel
theorem D_x_speedsAsSeen_18 : decode M_x_speedsAsSeen.2.1 18 = .ok (.lload_n 1, 1) := by decide +kernel
theorem D_x_speedsAsSeen_19 : decode M_x_speedsAsSeen.2.1 19 = .ok (.lconst 1, 1) := by decide +kernel
theorem D_x_speedsAsSeen_20 : decode M_x_speedsAsSeen.2.1 20 = .ok (.iload_n 3, 1) := by decide +kernel
theorem D_x_speedsAsSeen_21 : decode M_x_speedsAsSeen.2.1 21 = .ok (.lshl, 1) := by decide +kernel
theorem D_x_speedsAsSeen_22 : decode M_x_speedsAsSeen.2.1 22 = .ok (.lor, 1) := by decide +kernel
theorem D_x_speedsAsSeen_23 : decode M_x_speedsAsSeen.2.1 23 = .ok (.lstore_n 1, 1) := by decide +kernel
theorem D_x_speedsAsSeen_24 : decode M_x_speedsAsSeen.2.1 24 = .ok (.iinc 3 1, 3) := by decide +kernel
theorem D_x_speedsAsSeen_27 : decode M_x_speedsAsSeen.2.1 27 = .ok (.goto (-23), 3) := by decide +kernel
theorem D_x_speedsAsSeen_30 : decode M_x_speedsAsSeen.2.1 30 = .ok (.lload_n 1, 1) := by decide +kernel
theorem D_x_speedsAsSeen_31 : decode M_x_speedsAsSeen.2.1 31 = .ok (.lreturn, 1) := by decide +kernel
theorem D_x_mostOfOneColour_0 : decode M_x_mostOfOneColour.2.1 0 = .ok (.aload_n 0, 1) := by decide +kernel
theorem D_x_mostOfOneColour_1 : decode M_x_mostOfOneColour.2.1 1 = .ok (.getfield 87, 3) := by decide +kernel
theorem D_x_mostOfOneColour_4 : decode M_x_mostOfOneColour.2.1 4 = .ok (.iconst 0, 1) := by decide +kernel
theorem D_x_mostOfOneColour_5 : decode M_x_mostOfOneColour.2.1 5 = .ok (.invokestatic 289, 3) := by decide +kernel
theorem D_x_mostOfOneColour_8 : decode M_x_mostOfOneColour.2.1 8 = .ok (.iconst 0, 1) := by decide +kernel
theorem D_x_mostOfOneColour_9 : decode M_x_mostOfOneColour.2.1 9 = .ok (.istore 4, 2) := by decide +kernel
theorem D_x_mostOfOneColour_11 : decode M_x_mostOfOneColour.2.1 11 = .ok (.iconst 1, 1) := by decide +kernel
theorem D_x_mostOfOneColour_12 : decode M_x_mostOfOneColour.2.1 12 = .ok (.istore 5, 2) := by decide +kernel
theorem D_x_mostOfOneColour_14 : decode M_x_mostOfOneColour.2.1 14 = .ok (.iload 5, 2) := by decide +kernel
theorem D_x_mostOfOneColour_16 : decode M_x_mostOfOneColour.2.1 16 = .ok (.bipush 60, 2) := by decide +kernel
theorem D_x_mostOfOneColour_18 : decode M_x_mostOfOneColour.2.1 18 = .ok (.if_icmp .gt 54, 3) := by decide +kernel
theorem D_x_mostOfOneColour_21 : decode M_x_mostOfOneColour.2.1 21 = .ok (.lload_n 2, 1) := by decide +kernel
theorem D_x_mostOfOneColour_22 : decode M_x_mostOfOneColour.2.1 22 = .ok (.iload 5, 2) := by decide +kernel
theorem D_x_mostOfOneColour_24 : decode M_x_mostOfOneColour.2.1 24 = .ok (.lshr, 1) := by decide +kernel
theorem D_x_mostOfOneColour_25 : decode M_x_mostOfOneColour.2.1 25 = .ok (.lconst 1, 1) := by decide +kernel
theorem D_x_mostOfOneColour_26 : decode M_x_mostOfOneColour.2.1 26 = .ok (.land, 1) := by decide +kernel
theorem D_x_mostOfOneColour_27 : decode M_x_mostOfOneColour.2.1 27 = .ok (.lconst 1, 1) := by decide +kernel
theorem D_x_mostOfOneColour_28 : decode M_x_mostOfOneColour.2.1 28 = .ok (.lcmp, 1) := by decide +kernel
theorem D_x_mostOfOneColour_29 : decode M_x_mostOfOneColour.2.1 29 = .ok (.ifCond .ne 37, 3) := by decide +kernel
theorem D_x_mostOfOneColour_32 : decode M_x_mostOfOneColour.2.1 32 = .ok (.aload_n 0, 1) := by decide +kernel
theorem D_x_mostOfOneColour_33 : decode M_x_mostOfOneColour.2.1 33 = .ok (.iload_n 1, 1) := by decide +kernel
theorem D_x_mostOfOneColour_34 : decode M_x_mostOfOneColour.2.1 34 = .ok (.iload 5, 2) := by decide +kernel
theorem D_x_mostOfOneColour_36 : decode M_x_mostOfOneColour.2.1 36 = .ok (.invokevirtual 196, 3) := by decide +kernel
theorem D_x_mostOfOneColour_39 : decode M_x_mostOfOneColour.2.1 39 = .ok (.istore 6, 2) := by decide +kernel
theorem D_x_mostOfOneColour_41 : decode M_x_mostOfOneColour.2.1 41 = .ok (.aload_n 0, 1) := by decide +kernel
theorem D_x_mostOfOneColour_42 : decode M_x_mostOfOneColour.2.1 42 = .ok (.getfield 87, 3) := by decide +kernel
theorem D_x_mostOfOneColour_45 : decode M_x_mostOfOneColour.2.1 45 = .ok (.iload 6, 2) := by decide +kernel
theorem D_x_mostOfOneColour_47 : decode M_x_mostOfOneColour.2.1 47 = .ok (.dup2, 1) := by decide +kernel
theorem D_x_mostOfOneColour_48 : decode M_x_mostOfOneColour.2.1 48 = .ok (.iaload, 1) := by decide +kernel
theorem D_x_mostOfOneColour_49 : decode M_x_mostOfOneColour.2.1 49 = .ok (.iconst 1, 1) := by decide +kernel
theorem D_x_mostOfOneColour_50 : decode M_x_mostOfOneColour.2.1 50 = .ok (.iadd, 1) := by decide +kernel
theorem D_x_mostOfOneColour_51 : decode M_x_mostOfOneColour.2.1 51 = .ok (.iastore, 1) := by decide +kernel
theorem D_x_mostOfOneColour_52 : decode M_x_mostOfOneColour.2.1 52 = .ok (.iload 4, 2) := by decide +kernel
theorem D_x_mostOfOneColour_54 : decode M_x_mostOfOneColour.2.1 54 = .ok (.aload_n 0, 1) := by decide +kernel
theorem D_x_mostOfOneColour_55 : decode M_x_mostOfOneColour.2.1 55 = .ok (.getfield 87, 3) := by decide +kernel
theorem D_x_mostOfOneColour_58 : decode M_x_mostOfOneColour.2.1 58 = .ok (.iload 6, 2) := by decide +kernel
theorem D_x_mostOfOneColour_60 : decode M_x_mostOfOneColour.2.1 60 = .ok (.iaload, 1) := by decide +kernel
theorem D_x_mostOfOneColour_61 : decode M_x_mostOfOneColour.2.1 61 = .ok (.invokestatic 308, 3) := by decide +kernel
theorem D_x_mostOfOneColour_64 : decode M_x_mostOfOneColour.2.1 64 = .ok (.istore 4, 2) := by decide +kernel
theorem D_x_mostOfOneColour_66 : decode M_x_mostOfOneColour.2.1 66 = .ok (.iinc 5 1, 3) := by decide +kernel
theorem D_x_mostOfOneColour_69 : decode M_x_mostOfOneColour.2.1 69 = .ok (.goto (-55), 3) := by decide +kernel
theorem D_x_mostOfOneColour_72 : decode M_x_mostOfOneColour.2.1 72 = .ok (.iload 4, 2) := by decide +kernel
theorem D_x_mostOfOneColour_74 : decode M_x_mostOfOneColour.2.1 74 = .ok (.ireturn, 1) := by decide +kernel
theorem D_x_findLaws_0 : decode M_x_findLaws.2.1 0 = .ok (.iconst 0, 1) := by decide +kernel
theorem D_x_findLaws_1 : decode M_x_findLaws.2.1 1 = .ok (.istore_n 1, 1) := by decide +kernel
theorem D_x_findLaws_2 : decode M_x_findLaws.2.1 2 = .ok (.iconst 0, 1) := by decide +kernel
theorem D_x_findLaws_3 : decode M_x_findLaws.2.1 3 = .ok (.istore_n 2, 1) := by decide +kernel
theorem D_x_findLaws_4 : decode M_x_findLaws.2.1 4 = .ok (.iload_n 2, 1) := by decide +kernel
theorem D_x_findLaws_5 : decode M_x_findLaws.2.1 5 = .ok (.bipush 9, 2) := by decide +kernel
theorem D_x_findLaws_7 : decode M_x_findLaws.2.1 7 = .ok (.if_icmp .gt 56, 3) := by decide +kernel
theorem D_x_findLaws_10 : decode M_x_findLaws.2.1 10 = .ok (.iconst 1, 1) := by decide +kernel
theorem D_x_findLaws_11 : decode M_x_findLaws.2.1 11 = .ok (.istore_n 3, 1) := by decide +kernel
theorem D_x_findLaws_12 : decode M_x_findLaws.2.1 12 = .ok (.iload_n 3, 1) := by decide +kernel
theorem D_x_findLaws_13 : decode M_x_findLaws.2.1 13 = .ok (.bipush 9, 2) := by decide +kernel
theorem D_x_findLaws_15 : decode M_x_findLaws.2.1 15 = .ok (.if_icmp .gt 42, 3) := by decide +kernel
theorem D_x_findLaws_18 : decode M_x_findLaws.2.1 18 = .ok (.aload_n 0, 1) := by decide +kernel
theorem D_x_findLaws_19 : decode M_x_findLaws.2.1 19 = .ok (.iload_n 2, 1) := by decide +kernel
theorem D_x_findLaws_20 : decode M_x_findLaws.2.1 20 = .ok (.iload_n 3, 1) := by decide +kernel
theorem D_x_findLaws_21 : decode M_x_findLaws.2.1 21 = .ok (.invokevirtual 311, 3) := by decide +kernel
theorem D_x_findLaws_24 : decode M_x_findLaws.2.1 24 = .ok (.ifCond .eq 27, 3) := by decide +kernel
theorem D_x_findLaws_27 : decode M_x_findLaws.2.1 27 = .ok (.iload_n 1, 1) := by decide +kernel
theorem D_x_findLaws_28 : decode M_x_findLaws.2.1 28 = .ok (.aload_n 0, 1) := by decide +kernel
theorem D_x_findLaws_29 : decode M_x_findLaws.2.1 29 = .ok (.getfield 80, 3) := by decide +kernel
theorem D_x_findLaws_32 : decode M_x_findLaws.2.1 32 = .ok (.arraylength, 1) := by decide +kernel
theorem D_x_findLaws_33 : decode M_x_findLaws.2.1 33 = .ok (.if_icmp .ge 18, 3) := by decide +kernel
theorem D_x_findLaws_36 : decode M_x_findLaws.2.1 36 = .ok (.aload_n 0, 1) := by decide +kernel
theorem D_x_findLaws_37 : decode M_x_findLaws.2.1 37 = .ok (.getfield 80, 3) := by decide +kernel
theorem D_x_findLaws_40 : decode M_x_findLaws.2.1 40 = .ok (.iload_n 1, 1) := by decide +kernel
theorem D_x_findLaws_41 : decode M_x_findLaws.2.1 41 = .ok (.bipush 10, 2) := by decide +kernel
theorem D_x_findLaws_43 : decode M_x_findLaws.2.1 43 = .ok (.iload_n 2, 1) := by decide +kernel
theorem D_x_findLaws_44 : decode M_x_findLaws.2.1 44 = .ok (.imul, 1) := by decide +kernel
theorem D_x_findLaws_45 : decode M_x_findLaws.2.1 45 = .ok (.iload_n 3, 1) := by decide +kernel
theorem D_x_findLaws_46 : decode M_x_findLaws.2.1 46 = .ok (.iadd, 1) := by decide +kernel
theorem D_x_findLaws_47 : decode M_x_findLaws.2.1 47 = .ok (.iastore, 1) := by decide +kernel
theorem D_x_findLaws_48 : decode M_x_findLaws.2.1 48 = .ok (.iinc 1 1, 3) := by decide +kernel
theorem D_x_findLaws_51 : decode M_x_findLaws.2.1 51 = .ok (.iinc 3 1, 3) := by decide +kernel
theorem D_x_findLaws_54 : decode M_x_findLaws.2.1 54 = .ok (.goto (-42), 3) := by decide +kernel
theorem D_x_findLaws_57 : decode M_x_findLaws.2.1 57 = .ok (.iinc 2 1, 3) := by decide +kernel
theorem D_x_findLaws_60 : decode M_x_findLaws.2.1 60 = .ok (.goto (-56), 3) := by decide +kernel
theorem D_x_findLaws_63 : decode M_x_findLaws.2.1 63 = .ok (.iload_n 1, 1) := by decide +kernel
theorem D_x_findLaws_64 : decode M_x_findLaws.2.1 64 = .ok (.ireturn, 1) := by decide +kernel
theorem D_x_isAsHeard_0 : decode M_x_isAsHeard.2.1 0 = .ok (.iconst 0, 1) := by decide +kernel
theorem D_x_isAsHeard_1 : decode M_x_isAsHeard.2.1 1 = .ok (.istore_n 3, 1) := by decide +kernel
theorem D_x_isAsHeard_2 : decode M_x_isAsHeard.2.1 2 = .ok (.iload_n 3, 1) := by decide +kernel
theorem D_x_isAsHeard_3 : decode M_x_isAsHeard.2.1 3 = .ok (.aload_n 0, 1) := by decide +kernel
theorem D_x_isAsHeard_4 : decode M_x_isAsHeard.2.1 4 = .ok (.getfield 48, 3) := by decide +kernel
theorem D_x_isAsHeard_7 : decode M_x_isAsHeard.2.1 7 = .ok (.getfield 119, 3) := by decide +kernel
theorem D_x_isAsHeard_10 : decode M_x_isAsHeard.2.1 10 = .ok (.if_icmp .ge 37, 3) := by decide +kernel
theorem D_x_isAsHeard_13 : decode M_x_isAsHeard.2.1 13 = .ok (.aload_n 0, 1) := by decide +kernel
theorem D_x_isAsHeard_14 : decode M_x_isAsHeard.2.1 14 = .ok (.getfield 48, 3) := by decide +kernel
theorem D_x_isAsHeard_17 : decode M_x_isAsHeard.2.1 17 = .ok (.getfield 302, 3) := by decide +kernel
theorem D_x_isAsHeard_20 : decode M_x_isAsHeard.2.1 20 = .ok (.iload_n 3, 1) := by decide +kernel
theorem D_x_isAsHeard_21 : decode M_x_isAsHeard.2.1 21 = .ok (.iaload, 1) := by decide +kernel
theorem D_x_isAsHeard_22 : decode M_x_isAsHeard.2.1 22 = .ok (.iload_n 1, 1) := by decide +kernel
theorem D_x_isAsHeard_23 : decode M_x_isAsHeard.2.1 23 = .ok (.iload_n 2, 1) := by decide +kernel
theorem D_x_isAsHeard_24 : decode M_x_isAsHeard.2.1 24 = .ok (.invokestatic 314, 3) := by decide +kernel
theorem D_x_isAsHeard_27 : decode M_x_isAsHeard.2.1 27 = .ok (.aload_n 0, 1) := by decide +kernel
theorem D_x_isAsHeard_28 : decode M_x_isAsHeard.2.1 28 = .ok (.getfield 48, 3) := by decide +kernel
theorem D_x_isAsHeard_31 : decode M_x_isAsHeard.2.1 31 = .ok (.getfield 305, 3) := by decide +kernel
theorem D_x_isAsHeard_34 : decode M_x_isAsHeard.2.1 34 = .ok (.iload_n 3, 1) := by decide +kernel
theorem D_x_isAsHeard_35 : decode M_x_isAsHeard.2.1 35 = .ok (.iaload, 1) := by decide +kernel
theorem D_x_isAsHeard_36 : decode M_x_isAsHeard.2.1 36 = .ok (.if_icmp .eq 5, 3) := by decide +kernel
theorem D_x_isAsHeard_39 : decode M_x_isAsHeard.2.1 39 = .ok (.iconst 0, 1) := by decide +kernel
theorem D_x_isAsHeard_40 : decode M_x_isAsHeard.2.1 40 = .ok (.ireturn, 1) := by decide +kernel
theorem D_x_isAsHeard_41 : decode M_x_isAsHeard.2.1 41 = .ok (.iinc 3 1, 3) := by decide +kernel
theorem D_x_isAsHeard_44 : decode M_x_isAsHeard.2.1 44 = .ok (.goto (-42), 3) := by decide +kernel
theorem D_x_isAsHeard_47 : decode M_x_isAsHeard.2.1 47 = .ok (.iconst 1, 1) := by decide +kernel
theorem D_x_isAsHeard_48 : decode M_x_isAsHeard.2.1 48 = .ok (.ireturn, 1) := by decide +kernel
theorem D_x_mostOfOneSound_0 : decode M_x_mostOfOneSound.2.1 0 = .ok (.aload_n 0, 1) := by decide +kernel
theorem D_x_mostOfOneSound_1 : decode M_x_mostOfOneSound.2.1 1 = .ok (.getfield 84, 3) := by decide +kernel
theorem D_x_mostOfOneSound_4 : decode M_x_mostOfOneSound.2.1 4 = .ok (.iconst 0, 1) := by decide +kernel
theorem D_x_mostOfOneSound_5 : decode M_x_mostOfOneSound.2.1 5 = .ok (.invokestatic 289, 3) := by decide +kernel
theorem D_x_mostOfOneSound_8 : decode M_x_mostOfOneSound.2.1 8 = .ok (.iconst 0, 1) := by decide +kernel
theorem D_x_mostOfOneSound_9 : decode M_x_mostOfOneSound.2.1 9 = .ok (.istore_n 3, 1) := by decide +kernel
theorem D_x_mostOfOneSound_10 : decode M_x_mostOfOneSound.2.1 10 = .ok (.iconst 0, 1) := by decide +kernel
theorem D_x_mostOfOneSound_11 : decode M_x_mostOfOneSound.2.1 11 = .ok (.istore 4, 2) := by decide +kernel
theorem D_x_mostOfOneSound_13 : decode M_x_mostOfOneSound.2.1 13 = .ok (.iload 4, 2) := by decide +kernel
theorem D_x_mostOfOneSound_15 : decode M_x_mostOfOneSound.2.1 15 = .ok (.iload_n 2, 1) := by decide +kernel
theorem D_x_mostOfOneSound_16 : decode M_x_mostOfOneSound.2.1 16 = .ok (.if_icmp .ge 80, 3) := by decide +kernel
theorem D_x_mostOfOneSound_19 : decode M_x_mostOfOneSound.2.1 19 = .ok (.iload 4, 2) := by decide +kernel
theorem D_x_mostOfOneSound_21 : decode M_x_mostOfOneSound.2.1 21 = .ok (.aload_n 0, 1) := by decide +kernel
theorem D_x_mostOfOneSound_22 : decode M_x_mostOfOneSound.2.1 22 = .ok (.getfield 80, 3) := by decide +kernel
theorem D_x_mostOfOneSound_25 : decode M_x_mostOfOneSound.2.1 25 = .ok (.arraylength, 1) := by decide +kernel
theorem D_x_mostOfOneSound_26 : decode M_x_mostOfOneSound.2.1 26 = .ok (.if_icmp .ge 70, 3) := by decide +kernel
theorem D_x_mostOfOneSound_29 : decode M_x_mostOfOneSound.2.1 29 = .ok (.iload_n 1, 1) := by decide +kernel
theorem D_x_mostOfOneSound_30 : decode M_x_mostOfOneSound.2.1 30 = .ok (.aload_n 0, 1) := by decide +kernel
theorem D_x_mostOfOneSound_31 : decode M_x_mostOfOneSound.2.1 31 = .ok (.getfield 80, 3) := by decide +kernel
theorem D_x_mostOfOneSound_34 : decode M_x_mostOfOneSound.2.1 34 = .ok (.iload 4, 2) := by decide +kernel
theorem D_x_mostOfOneSound_36 : decode M_x_mostOfOneSound.2.1 36 = .ok (.iaload, 1) := by decide +kernel
theorem D_x_mostOfOneSound_37 : decode M_x_mostOfOneSound.2.1 37 = .ok (.bipush 10, 2) := by decide +kernel
theorem D_x_mostOfOneSound_39 : decode M_x_mostOfOneSound.2.1 39 = .ok (.idiv, 1) := by decide +kernel
theorem D_x_mostOfOneSound_40 : decode M_x_mostOfOneSound.2.1 40 = .ok (.aload_n 0, 1) := by decide +kernel
theorem D_x_mostOfOneSound_41 : decode M_x_mostOfOneSound.2.1 41 = .ok (.getfield 80, 3) := by decide +kernel
theorem D_x_mostOfOneSound_44 : decode M_x_mostOfOneSound.2.1 44 = .ok (.iload 4, 2) := by decide +kernel
theorem D_x_mostOfOneSound_46 : decode M_x_mostOfOneSound.2.1 46 = .ok (.iaload, 1) := by decide +kernel
theorem D_x_mostOfOneSound_47 : decode M_x_mostOfOneSound.2.1 47 = .ok (.bipush 10, 2) := by decide +kernel
theorem D_x_mostOfOneSound_49 : decode M_x_mostOfOneSound.2.1 49 = .ok (.irem, 1) := by decide +kernel
theorem D_x_mostOfOneSound_50 : decode M_x_mostOfOneSound.2.1 50 = .ok (.invokestatic 314, 3) := by decide +kernel
theorem D_x_mostOfOneSound_53 : decode M_x_mostOfOneSound.2.1 53 = .ok (.istore 5, 2) := by decide +kernel
theorem D_x_mostOfOneSound_55 : decode M_x_mostOfOneSound.2.1 55 = .ok (.iload 5, 2) := by decide +kernel
theorem D_x_mostOfOneSound_57 : decode M_x_mostOfOneSound.2.1 57 = .ok (.iconst 0, 1) := by decide +kernel
theorem D_x_mostOfOneSound_58 : decode M_x_mostOfOneSound.2.1 58 = .ok (.sipush 382, 3) := by decide +kernel
theorem D_x_mostOfOneSound_61 : decode M_x_mostOfOneSound.2.1 61 = .ok (.invokestatic 99, 3) := by decide +kernel
theorem D_x_mostOfOneSound_64 : decode M_x_mostOfOneSound.2.1 64 = .ok (.ifCond .eq 26, 3) := by decide +kernel
theorem D_x_mostOfOneSound_67 : decode M_x_mostOfOneSound.2.1 67 = .ok (.aload_n 0, 1) := by decide +kernel
theorem D_x_mostOfOneSound_68 : decode M_x_mostOfOneSound.2.1 68 = .ok (.getfield 84, 3) := by decide +kernel
theorem D_x_mostOfOneSound_71 : decode M_x_mostOfOneSound.2.1 71 = .ok (.iload 5, 2) := by decide +kernel
theorem D_x_mostOfOneSound_73 : decode M_x_mostOfOneSound.2.1 73 = .ok (.dup2, 1) := by decide +kernel
theorem D_x_mostOfOneSound_74 : decode M_x_mostOfOneSound.2.1 74 = .ok (.iaload, 1) := by decide +kernel
theorem D_x_mostOfOneSound_75 : decode M_x_mostOfOneSound.2.1 75 = .ok (.iconst 1, 1) := by decide +kernel
theorem D_x_mostOfOneSound_76 : decode M_x_mostOfOneSound.2.1 76 = .ok (.iadd, 1) := by decide +kernel
theorem D_x_mostOfOneSound_77 : decode M_x_mostOfOneSound.2.1 77 = .ok (.iastore, 1) := by decide +kernel
theorem D_x_mostOfOneSound_78 : decode M_x_mostOfOneSound.2.1 78 = .ok (.iload_n 3, 1) := by decide +kernel
theorem D_x_mostOfOneSound_79 : decode M_x_mostOfOneSound.2.1 79 = .ok (.aload_n 0, 1) := by decide +kernel
theorem D_x_mostOfOneSound_80 : decode M_x_mostOfOneSound.2.1 80 = .ok (.getfield 84, 3) := by decide +kernel
theorem D_x_mostOfOneSound_83 : decode M_x_mostOfOneSound.2.1 83 = .ok (.iload 5, 2) := by decide +kernel
theorem D_x_mostOfOneSound_85 : decode M_x_mostOfOneSound.2.1 85 = .ok (.iaload, 1) := by decide +kernel
theorem D_x_mostOfOneSound_86 : decode M_x_mostOfOneSound.2.1 86 = .ok (.invokestatic 308, 3) := by decide +kernel
theorem D_x_mostOfOneSound_89 : decode M_x_mostOfOneSound.2.1 89 = .ok (.istore_n 3, 1) := by decide +kernel
theorem D_x_mostOfOneSound_90 : decode M_x_mostOfOneSound.2.1 90 = .ok (.iinc 4 1, 3) := by decide +kernel
theorem D_x_mostOfOneSound_93 : decode M_x_mostOfOneSound.2.1 93 = .ok (.goto (-80), 3) := by decide +kernel
theorem D_x_mostOfOneSound_96 : decode M_x_mostOfOneSound.2.1 96 = .ok (.iload_n 3, 1) := by decide +kernel
theorem D_x_mostOfOneSound_97 : decode M_x_mostOfOneSound.2.1 97 = .ok (.ireturn, 1) := by decide +kernel
end
section
theorem D_m_in_0 : decode M_m_in.2.1 0 = .ok (.iload_n 0, 1) := by decide +kernel
theorem D_m_in_1 : decode M_m_in.2.1 1 = .ok (.iload_n 1, 1) := by decide +kernel
theorem D_m_in_2 : decode M_m_in.2.1 2 = .ok (.if_icmp .lt 12, 3) := by decide +kernel
theorem D_m_in_5 : decode M_m_in.2.1 5 = .ok (.iload_n 0, 1) := by decide +kernel
theorem D_m_in_6 : decode M_m_in.2.1 6 = .ok (.iload_n 2, 1) := by decide +kernel
theorem D_m_in_7 : decode M_m_in.2.1 7 = .ok (.if_icmp .gt 7, 3) := by decide +kernel
theorem D_m_in_10 : decode M_m_in.2.1 10 = .ok (.iconst 1, 1) := by decide +kernel
theorem D_m_in_11 : decode M_m_in.2.1 11 = .ok (.goto 4, 3) := by decide +kernel
theorem D_m_in_14 : decode M_m_in.2.1 14 = .ok (.iconst 0, 1) := by decide +kernel
theorem D_m_in_15 : decode M_m_in.2.1 15 = .ok (.ireturn, 1) := by decide +kernel
theorem D_m_has_0 : decode M_m_has.2.1 0 = .ok (.iload_n 0, 1) := by decide +kernel
theorem D_m_has_1 : decode M_m_has.2.1 1 = .ok (.iload_n 1, 1) := by decide +kernel
theorem D_m_has_2 : decode M_m_has.2.1 2 = .ok (.ishr, 1) := by decide +kernel
theorem D_m_has_3 : decode M_m_has.2.1 3 = .ok (.iconst 1, 1) := by decide +kernel
theorem D_m_has_4 : decode M_m_has.2.1 4 = .ok (.iand, 1) := by decide +kernel
theorem D_m_has_5 : decode M_m_has.2.1 5 = .ok (.iconst 1, 1) := by decide +kernel
theorem D_m_has_6 : decode M_m_has.2.1 6 = .ok (.if_icmp .ne 7, 3) := by decide +kernel
theorem D_m_has_9 : decode M_m_has.2.1 9 = .ok (.iconst 1, 1) := by decide +kernel
theorem D_m_has_10 : decode M_m_has.2.1 10 = .ok (.goto 4, 3) := by decide +kernel
theorem D_m_has_13 : decode M_m_has.2.1 13 = .ok (.iconst 0, 1) := by decide +kernel
theorem D_m_has_14 : decode M_m_has.2.1 14 = .ok (.ireturn, 1) := by decide +kernel
theorem D_m_isOne_0 : decode M_m_isOne.2.1 0 = .ok (.iload_n 1, 1) := by decide +kernel
theorem D_m_isOne_1 : decode M_m_isOne.2.1 1 = .ok (.iconst 0, 1) := by decide +kernel
theorem D_m_isOne_2 : decode M_m_isOne.2.1 2 = .ok (.aload_n 0, 1) := by decide +kernel
theorem D_m_isOne_3 : decode M_m_isOne.2.1 3 = .ok (.getfield 66, 3) := by decide +kernel
theorem D_m_isOne_6 : decode M_m_isOne.2.1 6 = .ok (.iconst 1, 1) := by decide +kernel
theorem D_m_isOne_7 : decode M_m_isOne.2.1 7 = .ok (.isub, 1) := by decide +kernel
theorem D_m_isOne_8 : decode M_m_isOne.2.1 8 = .ok (.invokestatic 69, 3) := by decide +kernel
theorem D_m_isOne_11 : decode M_m_isOne.2.1 11 = .ok (.ireturn, 1) := by decide +kernel
theorem D_m_isSpot_0 : decode M_m_isSpot.2.1 0 = .ok (.iload_n 1, 1) := by decide +kernel
theorem D_m_isSpot_1 : decode M_m_isSpot.2.1 1 = .ok (.iconst 0, 1) := by decide +kernel
theorem D_m_isSpot_2 : decode M_m_isSpot.2.1 2 = .ok (.aload_n 0, 1) := by decide +kernel
theorem D_m_isSpot_3 : decode M_m_isSpot.2.1 3 = .ok (.getfield 73, 3) := by decide +kernel
theorem D_m_isSpot_6 : decode M_m_isSpot.2.1 6 = .ok (.iconst 1, 1) := by decide +kernel
theorem D_m_isSpot_7 : decode M_m_isSpot.2.1 7 = .ok (.isub, 1) := by decide +kernel
theorem D_m_isSpot_8 : decode M_m_isSpot.2.1 8 = .ok (.invokestatic 69, 3) := by decide +kernel
theorem D_m_isSpot_11 : decode M_m_isSpot.2.1 11 = .ok (.ireturn, 1) := by decide +kernel
theorem D_m_isColour_0 : decode M_m_isColour.2.1 0 = .ok (.iload_n 0, 1) := by decide +kernel
theorem D_m_isColour_1 : decode M_m_isColour.2.1 1 = .ok (.iconst 0, 1) := by decide +kernel
theorem D_m_isColour_2 : decode M_m_isColour.2.1 2 = .ok (.iconst 5, 1) := by decide +kernel
theorem D_m_isColour_3 : decode M_m_isColour.2.1 3 = .ok (.invokestatic 69, 3) := by decide +kernel
theorem D_m_isColour_6 : decode M_m_isColour.2.1 6 = .ok (.ireturn, 1) := by decide +kernel
theorem D_m_isSpeed_0 : decode M_m_isSpeed.2.1 0 = .ok (.iload_n 0, 1) := by decide +kernel
theorem D_m_isSpeed_1 : decode M_m_isSpeed.2.1 1 = .ok (.iconst 1, 1) := by decide +kernel
theorem D_m_isSpeed_2 : decode M_m_isSpeed.2.1 2 = .ok (.bipush 60, 2) := by decide +kernel
theorem D_m_isSpeed_4 : decode M_m_isSpeed.2.1 4 = .ok (.invokestatic 69, 3) := by decide +kernel
theorem D_m_isSpeed_7 : decode M_m_isSpeed.2.1 7 = .ok (.ireturn, 1) := by decide +kernel
theorem D_m_type_0 : decode M_m_type.2.1 0 = .ok (.iload_n 1, 1) := by decide +kernel
theorem D_m_type_1 : decode M_m_type.2.1 1 = .ok (.iconst 0, 1) := by decide +kernel
theorem D_m_type_2 : decode M_m_type.2.1 2 = .ok (.sipush 255, 3) := by decide +kernel
theorem D_m_type_5 : decode M_m_type.2.1 5 = .ok (.invokestatic 69, 3) := by decide +kernel
theorem D_m_type_8 : decode M_m_type.2.1 8 = .ok (.ifCond .ne 5, 3) := by decide +kernel
theorem D_m_type_11 : decode M_m_type.2.1 11 = .ok (.iconst (-1), 1) := by decide +kernel
theorem D_m_type_12 : decode M_m_type.2.1 12 = .ok (.ireturn, 1) := by decide +kernel
theorem D_m_type_13 : decode M_m_type.2.1 13 = .ok (.aload_n 0, 1) := by decide +kernel
theorem D_m_type_14 : decode M_m_type.2.1 14 = .ok (.getfield 76, 3) := by decide +kernel
theorem D_m_type_17 : decode M_m_type.2.1 17 = .ok (.sipush 150, 3) := by decide +kernel
theorem D_m_type_20 : decode M_m_type.2.1 20 = .ok (.if_icmp .ne 6, 3) := by decide +kernel
theorem D_m_type_23 : decode M_m_type.2.1 23 = .ok (.bipush (-3), 2) := by decide +kernel
theorem D_m_type_25 : decode M_m_type.2.1 25 = .ok (.ireturn, 1) := by decide +kernel
theorem D_m_type_26 : decode M_m_type.2.1 26 = .ok (.aload_n 0, 1) := by decide +kernel
theorem D_m_type_27 : decode M_m_type.2.1 27 = .ok (.getfield 39, 3) := by decide +kernel
theorem D_m_type_30 : decode M_m_type.2.1 30 = .ok (.aload_n 0, 1) := by decide +kernel
theorem D_m_type_31 : decode M_m_type.2.1 31 = .ok (.getfield 76, 3) := by decide +kernel
theorem D_m_type_34 : decode M_m_type.2.1 34 = .ok (.iload_n 1, 1) := by decide +kernel
theorem D_m_type_35 : decode M_m_type.2.1 35 = .ok (.iastore, 1) := by decide +kernel
theorem D_m_type_36 : decode M_m_type.2.1 36 = .ok (.aload_n 0, 1) := by decide +kernel
theorem D_m_type_37 : decode M_m_type.2.1 37 = .ok (.dup, 1) := by decide +kernel
theorem D_m_type_38 : decode M_m_type.2.1 38 = .ok (.getfield 76, 3) := by decide +kernel
theorem D_m_type_41 : decode M_m_type.2.1 41 = .ok (.iconst 1, 1) := by decide +kernel
theorem D_m_type_42 : decode M_m_type.2.1 42 = .ok (.iadd, 1) := by decide +kernel
theorem D_m_type_43 : decode M_m_type.2.1 43 = .ok (.putfield 76, 3) := by decide +kernel
theorem D_m_type_46 : decode M_m_type.2.1 46 = .ok (.aload_n 0, 1) := by decide +kernel
theorem D_m_type_47 : decode M_m_type.2.1 47 = .ok (.getfield 76, 3) := by decide +kernel
theorem D_m_type_50 : decode M_m_type.2.1 50 = .ok (.ireturn, 1) := by decide +kernel
theorem D_m_clear_0 : decode M_m_clear.2.1 0 = .ok (.aload_n 0, 1) := by decide +kernel
theorem D_m_clear_1 : decode M_m_clear.2.1 1 = .ok (.getfield 76, 3) := by decide +kernel
theorem D_m_clear_4 : decode M_m_clear.2.1 4 = .ok (.istore_n 1, 1) := by decide +kernel
theorem D_m_clear_5 : decode M_m_clear.2.1 5 = .ok (.aload_n 0, 1) := by decide +kernel
theorem D_m_clear_6 : decode M_m_clear.2.1 6 = .ok (.iconst 0, 1) := by decide +kernel
theorem D_m_clear_7 : decode M_m_clear.2.1 7 = .ok (.putfield 76, 3) := by decide +kernel
theorem D_m_clear_10 : decode M_m_clear.2.1 10 = .ok (.iload_n 1, 1) := by decide +kernel
theorem D_m_clear_11 : decode M_m_clear.2.1 11 = .ok (.ireturn, 1) := by decide +kernel
theorem D_m_letterAt_0 : decode M_m_letterAt.2.1 0 = .ok (.iload_n 1, 1) := by decide +kernel
theorem D_m_letterAt_1 : decode M_m_letterAt.2.1 1 = .ok (.aload_n 0, 1) := by decide +kernel
theorem D_m_letterAt_2 : decode M_m_letterAt.2.1 2 = .ok (.getfield 76, 3) := by decide +kernel
theorem D_m_letterAt_5 : decode M_m_letterAt.2.1 5 = .ok (.if_icmp .ge 12, 3) := by decide +kernel
theorem D_m_letterAt_8 : decode M_m_letterAt.2.1 8 = .ok (.aload_n 0, 1) := by decide +kernel
theorem D_m_letterAt_9 : decode M_m_letterAt.2.1 9 = .ok (.getfield 39, 3) := by decide +kernel
theorem D_m_letterAt_12 : decode M_m_letterAt.2.1 12 = .ok (.iload_n 1, 1) := by decide +kernel
theorem D_m_letterAt_13 : decode M_m_letterAt.2.1 13 = .ok (.iaload, 1) := by decide +kernel
theorem D_m_letterAt_14 : decode M_m_letterAt.2.1 14 = .ok (.goto 4, 3) := by decide +kernel
theorem D_m_letterAt_17 : decode M_m_letterAt.2.1 17 = .ok (.iconst (-1), 1) := by decide +kernel
theorem D_m_letterAt_18 : decode M_m_letterAt.2.1 18 = .ok (.ireturn, 1) := by decide +kernel
theorem D_m_isFigure_0 : decode M_m_isFigure.2.1 0 = .ok (.iload_n 0, 1) := by decide +kernel
theorem D_m_isFigure_1 : decode M_m_isFigure.2.1 1 = .ok (.bipush 48, 2) := by decide +kernel
theorem D_m_isFigure_3 : decode M_m_isFigure.2.1 3 = .ok (.bipush 57, 2) := by decide +kernel
theorem D_m_isFigure_5 : decode M_m_isFigure.2.1 5 = .ok (.invokestatic 69, 3) := by decide +kernel
theorem D_m_isFigure_8 : decode M_m_isFigure.2.1 8 = .ok (.ireturn, 1) := by decide +kernel
theorem D_m_isLetter_0 : decode M_m_isLetter.2.1 0 = .ok (.iload_n 0, 1) := by decide +kernel
theorem D_m_isLetter_1 : decode M_m_isLetter.2.1 1 = .ok (.bipush 97, 2) := by decide +kernel
theorem D_m_isLetter_3 : decode M_m_isLetter.2.1 3 = .ok (.bipush 122, 2) := by decide +kernel
theorem D_m_isLetter_5 : decode M_m_isLetter.2.1 5 = .ok (.invokestatic 69, 3) := by decide +kernel
theorem D_m_isLetter_8 : decode M_m_isLetter.2.1 8 = .ok (.ireturn, 1) := by decide +kernel
theorem D_m_next_0 : decode M_m_next.2.1 0 = .ok (.aload_n 0, 1) := by decide +kernel
theorem D_m_next_1 : decode M_m_next.2.1 1 = .ok (.aload_n 0, 1) := by decide +kernel
theorem D_m_next_2 : decode M_m_next.2.1 2 = .ok (.getfield 79, 3) := by decide +kernel
theorem D_m_next_5 : decode M_m_next.2.1 5 = .ok (.invokevirtual 82, 3) := by decide +kernel
theorem D_m_next_8 : decode M_m_next.2.1 8 = .ok (.bipush 32, 2) := by decide +kernel
theorem D_m_next_10 : decode M_m_next.2.1 10 = .ok (.if_icmp .ne 16, 3) := by decide +kernel
theorem D_m_next_13 : decode M_m_next.2.1 13 = .ok (.aload_n 0, 1) := by decide +kernel
theorem D_m_next_14 : decode M_m_next.2.1 14 = .ok (.dup, 1) := by decide +kernel
theorem D_m_next_15 : decode M_m_next.2.1 15 = .ok (.getfield 79, 3) := by decide +kernel
theorem D_m_next_18 : decode M_m_next.2.1 18 = .ok (.iconst 1, 1) := by decide +kernel
theorem D_m_next_19 : decode M_m_next.2.1 19 = .ok (.iadd, 1) := by decide +kernel
theorem D_m_next_20 : decode M_m_next.2.1 20 = .ok (.putfield 79, 3) := by decide +kernel
theorem D_m_next_23 : decode M_m_next.2.1 23 = .ok (.goto (-23), 3) := by decide +kernel
theorem D_m_next_26 : decode M_m_next.2.1 26 = .ok (.aload_n 0, 1) := by decide +kernel
theorem D_m_next_27 : decode M_m_next.2.1 27 = .ok (.aload_n 0, 1) := by decide +kernel
theorem D_m_next_28 : decode M_m_next.2.1 28 = .ok (.getfield 79, 3) := by decide +kernel
theorem D_m_next_31 : decode M_m_next.2.1 31 = .ok (.putfield 86, 3) := by decide +kernel
theorem D_m_next_34 : decode M_m_next.2.1 34 = .ok (.aload_n 0, 1) := by decide +kernel
theorem D_m_next_35 : decode M_m_next.2.1 35 = .ok (.aload_n 0, 1) := by decide +kernel
theorem D_m_next_36 : decode M_m_next.2.1 36 = .ok (.getfield 79, 3) := by decide +kernel
theorem D_m_next_39 : decode M_m_next.2.1 39 = .ok (.invokevirtual 82, 3) := by decide +kernel
theorem D_m_next_42 : decode M_m_next.2.1 42 = .ok (.istore_n 1, 1) := by decide +kernel
theorem D_m_next_43 : decode M_m_next.2.1 43 = .ok (.aload_n 0, 1) := by decide +kernel
theorem D_m_next_44 : decode M_m_next.2.1 44 = .ok (.iconst 0, 1) := by decide +kernel
theorem D_m_next_45 : decode M_m_next.2.1 45 = .ok (.putfield 89, 3) := by decide +kernel
theorem D_m_next_48 : decode M_m_next.2.1 48 = .ok (.iload_n 1, 1) := by decide +kernel
theorem D_m_next_49 : decode M_m_next.2.1 49 = .ok (.ifCond .ge 11, 3) := by decide +kernel
theorem D_m_next_52 : decode M_m_next.2.1 52 = .ok (.aload_n 0, 1) := by decide +kernel
theorem D_m_next_53 : decode M_m_next.2.1 53 = .ok (.iconst 0, 1) := by decide +kernel
theorem D_m_next_54 : decode M_m_next.2.1 54 = .ok (.putfield 92, 3) := by decide +kernel
theorem D_m_next_57 : decode M_m_next.2.1 57 = .ok (.goto 205, 3) := by decide +kernel
theorem D_m_next_60 : decode M_m_next.2.1 60 = .ok (.iload_n 1, 1) := by decide +kernel
theorem D_m_next_61 : decode M_m_next.2.1 61 = .ok (.invokestatic 95, 3) := by decide +kernel
theorem D_m_next_64 : decode M_m_next.2.1 64 = .ok (.ifCond .eq 109, 3) := by decide +kernel
theorem D_m_next_67 : decode M_m_next.2.1 67 = .ok (.aload_n 0, 1) := by decide +kernel
theorem D_m_next_68 : decode M_m_next.2.1 68 = .ok (.aload_n 0, 1) := by decide +kernel
theorem D_m_next_69 : decode M_m_next.2.1 69 = .ok (.getfield 79, 3) := by decide +kernel
theorem D_m_next_72 : decode M_m_next.2.1 72 = .ok (.invokevirtual 82, 3) := by decide +kernel
theorem D_m_next_75 : decode M_m_next.2.1 75 = .ok (.invokestatic 95, 3) := by decide +kernel
theorem D_m_next_78 : decode M_m_next.2.1 78 = .ok (.ifCond .eq 55, 3) := by decide +kernel
theorem D_m_next_81 : decode M_m_next.2.1 81 = .ok (.aload_n 0, 1) := by decide +kernel
theorem D_m_next_82 : decode M_m_next.2.1 82 = .ok (.aload_n 0, 1) := by decide +kernel
theorem D_m_next_83 : decode M_m_next.2.1 83 = .ok (.getfield 89, 3) := by decide +kernel
theorem D_m_next_86 : decode M_m_next.2.1 86 = .ok (.bipush 99, 2) := by decide +kernel
theorem D_m_next_88 : decode M_m_next.2.1 88 = .ok (.if_icmp .le 10, 3) := by decide +kernel
theorem D_m_next_91 : decode M_m_next.2.1 91 = .ok (.aload_n 0, 1) := by decide +kernel
theorem D_m_next_92 : decode M_m_next.2.1 92 = .ok (.getfield 89, 3) := by decide +kernel
theorem D_m_next_95 : decode M_m_next.2.1 95 = .ok (.goto 22, 3) := by decide +kernel
theorem D_m_next_98 : decode M_m_next.2.1 98 = .ok (.bipush 10, 2) := by decide +kernel
theorem D_m_next_100 : decode M_m_next.2.1 100 = .ok (.aload_n 0, 1) := by decide +kernel
theorem D_m_next_101 : decode M_m_next.2.1 101 = .ok (.getfield 89, 3) := by decide +kernel
theorem D_m_next_104 : decode M_m_next.2.1 104 = .ok (.imul, 1) := by decide +kernel
theorem D_m_next_105 : decode M_m_next.2.1 105 = .ok (.aload_n 0, 1) := by decide +kernel
theorem D_m_next_106 : decode M_m_next.2.1 106 = .ok (.aload_n 0, 1) := by decide +kernel
theorem D_m_next_107 : decode M_m_next.2.1 107 = .ok (.getfield 79, 3) := by decide +kernel
theorem D_m_next_110 : decode M_m_next.2.1 110 = .ok (.invokevirtual 82, 3) := by decide +kernel
theorem D_m_next_113 : decode M_m_next.2.1 113 = .ok (.iadd, 1) := by decide +kernel
theorem D_m_next_114 : decode M_m_next.2.1 114 = .ok (.bipush 48, 2) := by decide +kernel
theorem D_m_next_116 : decode M_m_next.2.1 116 = .ok (.isub, 1) := by decide +kernel
theorem D_m_next_117 : decode M_m_next.2.1 117 = .ok (.putfield 89, 3) := by decide +kernel
theorem D_m_next_120 : decode M_m_next.2.1 120 = .ok (.aload_n 0, 1) := by decide +kernel
theorem D_m_next_121 : decode M_m_next.2.1 121 = .ok (.dup, 1) := by decide +kernel
theorem D_m_next_122 : decode M_m_next.2.1 122 = .ok (.getfield 79, 3) := by decide +kernel
theorem D_m_next_125 : decode M_m_next.2.1 125 = .ok (.iconst 1, 1) := by decide +kernel
theorem D_m_next_126 : decode M_m_next.2.1 126 = .ok (.iadd, 1) := by decide +kernel
theorem D_m_next_127 : decode M_m_next.2.1 127 = .ok (.putfield 79, 3) := by decide +kernel
theorem D_m_next_130 : decode M_m_next.2.1 130 = .ok (.goto (-63), 3) := by decide +kernel
theorem D_m_next_133 : decode M_m_next.2.1 133 = .ok (.aload_n 0, 1) := by decide +kernel
theorem D_m_next_134 : decode M_m_next.2.1 134 = .ok (.aload_n 0, 1) := by decide +kernel
theorem D_m_next_135 : decode M_m_next.2.1 135 = .ok (.getfield 89, 3) := by decide +kernel
theorem D_m_next_138 : decode M_m_next.2.1 138 = .ok (.bipush 99, 2) := by decide +kernel
theorem D_m_next_140 : decode M_m_next.2.1 140 = .ok (.if_icmp .gt 22, 3) := by decide +kernel
theorem D_m_next_143 : decode M_m_next.2.1 143 = .ok (.iload_n 1, 1) := by decide +kernel
theorem D_m_next_144 : decode M_m_next.2.1 144 = .ok (.bipush 48, 2) := by decide +kernel
theorem D_m_next_146 : decode M_m_next.2.1 146 = .ok (.if_icmp .ne 20, 3) := by decide +kernel
theorem D_m_next_149 : decode M_m_next.2.1 149 = .ok (.aload_n 0, 1) := by decide +kernel
theorem D_m_next_150 : decode M_m_next.2.1 150 = .ok (.getfield 79, 3) := by decide +kernel
theorem D_m_next_153 : decode M_m_next.2.1 153 = .ok (.aload_n 0, 1) := by decide +kernel
theorem D_m_next_154 : decode M_m_next.2.1 154 = .ok (.getfield 86, 3) := by decide +kernel
theorem D_m_next_157 : decode M_m_next.2.1 157 = .ok (.isub, 1) := by decide +kernel
theorem D_m_next_158 : decode M_m_next.2.1 158 = .ok (.iconst 1, 1) := by decide +kernel
theorem D_m_next_159 : decode M_m_next.2.1 159 = .ok (.if_icmp .le 7, 3) := by decide +kernel
theorem D_m_next_162 : decode M_m_next.2.1 162 = .ok (.iconst 4, 1) := by decide +kernel
theorem D_m_next_163 : decode M_m_next.2.1 163 = .ok (.goto 4, 3) := by decide +kernel
theorem D_m_next_166 : decode M_m_next.2.1 166 = .ok (.iconst 2, 1) := by decide +kernel
theorem D_m_next_167 : decode M_m_next.2.1 167 = .ok (.putfield 92, 3) := by decide +kernel
theorem D_m_next_170 : decode M_m_next.2.1 170 = .ok (.goto 92, 3) := by decide +kernel
theorem D_m_next_173 : decode M_m_next.2.1 173 = .ok (.iload_n 1, 1) := by decide +kernel
theorem D_m_next_174 : decode M_m_next.2.1 174 = .ok (.invokestatic 99, 3) := by decide +kernel
theorem D_m_next_177 : decode M_m_next.2.1 177 = .ok (.ifCond .eq 60, 3) := by decide +kernel
theorem D_m_next_180 : decode M_m_next.2.1 180 = .ok (.aload_n 0, 1) := by decide +kernel
theorem D_m_next_181 : decode M_m_next.2.1 181 = .ok (.aload_n 0, 1) := by decide +kernel
theorem D_m_next_182 : decode M_m_next.2.1 182 = .ok (.getfield 79, 3) := by decide +kernel
theorem D_m_next_185 : decode M_m_next.2.1 185 = .ok (.invokevirtual 82, 3) := by decide +kernel
theorem D_m_next_188 : decode M_m_next.2.1 188 = .ok (.invokestatic 99, 3) := by decide +kernel
theorem D_m_next_191 : decode M_m_next.2.1 191 = .ok (.ifCond .eq 16, 3) := by decide +kernel
theorem D_m_next_194 : decode M_m_next.2.1 194 = .ok (.aload_n 0, 1) := by decide +kernel
theorem D_m_next_195 : decode M_m_next.2.1 195 = .ok (.dup, 1) := by decide +kernel
theorem D_m_next_196 : decode M_m_next.2.1 196 = .ok (.getfield 79, 3) := by decide +kernel
theorem D_m_next_199 : decode M_m_next.2.1 199 = .ok (.iconst 1, 1) := by decide +kernel
theorem D_m_next_200 : decode M_m_next.2.1 200 = .ok (.iadd, 1) := by decide +kernel
theorem D_m_next_201 : decode M_m_next.2.1 201 = .ok (.putfield 79, 3) := by decide +kernel
theorem D_m_next_204 : decode M_m_next.2.1 204 = .ok (.goto (-24), 3) := by decide +kernel
theorem D_m_next_207 : decode M_m_next.2.1 207 = .ok (.aload_n 0, 1) := by decide +kernel
theorem D_m_next_208 : decode M_m_next.2.1 208 = .ok (.iconst 1, 1) := by decide +kernel
theorem D_m_next_209 : decode M_m_next.2.1 209 = .ok (.putfield 92, 3) := by decide +kernel
theorem D_m_next_212 : decode M_m_next.2.1 212 = .ok (.aload_n 0, 1) := by decide +kernel
theorem D_m_next_213 : decode M_m_next.2.1 213 = .ok (.aload_n 0, 1) := by decide +kernel
theorem D_m_next_214 : decode M_m_next.2.1 214 = .ok (.getfield 79, 3) := by decide +kernel
theorem D_m_next_217 : decode M_m_next.2.1 217 = .ok (.aload_n 0, 1) := by decide +kernel
theorem D_m_next_218 : decode M_m_next.2.1 218 = .ok (.getfield 86, 3) := by decide +kernel
theorem D_m_next_221 : decode M_m_next.2.1 221 = .ok (.isub, 1) := by decide +kernel
theorem D_m_next_222 : decode M_m_next.2.1 222 = .ok (.iconst 1, 1) := by decide +kernel
theorem D_m_next_223 : decode M_m_next.2.1 223 = .ok (.if_icmp .ne 7, 3) := by decide +kernel
theorem D_m_next_226 : decode M_m_next.2.1 226 = .ok (.iload_n 1, 1) := by decide +kernel
theorem D_m_next_227 : decode M_m_next.2.1 227 = .ok (.goto 4, 3) := by decide +kernel
theorem D_m_next_230 : decode M_m_next.2.1 230 = .ok (.iconst 0, 1) := by decide +kernel
theorem D_m_next_231 : decode M_m_next.2.1 231 = .ok (.putfield 89, 3) := by decide +kernel
theorem D_m_next_234 : decode M_m_next.2.1 234 = .ok (.goto 28, 3) := by decide +kernel
theorem D_m_next_237 : decode M_m_next.2.1 237 = .ok (.aload_n 0, 1) := by decide +kernel
theorem D_m_next_238 : decode M_m_next.2.1 238 = .ok (.iload_n 1, 1) := by decide +kernel
theorem D_m_next_239 : decode M_m_next.2.1 239 = .ok (.bipush 59, 2) := by decide +kernel
theorem D_m_next_241 : decode M_m_next.2.1 241 = .ok (.if_icmp .ne 7, 3) := by decide +kernel
theorem D_m_next_244 : decode M_m_next.2.1 244 = .ok (.iconst 3, 1) := by decide +kernel
theorem D_m_next_245 : decode M_m_next.2.1 245 = .ok (.goto 4, 3) := by decide +kernel
theorem D_m_next_248 : decode M_m_next.2.1 248 = .ok (.iconst 4, 1) := by decide +kernel
theorem D_m_next_249 : decode M_m_next.2.1 249 = .ok (.putfield 92, 3) := by decide +kernel
theorem D_m_next_252 : decode M_m_next.2.1 252 = .ok (.aload_n 0, 1) := by decide +kernel
theorem D_m_next_253 : decode M_m_next.2.1 253 = .ok (.dup, 1) := by decide +kernel
theorem D_m_next_254 : decode M_m_next.2.1 254 = .ok (.getfield 79, 3) := by decide +kernel
theorem D_m_next_257 : decode M_m_next.2.1 257 = .ok (.iconst 1, 1) := by decide +kernel
theorem D_m_next_258 : decode M_m_next.2.1 258 = .ok (.iadd, 1) := by decide +kernel
theorem D_m_next_259 : decode M_m_next.2.1 259 = .ok (.putfield 79, 3) := by decide +kernel
theorem D_m_next_262 : decode M_m_next.2.1 262 = .ok (.return_, 1) := by decide +kernel
theorem D_m_takesNumber_0 : decode M_m_takesNumber.2.1 0 = .ok (.aload_n 0, 1) := by decide +kernel
theorem D_m_takesNumber_1 : decode M_m_takesNumber.2.1 1 = .ok (.getfield 102, 3) := by decide +kernel
theorem D_m_takesNumber_4 : decode M_m_takesNumber.2.1 4 = .ok (.ifCond .ne 27, 3) := by decide +kernel
theorem D_m_takesNumber_7 : decode M_m_takesNumber.2.1 7 = .ok (.aload_n 0, 1) := by decide +kernel
theorem D_m_takesNumber_8 : decode M_m_takesNumber.2.1 8 = .ok (.getfield 92, 3) := by decide +kernel
theorem D_m_takesNumber_11 : decode M_m_takesNumber.2.1 11 = .ok (.iconst 2, 1) := by decide +kernel
theorem D_m_takesNumber_12 : decode M_m_takesNumber.2.1 12 = .ok (.if_icmp .ne 19, 3) := by decide +kernel
theorem D_m_takesNumber_15 : decode M_m_takesNumber.2.1 15 = .ok (.aload_n 0, 1) := by decide +kernel
theorem D_m_takesNumber_16 : decode M_m_takesNumber.2.1 16 = .ok (.getfield 89, 3) := by decide +kernel
theorem D_m_takesNumber_19 : decode M_m_takesNumber.2.1 19 = .ok (.iload_n 1, 1) := by decide +kernel
theorem D_m_takesNumber_20 : decode M_m_takesNumber.2.1 20 = .ok (.iload_n 2, 1) := by decide +kernel
theorem D_m_takesNumber_21 : decode M_m_takesNumber.2.1 21 = .ok (.invokestatic 69, 3) := by decide +kernel
theorem D_m_takesNumber_24 : decode M_m_takesNumber.2.1 24 = .ok (.ifCond .eq 7, 3) := by decide +kernel
theorem D_m_takesNumber_27 : decode M_m_takesNumber.2.1 27 = .ok (.iconst 1, 1) := by decide +kernel
theorem D_m_takesNumber_28 : decode M_m_takesNumber.2.1 28 = .ok (.goto 4, 3) := by decide +kernel
theorem D_m_takesNumber_31 : decode M_m_takesNumber.2.1 31 = .ok (.iconst 0, 1) := by decide +kernel
theorem D_m_takesNumber_32 : decode M_m_takesNumber.2.1 32 = .ok (.istore_n 3, 1) := by decide +kernel
theorem D_m_takesNumber_33 : decode M_m_takesNumber.2.1 33 = .ok (.aload_n 0, 1) := by decide +kernel
theorem D_m_takesNumber_34 : decode M_m_takesNumber.2.1 34 = .ok (.iload_n 3, 1) := by decide +kernel
theorem D_m_takesNumber_35 : decode M_m_takesNumber.2.1 35 = .ok (.ifCond .ne 7, 3) := by decide +kernel
theorem D_m_takesNumber_38 : decode M_m_takesNumber.2.1 38 = .ok (.iconst 1, 1) := by decide +kernel
theorem D_m_takesNumber_39 : decode M_m_takesNumber.2.1 39 = .ok (.goto 4, 3) := by decide +kernel
theorem D_m_takesNumber_42 : decode M_m_takesNumber.2.1 42 = .ok (.iconst 0, 1) := by decide +kernel
theorem D_m_takesNumber_43 : decode M_m_takesNumber.2.1 43 = .ok (.putfield 102, 3) := by decide +kernel
theorem D_m_takesNumber_46 : decode M_m_takesNumber.2.1 46 = .ok (.aload_n 0, 1) := by decide +kernel
theorem D_m_takesNumber_47 : decode M_m_takesNumber.2.1 47 = .ok (.getfield 89, 3) := by decide +kernel
theorem D_m_takesNumber_50 : decode M_m_takesNumber.2.1 50 = .ok (.istore 4, 2) := by decide +kernel
theorem D_m_takesNumber_52 : decode M_m_takesNumber.2.1 52 = .ok (.iload_n 3, 1) := by decide +kernel
theorem D_m_takesNumber_53 : decode M_m_takesNumber.2.1 53 = .ok (.ifCond .eq 7, 3) := by decide +kernel
theorem D_m_takesNumber_56 : decode M_m_takesNumber.2.1 56 = .ok (.aload_n 0, 1) := by decide +kernel
theorem D_m_takesNumber_57 : decode M_m_takesNumber.2.1 57 = .ok (.invokevirtual 106, 3) := by decide +kernel
theorem D_m_takesNumber_60 : decode M_m_takesNumber.2.1 60 = .ok (.iload_n 3, 1) := by decide +kernel
theorem D_m_takesNumber_61 : decode M_m_takesNumber.2.1 61 = .ok (.ifCond .eq 8, 3) := by decide +kernel
theorem D_m_takesNumber_64 : decode M_m_takesNumber.2.1 64 = .ok (.iload 4, 2) := by decide +kernel
theorem D_m_takesNumber_66 : decode M_m_takesNumber.2.1 66 = .ok (.goto 4, 3) := by decide +kernel
theorem D_m_takesNumber_69 : decode M_m_takesNumber.2.1 69 = .ok (.iconst 0, 1) := by decide +kernel
theorem D_m_takesNumber_70 : decode M_m_takesNumber.2.1 70 = .ok (.ireturn, 1) := by decide +kernel
theorem D_m_readOne_0 : decode M_m_readOne.2.1 0 = .ok (.iconst 0, 1) := by decide +kernel
theorem D_m_readOne_1 : decode M_m_readOne.2.1 1 = .ok (.istore_n 1, 1) := by decide +kernel
theorem D_m_readOne_2 : decode M_m_readOne.2.1 2 = .ok (.iload_n 1, 1) := by decide +kernel
theorem D_m_readOne_3 : decode M_m_readOne.2.1 3 = .ok (.aload_n 0, 1) := by decide +kernel
theorem D_m_readOne_4 : decode M_m_readOne.2.1 4 = .ok (.getfield 109, 3) := by decide +kernel
theorem D_m_readOne_7 : decode M_m_readOne.2.1 7 = .ok (.if_icmp .ge 46, 3) := by decide +kernel
theorem D_m_readOne_10 : decode M_m_readOne.2.1 10 = .ok (.aload_n 0, 1) := by decide +kernel
theorem D_m_readOne_11 : decode M_m_readOne.2.1 11 = .ok (.aload_n 0, 1) := by decide +kernel
theorem D_m_readOne_12 : decode M_m_readOne.2.1 12 = .ok (.getfield 102, 3) := by decide +kernel
theorem D_m_readOne_15 : decode M_m_readOne.2.1 15 = .ok (.ifCond .ne 24, 3) := by decide +kernel
theorem D_m_readOne_18 : decode M_m_readOne.2.1 18 = .ok (.aload_n 0, 1) := by decide +kernel
theorem D_m_readOne_19 : decode M_m_readOne.2.1 19 = .ok (.getfield 92, 3) := by decide +kernel
theorem D_m_readOne_22 : decode M_m_readOne.2.1 22 = .ok (.iconst 2, 1) := by decide +kernel
theorem D_m_readOne_23 : decode M_m_readOne.2.1 23 = .ok (.if_icmp .ne 20, 3) := by decide +kernel
theorem D_m_readOne_26 : decode M_m_readOne.2.1 26 = .ok (.aload_n 0, 1) := by decide +kernel
theorem D_m_readOne_27 : decode M_m_readOne.2.1 27 = .ok (.getfield 89, 3) := by decide +kernel
theorem D_m_readOne_30 : decode M_m_readOne.2.1 30 = .ok (.aload_n 0, 1) := by decide +kernel
theorem D_m_readOne_31 : decode M_m_readOne.2.1 31 = .ok (.getfield 45, 3) := by decide +kernel
theorem D_m_readOne_34 : decode M_m_readOne.2.1 34 = .ok (.iload_n 1, 1) := by decide +kernel
theorem D_m_readOne_35 : decode M_m_readOne.2.1 35 = .ok (.iaload, 1) := by decide +kernel
theorem D_m_readOne_36 : decode M_m_readOne.2.1 36 = .ok (.if_icmp .ne 7, 3) := by decide +kernel
theorem D_m_readOne_39 : decode M_m_readOne.2.1 39 = .ok (.iconst 1, 1) := by decide +kernel
theorem D_m_readOne_40 : decode M_m_readOne.2.1 40 = .ok (.goto 4, 3) := by decide +kernel
theorem D_m_readOne_43 : decode M_m_readOne.2.1 43 = .ok (.iconst 0, 1) := by decide +kernel
theorem D_m_readOne_44 : decode M_m_readOne.2.1 44 = .ok (.putfield 102, 3) := by decide +kernel
theorem D_m_readOne_47 : decode M_m_readOne.2.1 47 = .ok (.iinc 1 1, 3) := by decide +kernel
theorem D_m_readOne_50 : decode M_m_readOne.2.1 50 = .ok (.goto (-48), 3) := by decide +kernel
theorem D_m_readOne_53 : decode M_m_readOne.2.1 53 = .ok (.aload_n 0, 1) := by decide +kernel
theorem D_m_readOne_54 : decode M_m_readOne.2.1 54 = .ok (.getfield 45, 3) := by decide +kernel
theorem D_m_readOne_57 : decode M_m_readOne.2.1 57 = .ok (.aload_n 0, 1) := by decide +kernel
theorem D_m_readOne_58 : decode M_m_readOne.2.1 58 = .ok (.getfield 109, 3) := by decide +kernel
theorem D_m_readOne_61 : decode M_m_readOne.2.1 61 = .ok (.aload_n 0, 1) := by decide +kernel
theorem D_m_readOne_62 : decode M_m_readOne.2.1 62 = .ok (.iconst 0, 1) := by decide +kernel
theorem D_m_readOne_63 : decode M_m_readOne.2.1 63 = .ok (.aload_n 0, 1) := by decide +kernel
theorem D_m_readOne_64 : decode M_m_readOne.2.1 64 = .ok (.getfield 112, 3) := by decide +kernel
theorem D_m_readOne_67 : decode M_m_readOne.2.1 67 = .ok (.iconst 1, 1) := by decide +kernel
theorem D_m_readOne_68 : decode M_m_readOne.2.1 68 = .ok (.isub, 1) := by decide +kernel
theorem D_m_readOne_69 : decode M_m_readOne.2.1 69 = .ok (.invokevirtual 115, 3) := by decide +kernel
theorem D_m_readOne_72 : decode M_m_readOne.2.1 72 = .ok (.iastore, 1) := by decide +kernel
theorem D_m_readOne_73 : decode M_m_readOne.2.1 73 = .ok (.aload_n 0, 1) := by decide +kernel
theorem D_m_readOne_74 : decode M_m_readOne.2.1 74 = .ok (.getfield 48, 3) := by decide +kernel
theorem D_m_readOne_77 : decode M_m_readOne.2.1 77 = .ok (.aload_n 0, 1) := by decide +kernel
theorem D_m_readOne_78 : decode M_m_readOne.2.1 78 = .ok (.getfield 109, 3) := by decide +kernel
theorem D_m_readOne_81 : decode M_m_readOne.2.1 81 = .ok (.aload_n 0, 1) := by decide +kernel
theorem D_m_readOne_82 : decode M_m_readOne.2.1 82 = .ok (.iconst 1, 1) := by decide +kernel
theorem D_m_readOne_83 : decode M_m_readOne.2.1 83 = .ok (.iconst 5, 1) := by decide +kernel
theorem D_m_readOne_84 : decode M_m_readOne.2.1 84 = .ok (.invokevirtual 115, 3) := by decide +kernel
theorem D_m_readOne_87 : decode M_m_readOne.2.1 87 = .ok (.iastore, 1) := by decide +kernel
theorem D_m_readOne_88 : decode M_m_readOne.2.1 88 = .ok (.aload_n 0, 1) := by decide +kernel
theorem D_m_readOne_89 : decode M_m_readOne.2.1 89 = .ok (.dup, 1) := by decide +kernel
theorem D_m_readOne_90 : decode M_m_readOne.2.1 90 = .ok (.getfield 109, 3) := by decide +kernel
theorem D_m_readOne_93 : decode M_m_readOne.2.1 93 = .ok (.iconst 1, 1) := by decide +kernel
theorem D_m_readOne_94 : decode M_m_readOne.2.1 94 = .ok (.iadd, 1) := by decide +kernel
theorem D_m_readOne_95 : decode M_m_readOne.2.1 95 = .ok (.putfield 109, 3) := by decide +kernel
theorem D_m_readOne_98 : decode M_m_readOne.2.1 98 = .ok (.return_, 1) := by decide +kernel
theorem D_m_mayBegin_0 : decode M_m_mayBegin.2.1 0 = .ok (.iload_n 1, 1) := by decide +kernel
theorem D_m_mayBegin_1 : decode M_m_mayBegin.2.1 1 = .ok (.lookupswitch 99 #[(99, 43), (100, 71), (107, 58), (112, 84)], 43) := by decide +kernel
theorem D_m_mayBegin_44 : decode M_m_mayBegin.2.1 44 = .ok (.aload_n 0, 1) := by decide +kernel
theorem D_m_mayBegin_45 : decode M_m_mayBegin.2.1 45 = .ok (.getfield 112, 3) := by decide +kernel
theorem D_m_mayBegin_48 : decode M_m_mayBegin.2.1 48 = .ok (.bipush 12, 2) := by decide +kernel
theorem D_m_mayBegin_50 : decode M_m_mayBegin.2.1 50 = .ok (.if_icmp .ge 7, 3) := by decide +kernel
theorem D_m_mayBegin_53 : decode M_m_mayBegin.2.1 53 = .ok (.iconst 1, 1) := by decide +kernel
theorem D_m_mayBegin_54 : decode M_m_mayBegin.2.1 54 = .ok (.goto 4, 3) := by decide +kernel
theorem D_m_mayBegin_57 : decode M_m_mayBegin.2.1 57 = .ok (.iconst 0, 1) := by decide +kernel
theorem D_m_mayBegin_58 : decode M_m_mayBegin.2.1 58 = .ok (.ireturn, 1) := by decide +kernel
theorem D_m_mayBegin_59 : decode M_m_mayBegin.2.1 59 = .ok (.aload_n 0, 1) := by decide +kernel
theorem D_m_mayBegin_60 : decode M_m_mayBegin.2.1 60 = .ok (.getfield 119, 3) := by decide +kernel
theorem D_m_mayBegin_63 : decode M_m_mayBegin.2.1 63 = .ok (.ifCond .ge 7, 3) := by decide +kernel
theorem D_m_mayBegin_66 : decode M_m_mayBegin.2.1 66 = .ok (.iconst 1, 1) := by decide +kernel
theorem D_m_mayBegin_67 : decode M_m_mayBegin.2.1 67 = .ok (.goto 4, 3) := by decide +kernel
theorem D_m_mayBegin_70 : decode M_m_mayBegin.2.1 70 = .ok (.iconst 0, 1) := by decide +kernel
theorem D_m_mayBegin_71 : decode M_m_mayBegin.2.1 71 = .ok (.ireturn, 1) := by decide +kernel
theorem D_m_mayBegin_72 : decode M_m_mayBegin.2.1 72 = .ok (.aload_n 0, 1) := by decide +kernel
theorem D_m_mayBegin_73 : decode M_m_mayBegin.2.1 73 = .ok (.getfield 122, 3) := by decide +kernel
theorem D_m_mayBegin_76 : decode M_m_mayBegin.2.1 76 = .ok (.ifCond .ge 7, 3) := by decide +kernel
theorem D_m_mayBegin_79 : decode M_m_mayBegin.2.1 79 = .ok (.iconst 1, 1) := by decide +kernel
theorem D_m_mayBegin_80 : decode M_m_mayBegin.2.1 80 = .ok (.goto 4, 3) := by decide +kernel
theorem D_m_mayBegin_83 : decode M_m_mayBegin.2.1 83 = .ok (.iconst 0, 1) := by decide +kernel
theorem D_m_mayBegin_84 : decode M_m_mayBegin.2.1 84 = .ok (.ireturn, 1) := by decide +kernel
theorem D_m_mayBegin_85 : decode M_m_mayBegin.2.1 85 = .ok (.aload_n 0, 1) := by decide +kernel
theorem D_m_mayBegin_86 : decode M_m_mayBegin.2.1 86 = .ok (.getfield 109, 3) := by decide +kernel
theorem D_m_mayBegin_89 : decode M_m_mayBegin.2.1 89 = .ok (.bipush 6, 2) := by decide +kernel
theorem D_m_mayBegin_91 : decode M_m_mayBegin.2.1 91 = .ok (.if_icmp .ge 7, 3) := by decide +kernel
theorem D_m_mayBegin_94 : decode M_m_mayBegin.2.1 94 = .ok (.iconst 1, 1) := by decide +kernel
theorem D_m_mayBegin_95 : decode M_m_mayBegin.2.1 95 = .ok (.goto 4, 3) := by decide +kernel
theorem D_m_mayBegin_98 : decode M_m_mayBegin.2.1 98 = .ok (.iconst 0, 1) := by decide +kernel
theorem D_m_mayBegin_99 : decode M_m_mayBegin.2.1 99 = .ok (.ireturn, 1) := by decide +kernel
theorem D_m_mayBegin_100 : decode M_m_mayBegin.2.1 100 = .ok (.iconst 0, 1) := by decide +kernel
theorem D_m_mayBegin_101 : decode M_m_mayBegin.2.1 101 = .ok (.ireturn, 1) := by decide +kernel
theorem D_m_readItem_0 : decode M_m_readItem.2.1 0 = .ok (.aload_n 0, 1) := by decide +kernel
theorem D_m_readItem_1 : decode M_m_readItem.2.1 1 = .ok (.getfield 89, 3) := by decide +kernel
theorem D_m_readItem_4 : decode M_m_readItem.2.1 4 = .ok (.istore_n 1, 1) := by decide +kernel
theorem D_m_readItem_5 : decode M_m_readItem.2.1 5 = .ok (.aload_n 0, 1) := by decide +kernel
theorem D_m_readItem_6 : decode M_m_readItem.2.1 6 = .ok (.getfield 92, 3) := by decide +kernel
theorem D_m_readItem_9 : decode M_m_readItem.2.1 9 = .ok (.iconst 1, 1) := by decide +kernel
theorem D_m_readItem_10 : decode M_m_readItem.2.1 10 = .ok (.if_icmp .ne 11, 3) := by decide +kernel
theorem D_m_readItem_13 : decode M_m_readItem.2.1 13 = .ok (.aload_n 0, 1) := by decide +kernel
theorem D_m_readItem_14 : decode M_m_readItem.2.1 14 = .ok (.iload_n 1, 1) := by decide +kernel
theorem D_m_readItem_15 : decode M_m_readItem.2.1 15 = .ok (.invokevirtual 125, 3) := by decide +kernel
theorem D_m_readItem_18 : decode M_m_readItem.2.1 18 = .ok (.ifCond .ne 9, 3) := by decide +kernel
theorem D_m_readItem_21 : decode M_m_readItem.2.1 21 = .ok (.aload_n 0, 1) := by decide +kernel
theorem D_m_readItem_22 : decode M_m_readItem.2.1 22 = .ok (.iconst 1, 1) := by decide +kernel
theorem D_m_readItem_23 : decode M_m_readItem.2.1 23 = .ok (.putfield 102, 3) := by decide +kernel
theorem D_m_readItem_26 : decode M_m_readItem.2.1 26 = .ok (.return_, 1) := by decide +kernel
theorem D_m_readItem_27 : decode M_m_readItem.2.1 27 = .ok (.aload_n 0, 1) := by decide +kernel
theorem D_m_readItem_28 : decode M_m_readItem.2.1 28 = .ok (.invokevirtual 106, 3) := by decide +kernel
theorem D_m_readItem_31 : decode M_m_readItem.2.1 31 = .ok (.iload_n 1, 1) := by decide +kernel
theorem D_m_readItem_32 : decode M_m_readItem.2.1 32 = .ok (.bipush 99, 2) := by decide +kernel
theorem D_m_readItem_34 : decode M_m_readItem.2.1 34 = .ok (.if_icmp .ne 31, 3) := by decide +kernel
theorem D_m_readItem_37 : decode M_m_readItem.2.1 37 = .ok (.aload_n 0, 1) := by decide +kernel
theorem D_m_readItem_38 : decode M_m_readItem.2.1 38 = .ok (.getfield 42, 3) := by decide +kernel
theorem D_m_readItem_41 : decode M_m_readItem.2.1 41 = .ok (.aload_n 0, 1) := by decide +kernel
theorem D_m_readItem_42 : decode M_m_readItem.2.1 42 = .ok (.getfield 112, 3) := by decide +kernel
theorem D_m_readItem_45 : decode M_m_readItem.2.1 45 = .ok (.aload_n 0, 1) := by decide +kernel
theorem D_m_readItem_46 : decode M_m_readItem.2.1 46 = .ok (.iconst 0, 1) := by decide +kernel
theorem D_m_readItem_47 : decode M_m_readItem.2.1 47 = .ok (.iconst 5, 1) := by decide +kernel
theorem D_m_readItem_48 : decode M_m_readItem.2.1 48 = .ok (.invokevirtual 115, 3) := by decide +kernel
theorem D_m_readItem_51 : decode M_m_readItem.2.1 51 = .ok (.iastore, 1) := by decide +kernel
theorem D_m_readItem_52 : decode M_m_readItem.2.1 52 = .ok (.aload_n 0, 1) := by decide +kernel
theorem D_m_readItem_53 : decode M_m_readItem.2.1 53 = .ok (.dup, 1) := by decide +kernel
theorem D_m_readItem_54 : decode M_m_readItem.2.1 54 = .ok (.getfield 112, 3) := by decide +kernel
theorem D_m_readItem_57 : decode M_m_readItem.2.1 57 = .ok (.iconst 1, 1) := by decide +kernel
theorem D_m_readItem_58 : decode M_m_readItem.2.1 58 = .ok (.iadd, 1) := by decide +kernel
theorem D_m_readItem_59 : decode M_m_readItem.2.1 59 = .ok (.putfield 112, 3) := by decide +kernel
theorem D_m_readItem_62 : decode M_m_readItem.2.1 62 = .ok (.goto 47, 3) := by decide +kernel
theorem D_m_readItem_65 : decode M_m_readItem.2.1 65 = .ok (.iload_n 1, 1) := by decide +kernel
theorem D_m_readItem_66 : decode M_m_readItem.2.1 66 = .ok (.bipush 107, 2) := by decide +kernel
theorem D_m_readItem_68 : decode M_m_readItem.2.1 68 = .ok (.if_icmp .ne 17, 3) := by decide +kernel
theorem D_m_readItem_71 : decode M_m_readItem.2.1 71 = .ok (.aload_n 0, 1) := by decide +kernel
theorem D_m_readItem_72 : decode M_m_readItem.2.1 72 = .ok (.aload_n 0, 1) := by decide +kernel
theorem D_m_readItem_73 : decode M_m_readItem.2.1 73 = .ok (.iconst 0, 1) := by decide +kernel
theorem D_m_readItem_74 : decode M_m_readItem.2.1 74 = .ok (.bipush 9, 2) := by decide +kernel
theorem D_m_readItem_76 : decode M_m_readItem.2.1 76 = .ok (.invokevirtual 115, 3) := by decide +kernel
theorem D_m_readItem_79 : decode M_m_readItem.2.1 79 = .ok (.putfield 119, 3) := by decide +kernel
theorem D_m_readItem_82 : decode M_m_readItem.2.1 82 = .ok (.goto 27, 3) := by decide +kernel
theorem D_m_readItem_85 : decode M_m_readItem.2.1 85 = .ok (.iload_n 1, 1) := by decide +kernel
theorem D_m_readItem_86 : decode M_m_readItem.2.1 86 = .ok (.bipush 100, 2) := by decide +kernel
theorem D_m_readItem_88 : decode M_m_readItem.2.1 88 = .ok (.if_icmp .ne 17, 3) := by decide +kernel
theorem D_m_readItem_91 : decode M_m_readItem.2.1 91 = .ok (.aload_n 0, 1) := by decide +kernel
theorem D_m_readItem_92 : decode M_m_readItem.2.1 92 = .ok (.aload_n 0, 1) := by decide +kernel
theorem D_m_readItem_93 : decode M_m_readItem.2.1 93 = .ok (.iconst 1, 1) := by decide +kernel
theorem D_m_readItem_94 : decode M_m_readItem.2.1 94 = .ok (.bipush 9, 2) := by decide +kernel
theorem D_m_readItem_96 : decode M_m_readItem.2.1 96 = .ok (.invokevirtual 115, 3) := by decide +kernel
theorem D_m_readItem_99 : decode M_m_readItem.2.1 99 = .ok (.putfield 122, 3) := by decide +kernel
theorem D_m_readItem_102 : decode M_m_readItem.2.1 102 = .ok (.goto 7, 3) := by decide +kernel
theorem D_m_readItem_105 : decode M_m_readItem.2.1 105 = .ok (.aload_n 0, 1) := by decide +kernel
theorem D_m_readItem_106 : decode M_m_readItem.2.1 106 = .ok (.invokevirtual 128, 3) := by decide +kernel
theorem D_m_readItem_109 : decode M_m_readItem.2.1 109 = .ok (.aload_n 0, 1) := by decide +kernel
theorem D_m_readItem_110 : decode M_m_readItem.2.1 110 = .ok (.aload_n 0, 1) := by decide +kernel
theorem D_m_readItem_111 : decode M_m_readItem.2.1 111 = .ok (.getfield 102, 3) := by decide +kernel
theorem D_m_readItem_114 : decode M_m_readItem.2.1 114 = .ok (.ifCond .ne 11, 3) := by decide +kernel
theorem D_m_readItem_117 : decode M_m_readItem.2.1 117 = .ok (.aload_n 0, 1) := by decide +kernel
theorem D_m_readItem_118 : decode M_m_readItem.2.1 118 = .ok (.getfield 92, 3) := by decide +kernel
theorem D_m_readItem_121 : decode M_m_readItem.2.1 121 = .ok (.iconst 3, 1) := by decide +kernel
theorem D_m_readItem_122 : decode M_m_readItem.2.1 122 = .ok (.if_icmp .eq 7, 3) := by decide +kernel
theorem D_m_readItem_125 : decode M_m_readItem.2.1 125 = .ok (.iconst 1, 1) := by decide +kernel
theorem D_m_readItem_126 : decode M_m_readItem.2.1 126 = .ok (.goto 4, 3) := by decide +kernel
theorem D_m_readItem_129 : decode M_m_readItem.2.1 129 = .ok (.iconst 0, 1) := by decide +kernel
theorem D_m_readItem_130 : decode M_m_readItem.2.1 130 = .ok (.putfield 102, 3) := by decide +kernel
theorem D_m_readItem_133 : decode M_m_readItem.2.1 133 = .ok (.aload_n 0, 1) := by decide +kernel
theorem D_m_readItem_134 : decode M_m_readItem.2.1 134 = .ok (.getfield 102, 3) := by decide +kernel
theorem D_m_readItem_137 : decode M_m_readItem.2.1 137 = .ok (.ifCond .ne 7, 3) := by decide +kernel
theorem D_m_readItem_140 : decode M_m_readItem.2.1 140 = .ok (.aload_n 0, 1) := by decide +kernel
theorem D_m_readItem_141 : decode M_m_readItem.2.1 141 = .ok (.invokevirtual 106, 3) := by decide +kernel
theorem D_m_readItem_144 : decode M_m_readItem.2.1 144 = .ok (.return_, 1) := by decide +kernel
theorem D_m_rose_0 : decode M_m_rose.2.1 0 = .ok (.aload_n 0, 1) := by decide +kernel
theorem D_m_rose_1 : decode M_m_rose.2.1 1 = .ok (.iconst 0, 1) := by decide +kernel
theorem D_m_rose_2 : decode M_m_rose.2.1 2 = .ok (.putfield 79, 3) := by decide +kernel
theorem D_m_rose_5 : decode M_m_rose.2.1 5 = .ok (.aload_n 0, 1) := by decide +kernel
theorem D_m_rose_6 : decode M_m_rose.2.1 6 = .ok (.iconst 0, 1) := by decide +kernel
theorem D_m_rose_7 : decode M_m_rose.2.1 7 = .ok (.putfield 102, 3) := by decide +kernel
theorem D_m_rose_10 : decode M_m_rose.2.1 10 = .ok (.aload_n 0, 1) := by decide +kernel
theorem D_m_rose_11 : decode M_m_rose.2.1 11 = .ok (.iconst 0, 1) := by decide +kernel
theorem D_m_rose_12 : decode M_m_rose.2.1 12 = .ok (.putfield 131, 3) := by decide +kernel
theorem D_m_rose_15 : decode M_m_rose.2.1 15 = .ok (.aload_n 0, 1) := by decide +kernel
theorem D_m_rose_16 : decode M_m_rose.2.1 16 = .ok (.iconst 0, 1) := by decide +kernel
theorem D_m_rose_17 : decode M_m_rose.2.1 17 = .ok (.putfield 112, 3) := by decide +kernel
theorem D_m_rose_20 : decode M_m_rose.2.1 20 = .ok (.aload_n 0, 1) := by decide +kernel
theorem D_m_rose_21 : decode M_m_rose.2.1 21 = .ok (.iconst (-1), 1) := by decide +kernel
theorem D_m_rose_22 : decode M_m_rose.2.1 22 = .ok (.putfield 119, 3) := by decide +kernel
theorem D_m_rose_25 : decode M_m_rose.2.1 25 = .ok (.aload_n 0, 1) := by decide +kernel
theorem D_m_rose_26 : decode M_m_rose.2.1 26 = .ok (.iconst (-1), 1) := by decide +kernel
theorem D_m_rose_27 : decode M_m_rose.2.1 27 = .ok (.putfield 122, 3) := by decide +kernel
theorem D_m_rose_30 : decode M_m_rose.2.1 30 = .ok (.aload_n 0, 1) := by decide +kernel
theorem D_m_rose_31 : decode M_m_rose.2.1 31 = .ok (.iconst 0, 1) := by decide +kernel
theorem D_m_rose_32 : decode M_m_rose.2.1 32 = .ok (.putfield 109, 3) := by decide +kernel
theorem D_m_rose_35 : decode M_m_rose.2.1 35 = .ok (.aload_n 0, 1) := by decide +kernel
theorem D_m_rose_36 : decode M_m_rose.2.1 36 = .ok (.invokevirtual 106, 3) := by decide +kernel
theorem D_m_rose_39 : decode M_m_rose.2.1 39 = .ok (.aload_n 0, 1) := by decide +kernel
theorem D_m_rose_40 : decode M_m_rose.2.1 40 = .ok (.getfield 92, 3) := by decide +kernel
theorem D_m_rose_43 : decode M_m_rose.2.1 43 = .ok (.ifCond .eq 27, 3) := by decide +kernel
theorem D_m_rose_46 : decode M_m_rose.2.1 46 = .ok (.aload_n 0, 1) := by decide +kernel
theorem D_m_rose_47 : decode M_m_rose.2.1 47 = .ok (.getfield 102, 3) := by decide +kernel
theorem D_m_rose_50 : decode M_m_rose.2.1 50 = .ok (.ifCond .ne 20, 3) := by decide +kernel
theorem D_m_rose_53 : decode M_m_rose.2.1 53 = .ok (.aload_n 0, 1) := by decide +kernel
theorem D_m_rose_54 : decode M_m_rose.2.1 54 = .ok (.invokevirtual 134, 3) := by decide +kernel
theorem D_m_rose_57 : decode M_m_rose.2.1 57 = .ok (.aload_n 0, 1) := by decide +kernel
theorem D_m_rose_58 : decode M_m_rose.2.1 58 = .ok (.dup, 1) := by decide +kernel
theorem D_m_rose_59 : decode M_m_rose.2.1 59 = .ok (.getfield 131, 3) := by decide +kernel
theorem D_m_rose_62 : decode M_m_rose.2.1 62 = .ok (.iconst 1, 1) := by decide +kernel
theorem D_m_rose_63 : decode M_m_rose.2.1 63 = .ok (.iadd, 1) := by decide +kernel
theorem D_m_rose_64 : decode M_m_rose.2.1 64 = .ok (.putfield 131, 3) := by decide +kernel
theorem D_m_rose_67 : decode M_m_rose.2.1 67 = .ok (.goto (-28), 3) := by decide +kernel
theorem D_m_rose_70 : decode M_m_rose.2.1 70 = .ok (.aload_n 0, 1) := by decide +kernel
theorem D_m_rose_71 : decode M_m_rose.2.1 71 = .ok (.getfield 102, 3) := by decide +kernel
theorem D_m_rose_74 : decode M_m_rose.2.1 74 = .ok (.ifCond .eq 11, 3) := by decide +kernel
theorem D_m_rose_77 : decode M_m_rose.2.1 77 = .ok (.bipush (-10), 2) := by decide +kernel
theorem D_m_rose_79 : decode M_m_rose.2.1 79 = .ok (.aload_n 0, 1) := by decide +kernel
theorem D_m_rose_80 : decode M_m_rose.2.1 80 = .ok (.getfield 86, 3) := by decide +kernel
theorem D_m_rose_83 : decode M_m_rose.2.1 83 = .ok (.isub, 1) := by decide +kernel
theorem D_m_rose_84 : decode M_m_rose.2.1 84 = .ok (.ireturn, 1) := by decide +kernel
theorem D_m_rose_85 : decode M_m_rose.2.1 85 = .ok (.aload_n 0, 1) := by decide +kernel
theorem D_m_rose_86 : decode M_m_rose.2.1 86 = .ok (.invokevirtual 137, 3) := by decide +kernel
theorem D_m_rose_89 : decode M_m_rose.2.1 89 = .ok (.aload_n 0, 1) := by decide +kernel
theorem D_m_rose_90 : decode M_m_rose.2.1 90 = .ok (.getfield 131, 3) := by decide +kernel
theorem D_m_rose_93 : decode M_m_rose.2.1 93 = .ok (.ireturn, 1) := by decide +kernel
theorem D_m_settles_0 : decode M_m_settles.2.1 0 = .ok (.aload_n 0, 1) := by decide +kernel
theorem D_m_settles_1 : decode M_m_settles.2.1 1 = .ok (.aload_n 0, 1) := by decide +kernel
theorem D_m_settles_2 : decode M_m_settles.2.1 2 = .ok (.getfield 112, 3) := by decide +kernel
theorem D_m_settles_5 : decode M_m_settles.2.1 5 = .ok (.putfield 73, 3) := by decide +kernel
theorem D_m_settles_8 : decode M_m_settles.2.1 8 = .ok (.iconst 0, 1) := by decide +kernel
theorem D_m_settles_9 : decode M_m_settles.2.1 9 = .ok (.istore_n 1, 1) := by decide +kernel
theorem D_m_settles_10 : decode M_m_settles.2.1 10 = .ok (.iload_n 1, 1) := by decide +kernel
theorem D_m_settles_11 : decode M_m_settles.2.1 11 = .ok (.bipush 12, 2) := by decide +kernel
theorem D_m_settles_13 : decode M_m_settles.2.1 13 = .ok (.if_icmp .ge 21, 3) := by decide +kernel
theorem D_m_settles_16 : decode M_m_settles.2.1 16 = .ok (.aload_n 0, 1) := by decide +kernel
theorem D_m_settles_17 : decode M_m_settles.2.1 17 = .ok (.getfield 7, 3) := by decide +kernel
theorem D_m_settles_20 : decode M_m_settles.2.1 20 = .ok (.iload_n 1, 1) := by decide +kernel
theorem D_m_settles_21 : decode M_m_settles.2.1 21 = .ok (.aload_n 0, 1) := by decide +kernel
theorem D_m_settles_22 : decode M_m_settles.2.1 22 = .ok (.getfield 42, 3) := by decide +kernel
theorem D_m_settles_25 : decode M_m_settles.2.1 25 = .ok (.iload_n 1, 1) := by decide +kernel
theorem D_m_settles_26 : decode M_m_settles.2.1 26 = .ok (.iaload, 1) := by decide +kernel
theorem D_m_settles_27 : decode M_m_settles.2.1 27 = .ok (.iastore, 1) := by decide +kernel
theorem D_m_settles_28 : decode M_m_settles.2.1 28 = .ok (.iinc 1 1, 3) := by decide +kernel
theorem D_m_settles_31 : decode M_m_settles.2.1 31 = .ok (.goto (-21), 3) := by decide +kernel
theorem D_m_settles_34 : decode M_m_settles.2.1 34 = .ok (.aload_n 0, 1) := by decide +kernel
theorem D_m_settles_35 : decode M_m_settles.2.1 35 = .ok (.aload_n 0, 1) := by decide +kernel
theorem D_m_settles_36 : decode M_m_settles.2.1 36 = .ok (.getfield 119, 3) := by decide +kernel
theorem D_m_settles_39 : decode M_m_settles.2.1 39 = .ok (.ifCond .ge 8, 3) := by decide +kernel
theorem D_m_settles_42 : decode M_m_settles.2.1 42 = .ok (.bipush 8, 2) := by decide +kernel
theorem D_m_settles_44 : decode M_m_settles.2.1 44 = .ok (.goto 7, 3) := by decide +kernel
theorem D_m_settles_47 : decode M_m_settles.2.1 47 = .ok (.aload_n 0, 1) := by decide +kernel
theorem D_m_settles_48 : decode M_m_settles.2.1 48 = .ok (.getfield 119, 3) := by decide +kernel
theorem D_m_settles_51 : decode M_m_settles.2.1 51 = .ok (.putfield 13, 3) := by decide +kernel
theorem D_m_settles_54 : decode M_m_settles.2.1 54 = .ok (.aload_n 0, 1) := by decide +kernel
theorem D_m_settles_55 : decode M_m_settles.2.1 55 = .ok (.aload_n 0, 1) := by decide +kernel
theorem D_m_settles_56 : decode M_m_settles.2.1 56 = .ok (.getfield 122, 3) := by decide +kernel
theorem D_m_settles_59 : decode M_m_settles.2.1 59 = .ok (.ifCond .ge 7, 3) := by decide +kernel
theorem D_m_settles_62 : decode M_m_settles.2.1 62 = .ok (.iconst 1, 1) := by decide +kernel
theorem D_m_settles_63 : decode M_m_settles.2.1 63 = .ok (.goto 7, 3) := by decide +kernel
theorem D_m_settles_66 : decode M_m_settles.2.1 66 = .ok (.aload_n 0, 1) := by decide +kernel
theorem D_m_settles_67 : decode M_m_settles.2.1 67 = .ok (.getfield 122, 3) := by decide +kernel
theorem D_m_settles_70 : decode M_m_settles.2.1 70 = .ok (.putfield 17, 3) := by decide +kernel
theorem D_m_settles_73 : decode M_m_settles.2.1 73 = .ok (.aload_n 0, 1) := by decide +kernel
theorem D_m_settles_74 : decode M_m_settles.2.1 74 = .ok (.aload_n 0, 1) := by decide +kernel
theorem D_m_settles_75 : decode M_m_settles.2.1 75 = .ok (.getfield 109, 3) := by decide +kernel
theorem D_m_settles_78 : decode M_m_settles.2.1 78 = .ok (.putfield 66, 3) := by decide +kernel
theorem D_m_settles_81 : decode M_m_settles.2.1 81 = .ok (.iconst 0, 1) := by decide +kernel
theorem D_m_settles_82 : decode M_m_settles.2.1 82 = .ok (.istore_n 1, 1) := by decide +kernel
theorem D_m_settles_83 : decode M_m_settles.2.1 83 = .ok (.iload_n 1, 1) := by decide +kernel
theorem D_m_settles_84 : decode M_m_settles.2.1 84 = .ok (.sipush 573, 3) := by decide +kernel
theorem D_m_settles_87 : decode M_m_settles.2.1 87 = .ok (.if_icmp .ge 16, 3) := by decide +kernel
theorem D_m_settles_90 : decode M_m_settles.2.1 90 = .ok (.aload_n 0, 1) := by decide +kernel
theorem D_m_settles_91 : decode M_m_settles.2.1 91 = .ok (.getfield 23, 3) := by decide +kernel
theorem D_m_settles_94 : decode M_m_settles.2.1 94 = .ok (.iload_n 1, 1) := by decide +kernel
theorem D_m_settles_95 : decode M_m_settles.2.1 95 = .ok (.iconst 0, 1) := by decide +kernel
theorem D_m_settles_96 : decode M_m_settles.2.1 96 = .ok (.iastore, 1) := by decide +kernel
theorem D_m_settles_97 : decode M_m_settles.2.1 97 = .ok (.iinc 1 1, 3) := by decide +kernel
theorem D_m_settles_100 : decode M_m_settles.2.1 100 = .ok (.goto (-17), 3) := by decide +kernel
theorem D_m_settles_103 : decode M_m_settles.2.1 103 = .ok (.iconst 0, 1) := by decide +kernel
theorem D_m_settles_104 : decode M_m_settles.2.1 104 = .ok (.istore_n 1, 1) := by decide +kernel
theorem D_m_settles_105 : decode M_m_settles.2.1 105 = .ok (.iload_n 1, 1) := by decide +kernel
theorem D_m_settles_106 : decode M_m_settles.2.1 106 = .ok (.bipush 6, 2) := by decide +kernel
theorem D_m_settles_108 : decode M_m_settles.2.1 108 = .ok (.if_icmp .ge 47, 3) := by decide +kernel
theorem D_m_settles_111 : decode M_m_settles.2.1 111 = .ok (.aload_n 0, 1) := by decide +kernel
theorem D_m_settles_112 : decode M_m_settles.2.1 112 = .ok (.getfield 20, 3) := by decide +kernel
theorem D_m_settles_115 : decode M_m_settles.2.1 115 = .ok (.iload_n 1, 1) := by decide +kernel
theorem D_m_settles_116 : decode M_m_settles.2.1 116 = .ok (.aload_n 0, 1) := by decide +kernel
theorem D_m_settles_117 : decode M_m_settles.2.1 117 = .ok (.getfield 48, 3) := by decide +kernel
theorem D_m_settles_120 : decode M_m_settles.2.1 120 = .ok (.iload_n 1, 1) := by decide +kernel
theorem D_m_settles_121 : decode M_m_settles.2.1 121 = .ok (.iaload, 1) := by decide +kernel
theorem D_m_settles_122 : decode M_m_settles.2.1 122 = .ok (.iastore, 1) := by decide +kernel
theorem D_m_settles_123 : decode M_m_settles.2.1 123 = .ok (.aload_n 0, 1) := by decide +kernel
theorem D_m_settles_124 : decode M_m_settles.2.1 124 = .ok (.getfield 23, 3) := by decide +kernel
theorem D_m_settles_127 : decode M_m_settles.2.1 127 = .ok (.iconst 4, 1) := by decide +kernel
theorem D_m_settles_128 : decode M_m_settles.2.1 128 = .ok (.iload_n 1, 1) := by decide +kernel
theorem D_m_settles_129 : decode M_m_settles.2.1 129 = .ok (.iadd, 1) := by decide +kernel
theorem D_m_settles_130 : decode M_m_settles.2.1 130 = .ok (.iload_n 1, 1) := by decide +kernel
theorem D_m_settles_131 : decode M_m_settles.2.1 131 = .ok (.aload_n 0, 1) := by decide +kernel
theorem D_m_settles_132 : decode M_m_settles.2.1 132 = .ok (.getfield 66, 3) := by decide +kernel
theorem D_m_settles_135 : decode M_m_settles.2.1 135 = .ok (.if_icmp .ge 12, 3) := by decide +kernel
theorem D_m_settles_138 : decode M_m_settles.2.1 138 = .ok (.aload_n 0, 1) := by decide +kernel
theorem D_m_settles_139 : decode M_m_settles.2.1 139 = .ok (.getfield 45, 3) := by decide +kernel
theorem D_m_settles_142 : decode M_m_settles.2.1 142 = .ok (.iload_n 1, 1) := by decide +kernel
theorem D_m_settles_143 : decode M_m_settles.2.1 143 = .ok (.iaload, 1) := by decide +kernel
theorem D_m_settles_144 : decode M_m_settles.2.1 144 = .ok (.goto 4, 3) := by decide +kernel
theorem D_m_settles_147 : decode M_m_settles.2.1 147 = .ok (.iconst 0, 1) := by decide +kernel
theorem D_m_settles_148 : decode M_m_settles.2.1 148 = .ok (.iastore, 1) := by decide +kernel
theorem D_m_settles_149 : decode M_m_settles.2.1 149 = .ok (.iinc 1 1, 3) := by decide +kernel
theorem D_m_settles_152 : decode M_m_settles.2.1 152 = .ok (.goto (-47), 3) := by decide +kernel
theorem D_m_settles_155 : decode M_m_settles.2.1 155 = .ok (.aload_n 0, 1) := by decide +kernel
theorem D_m_settles_156 : decode M_m_settles.2.1 156 = .ok (.iconst 0, 1) := by decide +kernel
theorem D_m_settles_157 : decode M_m_settles.2.1 157 = .ok (.putfield 140, 3) := by decide +kernel
theorem D_m_settles_160 : decode M_m_settles.2.1 160 = .ok (.aload_n 0, 1) := by decide +kernel
theorem D_m_settles_161 : decode M_m_settles.2.1 161 = .ok (.iconst 0, 1) := by decide +kernel
theorem D_m_settles_162 : decode M_m_settles.2.1 162 = .ok (.putfield 143, 3) := by decide +kernel
theorem D_m_settles_165 : decode M_m_settles.2.1 165 = .ok (.aload_n 0, 1) := by decide +kernel
theorem D_m_settles_166 : decode M_m_settles.2.1 166 = .ok (.getfield 29, 3) := by decide +kernel
theorem D_m_settles_169 : decode M_m_settles.2.1 169 = .ok (.iconst 0, 1) := by decide +kernel
theorem D_m_settles_170 : decode M_m_settles.2.1 170 = .ok (.iconst 0, 1) := by decide +kernel
theorem D_m_settles_171 : decode M_m_settles.2.1 171 = .ok (.bastore, 1) := by decide +kernel
theorem D_m_settles_172 : decode M_m_settles.2.1 172 = .ok (.aload_n 0, 1) := by decide +kernel
theorem D_m_settles_173 : decode M_m_settles.2.1 173 = .ok (.getfield 29, 3) := by decide +kernel
theorem D_m_settles_176 : decode M_m_settles.2.1 176 = .ok (.iconst 1, 1) := by decide +kernel
theorem D_m_settles_177 : decode M_m_settles.2.1 177 = .ok (.iconst 0, 1) := by decide +kernel
theorem D_m_settles_178 : decode M_m_settles.2.1 178 = .ok (.bastore, 1) := by decide +kernel
theorem D_m_settles_179 : decode M_m_settles.2.1 179 = .ok (.aload_n 0, 1) := by decide +kernel
theorem D_m_settles_180 : decode M_m_settles.2.1 180 = .ok (.iconst 0, 1) := by decide +kernel
theorem D_m_settles_181 : decode M_m_settles.2.1 181 = .ok (.putfield 76, 3) := by decide +kernel
theorem D_m_settles_184 : decode M_m_settles.2.1 184 = .ok (.return_, 1) := by decide +kernel
theorem D_m_pane_0 : decode M_m_pane.2.1 0 = .ok (.aload_n 0, 1) := by decide +kernel
theorem D_m_pane_1 : decode M_m_pane.2.1 1 = .ok (.iload_n 1, 1) := by decide +kernel
theorem D_m_pane_2 : decode M_m_pane.2.1 2 = .ok (.invokevirtual 146, 3) := by decide +kernel
theorem D_m_pane_5 : decode M_m_pane.2.1 5 = .ok (.ifCond .eq 12, 3) := by decide +kernel
theorem D_m_pane_8 : decode M_m_pane.2.1 8 = .ok (.aload_n 0, 1) := by decide +kernel
theorem D_m_pane_9 : decode M_m_pane.2.1 9 = .ok (.getfield 7, 3) := by decide +kernel
theorem D_m_pane_12 : decode M_m_pane.2.1 12 = .ok (.iload_n 1, 1) := by decide +kernel
theorem D_m_pane_13 : decode M_m_pane.2.1 13 = .ok (.iaload, 1) := by decide +kernel
theorem D_m_pane_14 : decode M_m_pane.2.1 14 = .ok (.goto 4, 3) := by decide +kernel
theorem D_m_pane_17 : decode M_m_pane.2.1 17 = .ok (.iconst (-1), 1) := by decide +kernel
theorem D_m_pane_18 : decode M_m_pane.2.1 18 = .ok (.ireturn, 1) := by decide +kernel
theorem D_m_colourAt_0 : decode M_m_colourAt.2.1 0 = .ok (.aload_n 0, 1) := by decide +kernel
theorem D_m_colourAt_1 : decode M_m_colourAt.2.1 1 = .ok (.getfield 7, 3) := by decide +kernel
theorem D_m_colourAt_4 : decode M_m_colourAt.2.1 4 = .ok (.iload_n 1, 1) := by decide +kernel
theorem D_m_colourAt_5 : decode M_m_colourAt.2.1 5 = .ok (.aload_n 0, 1) := by decide +kernel
theorem D_m_colourAt_6 : decode M_m_colourAt.2.1 6 = .ok (.getfield 23, 3) := by decide +kernel
theorem D_m_colourAt_9 : decode M_m_colourAt.2.1 9 = .ok (.iconst 0, 1) := by decide +kernel
theorem D_m_colourAt_10 : decode M_m_colourAt.2.1 10 = .ok (.iaload, 1) := by decide +kernel
theorem D_m_colourAt_11 : decode M_m_colourAt.2.1 11 = .ok (.iadd, 1) := by decide +kernel
theorem D_m_colourAt_12 : decode M_m_colourAt.2.1 12 = .ok (.aload_n 0, 1) := by decide +kernel
theorem D_m_colourAt_13 : decode M_m_colourAt.2.1 13 = .ok (.getfield 23, 3) := by decide +kernel
theorem D_m_colourAt_16 : decode M_m_colourAt.2.1 16 = .ok (.iconst 1, 1) := by decide +kernel
theorem D_m_colourAt_17 : decode M_m_colourAt.2.1 17 = .ok (.iaload, 1) := by decide +kernel
theorem D_m_colourAt_18 : decode M_m_colourAt.2.1 18 = .ok (.iadd, 1) := by decide +kernel
theorem D_m_colourAt_19 : decode M_m_colourAt.2.1 19 = .ok (.iload_n 2, 1) := by decide +kernel
theorem D_m_colourAt_20 : decode M_m_colourAt.2.1 20 = .ok (.iadd, 1) := by decide +kernel
theorem D_m_colourAt_21 : decode M_m_colourAt.2.1 21 = .ok (.aload_n 0, 1) := by decide +kernel
theorem D_m_colourAt_22 : decode M_m_colourAt.2.1 22 = .ok (.getfield 73, 3) := by decide +kernel
theorem D_m_colourAt_25 : decode M_m_colourAt.2.1 25 = .ok (.irem, 1) := by decide +kernel
theorem D_m_colourAt_26 : decode M_m_colourAt.2.1 26 = .ok (.iaload, 1) := by decide +kernel
theorem D_m_colourAt_27 : decode M_m_colourAt.2.1 27 = .ok (.ireturn, 1) := by decide +kernel
theorem D_m_standsIn_0 : decode M_m_standsIn.2.1 0 = .ok (.aload_n 0, 1) := by decide +kernel
theorem D_m_standsIn_1 : decode M_m_standsIn.2.1 1 = .ok (.getfield 23, 3) := by decide +kernel
theorem D_m_standsIn_4 : decode M_m_standsIn.2.1 4 = .ok (.iconst 2, 1) := by decide +kernel
theorem D_m_standsIn_5 : decode M_m_standsIn.2.1 5 = .ok (.iaload, 1) := by decide +kernel
theorem D_m_standsIn_6 : decode M_m_standsIn.2.1 6 = .ok (.iconst 1, 1) := by decide +kernel
theorem D_m_standsIn_7 : decode M_m_standsIn.2.1 7 = .ok (.if_icmp .ne 7, 3) := by decide +kernel
theorem D_m_standsIn_10 : decode M_m_standsIn.2.1 10 = .ok (.iconst 0, 1) := by decide +kernel
theorem D_m_standsIn_11 : decode M_m_standsIn.2.1 11 = .ok (.goto 16, 3) := by decide +kernel
theorem D_m_standsIn_14 : decode M_m_standsIn.2.1 14 = .ok (.aload_n 0, 1) := by decide +kernel
theorem D_m_standsIn_15 : decode M_m_standsIn.2.1 15 = .ok (.aload_n 0, 1) := by decide +kernel
theorem D_m_standsIn_16 : decode M_m_standsIn.2.1 16 = .ok (.getfield 23, 3) := by decide +kernel
theorem D_m_standsIn_19 : decode M_m_standsIn.2.1 19 = .ok (.iconst 4, 1) := by decide +kernel
theorem D_m_standsIn_20 : decode M_m_standsIn.2.1 20 = .ok (.iload_n 1, 1) := by decide +kernel
theorem D_m_standsIn_21 : decode M_m_standsIn.2.1 21 = .ok (.iadd, 1) := by decide +kernel
theorem D_m_standsIn_22 : decode M_m_standsIn.2.1 22 = .ok (.iaload, 1) := by decide +kernel
theorem D_m_standsIn_23 : decode M_m_standsIn.2.1 23 = .ok (.iconst 0, 1) := by decide +kernel
theorem D_m_standsIn_24 : decode M_m_standsIn.2.1 24 = .ok (.invokevirtual 149, 3) := by decide +kernel
theorem D_m_standsIn_27 : decode M_m_standsIn.2.1 27 = .ok (.ireturn, 1) := by decide +kernel
theorem D_m_owedAll_0 : decode M_m_owedAll.2.1 0 = .ok (.iconst 0, 1) := by decide +kernel
theorem D_m_owedAll_1 : decode M_m_owedAll.2.1 1 = .ok (.istore_n 2, 1) := by decide +kernel
theorem D_m_owedAll_2 : decode M_m_owedAll.2.1 2 = .ok (.iconst 0, 1) := by decide +kernel
theorem D_m_owedAll_3 : decode M_m_owedAll.2.1 3 = .ok (.istore_n 3, 1) := by decide +kernel
theorem D_m_owedAll_4 : decode M_m_owedAll.2.1 4 = .ok (.iload_n 3, 1) := by decide +kernel
theorem D_m_owedAll_5 : decode M_m_owedAll.2.1 5 = .ok (.aload_n 0, 1) := by decide +kernel
theorem D_m_owedAll_6 : decode M_m_owedAll.2.1 6 = .ok (.getfield 66, 3) := by decide +kernel
theorem D_m_owedAll_9 : decode M_m_owedAll.2.1 9 = .ok (.if_icmp .ge 26, 3) := by decide +kernel
theorem D_m_owedAll_12 : decode M_m_owedAll.2.1 12 = .ok (.iload_n 2, 1) := by decide +kernel
theorem D_m_owedAll_13 : decode M_m_owedAll.2.1 13 = .ok (.aload_n 0, 1) := by decide +kernel
theorem D_m_owedAll_14 : decode M_m_owedAll.2.1 14 = .ok (.getfield 23, 3) := by decide +kernel
theorem D_m_owedAll_17 : decode M_m_owedAll.2.1 17 = .ok (.bipush 16, 2) := by decide +kernel
theorem D_m_owedAll_19 : decode M_m_owedAll.2.1 19 = .ok (.bipush 6, 2) := by decide +kernel
theorem D_m_owedAll_21 : decode M_m_owedAll.2.1 21 = .ok (.iload_n 1, 1) := by decide +kernel
theorem D_m_owedAll_22 : decode M_m_owedAll.2.1 22 = .ok (.imul, 1) := by decide +kernel
theorem D_m_owedAll_23 : decode M_m_owedAll.2.1 23 = .ok (.iadd, 1) := by decide +kernel
theorem D_m_owedAll_24 : decode M_m_owedAll.2.1 24 = .ok (.iload_n 3, 1) := by decide +kernel
theorem D_m_owedAll_25 : decode M_m_owedAll.2.1 25 = .ok (.iadd, 1) := by decide +kernel
theorem D_m_owedAll_26 : decode M_m_owedAll.2.1 26 = .ok (.iaload, 1) := by decide +kernel
theorem D_m_owedAll_27 : decode M_m_owedAll.2.1 27 = .ok (.iadd, 1) := by decide +kernel
theorem D_m_owedAll_28 : decode M_m_owedAll.2.1 28 = .ok (.istore_n 2, 1) := by decide +kernel
theorem D_m_owedAll_29 : decode M_m_owedAll.2.1 29 = .ok (.iinc 3 1, 3) := by decide +kernel
theorem D_m_owedAll_32 : decode M_m_owedAll.2.1 32 = .ok (.goto (-28), 3) := by decide +kernel
theorem D_m_owedAll_35 : decode M_m_owedAll.2.1 35 = .ok (.iload_n 2, 1) := by decide +kernel
theorem D_m_owedAll_36 : decode M_m_owedAll.2.1 36 = .ok (.ireturn, 1) := by decide +kernel
theorem D_m_one_0 : decode M_m_one.2.1 0 = .ok (.aload_n 0, 1) := by decide +kernel
theorem D_m_one_1 : decode M_m_one.2.1 1 = .ok (.iload_n 1, 1) := by decide +kernel
theorem D_m_one_2 : decode M_m_one.2.1 2 = .ok (.invokevirtual 152, 3) := by decide +kernel
theorem D_m_one_5 : decode M_m_one.2.1 5 = .ok (.ifCond .ne 5, 3) := by decide +kernel
theorem D_m_one_8 : decode M_m_one.2.1 8 = .ok (.iconst (-1), 1) := by decide +kernel
theorem D_m_one_9 : decode M_m_one.2.1 9 = .ok (.ireturn, 1) := by decide +kernel
theorem D_m_one_10 : decode M_m_one.2.1 10 = .ok (.iload_n 2, 1) := by decide +kernel
theorem D_m_one_11 : decode M_m_one.2.1 11 = .ok (.tableswitch 71 0 4 #[33, 42, 49, 55, 65], 33) := by decide +kernel
theorem D_m_one_44 : decode M_m_one.2.1 44 = .ok (.aload_n 0, 1) := by decide +kernel
theorem D_m_one_45 : decode M_m_one.2.1 45 = .ok (.getfield 23, 3) := by decide +kernel
theorem D_m_one_48 : decode M_m_one.2.1 48 = .ok (.iconst 4, 1) := by decide +kernel
theorem D_m_one_49 : decode M_m_one.2.1 49 = .ok (.iload_n 1, 1) := by decide +kernel
theorem D_m_one_50 : decode M_m_one.2.1 50 = .ok (.iadd, 1) := by decide +kernel
theorem D_m_one_51 : decode M_m_one.2.1 51 = .ok (.iaload, 1) := by decide +kernel
theorem D_m_one_52 : decode M_m_one.2.1 52 = .ok (.ireturn, 1) := by decide +kernel
theorem D_m_one_53 : decode M_m_one.2.1 53 = .ok (.aload_n 0, 1) := by decide +kernel
theorem D_m_one_54 : decode M_m_one.2.1 54 = .ok (.getfield 20, 3) := by decide +kernel
theorem D_m_one_57 : decode M_m_one.2.1 57 = .ok (.iload_n 1, 1) := by decide +kernel
theorem D_m_one_58 : decode M_m_one.2.1 58 = .ok (.iaload, 1) := by decide +kernel
theorem D_m_one_59 : decode M_m_one.2.1 59 = .ok (.ireturn, 1) := by decide +kernel
theorem D_m_one_60 : decode M_m_one.2.1 60 = .ok (.aload_n 0, 1) := by decide +kernel
theorem D_m_one_61 : decode M_m_one.2.1 61 = .ok (.iload_n 1, 1) := by decide +kernel
theorem D_m_one_62 : decode M_m_one.2.1 62 = .ok (.invokevirtual 155, 3) := by decide +kernel
theorem D_m_one_65 : decode M_m_one.2.1 65 = .ok (.ireturn, 1) := by decide +kernel
theorem D_m_one_66 : decode M_m_one.2.1 66 = .ok (.aload_n 0, 1) := by decide +kernel
theorem D_m_one_67 : decode M_m_one.2.1 67 = .ok (.getfield 23, 3) := by decide +kernel
theorem D_m_one_70 : decode M_m_one.2.1 70 = .ok (.bipush 10, 2) := by decide +kernel
theorem D_m_one_72 : decode M_m_one.2.1 72 = .ok (.iload_n 1, 1) := by decide +kernel
theorem D_m_one_73 : decode M_m_one.2.1 73 = .ok (.iadd, 1) := by decide +kernel
theorem D_m_one_74 : decode M_m_one.2.1 74 = .ok (.iaload, 1) := by decide +kernel
theorem D_m_one_75 : decode M_m_one.2.1 75 = .ok (.ireturn, 1) := by decide +kernel
theorem D_m_one_76 : decode M_m_one.2.1 76 = .ok (.aload_n 0, 1) := by decide +kernel
theorem D_m_one_77 : decode M_m_one.2.1 77 = .ok (.iload_n 1, 1) := by decide +kernel
theorem D_m_one_78 : decode M_m_one.2.1 78 = .ok (.invokevirtual 158, 3) := by decide +kernel
theorem D_m_one_81 : decode M_m_one.2.1 81 = .ok (.ireturn, 1) := by decide +kernel
theorem D_m_one_82 : decode M_m_one.2.1 82 = .ok (.iconst (-1), 1) := by decide +kernel
theorem D_m_one_83 : decode M_m_one.2.1 83 = .ok (.ireturn, 1) := by decide +kernel
theorem D_m_areTwo_0 : decode M_m_areTwo.2.1 0 = .ok (.aload_n 0, 1) := by decide +kernel
theorem D_m_areTwo_1 : decode M_m_areTwo.2.1 1 = .ok (.iload_n 1, 1) := by decide +kernel
theorem D_m_areTwo_2 : decode M_m_areTwo.2.1 2 = .ok (.invokevirtual 152, 3) := by decide +kernel
theorem D_m_areTwo_5 : decode M_m_areTwo.2.1 5 = .ok (.ifCond .eq 20, 3) := by decide +kernel
theorem D_m_areTwo_8 : decode M_m_areTwo.2.1 8 = .ok (.aload_n 0, 1) := by decide +kernel
theorem D_m_areTwo_9 : decode M_m_areTwo.2.1 9 = .ok (.iload_n 2, 1) := by decide +kernel
theorem D_m_areTwo_10 : decode M_m_areTwo.2.1 10 = .ok (.invokevirtual 152, 3) := by decide +kernel
theorem D_m_areTwo_13 : decode M_m_areTwo.2.1 13 = .ok (.ifCond .eq 12, 3) := by decide +kernel
theorem D_m_areTwo_16 : decode M_m_areTwo.2.1 16 = .ok (.iload_n 1, 1) := by decide +kernel
theorem D_m_areTwo_17 : decode M_m_areTwo.2.1 17 = .ok (.iload_n 2, 1) := by decide +kernel
theorem D_m_areTwo_18 : decode M_m_areTwo.2.1 18 = .ok (.if_icmp .eq 7, 3) := by decide +kernel
theorem D_m_areTwo_21 : decode M_m_areTwo.2.1 21 = .ok (.iconst 1, 1) := by decide +kernel
theorem D_m_areTwo_22 : decode M_m_areTwo.2.1 22 = .ok (.goto 4, 3) := by decide +kernel
theorem D_m_areTwo_25 : decode M_m_areTwo.2.1 25 = .ok (.iconst 0, 1) := by decide +kernel
theorem D_m_areTwo_26 : decode M_m_areTwo.2.1 26 = .ok (.ireturn, 1) := by decide +kernel
theorem D_m_owed_0 : decode M_m_owed.2.1 0 = .ok (.aload_n 0, 1) := by decide +kernel
theorem D_m_owed_1 : decode M_m_owed.2.1 1 = .ok (.iload_n 1, 1) := by decide +kernel
theorem D_m_owed_2 : decode M_m_owed.2.1 2 = .ok (.iload_n 2, 1) := by decide +kernel
theorem D_m_owed_3 : decode M_m_owed.2.1 3 = .ok (.invokevirtual 161, 3) := by decide +kernel
theorem D_m_owed_6 : decode M_m_owed.2.1 6 = .ok (.ifCond .eq 20, 3) := by decide +kernel
theorem D_m_owed_9 : decode M_m_owed.2.1 9 = .ok (.aload_n 0, 1) := by decide +kernel
theorem D_m_owed_10 : decode M_m_owed.2.1 10 = .ok (.getfield 23, 3) := by decide +kernel
theorem D_m_owed_13 : decode M_m_owed.2.1 13 = .ok (.bipush 16, 2) := by decide +kernel
theorem D_m_owed_15 : decode M_m_owed.2.1 15 = .ok (.bipush 6, 2) := by decide +kernel
theorem D_m_owed_17 : decode M_m_owed.2.1 17 = .ok (.iload_n 1, 1) := by decide +kernel
theorem D_m_owed_18 : decode M_m_owed.2.1 18 = .ok (.imul, 1) := by decide +kernel
theorem D_m_owed_19 : decode M_m_owed.2.1 19 = .ok (.iadd, 1) := by decide +kernel
theorem D_m_owed_20 : decode M_m_owed.2.1 20 = .ok (.iload_n 2, 1) := by decide +kernel
theorem D_m_owed_21 : decode M_m_owed.2.1 21 = .ok (.iadd, 1) := by decide +kernel
theorem D_m_owed_22 : decode M_m_owed.2.1 22 = .ok (.iaload, 1) := by decide +kernel
theorem D_m_owed_23 : decode M_m_owed.2.1 23 = .ok (.goto 4, 3) := by decide +kernel
theorem D_m_owed_26 : decode M_m_owed.2.1 26 = .ok (.iconst (-1), 1) := by decide +kernel
theorem D_m_owed_27 : decode M_m_owed.2.1 27 = .ok (.ireturn, 1) := by decide +kernel
theorem D_m_remembers_0 : decode M_m_remembers.2.1 0 = .ok (.aload_n 0, 1) := by decide +kernel
theorem D_m_remembers_1 : decode M_m_remembers.2.1 1 = .ok (.getfield 23, 3) := by decide +kernel
theorem D_m_remembers_4 : decode M_m_remembers.2.1 4 = .ok (.bipush 52, 2) := by decide +kernel
theorem D_m_remembers_6 : decode M_m_remembers.2.1 6 = .ok (.iaload, 1) := by decide +kernel
theorem D_m_remembers_7 : decode M_m_remembers.2.1 7 = .ok (.bipush 10, 2) := by decide +kernel
theorem D_m_remembers_9 : decode M_m_remembers.2.1 9 = .ok (.if_icmp .ne 45, 3) := by decide +kernel
theorem D_m_remembers_12 : decode M_m_remembers.2.1 12 = .ok (.bipush 53, 2) := by decide +kernel
theorem D_m_remembers_14 : decode M_m_remembers.2.1 14 = .ok (.istore_n 1, 1) := by decide +kernel
theorem D_m_remembers_15 : decode M_m_remembers.2.1 15 = .ok (.iload_n 1, 1) := by decide +kernel
theorem D_m_remembers_16 : decode M_m_remembers.2.1 16 = .ok (.sipush 521, 3) := by decide +kernel
theorem D_m_remembers_19 : decode M_m_remembers.2.1 19 = .ok (.if_icmp .ge 24, 3) := by decide +kernel
theorem D_m_remembers_22 : decode M_m_remembers.2.1 22 = .ok (.aload_n 0, 1) := by decide +kernel
theorem D_m_remembers_23 : decode M_m_remembers.2.1 23 = .ok (.getfield 23, 3) := by decide +kernel
theorem D_m_remembers_26 : decode M_m_remembers.2.1 26 = .ok (.iload_n 1, 1) := by decide +kernel
theorem D_m_remembers_27 : decode M_m_remembers.2.1 27 = .ok (.aload_n 0, 1) := by decide +kernel
theorem D_m_remembers_28 : decode M_m_remembers.2.1 28 = .ok (.getfield 23, 3) := by decide +kernel
theorem D_m_remembers_31 : decode M_m_remembers.2.1 31 = .ok (.iload_n 1, 1) := by decide +kernel
theorem D_m_remembers_32 : decode M_m_remembers.2.1 32 = .ok (.bipush 52, 2) := by decide +kernel
theorem D_m_remembers_34 : decode M_m_remembers.2.1 34 = .ok (.iadd, 1) := by decide +kernel
theorem D_m_remembers_35 : decode M_m_remembers.2.1 35 = .ok (.iaload, 1) := by decide +kernel
theorem D_m_remembers_36 : decode M_m_remembers.2.1 36 = .ok (.iastore, 1) := by decide +kernel
theorem D_m_remembers_37 : decode M_m_remembers.2.1 37 = .ok (.iinc 1 1, 3) := by decide +kernel
theorem D_m_remembers_40 : decode M_m_remembers.2.1 40 = .ok (.goto (-25), 3) := by decide +kernel
theorem D_m_remembers_43 : decode M_m_remembers.2.1 43 = .ok (.aload_n 0, 1) := by decide +kernel
theorem D_m_remembers_44 : decode M_m_remembers.2.1 44 = .ok (.getfield 23, 3) := by decide +kernel
theorem D_m_remembers_47 : decode M_m_remembers.2.1 47 = .ok (.bipush 52, 2) := by decide +kernel
theorem D_m_remembers_49 : decode M_m_remembers.2.1 49 = .ok (.dup2, 1) := by decide +kernel
theorem D_m_remembers_50 : decode M_m_remembers.2.1 50 = .ok (.iaload, 1) := by decide +kernel
theorem D_m_remembers_51 : decode M_m_remembers.2.1 51 = .ok (.iconst 1, 1) := by decide +kernel
theorem D_m_remembers_52 : decode M_m_remembers.2.1 52 = .ok (.isub, 1) := by decide +kernel
theorem D_m_remembers_53 : decode M_m_remembers.2.1 53 = .ok (.iastore, 1) := by decide +kernel
theorem D_m_remembers_54 : decode M_m_remembers.2.1 54 = .ok (.bipush 53, 2) := by decide +kernel
theorem D_m_remembers_56 : decode M_m_remembers.2.1 56 = .ok (.bipush 52, 2) := by decide +kernel
theorem D_m_remembers_58 : decode M_m_remembers.2.1 58 = .ok (.aload_n 0, 1) := by decide +kernel
theorem D_m_remembers_59 : decode M_m_remembers.2.1 59 = .ok (.getfield 23, 3) := by decide +kernel
theorem D_m_remembers_62 : decode M_m_remembers.2.1 62 = .ok (.bipush 52, 2) := by decide +kernel
theorem D_m_remembers_64 : decode M_m_remembers.2.1 64 = .ok (.iaload, 1) := by decide +kernel
theorem D_m_remembers_65 : decode M_m_remembers.2.1 65 = .ok (.imul, 1) := by decide +kernel
theorem D_m_remembers_66 : decode M_m_remembers.2.1 66 = .ok (.iadd, 1) := by decide +kernel
theorem D_m_remembers_67 : decode M_m_remembers.2.1 67 = .ok (.istore_n 1, 1) := by decide +kernel
theorem D_m_remembers_68 : decode M_m_remembers.2.1 68 = .ok (.iconst 0, 1) := by decide +kernel
theorem D_m_remembers_69 : decode M_m_remembers.2.1 69 = .ok (.istore_n 2, 1) := by decide +kernel
theorem D_m_remembers_70 : decode M_m_remembers.2.1 70 = .ok (.iload_n 2, 1) := by decide +kernel
theorem D_m_remembers_71 : decode M_m_remembers.2.1 71 = .ok (.bipush 52, 2) := by decide +kernel
theorem D_m_remembers_73 : decode M_m_remembers.2.1 73 = .ok (.if_icmp .ge 23, 3) := by decide +kernel
theorem D_m_remembers_76 : decode M_m_remembers.2.1 76 = .ok (.aload_n 0, 1) := by decide +kernel
theorem D_m_remembers_77 : decode M_m_remembers.2.1 77 = .ok (.getfield 23, 3) := by decide +kernel
theorem D_m_remembers_80 : decode M_m_remembers.2.1 80 = .ok (.iload_n 1, 1) := by decide +kernel
theorem D_m_remembers_81 : decode M_m_remembers.2.1 81 = .ok (.iload_n 2, 1) := by decide +kernel
theorem D_m_remembers_82 : decode M_m_remembers.2.1 82 = .ok (.iadd, 1) := by decide +kernel
theorem D_m_remembers_83 : decode M_m_remembers.2.1 83 = .ok (.aload_n 0, 1) := by decide +kernel
theorem D_m_remembers_84 : decode M_m_remembers.2.1 84 = .ok (.getfield 23, 3) := by decide +kernel
theorem D_m_remembers_87 : decode M_m_remembers.2.1 87 = .ok (.iload_n 2, 1) := by decide +kernel
theorem D_m_remembers_88 : decode M_m_remembers.2.1 88 = .ok (.iaload, 1) := by decide +kernel
theorem D_m_remembers_89 : decode M_m_remembers.2.1 89 = .ok (.iastore, 1) := by decide +kernel
theorem D_m_remembers_90 : decode M_m_remembers.2.1 90 = .ok (.iinc 2 1, 3) := by decide +kernel
theorem D_m_remembers_93 : decode M_m_remembers.2.1 93 = .ok (.goto (-23), 3) := by decide +kernel
theorem D_m_remembers_96 : decode M_m_remembers.2.1 96 = .ok (.aload_n 0, 1) := by decide +kernel
theorem D_m_remembers_97 : decode M_m_remembers.2.1 97 = .ok (.getfield 23, 3) := by decide +kernel
theorem D_m_remembers_100 : decode M_m_remembers.2.1 100 = .ok (.bipush 52, 2) := by decide +kernel
theorem D_m_remembers_102 : decode M_m_remembers.2.1 102 = .ok (.dup2, 1) := by decide +kernel
theorem D_m_remembers_103 : decode M_m_remembers.2.1 103 = .ok (.iaload, 1) := by decide +kernel
theorem D_m_remembers_104 : decode M_m_remembers.2.1 104 = .ok (.iconst 1, 1) := by decide +kernel
theorem D_m_remembers_105 : decode M_m_remembers.2.1 105 = .ok (.iadd, 1) := by decide +kernel
theorem D_m_remembers_106 : decode M_m_remembers.2.1 106 = .ok (.iastore, 1) := by decide +kernel
theorem D_m_remembers_107 : decode M_m_remembers.2.1 107 = .ok (.return_, 1) := by decide +kernel
theorem D_m_clicksBy_0 : decode M_m_clicksBy.2.1 0 = .ok (.iconst 0, 1) := by decide +kernel
theorem D_m_clicksBy_1 : decode M_m_clicksBy.2.1 1 = .ok (.istore_n 3, 1) := by decide +kernel
theorem D_m_clicksBy_2 : decode M_m_clicksBy.2.1 2 = .ok (.iload_n 0, 1) := by decide +kernel
theorem D_m_clicksBy_3 : decode M_m_clicksBy.2.1 3 = .ok (.istore 4, 2) := by decide +kernel
theorem D_m_clicksBy_5 : decode M_m_clicksBy.2.1 5 = .ok (.iload 4, 2) := by decide +kernel
theorem D_m_clicksBy_7 : decode M_m_clicksBy.2.1 7 = .ok (.ifCond .le 22, 3) := by decide +kernel
theorem D_m_clicksBy_10 : decode M_m_clicksBy.2.1 10 = .ok (.iload_n 3, 1) := by decide +kernel
theorem D_m_clicksBy_11 : decode M_m_clicksBy.2.1 11 = .ok (.iload 4, 2) := by decide +kernel
theorem D_m_clicksBy_13 : decode M_m_clicksBy.2.1 13 = .ok (.iadd, 1) := by decide +kernel
theorem D_m_clicksBy_14 : decode M_m_clicksBy.2.1 14 = .ok (.istore_n 3, 1) := by decide +kernel
theorem D_m_clicksBy_15 : decode M_m_clicksBy.2.1 15 = .ok (.iload_n 1, 1) := by decide +kernel
theorem D_m_clicksBy_16 : decode M_m_clicksBy.2.1 16 = .ok (.iload 4, 2) := by decide +kernel
theorem D_m_clicksBy_18 : decode M_m_clicksBy.2.1 18 = .ok (.imul, 1) := by decide +kernel
theorem D_m_clicksBy_19 : decode M_m_clicksBy.2.1 19 = .ok (.bipush 10, 2) := by decide +kernel
theorem D_m_clicksBy_21 : decode M_m_clicksBy.2.1 21 = .ok (.idiv, 1) := by decide +kernel
theorem D_m_clicksBy_22 : decode M_m_clicksBy.2.1 22 = .ok (.iload_n 2, 1) := by decide +kernel
theorem D_m_clicksBy_23 : decode M_m_clicksBy.2.1 23 = .ok (.isub, 1) := by decide +kernel
theorem D_m_clicksBy_24 : decode M_m_clicksBy.2.1 24 = .ok (.istore 4, 2) := by decide +kernel
theorem D_m_clicksBy_26 : decode M_m_clicksBy.2.1 26 = .ok (.goto (-21), 3) := by decide +kernel
theorem D_m_clicksBy_29 : decode M_m_clicksBy.2.1 29 = .ok (.iload_n 3, 1) := by decide +kernel
theorem D_m_clicksBy_30 : decode M_m_clicksBy.2.1 30 = .ok (.ireturn, 1) := by decide +kernel
theorem D_m_clicksOf_0 : decode M_m_clicksOf.2.1 0 = .ok (.iload_n 1, 1) := by decide +kernel
theorem D_m_clicksOf_1 : decode M_m_clicksOf.2.1 1 = .ok (.aload_n 0, 1) := by decide +kernel
theorem D_m_clicksOf_2 : decode M_m_clicksOf.2.1 2 = .ok (.getfield 13, 3) := by decide +kernel
theorem D_m_clicksOf_5 : decode M_m_clicksOf.2.1 5 = .ok (.aload_n 0, 1) := by decide +kernel
theorem D_m_clicksOf_6 : decode M_m_clicksOf.2.1 6 = .ok (.getfield 17, 3) := by decide +kernel
theorem D_m_clicksOf_9 : decode M_m_clicksOf.2.1 9 = .ok (.invokestatic 165, 3) := by decide +kernel
theorem D_m_clicksOf_12 : decode M_m_clicksOf.2.1 12 = .ok (.ireturn, 1) := by decide +kernel
theorem D_m_feasts_0 : decode M_m_feasts.2.1 0 = .ok (.aload_n 0, 1) := by decide +kernel
theorem D_m_feasts_1 : decode M_m_feasts.2.1 1 = .ok (.getfield 23, 3) := by decide +kernel
theorem D_m_feasts_4 : decode M_m_feasts.2.1 4 = .ok (.iconst 3, 1) := by decide +kernel
theorem D_m_feasts_5 : decode M_m_feasts.2.1 5 = .ok (.dup2, 1) := by decide +kernel
theorem D_m_feasts_6 : decode M_m_feasts.2.1 6 = .ok (.iaload, 1) := by decide +kernel
theorem D_m_feasts_7 : decode M_m_feasts.2.1 7 = .ok (.iconst 1, 1) := by decide +kernel
theorem D_m_feasts_8 : decode M_m_feasts.2.1 8 = .ok (.iadd, 1) := by decide +kernel
theorem D_m_feasts_9 : decode M_m_feasts.2.1 9 = .ok (.iastore, 1) := by decide +kernel
theorem D_m_feasts_10 : decode M_m_feasts.2.1 10 = .ok (.iconst 0, 1) := by decide +kernel
theorem D_m_feasts_11 : decode M_m_feasts.2.1 11 = .ok (.istore_n 1, 1) := by decide +kernel
theorem D_m_feasts_12 : decode M_m_feasts.2.1 12 = .ok (.iload_n 1, 1) := by decide +kernel
theorem D_m_feasts_13 : decode M_m_feasts.2.1 13 = .ok (.aload_n 0, 1) := by decide +kernel
theorem D_m_feasts_14 : decode M_m_feasts.2.1 14 = .ok (.getfield 66, 3) := by decide +kernel
theorem D_m_feasts_17 : decode M_m_feasts.2.1 17 = .ok (.if_icmp .ge 130, 3) := by decide +kernel
theorem D_m_feasts_20 : decode M_m_feasts.2.1 20 = .ok (.aload_n 0, 1) := by decide +kernel
theorem D_m_feasts_21 : decode M_m_feasts.2.1 21 = .ok (.getfield 23, 3) := by decide +kernel
theorem D_m_feasts_24 : decode M_m_feasts.2.1 24 = .ok (.bipush 10, 2) := by decide +kernel
theorem D_m_feasts_26 : decode M_m_feasts.2.1 26 = .ok (.iload_n 1, 1) := by decide +kernel
theorem D_m_feasts_27 : decode M_m_feasts.2.1 27 = .ok (.iadd, 1) := by decide +kernel
theorem D_m_feasts_28 : decode M_m_feasts.2.1 28 = .ok (.aload_n 0, 1) := by decide +kernel
theorem D_m_feasts_29 : decode M_m_feasts.2.1 29 = .ok (.iload_n 1, 1) := by decide +kernel
theorem D_m_feasts_30 : decode M_m_feasts.2.1 30 = .ok (.invokevirtual 155, 3) := by decide +kernel
theorem D_m_feasts_33 : decode M_m_feasts.2.1 33 = .ok (.iconst 3, 1) := by decide +kernel
theorem D_m_feasts_34 : decode M_m_feasts.2.1 34 = .ok (.if_icmp .eq 7, 3) := by decide +kernel
theorem D_m_feasts_37 : decode M_m_feasts.2.1 37 = .ok (.iconst 0, 1) := by decide +kernel
theorem D_m_feasts_38 : decode M_m_feasts.2.1 38 = .ok (.goto 33, 3) := by decide +kernel
theorem D_m_feasts_41 : decode M_m_feasts.2.1 41 = .ok (.aload_n 0, 1) := by decide +kernel
theorem D_m_feasts_42 : decode M_m_feasts.2.1 42 = .ok (.getfield 23, 3) := by decide +kernel
theorem D_m_feasts_45 : decode M_m_feasts.2.1 45 = .ok (.bipush 10, 2) := by decide +kernel
theorem D_m_feasts_47 : decode M_m_feasts.2.1 47 = .ok (.iload_n 1, 1) := by decide +kernel
theorem D_m_feasts_48 : decode M_m_feasts.2.1 48 = .ok (.iadd, 1) := by decide +kernel
theorem D_m_feasts_49 : decode M_m_feasts.2.1 49 = .ok (.iaload, 1) := by decide +kernel
theorem D_m_feasts_50 : decode M_m_feasts.2.1 50 = .ok (.bipush 99, 2) := by decide +kernel
theorem D_m_feasts_52 : decode M_m_feasts.2.1 52 = .ok (.if_icmp .ge 17, 3) := by decide +kernel
theorem D_m_feasts_55 : decode M_m_feasts.2.1 55 = .ok (.aload_n 0, 1) := by decide +kernel
theorem D_m_feasts_56 : decode M_m_feasts.2.1 56 = .ok (.getfield 23, 3) := by decide +kernel
theorem D_m_feasts_59 : decode M_m_feasts.2.1 59 = .ok (.bipush 10, 2) := by decide +kernel
theorem D_m_feasts_61 : decode M_m_feasts.2.1 61 = .ok (.iload_n 1, 1) := by decide +kernel
theorem D_m_feasts_62 : decode M_m_feasts.2.1 62 = .ok (.iadd, 1) := by decide +kernel
theorem D_m_feasts_63 : decode M_m_feasts.2.1 63 = .ok (.iaload, 1) := by decide +kernel
theorem D_m_feasts_64 : decode M_m_feasts.2.1 64 = .ok (.iconst 1, 1) := by decide +kernel
theorem D_m_feasts_65 : decode M_m_feasts.2.1 65 = .ok (.iadd, 1) := by decide +kernel
theorem D_m_feasts_66 : decode M_m_feasts.2.1 66 = .ok (.goto 5, 3) := by decide +kernel
theorem D_m_feasts_69 : decode M_m_feasts.2.1 69 = .ok (.bipush 99, 2) := by decide +kernel
theorem D_m_feasts_71 : decode M_m_feasts.2.1 71 = .ok (.iastore, 1) := by decide +kernel
theorem D_m_feasts_72 : decode M_m_feasts.2.1 72 = .ok (.iconst 0, 1) := by decide +kernel
theorem D_m_feasts_73 : decode M_m_feasts.2.1 73 = .ok (.istore_n 2, 1) := by decide +kernel
theorem D_m_feasts_74 : decode M_m_feasts.2.1 74 = .ok (.iload_n 2, 1) := by decide +kernel
theorem D_m_feasts_75 : decode M_m_feasts.2.1 75 = .ok (.aload_n 0, 1) := by decide +kernel
theorem D_m_feasts_76 : decode M_m_feasts.2.1 76 = .ok (.getfield 66, 3) := by decide +kernel
theorem D_m_feasts_79 : decode M_m_feasts.2.1 79 = .ok (.if_icmp .ge 62, 3) := by decide +kernel
theorem D_m_feasts_82 : decode M_m_feasts.2.1 82 = .ok (.bipush 16, 2) := by decide +kernel
theorem D_m_feasts_84 : decode M_m_feasts.2.1 84 = .ok (.bipush 6, 2) := by decide +kernel
theorem D_m_feasts_86 : decode M_m_feasts.2.1 86 = .ok (.iload_n 1, 1) := by decide +kernel
theorem D_m_feasts_87 : decode M_m_feasts.2.1 87 = .ok (.imul, 1) := by decide +kernel
theorem D_m_feasts_88 : decode M_m_feasts.2.1 88 = .ok (.iadd, 1) := by decide +kernel
theorem D_m_feasts_89 : decode M_m_feasts.2.1 89 = .ok (.iload_n 2, 1) := by decide +kernel
theorem D_m_feasts_90 : decode M_m_feasts.2.1 90 = .ok (.iadd, 1) := by decide +kernel
theorem D_m_feasts_91 : decode M_m_feasts.2.1 91 = .ok (.istore_n 3, 1) := by decide +kernel
theorem D_m_feasts_92 : decode M_m_feasts.2.1 92 = .ok (.aload_n 0, 1) := by decide +kernel
theorem D_m_feasts_93 : decode M_m_feasts.2.1 93 = .ok (.getfield 23, 3) := by decide +kernel
theorem D_m_feasts_96 : decode M_m_feasts.2.1 96 = .ok (.iload_n 3, 1) := by decide +kernel
theorem D_m_feasts_97 : decode M_m_feasts.2.1 97 = .ok (.dup2, 1) := by decide +kernel
theorem D_m_feasts_98 : decode M_m_feasts.2.1 98 = .ok (.iaload, 1) := by decide +kernel
theorem D_m_feasts_99 : decode M_m_feasts.2.1 99 = .ok (.aload_n 0, 1) := by decide +kernel
theorem D_m_feasts_100 : decode M_m_feasts.2.1 100 = .ok (.iload_n 1, 1) := by decide +kernel
theorem D_m_feasts_101 : decode M_m_feasts.2.1 101 = .ok (.invokevirtual 155, 3) := by decide +kernel
theorem D_m_feasts_104 : decode M_m_feasts.2.1 104 = .ok (.iconst 1, 1) := by decide +kernel
theorem D_m_feasts_105 : decode M_m_feasts.2.1 105 = .ok (.if_icmp .ne 27, 3) := by decide +kernel
theorem D_m_feasts_108 : decode M_m_feasts.2.1 108 = .ok (.aload_n 0, 1) := by decide +kernel
theorem D_m_feasts_109 : decode M_m_feasts.2.1 109 = .ok (.iload_n 2, 1) := by decide +kernel
theorem D_m_feasts_110 : decode M_m_feasts.2.1 110 = .ok (.invokevirtual 155, 3) := by decide +kernel
theorem D_m_feasts_113 : decode M_m_feasts.2.1 113 = .ok (.iconst 2, 1) := by decide +kernel
theorem D_m_feasts_114 : decode M_m_feasts.2.1 114 = .ok (.if_icmp .ne 18, 3) := by decide +kernel
theorem D_m_feasts_117 : decode M_m_feasts.2.1 117 = .ok (.aload_n 0, 1) := by decide +kernel
theorem D_m_feasts_118 : decode M_m_feasts.2.1 118 = .ok (.getfield 23, 3) := by decide +kernel
theorem D_m_feasts_121 : decode M_m_feasts.2.1 121 = .ok (.iload_n 3, 1) := by decide +kernel
theorem D_m_feasts_122 : decode M_m_feasts.2.1 122 = .ok (.iaload, 1) := by decide +kernel
theorem D_m_feasts_123 : decode M_m_feasts.2.1 123 = .ok (.bipush 99, 2) := by decide +kernel
theorem D_m_feasts_125 : decode M_m_feasts.2.1 125 = .ok (.if_icmp .ge 7, 3) := by decide +kernel
theorem D_m_feasts_128 : decode M_m_feasts.2.1 128 = .ok (.iconst 1, 1) := by decide +kernel
theorem D_m_feasts_129 : decode M_m_feasts.2.1 129 = .ok (.goto 4, 3) := by decide +kernel
theorem D_m_feasts_132 : decode M_m_feasts.2.1 132 = .ok (.iconst 0, 1) := by decide +kernel
theorem D_m_feasts_133 : decode M_m_feasts.2.1 133 = .ok (.iadd, 1) := by decide +kernel
theorem D_m_feasts_134 : decode M_m_feasts.2.1 134 = .ok (.iastore, 1) := by decide +kernel
theorem D_m_feasts_135 : decode M_m_feasts.2.1 135 = .ok (.iinc 2 1, 3) := by decide +kernel
theorem D_m_feasts_138 : decode M_m_feasts.2.1 138 = .ok (.goto (-64), 3) := by decide +kernel
theorem D_m_feasts_141 : decode M_m_feasts.2.1 141 = .ok (.iinc 1 1, 3) := by decide +kernel
theorem D_m_feasts_144 : decode M_m_feasts.2.1 144 = .ok (.goto (-132), 3) := by decide +kernel
theorem D_m_feasts_147 : decode M_m_feasts.2.1 147 = .ok (.return_, 1) := by decide +kernel
theorem D_m_spins_0 : decode M_m_spins.2.1 0 = .ok (.iload_n 1, 1) := by decide +kernel
theorem D_m_spins_1 : decode M_m_spins.2.1 1 = .ok (.invokestatic 169, 3) := by decide +kernel
theorem D_m_spins_4 : decode M_m_spins.2.1 4 = .ok (.ifCond .ne 5, 3) := by decide +kernel
theorem D_m_spins_7 : decode M_m_spins.2.1 7 = .ok (.iconst (-1), 1) := by decide +kernel
theorem D_m_spins_8 : decode M_m_spins.2.1 8 = .ok (.ireturn, 1) := by decide +kernel
theorem D_m_spins_9 : decode M_m_spins.2.1 9 = .ok (.aload_n 0, 1) := by decide +kernel
theorem D_m_spins_10 : decode M_m_spins.2.1 10 = .ok (.getfield 73, 3) := by decide +kernel
theorem D_m_spins_13 : decode M_m_spins.2.1 13 = .ok (.ifCond .ne 6, 3) := by decide +kernel
theorem D_m_spins_16 : decode M_m_spins.2.1 16 = .ok (.bipush (-2), 2) := by decide +kernel
theorem D_m_spins_18 : decode M_m_spins.2.1 18 = .ok (.ireturn, 1) := by decide +kernel
theorem D_m_spins_19 : decode M_m_spins.2.1 19 = .ok (.aload_n 0, 1) := by decide +kernel
theorem D_m_spins_20 : decode M_m_spins.2.1 20 = .ok (.getfield 23, 3) := by decide +kernel
theorem D_m_spins_23 : decode M_m_spins.2.1 23 = .ok (.iconst 3, 1) := by decide +kernel
theorem D_m_spins_24 : decode M_m_spins.2.1 24 = .ok (.iaload, 1) := by decide +kernel
theorem D_m_spins_25 : decode M_m_spins.2.1 25 = .ok (.sipush 999, 3) := by decide +kernel
theorem D_m_spins_28 : decode M_m_spins.2.1 28 = .ok (.if_icmp .ne 6, 3) := by decide +kernel
theorem D_m_spins_31 : decode M_m_spins.2.1 31 = .ok (.bipush (-3), 2) := by decide +kernel
theorem D_m_spins_33 : decode M_m_spins.2.1 33 = .ok (.ireturn, 1) := by decide +kernel
theorem D_m_spins_34 : decode M_m_spins.2.1 34 = .ok (.aload_n 0, 1) := by decide +kernel
theorem D_m_spins_35 : decode M_m_spins.2.1 35 = .ok (.invokevirtual 172, 3) := by decide +kernel
theorem D_m_spins_38 : decode M_m_spins.2.1 38 = .ok (.aload_n 0, 1) := by decide +kernel
theorem D_m_spins_39 : decode M_m_spins.2.1 39 = .ok (.getfield 23, 3) := by decide +kernel
theorem D_m_spins_42 : decode M_m_spins.2.1 42 = .ok (.iconst 0, 1) := by decide +kernel
theorem D_m_spins_43 : decode M_m_spins.2.1 43 = .ok (.aload_n 0, 1) := by decide +kernel
theorem D_m_spins_44 : decode M_m_spins.2.1 44 = .ok (.getfield 23, 3) := by decide +kernel
theorem D_m_spins_47 : decode M_m_spins.2.1 47 = .ok (.iconst 0, 1) := by decide +kernel
theorem D_m_spins_48 : decode M_m_spins.2.1 48 = .ok (.iaload, 1) := by decide +kernel
theorem D_m_spins_49 : decode M_m_spins.2.1 49 = .ok (.aload_n 0, 1) := by decide +kernel
theorem D_m_spins_50 : decode M_m_spins.2.1 50 = .ok (.iload_n 1, 1) := by decide +kernel
theorem D_m_spins_51 : decode M_m_spins.2.1 51 = .ok (.invokevirtual 175, 3) := by decide +kernel
theorem D_m_spins_54 : decode M_m_spins.2.1 54 = .ok (.iadd, 1) := by decide +kernel
theorem D_m_spins_55 : decode M_m_spins.2.1 55 = .ok (.aload_n 0, 1) := by decide +kernel
theorem D_m_spins_56 : decode M_m_spins.2.1 56 = .ok (.getfield 73, 3) := by decide +kernel
theorem D_m_spins_59 : decode M_m_spins.2.1 59 = .ok (.irem, 1) := by decide +kernel
theorem D_m_spins_60 : decode M_m_spins.2.1 60 = .ok (.iastore, 1) := by decide +kernel
theorem D_m_spins_61 : decode M_m_spins.2.1 61 = .ok (.aload_n 0, 1) := by decide +kernel
theorem D_m_spins_62 : decode M_m_spins.2.1 62 = .ok (.invokevirtual 178, 3) := by decide +kernel
theorem D_m_spins_65 : decode M_m_spins.2.1 65 = .ok (.aload_n 0, 1) := by decide +kernel
theorem D_m_spins_66 : decode M_m_spins.2.1 66 = .ok (.getfield 23, 3) := by decide +kernel
theorem D_m_spins_69 : decode M_m_spins.2.1 69 = .ok (.iconst 0, 1) := by decide +kernel
theorem D_m_spins_70 : decode M_m_spins.2.1 70 = .ok (.iaload, 1) := by decide +kernel
theorem D_m_spins_71 : decode M_m_spins.2.1 71 = .ok (.ireturn, 1) := by decide +kernel
theorem D_m_whoHas_0 : decode M_m_whoHas.2.1 0 = .ok (.bipush (-9), 2) := by decide +kernel
theorem D_m_whoHas_2 : decode M_m_whoHas.2.1 2 = .ok (.istore_n 2, 1) := by decide +kernel
theorem D_m_whoHas_3 : decode M_m_whoHas.2.1 3 = .ok (.iconst 0, 1) := by decide +kernel
theorem D_m_whoHas_4 : decode M_m_whoHas.2.1 4 = .ok (.istore_n 3, 1) := by decide +kernel
theorem D_m_whoHas_5 : decode M_m_whoHas.2.1 5 = .ok (.iload_n 3, 1) := by decide +kernel
theorem D_m_whoHas_6 : decode M_m_whoHas.2.1 6 = .ok (.aload_n 0, 1) := by decide +kernel
theorem D_m_whoHas_7 : decode M_m_whoHas.2.1 7 = .ok (.getfield 66, 3) := by decide +kernel
theorem D_m_whoHas_10 : decode M_m_whoHas.2.1 10 = .ok (.if_icmp .ge 27, 3) := by decide +kernel
theorem D_m_whoHas_13 : decode M_m_whoHas.2.1 13 = .ok (.aload_n 0, 1) := by decide +kernel
theorem D_m_whoHas_14 : decode M_m_whoHas.2.1 14 = .ok (.getfield 23, 3) := by decide +kernel
theorem D_m_whoHas_17 : decode M_m_whoHas.2.1 17 = .ok (.iconst 4, 1) := by decide +kernel
theorem D_m_whoHas_18 : decode M_m_whoHas.2.1 18 = .ok (.iload_n 3, 1) := by decide +kernel
theorem D_m_whoHas_19 : decode M_m_whoHas.2.1 19 = .ok (.iadd, 1) := by decide +kernel
theorem D_m_whoHas_20 : decode M_m_whoHas.2.1 20 = .ok (.iaload, 1) := by decide +kernel
theorem D_m_whoHas_21 : decode M_m_whoHas.2.1 21 = .ok (.iload_n 1, 1) := by decide +kernel
theorem D_m_whoHas_22 : decode M_m_whoHas.2.1 22 = .ok (.if_icmp .ne 7, 3) := by decide +kernel
theorem D_m_whoHas_25 : decode M_m_whoHas.2.1 25 = .ok (.iload_n 3, 1) := by decide +kernel
theorem D_m_whoHas_26 : decode M_m_whoHas.2.1 26 = .ok (.goto 4, 3) := by decide +kernel
theorem D_m_whoHas_29 : decode M_m_whoHas.2.1 29 = .ok (.iload_n 2, 1) := by decide +kernel
theorem D_m_whoHas_30 : decode M_m_whoHas.2.1 30 = .ok (.istore_n 2, 1) := by decide +kernel
theorem D_m_whoHas_31 : decode M_m_whoHas.2.1 31 = .ok (.iinc 3 1, 3) := by decide +kernel
theorem D_m_whoHas_34 : decode M_m_whoHas.2.1 34 = .ok (.goto (-29), 3) := by decide +kernel
theorem D_m_whoHas_37 : decode M_m_whoHas.2.1 37 = .ok (.iload_n 2, 1) := by decide +kernel
theorem D_m_whoHas_38 : decode M_m_whoHas.2.1 38 = .ok (.ireturn, 1) := by decide +kernel
theorem D_m_goes_0 : decode M_m_goes.2.1 0 = .ok (.aload_n 0, 1) := by decide +kernel
theorem D_m_goes_1 : decode M_m_goes.2.1 1 = .ok (.iload_n 1, 1) := by decide +kernel
theorem D_m_goes_2 : decode M_m_goes.2.1 2 = .ok (.invokevirtual 152, 3) := by decide +kernel
theorem D_m_goes_5 : decode M_m_goes.2.1 5 = .ok (.ifCond .eq 11, 3) := by decide +kernel
theorem D_m_goes_8 : decode M_m_goes.2.1 8 = .ok (.aload_n 0, 1) := by decide +kernel
theorem D_m_goes_9 : decode M_m_goes.2.1 9 = .ok (.iload_n 2, 1) := by decide +kernel
theorem D_m_goes_10 : decode M_m_goes.2.1 10 = .ok (.invokevirtual 146, 3) := by decide +kernel
theorem D_m_goes_13 : decode M_m_goes.2.1 13 = .ok (.ifCond .ne 5, 3) := by decide +kernel
theorem D_m_goes_16 : decode M_m_goes.2.1 16 = .ok (.iconst (-1), 1) := by decide +kernel
theorem D_m_goes_17 : decode M_m_goes.2.1 17 = .ok (.ireturn, 1) := by decide +kernel
theorem D_m_goes_18 : decode M_m_goes.2.1 18 = .ok (.aload_n 0, 1) := by decide +kernel
theorem D_m_goes_19 : decode M_m_goes.2.1 19 = .ok (.iload_n 2, 1) := by decide +kernel
theorem D_m_goes_20 : decode M_m_goes.2.1 20 = .ok (.invokevirtual 181, 3) := by decide +kernel
theorem D_m_goes_23 : decode M_m_goes.2.1 23 = .ok (.ifCond .lt 6, 3) := by decide +kernel
theorem D_m_goes_26 : decode M_m_goes.2.1 26 = .ok (.bipush (-2), 2) := by decide +kernel
theorem D_m_goes_28 : decode M_m_goes.2.1 28 = .ok (.ireturn, 1) := by decide +kernel
theorem D_m_goes_29 : decode M_m_goes.2.1 29 = .ok (.aload_n 0, 1) := by decide +kernel
theorem D_m_goes_30 : decode M_m_goes.2.1 30 = .ok (.invokevirtual 172, 3) := by decide +kernel
theorem D_m_goes_33 : decode M_m_goes.2.1 33 = .ok (.aload_n 0, 1) := by decide +kernel
theorem D_m_goes_34 : decode M_m_goes.2.1 34 = .ok (.getfield 23, 3) := by decide +kernel
theorem D_m_goes_37 : decode M_m_goes.2.1 37 = .ok (.iconst 4, 1) := by decide +kernel
theorem D_m_goes_38 : decode M_m_goes.2.1 38 = .ok (.iload_n 1, 1) := by decide +kernel
theorem D_m_goes_39 : decode M_m_goes.2.1 39 = .ok (.iadd, 1) := by decide +kernel
theorem D_m_goes_40 : decode M_m_goes.2.1 40 = .ok (.iaload, 1) := by decide +kernel
theorem D_m_goes_41 : decode M_m_goes.2.1 41 = .ok (.istore_n 3, 1) := by decide +kernel
theorem D_m_goes_42 : decode M_m_goes.2.1 42 = .ok (.aload_n 0, 1) := by decide +kernel
theorem D_m_goes_43 : decode M_m_goes.2.1 43 = .ok (.getfield 23, 3) := by decide +kernel
theorem D_m_goes_46 : decode M_m_goes.2.1 46 = .ok (.iconst 4, 1) := by decide +kernel
theorem D_m_goes_47 : decode M_m_goes.2.1 47 = .ok (.iload_n 1, 1) := by decide +kernel
theorem D_m_goes_48 : decode M_m_goes.2.1 48 = .ok (.iadd, 1) := by decide +kernel
theorem D_m_goes_49 : decode M_m_goes.2.1 49 = .ok (.iload_n 2, 1) := by decide +kernel
theorem D_m_goes_50 : decode M_m_goes.2.1 50 = .ok (.iastore, 1) := by decide +kernel
theorem D_m_goes_51 : decode M_m_goes.2.1 51 = .ok (.iload_n 3, 1) := by decide +kernel
theorem D_m_goes_52 : decode M_m_goes.2.1 52 = .ok (.ireturn, 1) := by decide +kernel
theorem D_m_passes_0 : decode M_m_passes.2.1 0 = .ok (.iload_n 1, 1) := by decide +kernel
theorem D_m_passes_1 : decode M_m_passes.2.1 1 = .ok (.iconst 1, 1) := by decide +kernel
theorem D_m_passes_2 : decode M_m_passes.2.1 2 = .ok (.bipush 11, 2) := by decide +kernel
theorem D_m_passes_4 : decode M_m_passes.2.1 4 = .ok (.invokestatic 69, 3) := by decide +kernel
theorem D_m_passes_7 : decode M_m_passes.2.1 7 = .ok (.ifCond .ne 5, 3) := by decide +kernel
theorem D_m_passes_10 : decode M_m_passes.2.1 10 = .ok (.iconst (-1), 1) := by decide +kernel
theorem D_m_passes_11 : decode M_m_passes.2.1 11 = .ok (.ireturn, 1) := by decide +kernel
theorem D_m_passes_12 : decode M_m_passes.2.1 12 = .ok (.aload_n 0, 1) := by decide +kernel
theorem D_m_passes_13 : decode M_m_passes.2.1 13 = .ok (.getfield 73, 3) := by decide +kernel
theorem D_m_passes_16 : decode M_m_passes.2.1 16 = .ok (.ifCond .ne 6, 3) := by decide +kernel
theorem D_m_passes_19 : decode M_m_passes.2.1 19 = .ok (.bipush (-2), 2) := by decide +kernel
theorem D_m_passes_21 : decode M_m_passes.2.1 21 = .ok (.ireturn, 1) := by decide +kernel
theorem D_m_passes_22 : decode M_m_passes.2.1 22 = .ok (.aload_n 0, 1) := by decide +kernel
theorem D_m_passes_23 : decode M_m_passes.2.1 23 = .ok (.invokevirtual 172, 3) := by decide +kernel
theorem D_m_passes_26 : decode M_m_passes.2.1 26 = .ok (.aload_n 0, 1) := by decide +kernel
theorem D_m_passes_27 : decode M_m_passes.2.1 27 = .ok (.getfield 23, 3) := by decide +kernel
theorem D_m_passes_30 : decode M_m_passes.2.1 30 = .ok (.iconst 1, 1) := by decide +kernel
theorem D_m_passes_31 : decode M_m_passes.2.1 31 = .ok (.aload_n 0, 1) := by decide +kernel
theorem D_m_passes_32 : decode M_m_passes.2.1 32 = .ok (.getfield 23, 3) := by decide +kernel
theorem D_m_passes_35 : decode M_m_passes.2.1 35 = .ok (.iconst 1, 1) := by decide +kernel
theorem D_m_passes_36 : decode M_m_passes.2.1 36 = .ok (.iaload, 1) := by decide +kernel
theorem D_m_passes_37 : decode M_m_passes.2.1 37 = .ok (.iload_n 1, 1) := by decide +kernel
theorem D_m_passes_38 : decode M_m_passes.2.1 38 = .ok (.iadd, 1) := by decide +kernel
theorem D_m_passes_39 : decode M_m_passes.2.1 39 = .ok (.aload_n 0, 1) := by decide +kernel
theorem D_m_passes_40 : decode M_m_passes.2.1 40 = .ok (.getfield 73, 3) := by decide +kernel
theorem D_m_passes_43 : decode M_m_passes.2.1 43 = .ok (.irem, 1) := by decide +kernel
theorem D_m_passes_44 : decode M_m_passes.2.1 44 = .ok (.iastore, 1) := by decide +kernel
theorem D_m_passes_45 : decode M_m_passes.2.1 45 = .ok (.aload_n 0, 1) := by decide +kernel
theorem D_m_passes_46 : decode M_m_passes.2.1 46 = .ok (.getfield 23, 3) := by decide +kernel
theorem D_m_passes_49 : decode M_m_passes.2.1 49 = .ok (.iconst 1, 1) := by decide +kernel
theorem D_m_passes_50 : decode M_m_passes.2.1 50 = .ok (.iaload, 1) := by decide +kernel
theorem D_m_passes_51 : decode M_m_passes.2.1 51 = .ok (.ireturn, 1) := by decide +kernel
theorem D_m_covers_0 : decode M_m_covers.2.1 0 = .ok (.iload_n 1, 1) := by decide +kernel
theorem D_m_covers_1 : decode M_m_covers.2.1 1 = .ok (.iconst 0, 1) := by decide +kernel
theorem D_m_covers_2 : decode M_m_covers.2.1 2 = .ok (.iconst 1, 1) := by decide +kernel
theorem D_m_covers_3 : decode M_m_covers.2.1 3 = .ok (.invokestatic 69, 3) := by decide +kernel
theorem D_m_covers_6 : decode M_m_covers.2.1 6 = .ok (.ifCond .ne 5, 3) := by decide +kernel
theorem D_m_covers_9 : decode M_m_covers.2.1 9 = .ok (.iconst (-1), 1) := by decide +kernel
theorem D_m_covers_10 : decode M_m_covers.2.1 10 = .ok (.ireturn, 1) := by decide +kernel
theorem D_m_covers_11 : decode M_m_covers.2.1 11 = .ok (.aload_n 0, 1) := by decide +kernel
theorem D_m_covers_12 : decode M_m_covers.2.1 12 = .ok (.getfield 23, 3) := by decide +kernel
theorem D_m_covers_15 : decode M_m_covers.2.1 15 = .ok (.iconst 2, 1) := by decide +kernel
theorem D_m_covers_16 : decode M_m_covers.2.1 16 = .ok (.iaload, 1) := by decide +kernel
theorem D_m_covers_17 : decode M_m_covers.2.1 17 = .ok (.iload_n 1, 1) := by decide +kernel
theorem D_m_covers_18 : decode M_m_covers.2.1 18 = .ok (.if_icmp .ne 6, 3) := by decide +kernel
theorem D_m_covers_21 : decode M_m_covers.2.1 21 = .ok (.bipush (-2), 2) := by decide +kernel
theorem D_m_covers_23 : decode M_m_covers.2.1 23 = .ok (.ireturn, 1) := by decide +kernel
theorem D_m_covers_24 : decode M_m_covers.2.1 24 = .ok (.aload_n 0, 1) := by decide +kernel
theorem D_m_covers_25 : decode M_m_covers.2.1 25 = .ok (.invokevirtual 172, 3) := by decide +kernel
theorem D_m_covers_28 : decode M_m_covers.2.1 28 = .ok (.aload_n 0, 1) := by decide +kernel
theorem D_m_covers_29 : decode M_m_covers.2.1 29 = .ok (.getfield 23, 3) := by decide +kernel
theorem D_m_covers_32 : decode M_m_covers.2.1 32 = .ok (.iconst 2, 1) := by decide +kernel
theorem D_m_covers_33 : decode M_m_covers.2.1 33 = .ok (.iload_n 1, 1) := by decide +kernel
theorem D_m_covers_34 : decode M_m_covers.2.1 34 = .ok (.iastore, 1) := by decide +kernel
theorem D_m_covers_35 : decode M_m_covers.2.1 35 = .ok (.iconst 0, 1) := by decide +kernel
theorem D_m_covers_36 : decode M_m_covers.2.1 36 = .ok (.istore_n 2, 1) := by decide +kernel
theorem D_m_covers_37 : decode M_m_covers.2.1 37 = .ok (.iconst 0, 1) := by decide +kernel
theorem D_m_covers_38 : decode M_m_covers.2.1 38 = .ok (.istore_n 3, 1) := by decide +kernel
theorem D_m_covers_39 : decode M_m_covers.2.1 39 = .ok (.iload_n 3, 1) := by decide +kernel
theorem D_m_covers_40 : decode M_m_covers.2.1 40 = .ok (.aload_n 0, 1) := by decide +kernel
theorem D_m_covers_41 : decode M_m_covers.2.1 41 = .ok (.getfield 66, 3) := by decide +kernel
theorem D_m_covers_44 : decode M_m_covers.2.1 44 = .ok (.if_icmp .ge 25, 3) := by decide +kernel
theorem D_m_covers_47 : decode M_m_covers.2.1 47 = .ok (.iload_n 2, 1) := by decide +kernel
theorem D_m_covers_48 : decode M_m_covers.2.1 48 = .ok (.aload_n 0, 1) := by decide +kernel
theorem D_m_covers_49 : decode M_m_covers.2.1 49 = .ok (.iload_n 3, 1) := by decide +kernel
theorem D_m_covers_50 : decode M_m_covers.2.1 50 = .ok (.invokevirtual 155, 3) := by decide +kernel
theorem D_m_covers_53 : decode M_m_covers.2.1 53 = .ok (.ifCond .ne 7, 3) := by decide +kernel
theorem D_m_covers_56 : decode M_m_covers.2.1 56 = .ok (.iconst 1, 1) := by decide +kernel
theorem D_m_covers_57 : decode M_m_covers.2.1 57 = .ok (.goto 4, 3) := by decide +kernel
theorem D_m_covers_60 : decode M_m_covers.2.1 60 = .ok (.iconst 0, 1) := by decide +kernel
theorem D_m_covers_61 : decode M_m_covers.2.1 61 = .ok (.iadd, 1) := by decide +kernel
theorem D_m_covers_62 : decode M_m_covers.2.1 62 = .ok (.istore_n 2, 1) := by decide +kernel
theorem D_m_covers_63 : decode M_m_covers.2.1 63 = .ok (.iinc 3 1, 3) := by decide +kernel
theorem D_m_covers_66 : decode M_m_covers.2.1 66 = .ok (.goto (-27), 3) := by decide +kernel
theorem D_m_covers_69 : decode M_m_covers.2.1 69 = .ok (.iload_n 2, 1) := by decide +kernel
theorem D_m_covers_70 : decode M_m_covers.2.1 70 = .ok (.ireturn, 1) := by decide +kernel
theorem D_m_forgives_0 : decode M_m_forgives.2.1 0 = .ok (.aload_n 0, 1) := by decide +kernel
theorem D_m_forgives_1 : decode M_m_forgives.2.1 1 = .ok (.iload_n 1, 1) := by decide +kernel
theorem D_m_forgives_2 : decode M_m_forgives.2.1 2 = .ok (.iload_n 2, 1) := by decide +kernel
theorem D_m_forgives_3 : decode M_m_forgives.2.1 3 = .ok (.invokevirtual 161, 3) := by decide +kernel
theorem D_m_forgives_6 : decode M_m_forgives.2.1 6 = .ok (.ifCond .ne 5, 3) := by decide +kernel
theorem D_m_forgives_9 : decode M_m_forgives.2.1 9 = .ok (.iconst (-1), 1) := by decide +kernel
theorem D_m_forgives_10 : decode M_m_forgives.2.1 10 = .ok (.ireturn, 1) := by decide +kernel
theorem D_m_forgives_11 : decode M_m_forgives.2.1 11 = .ok (.aload_n 0, 1) := by decide +kernel
theorem D_m_forgives_12 : decode M_m_forgives.2.1 12 = .ok (.getfield 23, 3) := by decide +kernel
theorem D_m_forgives_15 : decode M_m_forgives.2.1 15 = .ok (.bipush 16, 2) := by decide +kernel
theorem D_m_forgives_17 : decode M_m_forgives.2.1 17 = .ok (.bipush 6, 2) := by decide +kernel
theorem D_m_forgives_19 : decode M_m_forgives.2.1 19 = .ok (.iload_n 1, 1) := by decide +kernel
theorem D_m_forgives_20 : decode M_m_forgives.2.1 20 = .ok (.imul, 1) := by decide +kernel
theorem D_m_forgives_21 : decode M_m_forgives.2.1 21 = .ok (.iadd, 1) := by decide +kernel
theorem D_m_forgives_22 : decode M_m_forgives.2.1 22 = .ok (.iload_n 2, 1) := by decide +kernel
theorem D_m_forgives_23 : decode M_m_forgives.2.1 23 = .ok (.iadd, 1) := by decide +kernel
theorem D_m_forgives_24 : decode M_m_forgives.2.1 24 = .ok (.iaload, 1) := by decide +kernel
theorem D_m_forgives_25 : decode M_m_forgives.2.1 25 = .ok (.istore_n 3, 1) := by decide +kernel
theorem D_m_forgives_26 : decode M_m_forgives.2.1 26 = .ok (.iload_n 3, 1) := by decide +kernel
theorem D_m_forgives_27 : decode M_m_forgives.2.1 27 = .ok (.ifCond .ne 6, 3) := by decide +kernel
theorem D_m_forgives_30 : decode M_m_forgives.2.1 30 = .ok (.bipush (-2), 2) := by decide +kernel
theorem D_m_forgives_32 : decode M_m_forgives.2.1 32 = .ok (.ireturn, 1) := by decide +kernel
theorem D_m_forgives_33 : decode M_m_forgives.2.1 33 = .ok (.aload_n 0, 1) := by decide +kernel
theorem D_m_forgives_34 : decode M_m_forgives.2.1 34 = .ok (.invokevirtual 172, 3) := by decide +kernel
theorem D_m_forgives_37 : decode M_m_forgives.2.1 37 = .ok (.aload_n 0, 1) := by decide +kernel
theorem D_m_forgives_38 : decode M_m_forgives.2.1 38 = .ok (.getfield 23, 3) := by decide +kernel
theorem D_m_forgives_41 : decode M_m_forgives.2.1 41 = .ok (.bipush 16, 2) := by decide +kernel
theorem D_m_forgives_43 : decode M_m_forgives.2.1 43 = .ok (.bipush 6, 2) := by decide +kernel
theorem D_m_forgives_45 : decode M_m_forgives.2.1 45 = .ok (.iload_n 1, 1) := by decide +kernel
theorem D_m_forgives_46 : decode M_m_forgives.2.1 46 = .ok (.imul, 1) := by decide +kernel
theorem D_m_forgives_47 : decode M_m_forgives.2.1 47 = .ok (.iadd, 1) := by decide +kernel
theorem D_m_forgives_48 : decode M_m_forgives.2.1 48 = .ok (.iload_n 2, 1) := by decide +kernel
theorem D_m_forgives_49 : decode M_m_forgives.2.1 49 = .ok (.iadd, 1) := by decide +kernel
theorem D_m_forgives_50 : decode M_m_forgives.2.1 50 = .ok (.iconst 0, 1) := by decide +kernel
theorem D_m_forgives_51 : decode M_m_forgives.2.1 51 = .ok (.iastore, 1) := by decide +kernel
theorem D_m_forgives_52 : decode M_m_forgives.2.1 52 = .ok (.iload_n 3, 1) := by decide +kernel
theorem D_m_forgives_53 : decode M_m_forgives.2.1 53 = .ok (.ireturn, 1) := by decide +kernel
theorem D_m_undo_0 : decode M_m_undo.2.1 0 = .ok (.aload_n 0, 1) := by decide +kernel
theorem D_m_undo_1 : decode M_m_undo.2.1 1 = .ok (.getfield 23, 3) := by decide +kernel
theorem D_m_undo_4 : decode M_m_undo.2.1 4 = .ok (.bipush 52, 2) := by decide +kernel
theorem D_m_undo_6 : decode M_m_undo.2.1 6 = .ok (.iaload, 1) := by decide +kernel
theorem D_m_undo_7 : decode M_m_undo.2.1 7 = .ok (.ifCond .ne 6, 3) := by decide +kernel
theorem D_m_undo_10 : decode M_m_undo.2.1 10 = .ok (.bipush (-2), 2) := by decide +kernel
theorem D_m_undo_12 : decode M_m_undo.2.1 12 = .ok (.ireturn, 1) := by decide +kernel
theorem D_m_undo_13 : decode M_m_undo.2.1 13 = .ok (.aload_n 0, 1) := by decide +kernel
theorem D_m_undo_14 : decode M_m_undo.2.1 14 = .ok (.getfield 23, 3) := by decide +kernel
theorem D_m_undo_17 : decode M_m_undo.2.1 17 = .ok (.bipush 52, 2) := by decide +kernel
theorem D_m_undo_19 : decode M_m_undo.2.1 19 = .ok (.dup2, 1) := by decide +kernel
theorem D_m_undo_20 : decode M_m_undo.2.1 20 = .ok (.iaload, 1) := by decide +kernel
theorem D_m_undo_21 : decode M_m_undo.2.1 21 = .ok (.iconst 1, 1) := by decide +kernel
theorem D_m_undo_22 : decode M_m_undo.2.1 22 = .ok (.isub, 1) := by decide +kernel
theorem D_m_undo_23 : decode M_m_undo.2.1 23 = .ok (.iastore, 1) := by decide +kernel
theorem D_m_undo_24 : decode M_m_undo.2.1 24 = .ok (.bipush 53, 2) := by decide +kernel
theorem D_m_undo_26 : decode M_m_undo.2.1 26 = .ok (.bipush 52, 2) := by decide +kernel
theorem D_m_undo_28 : decode M_m_undo.2.1 28 = .ok (.aload_n 0, 1) := by decide +kernel
theorem D_m_undo_29 : decode M_m_undo.2.1 29 = .ok (.getfield 23, 3) := by decide +kernel
theorem D_m_undo_32 : decode M_m_undo.2.1 32 = .ok (.bipush 52, 2) := by decide +kernel
theorem D_m_undo_34 : decode M_m_undo.2.1 34 = .ok (.iaload, 1) := by decide +kernel
theorem D_m_undo_35 : decode M_m_undo.2.1 35 = .ok (.imul, 1) := by decide +kernel
theorem D_m_undo_36 : decode M_m_undo.2.1 36 = .ok (.iadd, 1) := by decide +kernel
theorem D_m_undo_37 : decode M_m_undo.2.1 37 = .ok (.istore_n 1, 1) := by decide +kernel
theorem D_m_undo_38 : decode M_m_undo.2.1 38 = .ok (.iconst 0, 1) := by decide +kernel
theorem D_m_undo_39 : decode M_m_undo.2.1 39 = .ok (.istore_n 2, 1) := by decide +kernel
theorem D_m_undo_40 : decode M_m_undo.2.1 40 = .ok (.iload_n 2, 1) := by decide +kernel
theorem D_m_undo_41 : decode M_m_undo.2.1 41 = .ok (.bipush 52, 2) := by decide +kernel
theorem D_m_undo_43 : decode M_m_undo.2.1 43 = .ok (.if_icmp .ge 23, 3) := by decide +kernel
theorem D_m_undo_46 : decode M_m_undo.2.1 46 = .ok (.aload_n 0, 1) := by decide +kernel
theorem D_m_undo_47 : decode M_m_undo.2.1 47 = .ok (.getfield 23, 3) := by decide +kernel
theorem D_m_undo_50 : decode M_m_undo.2.1 50 = .ok (.iload_n 2, 1) := by decide +kernel
theorem D_m_undo_51 : decode M_m_undo.2.1 51 = .ok (.aload_n 0, 1) := by decide +kernel
theorem D_m_undo_52 : decode M_m_undo.2.1 52 = .ok (.getfield 23, 3) := by decide +kernel
theorem D_m_undo_55 : decode M_m_undo.2.1 55 = .ok (.iload_n 1, 1) := by decide +kernel
theorem D_m_undo_56 : decode M_m_undo.2.1 56 = .ok (.iload_n 2, 1) := by decide +kernel
theorem D_m_undo_57 : decode M_m_undo.2.1 57 = .ok (.iadd, 1) := by decide +kernel
theorem D_m_undo_58 : decode M_m_undo.2.1 58 = .ok (.iaload, 1) := by decide +kernel
theorem D_m_undo_59 : decode M_m_undo.2.1 59 = .ok (.iastore, 1) := by decide +kernel
theorem D_m_undo_60 : decode M_m_undo.2.1 60 = .ok (.iinc 2 1, 3) := by decide +kernel
theorem D_m_undo_63 : decode M_m_undo.2.1 63 = .ok (.goto (-23), 3) := by decide +kernel
theorem D_m_undo_66 : decode M_m_undo.2.1 66 = .ok (.aload_n 0, 1) := by decide +kernel
theorem D_m_undo_67 : decode M_m_undo.2.1 67 = .ok (.getfield 23, 3) := by decide +kernel
theorem D_m_undo_70 : decode M_m_undo.2.1 70 = .ok (.bipush 52, 2) := by decide +kernel
theorem D_m_undo_72 : decode M_m_undo.2.1 72 = .ok (.iaload, 1) := by decide +kernel
theorem D_m_undo_73 : decode M_m_undo.2.1 73 = .ok (.ireturn, 1) := by decide +kernel
theorem D_m_isAlike_0 : decode M_m_isAlike.2.1 0 = .ok (.iconst 1, 1) := by decide +kernel
theorem D_m_isAlike_1 : decode M_m_isAlike.2.1 1 = .ok (.istore_n 2, 1) := by decide +kernel
theorem D_m_isAlike_2 : decode M_m_isAlike.2.1 2 = .ok (.iconst 0, 1) := by decide +kernel
theorem D_m_isAlike_3 : decode M_m_isAlike.2.1 3 = .ok (.istore_n 3, 1) := by decide +kernel
theorem D_m_isAlike_4 : decode M_m_isAlike.2.1 4 = .ok (.iload_n 3, 1) := by decide +kernel
theorem D_m_isAlike_5 : decode M_m_isAlike.2.1 5 = .ok (.aload_n 0, 1) := by decide +kernel
theorem D_m_isAlike_6 : decode M_m_isAlike.2.1 6 = .ok (.getfield 73, 3) := by decide +kernel
theorem D_m_isAlike_9 : decode M_m_isAlike.2.1 9 = .ok (.if_icmp .ge 41, 3) := by decide +kernel
theorem D_m_isAlike_12 : decode M_m_isAlike.2.1 12 = .ok (.iload_n 2, 1) := by decide +kernel
theorem D_m_isAlike_13 : decode M_m_isAlike.2.1 13 = .ok (.ifCond .eq 29, 3) := by decide +kernel
theorem D_m_isAlike_16 : decode M_m_isAlike.2.1 16 = .ok (.aload_n 0, 1) := by decide +kernel
theorem D_m_isAlike_17 : decode M_m_isAlike.2.1 17 = .ok (.getfield 7, 3) := by decide +kernel
theorem D_m_isAlike_20 : decode M_m_isAlike.2.1 20 = .ok (.iload_n 3, 1) := by decide +kernel
theorem D_m_isAlike_21 : decode M_m_isAlike.2.1 21 = .ok (.iaload, 1) := by decide +kernel
theorem D_m_isAlike_22 : decode M_m_isAlike.2.1 22 = .ok (.aload_n 0, 1) := by decide +kernel
theorem D_m_isAlike_23 : decode M_m_isAlike.2.1 23 = .ok (.getfield 7, 3) := by decide +kernel
theorem D_m_isAlike_26 : decode M_m_isAlike.2.1 26 = .ok (.iload_n 3, 1) := by decide +kernel
theorem D_m_isAlike_27 : decode M_m_isAlike.2.1 27 = .ok (.iload_n 1, 1) := by decide +kernel
theorem D_m_isAlike_28 : decode M_m_isAlike.2.1 28 = .ok (.iadd, 1) := by decide +kernel
theorem D_m_isAlike_29 : decode M_m_isAlike.2.1 29 = .ok (.aload_n 0, 1) := by decide +kernel
theorem D_m_isAlike_30 : decode M_m_isAlike.2.1 30 = .ok (.getfield 73, 3) := by decide +kernel
theorem D_m_isAlike_33 : decode M_m_isAlike.2.1 33 = .ok (.irem, 1) := by decide +kernel
theorem D_m_isAlike_34 : decode M_m_isAlike.2.1 34 = .ok (.iaload, 1) := by decide +kernel
theorem D_m_isAlike_35 : decode M_m_isAlike.2.1 35 = .ok (.if_icmp .ne 7, 3) := by decide +kernel
theorem D_m_isAlike_38 : decode M_m_isAlike.2.1 38 = .ok (.iconst 1, 1) := by decide +kernel
theorem D_m_isAlike_39 : decode M_m_isAlike.2.1 39 = .ok (.goto 4, 3) := by decide +kernel
theorem D_m_isAlike_42 : decode M_m_isAlike.2.1 42 = .ok (.iconst 0, 1) := by decide +kernel
theorem D_m_isAlike_43 : decode M_m_isAlike.2.1 43 = .ok (.istore_n 2, 1) := by decide +kernel
theorem D_m_isAlike_44 : decode M_m_isAlike.2.1 44 = .ok (.iinc 3 1, 3) := by decide +kernel
theorem D_m_isAlike_47 : decode M_m_isAlike.2.1 47 = .ok (.goto (-43), 3) := by decide +kernel
theorem D_m_isAlike_50 : decode M_m_isAlike.2.1 50 = .ok (.iload_n 2, 1) := by decide +kernel
theorem D_m_isAlike_51 : decode M_m_isAlike.2.1 51 = .ok (.ireturn, 1) := by decide +kernel
theorem D_m_alike_0 : decode M_m_alike.2.1 0 = .ok (.bipush (-9), 2) := by decide +kernel
theorem D_m_alike_2 : decode M_m_alike.2.1 2 = .ok (.istore_n 1, 1) := by decide +kernel
theorem D_m_alike_3 : decode M_m_alike.2.1 3 = .ok (.aload_n 0, 1) := by decide +kernel
theorem D_m_alike_4 : decode M_m_alike.2.1 4 = .ok (.getfield 73, 3) := by decide +kernel
theorem D_m_alike_7 : decode M_m_alike.2.1 7 = .ok (.istore_n 2, 1) := by decide +kernel
theorem D_m_alike_8 : decode M_m_alike.2.1 8 = .ok (.iload_n 2, 1) := by decide +kernel
theorem D_m_alike_9 : decode M_m_alike.2.1 9 = .ok (.ifCond .le 23, 3) := by decide +kernel
theorem D_m_alike_12 : decode M_m_alike.2.1 12 = .ok (.aload_n 0, 1) := by decide +kernel
theorem D_m_alike_13 : decode M_m_alike.2.1 13 = .ok (.iload_n 2, 1) := by decide +kernel
theorem D_m_alike_14 : decode M_m_alike.2.1 14 = .ok (.invokevirtual 184, 3) := by decide +kernel
theorem D_m_alike_17 : decode M_m_alike.2.1 17 = .ok (.ifCond .eq 7, 3) := by decide +kernel
theorem D_m_alike_20 : decode M_m_alike.2.1 20 = .ok (.iload_n 2, 1) := by decide +kernel
theorem D_m_alike_21 : decode M_m_alike.2.1 21 = .ok (.goto 4, 3) := by decide +kernel
theorem D_m_alike_24 : decode M_m_alike.2.1 24 = .ok (.iload_n 1, 1) := by decide +kernel
theorem D_m_alike_25 : decode M_m_alike.2.1 25 = .ok (.istore_n 1, 1) := by decide +kernel
theorem D_m_alike_26 : decode M_m_alike.2.1 26 = .ok (.iinc 2 (-1), 3) := by decide +kernel
theorem D_m_alike_29 : decode M_m_alike.2.1 29 = .ok (.goto (-21), 3) := by decide +kernel
theorem D_m_alike_32 : decode M_m_alike.2.1 32 = .ok (.iload_n 1, 1) := by decide +kernel
theorem D_m_alike_33 : decode M_m_alike.2.1 33 = .ok (.ireturn, 1) := by decide +kernel
theorem D_m_ring_0 : decode M_m_ring.2.1 0 = .ok (.iconst 0, 1) := by decide +kernel
theorem D_m_ring_1 : decode M_m_ring.2.1 1 = .ok (.istore_n 1, 1) := by decide +kernel
theorem D_m_ring_2 : decode M_m_ring.2.1 2 = .ok (.iload_n 1, 1) := by decide +kernel
theorem D_m_ring_3 : decode M_m_ring.2.1 3 = .ok (.aload_n 0, 1) := by decide +kernel
theorem D_m_ring_4 : decode M_m_ring.2.1 4 = .ok (.getfield 66, 3) := by decide +kernel
theorem D_m_ring_7 : decode M_m_ring.2.1 7 = .ok (.if_icmp .ge 65, 3) := by decide +kernel
theorem D_m_ring_10 : decode M_m_ring.2.1 10 = .ok (.aload_n 0, 1) := by decide +kernel
theorem D_m_ring_11 : decode M_m_ring.2.1 11 = .ok (.getfield 51, 3) := by decide +kernel
theorem D_m_ring_14 : decode M_m_ring.2.1 14 = .ok (.iload_n 1, 1) := by decide +kernel
theorem D_m_ring_15 : decode M_m_ring.2.1 15 = .ok (.iconst 0, 1) := by decide +kernel
theorem D_m_ring_16 : decode M_m_ring.2.1 16 = .ok (.iastore, 1) := by decide +kernel
theorem D_m_ring_17 : decode M_m_ring.2.1 17 = .ok (.iconst 0, 1) := by decide +kernel
theorem D_m_ring_18 : decode M_m_ring.2.1 18 = .ok (.istore_n 2, 1) := by decide +kernel
theorem D_m_ring_19 : decode M_m_ring.2.1 19 = .ok (.iload_n 2, 1) := by decide +kernel
theorem D_m_ring_20 : decode M_m_ring.2.1 20 = .ok (.aload_n 0, 1) := by decide +kernel
theorem D_m_ring_21 : decode M_m_ring.2.1 21 = .ok (.getfield 66, 3) := by decide +kernel
theorem D_m_ring_24 : decode M_m_ring.2.1 24 = .ok (.if_icmp .ge 42, 3) := by decide +kernel
theorem D_m_ring_27 : decode M_m_ring.2.1 27 = .ok (.aload_n 0, 1) := by decide +kernel
theorem D_m_ring_28 : decode M_m_ring.2.1 28 = .ok (.getfield 51, 3) := by decide +kernel
theorem D_m_ring_31 : decode M_m_ring.2.1 31 = .ok (.iload_n 1, 1) := by decide +kernel
theorem D_m_ring_32 : decode M_m_ring.2.1 32 = .ok (.dup2, 1) := by decide +kernel
theorem D_m_ring_33 : decode M_m_ring.2.1 33 = .ok (.iaload, 1) := by decide +kernel
theorem D_m_ring_34 : decode M_m_ring.2.1 34 = .ok (.aload_n 0, 1) := by decide +kernel
theorem D_m_ring_35 : decode M_m_ring.2.1 35 = .ok (.getfield 23, 3) := by decide +kernel
theorem D_m_ring_38 : decode M_m_ring.2.1 38 = .ok (.bipush 16, 2) := by decide +kernel
theorem D_m_ring_40 : decode M_m_ring.2.1 40 = .ok (.bipush 6, 2) := by decide +kernel
theorem D_m_ring_42 : decode M_m_ring.2.1 42 = .ok (.iload_n 1, 1) := by decide +kernel
theorem D_m_ring_43 : decode M_m_ring.2.1 43 = .ok (.imul, 1) := by decide +kernel
theorem D_m_ring_44 : decode M_m_ring.2.1 44 = .ok (.iadd, 1) := by decide +kernel
theorem D_m_ring_45 : decode M_m_ring.2.1 45 = .ok (.iload_n 2, 1) := by decide +kernel
theorem D_m_ring_46 : decode M_m_ring.2.1 46 = .ok (.iadd, 1) := by decide +kernel
theorem D_m_ring_47 : decode M_m_ring.2.1 47 = .ok (.iaload, 1) := by decide +kernel
theorem D_m_ring_48 : decode M_m_ring.2.1 48 = .ok (.ifCond .le 9, 3) := by decide +kernel
theorem D_m_ring_51 : decode M_m_ring.2.1 51 = .ok (.iconst 1, 1) := by decide +kernel
theorem D_m_ring_52 : decode M_m_ring.2.1 52 = .ok (.iload_n 2, 1) := by decide +kernel
theorem D_m_ring_53 : decode M_m_ring.2.1 53 = .ok (.ishl, 1) := by decide +kernel
theorem D_m_ring_54 : decode M_m_ring.2.1 54 = .ok (.goto 4, 3) := by decide +kernel
theorem D_m_ring_57 : decode M_m_ring.2.1 57 = .ok (.iconst 0, 1) := by decide +kernel
theorem D_m_ring_58 : decode M_m_ring.2.1 58 = .ok (.ior, 1) := by decide +kernel
theorem D_m_ring_59 : decode M_m_ring.2.1 59 = .ok (.iastore, 1) := by decide +kernel
theorem D_m_ring_60 : decode M_m_ring.2.1 60 = .ok (.iinc 2 1, 3) := by decide +kernel
theorem D_m_ring_63 : decode M_m_ring.2.1 63 = .ok (.goto (-44), 3) := by decide +kernel
theorem D_m_ring_66 : decode M_m_ring.2.1 66 = .ok (.iinc 1 1, 3) := by decide +kernel
theorem D_m_ring_69 : decode M_m_ring.2.1 69 = .ok (.goto (-67), 3) := by decide +kernel
theorem D_m_ring_72 : decode M_m_ring.2.1 72 = .ok (.iconst 0, 1) := by decide +kernel
theorem D_m_ring_73 : decode M_m_ring.2.1 73 = .ok (.istore_n 1, 1) := by decide +kernel
theorem D_m_ring_74 : decode M_m_ring.2.1 74 = .ok (.iload_n 1, 1) := by decide +kernel
theorem D_m_ring_75 : decode M_m_ring.2.1 75 = .ok (.aload_n 0, 1) := by decide +kernel
theorem D_m_ring_76 : decode M_m_ring.2.1 76 = .ok (.getfield 66, 3) := by decide +kernel
theorem D_m_ring_79 : decode M_m_ring.2.1 79 = .ok (.if_icmp .ge 57, 3) := by decide +kernel
theorem D_m_ring_82 : decode M_m_ring.2.1 82 = .ok (.iconst 0, 1) := by decide +kernel
theorem D_m_ring_83 : decode M_m_ring.2.1 83 = .ok (.istore_n 2, 1) := by decide +kernel
theorem D_m_ring_84 : decode M_m_ring.2.1 84 = .ok (.iload_n 2, 1) := by decide +kernel
theorem D_m_ring_85 : decode M_m_ring.2.1 85 = .ok (.aload_n 0, 1) := by decide +kernel
theorem D_m_ring_86 : decode M_m_ring.2.1 86 = .ok (.getfield 66, 3) := by decide +kernel
theorem D_m_ring_89 : decode M_m_ring.2.1 89 = .ok (.if_icmp .ge 41, 3) := by decide +kernel
theorem D_m_ring_92 : decode M_m_ring.2.1 92 = .ok (.aload_n 0, 1) := by decide +kernel
theorem D_m_ring_93 : decode M_m_ring.2.1 93 = .ok (.getfield 51, 3) := by decide +kernel
theorem D_m_ring_96 : decode M_m_ring.2.1 96 = .ok (.iload_n 2, 1) := by decide +kernel
theorem D_m_ring_97 : decode M_m_ring.2.1 97 = .ok (.dup2, 1) := by decide +kernel
theorem D_m_ring_98 : decode M_m_ring.2.1 98 = .ok (.iaload, 1) := by decide +kernel
theorem D_m_ring_99 : decode M_m_ring.2.1 99 = .ok (.aload_n 0, 1) := by decide +kernel
theorem D_m_ring_100 : decode M_m_ring.2.1 100 = .ok (.getfield 51, 3) := by decide +kernel
theorem D_m_ring_103 : decode M_m_ring.2.1 103 = .ok (.iload_n 2, 1) := by decide +kernel
theorem D_m_ring_104 : decode M_m_ring.2.1 104 = .ok (.iaload, 1) := by decide +kernel
theorem D_m_ring_105 : decode M_m_ring.2.1 105 = .ok (.iload_n 1, 1) := by decide +kernel
theorem D_m_ring_106 : decode M_m_ring.2.1 106 = .ok (.invokestatic 187, 3) := by decide +kernel
theorem D_m_ring_109 : decode M_m_ring.2.1 109 = .ok (.ifCond .eq 12, 3) := by decide +kernel
theorem D_m_ring_112 : decode M_m_ring.2.1 112 = .ok (.aload_n 0, 1) := by decide +kernel
theorem D_m_ring_113 : decode M_m_ring.2.1 113 = .ok (.getfield 51, 3) := by decide +kernel
theorem D_m_ring_116 : decode M_m_ring.2.1 116 = .ok (.iload_n 1, 1) := by decide +kernel
theorem D_m_ring_117 : decode M_m_ring.2.1 117 = .ok (.iaload, 1) := by decide +kernel
theorem D_m_ring_118 : decode M_m_ring.2.1 118 = .ok (.goto 4, 3) := by decide +kernel
theorem D_m_ring_121 : decode M_m_ring.2.1 121 = .ok (.iconst 0, 1) := by decide +kernel
theorem D_m_ring_122 : decode M_m_ring.2.1 122 = .ok (.ior, 1) := by decide +kernel
theorem D_m_ring_123 : decode M_m_ring.2.1 123 = .ok (.iastore, 1) := by decide +kernel
theorem D_m_ring_124 : decode M_m_ring.2.1 124 = .ok (.iinc 2 1, 3) := by decide +kernel
theorem D_m_ring_127 : decode M_m_ring.2.1 127 = .ok (.goto (-43), 3) := by decide +kernel
theorem D_m_ring_130 : decode M_m_ring.2.1 130 = .ok (.iinc 1 1, 3) := by decide +kernel
theorem D_m_ring_133 : decode M_m_ring.2.1 133 = .ok (.goto (-59), 3) := by decide +kernel
theorem D_m_ring_136 : decode M_m_ring.2.1 136 = .ok (.iconst 0, 1) := by decide +kernel
theorem D_m_ring_137 : decode M_m_ring.2.1 137 = .ok (.istore_n 1, 1) := by decide +kernel
theorem D_m_ring_138 : decode M_m_ring.2.1 138 = .ok (.iconst 0, 1) := by decide +kernel
theorem D_m_ring_139 : decode M_m_ring.2.1 139 = .ok (.istore_n 2, 1) := by decide +kernel
theorem D_m_ring_140 : decode M_m_ring.2.1 140 = .ok (.iload_n 2, 1) := by decide +kernel
theorem D_m_ring_141 : decode M_m_ring.2.1 141 = .ok (.aload_n 0, 1) := by decide +kernel
theorem D_m_ring_142 : decode M_m_ring.2.1 142 = .ok (.getfield 66, 3) := by decide +kernel
theorem D_m_ring_145 : decode M_m_ring.2.1 145 = .ok (.if_icmp .ge 32, 3) := by decide +kernel
theorem D_m_ring_148 : decode M_m_ring.2.1 148 = .ok (.iload_n 1, 1) := by decide +kernel
theorem D_m_ring_149 : decode M_m_ring.2.1 149 = .ok (.aload_n 0, 1) := by decide +kernel
theorem D_m_ring_150 : decode M_m_ring.2.1 150 = .ok (.getfield 51, 3) := by decide +kernel
theorem D_m_ring_153 : decode M_m_ring.2.1 153 = .ok (.iload_n 2, 1) := by decide +kernel
theorem D_m_ring_154 : decode M_m_ring.2.1 154 = .ok (.iaload, 1) := by decide +kernel
theorem D_m_ring_155 : decode M_m_ring.2.1 155 = .ok (.iload_n 2, 1) := by decide +kernel
theorem D_m_ring_156 : decode M_m_ring.2.1 156 = .ok (.invokestatic 187, 3) := by decide +kernel
theorem D_m_ring_159 : decode M_m_ring.2.1 159 = .ok (.ifCond .eq 9, 3) := by decide +kernel
theorem D_m_ring_162 : decode M_m_ring.2.1 162 = .ok (.iconst 1, 1) := by decide +kernel
theorem D_m_ring_163 : decode M_m_ring.2.1 163 = .ok (.iload_n 2, 1) := by decide +kernel
theorem D_m_ring_164 : decode M_m_ring.2.1 164 = .ok (.ishl, 1) := by decide +kernel
theorem D_m_ring_165 : decode M_m_ring.2.1 165 = .ok (.goto 4, 3) := by decide +kernel
theorem D_m_ring_168 : decode M_m_ring.2.1 168 = .ok (.iconst 0, 1) := by decide +kernel
theorem D_m_ring_169 : decode M_m_ring.2.1 169 = .ok (.ior, 1) := by decide +kernel
theorem D_m_ring_170 : decode M_m_ring.2.1 170 = .ok (.istore_n 1, 1) := by decide +kernel
theorem D_m_ring_171 : decode M_m_ring.2.1 171 = .ok (.iinc 2 1, 3) := by decide +kernel
theorem D_m_ring_174 : decode M_m_ring.2.1 174 = .ok (.goto (-34), 3) := by decide +kernel
theorem D_m_ring_177 : decode M_m_ring.2.1 177 = .ok (.iload_n 1, 1) := by decide +kernel
theorem D_m_ring_178 : decode M_m_ring.2.1 178 = .ok (.ireturn, 1) := by decide +kernel
theorem D_m_now_0 : decode M_m_now.2.1 0 = .ok (.iload_n 1, 1) := by decide +kernel
theorem D_m_now_1 : decode M_m_now.2.1 1 = .ok (.tableswitch 88 0 6 #[43, 43, 43, 43, 50, 78, 83], 43) := by decide +kernel
theorem D_m_now_44 : decode M_m_now.2.1 44 = .ok (.aload_n 0, 1) := by decide +kernel
theorem D_m_now_45 : decode M_m_now.2.1 45 = .ok (.getfield 23, 3) := by decide +kernel
theorem D_m_now_48 : decode M_m_now.2.1 48 = .ok (.iload_n 1, 1) := by decide +kernel
theorem D_m_now_49 : decode M_m_now.2.1 49 = .ok (.iaload, 1) := by decide +kernel
theorem D_m_now_50 : decode M_m_now.2.1 50 = .ok (.ireturn, 1) := by decide +kernel
theorem D_m_now_51 : decode M_m_now.2.1 51 = .ok (.iconst 0, 1) := by decide +kernel
theorem D_m_now_52 : decode M_m_now.2.1 52 = .ok (.istore_n 2, 1) := by decide +kernel
theorem D_m_now_53 : decode M_m_now.2.1 53 = .ok (.iconst 0, 1) := by decide +kernel
theorem D_m_now_54 : decode M_m_now.2.1 54 = .ok (.istore_n 3, 1) := by decide +kernel
theorem D_m_now_55 : decode M_m_now.2.1 55 = .ok (.iload_n 3, 1) := by decide +kernel
theorem D_m_now_56 : decode M_m_now.2.1 56 = .ok (.aload_n 0, 1) := by decide +kernel
theorem D_m_now_57 : decode M_m_now.2.1 57 = .ok (.getfield 66, 3) := by decide +kernel
theorem D_m_now_60 : decode M_m_now.2.1 60 = .ok (.if_icmp .ge 17, 3) := by decide +kernel
theorem D_m_now_63 : decode M_m_now.2.1 63 = .ok (.iload_n 2, 1) := by decide +kernel
theorem D_m_now_64 : decode M_m_now.2.1 64 = .ok (.aload_n 0, 1) := by decide +kernel
theorem D_m_now_65 : decode M_m_now.2.1 65 = .ok (.iload_n 3, 1) := by decide +kernel
theorem D_m_now_66 : decode M_m_now.2.1 66 = .ok (.invokevirtual 158, 3) := by decide +kernel
theorem D_m_now_69 : decode M_m_now.2.1 69 = .ok (.iadd, 1) := by decide +kernel
theorem D_m_now_70 : decode M_m_now.2.1 70 = .ok (.istore_n 2, 1) := by decide +kernel
theorem D_m_now_71 : decode M_m_now.2.1 71 = .ok (.iinc 3 1, 3) := by decide +kernel
theorem D_m_now_74 : decode M_m_now.2.1 74 = .ok (.goto (-19), 3) := by decide +kernel
theorem D_m_now_77 : decode M_m_now.2.1 77 = .ok (.iload_n 2, 1) := by decide +kernel
theorem D_m_now_78 : decode M_m_now.2.1 78 = .ok (.ireturn, 1) := by decide +kernel
theorem D_m_now_79 : decode M_m_now.2.1 79 = .ok (.aload_n 0, 1) := by decide +kernel
theorem D_m_now_80 : decode M_m_now.2.1 80 = .ok (.invokevirtual 190, 3) := by decide +kernel
theorem D_m_now_83 : decode M_m_now.2.1 83 = .ok (.ireturn, 1) := by decide +kernel
theorem D_m_now_84 : decode M_m_now.2.1 84 = .ok (.aload_n 0, 1) := by decide +kernel
theorem D_m_now_85 : decode M_m_now.2.1 85 = .ok (.invokevirtual 194, 3) := by decide +kernel
theorem D_m_now_88 : decode M_m_now.2.1 88 = .ok (.ireturn, 1) := by decide +kernel
theorem D_m_now_89 : decode M_m_now.2.1 89 = .ok (.iconst (-1), 1) := by decide +kernel
theorem D_m_now_90 : decode M_m_now.2.1 90 = .ok (.ireturn, 1) := by decide +kernel
theorem D_m_clicks_0 : decode M_m_clicks.2.1 0 = .ok (.iload_n 1, 1) := by decide +kernel
theorem D_m_clicks_1 : decode M_m_clicks.2.1 1 = .ok (.invokestatic 169, 3) := by decide +kernel
theorem D_m_clicks_4 : decode M_m_clicks.2.1 4 = .ok (.ifCond .eq 11, 3) := by decide +kernel
theorem D_m_clicks_7 : decode M_m_clicks.2.1 7 = .ok (.aload_n 0, 1) := by decide +kernel
theorem D_m_clicks_8 : decode M_m_clicks.2.1 8 = .ok (.iload_n 1, 1) := by decide +kernel
theorem D_m_clicks_9 : decode M_m_clicks.2.1 9 = .ok (.invokevirtual 175, 3) := by decide +kernel
theorem D_m_clicks_12 : decode M_m_clicks.2.1 12 = .ok (.goto 4, 3) := by decide +kernel
theorem D_m_clicks_15 : decode M_m_clicks.2.1 15 = .ok (.iconst (-1), 1) := by decide +kernel
theorem D_m_clicks_16 : decode M_m_clicks.2.1 16 = .ok (.ireturn, 1) := by decide +kernel
theorem D_m_stops_0 : decode M_m_stops.2.1 0 = .ok (.iload_n 1, 1) := by decide +kernel
theorem D_m_stops_1 : decode M_m_stops.2.1 1 = .ok (.invokestatic 169, 3) := by decide +kernel
theorem D_m_stops_4 : decode M_m_stops.2.1 4 = .ok (.ifCond .ne 5, 3) := by decide +kernel
theorem D_m_stops_7 : decode M_m_stops.2.1 7 = .ok (.iconst (-1), 1) := by decide +kernel
theorem D_m_stops_8 : decode M_m_stops.2.1 8 = .ok (.ireturn, 1) := by decide +kernel
theorem D_m_stops_9 : decode M_m_stops.2.1 9 = .ok (.aload_n 0, 1) := by decide +kernel
theorem D_m_stops_10 : decode M_m_stops.2.1 10 = .ok (.getfield 73, 3) := by decide +kernel
theorem D_m_stops_13 : decode M_m_stops.2.1 13 = .ok (.ifCond .ne 8, 3) := by decide +kernel
theorem D_m_stops_16 : decode M_m_stops.2.1 16 = .ok (.bipush (-2), 2) := by decide +kernel
theorem D_m_stops_18 : decode M_m_stops.2.1 18 = .ok (.goto 20, 3) := by decide +kernel
theorem D_m_stops_21 : decode M_m_stops.2.1 21 = .ok (.aload_n 0, 1) := by decide +kernel
theorem D_m_stops_22 : decode M_m_stops.2.1 22 = .ok (.getfield 23, 3) := by decide +kernel
theorem D_m_stops_25 : decode M_m_stops.2.1 25 = .ok (.iconst 0, 1) := by decide +kernel
theorem D_m_stops_26 : decode M_m_stops.2.1 26 = .ok (.iaload, 1) := by decide +kernel
theorem D_m_stops_27 : decode M_m_stops.2.1 27 = .ok (.aload_n 0, 1) := by decide +kernel
theorem D_m_stops_28 : decode M_m_stops.2.1 28 = .ok (.iload_n 1, 1) := by decide +kernel
theorem D_m_stops_29 : decode M_m_stops.2.1 29 = .ok (.invokevirtual 175, 3) := by decide +kernel
theorem D_m_stops_32 : decode M_m_stops.2.1 32 = .ok (.iadd, 1) := by decide +kernel
theorem D_m_stops_33 : decode M_m_stops.2.1 33 = .ok (.aload_n 0, 1) := by decide +kernel
theorem D_m_stops_34 : decode M_m_stops.2.1 34 = .ok (.getfield 73, 3) := by decide +kernel
theorem D_m_stops_37 : decode M_m_stops.2.1 37 = .ok (.irem, 1) := by decide +kernel
theorem D_m_stops_38 : decode M_m_stops.2.1 38 = .ok (.ireturn, 1) := by decide +kernel
theorem D_m_shadeOf_0 : decode M_m_shadeOf.2.1 0 = .ok (.aload_n 0, 1) := by decide +kernel
theorem D_m_shadeOf_1 : decode M_m_shadeOf.2.1 1 = .ok (.iload_n 1, 1) := by decide +kernel
theorem D_m_shadeOf_2 : decode M_m_shadeOf.2.1 2 = .ok (.aload_n 0, 1) := by decide +kernel
theorem D_m_shadeOf_3 : decode M_m_shadeOf.2.1 3 = .ok (.iload_n 2, 1) := by decide +kernel
theorem D_m_shadeOf_4 : decode M_m_shadeOf.2.1 4 = .ok (.invokevirtual 175, 3) := by decide +kernel
theorem D_m_shadeOf_7 : decode M_m_shadeOf.2.1 7 = .ok (.invokevirtual 149, 3) := by decide +kernel
theorem D_m_shadeOf_10 : decode M_m_shadeOf.2.1 10 = .ok (.ireturn, 1) := by decide +kernel
theorem D_m_shade_0 : decode M_m_shade.2.1 0 = .ok (.aload_n 0, 1) := by decide +kernel
theorem D_m_shade_1 : decode M_m_shade.2.1 1 = .ok (.iload_n 1, 1) := by decide +kernel
theorem D_m_shade_2 : decode M_m_shade.2.1 2 = .ok (.invokevirtual 146, 3) := by decide +kernel
theorem D_m_shade_5 : decode M_m_shade.2.1 5 = .ok (.ifCond .eq 19, 3) := by decide +kernel
theorem D_m_shade_8 : decode M_m_shade.2.1 8 = .ok (.iload_n 2, 1) := by decide +kernel
theorem D_m_shade_9 : decode M_m_shade.2.1 9 = .ok (.invokestatic 169, 3) := by decide +kernel
theorem D_m_shade_12 : decode M_m_shade.2.1 12 = .ok (.ifCond .eq 12, 3) := by decide +kernel
theorem D_m_shade_15 : decode M_m_shade.2.1 15 = .ok (.aload_n 0, 1) := by decide +kernel
theorem D_m_shade_16 : decode M_m_shade.2.1 16 = .ok (.iload_n 1, 1) := by decide +kernel
theorem D_m_shade_17 : decode M_m_shade.2.1 17 = .ok (.iload_n 2, 1) := by decide +kernel
theorem D_m_shade_18 : decode M_m_shade.2.1 18 = .ok (.invokevirtual 197, 3) := by decide +kernel
theorem D_m_shade_21 : decode M_m_shade.2.1 21 = .ok (.goto 4, 3) := by decide +kernel
theorem D_m_shade_24 : decode M_m_shade.2.1 24 = .ok (.iconst (-1), 1) := by decide +kernel
theorem D_m_shade_25 : decode M_m_shade.2.1 25 = .ok (.ireturn, 1) := by decide +kernel
theorem D_m_speedsOf_0 : decode M_m_speedsOf.2.1 0 = .ok (.iconst 0, 1) := by decide +kernel
theorem D_m_speedsOf_1 : decode M_m_speedsOf.2.1 1 = .ok (.istore 4, 2) := by decide +kernel
theorem D_m_speedsOf_3 : decode M_m_speedsOf.2.1 3 = .ok (.iconst 1, 1) := by decide +kernel
theorem D_m_speedsOf_4 : decode M_m_speedsOf.2.1 4 = .ok (.istore 5, 2) := by decide +kernel
theorem D_m_speedsOf_6 : decode M_m_speedsOf.2.1 6 = .ok (.iload 5, 2) := by decide +kernel
theorem D_m_speedsOf_8 : decode M_m_speedsOf.2.1 8 = .ok (.iload_n 3, 1) := by decide +kernel
theorem D_m_speedsOf_9 : decode M_m_speedsOf.2.1 9 = .ok (.if_icmp .gt 30, 3) := by decide +kernel
theorem D_m_speedsOf_12 : decode M_m_speedsOf.2.1 12 = .ok (.iload 4, 2) := by decide +kernel
theorem D_m_speedsOf_14 : decode M_m_speedsOf.2.1 14 = .ok (.aload_n 0, 1) := by decide +kernel
theorem D_m_speedsOf_15 : decode M_m_speedsOf.2.1 15 = .ok (.iload_n 1, 1) := by decide +kernel
theorem D_m_speedsOf_16 : decode M_m_speedsOf.2.1 16 = .ok (.iload 5, 2) := by decide +kernel
theorem D_m_speedsOf_18 : decode M_m_speedsOf.2.1 18 = .ok (.invokevirtual 197, 3) := by decide +kernel
theorem D_m_speedsOf_21 : decode M_m_speedsOf.2.1 21 = .ok (.iload_n 2, 1) := by decide +kernel
theorem D_m_speedsOf_22 : decode M_m_speedsOf.2.1 22 = .ok (.if_icmp .ne 7, 3) := by decide +kernel
theorem D_m_speedsOf_25 : decode M_m_speedsOf.2.1 25 = .ok (.iconst 1, 1) := by decide +kernel
theorem D_m_speedsOf_26 : decode M_m_speedsOf.2.1 26 = .ok (.goto 4, 3) := by decide +kernel
theorem D_m_speedsOf_29 : decode M_m_speedsOf.2.1 29 = .ok (.iconst 0, 1) := by decide +kernel
theorem D_m_speedsOf_30 : decode M_m_speedsOf.2.1 30 = .ok (.iadd, 1) := by decide +kernel
theorem D_m_speedsOf_31 : decode M_m_speedsOf.2.1 31 = .ok (.istore 4, 2) := by decide +kernel
theorem D_m_speedsOf_33 : decode M_m_speedsOf.2.1 33 = .ok (.iinc 5 1, 3) := by decide +kernel
theorem D_m_speedsOf_36 : decode M_m_speedsOf.2.1 36 = .ok (.goto (-30), 3) := by decide +kernel
theorem D_m_speedsOf_39 : decode M_m_speedsOf.2.1 39 = .ok (.iload 4, 2) := by decide +kernel
theorem D_m_speedsOf_41 : decode M_m_speedsOf.2.1 41 = .ok (.ireturn, 1) := by decide +kernel
theorem D_m_speeds_0 : decode M_m_speeds.2.1 0 = .ok (.aload_n 0, 1) := by decide +kernel
theorem D_m_speeds_1 : decode M_m_speeds.2.1 1 = .ok (.iload_n 1, 1) := by decide +kernel
theorem D_m_speeds_2 : decode M_m_speeds.2.1 2 = .ok (.invokevirtual 146, 3) := by decide +kernel
theorem D_m_speeds_5 : decode M_m_speeds.2.1 5 = .ok (.ifCond .eq 19, 3) := by decide +kernel
theorem D_m_speeds_8 : decode M_m_speeds.2.1 8 = .ok (.iload_n 2, 1) := by decide +kernel
theorem D_m_speeds_9 : decode M_m_speeds.2.1 9 = .ok (.invokestatic 200, 3) := by decide +kernel
theorem D_m_speeds_12 : decode M_m_speeds.2.1 12 = .ok (.ifCond .eq 12, 3) := by decide +kernel
theorem D_m_speeds_15 : decode M_m_speeds.2.1 15 = .ok (.iload_n 3, 1) := by decide +kernel
theorem D_m_speeds_16 : decode M_m_speeds.2.1 16 = .ok (.iconst 0, 1) := by decide +kernel
theorem D_m_speeds_17 : decode M_m_speeds.2.1 17 = .ok (.iconst 1, 1) := by decide +kernel
theorem D_m_speeds_18 : decode M_m_speeds.2.1 18 = .ok (.invokestatic 69, 3) := by decide +kernel
theorem D_m_speeds_21 : decode M_m_speeds.2.1 21 = .ok (.ifCond .ne 5, 3) := by decide +kernel
theorem D_m_speeds_24 : decode M_m_speeds.2.1 24 = .ok (.iconst (-1), 1) := by decide +kernel
theorem D_m_speeds_25 : decode M_m_speeds.2.1 25 = .ok (.ireturn, 1) := by decide +kernel
theorem D_m_speeds_26 : decode M_m_speeds.2.1 26 = .ok (.iload_n 3, 1) := by decide +kernel
theorem D_m_speeds_27 : decode M_m_speeds.2.1 27 = .ok (.ifCond .ne 12, 3) := by decide +kernel
theorem D_m_speeds_30 : decode M_m_speeds.2.1 30 = .ok (.aload_n 0, 1) := by decide +kernel
theorem D_m_speeds_31 : decode M_m_speeds.2.1 31 = .ok (.iload_n 1, 1) := by decide +kernel
theorem D_m_speeds_32 : decode M_m_speeds.2.1 32 = .ok (.iload_n 2, 1) := by decide +kernel
theorem D_m_speeds_33 : decode M_m_speeds.2.1 33 = .ok (.bipush 60, 2) := by decide +kernel
theorem D_m_speeds_35 : decode M_m_speeds.2.1 35 = .ok (.invokevirtual 203, 3) := by decide +kernel
theorem D_m_speeds_38 : decode M_m_speeds.2.1 38 = .ok (.ireturn, 1) := by decide +kernel
theorem D_m_speeds_39 : decode M_m_speeds.2.1 39 = .ok (.bipush (-9), 2) := by decide +kernel
theorem D_m_speeds_41 : decode M_m_speeds.2.1 41 = .ok (.istore 4, 2) := by decide +kernel
theorem D_m_speeds_43 : decode M_m_speeds.2.1 43 = .ok (.bipush 60, 2) := by decide +kernel
theorem D_m_speeds_45 : decode M_m_speeds.2.1 45 = .ok (.istore 5, 2) := by decide +kernel
theorem D_m_speeds_47 : decode M_m_speeds.2.1 47 = .ok (.iload 5, 2) := by decide +kernel
theorem D_m_speeds_49 : decode M_m_speeds.2.1 49 = .ok (.ifCond .le 29, 3) := by decide +kernel
theorem D_m_speeds_52 : decode M_m_speeds.2.1 52 = .ok (.aload_n 0, 1) := by decide +kernel
theorem D_m_speeds_53 : decode M_m_speeds.2.1 53 = .ok (.iload_n 1, 1) := by decide +kernel
theorem D_m_speeds_54 : decode M_m_speeds.2.1 54 = .ok (.iload 5, 2) := by decide +kernel
theorem D_m_speeds_56 : decode M_m_speeds.2.1 56 = .ok (.invokevirtual 197, 3) := by decide +kernel
theorem D_m_speeds_59 : decode M_m_speeds.2.1 59 = .ok (.iload_n 2, 1) := by decide +kernel
theorem D_m_speeds_60 : decode M_m_speeds.2.1 60 = .ok (.if_icmp .ne 8, 3) := by decide +kernel
theorem D_m_speeds_63 : decode M_m_speeds.2.1 63 = .ok (.iload 5, 2) := by decide +kernel
theorem D_m_speeds_65 : decode M_m_speeds.2.1 65 = .ok (.goto 5, 3) := by decide +kernel
theorem D_m_speeds_68 : decode M_m_speeds.2.1 68 = .ok (.iload 4, 2) := by decide +kernel
theorem D_m_speeds_70 : decode M_m_speeds.2.1 70 = .ok (.istore 4, 2) := by decide +kernel
theorem D_m_speeds_72 : decode M_m_speeds.2.1 72 = .ok (.iinc 5 (-1), 3) := by decide +kernel
theorem D_m_speeds_75 : decode M_m_speeds.2.1 75 = .ok (.goto (-28), 3) := by decide +kernel
theorem D_m_speeds_78 : decode M_m_speeds.2.1 78 = .ok (.iload 4, 2) := by decide +kernel
theorem D_m_speeds_80 : decode M_m_speeds.2.1 80 = .ok (.ireturn, 1) := by decide +kernel
theorem D_m_steps_0 : decode M_m_steps.2.1 0 = .ok (.aload_n 0, 1) := by decide +kernel
theorem D_m_steps_1 : decode M_m_steps.2.1 1 = .ok (.iload_n 1, 1) := by decide +kernel
theorem D_m_steps_2 : decode M_m_steps.2.1 2 = .ok (.invokevirtual 152, 3) := by decide +kernel
theorem D_m_steps_5 : decode M_m_steps.2.1 5 = .ok (.ifCond .eq 27, 3) := by decide +kernel
theorem D_m_steps_8 : decode M_m_steps.2.1 8 = .ok (.iload_n 2, 1) := by decide +kernel
theorem D_m_steps_9 : decode M_m_steps.2.1 9 = .ok (.invokestatic 200, 3) := by decide +kernel
theorem D_m_steps_12 : decode M_m_steps.2.1 12 = .ok (.ifCond .eq 20, 3) := by decide +kernel
theorem D_m_steps_15 : decode M_m_steps.2.1 15 = .ok (.iload_n 3, 1) := by decide +kernel
theorem D_m_steps_16 : decode M_m_steps.2.1 16 = .ok (.invokestatic 169, 3) := by decide +kernel
theorem D_m_steps_19 : decode M_m_steps.2.1 19 = .ok (.ifCond .eq 13, 3) := by decide +kernel
theorem D_m_steps_22 : decode M_m_steps.2.1 22 = .ok (.iload 4, 2) := by decide +kernel
theorem D_m_steps_24 : decode M_m_steps.2.1 24 = .ok (.iconst 0, 1) := by decide +kernel
theorem D_m_steps_25 : decode M_m_steps.2.1 25 = .ok (.iconst 1, 1) := by decide +kernel
theorem D_m_steps_26 : decode M_m_steps.2.1 26 = .ok (.invokestatic 69, 3) := by decide +kernel
theorem D_m_steps_29 : decode M_m_steps.2.1 29 = .ok (.ifCond .ne 5, 3) := by decide +kernel
theorem D_m_steps_32 : decode M_m_steps.2.1 32 = .ok (.iconst (-1), 1) := by decide +kernel
theorem D_m_steps_33 : decode M_m_steps.2.1 33 = .ok (.ireturn, 1) := by decide +kernel
theorem D_m_steps_34 : decode M_m_steps.2.1 34 = .ok (.bipush (-9), 2) := by decide +kernel
theorem D_m_steps_36 : decode M_m_steps.2.1 36 = .ok (.istore 5, 2) := by decide +kernel
theorem D_m_steps_38 : decode M_m_steps.2.1 38 = .ok (.iconst 0, 1) := by decide +kernel
theorem D_m_steps_39 : decode M_m_steps.2.1 39 = .ok (.istore 6, 2) := by decide +kernel
theorem D_m_steps_41 : decode M_m_steps.2.1 41 = .ok (.iconst 0, 1) := by decide +kernel
theorem D_m_steps_42 : decode M_m_steps.2.1 42 = .ok (.istore 7, 2) := by decide +kernel
theorem D_m_steps_44 : decode M_m_steps.2.1 44 = .ok (.iload 7, 2) := by decide +kernel
theorem D_m_steps_46 : decode M_m_steps.2.1 46 = .ok (.aload_n 0, 1) := by decide +kernel
theorem D_m_steps_47 : decode M_m_steps.2.1 47 = .ok (.getfield 73, 3) := by decide +kernel
theorem D_m_steps_50 : decode M_m_steps.2.1 50 = .ok (.if_icmp .ge 135, 3) := by decide +kernel
theorem D_m_steps_53 : decode M_m_steps.2.1 53 = .ok (.iload 7, 2) := by decide +kernel
theorem D_m_steps_55 : decode M_m_steps.2.1 55 = .ok (.aload_n 0, 1) := by decide +kernel
theorem D_m_steps_56 : decode M_m_steps.2.1 56 = .ok (.getfield 23, 3) := by decide +kernel
theorem D_m_steps_59 : decode M_m_steps.2.1 59 = .ok (.iconst 4, 1) := by decide +kernel
theorem D_m_steps_60 : decode M_m_steps.2.1 60 = .ok (.iload_n 1, 1) := by decide +kernel
theorem D_m_steps_61 : decode M_m_steps.2.1 61 = .ok (.iadd, 1) := by decide +kernel
theorem D_m_steps_62 : decode M_m_steps.2.1 62 = .ok (.iaload, 1) := by decide +kernel
theorem D_m_steps_63 : decode M_m_steps.2.1 63 = .ok (.isub, 1) := by decide +kernel
theorem D_m_steps_64 : decode M_m_steps.2.1 64 = .ok (.aload_n 0, 1) := by decide +kernel
theorem D_m_steps_65 : decode M_m_steps.2.1 65 = .ok (.getfield 73, 3) := by decide +kernel
theorem D_m_steps_68 : decode M_m_steps.2.1 68 = .ok (.iadd, 1) := by decide +kernel
theorem D_m_steps_69 : decode M_m_steps.2.1 69 = .ok (.aload_n 0, 1) := by decide +kernel
theorem D_m_steps_70 : decode M_m_steps.2.1 70 = .ok (.getfield 73, 3) := by decide +kernel
theorem D_m_steps_73 : decode M_m_steps.2.1 73 = .ok (.irem, 1) := by decide +kernel
theorem D_m_steps_74 : decode M_m_steps.2.1 74 = .ok (.istore 8, 2) := by decide +kernel
theorem D_m_steps_76 : decode M_m_steps.2.1 76 = .ok (.iload 8, 2) := by decide +kernel
theorem D_m_steps_78 : decode M_m_steps.2.1 78 = .ok (.aload_n 0, 1) := by decide +kernel
theorem D_m_steps_79 : decode M_m_steps.2.1 79 = .ok (.getfield 73, 3) := by decide +kernel
theorem D_m_steps_82 : decode M_m_steps.2.1 82 = .ok (.iload 8, 2) := by decide +kernel
theorem D_m_steps_84 : decode M_m_steps.2.1 84 = .ok (.isub, 1) := by decide +kernel
theorem D_m_steps_85 : decode M_m_steps.2.1 85 = .ok (.if_icmp .ge 8, 3) := by decide +kernel
theorem D_m_steps_88 : decode M_m_steps.2.1 88 = .ok (.iload 8, 2) := by decide +kernel
theorem D_m_steps_90 : decode M_m_steps.2.1 90 = .ok (.goto 10, 3) := by decide +kernel
theorem D_m_steps_93 : decode M_m_steps.2.1 93 = .ok (.aload_n 0, 1) := by decide +kernel
theorem D_m_steps_94 : decode M_m_steps.2.1 94 = .ok (.getfield 73, 3) := by decide +kernel
theorem D_m_steps_97 : decode M_m_steps.2.1 97 = .ok (.iload 8, 2) := by decide +kernel
theorem D_m_steps_99 : decode M_m_steps.2.1 99 = .ok (.isub, 1) := by decide +kernel
theorem D_m_steps_100 : decode M_m_steps.2.1 100 = .ok (.istore 9, 2) := by decide +kernel
theorem D_m_steps_102 : decode M_m_steps.2.1 102 = .ok (.aload_n 0, 1) := by decide +kernel
theorem D_m_steps_103 : decode M_m_steps.2.1 103 = .ok (.iload 7, 2) := by decide +kernel
theorem D_m_steps_105 : decode M_m_steps.2.1 105 = .ok (.invokevirtual 181, 3) := by decide +kernel
theorem D_m_steps_108 : decode M_m_steps.2.1 108 = .ok (.istore 10, 2) := by decide +kernel
theorem D_m_steps_110 : decode M_m_steps.2.1 110 = .ok (.iload 10, 2) := by decide +kernel
theorem D_m_steps_112 : decode M_m_steps.2.1 112 = .ok (.ifCond .lt 9, 3) := by decide +kernel
theorem D_m_steps_115 : decode M_m_steps.2.1 115 = .ok (.iload 10, 2) := by decide +kernel
theorem D_m_steps_117 : decode M_m_steps.2.1 117 = .ok (.iload_n 1, 1) := by decide +kernel
theorem D_m_steps_118 : decode M_m_steps.2.1 118 = .ok (.if_icmp .ne 30, 3) := by decide +kernel
theorem D_m_steps_121 : decode M_m_steps.2.1 121 = .ok (.aload_n 0, 1) := by decide +kernel
theorem D_m_steps_122 : decode M_m_steps.2.1 122 = .ok (.iload 7, 2) := by decide +kernel
theorem D_m_steps_124 : decode M_m_steps.2.1 124 = .ok (.iload_n 3, 1) := by decide +kernel
theorem D_m_steps_125 : decode M_m_steps.2.1 125 = .ok (.invokevirtual 197, 3) := by decide +kernel
theorem D_m_steps_128 : decode M_m_steps.2.1 128 = .ok (.iload_n 2, 1) := by decide +kernel
theorem D_m_steps_129 : decode M_m_steps.2.1 129 = .ok (.if_icmp .ne 19, 3) := by decide +kernel
theorem D_m_steps_132 : decode M_m_steps.2.1 132 = .ok (.iload 5, 2) := by decide +kernel
theorem D_m_steps_134 : decode M_m_steps.2.1 134 = .ok (.ifCond .lt 10, 3) := by decide +kernel
theorem D_m_steps_137 : decode M_m_steps.2.1 137 = .ok (.iload 9, 2) := by decide +kernel
theorem D_m_steps_139 : decode M_m_steps.2.1 139 = .ok (.iload 6, 2) := by decide +kernel
theorem D_m_steps_141 : decode M_m_steps.2.1 141 = .ok (.if_icmp .ge 7, 3) := by decide +kernel
theorem D_m_steps_144 : decode M_m_steps.2.1 144 = .ok (.iconst 1, 1) := by decide +kernel
theorem D_m_steps_145 : decode M_m_steps.2.1 145 = .ok (.goto 4, 3) := by decide +kernel
theorem D_m_steps_148 : decode M_m_steps.2.1 148 = .ok (.iconst 0, 1) := by decide +kernel
theorem D_m_steps_149 : decode M_m_steps.2.1 149 = .ok (.istore 11, 2) := by decide +kernel
theorem D_m_steps_151 : decode M_m_steps.2.1 151 = .ok (.iload 11, 2) := by decide +kernel
theorem D_m_steps_153 : decode M_m_steps.2.1 153 = .ok (.ifCond .eq 8, 3) := by decide +kernel
theorem D_m_steps_156 : decode M_m_steps.2.1 156 = .ok (.iload 7, 2) := by decide +kernel
theorem D_m_steps_158 : decode M_m_steps.2.1 158 = .ok (.goto 5, 3) := by decide +kernel
theorem D_m_steps_161 : decode M_m_steps.2.1 161 = .ok (.iload 5, 2) := by decide +kernel
theorem D_m_steps_163 : decode M_m_steps.2.1 163 = .ok (.istore 5, 2) := by decide +kernel
theorem D_m_steps_165 : decode M_m_steps.2.1 165 = .ok (.iload 11, 2) := by decide +kernel
theorem D_m_steps_167 : decode M_m_steps.2.1 167 = .ok (.ifCond .eq 8, 3) := by decide +kernel
theorem D_m_steps_170 : decode M_m_steps.2.1 170 = .ok (.iload 9, 2) := by decide +kernel
theorem D_m_steps_172 : decode M_m_steps.2.1 172 = .ok (.goto 5, 3) := by decide +kernel
theorem D_m_steps_175 : decode M_m_steps.2.1 175 = .ok (.iload 6, 2) := by decide +kernel
theorem D_m_steps_177 : decode M_m_steps.2.1 177 = .ok (.istore 6, 2) := by decide +kernel
theorem D_m_steps_179 : decode M_m_steps.2.1 179 = .ok (.iinc 7 1, 3) := by decide +kernel
theorem D_m_steps_182 : decode M_m_steps.2.1 182 = .ok (.goto (-138), 3) := by decide +kernel
theorem D_m_steps_185 : decode M_m_steps.2.1 185 = .ok (.iload 5, 2) := by decide +kernel
theorem D_m_steps_187 : decode M_m_steps.2.1 187 = .ok (.ifCond .lt 9, 3) := by decide +kernel
theorem D_m_steps_190 : decode M_m_steps.2.1 190 = .ok (.iload 4, 2) := by decide +kernel
theorem D_m_steps_192 : decode M_m_steps.2.1 192 = .ok (.iconst 1, 1) := by decide +kernel
theorem D_m_steps_193 : decode M_m_steps.2.1 193 = .ok (.if_icmp .ne 8, 3) := by decide +kernel
theorem D_m_steps_196 : decode M_m_steps.2.1 196 = .ok (.iload 5, 2) := by decide +kernel
theorem D_m_steps_198 : decode M_m_steps.2.1 198 = .ok (.goto 5, 3) := by decide +kernel
theorem D_m_steps_201 : decode M_m_steps.2.1 201 = .ok (.iload 6, 2) := by decide +kernel
theorem D_m_steps_203 : decode M_m_steps.2.1 203 = .ok (.ireturn, 1) := by decide +kernel
theorem D_m_chair_0 : decode M_m_chair.2.1 0 = .ok (.iload_n 1, 1) := by decide +kernel
theorem D_m_chair_1 : decode M_m_chair.2.1 1 = .ok (.invokestatic 200, 3) := by decide +kernel
theorem D_m_chair_4 : decode M_m_chair.2.1 4 = .ok (.ifCond .eq 12, 3) := by decide +kernel
theorem D_m_chair_7 : decode M_m_chair.2.1 7 = .ok (.iload_n 2, 1) := by decide +kernel
theorem D_m_chair_8 : decode M_m_chair.2.1 8 = .ok (.iconst 0, 1) := by decide +kernel
theorem D_m_chair_9 : decode M_m_chair.2.1 9 = .ok (.iconst 1, 1) := by decide +kernel
theorem D_m_chair_10 : decode M_m_chair.2.1 10 = .ok (.invokestatic 69, 3) := by decide +kernel
theorem D_m_chair_13 : decode M_m_chair.2.1 13 = .ok (.ifCond .ne 5, 3) := by decide +kernel
theorem D_m_chair_16 : decode M_m_chair.2.1 16 = .ok (.iconst (-1), 1) := by decide +kernel
theorem D_m_chair_17 : decode M_m_chair.2.1 17 = .ok (.ireturn, 1) := by decide +kernel
theorem D_m_chair_18 : decode M_m_chair.2.1 18 = .ok (.bipush (-9), 2) := by decide +kernel
theorem D_m_chair_20 : decode M_m_chair.2.1 20 = .ok (.istore_n 3, 1) := by decide +kernel
theorem D_m_chair_21 : decode M_m_chair.2.1 21 = .ok (.bipush (-9), 2) := by decide +kernel
theorem D_m_chair_23 : decode M_m_chair.2.1 23 = .ok (.istore 4, 2) := by decide +kernel
theorem D_m_chair_25 : decode M_m_chair.2.1 25 = .ok (.iconst 0, 1) := by decide +kernel
theorem D_m_chair_26 : decode M_m_chair.2.1 26 = .ok (.istore 5, 2) := by decide +kernel
theorem D_m_chair_28 : decode M_m_chair.2.1 28 = .ok (.iload 5, 2) := by decide +kernel
theorem D_m_chair_30 : decode M_m_chair.2.1 30 = .ok (.aload_n 0, 1) := by decide +kernel
theorem D_m_chair_31 : decode M_m_chair.2.1 31 = .ok (.getfield 73, 3) := by decide +kernel
theorem D_m_chair_34 : decode M_m_chair.2.1 34 = .ok (.if_icmp .ge 50, 3) := by decide +kernel
theorem D_m_chair_37 : decode M_m_chair.2.1 37 = .ok (.aload_n 0, 1) := by decide +kernel
theorem D_m_chair_38 : decode M_m_chair.2.1 38 = .ok (.iload 5, 2) := by decide +kernel
theorem D_m_chair_40 : decode M_m_chair.2.1 40 = .ok (.iload_n 1, 1) := by decide +kernel
theorem D_m_chair_41 : decode M_m_chair.2.1 41 = .ok (.bipush 60, 2) := by decide +kernel
theorem D_m_chair_43 : decode M_m_chair.2.1 43 = .ok (.invokevirtual 203, 3) := by decide +kernel
theorem D_m_chair_46 : decode M_m_chair.2.1 46 = .ok (.istore 6, 2) := by decide +kernel
theorem D_m_chair_48 : decode M_m_chair.2.1 48 = .ok (.iload 6, 2) := by decide +kernel
theorem D_m_chair_50 : decode M_m_chair.2.1 50 = .ok (.iload 4, 2) := by decide +kernel
theorem D_m_chair_52 : decode M_m_chair.2.1 52 = .ok (.if_icmp .le 8, 3) := by decide +kernel
theorem D_m_chair_55 : decode M_m_chair.2.1 55 = .ok (.iload 5, 2) := by decide +kernel
theorem D_m_chair_57 : decode M_m_chair.2.1 57 = .ok (.goto 4, 3) := by decide +kernel
theorem D_m_chair_60 : decode M_m_chair.2.1 60 = .ok (.iload_n 3, 1) := by decide +kernel
theorem D_m_chair_61 : decode M_m_chair.2.1 61 = .ok (.istore_n 3, 1) := by decide +kernel
theorem D_m_chair_62 : decode M_m_chair.2.1 62 = .ok (.iload 6, 2) := by decide +kernel
theorem D_m_chair_64 : decode M_m_chair.2.1 64 = .ok (.iload 4, 2) := by decide +kernel
theorem D_m_chair_66 : decode M_m_chair.2.1 66 = .ok (.if_icmp .le 8, 3) := by decide +kernel
theorem D_m_chair_69 : decode M_m_chair.2.1 69 = .ok (.iload 6, 2) := by decide +kernel
theorem D_m_chair_71 : decode M_m_chair.2.1 71 = .ok (.goto 5, 3) := by decide +kernel
theorem D_m_chair_74 : decode M_m_chair.2.1 74 = .ok (.iload 4, 2) := by decide +kernel
theorem D_m_chair_76 : decode M_m_chair.2.1 76 = .ok (.istore 4, 2) := by decide +kernel
theorem D_m_chair_78 : decode M_m_chair.2.1 78 = .ok (.iinc 5 1, 3) := by decide +kernel
theorem D_m_chair_81 : decode M_m_chair.2.1 81 = .ok (.goto (-53), 3) := by decide +kernel
theorem D_m_chair_84 : decode M_m_chair.2.1 84 = .ok (.iload_n 2, 1) := by decide +kernel
theorem D_m_chair_85 : decode M_m_chair.2.1 85 = .ok (.ifCond .ne 7, 3) := by decide +kernel
theorem D_m_chair_88 : decode M_m_chair.2.1 88 = .ok (.iload_n 3, 1) := by decide +kernel
theorem D_m_chair_89 : decode M_m_chair.2.1 89 = .ok (.goto 5, 3) := by decide +kernel
theorem D_m_chair_92 : decode M_m_chair.2.1 92 = .ok (.iload 4, 2) := by decide +kernel
theorem D_m_chair_94 : decode M_m_chair.2.1 94 = .ok (.ireturn, 1) := by decide +kernel
theorem D_m_mostYet_0 : decode M_m_mostYet.2.1 0 = .ok (.iconst 0, 1) := by decide +kernel
theorem D_m_mostYet_1 : decode M_m_mostYet.2.1 1 = .ok (.istore_n 1, 1) := by decide +kernel
theorem D_m_mostYet_2 : decode M_m_mostYet.2.1 2 = .ok (.iconst 0, 1) := by decide +kernel
theorem D_m_mostYet_3 : decode M_m_mostYet.2.1 3 = .ok (.istore_n 2, 1) := by decide +kernel
theorem D_m_mostYet_4 : decode M_m_mostYet.2.1 4 = .ok (.iload_n 2, 1) := by decide +kernel
theorem D_m_mostYet_5 : decode M_m_mostYet.2.1 5 = .ok (.bipush 6, 2) := by decide +kernel
theorem D_m_mostYet_7 : decode M_m_mostYet.2.1 7 = .ok (.if_icmp .ge 42, 3) := by decide +kernel
theorem D_m_mostYet_10 : decode M_m_mostYet.2.1 10 = .ok (.iload_n 1, 1) := by decide +kernel
theorem D_m_mostYet_11 : decode M_m_mostYet.2.1 11 = .ok (.aload_n 0, 1) := by decide +kernel
theorem D_m_mostYet_12 : decode M_m_mostYet.2.1 12 = .ok (.getfield 54, 3) := by decide +kernel
theorem D_m_mostYet_15 : decode M_m_mostYet.2.1 15 = .ok (.iload_n 2, 1) := by decide +kernel
theorem D_m_mostYet_16 : decode M_m_mostYet.2.1 16 = .ok (.iaload, 1) := by decide +kernel
theorem D_m_mostYet_17 : decode M_m_mostYet.2.1 17 = .ok (.aload_n 0, 1) := by decide +kernel
theorem D_m_mostYet_18 : decode M_m_mostYet.2.1 18 = .ok (.getfield 57, 3) := by decide +kernel
theorem D_m_mostYet_21 : decode M_m_mostYet.2.1 21 = .ok (.iload_n 2, 1) := by decide +kernel
theorem D_m_mostYet_22 : decode M_m_mostYet.2.1 22 = .ok (.iaload, 1) := by decide +kernel
theorem D_m_mostYet_23 : decode M_m_mostYet.2.1 23 = .ok (.if_icmp .ge 12, 3) := by decide +kernel
theorem D_m_mostYet_26 : decode M_m_mostYet.2.1 26 = .ok (.aload_n 0, 1) := by decide +kernel
theorem D_m_mostYet_27 : decode M_m_mostYet.2.1 27 = .ok (.getfield 54, 3) := by decide +kernel
theorem D_m_mostYet_30 : decode M_m_mostYet.2.1 30 = .ok (.iload_n 2, 1) := by decide +kernel
theorem D_m_mostYet_31 : decode M_m_mostYet.2.1 31 = .ok (.iaload, 1) := by decide +kernel
theorem D_m_mostYet_32 : decode M_m_mostYet.2.1 32 = .ok (.goto 9, 3) := by decide +kernel
theorem D_m_mostYet_35 : decode M_m_mostYet.2.1 35 = .ok (.aload_n 0, 1) := by decide +kernel
theorem D_m_mostYet_36 : decode M_m_mostYet.2.1 36 = .ok (.getfield 57, 3) := by decide +kernel
theorem D_m_mostYet_39 : decode M_m_mostYet.2.1 39 = .ok (.iload_n 2, 1) := by decide +kernel
theorem D_m_mostYet_40 : decode M_m_mostYet.2.1 40 = .ok (.iaload, 1) := by decide +kernel
theorem D_m_mostYet_41 : decode M_m_mostYet.2.1 41 = .ok (.iadd, 1) := by decide +kernel
theorem D_m_mostYet_42 : decode M_m_mostYet.2.1 42 = .ok (.istore_n 1, 1) := by decide +kernel
theorem D_m_mostYet_43 : decode M_m_mostYet.2.1 43 = .ok (.iinc 2 1, 3) := by decide +kernel
theorem D_m_mostYet_46 : decode M_m_mostYet.2.1 46 = .ok (.goto (-42), 3) := by decide +kernel
theorem D_m_mostYet_49 : decode M_m_mostYet.2.1 49 = .ok (.iload_n 1, 1) := by decide +kernel
theorem D_m_mostYet_50 : decode M_m_mostYet.2.1 50 = .ok (.ireturn, 1) := by decide +kernel
theorem D_m_sits_0 : decode M_m_sits.2.1 0 = .ok (.iconst 0, 1) := by decide +kernel
theorem D_m_sits_1 : decode M_m_sits.2.1 1 = .ok (.istore_n 2, 1) := by decide +kernel
theorem D_m_sits_2 : decode M_m_sits.2.1 2 = .ok (.iconst 0, 1) := by decide +kernel
theorem D_m_sits_3 : decode M_m_sits.2.1 3 = .ok (.istore_n 3, 1) := by decide +kernel
theorem D_m_sits_4 : decode M_m_sits.2.1 4 = .ok (.iload_n 3, 1) := by decide +kernel
theorem D_m_sits_5 : decode M_m_sits.2.1 5 = .ok (.bipush 6, 2) := by decide +kernel
theorem D_m_sits_7 : decode M_m_sits.2.1 7 = .ok (.if_icmp .ge 23, 3) := by decide +kernel
theorem D_m_sits_10 : decode M_m_sits.2.1 10 = .ok (.aload_n 0, 1) := by decide +kernel
theorem D_m_sits_11 : decode M_m_sits.2.1 11 = .ok (.getfield 54, 3) := by decide +kernel
theorem D_m_sits_14 : decode M_m_sits.2.1 14 = .ok (.iload_n 3, 1) := by decide +kernel
theorem D_m_sits_15 : decode M_m_sits.2.1 15 = .ok (.iconst 0, 1) := by decide +kernel
theorem D_m_sits_16 : decode M_m_sits.2.1 16 = .ok (.iastore, 1) := by decide +kernel
theorem D_m_sits_17 : decode M_m_sits.2.1 17 = .ok (.aload_n 0, 1) := by decide +kernel
theorem D_m_sits_18 : decode M_m_sits.2.1 18 = .ok (.getfield 57, 3) := by decide +kernel
theorem D_m_sits_21 : decode M_m_sits.2.1 21 = .ok (.iload_n 3, 1) := by decide +kernel
theorem D_m_sits_22 : decode M_m_sits.2.1 22 = .ok (.iconst 0, 1) := by decide +kernel
theorem D_m_sits_23 : decode M_m_sits.2.1 23 = .ok (.iastore, 1) := by decide +kernel
theorem D_m_sits_24 : decode M_m_sits.2.1 24 = .ok (.iinc 3 1, 3) := by decide +kernel
theorem D_m_sits_27 : decode M_m_sits.2.1 27 = .ok (.goto (-23), 3) := by decide +kernel
theorem D_m_sits_30 : decode M_m_sits.2.1 30 = .ok (.iconst 0, 1) := by decide +kernel
theorem D_m_sits_31 : decode M_m_sits.2.1 31 = .ok (.istore_n 3, 1) := by decide +kernel
theorem D_m_sits_32 : decode M_m_sits.2.1 32 = .ok (.iload_n 3, 1) := by decide +kernel
theorem D_m_sits_33 : decode M_m_sits.2.1 33 = .ok (.aload_n 0, 1) := by decide +kernel
theorem D_m_sits_34 : decode M_m_sits.2.1 34 = .ok (.getfield 66, 3) := by decide +kernel
theorem D_m_sits_37 : decode M_m_sits.2.1 37 = .ok (.if_icmp .ge 24, 3) := by decide +kernel
theorem D_m_sits_40 : decode M_m_sits.2.1 40 = .ok (.aload_n 0, 1) := by decide +kernel
theorem D_m_sits_41 : decode M_m_sits.2.1 41 = .ok (.getfield 54, 3) := by decide +kernel
theorem D_m_sits_44 : decode M_m_sits.2.1 44 = .ok (.aload_n 0, 1) := by decide +kernel
theorem D_m_sits_45 : decode M_m_sits.2.1 45 = .ok (.getfield 20, 3) := by decide +kernel
theorem D_m_sits_48 : decode M_m_sits.2.1 48 = .ok (.iload_n 3, 1) := by decide +kernel
theorem D_m_sits_49 : decode M_m_sits.2.1 49 = .ok (.iaload, 1) := by decide +kernel
theorem D_m_sits_50 : decode M_m_sits.2.1 50 = .ok (.dup2, 1) := by decide +kernel
theorem D_m_sits_51 : decode M_m_sits.2.1 51 = .ok (.iaload, 1) := by decide +kernel
theorem D_m_sits_52 : decode M_m_sits.2.1 52 = .ok (.iconst 1, 1) := by decide +kernel
theorem D_m_sits_53 : decode M_m_sits.2.1 53 = .ok (.iadd, 1) := by decide +kernel
theorem D_m_sits_54 : decode M_m_sits.2.1 54 = .ok (.iastore, 1) := by decide +kernel
theorem D_m_sits_55 : decode M_m_sits.2.1 55 = .ok (.iinc 3 1, 3) := by decide +kernel
theorem D_m_sits_58 : decode M_m_sits.2.1 58 = .ok (.goto (-26), 3) := by decide +kernel
theorem D_m_sits_61 : decode M_m_sits.2.1 61 = .ok (.iconst 0, 1) := by decide +kernel
theorem D_m_sits_62 : decode M_m_sits.2.1 62 = .ok (.istore_n 3, 1) := by decide +kernel
theorem D_m_sits_63 : decode M_m_sits.2.1 63 = .ok (.iload_n 3, 1) := by decide +kernel
theorem D_m_sits_64 : decode M_m_sits.2.1 64 = .ok (.aload_n 0, 1) := by decide +kernel
theorem D_m_sits_65 : decode M_m_sits.2.1 65 = .ok (.getfield 73, 3) := by decide +kernel
theorem D_m_sits_68 : decode M_m_sits.2.1 68 = .ok (.if_icmp .ge 24, 3) := by decide +kernel
theorem D_m_sits_71 : decode M_m_sits.2.1 71 = .ok (.aload_n 0, 1) := by decide +kernel
theorem D_m_sits_72 : decode M_m_sits.2.1 72 = .ok (.getfield 57, 3) := by decide +kernel
theorem D_m_sits_75 : decode M_m_sits.2.1 75 = .ok (.aload_n 0, 1) := by decide +kernel
theorem D_m_sits_76 : decode M_m_sits.2.1 76 = .ok (.iload_n 3, 1) := by decide +kernel
theorem D_m_sits_77 : decode M_m_sits.2.1 77 = .ok (.iload_n 1, 1) := by decide +kernel
theorem D_m_sits_78 : decode M_m_sits.2.1 78 = .ok (.invokevirtual 197, 3) := by decide +kernel
theorem D_m_sits_81 : decode M_m_sits.2.1 81 = .ok (.dup2, 1) := by decide +kernel
theorem D_m_sits_82 : decode M_m_sits.2.1 82 = .ok (.iaload, 1) := by decide +kernel
theorem D_m_sits_83 : decode M_m_sits.2.1 83 = .ok (.iconst 1, 1) := by decide +kernel
theorem D_m_sits_84 : decode M_m_sits.2.1 84 = .ok (.iadd, 1) := by decide +kernel
theorem D_m_sits_85 : decode M_m_sits.2.1 85 = .ok (.iastore, 1) := by decide +kernel
theorem D_m_sits_86 : decode M_m_sits.2.1 86 = .ok (.iinc 3 1, 3) := by decide +kernel
theorem D_m_sits_89 : decode M_m_sits.2.1 89 = .ok (.goto (-26), 3) := by decide +kernel
theorem D_m_sits_92 : decode M_m_sits.2.1 92 = .ok (.aload_n 0, 1) := by decide +kernel
theorem D_m_sits_93 : decode M_m_sits.2.1 93 = .ok (.invokevirtual 206, 3) := by decide +kernel
theorem D_m_sits_96 : decode M_m_sits.2.1 96 = .ok (.istore_n 3, 1) := by decide +kernel
theorem D_m_sits_97 : decode M_m_sits.2.1 97 = .ok (.iload_n 3, 1) := by decide +kernel
theorem D_m_sits_98 : decode M_m_sits.2.1 98 = .ok (.istore 4, 2) := by decide +kernel
theorem D_m_sits_100 : decode M_m_sits.2.1 100 = .ok (.iconst 0, 1) := by decide +kernel
theorem D_m_sits_101 : decode M_m_sits.2.1 101 = .ok (.istore 5, 2) := by decide +kernel
theorem D_m_sits_103 : decode M_m_sits.2.1 103 = .ok (.iload 5, 2) := by decide +kernel
theorem D_m_sits_105 : decode M_m_sits.2.1 105 = .ok (.aload_n 0, 1) := by decide +kernel
theorem D_m_sits_106 : decode M_m_sits.2.1 106 = .ok (.getfield 66, 3) := by decide +kernel
theorem D_m_sits_109 : decode M_m_sits.2.1 109 = .ok (.if_icmp .ge 200, 3) := by decide +kernel
theorem D_m_sits_112 : decode M_m_sits.2.1 112 = .ok (.aload_n 0, 1) := by decide +kernel
theorem D_m_sits_113 : decode M_m_sits.2.1 113 = .ok (.getfield 54, 3) := by decide +kernel
theorem D_m_sits_116 : decode M_m_sits.2.1 116 = .ok (.aload_n 0, 1) := by decide +kernel
theorem D_m_sits_117 : decode M_m_sits.2.1 117 = .ok (.getfield 20, 3) := by decide +kernel
theorem D_m_sits_120 : decode M_m_sits.2.1 120 = .ok (.iload 5, 2) := by decide +kernel
theorem D_m_sits_122 : decode M_m_sits.2.1 122 = .ok (.iaload, 1) := by decide +kernel
theorem D_m_sits_123 : decode M_m_sits.2.1 123 = .ok (.dup2, 1) := by decide +kernel
theorem D_m_sits_124 : decode M_m_sits.2.1 124 = .ok (.iaload, 1) := by decide +kernel
theorem D_m_sits_125 : decode M_m_sits.2.1 125 = .ok (.iconst 1, 1) := by decide +kernel
theorem D_m_sits_126 : decode M_m_sits.2.1 126 = .ok (.isub, 1) := by decide +kernel
theorem D_m_sits_127 : decode M_m_sits.2.1 127 = .ok (.iastore, 1) := by decide +kernel
theorem D_m_sits_128 : decode M_m_sits.2.1 128 = .ok (.aload_n 0, 1) := by decide +kernel
theorem D_m_sits_129 : decode M_m_sits.2.1 129 = .ok (.getfield 60, 3) := by decide +kernel
theorem D_m_sits_132 : decode M_m_sits.2.1 132 = .ok (.iload 5, 2) := by decide +kernel
theorem D_m_sits_134 : decode M_m_sits.2.1 134 = .ok (.bipush (-9), 2) := by decide +kernel
theorem D_m_sits_136 : decode M_m_sits.2.1 136 = .ok (.iastore, 1) := by decide +kernel
theorem D_m_sits_137 : decode M_m_sits.2.1 137 = .ok (.iconst 0, 1) := by decide +kernel
theorem D_m_sits_138 : decode M_m_sits.2.1 138 = .ok (.istore 6, 2) := by decide +kernel
theorem D_m_sits_140 : decode M_m_sits.2.1 140 = .ok (.iload 6, 2) := by decide +kernel
theorem D_m_sits_142 : decode M_m_sits.2.1 142 = .ok (.aload_n 0, 1) := by decide +kernel
theorem D_m_sits_143 : decode M_m_sits.2.1 143 = .ok (.getfield 73, 3) := by decide +kernel
theorem D_m_sits_146 : decode M_m_sits.2.1 146 = .ok (.if_icmp .ge 157, 3) := by decide +kernel
theorem D_m_sits_149 : decode M_m_sits.2.1 149 = .ok (.aload_n 0, 1) := by decide +kernel
theorem D_m_sits_150 : decode M_m_sits.2.1 150 = .ok (.getfield 60, 3) := by decide +kernel
theorem D_m_sits_153 : decode M_m_sits.2.1 153 = .ok (.iload 5, 2) := by decide +kernel
theorem D_m_sits_155 : decode M_m_sits.2.1 155 = .ok (.iaload, 1) := by decide +kernel
theorem D_m_sits_156 : decode M_m_sits.2.1 156 = .ok (.ifCond .ge 147, 3) := by decide +kernel
theorem D_m_sits_159 : decode M_m_sits.2.1 159 = .ok (.aload_n 0, 1) := by decide +kernel
theorem D_m_sits_160 : decode M_m_sits.2.1 160 = .ok (.iload 6, 2) := by decide +kernel
theorem D_m_sits_162 : decode M_m_sits.2.1 162 = .ok (.iload_n 1, 1) := by decide +kernel
theorem D_m_sits_163 : decode M_m_sits.2.1 163 = .ok (.invokevirtual 197, 3) := by decide +kernel
theorem D_m_sits_166 : decode M_m_sits.2.1 166 = .ok (.istore 7, 2) := by decide +kernel
theorem D_m_sits_168 : decode M_m_sits.2.1 168 = .ok (.iload_n 2, 1) := by decide +kernel
theorem D_m_sits_169 : decode M_m_sits.2.1 169 = .ok (.iload 6, 2) := by decide +kernel
theorem D_m_sits_171 : decode M_m_sits.2.1 171 = .ok (.invokestatic 187, 3) := by decide +kernel
theorem D_m_sits_174 : decode M_m_sits.2.1 174 = .ok (.ifCond .ne 123, 3) := by decide +kernel
theorem D_m_sits_177 : decode M_m_sits.2.1 177 = .ok (.aload_n 0, 1) := by decide +kernel
theorem D_m_sits_178 : decode M_m_sits.2.1 178 = .ok (.getfield 57, 3) := by decide +kernel
theorem D_m_sits_181 : decode M_m_sits.2.1 181 = .ok (.iload 7, 2) := by decide +kernel
theorem D_m_sits_183 : decode M_m_sits.2.1 183 = .ok (.dup2, 1) := by decide +kernel
theorem D_m_sits_184 : decode M_m_sits.2.1 184 = .ok (.iaload, 1) := by decide +kernel
theorem D_m_sits_185 : decode M_m_sits.2.1 185 = .ok (.iconst 1, 1) := by decide +kernel
theorem D_m_sits_186 : decode M_m_sits.2.1 186 = .ok (.isub, 1) := by decide +kernel
theorem D_m_sits_187 : decode M_m_sits.2.1 187 = .ok (.iastore, 1) := by decide +kernel
theorem D_m_sits_188 : decode M_m_sits.2.1 188 = .ok (.iload 7, 2) := by decide +kernel
theorem D_m_sits_190 : decode M_m_sits.2.1 190 = .ok (.aload_n 0, 1) := by decide +kernel
theorem D_m_sits_191 : decode M_m_sits.2.1 191 = .ok (.getfield 20, 3) := by decide +kernel
theorem D_m_sits_194 : decode M_m_sits.2.1 194 = .ok (.iload 5, 2) := by decide +kernel
theorem D_m_sits_196 : decode M_m_sits.2.1 196 = .ok (.iaload, 1) := by decide +kernel
theorem D_m_sits_197 : decode M_m_sits.2.1 197 = .ok (.if_icmp .ne 7, 3) := by decide +kernel
theorem D_m_sits_200 : decode M_m_sits.2.1 200 = .ok (.iconst 1, 1) := by decide +kernel
theorem D_m_sits_201 : decode M_m_sits.2.1 201 = .ok (.goto 4, 3) := by decide +kernel
theorem D_m_sits_204 : decode M_m_sits.2.1 204 = .ok (.iconst 0, 1) := by decide +kernel
theorem D_m_sits_205 : decode M_m_sits.2.1 205 = .ok (.istore 8, 2) := by decide +kernel
theorem D_m_sits_207 : decode M_m_sits.2.1 207 = .ok (.iload 8, 2) := by decide +kernel
theorem D_m_sits_209 : decode M_m_sits.2.1 209 = .ok (.aload_n 0, 1) := by decide +kernel
theorem D_m_sits_210 : decode M_m_sits.2.1 210 = .ok (.invokevirtual 206, 3) := by decide +kernel
theorem D_m_sits_213 : decode M_m_sits.2.1 213 = .ok (.iadd, 1) := by decide +kernel
theorem D_m_sits_214 : decode M_m_sits.2.1 214 = .ok (.iload 4, 2) := by decide +kernel
theorem D_m_sits_216 : decode M_m_sits.2.1 216 = .ok (.if_icmp .ne 7, 3) := by decide +kernel
theorem D_m_sits_219 : decode M_m_sits.2.1 219 = .ok (.iconst 1, 1) := by decide +kernel
theorem D_m_sits_220 : decode M_m_sits.2.1 220 = .ok (.goto 4, 3) := by decide +kernel
theorem D_m_sits_223 : decode M_m_sits.2.1 223 = .ok (.iconst 0, 1) := by decide +kernel
theorem D_m_sits_224 : decode M_m_sits.2.1 224 = .ok (.istore 9, 2) := by decide +kernel
theorem D_m_sits_226 : decode M_m_sits.2.1 226 = .ok (.aload_n 0, 1) := by decide +kernel
theorem D_m_sits_227 : decode M_m_sits.2.1 227 = .ok (.getfield 60, 3) := by decide +kernel
theorem D_m_sits_230 : decode M_m_sits.2.1 230 = .ok (.iload 5, 2) := by decide +kernel
theorem D_m_sits_232 : decode M_m_sits.2.1 232 = .ok (.iload 9, 2) := by decide +kernel
theorem D_m_sits_234 : decode M_m_sits.2.1 234 = .ok (.ifCond .eq 8, 3) := by decide +kernel
theorem D_m_sits_237 : decode M_m_sits.2.1 237 = .ok (.iload 6, 2) := by decide +kernel
theorem D_m_sits_239 : decode M_m_sits.2.1 239 = .ok (.goto 5, 3) := by decide +kernel
theorem D_m_sits_242 : decode M_m_sits.2.1 242 = .ok (.bipush (-9), 2) := by decide +kernel
theorem D_m_sits_244 : decode M_m_sits.2.1 244 = .ok (.iastore, 1) := by decide +kernel
theorem D_m_sits_245 : decode M_m_sits.2.1 245 = .ok (.aload_n 0, 1) := by decide +kernel
theorem D_m_sits_246 : decode M_m_sits.2.1 246 = .ok (.getfield 57, 3) := by decide +kernel
theorem D_m_sits_249 : decode M_m_sits.2.1 249 = .ok (.iload 7, 2) := by decide +kernel
theorem D_m_sits_251 : decode M_m_sits.2.1 251 = .ok (.dup2, 1) := by decide +kernel
theorem D_m_sits_252 : decode M_m_sits.2.1 252 = .ok (.iaload, 1) := by decide +kernel
theorem D_m_sits_253 : decode M_m_sits.2.1 253 = .ok (.iload 9, 2) := by decide +kernel
theorem D_m_sits_255 : decode M_m_sits.2.1 255 = .ok (.ifCond .eq 7, 3) := by decide +kernel
theorem D_m_sits_258 : decode M_m_sits.2.1 258 = .ok (.iconst 0, 1) := by decide +kernel
theorem D_m_sits_259 : decode M_m_sits.2.1 259 = .ok (.goto 4, 3) := by decide +kernel
theorem D_m_sits_262 : decode M_m_sits.2.1 262 = .ok (.iconst 1, 1) := by decide +kernel
theorem D_m_sits_263 : decode M_m_sits.2.1 263 = .ok (.iadd, 1) := by decide +kernel
theorem D_m_sits_264 : decode M_m_sits.2.1 264 = .ok (.iastore, 1) := by decide +kernel
theorem D_m_sits_265 : decode M_m_sits.2.1 265 = .ok (.iload 4, 2) := by decide +kernel
theorem D_m_sits_267 : decode M_m_sits.2.1 267 = .ok (.iload 9, 2) := by decide +kernel
theorem D_m_sits_269 : decode M_m_sits.2.1 269 = .ok (.ifCond .eq 8, 3) := by decide +kernel
theorem D_m_sits_272 : decode M_m_sits.2.1 272 = .ok (.iload 8, 2) := by decide +kernel
theorem D_m_sits_274 : decode M_m_sits.2.1 274 = .ok (.goto 4, 3) := by decide +kernel
theorem D_m_sits_277 : decode M_m_sits.2.1 277 = .ok (.iconst 0, 1) := by decide +kernel
theorem D_m_sits_278 : decode M_m_sits.2.1 278 = .ok (.isub, 1) := by decide +kernel
theorem D_m_sits_279 : decode M_m_sits.2.1 279 = .ok (.istore 4, 2) := by decide +kernel
theorem D_m_sits_281 : decode M_m_sits.2.1 281 = .ok (.iload_n 2, 1) := by decide +kernel
theorem D_m_sits_282 : decode M_m_sits.2.1 282 = .ok (.iload 9, 2) := by decide +kernel
theorem D_m_sits_284 : decode M_m_sits.2.1 284 = .ok (.ifCond .eq 10, 3) := by decide +kernel
theorem D_m_sits_287 : decode M_m_sits.2.1 287 = .ok (.iconst 1, 1) := by decide +kernel
theorem D_m_sits_288 : decode M_m_sits.2.1 288 = .ok (.iload 6, 2) := by decide +kernel
theorem D_m_sits_290 : decode M_m_sits.2.1 290 = .ok (.ishl, 1) := by decide +kernel
theorem D_m_sits_291 : decode M_m_sits.2.1 291 = .ok (.goto 4, 3) := by decide +kernel
theorem D_m_sits_294 : decode M_m_sits.2.1 294 = .ok (.iconst 0, 1) := by decide +kernel
theorem D_m_sits_295 : decode M_m_sits.2.1 295 = .ok (.ior, 1) := by decide +kernel
theorem D_m_sits_296 : decode M_m_sits.2.1 296 = .ok (.istore_n 2, 1) := by decide +kernel
theorem D_m_sits_297 : decode M_m_sits.2.1 297 = .ok (.iinc 6 1, 3) := by decide +kernel
theorem D_m_sits_300 : decode M_m_sits.2.1 300 = .ok (.goto (-160), 3) := by decide +kernel
theorem D_m_sits_303 : decode M_m_sits.2.1 303 = .ok (.iinc 5 1, 3) := by decide +kernel
theorem D_m_sits_306 : decode M_m_sits.2.1 306 = .ok (.goto (-203), 3) := by decide +kernel
theorem D_m_sits_309 : decode M_m_sits.2.1 309 = .ok (.iload_n 3, 1) := by decide +kernel
theorem D_m_sits_310 : decode M_m_sits.2.1 310 = .ok (.ireturn, 1) := by decide +kernel
theorem D_m_seats_0 : decode M_m_seats.2.1 0 = .ok (.iload_n 1, 1) := by decide +kernel
theorem D_m_seats_1 : decode M_m_seats.2.1 1 = .ok (.invokestatic 169, 3) := by decide +kernel
theorem D_m_seats_4 : decode M_m_seats.2.1 4 = .ok (.ifCond .eq 17, 3) := by decide +kernel
theorem D_m_seats_7 : decode M_m_seats.2.1 7 = .ok (.iload_n 2, 1) := by decide +kernel
theorem D_m_seats_8 : decode M_m_seats.2.1 8 = .ok (.iconst (-1), 1) := by decide +kernel
theorem D_m_seats_9 : decode M_m_seats.2.1 9 = .ok (.aload_n 0, 1) := by decide +kernel
theorem D_m_seats_10 : decode M_m_seats.2.1 10 = .ok (.getfield 66, 3) := by decide +kernel
theorem D_m_seats_13 : decode M_m_seats.2.1 13 = .ok (.iconst 1, 1) := by decide +kernel
theorem D_m_seats_14 : decode M_m_seats.2.1 14 = .ok (.isub, 1) := by decide +kernel
theorem D_m_seats_15 : decode M_m_seats.2.1 15 = .ok (.invokestatic 69, 3) := by decide +kernel
theorem D_m_seats_18 : decode M_m_seats.2.1 18 = .ok (.ifCond .ne 5, 3) := by decide +kernel
theorem D_m_seats_21 : decode M_m_seats.2.1 21 = .ok (.iconst (-1), 1) := by decide +kernel
theorem D_m_seats_22 : decode M_m_seats.2.1 22 = .ok (.ireturn, 1) := by decide +kernel
theorem D_m_seats_23 : decode M_m_seats.2.1 23 = .ok (.aload_n 0, 1) := by decide +kernel
theorem D_m_seats_24 : decode M_m_seats.2.1 24 = .ok (.getfield 73, 3) := by decide +kernel
theorem D_m_seats_27 : decode M_m_seats.2.1 27 = .ok (.ifCond .ne 6, 3) := by decide +kernel
theorem D_m_seats_30 : decode M_m_seats.2.1 30 = .ok (.bipush (-2), 2) := by decide +kernel
theorem D_m_seats_32 : decode M_m_seats.2.1 32 = .ok (.ireturn, 1) := by decide +kernel
theorem D_m_seats_33 : decode M_m_seats.2.1 33 = .ok (.aload_n 0, 1) := by decide +kernel
theorem D_m_seats_34 : decode M_m_seats.2.1 34 = .ok (.iload_n 1, 1) := by decide +kernel
theorem D_m_seats_35 : decode M_m_seats.2.1 35 = .ok (.invokevirtual 209, 3) := by decide +kernel
theorem D_m_seats_38 : decode M_m_seats.2.1 38 = .ok (.istore_n 3, 1) := by decide +kernel
theorem D_m_seats_39 : decode M_m_seats.2.1 39 = .ok (.iload_n 2, 1) := by decide +kernel
theorem D_m_seats_40 : decode M_m_seats.2.1 40 = .ok (.ifCond .ge 7, 3) := by decide +kernel
theorem D_m_seats_43 : decode M_m_seats.2.1 43 = .ok (.iload_n 3, 1) := by decide +kernel
theorem D_m_seats_44 : decode M_m_seats.2.1 44 = .ok (.goto 9, 3) := by decide +kernel
theorem D_m_seats_47 : decode M_m_seats.2.1 47 = .ok (.aload_n 0, 1) := by decide +kernel
theorem D_m_seats_48 : decode M_m_seats.2.1 48 = .ok (.getfield 60, 3) := by decide +kernel
theorem D_m_seats_51 : decode M_m_seats.2.1 51 = .ok (.iload_n 2, 1) := by decide +kernel
theorem D_m_seats_52 : decode M_m_seats.2.1 52 = .ok (.iaload, 1) := by decide +kernel
theorem D_m_seats_53 : decode M_m_seats.2.1 53 = .ok (.ireturn, 1) := by decide +kernel
theorem D_m_lowest_0 : decode M_m_lowest.2.1 0 = .ok (.iload_n 0, 1) := by decide +kernel
theorem D_m_lowest_1 : decode M_m_lowest.2.1 1 = .ok (.istore_n 3, 1) := by decide +kernel
theorem D_m_lowest_2 : decode M_m_lowest.2.1 2 = .ok (.iload_n 1, 1) := by decide +kernel
theorem D_m_lowest_3 : decode M_m_lowest.2.1 3 = .ok (.istore 4, 2) := by decide +kernel
theorem D_m_lowest_5 : decode M_m_lowest.2.1 5 = .ok (.iload 4, 2) := by decide +kernel
theorem D_m_lowest_7 : decode M_m_lowest.2.1 7 = .ok (.ifCond .le 19, 3) := by decide +kernel
theorem D_m_lowest_10 : decode M_m_lowest.2.1 10 = .ok (.iload_n 3, 1) := by decide +kernel
theorem D_m_lowest_11 : decode M_m_lowest.2.1 11 = .ok (.iload 4, 2) := by decide +kernel
theorem D_m_lowest_13 : decode M_m_lowest.2.1 13 = .ok (.irem, 1) := by decide +kernel
theorem D_m_lowest_14 : decode M_m_lowest.2.1 14 = .ok (.istore 5, 2) := by decide +kernel
theorem D_m_lowest_16 : decode M_m_lowest.2.1 16 = .ok (.iload 4, 2) := by decide +kernel
theorem D_m_lowest_18 : decode M_m_lowest.2.1 18 = .ok (.istore_n 3, 1) := by decide +kernel
theorem D_m_lowest_19 : decode M_m_lowest.2.1 19 = .ok (.iload 5, 2) := by decide +kernel
theorem D_m_lowest_21 : decode M_m_lowest.2.1 21 = .ok (.istore 4, 2) := by decide +kernel
theorem D_m_lowest_23 : decode M_m_lowest.2.1 23 = .ok (.goto (-18), 3) := by decide +kernel
theorem D_m_lowest_26 : decode M_m_lowest.2.1 26 = .ok (.iload_n 2, 1) := by decide +kernel
theorem D_m_lowest_27 : decode M_m_lowest.2.1 27 = .ok (.ifCond .ne 7, 3) := by decide +kernel
theorem D_m_lowest_30 : decode M_m_lowest.2.1 30 = .ok (.iload_n 0, 1) := by decide +kernel
theorem D_m_lowest_31 : decode M_m_lowest.2.1 31 = .ok (.goto 4, 3) := by decide +kernel
theorem D_m_lowest_34 : decode M_m_lowest.2.1 34 = .ok (.iload_n 1, 1) := by decide +kernel
theorem D_m_lowest_35 : decode M_m_lowest.2.1 35 = .ok (.iload_n 3, 1) := by decide +kernel
theorem D_m_lowest_36 : decode M_m_lowest.2.1 36 = .ok (.idiv, 1) := by decide +kernel
theorem D_m_lowest_37 : decode M_m_lowest.2.1 37 = .ok (.ireturn, 1) := by decide +kernel
theorem D_m_odds_0 : decode M_m_odds.2.1 0 = .ok (.aload_n 0, 1) := by decide +kernel
theorem D_m_odds_1 : decode M_m_odds.2.1 1 = .ok (.iload_n 1, 1) := by decide +kernel
theorem D_m_odds_2 : decode M_m_odds.2.1 2 = .ok (.invokevirtual 146, 3) := by decide +kernel
theorem D_m_odds_5 : decode M_m_odds.2.1 5 = .ok (.ifCond .eq 38, 3) := by decide +kernel
theorem D_m_odds_8 : decode M_m_odds.2.1 8 = .ok (.iload_n 2, 1) := by decide +kernel
theorem D_m_odds_9 : decode M_m_odds.2.1 9 = .ok (.invokestatic 200, 3) := by decide +kernel
theorem D_m_odds_12 : decode M_m_odds.2.1 12 = .ok (.ifCond .eq 31, 3) := by decide +kernel
theorem D_m_odds_15 : decode M_m_odds.2.1 15 = .ok (.iload_n 3, 1) := by decide +kernel
theorem D_m_odds_16 : decode M_m_odds.2.1 16 = .ok (.invokestatic 169, 3) := by decide +kernel
theorem D_m_odds_19 : decode M_m_odds.2.1 19 = .ok (.ifCond .eq 24, 3) := by decide +kernel
theorem D_m_odds_22 : decode M_m_odds.2.1 22 = .ok (.iload 4, 2) := by decide +kernel
theorem D_m_odds_24 : decode M_m_odds.2.1 24 = .ok (.iconst 0, 1) := by decide +kernel
theorem D_m_odds_25 : decode M_m_odds.2.1 25 = .ok (.bipush 10, 2) := by decide +kernel
theorem D_m_odds_27 : decode M_m_odds.2.1 27 = .ok (.invokestatic 69, 3) := by decide +kernel
theorem D_m_odds_30 : decode M_m_odds.2.1 30 = .ok (.ifCond .eq 13, 3) := by decide +kernel
theorem D_m_odds_33 : decode M_m_odds.2.1 33 = .ok (.iload 5, 2) := by decide +kernel
theorem D_m_odds_35 : decode M_m_odds.2.1 35 = .ok (.iconst 0, 1) := by decide +kernel
theorem D_m_odds_36 : decode M_m_odds.2.1 36 = .ok (.iconst 1, 1) := by decide +kernel
theorem D_m_odds_37 : decode M_m_odds.2.1 37 = .ok (.invokestatic 69, 3) := by decide +kernel
theorem D_m_odds_40 : decode M_m_odds.2.1 40 = .ok (.ifCond .ne 5, 3) := by decide +kernel
theorem D_m_odds_43 : decode M_m_odds.2.1 43 = .ok (.iconst (-1), 1) := by decide +kernel
theorem D_m_odds_44 : decode M_m_odds.2.1 44 = .ok (.ireturn, 1) := by decide +kernel
theorem D_m_odds_45 : decode M_m_odds.2.1 45 = .ok (.bipush 10, 2) := by decide +kernel
theorem D_m_odds_47 : decode M_m_odds.2.1 47 = .ok (.iload 4, 2) := by decide +kernel
theorem D_m_odds_49 : decode M_m_odds.2.1 49 = .ok (.isub, 1) := by decide +kernel
theorem D_m_odds_50 : decode M_m_odds.2.1 50 = .ok (.aload_n 0, 1) := by decide +kernel
theorem D_m_odds_51 : decode M_m_odds.2.1 51 = .ok (.iload_n 1, 1) := by decide +kernel
theorem D_m_odds_52 : decode M_m_odds.2.1 52 = .ok (.iload_n 2, 1) := by decide +kernel
theorem D_m_odds_53 : decode M_m_odds.2.1 53 = .ok (.iload_n 3, 1) := by decide +kernel
theorem D_m_odds_54 : decode M_m_odds.2.1 54 = .ok (.invokevirtual 203, 3) := by decide +kernel
theorem D_m_odds_57 : decode M_m_odds.2.1 57 = .ok (.imul, 1) := by decide +kernel
theorem D_m_odds_58 : decode M_m_odds.2.1 58 = .ok (.iload_n 2, 1) := by decide +kernel
theorem D_m_odds_59 : decode M_m_odds.2.1 59 = .ok (.ifCond .ne 10, 3) := by decide +kernel
theorem D_m_odds_62 : decode M_m_odds.2.1 62 = .ok (.iload 4, 2) := by decide +kernel
theorem D_m_odds_64 : decode M_m_odds.2.1 64 = .ok (.iload_n 3, 1) := by decide +kernel
theorem D_m_odds_65 : decode M_m_odds.2.1 65 = .ok (.imul, 1) := by decide +kernel
theorem D_m_odds_66 : decode M_m_odds.2.1 66 = .ok (.goto 4, 3) := by decide +kernel
theorem D_m_odds_69 : decode M_m_odds.2.1 69 = .ok (.iconst 0, 1) := by decide +kernel
theorem D_m_odds_70 : decode M_m_odds.2.1 70 = .ok (.iadd, 1) := by decide +kernel
theorem D_m_odds_71 : decode M_m_odds.2.1 71 = .ok (.istore 6, 2) := by decide +kernel
theorem D_m_odds_73 : decode M_m_odds.2.1 73 = .ok (.iload 6, 2) := by decide +kernel
theorem D_m_odds_75 : decode M_m_odds.2.1 75 = .ok (.bipush 10, 2) := by decide +kernel
theorem D_m_odds_77 : decode M_m_odds.2.1 77 = .ok (.iload_n 3, 1) := by decide +kernel
theorem D_m_odds_78 : decode M_m_odds.2.1 78 = .ok (.imul, 1) := by decide +kernel
theorem D_m_odds_79 : decode M_m_odds.2.1 79 = .ok (.iload 5, 2) := by decide +kernel
theorem D_m_odds_81 : decode M_m_odds.2.1 81 = .ok (.invokestatic 212, 3) := by decide +kernel
theorem D_m_odds_84 : decode M_m_odds.2.1 84 = .ok (.ireturn, 1) := by decide +kernel
theorem D_m_saw_0 : decode M_m_saw.2.1 0 = .ok (.aload_n 0, 1) := by decide +kernel
theorem D_m_saw_1 : decode M_m_saw.2.1 1 = .ok (.iload_n 1, 1) := by decide +kernel
theorem D_m_saw_2 : decode M_m_saw.2.1 2 = .ok (.invokevirtual 146, 3) := by decide +kernel
theorem D_m_saw_5 : decode M_m_saw.2.1 5 = .ok (.ifCond .eq 10, 3) := by decide +kernel
theorem D_m_saw_8 : decode M_m_saw.2.1 8 = .ok (.iload_n 2, 1) := by decide +kernel
theorem D_m_saw_9 : decode M_m_saw.2.1 9 = .ok (.invokestatic 200, 3) := by decide +kernel
theorem D_m_saw_12 : decode M_m_saw.2.1 12 = .ok (.ifCond .ne 5, 3) := by decide +kernel
theorem D_m_saw_15 : decode M_m_saw.2.1 15 = .ok (.iconst (-1), 1) := by decide +kernel
theorem D_m_saw_16 : decode M_m_saw.2.1 16 = .ok (.ireturn, 1) := by decide +kernel
theorem D_m_saw_17 : decode M_m_saw.2.1 17 = .ok (.aload_n 0, 1) := by decide +kernel
theorem D_m_saw_18 : decode M_m_saw.2.1 18 = .ok (.getfield 140, 3) := by decide +kernel
theorem D_m_saw_21 : decode M_m_saw.2.1 21 = .ok (.bipush 6, 2) := by decide +kernel
theorem D_m_saw_23 : decode M_m_saw.2.1 23 = .ok (.if_icmp .ne 6, 3) := by decide +kernel
theorem D_m_saw_26 : decode M_m_saw.2.1 26 = .ok (.bipush (-3), 2) := by decide +kernel
theorem D_m_saw_28 : decode M_m_saw.2.1 28 = .ok (.ireturn, 1) := by decide +kernel
theorem D_m_saw_29 : decode M_m_saw.2.1 29 = .ok (.aload_n 0, 1) := by decide +kernel
theorem D_m_saw_30 : decode M_m_saw.2.1 30 = .ok (.getfield 33, 3) := by decide +kernel
theorem D_m_saw_33 : decode M_m_saw.2.1 33 = .ok (.iconst 2, 1) := by decide +kernel
theorem D_m_saw_34 : decode M_m_saw.2.1 34 = .ok (.aload_n 0, 1) := by decide +kernel
theorem D_m_saw_35 : decode M_m_saw.2.1 35 = .ok (.getfield 140, 3) := by decide +kernel
theorem D_m_saw_38 : decode M_m_saw.2.1 38 = .ok (.imul, 1) := by decide +kernel
theorem D_m_saw_39 : decode M_m_saw.2.1 39 = .ok (.iload_n 1, 1) := by decide +kernel
theorem D_m_saw_40 : decode M_m_saw.2.1 40 = .ok (.iastore, 1) := by decide +kernel
theorem D_m_saw_41 : decode M_m_saw.2.1 41 = .ok (.aload_n 0, 1) := by decide +kernel
theorem D_m_saw_42 : decode M_m_saw.2.1 42 = .ok (.getfield 33, 3) := by decide +kernel
theorem D_m_saw_45 : decode M_m_saw.2.1 45 = .ok (.iconst 2, 1) := by decide +kernel
theorem D_m_saw_46 : decode M_m_saw.2.1 46 = .ok (.aload_n 0, 1) := by decide +kernel
theorem D_m_saw_47 : decode M_m_saw.2.1 47 = .ok (.getfield 140, 3) := by decide +kernel
theorem D_m_saw_50 : decode M_m_saw.2.1 50 = .ok (.imul, 1) := by decide +kernel
theorem D_m_saw_51 : decode M_m_saw.2.1 51 = .ok (.iconst 1, 1) := by decide +kernel
theorem D_m_saw_52 : decode M_m_saw.2.1 52 = .ok (.iadd, 1) := by decide +kernel
theorem D_m_saw_53 : decode M_m_saw.2.1 53 = .ok (.iload_n 2, 1) := by decide +kernel
theorem D_m_saw_54 : decode M_m_saw.2.1 54 = .ok (.iastore, 1) := by decide +kernel
theorem D_m_saw_55 : decode M_m_saw.2.1 55 = .ok (.aload_n 0, 1) := by decide +kernel
theorem D_m_saw_56 : decode M_m_saw.2.1 56 = .ok (.dup, 1) := by decide +kernel
theorem D_m_saw_57 : decode M_m_saw.2.1 57 = .ok (.getfield 140, 3) := by decide +kernel
theorem D_m_saw_60 : decode M_m_saw.2.1 60 = .ok (.iconst 1, 1) := by decide +kernel
theorem D_m_saw_61 : decode M_m_saw.2.1 61 = .ok (.iadd, 1) := by decide +kernel
theorem D_m_saw_62 : decode M_m_saw.2.1 62 = .ok (.putfield 140, 3) := by decide +kernel
theorem D_m_saw_65 : decode M_m_saw.2.1 65 = .ok (.aload_n 0, 1) := by decide +kernel
theorem D_m_saw_66 : decode M_m_saw.2.1 66 = .ok (.getfield 140, 3) := by decide +kernel
theorem D_m_saw_69 : decode M_m_saw.2.1 69 = .ok (.ireturn, 1) := by decide +kernel
theorem D_m_isSeen_0 : decode M_m_isSeen.2.1 0 = .ok (.iconst 1, 1) := by decide +kernel
theorem D_m_isSeen_1 : decode M_m_isSeen.2.1 1 = .ok (.istore_n 2, 1) := by decide +kernel
theorem D_m_isSeen_2 : decode M_m_isSeen.2.1 2 = .ok (.iconst 0, 1) := by decide +kernel
theorem D_m_isSeen_3 : decode M_m_isSeen.2.1 3 = .ok (.istore_n 3, 1) := by decide +kernel
theorem D_m_isSeen_4 : decode M_m_isSeen.2.1 4 = .ok (.iload_n 3, 1) := by decide +kernel
theorem D_m_isSeen_5 : decode M_m_isSeen.2.1 5 = .ok (.aload_n 0, 1) := by decide +kernel
theorem D_m_isSeen_6 : decode M_m_isSeen.2.1 6 = .ok (.getfield 140, 3) := by decide +kernel
theorem D_m_isSeen_9 : decode M_m_isSeen.2.1 9 = .ok (.if_icmp .ge 45, 3) := by decide +kernel
theorem D_m_isSeen_12 : decode M_m_isSeen.2.1 12 = .ok (.iload_n 2, 1) := by decide +kernel
theorem D_m_isSeen_13 : decode M_m_isSeen.2.1 13 = .ok (.ifCond .eq 33, 3) := by decide +kernel
theorem D_m_isSeen_16 : decode M_m_isSeen.2.1 16 = .ok (.aload_n 0, 1) := by decide +kernel
theorem D_m_isSeen_17 : decode M_m_isSeen.2.1 17 = .ok (.aload_n 0, 1) := by decide +kernel
theorem D_m_isSeen_18 : decode M_m_isSeen.2.1 18 = .ok (.getfield 33, 3) := by decide +kernel
theorem D_m_isSeen_21 : decode M_m_isSeen.2.1 21 = .ok (.iconst 2, 1) := by decide +kernel
theorem D_m_isSeen_22 : decode M_m_isSeen.2.1 22 = .ok (.iload_n 3, 1) := by decide +kernel
theorem D_m_isSeen_23 : decode M_m_isSeen.2.1 23 = .ok (.imul, 1) := by decide +kernel
theorem D_m_isSeen_24 : decode M_m_isSeen.2.1 24 = .ok (.iaload, 1) := by decide +kernel
theorem D_m_isSeen_25 : decode M_m_isSeen.2.1 25 = .ok (.iload_n 1, 1) := by decide +kernel
theorem D_m_isSeen_26 : decode M_m_isSeen.2.1 26 = .ok (.invokevirtual 197, 3) := by decide +kernel
theorem D_m_isSeen_29 : decode M_m_isSeen.2.1 29 = .ok (.aload_n 0, 1) := by decide +kernel
theorem D_m_isSeen_30 : decode M_m_isSeen.2.1 30 = .ok (.getfield 33, 3) := by decide +kernel
theorem D_m_isSeen_33 : decode M_m_isSeen.2.1 33 = .ok (.iconst 2, 1) := by decide +kernel
theorem D_m_isSeen_34 : decode M_m_isSeen.2.1 34 = .ok (.iload_n 3, 1) := by decide +kernel
theorem D_m_isSeen_35 : decode M_m_isSeen.2.1 35 = .ok (.imul, 1) := by decide +kernel
theorem D_m_isSeen_36 : decode M_m_isSeen.2.1 36 = .ok (.iconst 1, 1) := by decide +kernel
theorem D_m_isSeen_37 : decode M_m_isSeen.2.1 37 = .ok (.iadd, 1) := by decide +kernel
theorem D_m_isSeen_38 : decode M_m_isSeen.2.1 38 = .ok (.iaload, 1) := by decide +kernel
theorem D_m_isSeen_39 : decode M_m_isSeen.2.1 39 = .ok (.if_icmp .ne 7, 3) := by decide +kernel
theorem D_m_isSeen_42 : decode M_m_isSeen.2.1 42 = .ok (.iconst 1, 1) := by decide +kernel
theorem D_m_isSeen_43 : decode M_m_isSeen.2.1 43 = .ok (.goto 4, 3) := by decide +kernel
theorem D_m_isSeen_46 : decode M_m_isSeen.2.1 46 = .ok (.iconst 0, 1) := by decide +kernel
theorem D_m_isSeen_47 : decode M_m_isSeen.2.1 47 = .ok (.istore_n 2, 1) := by decide +kernel
theorem D_m_isSeen_48 : decode M_m_isSeen.2.1 48 = .ok (.iinc 3 1, 3) := by decide +kernel
theorem D_m_isSeen_51 : decode M_m_isSeen.2.1 51 = .ok (.goto (-47), 3) := by decide +kernel
theorem D_m_isSeen_54 : decode M_m_isSeen.2.1 54 = .ok (.iload_n 2, 1) := by decide +kernel
theorem D_m_isSeen_55 : decode M_m_isSeen.2.1 55 = .ok (.ireturn, 1) := by decide +kernel
theorem D_m_spun_0 : decode M_m_spun.2.1 0 = .ok (.iload_n 1, 1) := by decide +kernel
theorem D_m_spun_1 : decode M_m_spun.2.1 1 = .ok (.iconst 0, 1) := by decide +kernel
theorem D_m_spun_2 : decode M_m_spun.2.1 2 = .ok (.iconst 2, 1) := by decide +kernel
theorem D_m_spun_3 : decode M_m_spun.2.1 3 = .ok (.invokestatic 69, 3) := by decide +kernel
theorem D_m_spun_6 : decode M_m_spun.2.1 6 = .ok (.ifCond .ne 5, 3) := by decide +kernel
theorem D_m_spun_9 : decode M_m_spun.2.1 9 = .ok (.iconst (-1), 1) := by decide +kernel
theorem D_m_spun_10 : decode M_m_spun.2.1 10 = .ok (.ireturn, 1) := by decide +kernel
theorem D_m_spun_11 : decode M_m_spun.2.1 11 = .ok (.iconst 0, 1) := by decide +kernel
theorem D_m_spun_12 : decode M_m_spun.2.1 12 = .ok (.istore_n 2, 1) := by decide +kernel
theorem D_m_spun_13 : decode M_m_spun.2.1 13 = .ok (.bipush (-9), 2) := by decide +kernel
theorem D_m_spun_15 : decode M_m_spun.2.1 15 = .ok (.istore_n 3, 1) := by decide +kernel
theorem D_m_spun_16 : decode M_m_spun.2.1 16 = .ok (.bipush (-9), 2) := by decide +kernel
theorem D_m_spun_18 : decode M_m_spun.2.1 18 = .ok (.istore 4, 2) := by decide +kernel
theorem D_m_spun_20 : decode M_m_spun.2.1 20 = .ok (.iconst 1, 1) := by decide +kernel
theorem D_m_spun_21 : decode M_m_spun.2.1 21 = .ok (.istore 5, 2) := by decide +kernel
theorem D_m_spun_23 : decode M_m_spun.2.1 23 = .ok (.iload 5, 2) := by decide +kernel
theorem D_m_spun_25 : decode M_m_spun.2.1 25 = .ok (.bipush 60, 2) := by decide +kernel
theorem D_m_spun_27 : decode M_m_spun.2.1 27 = .ok (.if_icmp .gt 36, 3) := by decide +kernel
theorem D_m_spun_30 : decode M_m_spun.2.1 30 = .ok (.aload_n 0, 1) := by decide +kernel
theorem D_m_spun_31 : decode M_m_spun.2.1 31 = .ok (.iload 5, 2) := by decide +kernel
theorem D_m_spun_33 : decode M_m_spun.2.1 33 = .ok (.invokevirtual 215, 3) := by decide +kernel
theorem D_m_spun_36 : decode M_m_spun.2.1 36 = .ok (.ifCond .eq 21, 3) := by decide +kernel
theorem D_m_spun_39 : decode M_m_spun.2.1 39 = .ok (.iload_n 2, 1) := by decide +kernel
theorem D_m_spun_40 : decode M_m_spun.2.1 40 = .ok (.ifCond .ne 8, 3) := by decide +kernel
theorem D_m_spun_43 : decode M_m_spun.2.1 43 = .ok (.iload 5, 2) := by decide +kernel
theorem D_m_spun_45 : decode M_m_spun.2.1 45 = .ok (.goto 4, 3) := by decide +kernel
theorem D_m_spun_48 : decode M_m_spun.2.1 48 = .ok (.iload_n 3, 1) := by decide +kernel
theorem D_m_spun_49 : decode M_m_spun.2.1 49 = .ok (.istore_n 3, 1) := by decide +kernel
theorem D_m_spun_50 : decode M_m_spun.2.1 50 = .ok (.iload 5, 2) := by decide +kernel
theorem D_m_spun_52 : decode M_m_spun.2.1 52 = .ok (.istore 4, 2) := by decide +kernel
theorem D_m_spun_54 : decode M_m_spun.2.1 54 = .ok (.iinc 2 1, 3) := by decide +kernel
theorem D_m_spun_57 : decode M_m_spun.2.1 57 = .ok (.iinc 5 1, 3) := by decide +kernel
theorem D_m_spun_60 : decode M_m_spun.2.1 60 = .ok (.goto (-37), 3) := by decide +kernel
theorem D_m_spun_63 : decode M_m_spun.2.1 63 = .ok (.iload_n 1, 1) := by decide +kernel
theorem D_m_spun_64 : decode M_m_spun.2.1 64 = .ok (.ifCond .ne 7, 3) := by decide +kernel
theorem D_m_spun_67 : decode M_m_spun.2.1 67 = .ok (.iload_n 2, 1) := by decide +kernel
theorem D_m_spun_68 : decode M_m_spun.2.1 68 = .ok (.goto 14, 3) := by decide +kernel
theorem D_m_spun_71 : decode M_m_spun.2.1 71 = .ok (.iload_n 1, 1) := by decide +kernel
theorem D_m_spun_72 : decode M_m_spun.2.1 72 = .ok (.iconst 1, 1) := by decide +kernel
theorem D_m_spun_73 : decode M_m_spun.2.1 73 = .ok (.if_icmp .ne 7, 3) := by decide +kernel
theorem D_m_spun_76 : decode M_m_spun.2.1 76 = .ok (.iload_n 3, 1) := by decide +kernel
theorem D_m_spun_77 : decode M_m_spun.2.1 77 = .ok (.goto 5, 3) := by decide +kernel
theorem D_m_spun_80 : decode M_m_spun.2.1 80 = .ok (.iload 4, 2) := by decide +kernel
theorem D_m_spun_82 : decode M_m_spun.2.1 82 = .ok (.ireturn, 1) := by decide +kernel
theorem D_m_look_0 : decode M_m_look.2.1 0 = .ok (.aload_n 0, 1) := by decide +kernel
theorem D_m_look_1 : decode M_m_look.2.1 1 = .ok (.iconst 0, 1) := by decide +kernel
theorem D_m_look_2 : decode M_m_look.2.1 2 = .ok (.invokevirtual 218, 3) := by decide +kernel
theorem D_m_look_5 : decode M_m_look.2.1 5 = .ok (.ifCond .ne 6, 3) := by decide +kernel
theorem D_m_look_8 : decode M_m_look.2.1 8 = .ok (.bipush (-9), 2) := by decide +kernel
theorem D_m_look_10 : decode M_m_look.2.1 10 = .ok (.ireturn, 1) := by decide +kernel
theorem D_m_look_11 : decode M_m_look.2.1 11 = .ok (.bipush (-9), 2) := by decide +kernel
theorem D_m_look_13 : decode M_m_look.2.1 13 = .ok (.istore_n 1, 1) := by decide +kernel
theorem D_m_look_14 : decode M_m_look.2.1 14 = .ok (.iconst 0, 1) := by decide +kernel
theorem D_m_look_15 : decode M_m_look.2.1 15 = .ok (.istore_n 2, 1) := by decide +kernel
theorem D_m_look_16 : decode M_m_look.2.1 16 = .ok (.iconst 0, 1) := by decide +kernel
theorem D_m_look_17 : decode M_m_look.2.1 17 = .ok (.istore_n 3, 1) := by decide +kernel
theorem D_m_look_18 : decode M_m_look.2.1 18 = .ok (.iload_n 3, 1) := by decide +kernel
theorem D_m_look_19 : decode M_m_look.2.1 19 = .ok (.aload_n 0, 1) := by decide +kernel
theorem D_m_look_20 : decode M_m_look.2.1 20 = .ok (.getfield 73, 3) := by decide +kernel
theorem D_m_look_23 : decode M_m_look.2.1 23 = .ok (.if_icmp .ge 151, 3) := by decide +kernel
theorem D_m_look_26 : decode M_m_look.2.1 26 = .ok (.iconst 0, 1) := by decide +kernel
theorem D_m_look_27 : decode M_m_look.2.1 27 = .ok (.istore 4, 2) := by decide +kernel
theorem D_m_look_29 : decode M_m_look.2.1 29 = .ok (.iload 4, 2) := by decide +kernel
theorem D_m_look_31 : decode M_m_look.2.1 31 = .ok (.bipush 6, 2) := by decide +kernel
theorem D_m_look_33 : decode M_m_look.2.1 33 = .ok (.if_icmp .ge 17, 3) := by decide +kernel
theorem D_m_look_36 : decode M_m_look.2.1 36 = .ok (.aload_n 0, 1) := by decide +kernel
theorem D_m_look_37 : decode M_m_look.2.1 37 = .ok (.getfield 63, 3) := by decide +kernel
theorem D_m_look_40 : decode M_m_look.2.1 40 = .ok (.iload 4, 2) := by decide +kernel
theorem D_m_look_42 : decode M_m_look.2.1 42 = .ok (.iconst 0, 1) := by decide +kernel
theorem D_m_look_43 : decode M_m_look.2.1 43 = .ok (.iastore, 1) := by decide +kernel
theorem D_m_look_44 : decode M_m_look.2.1 44 = .ok (.iinc 4 1, 3) := by decide +kernel
theorem D_m_look_47 : decode M_m_look.2.1 47 = .ok (.goto (-18), 3) := by decide +kernel
theorem D_m_look_50 : decode M_m_look.2.1 50 = .ok (.iconst 0, 1) := by decide +kernel
theorem D_m_look_51 : decode M_m_look.2.1 51 = .ok (.istore 4, 2) := by decide +kernel
theorem D_m_look_53 : decode M_m_look.2.1 53 = .ok (.iconst 1, 1) := by decide +kernel
theorem D_m_look_54 : decode M_m_look.2.1 54 = .ok (.istore 5, 2) := by decide +kernel
theorem D_m_look_56 : decode M_m_look.2.1 56 = .ok (.iload 5, 2) := by decide +kernel
theorem D_m_look_58 : decode M_m_look.2.1 58 = .ok (.bipush 60, 2) := by decide +kernel
theorem D_m_look_60 : decode M_m_look.2.1 60 = .ok (.if_icmp .gt 68, 3) := by decide +kernel
theorem D_m_look_63 : decode M_m_look.2.1 63 = .ok (.aload_n 0, 1) := by decide +kernel
theorem D_m_look_64 : decode M_m_look.2.1 64 = .ok (.iload_n 3, 1) := by decide +kernel
theorem D_m_look_65 : decode M_m_look.2.1 65 = .ok (.iload 5, 2) := by decide +kernel
theorem D_m_look_67 : decode M_m_look.2.1 67 = .ok (.invokevirtual 197, 3) := by decide +kernel
theorem D_m_look_70 : decode M_m_look.2.1 70 = .ok (.istore 6, 2) := by decide +kernel
theorem D_m_look_72 : decode M_m_look.2.1 72 = .ok (.aload_n 0, 1) := by decide +kernel
theorem D_m_look_73 : decode M_m_look.2.1 73 = .ok (.getfield 63, 3) := by decide +kernel
theorem D_m_look_76 : decode M_m_look.2.1 76 = .ok (.iload 6, 2) := by decide +kernel
theorem D_m_look_78 : decode M_m_look.2.1 78 = .ok (.dup2, 1) := by decide +kernel
theorem D_m_look_79 : decode M_m_look.2.1 79 = .ok (.iaload, 1) := by decide +kernel
theorem D_m_look_80 : decode M_m_look.2.1 80 = .ok (.aload_n 0, 1) := by decide +kernel
theorem D_m_look_81 : decode M_m_look.2.1 81 = .ok (.iload 5, 2) := by decide +kernel
theorem D_m_look_83 : decode M_m_look.2.1 83 = .ok (.invokevirtual 215, 3) := by decide +kernel
theorem D_m_look_86 : decode M_m_look.2.1 86 = .ok (.ifCond .eq 7, 3) := by decide +kernel
theorem D_m_look_89 : decode M_m_look.2.1 89 = .ok (.iconst 1, 1) := by decide +kernel
theorem D_m_look_90 : decode M_m_look.2.1 90 = .ok (.goto 4, 3) := by decide +kernel
theorem D_m_look_93 : decode M_m_look.2.1 93 = .ok (.iconst 0, 1) := by decide +kernel
theorem D_m_look_94 : decode M_m_look.2.1 94 = .ok (.iadd, 1) := by decide +kernel
theorem D_m_look_95 : decode M_m_look.2.1 95 = .ok (.iastore, 1) := by decide +kernel
theorem D_m_look_96 : decode M_m_look.2.1 96 = .ok (.aload_n 0, 1) := by decide +kernel
theorem D_m_look_97 : decode M_m_look.2.1 97 = .ok (.getfield 63, 3) := by decide +kernel
theorem D_m_look_100 : decode M_m_look.2.1 100 = .ok (.iload 6, 2) := by decide +kernel
theorem D_m_look_102 : decode M_m_look.2.1 102 = .ok (.iaload, 1) := by decide +kernel
theorem D_m_look_103 : decode M_m_look.2.1 103 = .ok (.iload 4, 2) := by decide +kernel
theorem D_m_look_105 : decode M_m_look.2.1 105 = .ok (.if_icmp .le 13, 3) := by decide +kernel
theorem D_m_look_108 : decode M_m_look.2.1 108 = .ok (.aload_n 0, 1) := by decide +kernel
theorem D_m_look_109 : decode M_m_look.2.1 109 = .ok (.getfield 63, 3) := by decide +kernel
theorem D_m_look_112 : decode M_m_look.2.1 112 = .ok (.iload 6, 2) := by decide +kernel
theorem D_m_look_114 : decode M_m_look.2.1 114 = .ok (.iaload, 1) := by decide +kernel
theorem D_m_look_115 : decode M_m_look.2.1 115 = .ok (.goto 5, 3) := by decide +kernel
theorem D_m_look_118 : decode M_m_look.2.1 118 = .ok (.iload 4, 2) := by decide +kernel
theorem D_m_look_120 : decode M_m_look.2.1 120 = .ok (.istore 4, 2) := by decide +kernel
theorem D_m_look_122 : decode M_m_look.2.1 122 = .ok (.iinc 5 1, 3) := by decide +kernel
theorem D_m_look_125 : decode M_m_look.2.1 125 = .ok (.goto (-69), 3) := by decide +kernel
theorem D_m_look_128 : decode M_m_look.2.1 128 = .ok (.iload_n 1, 1) := by decide +kernel
theorem D_m_look_129 : decode M_m_look.2.1 129 = .ok (.ifCond .lt 9, 3) := by decide +kernel
theorem D_m_look_132 : decode M_m_look.2.1 132 = .ok (.iload 4, 2) := by decide +kernel
theorem D_m_look_134 : decode M_m_look.2.1 134 = .ok (.iload_n 2, 1) := by decide +kernel
theorem D_m_look_135 : decode M_m_look.2.1 135 = .ok (.if_icmp .ge 7, 3) := by decide +kernel
theorem D_m_look_138 : decode M_m_look.2.1 138 = .ok (.iconst 1, 1) := by decide +kernel
theorem D_m_look_139 : decode M_m_look.2.1 139 = .ok (.goto 4, 3) := by decide +kernel
theorem D_m_look_142 : decode M_m_look.2.1 142 = .ok (.iconst 0, 1) := by decide +kernel
theorem D_m_look_143 : decode M_m_look.2.1 143 = .ok (.istore 5, 2) := by decide +kernel
theorem D_m_look_145 : decode M_m_look.2.1 145 = .ok (.iload 5, 2) := by decide +kernel
theorem D_m_look_147 : decode M_m_look.2.1 147 = .ok (.ifCond .eq 7, 3) := by decide +kernel
theorem D_m_look_150 : decode M_m_look.2.1 150 = .ok (.iload_n 3, 1) := by decide +kernel
theorem D_m_look_151 : decode M_m_look.2.1 151 = .ok (.goto 4, 3) := by decide +kernel
theorem D_m_look_154 : decode M_m_look.2.1 154 = .ok (.iload_n 1, 1) := by decide +kernel
theorem D_m_look_155 : decode M_m_look.2.1 155 = .ok (.istore_n 1, 1) := by decide +kernel
theorem D_m_look_156 : decode M_m_look.2.1 156 = .ok (.iload 5, 2) := by decide +kernel
theorem D_m_look_158 : decode M_m_look.2.1 158 = .ok (.ifCond .eq 8, 3) := by decide +kernel
theorem D_m_look_161 : decode M_m_look.2.1 161 = .ok (.iload 4, 2) := by decide +kernel
theorem D_m_look_163 : decode M_m_look.2.1 163 = .ok (.goto 4, 3) := by decide +kernel
theorem D_m_look_166 : decode M_m_look.2.1 166 = .ok (.iload_n 2, 1) := by decide +kernel
theorem D_m_look_167 : decode M_m_look.2.1 167 = .ok (.istore_n 2, 1) := by decide +kernel
theorem D_m_look_168 : decode M_m_look.2.1 168 = .ok (.iinc 3 1, 3) := by decide +kernel
theorem D_m_look_171 : decode M_m_look.2.1 171 = .ok (.goto (-153), 3) := by decide +kernel
theorem D_m_look_174 : decode M_m_look.2.1 174 = .ok (.iload_n 1, 1) := by decide +kernel
theorem D_m_look_175 : decode M_m_look.2.1 175 = .ok (.ireturn, 1) := by decide +kernel
theorem D_m_hears_0 : decode M_m_hears.2.1 0 = .ok (.iload_n 1, 1) := by decide +kernel
theorem D_m_hears_1 : decode M_m_hears.2.1 1 = .ok (.invokestatic 169, 3) := by decide +kernel
theorem D_m_hears_4 : decode M_m_hears.2.1 4 = .ok (.ifCond .eq 14, 3) := by decide +kernel
theorem D_m_hears_7 : decode M_m_hears.2.1 7 = .ok (.iload_n 2, 1) := by decide +kernel
theorem D_m_hears_8 : decode M_m_hears.2.1 8 = .ok (.iconst 0, 1) := by decide +kernel
theorem D_m_hears_9 : decode M_m_hears.2.1 9 = .ok (.sipush 999, 3) := by decide +kernel
theorem D_m_hears_12 : decode M_m_hears.2.1 12 = .ok (.invokestatic 69, 3) := by decide +kernel
theorem D_m_hears_15 : decode M_m_hears.2.1 15 = .ok (.ifCond .ne 5, 3) := by decide +kernel
theorem D_m_hears_18 : decode M_m_hears.2.1 18 = .ok (.iconst (-1), 1) := by decide +kernel
theorem D_m_hears_19 : decode M_m_hears.2.1 19 = .ok (.ireturn, 1) := by decide +kernel
theorem D_m_hears_20 : decode M_m_hears.2.1 20 = .ok (.aload_n 0, 1) := by decide +kernel
theorem D_m_hears_21 : decode M_m_hears.2.1 21 = .ok (.getfield 143, 3) := by decide +kernel
theorem D_m_hears_24 : decode M_m_hears.2.1 24 = .ok (.bipush 6, 2) := by decide +kernel
theorem D_m_hears_26 : decode M_m_hears.2.1 26 = .ok (.if_icmp .ne 6, 3) := by decide +kernel
theorem D_m_hears_29 : decode M_m_hears.2.1 29 = .ok (.bipush (-3), 2) := by decide +kernel
theorem D_m_hears_31 : decode M_m_hears.2.1 31 = .ok (.ireturn, 1) := by decide +kernel
theorem D_m_hears_32 : decode M_m_hears.2.1 32 = .ok (.aload_n 0, 1) := by decide +kernel
theorem D_m_hears_33 : decode M_m_hears.2.1 33 = .ok (.getfield 36, 3) := by decide +kernel
theorem D_m_hears_36 : decode M_m_hears.2.1 36 = .ok (.iconst 2, 1) := by decide +kernel
theorem D_m_hears_37 : decode M_m_hears.2.1 37 = .ok (.aload_n 0, 1) := by decide +kernel
theorem D_m_hears_38 : decode M_m_hears.2.1 38 = .ok (.getfield 143, 3) := by decide +kernel
theorem D_m_hears_41 : decode M_m_hears.2.1 41 = .ok (.imul, 1) := by decide +kernel
theorem D_m_hears_42 : decode M_m_hears.2.1 42 = .ok (.iload_n 1, 1) := by decide +kernel
theorem D_m_hears_43 : decode M_m_hears.2.1 43 = .ok (.iastore, 1) := by decide +kernel
theorem D_m_hears_44 : decode M_m_hears.2.1 44 = .ok (.aload_n 0, 1) := by decide +kernel
theorem D_m_hears_45 : decode M_m_hears.2.1 45 = .ok (.getfield 36, 3) := by decide +kernel
theorem D_m_hears_48 : decode M_m_hears.2.1 48 = .ok (.iconst 2, 1) := by decide +kernel
theorem D_m_hears_49 : decode M_m_hears.2.1 49 = .ok (.aload_n 0, 1) := by decide +kernel
theorem D_m_hears_50 : decode M_m_hears.2.1 50 = .ok (.getfield 143, 3) := by decide +kernel
theorem D_m_hears_53 : decode M_m_hears.2.1 53 = .ok (.imul, 1) := by decide +kernel
theorem D_m_hears_54 : decode M_m_hears.2.1 54 = .ok (.iconst 1, 1) := by decide +kernel
theorem D_m_hears_55 : decode M_m_hears.2.1 55 = .ok (.iadd, 1) := by decide +kernel
theorem D_m_hears_56 : decode M_m_hears.2.1 56 = .ok (.iload_n 2, 1) := by decide +kernel
theorem D_m_hears_57 : decode M_m_hears.2.1 57 = .ok (.iastore, 1) := by decide +kernel
theorem D_m_hears_58 : decode M_m_hears.2.1 58 = .ok (.aload_n 0, 1) := by decide +kernel
theorem D_m_hears_59 : decode M_m_hears.2.1 59 = .ok (.dup, 1) := by decide +kernel
theorem D_m_hears_60 : decode M_m_hears.2.1 60 = .ok (.getfield 143, 3) := by decide +kernel
theorem D_m_hears_63 : decode M_m_hears.2.1 63 = .ok (.iconst 1, 1) := by decide +kernel
theorem D_m_hears_64 : decode M_m_hears.2.1 64 = .ok (.iadd, 1) := by decide +kernel
theorem D_m_hears_65 : decode M_m_hears.2.1 65 = .ok (.putfield 143, 3) := by decide +kernel
theorem D_m_hears_68 : decode M_m_hears.2.1 68 = .ok (.aload_n 0, 1) := by decide +kernel
theorem D_m_hears_69 : decode M_m_hears.2.1 69 = .ok (.getfield 143, 3) := by decide +kernel
theorem D_m_hears_72 : decode M_m_hears.2.1 72 = .ok (.ireturn, 1) := by decide +kernel
theorem D_m_isHeard_0 : decode M_m_isHeard.2.1 0 = .ok (.iconst 1, 1) := by decide +kernel
theorem D_m_isHeard_1 : decode M_m_isHeard.2.1 1 = .ok (.istore_n 3, 1) := by decide +kernel
theorem D_m_isHeard_2 : decode M_m_isHeard.2.1 2 = .ok (.iconst 0, 1) := by decide +kernel
theorem D_m_isHeard_3 : decode M_m_isHeard.2.1 3 = .ok (.istore 4, 2) := by decide +kernel
theorem D_m_isHeard_5 : decode M_m_isHeard.2.1 5 = .ok (.iload 4, 2) := by decide +kernel
theorem D_m_isHeard_7 : decode M_m_isHeard.2.1 7 = .ok (.aload_n 0, 1) := by decide +kernel
theorem D_m_isHeard_8 : decode M_m_isHeard.2.1 8 = .ok (.getfield 143, 3) := by decide +kernel
theorem D_m_isHeard_11 : decode M_m_isHeard.2.1 11 = .ok (.if_icmp .ge 47, 3) := by decide +kernel
theorem D_m_isHeard_14 : decode M_m_isHeard.2.1 14 = .ok (.iload_n 3, 1) := by decide +kernel
theorem D_m_isHeard_15 : decode M_m_isHeard.2.1 15 = .ok (.ifCond .eq 35, 3) := by decide +kernel
theorem D_m_isHeard_18 : decode M_m_isHeard.2.1 18 = .ok (.aload_n 0, 1) := by decide +kernel
theorem D_m_isHeard_19 : decode M_m_isHeard.2.1 19 = .ok (.getfield 36, 3) := by decide +kernel
theorem D_m_isHeard_22 : decode M_m_isHeard.2.1 22 = .ok (.iconst 2, 1) := by decide +kernel
theorem D_m_isHeard_23 : decode M_m_isHeard.2.1 23 = .ok (.iload 4, 2) := by decide +kernel
theorem D_m_isHeard_25 : decode M_m_isHeard.2.1 25 = .ok (.imul, 1) := by decide +kernel
theorem D_m_isHeard_26 : decode M_m_isHeard.2.1 26 = .ok (.iaload, 1) := by decide +kernel
theorem D_m_isHeard_27 : decode M_m_isHeard.2.1 27 = .ok (.iload_n 1, 1) := by decide +kernel
theorem D_m_isHeard_28 : decode M_m_isHeard.2.1 28 = .ok (.iload_n 2, 1) := by decide +kernel
theorem D_m_isHeard_29 : decode M_m_isHeard.2.1 29 = .ok (.invokestatic 165, 3) := by decide +kernel
theorem D_m_isHeard_32 : decode M_m_isHeard.2.1 32 = .ok (.aload_n 0, 1) := by decide +kernel
theorem D_m_isHeard_33 : decode M_m_isHeard.2.1 33 = .ok (.getfield 36, 3) := by decide +kernel
theorem D_m_isHeard_36 : decode M_m_isHeard.2.1 36 = .ok (.iconst 2, 1) := by decide +kernel
theorem D_m_isHeard_37 : decode M_m_isHeard.2.1 37 = .ok (.iload 4, 2) := by decide +kernel
theorem D_m_isHeard_39 : decode M_m_isHeard.2.1 39 = .ok (.imul, 1) := by decide +kernel
theorem D_m_isHeard_40 : decode M_m_isHeard.2.1 40 = .ok (.iconst 1, 1) := by decide +kernel
theorem D_m_isHeard_41 : decode M_m_isHeard.2.1 41 = .ok (.iadd, 1) := by decide +kernel
theorem D_m_isHeard_42 : decode M_m_isHeard.2.1 42 = .ok (.iaload, 1) := by decide +kernel
theorem D_m_isHeard_43 : decode M_m_isHeard.2.1 43 = .ok (.if_icmp .ne 7, 3) := by decide +kernel
theorem D_m_isHeard_46 : decode M_m_isHeard.2.1 46 = .ok (.iconst 1, 1) := by decide +kernel
theorem D_m_isHeard_47 : decode M_m_isHeard.2.1 47 = .ok (.goto 4, 3) := by decide +kernel
theorem D_m_isHeard_50 : decode M_m_isHeard.2.1 50 = .ok (.iconst 0, 1) := by decide +kernel
theorem D_m_isHeard_51 : decode M_m_isHeard.2.1 51 = .ok (.istore_n 3, 1) := by decide +kernel
theorem D_m_isHeard_52 : decode M_m_isHeard.2.1 52 = .ok (.iinc 4 1, 3) := by decide +kernel
theorem D_m_isHeard_55 : decode M_m_isHeard.2.1 55 = .ok (.goto (-50), 3) := by decide +kernel
theorem D_m_isHeard_58 : decode M_m_isHeard.2.1 58 = .ok (.iload_n 3, 1) := by decide +kernel
theorem D_m_isHeard_59 : decode M_m_isHeard.2.1 59 = .ok (.ireturn, 1) := by decide +kernel
theorem D_m_laws_0 : decode M_m_laws.2.1 0 = .ok (.iload_n 1, 1) := by decide +kernel
theorem D_m_laws_1 : decode M_m_laws.2.1 1 = .ok (.iconst 0, 1) := by decide +kernel
theorem D_m_laws_2 : decode M_m_laws.2.1 2 = .ok (.iconst 1, 1) := by decide +kernel
theorem D_m_laws_3 : decode M_m_laws.2.1 3 = .ok (.invokestatic 69, 3) := by decide +kernel
theorem D_m_laws_6 : decode M_m_laws.2.1 6 = .ok (.ifCond .ne 5, 3) := by decide +kernel
theorem D_m_laws_9 : decode M_m_laws.2.1 9 = .ok (.iconst (-1), 1) := by decide +kernel
theorem D_m_laws_10 : decode M_m_laws.2.1 10 = .ok (.ireturn, 1) := by decide +kernel
theorem D_m_laws_11 : decode M_m_laws.2.1 11 = .ok (.iconst 0, 1) := by decide +kernel
theorem D_m_laws_12 : decode M_m_laws.2.1 12 = .ok (.istore_n 2, 1) := by decide +kernel
theorem D_m_laws_13 : decode M_m_laws.2.1 13 = .ok (.bipush (-9), 2) := by decide +kernel
theorem D_m_laws_15 : decode M_m_laws.2.1 15 = .ok (.istore_n 3, 1) := by decide +kernel
theorem D_m_laws_16 : decode M_m_laws.2.1 16 = .ok (.iconst 0, 1) := by decide +kernel
theorem D_m_laws_17 : decode M_m_laws.2.1 17 = .ok (.istore 4, 2) := by decide +kernel
theorem D_m_laws_19 : decode M_m_laws.2.1 19 = .ok (.iload 4, 2) := by decide +kernel
theorem D_m_laws_21 : decode M_m_laws.2.1 21 = .ok (.bipush 100, 2) := by decide +kernel
theorem D_m_laws_23 : decode M_m_laws.2.1 23 = .ok (.if_icmp .ge 48, 3) := by decide +kernel
theorem D_m_laws_26 : decode M_m_laws.2.1 26 = .ok (.iload 4, 2) := by decide +kernel
theorem D_m_laws_28 : decode M_m_laws.2.1 28 = .ok (.bipush 10, 2) := by decide +kernel
theorem D_m_laws_30 : decode M_m_laws.2.1 30 = .ok (.irem, 1) := by decide +kernel
theorem D_m_laws_31 : decode M_m_laws.2.1 31 = .ok (.ifCond .le 34, 3) := by decide +kernel
theorem D_m_laws_34 : decode M_m_laws.2.1 34 = .ok (.aload_n 0, 1) := by decide +kernel
theorem D_m_laws_35 : decode M_m_laws.2.1 35 = .ok (.iload 4, 2) := by decide +kernel
theorem D_m_laws_37 : decode M_m_laws.2.1 37 = .ok (.bipush 10, 2) := by decide +kernel
theorem D_m_laws_39 : decode M_m_laws.2.1 39 = .ok (.idiv, 1) := by decide +kernel
theorem D_m_laws_40 : decode M_m_laws.2.1 40 = .ok (.iload 4, 2) := by decide +kernel
theorem D_m_laws_42 : decode M_m_laws.2.1 42 = .ok (.bipush 10, 2) := by decide +kernel
theorem D_m_laws_44 : decode M_m_laws.2.1 44 = .ok (.irem, 1) := by decide +kernel
theorem D_m_laws_45 : decode M_m_laws.2.1 45 = .ok (.invokevirtual 221, 3) := by decide +kernel
theorem D_m_laws_48 : decode M_m_laws.2.1 48 = .ok (.ifCond .eq 17, 3) := by decide +kernel
theorem D_m_laws_51 : decode M_m_laws.2.1 51 = .ok (.iload_n 2, 1) := by decide +kernel
theorem D_m_laws_52 : decode M_m_laws.2.1 52 = .ok (.ifCond .ne 8, 3) := by decide +kernel
theorem D_m_laws_55 : decode M_m_laws.2.1 55 = .ok (.iload 4, 2) := by decide +kernel
theorem D_m_laws_57 : decode M_m_laws.2.1 57 = .ok (.goto 4, 3) := by decide +kernel
theorem D_m_laws_60 : decode M_m_laws.2.1 60 = .ok (.iload_n 3, 1) := by decide +kernel
theorem D_m_laws_61 : decode M_m_laws.2.1 61 = .ok (.istore_n 3, 1) := by decide +kernel
theorem D_m_laws_62 : decode M_m_laws.2.1 62 = .ok (.iinc 2 1, 3) := by decide +kernel
theorem D_m_laws_65 : decode M_m_laws.2.1 65 = .ok (.iinc 4 1, 3) := by decide +kernel
theorem D_m_laws_68 : decode M_m_laws.2.1 68 = .ok (.goto (-49), 3) := by decide +kernel
theorem D_m_laws_71 : decode M_m_laws.2.1 71 = .ok (.iload_n 1, 1) := by decide +kernel
theorem D_m_laws_72 : decode M_m_laws.2.1 72 = .ok (.ifCond .ne 7, 3) := by decide +kernel
theorem D_m_laws_75 : decode M_m_laws.2.1 75 = .ok (.iload_n 2, 1) := by decide +kernel
theorem D_m_laws_76 : decode M_m_laws.2.1 76 = .ok (.goto 4, 3) := by decide +kernel
theorem D_m_laws_79 : decode M_m_laws.2.1 79 = .ok (.iload_n 3, 1) := by decide +kernel
theorem D_m_laws_80 : decode M_m_laws.2.1 80 = .ok (.ireturn, 1) := by decide +kernel
theorem D_m_greatest_0 : decode M_m_greatest.2.1 0 = .ok (.iconst 0, 1) := by decide +kernel
theorem D_m_greatest_1 : decode M_m_greatest.2.1 1 = .ok (.istore_n 2, 1) := by decide +kernel
theorem D_m_greatest_2 : decode M_m_greatest.2.1 2 = .ok (.iload_n 2, 1) := by decide +kernel
theorem D_m_greatest_3 : decode M_m_greatest.2.1 3 = .ok (.sipush 1000, 3) := by decide +kernel
theorem D_m_greatest_6 : decode M_m_greatest.2.1 6 = .ok (.if_icmp .ge 16, 3) := by decide +kernel
theorem D_m_greatest_9 : decode M_m_greatest.2.1 9 = .ok (.aload_n 0, 1) := by decide +kernel
theorem D_m_greatest_10 : decode M_m_greatest.2.1 10 = .ok (.getfield 63, 3) := by decide +kernel
theorem D_m_greatest_13 : decode M_m_greatest.2.1 13 = .ok (.iload_n 2, 1) := by decide +kernel
theorem D_m_greatest_14 : decode M_m_greatest.2.1 14 = .ok (.iconst 0, 1) := by decide +kernel
theorem D_m_greatest_15 : decode M_m_greatest.2.1 15 = .ok (.iastore, 1) := by decide +kernel
theorem D_m_greatest_16 : decode M_m_greatest.2.1 16 = .ok (.iinc 2 1, 3) := by decide +kernel
theorem D_m_greatest_19 : decode M_m_greatest.2.1 19 = .ok (.goto (-17), 3) := by decide +kernel
theorem D_m_greatest_22 : decode M_m_greatest.2.1 22 = .ok (.iconst 0, 1) := by decide +kernel
theorem D_m_greatest_23 : decode M_m_greatest.2.1 23 = .ok (.istore_n 2, 1) := by decide +kernel
theorem D_m_greatest_24 : decode M_m_greatest.2.1 24 = .ok (.iconst 0, 1) := by decide +kernel
theorem D_m_greatest_25 : decode M_m_greatest.2.1 25 = .ok (.istore_n 3, 1) := by decide +kernel
theorem D_m_greatest_26 : decode M_m_greatest.2.1 26 = .ok (.iload_n 3, 1) := by decide +kernel
theorem D_m_greatest_27 : decode M_m_greatest.2.1 27 = .ok (.bipush 100, 2) := by decide +kernel
theorem D_m_greatest_29 : decode M_m_greatest.2.1 29 = .ok (.if_icmp .ge 79, 3) := by decide +kernel
theorem D_m_greatest_32 : decode M_m_greatest.2.1 32 = .ok (.iload_n 3, 1) := by decide +kernel
theorem D_m_greatest_33 : decode M_m_greatest.2.1 33 = .ok (.bipush 10, 2) := by decide +kernel
theorem D_m_greatest_35 : decode M_m_greatest.2.1 35 = .ok (.irem, 1) := by decide +kernel
theorem D_m_greatest_36 : decode M_m_greatest.2.1 36 = .ok (.ifCond .le 66, 3) := by decide +kernel
theorem D_m_greatest_39 : decode M_m_greatest.2.1 39 = .ok (.aload_n 0, 1) := by decide +kernel
theorem D_m_greatest_40 : decode M_m_greatest.2.1 40 = .ok (.iload_n 3, 1) := by decide +kernel
theorem D_m_greatest_41 : decode M_m_greatest.2.1 41 = .ok (.bipush 10, 2) := by decide +kernel
theorem D_m_greatest_43 : decode M_m_greatest.2.1 43 = .ok (.idiv, 1) := by decide +kernel
theorem D_m_greatest_44 : decode M_m_greatest.2.1 44 = .ok (.iload_n 3, 1) := by decide +kernel
theorem D_m_greatest_45 : decode M_m_greatest.2.1 45 = .ok (.bipush 10, 2) := by decide +kernel
theorem D_m_greatest_47 : decode M_m_greatest.2.1 47 = .ok (.irem, 1) := by decide +kernel
theorem D_m_greatest_48 : decode M_m_greatest.2.1 48 = .ok (.invokevirtual 221, 3) := by decide +kernel
theorem D_m_greatest_51 : decode M_m_greatest.2.1 51 = .ok (.ifCond .eq 51, 3) := by decide +kernel
theorem D_m_greatest_54 : decode M_m_greatest.2.1 54 = .ok (.iload_n 1, 1) := by decide +kernel
theorem D_m_greatest_55 : decode M_m_greatest.2.1 55 = .ok (.iload_n 3, 1) := by decide +kernel
theorem D_m_greatest_56 : decode M_m_greatest.2.1 56 = .ok (.bipush 10, 2) := by decide +kernel
theorem D_m_greatest_58 : decode M_m_greatest.2.1 58 = .ok (.idiv, 1) := by decide +kernel
theorem D_m_greatest_59 : decode M_m_greatest.2.1 59 = .ok (.iload_n 3, 1) := by decide +kernel
theorem D_m_greatest_60 : decode M_m_greatest.2.1 60 = .ok (.bipush 10, 2) := by decide +kernel
theorem D_m_greatest_62 : decode M_m_greatest.2.1 62 = .ok (.irem, 1) := by decide +kernel
theorem D_m_greatest_63 : decode M_m_greatest.2.1 63 = .ok (.invokestatic 165, 3) := by decide +kernel
theorem D_m_greatest_66 : decode M_m_greatest.2.1 66 = .ok (.istore 4, 2) := by decide +kernel
theorem D_m_greatest_68 : decode M_m_greatest.2.1 68 = .ok (.aload_n 0, 1) := by decide +kernel
theorem D_m_greatest_69 : decode M_m_greatest.2.1 69 = .ok (.getfield 63, 3) := by decide +kernel
theorem D_m_greatest_72 : decode M_m_greatest.2.1 72 = .ok (.iload 4, 2) := by decide +kernel
theorem D_m_greatest_74 : decode M_m_greatest.2.1 74 = .ok (.dup2, 1) := by decide +kernel
theorem D_m_greatest_75 : decode M_m_greatest.2.1 75 = .ok (.iaload, 1) := by decide +kernel
theorem D_m_greatest_76 : decode M_m_greatest.2.1 76 = .ok (.iconst 1, 1) := by decide +kernel
theorem D_m_greatest_77 : decode M_m_greatest.2.1 77 = .ok (.iadd, 1) := by decide +kernel
theorem D_m_greatest_78 : decode M_m_greatest.2.1 78 = .ok (.iastore, 1) := by decide +kernel
theorem D_m_greatest_79 : decode M_m_greatest.2.1 79 = .ok (.aload_n 0, 1) := by decide +kernel
theorem D_m_greatest_80 : decode M_m_greatest.2.1 80 = .ok (.getfield 63, 3) := by decide +kernel
theorem D_m_greatest_83 : decode M_m_greatest.2.1 83 = .ok (.iload 4, 2) := by decide +kernel
theorem D_m_greatest_85 : decode M_m_greatest.2.1 85 = .ok (.iaload, 1) := by decide +kernel
theorem D_m_greatest_86 : decode M_m_greatest.2.1 86 = .ok (.iload_n 2, 1) := by decide +kernel
theorem D_m_greatest_87 : decode M_m_greatest.2.1 87 = .ok (.if_icmp .le 13, 3) := by decide +kernel
theorem D_m_greatest_90 : decode M_m_greatest.2.1 90 = .ok (.aload_n 0, 1) := by decide +kernel
theorem D_m_greatest_91 : decode M_m_greatest.2.1 91 = .ok (.getfield 63, 3) := by decide +kernel
theorem D_m_greatest_94 : decode M_m_greatest.2.1 94 = .ok (.iload 4, 2) := by decide +kernel
theorem D_m_greatest_96 : decode M_m_greatest.2.1 96 = .ok (.iaload, 1) := by decide +kernel
theorem D_m_greatest_97 : decode M_m_greatest.2.1 97 = .ok (.goto 4, 3) := by decide +kernel
theorem D_m_greatest_100 : decode M_m_greatest.2.1 100 = .ok (.iload_n 2, 1) := by decide +kernel
theorem D_m_greatest_101 : decode M_m_greatest.2.1 101 = .ok (.istore_n 2, 1) := by decide +kernel
theorem D_m_greatest_102 : decode M_m_greatest.2.1 102 = .ok (.iinc 3 1, 3) := by decide +kernel
theorem D_m_greatest_105 : decode M_m_greatest.2.1 105 = .ok (.goto (-79), 3) := by decide +kernel
theorem D_m_greatest_108 : decode M_m_greatest.2.1 108 = .ok (.iload_n 2, 1) := by decide +kernel
theorem D_m_greatest_109 : decode M_m_greatest.2.1 109 = .ok (.ireturn, 1) := by decide +kernel
theorem D_m_tryNext_0 : decode M_m_tryNext.2.1 0 = .ok (.aload_n 0, 1) := by decide +kernel
theorem D_m_tryNext_1 : decode M_m_tryNext.2.1 1 = .ok (.iconst 0, 1) := by decide +kernel
theorem D_m_tryNext_2 : decode M_m_tryNext.2.1 2 = .ok (.invokevirtual 224, 3) := by decide +kernel
theorem D_m_tryNext_5 : decode M_m_tryNext.2.1 5 = .ok (.ifCond .ne 6, 3) := by decide +kernel
theorem D_m_tryNext_8 : decode M_m_tryNext.2.1 8 = .ok (.bipush (-9), 2) := by decide +kernel
theorem D_m_tryNext_10 : decode M_m_tryNext.2.1 10 = .ok (.ireturn, 1) := by decide +kernel
theorem D_m_tryNext_11 : decode M_m_tryNext.2.1 11 = .ok (.bipush (-9), 2) := by decide +kernel
theorem D_m_tryNext_13 : decode M_m_tryNext.2.1 13 = .ok (.istore_n 1, 1) := by decide +kernel
theorem D_m_tryNext_14 : decode M_m_tryNext.2.1 14 = .ok (.iconst 0, 1) := by decide +kernel
theorem D_m_tryNext_15 : decode M_m_tryNext.2.1 15 = .ok (.istore_n 2, 1) := by decide +kernel
theorem D_m_tryNext_16 : decode M_m_tryNext.2.1 16 = .ok (.iconst 1, 1) := by decide +kernel
theorem D_m_tryNext_17 : decode M_m_tryNext.2.1 17 = .ok (.istore_n 3, 1) := by decide +kernel
theorem D_m_tryNext_18 : decode M_m_tryNext.2.1 18 = .ok (.iload_n 3, 1) := by decide +kernel
theorem D_m_tryNext_19 : decode M_m_tryNext.2.1 19 = .ok (.bipush 60, 2) := by decide +kernel
theorem D_m_tryNext_21 : decode M_m_tryNext.2.1 21 = .ok (.if_icmp .gt 56, 3) := by decide +kernel
theorem D_m_tryNext_24 : decode M_m_tryNext.2.1 24 = .ok (.aload_n 0, 1) := by decide +kernel
theorem D_m_tryNext_25 : decode M_m_tryNext.2.1 25 = .ok (.iload_n 3, 1) := by decide +kernel
theorem D_m_tryNext_26 : decode M_m_tryNext.2.1 26 = .ok (.invokevirtual 227, 3) := by decide +kernel
theorem D_m_tryNext_29 : decode M_m_tryNext.2.1 29 = .ok (.istore 4, 2) := by decide +kernel
theorem D_m_tryNext_31 : decode M_m_tryNext.2.1 31 = .ok (.iload_n 1, 1) := by decide +kernel
theorem D_m_tryNext_32 : decode M_m_tryNext.2.1 32 = .ok (.ifCond .lt 9, 3) := by decide +kernel
theorem D_m_tryNext_35 : decode M_m_tryNext.2.1 35 = .ok (.iload 4, 2) := by decide +kernel
theorem D_m_tryNext_37 : decode M_m_tryNext.2.1 37 = .ok (.iload_n 2, 1) := by decide +kernel
theorem D_m_tryNext_38 : decode M_m_tryNext.2.1 38 = .ok (.if_icmp .ge 7, 3) := by decide +kernel
theorem D_m_tryNext_41 : decode M_m_tryNext.2.1 41 = .ok (.iconst 1, 1) := by decide +kernel
theorem D_m_tryNext_42 : decode M_m_tryNext.2.1 42 = .ok (.goto 4, 3) := by decide +kernel
theorem D_m_tryNext_45 : decode M_m_tryNext.2.1 45 = .ok (.iconst 0, 1) := by decide +kernel
theorem D_m_tryNext_46 : decode M_m_tryNext.2.1 46 = .ok (.istore 5, 2) := by decide +kernel
theorem D_m_tryNext_48 : decode M_m_tryNext.2.1 48 = .ok (.iload 5, 2) := by decide +kernel
theorem D_m_tryNext_50 : decode M_m_tryNext.2.1 50 = .ok (.ifCond .eq 7, 3) := by decide +kernel
theorem D_m_tryNext_53 : decode M_m_tryNext.2.1 53 = .ok (.iload_n 3, 1) := by decide +kernel
theorem D_m_tryNext_54 : decode M_m_tryNext.2.1 54 = .ok (.goto 4, 3) := by decide +kernel
theorem D_m_tryNext_57 : decode M_m_tryNext.2.1 57 = .ok (.iload_n 1, 1) := by decide +kernel
theorem D_m_tryNext_58 : decode M_m_tryNext.2.1 58 = .ok (.istore_n 1, 1) := by decide +kernel
theorem D_m_tryNext_59 : decode M_m_tryNext.2.1 59 = .ok (.iload 5, 2) := by decide +kernel
theorem D_m_tryNext_61 : decode M_m_tryNext.2.1 61 = .ok (.ifCond .eq 8, 3) := by decide +kernel
theorem D_m_tryNext_64 : decode M_m_tryNext.2.1 64 = .ok (.iload 4, 2) := by decide +kernel
theorem D_m_tryNext_66 : decode M_m_tryNext.2.1 66 = .ok (.goto 4, 3) := by decide +kernel
theorem D_m_tryNext_69 : decode M_m_tryNext.2.1 69 = .ok (.iload_n 2, 1) := by decide +kernel
theorem D_m_tryNext_70 : decode M_m_tryNext.2.1 70 = .ok (.istore_n 2, 1) := by decide +kernel
theorem D_m_tryNext_71 : decode M_m_tryNext.2.1 71 = .ok (.iinc 3 1, 3) := by decide +kernel
theorem D_m_tryNext_74 : decode M_m_tryNext.2.1 74 = .ok (.goto (-56), 3) := by decide +kernel
theorem D_m_tryNext_77 : decode M_m_tryNext.2.1 77 = .ok (.iload_n 1, 1) := by decide +kernel
theorem D_m_tryNext_78 : decode M_m_tryNext.2.1 78 = .ok (.ireturn, 1) := by decide +kernel
theorem D_m_forget_0 : decode M_m_forget.2.1 0 = .ok (.aload_n 0, 1) := by decide +kernel
theorem D_m_forget_1 : decode M_m_forget.2.1 1 = .ok (.getfield 140, 3) := by decide +kernel
theorem D_m_forget_4 : decode M_m_forget.2.1 4 = .ok (.aload_n 0, 1) := by decide +kernel
theorem D_m_forget_5 : decode M_m_forget.2.1 5 = .ok (.getfield 143, 3) := by decide +kernel
theorem D_m_forget_8 : decode M_m_forget.2.1 8 = .ok (.iadd, 1) := by decide +kernel
theorem D_m_forget_9 : decode M_m_forget.2.1 9 = .ok (.istore_n 1, 1) := by decide +kernel
theorem D_m_forget_10 : decode M_m_forget.2.1 10 = .ok (.aload_n 0, 1) := by decide +kernel
theorem D_m_forget_11 : decode M_m_forget.2.1 11 = .ok (.iconst 0, 1) := by decide +kernel
theorem D_m_forget_12 : decode M_m_forget.2.1 12 = .ok (.putfield 140, 3) := by decide +kernel
theorem D_m_forget_15 : decode M_m_forget.2.1 15 = .ok (.aload_n 0, 1) := by decide +kernel
theorem D_m_forget_16 : decode M_m_forget.2.1 16 = .ok (.iconst 0, 1) := by decide +kernel
theorem D_m_forget_17 : decode M_m_forget.2.1 17 = .ok (.putfield 143, 3) := by decide +kernel
theorem D_m_forget_20 : decode M_m_forget.2.1 20 = .ok (.iload_n 1, 1) := by decide +kernel
theorem D_m_forget_21 : decode M_m_forget.2.1 21 = .ok (.ireturn, 1) := by decide +kernel
theorem D_m_mark_0 : decode M_m_mark.2.1 0 = .ok (.iload_n 1, 1) := by decide +kernel
theorem D_m_mark_1 : decode M_m_mark.2.1 1 = .ok (.iconst 0, 1) := by decide +kernel
theorem D_m_mark_2 : decode M_m_mark.2.1 2 = .ok (.iconst 5, 1) := by decide +kernel
theorem D_m_mark_3 : decode M_m_mark.2.1 3 = .ok (.invokestatic 69, 3) := by decide +kernel
theorem D_m_mark_6 : decode M_m_mark.2.1 6 = .ok (.ifCond .eq 11, 3) := by decide +kernel
theorem D_m_mark_9 : decode M_m_mark.2.1 9 = .ok (.aload_n 0, 1) := by decide +kernel
theorem D_m_mark_10 : decode M_m_mark.2.1 10 = .ok (.iload_n 2, 1) := by decide +kernel
theorem D_m_mark_11 : decode M_m_mark.2.1 11 = .ok (.invokevirtual 152, 3) := by decide +kernel
theorem D_m_mark_14 : decode M_m_mark.2.1 14 = .ok (.ifCond .ne 6, 3) := by decide +kernel
theorem D_m_mark_17 : decode M_m_mark.2.1 17 = .ok (.ldc 230, 2) := by decide +kernel
theorem D_m_mark_19 : decode M_m_mark.2.1 19 = .ok (.ireturn, 1) := by decide +kernel
theorem D_m_mark_20 : decode M_m_mark.2.1 20 = .ok (.aload_n 0, 1) := by decide +kernel
theorem D_m_mark_21 : decode M_m_mark.2.1 21 = .ok (.iload_n 2, 1) := by decide +kernel
theorem D_m_mark_22 : decode M_m_mark.2.1 22 = .ok (.invokevirtual 155, 3) := by decide +kernel
theorem D_m_mark_25 : decode M_m_mark.2.1 25 = .ok (.istore_n 3, 1) := by decide +kernel
theorem D_m_mark_26 : decode M_m_mark.2.1 26 = .ok (.iload_n 3, 1) := by decide +kernel
theorem D_m_mark_27 : decode M_m_mark.2.1 27 = .ok (.aload_n 0, 1) := by decide +kernel
theorem D_m_mark_28 : decode M_m_mark.2.1 28 = .ok (.getfield 23, 3) := by decide +kernel
theorem D_m_mark_31 : decode M_m_mark.2.1 31 = .ok (.bipush 10, 2) := by decide +kernel
theorem D_m_mark_33 : decode M_m_mark.2.1 33 = .ok (.iload_n 2, 1) := by decide +kernel
theorem D_m_mark_34 : decode M_m_mark.2.1 34 = .ok (.iadd, 1) := by decide +kernel
theorem D_m_mark_35 : decode M_m_mark.2.1 35 = .ok (.iaload, 1) := by decide +kernel
theorem D_m_mark_36 : decode M_m_mark.2.1 36 = .ok (.iadd, 1) := by decide +kernel
theorem D_m_mark_37 : decode M_m_mark.2.1 37 = .ok (.istore 4, 2) := by decide +kernel
theorem D_m_mark_39 : decode M_m_mark.2.1 39 = .ok (.iload_n 3, 1) := by decide +kernel
theorem D_m_mark_40 : decode M_m_mark.2.1 40 = .ok (.aload_n 0, 1) := by decide +kernel
theorem D_m_mark_41 : decode M_m_mark.2.1 41 = .ok (.getfield 23, 3) := by decide +kernel
theorem D_m_mark_44 : decode M_m_mark.2.1 44 = .ok (.iconst 4, 1) := by decide +kernel
theorem D_m_mark_45 : decode M_m_mark.2.1 45 = .ok (.iload_n 2, 1) := by decide +kernel
theorem D_m_mark_46 : decode M_m_mark.2.1 46 = .ok (.iadd, 1) := by decide +kernel
theorem D_m_mark_47 : decode M_m_mark.2.1 47 = .ok (.iaload, 1) := by decide +kernel
theorem D_m_mark_48 : decode M_m_mark.2.1 48 = .ok (.isub, 1) := by decide +kernel
theorem D_m_mark_49 : decode M_m_mark.2.1 49 = .ok (.istore 5, 2) := by decide +kernel
theorem D_m_mark_51 : decode M_m_mark.2.1 51 = .ok (.iload_n 1, 1) := by decide +kernel
theorem D_m_mark_52 : decode M_m_mark.2.1 52 = .ok (.tableswitch 121 1 5 #[36, 51, 66, 83, 100], 36) := by decide +kernel
theorem D_m_mark_88 : decode M_m_mark.2.1 88 = .ok (.aload_n 0, 1) := by decide +kernel
theorem D_m_mark_89 : decode M_m_mark.2.1 89 = .ok (.dup, 1) := by decide +kernel
theorem D_m_mark_90 : decode M_m_mark.2.1 90 = .ok (.getfield 231, 3) := by decide +kernel
theorem D_m_mark_93 : decode M_m_mark.2.1 93 = .ok (.ldc2_w 235, 3) := by decide +kernel
theorem D_m_mark_96 : decode M_m_mark.2.1 96 = .ok (.ladd, 1) := by decide +kernel
theorem D_m_mark_97 : decode M_m_mark.2.1 97 = .ok (.putfield 231, 3) := by decide +kernel
theorem D_m_mark_100 : decode M_m_mark.2.1 100 = .ok (.iload 4, 2) := by decide +kernel
theorem D_m_mark_102 : decode M_m_mark.2.1 102 = .ok (.ireturn, 1) := by decide +kernel
theorem D_m_mark_103 : decode M_m_mark.2.1 103 = .ok (.aload_n 0, 1) := by decide +kernel
theorem D_m_mark_104 : decode M_m_mark.2.1 104 = .ok (.dup, 1) := by decide +kernel
theorem D_m_mark_105 : decode M_m_mark.2.1 105 = .ok (.getfield 231, 3) := by decide +kernel
theorem D_m_mark_108 : decode M_m_mark.2.1 108 = .ok (.ldc2_w 237, 3) := by decide +kernel
theorem D_m_mark_111 : decode M_m_mark.2.1 111 = .ok (.ladd, 1) := by decide +kernel
theorem D_m_mark_112 : decode M_m_mark.2.1 112 = .ok (.putfield 231, 3) := by decide +kernel
theorem D_m_mark_115 : decode M_m_mark.2.1 115 = .ok (.iload 5, 2) := by decide +kernel
theorem D_m_mark_117 : decode M_m_mark.2.1 117 = .ok (.ireturn, 1) := by decide +kernel
theorem D_m_mark_118 : decode M_m_mark.2.1 118 = .ok (.aload_n 0, 1) := by decide +kernel
theorem D_m_mark_119 : decode M_m_mark.2.1 119 = .ok (.dup, 1) := by decide +kernel
theorem D_m_mark_120 : decode M_m_mark.2.1 120 = .ok (.getfield 231, 3) := by decide +kernel
theorem D_m_mark_123 : decode M_m_mark.2.1 123 = .ok (.ldc2_w 239, 3) := by decide +kernel
theorem D_m_mark_126 : decode M_m_mark.2.1 126 = .ok (.ladd, 1) := by decide +kernel
theorem D_m_mark_127 : decode M_m_mark.2.1 127 = .ok (.putfield 231, 3) := by decide +kernel
theorem D_m_mark_130 : decode M_m_mark.2.1 130 = .ok (.iconst 2, 1) := by decide +kernel
theorem D_m_mark_131 : decode M_m_mark.2.1 131 = .ok (.iload 4, 2) := by decide +kernel
theorem D_m_mark_133 : decode M_m_mark.2.1 133 = .ok (.imul, 1) := by decide +kernel
theorem D_m_mark_134 : decode M_m_mark.2.1 134 = .ok (.ireturn, 1) := by decide +kernel
theorem D_m_mark_135 : decode M_m_mark.2.1 135 = .ok (.aload_n 0, 1) := by decide +kernel
theorem D_m_mark_136 : decode M_m_mark.2.1 136 = .ok (.dup, 1) := by decide +kernel
theorem D_m_mark_137 : decode M_m_mark.2.1 137 = .ok (.getfield 231, 3) := by decide +kernel
theorem D_m_mark_140 : decode M_m_mark.2.1 140 = .ok (.ldc2_w 241, 3) := by decide +kernel
theorem D_m_mark_143 : decode M_m_mark.2.1 143 = .ok (.ladd, 1) := by decide +kernel
theorem D_m_mark_144 : decode M_m_mark.2.1 144 = .ok (.putfield 231, 3) := by decide +kernel
theorem D_m_mark_147 : decode M_m_mark.2.1 147 = .ok (.iload 5, 2) := by decide +kernel
theorem D_m_mark_149 : decode M_m_mark.2.1 149 = .ok (.iload_n 2, 1) := by decide +kernel
theorem D_m_mark_150 : decode M_m_mark.2.1 150 = .ok (.iadd, 1) := by decide +kernel
theorem D_m_mark_151 : decode M_m_mark.2.1 151 = .ok (.ireturn, 1) := by decide +kernel
theorem D_m_mark_152 : decode M_m_mark.2.1 152 = .ok (.aload_n 0, 1) := by decide +kernel
theorem D_m_mark_153 : decode M_m_mark.2.1 153 = .ok (.dup, 1) := by decide +kernel
theorem D_m_mark_154 : decode M_m_mark.2.1 154 = .ok (.getfield 231, 3) := by decide +kernel
theorem D_m_mark_157 : decode M_m_mark.2.1 157 = .ok (.ldc2_w 243, 3) := by decide +kernel
theorem D_m_mark_160 : decode M_m_mark.2.1 160 = .ok (.ladd, 1) := by decide +kernel
theorem D_m_mark_161 : decode M_m_mark.2.1 161 = .ok (.putfield 231, 3) := by decide +kernel
theorem D_m_mark_164 : decode M_m_mark.2.1 164 = .ok (.iload_n 3, 1) := by decide +kernel
theorem D_m_mark_165 : decode M_m_mark.2.1 165 = .ok (.aload_n 0, 1) := by decide +kernel
theorem D_m_mark_166 : decode M_m_mark.2.1 166 = .ok (.getfield 23, 3) := by decide +kernel
theorem D_m_mark_169 : decode M_m_mark.2.1 169 = .ok (.iconst 3, 1) := by decide +kernel
theorem D_m_mark_170 : decode M_m_mark.2.1 170 = .ok (.iaload, 1) := by decide +kernel
theorem D_m_mark_171 : decode M_m_mark.2.1 171 = .ok (.iadd, 1) := by decide +kernel
theorem D_m_mark_172 : decode M_m_mark.2.1 172 = .ok (.ireturn, 1) := by decide +kernel
theorem D_m_mark_173 : decode M_m_mark.2.1 173 = .ok (.aload_n 0, 1) := by decide +kernel
theorem D_m_mark_174 : decode M_m_mark.2.1 174 = .ok (.dup, 1) := by decide +kernel
theorem D_m_mark_175 : decode M_m_mark.2.1 175 = .ok (.getfield 231, 3) := by decide +kernel
theorem D_m_mark_178 : decode M_m_mark.2.1 178 = .ok (.lconst 1, 1) := by decide +kernel
theorem D_m_mark_179 : decode M_m_mark.2.1 179 = .ok (.ladd, 1) := by decide +kernel
theorem D_m_mark_180 : decode M_m_mark.2.1 180 = .ok (.putfield 231, 3) := by decide +kernel
theorem D_m_mark_183 : decode M_m_mark.2.1 183 = .ok (.iload_n 3, 1) := by decide +kernel
theorem D_m_mark_184 : decode M_m_mark.2.1 184 = .ok (.ireturn, 1) := by decide +kernel
theorem D_m_keep_0 : decode M_m_keep.2.1 0 = .ok (.iload_n 1, 1) := by decide +kernel
theorem D_m_keep_1 : decode M_m_keep.2.1 1 = .ok (.iconst 0, 1) := by decide +kernel
theorem D_m_keep_2 : decode M_m_keep.2.1 2 = .ok (.iconst 1, 1) := by decide +kernel
theorem D_m_keep_3 : decode M_m_keep.2.1 3 = .ok (.invokestatic 69, 3) := by decide +kernel
theorem D_m_keep_6 : decode M_m_keep.2.1 6 = .ok (.ifCond .ne 5, 3) := by decide +kernel
theorem D_m_keep_9 : decode M_m_keep.2.1 9 = .ok (.iconst (-1), 1) := by decide +kernel
theorem D_m_keep_10 : decode M_m_keep.2.1 10 = .ok (.ireturn, 1) := by decide +kernel
theorem D_m_keep_11 : decode M_m_keep.2.1 11 = .ok (.iconst 0, 1) := by decide +kernel
theorem D_m_keep_12 : decode M_m_keep.2.1 12 = .ok (.istore_n 2, 1) := by decide +kernel
theorem D_m_keep_13 : decode M_m_keep.2.1 13 = .ok (.iload_n 2, 1) := by decide +kernel
theorem D_m_keep_14 : decode M_m_keep.2.1 14 = .ok (.sipush 573, 3) := by decide +kernel
theorem D_m_keep_17 : decode M_m_keep.2.1 17 = .ok (.if_icmp .ge 27, 3) := by decide +kernel
theorem D_m_keep_20 : decode M_m_keep.2.1 20 = .ok (.aload_n 0, 1) := by decide +kernel
theorem D_m_keep_21 : decode M_m_keep.2.1 21 = .ok (.getfield 26, 3) := by decide +kernel
theorem D_m_keep_24 : decode M_m_keep.2.1 24 = .ok (.sipush 573, 3) := by decide +kernel
theorem D_m_keep_27 : decode M_m_keep.2.1 27 = .ok (.iload_n 1, 1) := by decide +kernel
theorem D_m_keep_28 : decode M_m_keep.2.1 28 = .ok (.imul, 1) := by decide +kernel
theorem D_m_keep_29 : decode M_m_keep.2.1 29 = .ok (.iload_n 2, 1) := by decide +kernel
theorem D_m_keep_30 : decode M_m_keep.2.1 30 = .ok (.iadd, 1) := by decide +kernel
theorem D_m_keep_31 : decode M_m_keep.2.1 31 = .ok (.aload_n 0, 1) := by decide +kernel
theorem D_m_keep_32 : decode M_m_keep.2.1 32 = .ok (.getfield 23, 3) := by decide +kernel
theorem D_m_keep_35 : decode M_m_keep.2.1 35 = .ok (.iload_n 2, 1) := by decide +kernel
theorem D_m_keep_36 : decode M_m_keep.2.1 36 = .ok (.iaload, 1) := by decide +kernel
theorem D_m_keep_37 : decode M_m_keep.2.1 37 = .ok (.iastore, 1) := by decide +kernel
theorem D_m_keep_38 : decode M_m_keep.2.1 38 = .ok (.iinc 2 1, 3) := by decide +kernel
theorem D_m_keep_41 : decode M_m_keep.2.1 41 = .ok (.goto (-28), 3) := by decide +kernel
theorem D_m_keep_44 : decode M_m_keep.2.1 44 = .ok (.aload_n 0, 1) := by decide +kernel
theorem D_m_keep_45 : decode M_m_keep.2.1 45 = .ok (.getfield 29, 3) := by decide +kernel
theorem D_m_keep_48 : decode M_m_keep.2.1 48 = .ok (.iload_n 1, 1) := by decide +kernel
theorem D_m_keep_49 : decode M_m_keep.2.1 49 = .ok (.iconst 1, 1) := by decide +kernel
theorem D_m_keep_50 : decode M_m_keep.2.1 50 = .ok (.bastore, 1) := by decide +kernel
theorem D_m_keep_51 : decode M_m_keep.2.1 51 = .ok (.aload_n 0, 1) := by decide +kernel
theorem D_m_keep_52 : decode M_m_keep.2.1 52 = .ok (.getfield 23, 3) := by decide +kernel
theorem D_m_keep_55 : decode M_m_keep.2.1 55 = .ok (.iconst 3, 1) := by decide +kernel
theorem D_m_keep_56 : decode M_m_keep.2.1 56 = .ok (.iaload, 1) := by decide +kernel
theorem D_m_keep_57 : decode M_m_keep.2.1 57 = .ok (.ireturn, 1) := by decide +kernel
theorem D_m_back_0 : decode M_m_back.2.1 0 = .ok (.iload_n 1, 1) := by decide +kernel
theorem D_m_back_1 : decode M_m_back.2.1 1 = .ok (.iconst 0, 1) := by decide +kernel
theorem D_m_back_2 : decode M_m_back.2.1 2 = .ok (.iconst 1, 1) := by decide +kernel
theorem D_m_back_3 : decode M_m_back.2.1 3 = .ok (.invokestatic 69, 3) := by decide +kernel
theorem D_m_back_6 : decode M_m_back.2.1 6 = .ok (.ifCond .ne 5, 3) := by decide +kernel
theorem D_m_back_9 : decode M_m_back.2.1 9 = .ok (.iconst (-1), 1) := by decide +kernel
theorem D_m_back_10 : decode M_m_back.2.1 10 = .ok (.ireturn, 1) := by decide +kernel
theorem D_m_back_11 : decode M_m_back.2.1 11 = .ok (.aload_n 0, 1) := by decide +kernel
theorem D_m_back_12 : decode M_m_back.2.1 12 = .ok (.getfield 29, 3) := by decide +kernel
theorem D_m_back_15 : decode M_m_back.2.1 15 = .ok (.iload_n 1, 1) := by decide +kernel
theorem D_m_back_16 : decode M_m_back.2.1 16 = .ok (.baload, 1) := by decide +kernel
theorem D_m_back_17 : decode M_m_back.2.1 17 = .ok (.ifCond .ne 6, 3) := by decide +kernel
theorem D_m_back_20 : decode M_m_back.2.1 20 = .ok (.bipush (-2), 2) := by decide +kernel
theorem D_m_back_22 : decode M_m_back.2.1 22 = .ok (.ireturn, 1) := by decide +kernel
theorem D_m_back_23 : decode M_m_back.2.1 23 = .ok (.iconst 0, 1) := by decide +kernel
theorem D_m_back_24 : decode M_m_back.2.1 24 = .ok (.istore_n 2, 1) := by decide +kernel
theorem D_m_back_25 : decode M_m_back.2.1 25 = .ok (.iload_n 2, 1) := by decide +kernel
theorem D_m_back_26 : decode M_m_back.2.1 26 = .ok (.sipush 573, 3) := by decide +kernel
theorem D_m_back_29 : decode M_m_back.2.1 29 = .ok (.if_icmp .ge 27, 3) := by decide +kernel
theorem D_m_back_32 : decode M_m_back.2.1 32 = .ok (.aload_n 0, 1) := by decide +kernel
theorem D_m_back_33 : decode M_m_back.2.1 33 = .ok (.getfield 23, 3) := by decide +kernel
theorem D_m_back_36 : decode M_m_back.2.1 36 = .ok (.iload_n 2, 1) := by decide +kernel
theorem D_m_back_37 : decode M_m_back.2.1 37 = .ok (.aload_n 0, 1) := by decide +kernel
theorem D_m_back_38 : decode M_m_back.2.1 38 = .ok (.getfield 26, 3) := by decide +kernel
theorem D_m_back_41 : decode M_m_back.2.1 41 = .ok (.sipush 573, 3) := by decide +kernel
theorem D_m_back_44 : decode M_m_back.2.1 44 = .ok (.iload_n 1, 1) := by decide +kernel
theorem D_m_back_45 : decode M_m_back.2.1 45 = .ok (.imul, 1) := by decide +kernel
theorem D_m_back_46 : decode M_m_back.2.1 46 = .ok (.iload_n 2, 1) := by decide +kernel
theorem D_m_back_47 : decode M_m_back.2.1 47 = .ok (.iadd, 1) := by decide +kernel
theorem D_m_back_48 : decode M_m_back.2.1 48 = .ok (.iaload, 1) := by decide +kernel
theorem D_m_back_49 : decode M_m_back.2.1 49 = .ok (.iastore, 1) := by decide +kernel
theorem D_m_back_50 : decode M_m_back.2.1 50 = .ok (.iinc 2 1, 3) := by decide +kernel
theorem D_m_back_53 : decode M_m_back.2.1 53 = .ok (.goto (-28), 3) := by decide +kernel
theorem D_m_back_56 : decode M_m_back.2.1 56 = .ok (.aload_n 0, 1) := by decide +kernel
theorem D_m_back_57 : decode M_m_back.2.1 57 = .ok (.getfield 23, 3) := by decide +kernel
theorem D_m_back_60 : decode M_m_back.2.1 60 = .ok (.iconst 3, 1) := by decide +kernel
theorem D_m_back_61 : decode M_m_back.2.1 61 = .ok (.iaload, 1) := by decide +kernel
theorem D_m_back_62 : decode M_m_back.2.1 62 = .ok (.ireturn, 1) := by decide +kernel
theorem D_m_count_0 : decode M_m_count.2.1 0 = .ok (.iload_n 1, 1) := by decide +kernel
theorem D_m_count_1 : decode M_m_count.2.1 1 = .ok (.tableswitch 90 0 7 #[47, 52, 57, 62, 67, 72, 77, 85], 47) := by decide +kernel
theorem D_m_count_48 : decode M_m_count.2.1 48 = .ok (.aload_n 0, 1) := by decide +kernel
theorem D_m_count_49 : decode M_m_count.2.1 49 = .ok (.getfield 73, 3) := by decide +kernel
theorem D_m_count_52 : decode M_m_count.2.1 52 = .ok (.ireturn, 1) := by decide +kernel
theorem D_m_count_53 : decode M_m_count.2.1 53 = .ok (.aload_n 0, 1) := by decide +kernel
theorem D_m_count_54 : decode M_m_count.2.1 54 = .ok (.getfield 13, 3) := by decide +kernel
theorem D_m_count_57 : decode M_m_count.2.1 57 = .ok (.ireturn, 1) := by decide +kernel
theorem D_m_count_58 : decode M_m_count.2.1 58 = .ok (.aload_n 0, 1) := by decide +kernel
theorem D_m_count_59 : decode M_m_count.2.1 59 = .ok (.getfield 17, 3) := by decide +kernel
theorem D_m_count_62 : decode M_m_count.2.1 62 = .ok (.ireturn, 1) := by decide +kernel
theorem D_m_count_63 : decode M_m_count.2.1 63 = .ok (.aload_n 0, 1) := by decide +kernel
theorem D_m_count_64 : decode M_m_count.2.1 64 = .ok (.getfield 66, 3) := by decide +kernel
theorem D_m_count_67 : decode M_m_count.2.1 67 = .ok (.ireturn, 1) := by decide +kernel
theorem D_m_count_68 : decode M_m_count.2.1 68 = .ok (.aload_n 0, 1) := by decide +kernel
theorem D_m_count_69 : decode M_m_count.2.1 69 = .ok (.getfield 140, 3) := by decide +kernel
theorem D_m_count_72 : decode M_m_count.2.1 72 = .ok (.ireturn, 1) := by decide +kernel
theorem D_m_count_73 : decode M_m_count.2.1 73 = .ok (.aload_n 0, 1) := by decide +kernel
theorem D_m_count_74 : decode M_m_count.2.1 74 = .ok (.getfield 143, 3) := by decide +kernel
theorem D_m_count_77 : decode M_m_count.2.1 77 = .ok (.ireturn, 1) := by decide +kernel
theorem D_m_count_78 : decode M_m_count.2.1 78 = .ok (.aload_n 0, 1) := by decide +kernel
theorem D_m_count_79 : decode M_m_count.2.1 79 = .ok (.getfield 23, 3) := by decide +kernel
theorem D_m_count_82 : decode M_m_count.2.1 82 = .ok (.bipush 52, 2) := by decide +kernel
theorem D_m_count_84 : decode M_m_count.2.1 84 = .ok (.iaload, 1) := by decide +kernel
theorem D_m_count_85 : decode M_m_count.2.1 85 = .ok (.ireturn, 1) := by decide +kernel
theorem D_m_count_86 : decode M_m_count.2.1 86 = .ok (.aload_n 0, 1) := by decide +kernel
theorem D_m_count_87 : decode M_m_count.2.1 87 = .ok (.getfield 76, 3) := by decide +kernel
theorem D_m_count_90 : decode M_m_count.2.1 90 = .ok (.ireturn, 1) := by decide +kernel
theorem D_m_count_91 : decode M_m_count.2.1 91 = .ok (.iconst (-1), 1) := by decide +kernel
theorem D_m_count_92 : decode M_m_count.2.1 92 = .ok (.ireturn, 1) := by decide +kernel
theorem D_m_trace_0 : decode M_m_trace.2.1 0 = .ok (.aload_n 0, 1) := by decide +kernel
theorem D_m_trace_1 : decode M_m_trace.2.1 1 = .ok (.getfield 231, 3) := by decide +kernel
theorem D_m_trace_4 : decode M_m_trace.2.1 4 = .ok (.lreturn, 1) := by decide +kernel
end
section
/-! the small machine: values, cells, the world as a function of two numbers -/
abbrev zV : Type := Int ⊕ (Int ⊕ (Nat ⊕ Unit))
def vI (x : Int) : zV := .inl x
def vL (x : Int) : zV := .inr (.inl x)
def vR (a : Nat) : zV := .inr (.inr (.inl a))
def vU : zV := .inr (.inr (.inr ()))
abbrev zH : Type := Nat → Nat → Int
def tv (r : Nat → Nat) (v : zV) : Value := match v with
  | .inl x => .int (Int32.ofInt x)
  | .inr (.inl x) => .long (Int64.ofInt x)
  | .inr (.inr (.inl a)) => .ref (r a)
  | .inr (.inr (.inr _)) => .null
def vuse (v : zV) : Bool := match v with
  | .inr (.inr (.inr _)) => false
  | _ => true
def vlong (v : zV) : Bool := match v with
  | .inr (.inl _) => true
  | _ => false
def vw (v : zV) : Nat := if vlong v then 2 else 1
theorem tv_cat (r : Nat → Nat) (v : zV) : (tv r v).category = vw v := by
  rcases v with x | x | x | x <;> rfl
theorem tv_cats (r : Nat → Nat) (st : List zV) : ((st.map (tv r)).map fun v => v.category).sum = (st.map vw).sum := by
  induction st with
  | nil => rfl
  | cons v l ih => simp only [List.map_cons, List.sum_cons, tv_cat]; rw [ih]
/-- a field's value by its type -/
def fv (r : Nat → Nat) (ty : FieldType) (x : Int) : Value := match ty with
  | .int => .int (Int32.ofInt x)
  | .boolean => .int (Int32.ofInt x)
  | .long => .long (Int64.ofInt x)
  | _ => .ref (r x.toNat)
def zisR (t : FieldType) : Bool := match t with
  | .object _ => true
  | .array _ => true
  | _ => false
/-- a field whose reference stays -/
def zstat (c k : Nat) : Bool := zisR (zty c k) && !(c == 11 && (k == 1 || k == 2))
def zsv (h : zH) (c a k : Nat) : Int := if zstat c k then (zsr a k : Int) else h a k
def zcell (r : Nat → Nat) (ca : Nat → ClassId) (h : zH) (a : Nat) : va_E :=
  if (zks a).1 < 13 then .inr ((zks a).1, (List.range (zNN (zks a).1)).map (fun k => fv r (zty (zks a).1 k) (zsv h (zks a).1 a k)))
  else if (zks a).1 < 102 then .inl (ca ((zks a).1 - 100), (zks a).2, .inl (fun j => Int32.ofInt (h a j)))
  else .inl (ca ((zks a).1 - 100), (zks a).2, .inr (.inr (.inr (.inr (fun j => some (r (zsr a j)))))))
def wd (r : Nat → Nat) (ca : Nat → ClassId) (h : zH) : va_W := (List.range 56).map (fun a => (r a, zcell r ca h a))
theorem wd_at {r : Nat → Nat} {ca : Nat → ClassId} {h : zH} {a : Nat} (ha : a < 56) : (wd r ca h)[a]? = some (r a, zcell r ca h a) := by
  simp [wd, ha]
theorem wd_len {r : Nat → Nat} {ca : Nat → ClassId} {h : zH} : (wd r ca h).length = 56 := by simp [wd]
theorem zks_lt {a k : Nat} (h : (zks a).1 = k) (hk : k ≠ 99) : a < 56 := by
  by_cases ha : a < 56
  · exact ha
  · exfalso
    apply hk
    rw [← h]
    unfold zks
    rw [List.getD_eq_getElem?_getD, List.getElem?_eq_none (Nat.le_of_not_lt ha)]
    rfl
def zup (h : zH) (a k : Nat) (x : Int) : zH := fun b j => if b = a ∧ j = k then x else h b j
theorem zup_same {h : zH} {a k : Nat} {x : Int} : zup h a k x a k = x := by simp [zup]
theorem zup_other {h : zH} {a k b j : Nat} {x : Int} (hn : ¬ (b = a ∧ j = k)) : zup h a k x b j = h b j := by simp [zup, hn]
theorem zcell_other {r : Nat → Nat} {ca : Nat → ClassId} {h h' : zH} {b : Nat} (he : ∀ j, h' b j = h b j) : zcell r ca h' b = zcell r ca h b := by
  have : h' b = h b := funext he
  simp only [zcell, zsv, this]
theorem wd_set {r : Nat → Nat} {ca : Nat → ClassId} {h h' : zH} {a : Nat} (ho : ∀ b, b ≠ a → ∀ j, h' b j = h b j) : wd r ca h' = (wd r ca h).set a (r a, zcell r ca h' a) := by
  apply List.ext_getElem?
  intro b
  by_cases hb : b < 56
  · rw [wd_at hb]
    by_cases hba : b = a
    · subst hba
      rw [List.getElem?_set_self (by rw [wd_len]; exact hb)]
    · rw [List.getElem?_set_ne (Ne.symm hba), wd_at hb, zcell_other (ho b hba)]
  · rw [List.getElem?_eq_none (by rw [wd_len]; omega), List.getElem?_eq_none (by rw [List.length_set, wd_len]; omega)]
theorem zcell_obj {r : Nat → Nat} {ca : Nat → ClassId} {h : zH} {a c : Nat} (hc : (zks a).1 = c) (hl : c < 13) : zcell r ca h a = .inr (c, (List.range (zNN c)).map (fun k => fv r (zty c k) (zsv h c a k))) := by
  subst hc
  simp only [zcell, hl, if_true]
theorem zcell_int {r : Nat → Nat} {ca : Nat → ClassId} {h : zH} {a n : Nat} (hc : zks a = (100, n)) : zcell r ca h a = .inl (ca 0, n, .inl (fun j => Int32.ofInt (h a j))) := by
  simp [zcell, hc]
theorem zcell_bool {r : Nat → Nat} {ca : Nat → ClassId} {h : zH} {a n : Nat} (hc : zks a = (101, n)) : zcell r ca h a = .inl (ca 1, n, .inl (fun j => Int32.ofInt (h a j))) := by
  simp [zcell, hc]
theorem zcell_refs {r : Nat → Nat} {ca : Nat → ClassId} {h : zH} {a k n : Nat} (hc : zks a = (k, n)) (hk : 102 ≤ k) : zcell r ca h a = .inl (ca (k - 100), n, .inr (.inr (.inr (.inr (fun j => some (r (zsr a j))))))) := by
  have h1 : ¬ k < 13 := by omega
  have h2 : ¬ k < 102 := by omega
  simp [zcell, hc, h1, h2]
/-- the cells' addresses are apart -/
def zD (r : Nat → Nat) : Prop := ∀ i j, i < 56 → j < 56 → r i = r j → i = j
/-- the cells of the world -/
def zA (r : Nat → Nat) : Nat → Prop := fun q => ∃ i, i < 56 ∧ q = r i
theorem zD.va {r : Nat → Nat} (h : zD r) (ca : Nat → ClassId) (hh : zH) : va_D (zA r) (wd r ca hh) := by
  have key : ∀ (k : Nat) (q : Nat × va_E), (wd r ca hh)[k]? = some q → k < 56 ∧ q.1 = r k := by
    intro k q hk
    by_cases hl : k < 56
    · rw [wd_at hl] at hk
      cases hk
      exact ⟨hl, rfl⟩
    · rw [List.getElem?_eq_none (by rw [wd_len]; omega)] at hk
      cases hk
  refine ⟨fun i j p q hi hj hpq => ?_, fun k q hk => ?_⟩
  · obtain ⟨a1, a2⟩ := key i p hi
    obtain ⟨b1, b2⟩ := key j q hj
    exact h i j a1 b1 (by rw [← a2, ← b2]; exact hpq)
  · obtain ⟨a1, a2⟩ := key k q hk
    exact ⟨k, a1, a2⟩
def ztys (ca : Nat → ClassId) : List (ClassId × FieldType) := [(ca 0, .int), (ca 1, .boolean), (ca 2, .object "RoseWheel$Days"), (ca 3, .object "RoseWheel$One")]
/-- words that a callee may take over -/
def zt : List Cond := lw_tbl.filter goodWord
theorem zt_tbl {w : Cond} (h : w ∈ zt) : w ∈ lw_tbl := (List.mem_filter.mp h).1
theorem zt_of {w : Cond} (h : w ∈ lw_tbl) (hg : goodWord w = true) : w ∈ zt := List.mem_filter.mpr ⟨h, hg⟩
theorem zt_t1 {w : Cond} (i : Nat) (h : tables_1[i]? = some w) (hg : goodWord w = true) : w ∈ zt := zt_of (List.mem_append_right _ (List.mem_of_getElem? h)) hg
theorem zt_sel {w : Cond} (i : Nat) (h : (k2_sels lw_privs)[i]? = some w) (hg : goodWord w = true) : w ∈ zt := zt_of (List.mem_append_left _ (List.mem_of_getElem? h)) hg
theorem zt_good : ∀ w ∈ zt, goodWord w = true := fun w h => (List.mem_filter.mp h).2
theorem zcl_zt {c : Nat} (hc : c < 13) : ∀ w ∈ u_ws (zRR c) (zTT c) (zNN c), w ∈ zt := by
  intro w hw
  refine zt_of (zcl_in c hc w hw) ?_
  obtain ⟨k, -, rfl⟩ := List.mem_map.mp hw
  unfold u_lay
  split <;> rfl
abbrev zM.rm (M : zM) : Room := { frames := M.2.2.2.2.1, cells := 0, slots := 0, locals := M.2.2.2.2.2 }
abbrev zM.code (M : zM) : Cond := .code M.1 M.2.1 M.2.2.1 M.2.2.2.1
def zws (M : zM) : List Cond := M.code :: zt
def zB (M : zM) (p : Program) (s : State) (m : MethodId) (args : Array Value) (meth : Method) (c : Code) (D : va_G) (r : Nat → Nat) (ca : Nat → ClassId) : Prop :=
  p.tables.exec = Jvm.exec ∧ c.code = M.2.1 ∧ c.maxLocals = M.2.2.1 ∧ s.vm.findClass M.1.cls = some m.cls ∧ (∀ w ∈ zt, w.before args s = true) ∧ meth.sig.returnType = M.2.2.2.1 ∧ meth.locks = false ∧ va_K D zcl (ztys ca) s ∧ zD r
def zP (D : va_G) (r : Nat → Nat) (ca : Nat → ClassId) (s : State) (h : zH) (H : Heap) (locs : List Loc) : Prop := va_P D zcl (wd r ca h) H ∧ va_S (zA r) s.heap H locs
def zl (r : Nat → Nat) (ls : Array Slot) (nL : Nat) (lv : List zV) : Prop := ls.size = nL ∧ lv_wf ls ∧ ∀ (i : Nat) (v : zV), lv[i]? = some v → vuse v = true → ls[i]? = some (.val (tv r v))
def zQ (D : va_G) (r : Nat → Nat) (ca : Nat → ClassId) (post : Option zV → zH → Prop) : Array Value → State → Outcome → State → Prop := fun _ st o t =>
  ∃ (v : Option zV) (h : zH), post v h ∧ o = .returned (v.map (tv r)) ∧ va_P D zcl (wd r ca h) t.heap ∧ va_F (zA r) st t
/-- from here the method comes to an end with post -/
def Z (M : zM) (post : Option zV → zH → Prop) (pc : Nat) (lv st : List zV) (h : zH) : Prop :=
  ∀ (p : Program) (l : Launch) (e : Env) (s : State) (m : MethodId) (args : Array Value) (below : List Frame) (meth : Method) (c : Code) (D : va_G) (r : Nat → Nat) (ca : Nat → ClassId), zB M p s m args meth c D r ca →
    ∀ (H : Heap) (locs : List Loc) (ls : Array Slot), zP D r ca s h H locs → zl r ls M.2.2.1 lv →
      W p l e M.rm s m args below meth c H locs 0 0 (MQ below (zQ D r ca post) args s 0 0 (zA r)) (F0 m pc ls (st.map (tv r)))
def zPc (D : va_G) (r : Nat → Nat) (ca : Nat → ClassId) (av : List zV) (h : zH) : Array Value → State → Prop := fun v U => v = (av.map (tv r)).toArray ∧ va_P D zcl (wd r ca h) U.heap ∧ va_K D zcl (ztys ca) U ∧ zD r
/-- a method's contract -/
def zC (M : zM) (av : List zV) (h : zH) (post : Option zV → zH → Prop) : Prop :=
  ∀ (l : Launch) (D : va_G) (r : Nat → Nat) (ca : Nat → ClassId), Met l M.1 (zws M) M.rm (zPc D r ca av h) (zQ D r ca post) 0 0 (zA r)
theorem zPc_blind {D : va_G} {r : Nat → Nat} {ca : Nat → ClassId} {av : List zV} {h : zH} : FrameBlind (zPc D r ca av h) := by
  intro a U g mk q
  obtain ⟨q0, q1, q2, q3⟩ := q
  exact ⟨q0, q1, va_K.moved (u := U) (U := U.calling g mk a) (Vm.Alike.refl U.vm) q2, q3⟩
/-- the locals with which a method begins -/
def zent : List zV → List zV
  | [] => []
  | v :: l => if vlong v then v :: vU :: zent l else v :: zent l
theorem zent_args (r : Nat → Nat) : ∀ (av : List zV) (b i : Nat) (v : zV), (zent av)[i]? = some v → vuse v = true → (b + i, tv r v) ∈ lv_args b (av.map (tv r))
  | [], b, i, v, h, _ => by simp [zent] at h
  | w :: l, b, i, v, h, hv => by
    have hc := tv_cat r w
    simp only [List.map_cons, lv_args, hc]
    by_cases hw : vlong w = true
    · simp only [zent, hw, if_true] at h
      simp only [vw, hw, if_true]
      match i, h with
      | 0, h =>
        simp only [List.getElem?_cons_zero, Option.some.injEq] at h
        subst h
        exact List.mem_cons_self
      | 1, h =>
        simp only [List.getElem?_cons_succ, List.getElem?_cons_zero, Option.some.injEq] at h
        subst h
        cases hv
      | j + 2, h =>
        simp only [List.getElem?_cons_succ] at h
        refine List.mem_cons_of_mem _ ?_
        have := zent_args r l (b + 2) j v h hv
        rwa [show b + (j + 2) = b + 2 + j by omega]
    · simp only [zent, hw] at h
      simp only [vw, hw]
      match i, h with
      | 0, h =>
        simp at h
        subst h
        exact List.mem_cons_self
      | j + 1, h =>
        simp only [Bool.false_eq_true, if_false, List.getElem?_cons_succ] at h
        refine List.mem_cons_of_mem _ ?_
        have := zent_args r l (b + 1) j v h hv
        rw [show b + (j + 1) = b + 1 + j by omega]
        simpa using this
theorem zent_len (r : Nat → Nat) : ∀ (av : List zV), (lg_sl (av.map (tv r))).length = (av.map vw).sum
  | [] => rfl
  | w :: l => by
    have hc := tv_cat r w
    have ih := zent_len r l
    simp only [List.map_cons, List.sum_cons]
    rw [← ih, ← hc]
    rcases w with x | x | x | x <;> simp [lg_sl, tv, Value.category] <;> omega
theorem zC.of {M : zM} {av : List zV} {h : zH} {post : Option zV → zH → Prop} (hp : plainName M.1.cls = true) (hn : (av.map vw).sum ≤ M.2.2.1) (k : Z M post 0 (zent av) [] h) : zC M av h post := by
  intro l D r ca
  refine Met.ofW (cc := M.2.1) (maxL := M.2.2.1) (ret := M.2.2.2.1) hp rfl ?_
  intro p e s m args below meth c s₁ B hml hv
  obtain ⟨rfl, hP, hK, hD⟩ := hv
  have hts := atoms_spec (ws := zws M) B.pre
  have hown : s.vm.findClass M.1.cls = some m.cls := findClass_of_methodNamed B.named
  have hl := lv_entry (av.map (tv r)) (n := M.2.2.1) (by rw [zent_len]; exact hn)
  rw [lg_entry_eq]
  refine k p l e s m _ below meth c D r ca ⟨B.exec, B.bytes, hml, hown, fun w hw => hts w (List.mem_cons_of_mem _ hw), B.returns, B.notSynchronized, hK, hD⟩ s.heap [] _ ⟨hP, va_S.rf⟩ ⟨hl.1, hl.2.1, fun i v hi hu => ?_⟩
  have hm := zent_args r av 0 i v hi hu
  rw [Nat.zero_add] at hm
  exact hl.2.2 _ hm
end
section
theorem i32_add (x y : Int) : Int32.ofInt (x + y) = Int32.ofInt x + Int32.ofInt y := Int32.toBitVec.inj (by simp [BitVec.ofInt_add])
theorem i32_sub (x y : Int) : Int32.ofInt (x - y) = Int32.ofInt x - Int32.ofInt y := by
  rw [Int.sub_eq_add_neg, i32_add, ← Int32.neg_ofInt, Int32.sub_eq_add_neg]
theorem i32_mul (x y : Int) : Int32.ofInt (x * y) = Int32.ofInt x * Int32.ofInt y := Int32.toBitVec.inj (by simp [BitVec.ofInt_mul])
theorem i64_add (x y : Int) : Int64.ofInt (x + y) = Int64.ofInt x + Int64.ofInt y := Int64.toBitVec.inj (by simp [BitVec.ofInt_add])
theorem i32_to {x : Int} (h : -2147483648 ≤ x ∧ x ≤ 2147483647) : (Int32.ofInt x).toInt = x := Int32.toInt_ofInt_of_le (by omega) (by omega)
theorem i32_lt {x y : Int} (hx : -2147483648 ≤ x ∧ x ≤ 2147483647) (hy : -2147483648 ≤ y ∧ y ≤ 2147483647) : Int32.ofInt x < Int32.ofInt y ↔ x < y := by
  rw [Int32.lt_iff_toInt_lt, i32_to hx, i32_to hy]
theorem i32_le {x y : Int} (hx : -2147483648 ≤ x ∧ x ≤ 2147483647) (hy : -2147483648 ≤ y ∧ y ≤ 2147483647) : Int32.ofInt x ≤ Int32.ofInt y ↔ x ≤ y := by
  rw [Int32.le_iff_toInt_le, i32_to hx, i32_to hy]
theorem i32_eq {x y : Int} (hx : -2147483648 ≤ x ∧ x ≤ 2147483647) (hy : -2147483648 ≤ y ∧ y ≤ 2147483647) : Int32.ofInt x = Int32.ofInt y ↔ x = y := by
  rw [← Int32.toInt_inj, i32_to hx, i32_to hy]
theorem i32_0 : (0 : Int32) = Int32.ofInt 0 := rfl
theorem i32_clamp {x : Int} (h : 0 ≤ x ∧ x ≤ 2147483647) : (Int32.ofInt x).toNatClampNeg = x.toNat := Int32.toNatClampNeg_ofInt_of_le (by omega) (by omega)
theorem i32_in {x : Int} {n : Nat} (h : 0 ≤ x ∧ x < n) (hn : n ≤ 2147483647) : vp_in (Int32.ofInt x) n := by
  rw [vp_in_iff, i32_to (by omega)]
  exact h
theorem i32_rem {x y : Int} (hx : -2147483648 ≤ x ∧ x ≤ 2147483647) (hy : -2147483648 ≤ y ∧ y ≤ 2147483647) : Int32.ofInt x - Int32.ofInt x / Int32.ofInt y * Int32.ofInt y = Int32.ofInt (x.tmod y) := by
  rw [← Int32.toInt_inj, rem_toInt, i32_to hx, i32_to hy, i32_to]
  have h1 := Int.natAbs_tmod x y
  have h2 : x.natAbs % y.natAbs ≤ x.natAbs := Nat.mod_le _ _
  have h3 : (x.tmod y).natAbs ≤ x.natAbs := by omega
  by_cases h : 0 ≤ x
  · have := Int.tmod_nonneg y h
    omega
  · have h4 : (-x).tmod y = -(x.tmod y) := Int.neg_tmod x y
    have h5 := Int.tmod_nonneg y (show 0 ≤ -x by omega)
    omega
theorem i32_div {x y : Int} (hx : 0 ≤ x ∧ x ≤ 2147483647) (hy : 0 < y ∧ y ≤ 2147483647) : Int32.ofInt x / Int32.ofInt y = Int32.ofInt (x / y) := by
  have e : x / y = x.tdiv y := (Int.tdiv_eq_ediv_of_nonneg hx.1).symm
  have h1 : 0 ≤ x / y := Int.ediv_nonneg hx.1 (by omega)
  have h2 : x / y ≤ x := Int.ediv_le_self y hx.1
  rw [← Int32.toInt_inj, Int32.toInt_div, i32_to (by omega), i32_to (by omega), i32_to (by omega), ← e, Int.bmod_eq_of_le (by omega) (by omega)]
def zb (c : Prop) [Decidable c] : Int := if c then 1 else 0
theorem zb_01 (c : Prop) [Decidable c] : zb c = 0 ∨ zb c = 1 := by unfold zb; split <;> simp
theorem zb_t {c : Prop} [Decidable c] (h : c) : zb c = 1 := if_pos h
theorem zb_f {c : Prop} [Decidable c] (h : ¬ c) : zb c = 0 := if_neg h
theorem tv_zb {x : Int} (h : x = 0 ∨ x = 1) : narrow .boolean (.int (Int32.ofInt x)) = .int (Int32.ofInt x) ∧ fits .boolean (.int (Int32.ofInt x)) = true := by
  rcases h with rfl | rfl <;> exact ⟨by decide, by decide⟩
theorem zks_small (a : Nat) : (zks a).2 ≤ 1146 := by
  by_cases h : a < 56
  · have : ∀ b, b < 56 → (zks b).2 ≤ 1146 := by decide
    exact this a h
  · unfold zks
    rw [List.getD_eq_getElem?_getD, List.getElem?_eq_none (Nat.le_of_not_lt h)]
    decide
def zls (r : Nat → Nat) (lv : List zV) : List (Nat × Value) := (List.range lv.length).filterMap (fun j => if vuse (lv.getD j vU) then some (j, tv r (lv.getD j vU)) else none)
theorem zls_mem {r : Nat → Nat} {lv : List zV} {q : Nat × Value} : q ∈ zls r lv ↔ ∃ v, lv[q.1]? = some v ∧ vuse v = true ∧ q.2 = tv r v := by
  constructor
  · intro h
    obtain ⟨j, hj, he⟩ := List.mem_filterMap.mp h
    have hj := List.mem_range.mp hj
    by_cases hu : vuse (lv.getD j vU) = true
    · rw [if_pos hu] at he
      cases he
      refine ⟨lv.getD j vU, ?_, hu, rfl⟩
      simp [List.getD_eq_getElem?_getD, hj]
    · rw [if_neg hu] at he
      cases he
  · rintro ⟨v, h1, h2, h3⟩
    have hj : q.1 < lv.length := (List.getElem?_eq_some_iff.mp h1).1
    have e : lv.getD q.1 vU = v := by rw [List.getD_eq_getElem?_getD, h1]; rfl
    refine List.mem_filterMap.mpr ⟨q.1, List.mem_range.mpr hj, ?_⟩
    rw [e, if_pos h2, ← h3]
theorem zl_has {r : Nat → Nat} {ls : Array Slot} {nL : Nat} {lv : List zV} (h : zl r ls nL lv) : lv_has ls nL (zls r lv) := by
  refine ⟨h.1, h.2.1, fun q hq => ?_⟩
  obtain ⟨v, h1, h2, h3⟩ := zls_mem.mp hq
  rw [h3]
  exact h.2.2 q.1 v h1 h2
theorem zl_one {r : Nat → Nat} {ls : Array Slot} {nL : Nat} {lv : List zV} {i : Nat} {v : zV} (h : zl r ls nL lv) (hi : lv[i]? = some v) (hu : vuse v = true) : ls[i]? = some (.val (tv r v)) := h.2.2 i v hi hu
theorem zl_back {r : Nat → Nat} {ls : Array Slot} {nL : Nat} {lv : List zV} {i : Nat} {v : zV} (h : lv_has ls nL ((i, tv r v) :: (zls r lv).filter (fun q => !(q.1 == i) && !(q.1 + 1 == i && q.2.category == 2)))) (hp : ∀ w, 0 < i → lv[i - 1]? = some w → vlong w = false) : zl r ls nL (lv.set i v) := by
  refine ⟨h.1, h.2.1, fun j w hj hu => ?_⟩
  by_cases hji : j = i
  · subst hji
    have hl : j < lv.length := by
      have := (List.getElem?_eq_some_iff.mp hj).1
      simpa using this
    rw [List.getElem?_set_self hl] at hj
    cases hj
    exact h.2.2 (j, tv r v) List.mem_cons_self
  · rw [List.getElem?_set_ne (Ne.symm hji)] at hj
    refine h.2.2 (j, tv r w) (List.mem_cons_of_mem _ (List.mem_filter.mpr ⟨zls_mem.mpr ⟨w, hj, hu, rfl⟩, ?_⟩))
    by_cases hji2 : j + 1 = i
    · have h2 := hp w (by omega) (by rw [← hji2]; exact hj)
      have h3 : (tv r w).category = 1 := by rw [tv_cat]; simp [vw, h2]
      simp [hji, h3]
    · simp [hji, hji2]
theorem zl_back2 {r : Nat → Nat} {ls : Array Slot} {nL : Nat} {lv : List zV} {i : Nat} {v : zV} (h : lv_has ls nL ((i, tv r v) :: (zls r lv).filter (fun q => !(q.1 == i) && (!(q.1 == i + 1) && !(q.1 + 1 == i && q.2.category == 2))))) (hp : ∀ w, 0 < i → lv[i - 1]? = some w → vlong w = false) : zl r ls nL ((lv.set i v).set (i + 1) vU) := by
  refine ⟨h.1, h.2.1, fun j w hj hu => ?_⟩
  by_cases hj1 : j = i + 1
  · subst hj1
    have hl : i + 1 < (lv.set i v).length := by
      have := (List.getElem?_eq_some_iff.mp hj).1
      simpa using this
    rw [List.getElem?_set_self hl] at hj
    cases hj
    cases hu
  · rw [List.getElem?_set_ne (Ne.symm hj1)] at hj
    by_cases hji : j = i
    · subst hji
      have hl : j < lv.length := by
        have := (List.getElem?_eq_some_iff.mp hj).1
        simpa using this
      rw [List.getElem?_set_self hl] at hj
      cases hj
      exact h.2.2 (j, tv r v) List.mem_cons_self
    · rw [List.getElem?_set_ne (Ne.symm hji)] at hj
      refine h.2.2 (j, tv r w) (List.mem_cons_of_mem _ (List.mem_filter.mpr ⟨zls_mem.mpr ⟨w, hj, hu, rfl⟩, ?_⟩))
      by_cases hji2 : j + 1 = i
      · have h2 := hp w (by omega) (by rw [← hji2]; exact hj)
        have h3 : (tv r w).category = 1 := by rw [tv_cat]; simp [vw, h2]
        simp [hji, hj1, h3]
      · simp [hji, hj1, hji2]
section ZR
variable {M : zM} {post : Option zV → zH → Prop} {pc : Nat} {lv st : List zV} {h : zH}
theorem z_iconst {n : Int} (hd : decode M.2.1 pc = .ok (.iconst n, 1)) (k : Z M post (pc + 1) lv (vI n :: st) h) : Z M post pc lv (st) h := by
  intro p l e s m args below meth c D r ca B H locs ls P L
  have k := k p l e s m args below meth c D r ca B H locs ls P L
  exact lv_iconst B.1 B.2.1 hd rfl k
theorem z_bipush {n : Int} (hn : (Int8.ofInt n).toInt32 = Int32.ofInt n) (hd : decode M.2.1 pc = .ok (.bipush n, 2)) (k : Z M post (pc + 2) lv (vI n :: st) h) : Z M post pc lv st h := by
  intro p l e s m args below meth c D r ca B H locs ls P L
  have k := k p l e s m args below meth c D r ca B H locs ls P L
  exact lv_bipush B.1 B.2.1 hd hn k
theorem z_sipush {n : Int} (hn : (Int16.ofInt n).toInt32 = Int32.ofInt n) (hd : decode M.2.1 pc = .ok (.sipush n, 3)) (k : Z M post (pc + 3) lv (vI n :: st) h) : Z M post pc lv st h := by
  intro p l e s m args below meth c D r ca B H locs ls P L
  have k := k p l e s m args below meth c D r ca B H locs ls P L
  exact lv_sipush B.1 B.2.1 hd hn k
theorem z_lconst0 (hd : decode M.2.1 pc = .ok (.lconst 0, 1)) (k : Z M post (pc + 1) lv (vL 0 :: st) h) : Z M post pc lv st h := by
  intro p l e s m args below meth c D r ca B H locs ls P L
  have k := k p l e s m args below meth c D r ca B H locs ls P L
  exact lv_lconst B.1 B.2.1 hd (by decide) k
theorem z_lconst1 (hd : decode M.2.1 pc = .ok (.lconst 1, 1)) (k : Z M post (pc + 1) lv (vL 1 :: st) h) : Z M post pc lv st h := by
  intro p l e s m args below meth c D r ca B H locs ls P L
  have k := k p l e s m args below meth c D r ca B H locs ls P L
  exact lv_lconst B.1 B.2.1 hd (by decide) k
theorem z_ldc {idx : Nat} (n : Int) (hw : Cond.constant M.1.cls idx (Int32.ofInt n) ∈ zt) (hd : decode M.2.1 pc = .ok (.ldc idx, 2)) (k : Z M post (pc + 2) lv (vI n :: st) h) : Z M post pc lv st h := by
  intro p l e s m args below meth c D r ca B H locs ls P L
  have k := k p l e s m args below meth c D r ca B H locs ls P L
  exact lv_ldc B.1 B.2.1 B.2.2.2.1 (B.2.2.2.2.1 _ hw) hd k
theorem z_ldc2 {idx : Nat} (n : Int) (hw : Cond.constantLong M.1.cls idx (Int64.ofInt n) ∈ zt) (hd : decode M.2.1 pc = .ok (.ldc2_w idx, 3)) (k : Z M post (pc + 3) lv (vL n :: st) h) : Z M post pc lv st h := by
  intro p l e s m args below meth c D r ca B H locs ls P L
  have k := k p l e s m args below meth c D r ca B H locs ls P L
  exact lv_ldc2 B.1 B.2.1 B.2.2.2.1 (B.2.2.2.2.1 _ hw) hd k
theorem z_iload_n {i : Fin 4} {x : Int} (hd : decode M.2.1 pc = .ok (.iload_n i, 1)) (hl : lv[(i : Nat)]? = some (vI x)) (k : Z M post (pc + 1) lv (vI x :: st) h) : Z M post pc lv st h := by
  intro p l e s m args below meth c D r ca B H locs ls P L
  have k := k p l e s m args below meth c D r ca B H locs ls P L
  exact lv_iload_n B.1 B.2.1 hd rfl (zl_one L hl rfl) k
theorem z_iload {i : Nat} {x : Int} (hd : decode M.2.1 pc = .ok (.iload i, 2)) (hl : lv[i]? = some (vI x)) (k : Z M post (pc + 2) lv (vI x :: st) h) : Z M post pc lv st h := by
  intro p l e s m args below meth c D r ca B H locs ls P L
  have k := k p l e s m args below meth c D r ca B H locs ls P L
  exact lv_iload B.1 B.2.1 hd (zl_one L hl rfl) k
theorem z_lload_n {i : Fin 4} {x : Int} (hd : decode M.2.1 pc = .ok (.lload_n i, 1)) (hl : lv[(i : Nat)]? = some (vL x)) (k : Z M post (pc + 1) lv (vL x :: st) h) : Z M post pc lv st h := by
  intro p l e s m args below meth c D r ca B H locs ls P L
  have k := k p l e s m args below meth c D r ca B H locs ls P L
  exact lv_lload_n B.1 B.2.1 hd rfl (zl_one L hl rfl) k
theorem z_lload {i : Nat} {x : Int} (hd : decode M.2.1 pc = .ok (.lload i, 2)) (hl : lv[i]? = some (vL x)) (k : Z M post (pc + 2) lv (vL x :: st) h) : Z M post pc lv st h := by
  intro p l e s m args below meth c D r ca B H locs ls P L
  have k := k p l e s m args below meth c D r ca B H locs ls P L
  exact lv_lload B.1 B.2.1 hd (zl_one L hl rfl) k
theorem z_aload_n {i : Fin 4} {x : Nat} (hd : decode M.2.1 pc = .ok (.aload_n i, 1)) (hl : lv[(i : Nat)]? = some (vR x)) (k : Z M post (pc + 1) lv (vR x :: st) h) : Z M post pc lv st h := by
  intro p l e s m args below meth c D r ca B H locs ls P L
  have k := k p l e s m args below meth c D r ca B H locs ls P L
  exact lv_aload_n B.1 B.2.1 hd rfl (zl_one L hl rfl) k
theorem z_aload {i : Nat} {x : Nat} (hd : decode M.2.1 pc = .ok (.aload i, 2)) (hl : lv[i]? = some (vR x)) (k : Z M post (pc + 2) lv (vR x :: st) h) : Z M post pc lv st h := by
  intro p l e s m args below meth c D r ca B H locs ls P L
  have k := k p l e s m args below meth c D r ca B H locs ls P L
  exact lv_aload B.1 B.2.1 hd (zl_one L hl rfl) k
theorem zg_istore_n {i : Fin 4} {x : Int} (hd : decode M.2.1 pc = .ok (.istore_n i, 1)) (hn : (i : Nat) < M.2.2.1) (hp : ∀ w, 0 < (i : Nat) → lv[(i : Nat) - 1]? = some w → vlong w = false) (k : Z M post (pc + 1) (lv.set i (vI x)) st h) : Z M post pc lv (vI x :: st) h := by
  intro p l e s m args below meth c D r ca B H locs ls P L
  exact lv_istore_n B.1 B.2.1 hd rfl (zl_has L) hn rfl (fun ls2 L2 => k p l e s m args below meth c D r ca B H locs ls2 P (zl_back (v := vI x) L2 hp))
theorem zg_istore {i : Nat} {x : Int} (hd : decode M.2.1 pc = .ok (.istore i, 2)) (hn : i < M.2.2.1) (hp : ∀ w, 0 < i → lv[i - 1]? = some w → vlong w = false) (k : Z M post (pc + 2) (lv.set i (vI x)) st h) : Z M post pc lv (vI x :: st) h := by
  intro p l e s m args below meth c D r ca B H locs ls P L
  exact lv_istore B.1 B.2.1 hd (zl_has L) hn rfl (fun ls2 L2 => k p l e s m args below meth c D r ca B H locs ls2 P (zl_back (v := vI x) L2 hp))
theorem zg_astore_n {i : Fin 4} {x : Nat} (hd : decode M.2.1 pc = .ok (.astore_n i, 1)) (hn : (i : Nat) < M.2.2.1) (hp : ∀ w, 0 < (i : Nat) → lv[(i : Nat) - 1]? = some w → vlong w = false) (k : Z M post (pc + 1) (lv.set i (vR x)) st h) : Z M post pc lv (vR x :: st) h := by
  intro p l e s m args below meth c D r ca B H locs ls P L
  exact lv_astore_n B.1 B.2.1 hd rfl (zl_has L) hn rfl (fun ls2 L2 => k p l e s m args below meth c D r ca B H locs ls2 P (zl_back (v := vR x) L2 hp))
theorem zg_astore {i : Nat} {x : Nat} (hd : decode M.2.1 pc = .ok (.astore i, 2)) (hn : i < M.2.2.1) (hp : ∀ w, 0 < i → lv[i - 1]? = some w → vlong w = false) (k : Z M post (pc + 2) (lv.set i (vR x)) st h) : Z M post pc lv (vR x :: st) h := by
  intro p l e s m args below meth c D r ca B H locs ls P L
  exact lv_astore B.1 B.2.1 hd (zl_has L) hn rfl (fun ls2 L2 => k p l e s m args below meth c D r ca B H locs ls2 P (zl_back (v := vR x) L2 hp))
theorem zg_lstore_n {i : Fin 4} {x : Int} (hd : decode M.2.1 pc = .ok (.lstore_n i, 1)) (hn : (i : Nat) + 1 < M.2.2.1) (hp : ∀ w, 0 < (i : Nat) → lv[(i : Nat) - 1]? = some w → vlong w = false) (k : Z M post (pc + 1) ((lv.set i (vL x)).set (i + 1) vU) st h) : Z M post pc lv (vL x :: st) h := by
  intro p l e s m args below meth c D r ca B H locs ls P L
  exact lv_lstore_n B.1 B.2.1 hd rfl (zl_has L) hn rfl (fun ls2 L2 => k p l e s m args below meth c D r ca B H locs ls2 P (zl_back2 (v := vL x) L2 hp))
theorem zg_iinc {i : Nat} {n x : Int} (hd : decode M.2.1 pc = .ok (.iinc i n, 3)) (hl : lv[i]? = some (vI x)) (hn : i < M.2.2.1) (hp : ∀ w, 0 < i → lv[i - 1]? = some w → vlong w = false) (k : Z M post (pc + 3) (lv.set i (vI (x + n))) st h) : Z M post pc lv st h := by
  intro p l e s m args below meth c D r ca B H locs ls P L
  have hm : (i, Value.int (Int32.ofInt x)) ∈ zls r lv := zls_mem.mpr ⟨vI x, hl, rfl, rfl⟩
  obtain ⟨j, hj⟩ := List.getElem?_of_mem hm
  exact lv_iinc B.1 B.2.1 hd (zl_has L) hj (i32_add x n).symm hn rfl (fun ls2 L2 => k p l e s m args below meth c D r ca B H locs ls2 P (zl_back (v := vI (x + n)) L2 hp))
theorem z_istore_0 {a0 : zV} {x : Int} (hd : decode M.2.1 pc = .ok (.istore_n 0, 1)) (hn : 0 < M.2.2.1) (k : Z M post (pc + 1) (vI x :: lv) st h) : Z M post pc (a0 :: lv) (vI x :: st) h := zg_istore_n hd hn (fun w h0 _ => absurd h0 (Nat.lt_irrefl 0)) k
theorem z_astore_0 {a0 : zV} {x : Nat} (hd : decode M.2.1 pc = .ok (.astore_n 0, 1)) (hn : 0 < M.2.2.1) (k : Z M post (pc + 1) (vR x :: lv) st h) : Z M post pc (a0 :: lv) (vR x :: st) h := zg_astore_n hd hn (fun w h0 _ => absurd h0 (Nat.lt_irrefl 0)) k
theorem z_iinc_0 {n x : Int} (hd : decode M.2.1 pc = .ok (.iinc 0 n, 3)) (hn : 0 < M.2.2.1) (k : Z M post (pc + 3) (vI (x + n) :: lv) st h) : Z M post pc (vI x :: lv) st h := zg_iinc hd rfl hn (fun w h0 _ => absurd h0 (Nat.lt_irrefl 0)) k
theorem z_istore_1 {a0 a1 : zV} {x : Int} (hd : decode M.2.1 pc = .ok (.istore_n 1, 1)) (hn : 1 < M.2.2.1) (hp : vlong a0 = false) (k : Z M post (pc + 1) (a0 :: vI x :: lv) st h) : Z M post pc (a0 :: a1 :: lv) (vI x :: st) h := zg_istore_n hd hn (fun w _ hw => by cases hw; exact hp) k
theorem z_astore_1 {a0 a1 : zV} {x : Nat} (hd : decode M.2.1 pc = .ok (.astore_n 1, 1)) (hn : 1 < M.2.2.1) (hp : vlong a0 = false) (k : Z M post (pc + 1) (a0 :: vR x :: lv) st h) : Z M post pc (a0 :: a1 :: lv) (vR x :: st) h := zg_astore_n hd hn (fun w _ hw => by cases hw; exact hp) k
theorem z_iinc_1 {a0 : zV} {n x : Int} (hd : decode M.2.1 pc = .ok (.iinc 1 n, 3)) (hn : 1 < M.2.2.1) (hp : vlong a0 = false) (k : Z M post (pc + 3) (a0 :: vI (x + n) :: lv) st h) : Z M post pc (a0 :: vI x :: lv) st h := zg_iinc hd rfl hn (fun w _ hw => by cases hw; exact hp) k
theorem z_istore_2 {a0 a1 a2 : zV} {x : Int} (hd : decode M.2.1 pc = .ok (.istore_n 2, 1)) (hn : 2 < M.2.2.1) (hp : vlong a1 = false) (k : Z M post (pc + 1) (a0 :: a1 :: vI x :: lv) st h) : Z M post pc (a0 :: a1 :: a2 :: lv) (vI x :: st) h := zg_istore_n hd hn (fun w _ hw => by cases hw; exact hp) k
theorem z_astore_2 {a0 a1 a2 : zV} {x : Nat} (hd : decode M.2.1 pc = .ok (.astore_n 2, 1)) (hn : 2 < M.2.2.1) (hp : vlong a1 = false) (k : Z M post (pc + 1) (a0 :: a1 :: vR x :: lv) st h) : Z M post pc (a0 :: a1 :: a2 :: lv) (vR x :: st) h := zg_astore_n hd hn (fun w _ hw => by cases hw; exact hp) k
theorem z_iinc_2 {a0 a1 : zV} {n x : Int} (hd : decode M.2.1 pc = .ok (.iinc 2 n, 3)) (hn : 2 < M.2.2.1) (hp : vlong a1 = false) (k : Z M post (pc + 3) (a0 :: a1 :: vI (x + n) :: lv) st h) : Z M post pc (a0 :: a1 :: vI x :: lv) st h := zg_iinc hd rfl hn (fun w _ hw => by cases hw; exact hp) k
theorem z_istore_3 {a0 a1 a2 a3 : zV} {x : Int} (hd : decode M.2.1 pc = .ok (.istore_n 3, 1)) (hn : 3 < M.2.2.1) (hp : vlong a2 = false) (k : Z M post (pc + 1) (a0 :: a1 :: a2 :: vI x :: lv) st h) : Z M post pc (a0 :: a1 :: a2 :: a3 :: lv) (vI x :: st) h := zg_istore_n hd hn (fun w _ hw => by cases hw; exact hp) k
theorem z_astore_3 {a0 a1 a2 a3 : zV} {x : Nat} (hd : decode M.2.1 pc = .ok (.astore_n 3, 1)) (hn : 3 < M.2.2.1) (hp : vlong a2 = false) (k : Z M post (pc + 1) (a0 :: a1 :: a2 :: vR x :: lv) st h) : Z M post pc (a0 :: a1 :: a2 :: a3 :: lv) (vR x :: st) h := zg_astore_n hd hn (fun w _ hw => by cases hw; exact hp) k
theorem z_iinc_3 {a0 a1 a2 : zV} {n x : Int} (hd : decode M.2.1 pc = .ok (.iinc 3 n, 3)) (hn : 3 < M.2.2.1) (hp : vlong a2 = false) (k : Z M post (pc + 3) (a0 :: a1 :: a2 :: vI (x + n) :: lv) st h) : Z M post pc (a0 :: a1 :: a2 :: vI x :: lv) st h := zg_iinc hd rfl hn (fun w _ hw => by cases hw; exact hp) k
theorem z_istore_4 {a0 a1 a2 a3 a4 : zV} {x : Int} (hd : decode M.2.1 pc = .ok (.istore 4, 2)) (hn : 4 < M.2.2.1) (hp : vlong a3 = false) (k : Z M post (pc + 2) (a0 :: a1 :: a2 :: a3 :: vI x :: lv) st h) : Z M post pc (a0 :: a1 :: a2 :: a3 :: a4 :: lv) (vI x :: st) h := zg_istore hd hn (fun w _ hw => by cases hw; exact hp) k
theorem z_astore_4 {a0 a1 a2 a3 a4 : zV} {x : Nat} (hd : decode M.2.1 pc = .ok (.astore 4, 2)) (hn : 4 < M.2.2.1) (hp : vlong a3 = false) (k : Z M post (pc + 2) (a0 :: a1 :: a2 :: a3 :: vR x :: lv) st h) : Z M post pc (a0 :: a1 :: a2 :: a3 :: a4 :: lv) (vR x :: st) h := zg_astore hd hn (fun w _ hw => by cases hw; exact hp) k
theorem z_iinc_4 {a0 a1 a2 a3 : zV} {n x : Int} (hd : decode M.2.1 pc = .ok (.iinc 4 n, 3)) (hn : 4 < M.2.2.1) (hp : vlong a3 = false) (k : Z M post (pc + 3) (a0 :: a1 :: a2 :: a3 :: vI (x + n) :: lv) st h) : Z M post pc (a0 :: a1 :: a2 :: a3 :: vI x :: lv) st h := zg_iinc hd rfl hn (fun w _ hw => by cases hw; exact hp) k
theorem z_istore_5 {a0 a1 a2 a3 a4 a5 : zV} {x : Int} (hd : decode M.2.1 pc = .ok (.istore 5, 2)) (hn : 5 < M.2.2.1) (hp : vlong a4 = false) (k : Z M post (pc + 2) (a0 :: a1 :: a2 :: a3 :: a4 :: vI x :: lv) st h) : Z M post pc (a0 :: a1 :: a2 :: a3 :: a4 :: a5 :: lv) (vI x :: st) h := zg_istore hd hn (fun w _ hw => by cases hw; exact hp) k
theorem z_astore_5 {a0 a1 a2 a3 a4 a5 : zV} {x : Nat} (hd : decode M.2.1 pc = .ok (.astore 5, 2)) (hn : 5 < M.2.2.1) (hp : vlong a4 = false) (k : Z M post (pc + 2) (a0 :: a1 :: a2 :: a3 :: a4 :: vR x :: lv) st h) : Z M post pc (a0 :: a1 :: a2 :: a3 :: a4 :: a5 :: lv) (vR x :: st) h := zg_astore hd hn (fun w _ hw => by cases hw; exact hp) k
theorem z_iinc_5 {a0 a1 a2 a3 a4 : zV} {n x : Int} (hd : decode M.2.1 pc = .ok (.iinc 5 n, 3)) (hn : 5 < M.2.2.1) (hp : vlong a4 = false) (k : Z M post (pc + 3) (a0 :: a1 :: a2 :: a3 :: a4 :: vI (x + n) :: lv) st h) : Z M post pc (a0 :: a1 :: a2 :: a3 :: a4 :: vI x :: lv) st h := zg_iinc hd rfl hn (fun w _ hw => by cases hw; exact hp) k
theorem z_istore_6 {a0 a1 a2 a3 a4 a5 a6 : zV} {x : Int} (hd : decode M.2.1 pc = .ok (.istore 6, 2)) (hn : 6 < M.2.2.1) (hp : vlong a5 = false) (k : Z M post (pc + 2) (a0 :: a1 :: a2 :: a3 :: a4 :: a5 :: vI x :: lv) st h) : Z M post pc (a0 :: a1 :: a2 :: a3 :: a4 :: a5 :: a6 :: lv) (vI x :: st) h := zg_istore hd hn (fun w _ hw => by cases hw; exact hp) k
theorem z_astore_6 {a0 a1 a2 a3 a4 a5 a6 : zV} {x : Nat} (hd : decode M.2.1 pc = .ok (.astore 6, 2)) (hn : 6 < M.2.2.1) (hp : vlong a5 = false) (k : Z M post (pc + 2) (a0 :: a1 :: a2 :: a3 :: a4 :: a5 :: vR x :: lv) st h) : Z M post pc (a0 :: a1 :: a2 :: a3 :: a4 :: a5 :: a6 :: lv) (vR x :: st) h := zg_astore hd hn (fun w _ hw => by cases hw; exact hp) k
theorem z_iinc_6 {a0 a1 a2 a3 a4 a5 : zV} {n x : Int} (hd : decode M.2.1 pc = .ok (.iinc 6 n, 3)) (hn : 6 < M.2.2.1) (hp : vlong a5 = false) (k : Z M post (pc + 3) (a0 :: a1 :: a2 :: a3 :: a4 :: a5 :: vI (x + n) :: lv) st h) : Z M post pc (a0 :: a1 :: a2 :: a3 :: a4 :: a5 :: vI x :: lv) st h := zg_iinc hd rfl hn (fun w _ hw => by cases hw; exact hp) k
theorem z_istore_7 {a0 a1 a2 a3 a4 a5 a6 a7 : zV} {x : Int} (hd : decode M.2.1 pc = .ok (.istore 7, 2)) (hn : 7 < M.2.2.1) (hp : vlong a6 = false) (k : Z M post (pc + 2) (a0 :: a1 :: a2 :: a3 :: a4 :: a5 :: a6 :: vI x :: lv) st h) : Z M post pc (a0 :: a1 :: a2 :: a3 :: a4 :: a5 :: a6 :: a7 :: lv) (vI x :: st) h := zg_istore hd hn (fun w _ hw => by cases hw; exact hp) k
theorem z_astore_7 {a0 a1 a2 a3 a4 a5 a6 a7 : zV} {x : Nat} (hd : decode M.2.1 pc = .ok (.astore 7, 2)) (hn : 7 < M.2.2.1) (hp : vlong a6 = false) (k : Z M post (pc + 2) (a0 :: a1 :: a2 :: a3 :: a4 :: a5 :: a6 :: vR x :: lv) st h) : Z M post pc (a0 :: a1 :: a2 :: a3 :: a4 :: a5 :: a6 :: a7 :: lv) (vR x :: st) h := zg_astore hd hn (fun w _ hw => by cases hw; exact hp) k
theorem z_iinc_7 {a0 a1 a2 a3 a4 a5 a6 : zV} {n x : Int} (hd : decode M.2.1 pc = .ok (.iinc 7 n, 3)) (hn : 7 < M.2.2.1) (hp : vlong a6 = false) (k : Z M post (pc + 3) (a0 :: a1 :: a2 :: a3 :: a4 :: a5 :: a6 :: vI (x + n) :: lv) st h) : Z M post pc (a0 :: a1 :: a2 :: a3 :: a4 :: a5 :: a6 :: vI x :: lv) st h := zg_iinc hd rfl hn (fun w _ hw => by cases hw; exact hp) k
theorem z_istore_8 {a0 a1 a2 a3 a4 a5 a6 a7 a8 : zV} {x : Int} (hd : decode M.2.1 pc = .ok (.istore 8, 2)) (hn : 8 < M.2.2.1) (hp : vlong a7 = false) (k : Z M post (pc + 2) (a0 :: a1 :: a2 :: a3 :: a4 :: a5 :: a6 :: a7 :: vI x :: lv) st h) : Z M post pc (a0 :: a1 :: a2 :: a3 :: a4 :: a5 :: a6 :: a7 :: a8 :: lv) (vI x :: st) h := zg_istore hd hn (fun w _ hw => by cases hw; exact hp) k
theorem z_astore_8 {a0 a1 a2 a3 a4 a5 a6 a7 a8 : zV} {x : Nat} (hd : decode M.2.1 pc = .ok (.astore 8, 2)) (hn : 8 < M.2.2.1) (hp : vlong a7 = false) (k : Z M post (pc + 2) (a0 :: a1 :: a2 :: a3 :: a4 :: a5 :: a6 :: a7 :: vR x :: lv) st h) : Z M post pc (a0 :: a1 :: a2 :: a3 :: a4 :: a5 :: a6 :: a7 :: a8 :: lv) (vR x :: st) h := zg_astore hd hn (fun w _ hw => by cases hw; exact hp) k
theorem z_iinc_8 {a0 a1 a2 a3 a4 a5 a6 a7 : zV} {n x : Int} (hd : decode M.2.1 pc = .ok (.iinc 8 n, 3)) (hn : 8 < M.2.2.1) (hp : vlong a7 = false) (k : Z M post (pc + 3) (a0 :: a1 :: a2 :: a3 :: a4 :: a5 :: a6 :: a7 :: vI (x + n) :: lv) st h) : Z M post pc (a0 :: a1 :: a2 :: a3 :: a4 :: a5 :: a6 :: a7 :: vI x :: lv) st h := zg_iinc hd rfl hn (fun w _ hw => by cases hw; exact hp) k
theorem z_istore_9 {a0 a1 a2 a3 a4 a5 a6 a7 a8 a9 : zV} {x : Int} (hd : decode M.2.1 pc = .ok (.istore 9, 2)) (hn : 9 < M.2.2.1) (hp : vlong a8 = false) (k : Z M post (pc + 2) (a0 :: a1 :: a2 :: a3 :: a4 :: a5 :: a6 :: a7 :: a8 :: vI x :: lv) st h) : Z M post pc (a0 :: a1 :: a2 :: a3 :: a4 :: a5 :: a6 :: a7 :: a8 :: a9 :: lv) (vI x :: st) h := zg_istore hd hn (fun w _ hw => by cases hw; exact hp) k
theorem z_astore_9 {a0 a1 a2 a3 a4 a5 a6 a7 a8 a9 : zV} {x : Nat} (hd : decode M.2.1 pc = .ok (.astore 9, 2)) (hn : 9 < M.2.2.1) (hp : vlong a8 = false) (k : Z M post (pc + 2) (a0 :: a1 :: a2 :: a3 :: a4 :: a5 :: a6 :: a7 :: a8 :: vR x :: lv) st h) : Z M post pc (a0 :: a1 :: a2 :: a3 :: a4 :: a5 :: a6 :: a7 :: a8 :: a9 :: lv) (vR x :: st) h := zg_astore hd hn (fun w _ hw => by cases hw; exact hp) k
theorem z_iinc_9 {a0 a1 a2 a3 a4 a5 a6 a7 a8 : zV} {n x : Int} (hd : decode M.2.1 pc = .ok (.iinc 9 n, 3)) (hn : 9 < M.2.2.1) (hp : vlong a8 = false) (k : Z M post (pc + 3) (a0 :: a1 :: a2 :: a3 :: a4 :: a5 :: a6 :: a7 :: a8 :: vI (x + n) :: lv) st h) : Z M post pc (a0 :: a1 :: a2 :: a3 :: a4 :: a5 :: a6 :: a7 :: a8 :: vI x :: lv) st h := zg_iinc hd rfl hn (fun w _ hw => by cases hw; exact hp) k
theorem z_istore_10 {a0 a1 a2 a3 a4 a5 a6 a7 a8 a9 a10 : zV} {x : Int} (hd : decode M.2.1 pc = .ok (.istore 10, 2)) (hn : 10 < M.2.2.1) (hp : vlong a9 = false) (k : Z M post (pc + 2) (a0 :: a1 :: a2 :: a3 :: a4 :: a5 :: a6 :: a7 :: a8 :: a9 :: vI x :: lv) st h) : Z M post pc (a0 :: a1 :: a2 :: a3 :: a4 :: a5 :: a6 :: a7 :: a8 :: a9 :: a10 :: lv) (vI x :: st) h := zg_istore hd hn (fun w _ hw => by cases hw; exact hp) k
theorem z_astore_10 {a0 a1 a2 a3 a4 a5 a6 a7 a8 a9 a10 : zV} {x : Nat} (hd : decode M.2.1 pc = .ok (.astore 10, 2)) (hn : 10 < M.2.2.1) (hp : vlong a9 = false) (k : Z M post (pc + 2) (a0 :: a1 :: a2 :: a3 :: a4 :: a5 :: a6 :: a7 :: a8 :: a9 :: vR x :: lv) st h) : Z M post pc (a0 :: a1 :: a2 :: a3 :: a4 :: a5 :: a6 :: a7 :: a8 :: a9 :: a10 :: lv) (vR x :: st) h := zg_astore hd hn (fun w _ hw => by cases hw; exact hp) k
theorem z_iinc_10 {a0 a1 a2 a3 a4 a5 a6 a7 a8 a9 : zV} {n x : Int} (hd : decode M.2.1 pc = .ok (.iinc 10 n, 3)) (hn : 10 < M.2.2.1) (hp : vlong a9 = false) (k : Z M post (pc + 3) (a0 :: a1 :: a2 :: a3 :: a4 :: a5 :: a6 :: a7 :: a8 :: a9 :: vI (x + n) :: lv) st h) : Z M post pc (a0 :: a1 :: a2 :: a3 :: a4 :: a5 :: a6 :: a7 :: a8 :: a9 :: vI x :: lv) st h := zg_iinc hd rfl hn (fun w _ hw => by cases hw; exact hp) k
theorem z_istore_11 {a0 a1 a2 a3 a4 a5 a6 a7 a8 a9 a10 a11 : zV} {x : Int} (hd : decode M.2.1 pc = .ok (.istore 11, 2)) (hn : 11 < M.2.2.1) (hp : vlong a10 = false) (k : Z M post (pc + 2) (a0 :: a1 :: a2 :: a3 :: a4 :: a5 :: a6 :: a7 :: a8 :: a9 :: a10 :: vI x :: lv) st h) : Z M post pc (a0 :: a1 :: a2 :: a3 :: a4 :: a5 :: a6 :: a7 :: a8 :: a9 :: a10 :: a11 :: lv) (vI x :: st) h := zg_istore hd hn (fun w _ hw => by cases hw; exact hp) k
theorem z_astore_11 {a0 a1 a2 a3 a4 a5 a6 a7 a8 a9 a10 a11 : zV} {x : Nat} (hd : decode M.2.1 pc = .ok (.astore 11, 2)) (hn : 11 < M.2.2.1) (hp : vlong a10 = false) (k : Z M post (pc + 2) (a0 :: a1 :: a2 :: a3 :: a4 :: a5 :: a6 :: a7 :: a8 :: a9 :: a10 :: vR x :: lv) st h) : Z M post pc (a0 :: a1 :: a2 :: a3 :: a4 :: a5 :: a6 :: a7 :: a8 :: a9 :: a10 :: a11 :: lv) (vR x :: st) h := zg_astore hd hn (fun w _ hw => by cases hw; exact hp) k
theorem z_iinc_11 {a0 a1 a2 a3 a4 a5 a6 a7 a8 a9 a10 : zV} {n x : Int} (hd : decode M.2.1 pc = .ok (.iinc 11 n, 3)) (hn : 11 < M.2.2.1) (hp : vlong a10 = false) (k : Z M post (pc + 3) (a0 :: a1 :: a2 :: a3 :: a4 :: a5 :: a6 :: a7 :: a8 :: a9 :: a10 :: vI (x + n) :: lv) st h) : Z M post pc (a0 :: a1 :: a2 :: a3 :: a4 :: a5 :: a6 :: a7 :: a8 :: a9 :: a10 :: vI x :: lv) st h := zg_iinc hd rfl hn (fun w _ hw => by cases hw; exact hp) k
theorem z_lstore_1 {a0 a1 a2 : zV} {x : Int} (hd : decode M.2.1 pc = .ok (.lstore_n 1, 1)) (hn : 2 < M.2.2.1) (hp : vlong a0 = false) (k : Z M post (pc + 1) (a0 :: vL x :: vU :: lv) st h) : Z M post pc (a0 :: a1 :: a2 :: lv) (vL x :: st) h := zg_lstore_n hd hn (fun w _ hw => by cases hw; exact hp) k
theorem z_iadd {x y : Int} (hd : decode M.2.1 pc = .ok (.iadd, 1)) (k : Z M post (pc + 1) lv (vI (x + y) :: st) h) : Z M post pc lv (vI y :: vI x :: st) h := by
  intro p l e s m args below meth c D r ca B H locs ls P L
  have k := k p l e s m args below meth c D r ca B H locs ls P L
  refine lv_iadd B.1 B.2.1 hd ?_
  rw [← i32_add]
  exact k
theorem z_isub {x y : Int} (hd : decode M.2.1 pc = .ok (.isub, 1)) (k : Z M post (pc + 1) lv (vI (x - y) :: st) h) : Z M post pc lv (vI y :: vI x :: st) h := by
  intro p l e s m args below meth c D r ca B H locs ls P L
  have k := k p l e s m args below meth c D r ca B H locs ls P L
  refine lv_isub B.1 B.2.1 hd ?_
  rw [← i32_sub]
  exact k
theorem z_imul {x y : Int} (hd : decode M.2.1 pc = .ok (.imul, 1)) (k : Z M post (pc + 1) lv (vI (x * y) :: st) h) : Z M post pc lv (vI y :: vI x :: st) h := by
  intro p l e s m args below meth c D r ca B H locs ls P L
  have k := k p l e s m args below meth c D r ca B H locs ls P L
  refine lv_imul B.1 B.2.1 hd ?_
  rw [← i32_mul]
  exact k
theorem z_ladd {x y : Int} (hd : decode M.2.1 pc = .ok (.ladd, 1)) (k : Z M post (pc + 1) lv (vL (x + y) :: st) h) : Z M post pc lv (vL y :: vL x :: st) h := by
  intro p l e s m args below meth c D r ca B H locs ls P L
  have k := k p l e s m args below meth c D r ca B H locs ls P L
  refine lv_ladd B.1 B.2.1 hd ?_
  rw [← i64_add]
  exact k
theorem z_irem {x y : Int} (hd : decode M.2.1 pc = .ok (.irem, 1)) (hx : -2147483648 ≤ x ∧ x ≤ 2147483647) (hy : -2147483648 ≤ y ∧ y ≤ 2147483647) (h0 : y ≠ 0) (k : Z M post (pc + 1) lv (vI (x.tmod y) :: st) h) : Z M post pc lv (vI y :: vI x :: st) h := by
  intro p l e s m args below meth c D r ca B H locs ls P L
  have k := k p l e s m args below meth c D r ca B H locs ls P L
  refine lv_irem B.1 B.2.1 hd (by rw [i32_0, i32_eq hy (by omega)]; exact h0) ?_
  rw [i32_rem hx hy]
  exact k
theorem z_irem_p {x y : Int} (hd : decode M.2.1 pc = .ok (.irem, 1)) (hx : 0 ≤ x ∧ x ≤ 2147483647) (hy : 0 < y ∧ y ≤ 2147483647) (k : Z M post (pc + 1) lv (vI (x % y) :: st) h) : Z M post pc lv (vI y :: vI x :: st) h := by
  refine z_irem hd (by omega) (by omega) (by omega) ?_
  rw [Int.tmod_eq_emod_of_nonneg hx.1]
  exact k
theorem z_idiv {x y : Int} (hd : decode M.2.1 pc = .ok (.idiv, 1)) (hx : 0 ≤ x ∧ x ≤ 2147483647) (hy : 0 < y ∧ y ≤ 2147483647) (k : Z M post (pc + 1) lv (vI (x / y) :: st) h) : Z M post pc lv (vI y :: vI x :: st) h := by
  intro p l e s m args below meth c D r ca B H locs ls P L
  have k := k p l e s m args below meth c D r ca B H locs ls P L
  refine lv_idiv B.1 B.2.1 hd (by rw [i32_0, i32_eq (by omega) (by omega)]; omega) ?_
  rw [i32_div hx hy]
  exact k
theorem z_dup {v : zV} (hv : vw v = 1) (hd : decode M.2.1 pc = .ok (.dup, 1)) (k : Z M post (pc + 1) lv (v :: v :: st) h) : Z M post pc lv (v :: st) h := by
  intro p l e s m args below meth c D r ca B H locs ls P L
  have k := k p l e s m args below meth c D r ca B H locs ls P L
  exact lv_dup B.1 B.2.1 hd (by rw [tv_cat]; exact hv) k
theorem z_pop {v : zV} (hv : vw v = 1) (hd : decode M.2.1 pc = .ok (.pop, 1)) (k : Z M post (pc + 1) lv st h) : Z M post pc lv (v :: st) h := by
  intro p l e s m args below meth c D r ca B H locs ls P L
  have k := k p l e s m args below meth c D r ca B H locs ls P L
  exact lv_pop B.1 B.2.1 hd (by rw [tv_cat]; exact hv) k
theorem z_dup_x1 {v w : zV} (hv : vw v = 1) (hw : vw w = 1) (hd : decode M.2.1 pc = .ok (.dup_x1, 1)) (k : Z M post (pc + 1) lv (v :: w :: v :: st) h) : Z M post pc lv (v :: w :: st) h := by
  intro p l e s m args below meth c D r ca B H locs ls P L
  have k := k p l e s m args below meth c D r ca B H locs ls P L
  exact lv_dup_x1 B.1 B.2.1 hd (by rw [tv_cat]; exact hv) (by rw [tv_cat]; exact hw) k
theorem z_dup2 {v w : zV} (hv : vw v = 1) (hw : vw w = 1) (hd : decode M.2.1 pc = .ok (.dup2, 1)) (k : Z M post (pc + 1) lv (v :: w :: v :: w :: st) h) : Z M post pc lv (v :: w :: st) h := by
  intro p l e s m args below meth c D r ca B H locs ls P L
  have k := k p l e s m args below meth c D r ca B H locs ls P L
  exact lv_dup2_11 B.1 B.2.1 hd (by rw [tv_cat]; exact hv) (by rw [tv_cat]; exact hw) k
theorem z_icmp_eq {x y off : Int} {tgt : Nat} (hd : decode M.2.1 pc = .ok (.if_icmp .eq off, 3)) (ht : (pc : Int) + off = (tgt : Int)) (hx : -2147483648 ≤ x ∧ x ≤ 2147483647) (hy : -2147483648 ≤ y ∧ y ≤ 2147483647) (kt : x = y → Z M post tgt lv st h) (kf : ¬ x = y → Z M post (pc + 3) lv st h) : Z M post pc lv (vI y :: vI x :: st) h := by
  intro p l e s m args below meth c D r ca B H locs ls P L
  exact lv_icmp_eq B.1 B.2.1 hd ht (fun q => kt (by exact (i32_eq hx hy).mp q) p l e s m args below meth c D r ca B H locs ls P L) (fun q => kf (by exact fun z => q ((i32_eq hx hy).mpr z)) p l e s m args below meth c D r ca B H locs ls P L)
theorem z_icmp_ne {x y off : Int} {tgt : Nat} (hd : decode M.2.1 pc = .ok (.if_icmp .ne off, 3)) (ht : (pc : Int) + off = (tgt : Int)) (hx : -2147483648 ≤ x ∧ x ≤ 2147483647) (hy : -2147483648 ≤ y ∧ y ≤ 2147483647) (kt : ¬ x = y → Z M post tgt lv st h) (kf : x = y → Z M post (pc + 3) lv st h) : Z M post pc lv (vI y :: vI x :: st) h := by
  intro p l e s m args below meth c D r ca B H locs ls P L
  exact lv_icmp_ne B.1 B.2.1 hd ht (fun q => kt (by exact fun z => q ((i32_eq hx hy).mpr z)) p l e s m args below meth c D r ca B H locs ls P L) (fun q => kf (by exact (i32_eq hx hy).mp q) p l e s m args below meth c D r ca B H locs ls P L)
theorem z_icmp_lt {x y off : Int} {tgt : Nat} (hd : decode M.2.1 pc = .ok (.if_icmp .lt off, 3)) (ht : (pc : Int) + off = (tgt : Int)) (hx : -2147483648 ≤ x ∧ x ≤ 2147483647) (hy : -2147483648 ≤ y ∧ y ≤ 2147483647) (kt : x < y → Z M post tgt lv st h) (kf : y ≤ x → Z M post (pc + 3) lv st h) : Z M post pc lv (vI y :: vI x :: st) h := by
  intro p l e s m args below meth c D r ca B H locs ls P L
  exact lv_icmp_lt B.1 B.2.1 hd ht (fun q => kt (by exact (i32_lt hx hy).mp q) p l e s m args below meth c D r ca B H locs ls P L) (fun q => kf (by exact Int.not_lt.mp (fun z => q ((i32_lt hx hy).mpr z))) p l e s m args below meth c D r ca B H locs ls P L)
theorem z_icmp_ge {x y off : Int} {tgt : Nat} (hd : decode M.2.1 pc = .ok (.if_icmp .ge off, 3)) (ht : (pc : Int) + off = (tgt : Int)) (hx : -2147483648 ≤ x ∧ x ≤ 2147483647) (hy : -2147483648 ≤ y ∧ y ≤ 2147483647) (kt : y ≤ x → Z M post tgt lv st h) (kf : x < y → Z M post (pc + 3) lv st h) : Z M post pc lv (vI y :: vI x :: st) h := by
  intro p l e s m args below meth c D r ca B H locs ls P L
  exact lv_icmp_ge B.1 B.2.1 hd ht (fun q => kt (by exact (i32_le hy hx).mp q) p l e s m args below meth c D r ca B H locs ls P L) (fun q => kf (by exact Int.not_le.mp (fun z => q ((i32_le hy hx).mpr z))) p l e s m args below meth c D r ca B H locs ls P L)
theorem z_icmp_gt {x y off : Int} {tgt : Nat} (hd : decode M.2.1 pc = .ok (.if_icmp .gt off, 3)) (ht : (pc : Int) + off = (tgt : Int)) (hx : -2147483648 ≤ x ∧ x ≤ 2147483647) (hy : -2147483648 ≤ y ∧ y ≤ 2147483647) (kt : y < x → Z M post tgt lv st h) (kf : x ≤ y → Z M post (pc + 3) lv st h) : Z M post pc lv (vI y :: vI x :: st) h := by
  intro p l e s m args below meth c D r ca B H locs ls P L
  exact lv_icmp_gt B.1 B.2.1 hd ht (fun q => kt (by exact (i32_lt hy hx).mp q) p l e s m args below meth c D r ca B H locs ls P L) (fun q => kf (by exact Int.not_lt.mp (fun z => q ((i32_lt hy hx).mpr z))) p l e s m args below meth c D r ca B H locs ls P L)
theorem z_icmp_le {x y off : Int} {tgt : Nat} (hd : decode M.2.1 pc = .ok (.if_icmp .le off, 3)) (ht : (pc : Int) + off = (tgt : Int)) (hx : -2147483648 ≤ x ∧ x ≤ 2147483647) (hy : -2147483648 ≤ y ∧ y ≤ 2147483647) (kt : x ≤ y → Z M post tgt lv st h) (kf : y < x → Z M post (pc + 3) lv st h) : Z M post pc lv (vI y :: vI x :: st) h := by
  intro p l e s m args below meth c D r ca B H locs ls P L
  exact lv_icmp_le B.1 B.2.1 hd ht (fun q => kt (by exact (i32_le hx hy).mp q) p l e s m args below meth c D r ca B H locs ls P L) (fun q => kf (by exact Int.not_le.mp (fun z => q ((i32_le hx hy).mpr z))) p l e s m args below meth c D r ca B H locs ls P L)
theorem z_if_eq {x off : Int} {tgt : Nat} (hd : decode M.2.1 pc = .ok (.ifCond .eq off, 3)) (ht : (pc : Int) + off = (tgt : Int)) (hx : -2147483648 ≤ x ∧ x ≤ 2147483647) (kt : x = 0 → Z M post tgt lv st h) (kf : ¬ x = 0 → Z M post (pc + 3) lv st h) : Z M post pc lv (vI x :: st) h := by
  intro p l e s m args below meth c D r ca B H locs ls P L
  have hy : -2147483648 ≤ (0 : Int) ∧ (0 : Int) ≤ 2147483647 := by omega
  exact lv_if_eq B.1 B.2.1 hd ht (fun q => kt (by rw [i32_0] at q; exact (i32_eq hx hy).mp q) p l e s m args below meth c D r ca B H locs ls P L) (fun q => kf (by rw [i32_0] at q; exact fun z => q ((i32_eq hx hy).mpr z)) p l e s m args below meth c D r ca B H locs ls P L)
theorem z_if_ne {x off : Int} {tgt : Nat} (hd : decode M.2.1 pc = .ok (.ifCond .ne off, 3)) (ht : (pc : Int) + off = (tgt : Int)) (hx : -2147483648 ≤ x ∧ x ≤ 2147483647) (kt : ¬ x = 0 → Z M post tgt lv st h) (kf : x = 0 → Z M post (pc + 3) lv st h) : Z M post pc lv (vI x :: st) h := by
  intro p l e s m args below meth c D r ca B H locs ls P L
  have hy : -2147483648 ≤ (0 : Int) ∧ (0 : Int) ≤ 2147483647 := by omega
  exact lv_if_ne B.1 B.2.1 hd ht (fun q => kt (by rw [i32_0] at q; exact fun z => q ((i32_eq hx hy).mpr z)) p l e s m args below meth c D r ca B H locs ls P L) (fun q => kf (by rw [i32_0] at q; exact (i32_eq hx hy).mp q) p l e s m args below meth c D r ca B H locs ls P L)
theorem z_if_lt {x off : Int} {tgt : Nat} (hd : decode M.2.1 pc = .ok (.ifCond .lt off, 3)) (ht : (pc : Int) + off = (tgt : Int)) (hx : -2147483648 ≤ x ∧ x ≤ 2147483647) (kt : x < 0 → Z M post tgt lv st h) (kf : 0 ≤ x → Z M post (pc + 3) lv st h) : Z M post pc lv (vI x :: st) h := by
  intro p l e s m args below meth c D r ca B H locs ls P L
  have hy : -2147483648 ≤ (0 : Int) ∧ (0 : Int) ≤ 2147483647 := by omega
  exact lv_if_lt B.1 B.2.1 hd ht (fun q => kt (by rw [i32_0] at q; exact (i32_lt hx hy).mp q) p l e s m args below meth c D r ca B H locs ls P L) (fun q => kf (by rw [i32_0] at q; exact Int.not_lt.mp (fun z => q ((i32_lt hx hy).mpr z))) p l e s m args below meth c D r ca B H locs ls P L)
theorem z_if_ge {x off : Int} {tgt : Nat} (hd : decode M.2.1 pc = .ok (.ifCond .ge off, 3)) (ht : (pc : Int) + off = (tgt : Int)) (hx : -2147483648 ≤ x ∧ x ≤ 2147483647) (kt : 0 ≤ x → Z M post tgt lv st h) (kf : x < 0 → Z M post (pc + 3) lv st h) : Z M post pc lv (vI x :: st) h := by
  intro p l e s m args below meth c D r ca B H locs ls P L
  have hy : -2147483648 ≤ (0 : Int) ∧ (0 : Int) ≤ 2147483647 := by omega
  exact lv_if_ge B.1 B.2.1 hd ht (fun q => kt (by rw [i32_0] at q; exact (i32_le hy hx).mp q) p l e s m args below meth c D r ca B H locs ls P L) (fun q => kf (by rw [i32_0] at q; exact Int.not_le.mp (fun z => q ((i32_le hy hx).mpr z))) p l e s m args below meth c D r ca B H locs ls P L)
theorem z_if_gt {x off : Int} {tgt : Nat} (hd : decode M.2.1 pc = .ok (.ifCond .gt off, 3)) (ht : (pc : Int) + off = (tgt : Int)) (hx : -2147483648 ≤ x ∧ x ≤ 2147483647) (kt : 0 < x → Z M post tgt lv st h) (kf : x ≤ 0 → Z M post (pc + 3) lv st h) : Z M post pc lv (vI x :: st) h := by
  intro p l e s m args below meth c D r ca B H locs ls P L
  have hy : -2147483648 ≤ (0 : Int) ∧ (0 : Int) ≤ 2147483647 := by omega
  exact lv_if_gt B.1 B.2.1 hd ht (fun q => kt (by rw [i32_0] at q; exact (i32_lt hy hx).mp q) p l e s m args below meth c D r ca B H locs ls P L) (fun q => kf (by rw [i32_0] at q; exact Int.not_lt.mp (fun z => q ((i32_lt hy hx).mpr z))) p l e s m args below meth c D r ca B H locs ls P L)
theorem z_if_le {x off : Int} {tgt : Nat} (hd : decode M.2.1 pc = .ok (.ifCond .le off, 3)) (ht : (pc : Int) + off = (tgt : Int)) (hx : -2147483648 ≤ x ∧ x ≤ 2147483647) (kt : x ≤ 0 → Z M post tgt lv st h) (kf : 0 < x → Z M post (pc + 3) lv st h) : Z M post pc lv (vI x :: st) h := by
  intro p l e s m args below meth c D r ca B H locs ls P L
  have hy : -2147483648 ≤ (0 : Int) ∧ (0 : Int) ≤ 2147483647 := by omega
  exact lv_if_le B.1 B.2.1 hd ht (fun q => kt (by rw [i32_0] at q; exact (i32_le hx hy).mp q) p l e s m args below meth c D r ca B H locs ls P L) (fun q => kf (by rw [i32_0] at q; exact Int.not_le.mp (fun z => q ((i32_le hx hy).mpr z))) p l e s m args below meth c D r ca B H locs ls P L)
theorem z_ifeqB {b : Prop} [Decidable b] {off : Int} {tgt : Nat} (hd : decode M.2.1 pc = .ok (.ifCond .eq off, 3)) (ht : (pc : Int) + off = (tgt : Int)) (kt : ¬ b → Z M post tgt lv st h) (kf : b → Z M post (pc + 3) lv st h) : Z M post pc lv (vI (zb b) :: st) h := by
  refine z_if_eq hd ht (by rcases zb_01 b with q | q <;> rw [q] <;> decide) (fun q => kt fun z => ?_) (fun q => kf (Classical.byContradiction fun z => ?_))
  · rw [zb_t z] at q; cases q
  · rw [zb_f z] at q; exact q rfl
theorem z_ifneB {b : Prop} [Decidable b] {off : Int} {tgt : Nat} (hd : decode M.2.1 pc = .ok (.ifCond .ne off, 3)) (ht : (pc : Int) + off = (tgt : Int)) (kt : b → Z M post tgt lv st h) (kf : ¬ b → Z M post (pc + 3) lv st h) : Z M post pc lv (vI (zb b) :: st) h := by
  refine z_if_ne hd ht (by rcases zb_01 b with q | q <;> rw [q] <;> decide) (fun q => kt (Classical.byContradiction fun z => ?_)) (fun q => kf fun z => ?_)
  · rw [zb_f z] at q; exact q rfl
  · rw [zb_t z] at q; cases q
theorem z_goto {off : Int} {tgt : Nat} (hd : decode M.2.1 pc = .ok (.goto off, 3)) (ht : (pc : Int) + off = (tgt : Int)) (k : Z M post tgt lv st h) : Z M post pc lv st h := by
  intro p l e s m args below meth c D r ca B H locs ls P L
  have k := k p l e s m args below meth c D r ca B H locs ls P L
  exact lv_goto B.1 B.2.1 hd ht k
theorem z_tabOut {dflt lo hi : Int} {offs : Array Int} {len : Nat} {x : Int} {tgt : Nat} (hd : decode M.2.1 pc = .ok (.tableswitch dflt lo hi offs, len)) (hx : -2147483648 ≤ x ∧ x ≤ 2147483647) (hq : x < lo ∨ hi < x) (ht : (pc : Int) + dflt = (tgt : Int)) (k : Z M post tgt lv st h) : Z M post pc lv (vI x :: st) h := by
  intro p l e s m args below meth c D r ca B H locs ls P L
  have k := k p l e s m args below meth c D r ca B H locs ls P L
  exact lv_tableOut B.1 B.2.1 hd (by rw [i32_to hx]; exact hq) ht k
theorem z_tabIn {dflt lo hi : Int} {offs : Array Int} {len : Nat} {x off : Int} {tgt : Nat} (hd : decode M.2.1 pc = .ok (.tableswitch dflt lo hi offs, len)) (hx : -2147483648 ≤ x ∧ x ≤ 2147483647) (h1 : lo ≤ x) (h2 : x ≤ hi) (ho : offs[(x - lo).toNat]? = some off) (ht : (pc : Int) + off = (tgt : Int)) (k : Z M post tgt lv st h) : Z M post pc lv (vI x :: st) h := by
  intro p l e s m args below meth c D r ca B H locs ls P L
  have k := k p l e s m args below meth c D r ca B H locs ls P L
  exact lv_tableIn B.1 B.2.1 hd (by rw [i32_to hx]; omega) (by rw [i32_to hx]; omega) (by rw [i32_to hx]; exact ho) ht k
theorem z_look {dflt : Int} {ps : Array (Int × Int)} {len : Nat} {x off : Int} {tgt : Nat} (hd : decode M.2.1 pc = .ok (.lookupswitch dflt ps, len)) (hp : (ps.toList.zip (ps.toList.drop 1)).all (fun (a, next) => a.1 < next.1) = true) (hx : -2147483648 ≤ x ∧ x ≤ 2147483647) (ho : Op.lookupswitch.offset ps.toList dflt x = off) (ht : (pc : Int) + off = (tgt : Int)) (k : Z M post tgt lv st h) : Z M post pc lv (vI x :: st) h := by
  intro p l e s m args below meth c D r ca B H locs ls P L
  have k := k p l e s m args below meth c D r ca B H locs ls P L
  exact lv_lookup B.1 B.2.1 hd hp (by rw [i32_to hx]; exact ho) ht k
theorem z_ireturn {x : Int} (hr : M.2.2.2.1 = some .int) (hd : decode M.2.1 pc = .ok (.ireturn, 1)) (hq : post (some (vI x)) h) : Z M post pc lv [vI x] h := by
  intro p l e s m args below meth c D r ca B H locs ls P L
  exact W.iret B.1 B.2.1 (B.2.2.2.2.2.1.trans hr) (fun t ht hW => ⟨some (vI x), h, hq, rfl, by rw [ht]; exact P.1, P.2.F ht⟩) P.2.2.2 hd B.2.2.2.2.2.2.1
theorem z_zreturn {x : Int} (hr : M.2.2.2.1 = some .boolean) (hx : x = 0 ∨ x = 1) (hd : decode M.2.1 pc = .ok (.ireturn, 1)) (hq : post (some (vI x)) h) : Z M post pc lv [vI x] h := by
  intro p l e s m args below meth c D r ca B H locs ls P L
  exact W.zret B.1 B.2.1 (B.2.2.2.2.2.1.trans hr) (tv_zb hx).1 (fun t ht hW => ⟨some (vI x), h, hq, rfl, by rw [ht]; exact P.1, P.2.F ht⟩) P.2.2.2 hd B.2.2.2.2.2.2.1
theorem z_lreturn {x : Int} (hr : M.2.2.2.1 = some .long) (hd : decode M.2.1 pc = .ok (.lreturn, 1)) (hq : post (some (vL x)) h) : Z M post pc lv [vL x] h := by
  intro p l e s m args below meth c D r ca B H locs ls P L
  exact W.lret B.1 B.2.1 (B.2.2.2.2.2.1.trans hr) (fun t ht hW => ⟨some (vL x), h, hq, rfl, by rw [ht]; exact P.1, P.2.F ht⟩) P.2.2.2 hd B.2.2.2.2.2.2.1
theorem z_return (hr : M.2.2.2.1 = none) (hd : decode M.2.1 pc = .ok (.return_, 1)) (hq : post none h) : Z M post pc lv [] h := by
  intro p l e s m args below meth c D r ca B H locs ls P L
  exact W.vret B.1 B.2.1 (B.2.2.2.2.2.1.trans hr) (fun t ht hW => ⟨none, h, hq, rfl, by rw [ht]; exact P.1, P.2.F ht⟩) P.2.2.2 hd B.2.2.2.2.2.2.1
end ZR
end
section
/-- a field's link: the number of the object's sort, the place of the field -/
def zF (own : String) (idx c k : Nat) : Prop := c < 13 ∧ k < zNN c ∧ Cond.fieldLink own idx (zTT c k).1 (zTT c k).2.1 (zTT c k).2.2.1 ∈ zt
def zisI (t : FieldType) : Bool := match t with
  | .int => true
  | .boolean => true
  | _ => false
def zisL (t : FieldType) : Bool := match t with
  | .long => true
  | _ => false
theorem fvI {r : Nat → Nat} {t : FieldType} {x : Int} (h : zisI t = true) : fv r t x = tv r (vI x) := by
  cases t <;> first | rfl | cases h
theorem fvL {r : Nat → Nat} {t : FieldType} {x : Int} (h : zisL t = true) : fv r t x = tv r (vL x) := by
  cases t <;> first | rfl | cases h
theorem fvR {r : Nat → Nat} {t : FieldType} {x : Int} (h : zisR t = true) : fv r t x = tv r (vR x.toNat) := by
  cases t <;> first | rfl | cases h
theorem zfs_at {r : Nat → Nat} {h : zH} {a c k : Nat} (hk : k < zNN c) : ((List.range (zNN c)).map (fun k => fv r (zty c k) (zsv h c a k)))[k]? = some (fv r (zty c k) (zsv h c a k)) := by
  simp [hk]
theorem zfs_set {r : Nat → Nat} {h : zH} {a c k : Nat} {x : Int} (hs : zstat c k = false) : (List.range (zNN c)).map (fun j => fv r (zty c j) (zsv (zup h a k x) c a j)) = ((List.range (zNN c)).map (fun j => fv r (zty c j) (zsv h c a j))).set k (fv r (zty c k) x) := by
  apply List.ext_getElem?
  intro j
  by_cases hj : j < zNN c
  · by_cases hjk : j = k
    · subst hjk
      rw [List.getElem?_set_self (by simpa using hj)]
      simp [hj, zup_same, zsv, hs]
    · rw [List.getElem?_set_ne (Ne.symm hjk)]
      simp [hj, zup, hjk, zsv]
  · rw [List.getElem?_eq_none (by simpa using hj), List.getElem?_eq_none (by simpa using hj)]
theorem zup_off {h : zH} {a k : Nat} {x : Int} : ∀ b, b ≠ a → ∀ j, zup h a k x b j = h b j := fun b hb j => zup_other (fun q => hb q.1)
section ZH
variable {M : zM} {post : Option zV → zH → Prop} {pc : Nat} {lv st : List zV} {h : zH}
theorem zg_get {a c k idx : Nat} {v : zV} (hc : (zks a).1 = c) (hf : zF M.1.cls idx c k) (hv : ∀ r, fv r (zty c k) (zsv h c a k) = tv r v) (hd : decode M.2.1 pc = .ok (.getfield idx, 3)) (kk : Z M post (pc + 3) lv (v :: st) h) : Z M post pc lv (vR a :: st) h := by
  intro p l e s m args below meth c9 D r ca B H locs ls P L
  have k9 := kk p l e s m args below meth c9 D r ca B H locs ls P L
  have ha : a < 56 := zks_lt hc (by have := hf.1; omega)
  have he : (wd r ca h)[a]? = some (r a, .inr (c, (List.range (zNN c)).map (fun k => fv r (zty c k) (zsv h c a k)))) := by rw [wd_at ha, zcell_obj hc hf.1]
  exact va_get (D := D) (C := zRR c) (T := zTT c) (N := zNN c) B.1 B.2.1 B.2.2.2.2.1 (zcl_zt hf.1) B.2.2.2.1 B.2.2.2.2.2.2.2.1 P.1 a he (zcl_at c hf.1) k hf.2.1 (B.2.2.2.2.1 _ hf.2.2) (fun _ q => q) (by rw [zfs_at hf.2.1, hv r]) hd k9
theorem zsv_I {h : zH} {c a k : Nat} (h1 : zisI (zty c k) = true ∨ zisL (zty c k) = true) : zsv h c a k = h a k := by
  have : zisR (zty c k) = false := by
    revert h1
    generalize zty c k = t
    cases t <;> simp [zisI, zisL, zisR]
  simp [zsv, zstat, this]
theorem z_getI {a c k idx : Nat} (hf : zF M.1.cls idx c k) (hc : (zks a).1 = c) (ht : zisI (zty c k) = true) (hd : decode M.2.1 pc = .ok (.getfield idx, 3)) (kk : Z M post (pc + 3) lv (vI (h a k) :: st) h) : Z M post pc lv (vR a :: st) h := zg_get hc hf (fun _ => by rw [zsv_I (Or.inl ht)]; exact fvI ht) hd kk
theorem z_getL {a c k idx : Nat} (hf : zF M.1.cls idx c k) (hc : (zks a).1 = c) (ht : zisL (zty c k) = true) (hd : decode M.2.1 pc = .ok (.getfield idx, 3)) (kk : Z M post (pc + 3) lv (vL (h a k) :: st) h) : Z M post pc lv (vR a :: st) h := zg_get hc hf (fun _ => by rw [zsv_I (Or.inr ht)]; exact fvL ht) hd kk
theorem z_getR {a c k idx q : Nat} (hf : zF M.1.cls idx c k) (hc : (zks a).1 = c) (ht : zstat c k = true) (hq : zsr a k = q) (hd : decode M.2.1 pc = .ok (.getfield idx, 3)) (kk : Z M post (pc + 3) lv (vR q :: st) h) : Z M post pc lv (vR a :: st) h := zg_get hc hf (fun r => by
  have h1 : zisR (zty c k) = true := by
    unfold zstat at ht
    exact (Bool.and_eq_true_iff.mp ht).1
  rw [fvR h1]
  simp only [zsv, ht, if_true, hq]
  rfl) hd kk
theorem z_getW {k idx q : Nat} (hf : zF M.1.cls idx 11 k) (hk : k = 1 ∨ k = 2) (hq : h 0 k = (q : Int)) (hd : decode M.2.1 pc = .ok (.getfield idx, 3)) (kk : Z M post (pc + 3) lv (vR q :: st) h) : Z M post pc lv (vR 0 :: st) h := zg_get rfl hf (fun r => by
  rcases hk with rfl | rfl
  · show fv r (.object "RoseWheel$Window") (h 0 1) = _
    rw [hq]; rfl
  · show fv r (.object "RoseWheel$Window") (h 0 2) = _
    rw [hq]; rfl) hd kk
theorem zg_put {a c k idx : Nat} {v : zV} {x : Int} (hc : (zks a).1 = c) (hf : zF M.1.cls idx c k) (hfin : (zTT c k).2.2.2 = false) (hs : zstat c k = false) (hv : ∀ r, fv r (zty c k) x = tv r v) (hn : ∀ r, narrow (zty c k) (tv r v) = tv r v ∧ fits (zty c k) (tv r v) = true) (hd : decode M.2.1 pc = .ok (.putfield idx, 3)) (kk : Z M post (pc + 3) lv st (zup h a k x)) : Z M post pc lv (v :: vR a :: st) h := by
  intro p l e s m args below meth c9 D r ca B H locs ls P L
  have ha : a < 56 := zks_lt hc (by have := hf.1; omega)
  have he : (wd r ca h)[a]? = some (r a, .inr (c, (List.range (zNN c)).map (fun k => fv r (zty c k) (zsv h c a k)))) := by rw [wd_at ha, zcell_obj hc hf.1]
  have hw : wd r ca (zup h a k x) = (wd r ca h).set a (r a, .inr (c, ((List.range (zNN c)).map (fun k => fv r (zty c k) (zsv h c a k))).set k (tv r v))) := by
    rw [wd_set (h := h) (a := a) zup_off, zcell_obj hc hf.1, zfs_set hs, hv r]
  refine va_put (D := D) (C := zRR c) (T := zTT c) (N := zNN c) B.1 B.2.1 B.2.2.2.2.1 (zcl_zt hf.1) (zty c) (zcl_ty c hf.1) (zcl_nm c hf.1) B.2.2.2.1 B.2.2.2.2.2.2.2.1 P.1 (B.2.2.2.2.2.2.2.2.va ca h) P.2 a he (zcl_at c hf.1) k hf.2.1 (B.2.2.2.2.1 _ hf.2.2) (fun _ q => q) hfin (zcl_ty c hf.1 k hf.2.1) (hn r).1 (hn r).2 (by simpa using hf.2.1) hd (fun H1 locs1 hP1 _ hS1 => ?_)
  rw [← hw] at hP1
  exact kk p l e s m args below meth c9 D r ca B H1 locs1 ls ⟨hP1, hS1⟩ L
theorem z_putI {a c k idx : Nat} {x : Int} (hf : zF M.1.cls idx c k) (hc : (zks a).1 = c) (ht : zty c k = .int) (hfin : (zTT c k).2.2.2 = false) (hd : decode M.2.1 pc = .ok (.putfield idx, 3)) (kk : Z M post (pc + 3) lv st (zup h a k x)) : Z M post pc lv (vI x :: vR a :: st) h := zg_put hc hf hfin (by simp [zstat, ht, zisR]) (fun _ => fvI (by rw [ht]; rfl)) (fun _ => by rw [ht]; exact ⟨rfl, rfl⟩) hd kk
theorem z_putB {a c k idx : Nat} {x : Int} (hf : zF M.1.cls idx c k) (hc : (zks a).1 = c) (ht : zty c k = .boolean) (hfin : (zTT c k).2.2.2 = false) (hx : x = 0 ∨ x = 1) (hd : decode M.2.1 pc = .ok (.putfield idx, 3)) (kk : Z M post (pc + 3) lv st (zup h a k x)) : Z M post pc lv (vI x :: vR a :: st) h := zg_put hc hf hfin (by simp [zstat, ht, zisR]) (fun _ => fvI (by rw [ht]; rfl)) (fun _ => by rw [ht]; exact tv_zb hx) hd kk
theorem z_putL {a c k idx : Nat} {x : Int} (hf : zF M.1.cls idx c k) (hc : (zks a).1 = c) (ht : zty c k = .long) (hfin : (zTT c k).2.2.2 = false) (hd : decode M.2.1 pc = .ok (.putfield idx, 3)) (kk : Z M post (pc + 3) lv st (zup h a k x)) : Z M post pc lv (vL x :: vR a :: st) h := zg_put hc hf hfin (by simp [zstat, ht, zisR]) (fun _ => fvL (by rw [ht]; rfl)) (fun _ => by rw [ht]; exact ⟨rfl, rfl⟩) hd kk
theorem z_putR {a c k idx q : Nat} (hf : zF M.1.cls idx c k) (hc : (zks a).1 = c) (ht : zisR (zty c k) = true) (hs : zstat c k = false) (hfin : (zTT c k).2.2.2 = false) (hd : decode M.2.1 pc = .ok (.putfield idx, 3)) (kk : Z M post (pc + 3) lv st (zup h a k (q : Int))) : Z M post pc lv (vR q :: vR a :: st) h := zg_put hc hf hfin hs (fun r => by rw [fvR ht]; rfl) (fun r => by
  revert ht
  generalize zty c k = t
  intro ht
  cases t <;> first | exact ⟨rfl, rfl⟩ | cases ht) hd kk
-- arrays
theorem z_iald {a n : Nat} {i : Int} (hk : zks a = (100, n)) (hi : 0 ≤ i ∧ i < n) (hd : decode M.2.1 pc = .ok (.iaload, 1)) (kk : Z M post (pc + 1) lv (vI (h a i.toNat) :: st) h) : Z M post pc lv (vI i :: vR a :: st) h := by
  intro p l e s m args below meth c9 D r ca B H locs ls P L
  have k9 := kk p l e s m args below meth c9 D r ca B H locs ls P L
  have ha : a < 56 := zks_lt (k := 100) (by rw [hk]) (by omega)
  have hs := zks_small a
  rw [hk] at hs
  have hs : n ≤ 1146 := hs
  have he : (wd r ca h)[a]? = some (r a, .inl (ca 0, n, .inl (fun j => Int32.ofInt (h a j)))) := by rw [wd_at ha, zcell_int hk]
  refine va_iald (D := D) B.1 B.2.1 B.2.2.2.2.2.2.2.1 P.1 a 0 he rfl (i32_in hi (by omega)) hd ?_
  rw [i32_clamp (by omega)]
  exact k9
theorem z_bald {a n : Nat} {i : Int} (hk : zks a = (101, n)) (hi : 0 ≤ i ∧ i < n) (hd : decode M.2.1 pc = .ok (.baload, 1)) (kk : Z M post (pc + 1) lv (vI (h a i.toNat) :: st) h) : Z M post pc lv (vI i :: vR a :: st) h := by
  intro p l e s m args below meth c9 D r ca B H locs ls P L
  have k9 := kk p l e s m args below meth c9 D r ca B H locs ls P L
  have ha : a < 56 := zks_lt (k := 101) (by rw [hk]) (by omega)
  have hs := zks_small a
  rw [hk] at hs
  have hs : n ≤ 1146 := hs
  have he : (wd r ca h)[a]? = some (r a, .inl (ca 1, n, .inl (fun j => Int32.ofInt (h a j)))) := by rw [wd_at ha, zcell_bool hk]
  refine va_zald (D := D) B.1 B.2.1 B.2.2.2.2.2.2.2.1 P.1 a 1 he rfl (i32_in hi (by omega)) hd ?_
  rw [i32_clamp (by omega)]
  exact k9
theorem z_aald {a n q t : Nat} {i : Int} (hk : zks a = (t, n)) (ht : t = 102 ∨ t = 103) (hi : 0 ≤ i ∧ i < n) (hq : zsr a i.toNat = q) (hd : decode M.2.1 pc = .ok (.aaload, 1)) (kk : Z M post (pc + 1) lv (vR q :: st) h) : Z M post pc lv (vI i :: vR a :: st) h := by
  intro p l e s m args below meth c9 D r ca B H locs ls P L
  have k9 := kk p l e s m args below meth c9 D r ca B H locs ls P L
  have ha : a < 56 := zks_lt (k := t) (by rw [hk]) (by omega)
  have hs := zks_small a
  rw [hk] at hs
  have hs : n ≤ 1146 := hs
  have he : (wd r ca h)[a]? = some (r a, .inl (ca (t - 100), n, .inr (.inr (.inr (.inr (fun j => some (r (zsr a j)))))))) := by rw [wd_at ha, zcell_refs hk (by omega)]
  rcases ht with rfl | rfl
  · refine va_aldq (D := D) (C := "RoseWheel$Days") B.1 B.2.1 B.2.2.2.2.2.2.2.1 P.1 a 2 he rfl (i32_in hi (by omega)) hd ?_
    rw [i32_clamp (by omega), hq]
    exact k9
  · refine va_aldq (D := D) (C := "RoseWheel$One") B.1 B.2.1 B.2.2.2.2.2.2.2.1 P.1 a 3 he rfl (i32_in hi (by omega)) hd ?_
    rw [i32_clamp (by omega), hq]
    exact k9
theorem zarr_set {h : zH} {a i : Nat} {x : Int} : (fun j => Int32.ofInt (zup h a i x a j)) = upd (fun j => Int32.ofInt (h a j)) i (Int32.ofInt x) := by
  funext j
  by_cases hj : j = i
  · subst hj; simp [upd, zup_same]
  · simp [upd, hj, zup]
theorem z_iast {a n : Nat} {i x : Int} (hk : zks a = (100, n)) (hi : 0 ≤ i ∧ i < n) (hd : decode M.2.1 pc = .ok (.iastore, 1)) (kk : Z M post (pc + 1) lv st (zup h a i.toNat x)) : Z M post pc lv (vI x :: vI i :: vR a :: st) h := by
  intro p l e s m args below meth c9 D r ca B H locs ls P L
  have ha : a < 56 := zks_lt (k := 100) (by rw [hk]) (by omega)
  have hs := zks_small a
  rw [hk] at hs
  have hs : n ≤ 1146 := hs
  have he : (wd r ca h)[a]? = some (r a, .inl (ca 0, n, .inl (fun j => Int32.ofInt (h a j)))) := by rw [wd_at ha, zcell_int hk]
  have hw : wd r ca (zup h a i.toNat x) = (wd r ca h).set a (r a, .inl (ca 0, n, .inl (upd (fun j => Int32.ofInt (h a j)) i.toNat (Int32.ofInt x)))) := by
    rw [wd_set (h := h) (a := a) zup_off, zcell_int hk, zarr_set]
  refine va_iast (D := D) B.1 B.2.1 B.2.2.2.2.2.2.2.1 P.1 (B.2.2.2.2.2.2.2.2.va ca h) P.2 a 0 he rfl (i32_in hi (by omega)) hd (fun H1 locs1 hP1 _ hS1 => ?_)
  rw [i32_clamp (by omega), ← hw] at hP1
  exact kk p l e s m args below meth c9 D r ca B H1 locs1 ls ⟨hP1, hS1⟩ L
theorem z_bast {a n : Nat} {i x : Int} (hk : zks a = (101, n)) (hi : 0 ≤ i ∧ i < n) (hx : x = 0 ∨ x = 1) (hd : decode M.2.1 pc = .ok (.bastore, 1)) (kk : Z M post (pc + 1) lv st (zup h a i.toNat x)) : Z M post pc lv (vI x :: vI i :: vR a :: st) h := by
  intro p l e s m args below meth c9 D r ca B H locs ls P L
  have ha : a < 56 := zks_lt (k := 101) (by rw [hk]) (by omega)
  have hs := zks_small a
  rw [hk] at hs
  have hs : n ≤ 1146 := hs
  have he : (wd r ca h)[a]? = some (r a, .inl (ca 1, n, .inl (fun j => Int32.ofInt (h a j)))) := by rw [wd_at ha, zcell_bool hk]
  have hw : wd r ca (zup h a i.toNat x) = (wd r ca h).set a (r a, .inl (ca 1, n, .inl (upd (fun j => Int32.ofInt (h a j)) i.toNat (Int32.ofInt x)))) := by
    rw [wd_set (h := h) (a := a) zup_off, zcell_bool hk, zarr_set]
  have hnx : vp_nar .boolean (Int32.ofInt x) = Int32.ofInt x := by
    rcases hx with rfl | rfl <;> decide
  refine va_zast (D := D) B.1 B.2.1 B.2.2.2.2.2.2.2.1 P.1 (B.2.2.2.2.2.2.2.2.va ca h) P.2 a 1 he rfl (i32_in hi (by omega)) hd (fun H1 locs1 hP1 _ hS1 => ?_)
  rw [i32_clamp (by omega), hnx, ← hw] at hP1
  exact kk p l e s m args below meth c9 D r ca B H1 locs1 ls ⟨hP1, hS1⟩ L
theorem z_alen {a t n : Nat} (hk : zks a = (t, n)) (ht : t = 100 ∨ t = 101 ∨ t = 102 ∨ t = 103) (hd : decode M.2.1 pc = .ok (.arraylength, 1)) (kk : Z M post (pc + 1) lv (vI (n : Int) :: st) h) : Z M post pc lv (vR a :: st) h := by
  intro p l e s m args below meth c9 D r ca B H locs ls P L
  have k9 := kk p l e s m args below meth c9 D r ca B H locs ls P L
  have ha : a < 56 := zks_lt (k := t) (by rw [hk]) (by omega)
  have e1 : Int32.ofNat n = Int32.ofInt (n : Int) := Int32.ofInt_eq_ofNat.symm
  rcases ht with rfl | rfl | rfl | rfl
  · exact va_alen (D := D) B.1 B.2.1 B.2.2.2.2.2.2.2.1 P.1 a 0 (by rw [wd_at ha, zcell_int hk]) rfl e1 hd k9
  · exact va_alen (D := D) B.1 B.2.1 B.2.2.2.2.2.2.2.1 P.1 a 1 (by rw [wd_at ha, zcell_bool hk]) rfl e1 hd k9
  · exact va_alen (D := D) B.1 B.2.1 B.2.2.2.2.2.2.2.1 P.1 a 2 (by rw [wd_at ha, zcell_refs hk (by omega)]) rfl e1 hd k9
  · exact va_alen (D := D) B.1 B.2.1 B.2.2.2.2.2.2.2.1 P.1 a 3 (by rw [wd_at ha, zcell_refs hk (by omega)]) rfl e1 hd k9
/-- System.arraycopy between rows of ints -/
def zcp (h : zH) (a0 a sp dp n : Nat) : zH := fun b j => if b = a ∧ dp ≤ j ∧ j < dp + n then h a0 (sp + (j - dp)) else h b j
theorem z_copy {a0 a n0 n1 idx : Nat} {sp dp n : Int} (hk0 : zks a0 = (100, n0)) (hk : zks a = (100, n1)) (h1 : 0 ≤ sp) (h2 : 0 ≤ dp) (h3 : 0 ≤ n) (h4 : sp + n ≤ n0) (h5 : dp + n ≤ n1)
    (hl : Cond.methodLink M.1.cls idx arraycopyName ∈ zt) (hnat : Cond.native arraycopyName ∈ zt) (hst : Cond.static arraycopyName ∈ zt) (hini : Cond.initialized "java/lang/System" ∈ zt) (hfr : 1 ≤ M.rm.frames) (hlo : (st.map vw).sum + (nativeFrameWords "java/lang/System" "arraycopy" 5 + 11) ≤ M.rm.locals)
    (hd : decode M.2.1 pc = .ok (.invokestatic idx, 3)) (kk : Z M post (pc + 3) lv st (zcp h a0 a sp.toNat dp.toNat n.toNat)) : Z M post pc lv (vI n :: vI dp :: vR a :: vI sp :: vR a0 :: st) h := by
  intro p l e s m args below meth c9 D r ca B H locs ls P L
  have ha : a < 56 := zks_lt (k := 100) (by rw [hk]) (by omega)
  have ha0 : a0 < 56 := zks_lt (k := 100) (by rw [hk0]) (by omega)
  have hs0 := zks_small a0
  rw [hk0] at hs0
  have hs0 : n0 ≤ 1146 := hs0
  have hs1 := zks_small a
  rw [hk] at hs1
  have hs1 : n1 ≤ 1146 := hs1
  have he0 : (wd r ca h)[a0]? = some (r a0, .inl (ca 0, n0, .inl (fun j => Int32.ofInt (h a0 j)))) := by rw [wd_at ha0, zcell_int hk0]
  have he : (wd r ca h)[a]? = some (r a, .inl (ca 0, n1, .inl (fun j => Int32.ofInt (h a j)))) := by rw [wd_at ha, zcell_int hk]
  have hf : (fun j => Int32.ofInt (zcp h a0 a sp.toNat dp.toNat n.toNat a j)) = va_cpy (fun j => Int32.ofInt (h a0 j)) (fun j => Int32.ofInt (h a j)) sp.toNat dp.toNat n.toNat := by
    funext j
    unfold zcp va_cpy
    by_cases hj : dp.toNat ≤ j ∧ j < dp.toNat + n.toNat
    · rw [if_pos ⟨rfl, hj⟩, if_pos hj]
    · rw [if_neg (fun q => hj q.2), if_neg hj]
  have hw : wd r ca (zcp h a0 a sp.toNat dp.toNat n.toNat) = (wd r ca h).set a (r a, .inl (ca 0, n1, .inl (va_cpy (fun j => Int32.ofInt (h a0 j)) (fun j => Int32.ofInt (h a j)) sp.toNat dp.toNat n.toNat))) := by
    rw [wd_set (h := h) (a := a) (fun b hb j => by simp [zcp, hb]), zcell_int hk, hf]
  have hlt : ∀ z : Int, 0 ≤ z → z ≤ 1146 → ¬ Int32.ofInt z < 0 := fun z hz hz2 => by
    rw [i32_0, i32_lt (by omega) (by omega)]; omega
  refine va_copyi (D := D) B.1 B.2.1 (B.2.2.1.trans L.1.symm) B.2.2.2.1 (B.2.2.2.2.1 _ hl) (B.2.2.2.2.1 _ hnat) (B.2.2.2.2.1 _ hst) (B.2.2.2.2.1 _ hini) B.2.2.2.2.2.2.2.1 P.1 (B.2.2.2.2.2.2.2.2.va ca h) P.2 a0 a 0 0 he0 he rfl rfl rfl (hlt _ h1 (by omega)) (hlt _ h2 (by omega)) (hlt _ h3 (by omega))
    (by rw [i32_clamp (by omega), i32_clamp (by omega)]; omega) (by rw [i32_clamp (by omega), i32_clamp (by omega)]; omega) (fun _ _ => rfl) hfr (by rw [tv_cats]; exact hlo) hd (fun H1 locs1 hP1 _ hS1 => ?_)
  rw [i32_clamp (by omega), i32_clamp (by omega), i32_clamp (by omega), ← hw] at hP1
  exact kk p l e s m args below meth c9 D r ca B H1 locs1 ls ⟨hP1, hS1⟩ L
end ZH
end
section
/-- what a callee brings along -/
def zG (N : zM) (n : Nat) : Prop := N.code ∈ zt ∧ Cond.initialized N.1.cls ∈ zt ∧ N.1.cls ≠ "java/lang/invoke/MethodHandle" ∧ N.1.cls ≠ "java/lang/invoke/VarHandle" ∧ (parseMethodDescriptor N.1.desc).map (fun d => d.parameters.length) = some n
/-- the callee's room within the caller's -/
def zRm (M N : zM) : Prop := N.rm.frames + 1 ≤ M.rm.frames ∧ 8 + (N.2.2.1 + 11) + N.rm.locals ≤ M.rm.locals
theorem zGood {ws : List Cond} (h : ∀ w ∈ ws, w ∈ zt) : GoodIn zt ws := fun w hw => ⟨h w hw, good_of_word (zt_good w (h w hw))⟩
theorem zws_in {N : zM} {n : Nat} (hg : zG N n) : ∀ w ∈ zws N, w ∈ zt := by
  intro w hw
  rcases List.mem_cons.mp hw with rfl | hw
  · exact hg.1
  · exact hw
section ZK
variable {M N : zM} {post postN : Option zV → zH → Prop} {pc idx n : Nat} {lv st av : List zV} {h : zH}
theorem z_after {p : Program} {l : Launch} {e : Env} {R : Room} {s : State} {m : MethodId} {args : Array Value} {below : List Frame} {meth : Method} {c : Code} {H : Heap} {locs : List Loc} {Q : State → Prop} {D : va_G} {r : Nat → Nat} {ca : Nat → ClassId} {ls : Array Slot} {st0 rest : List Value} {a : Array Value}
    (hr : va_Run p l e R s m args below meth c H locs 0 0 0 0 (F0 m pc ls st0) rest (zQ D r ca postN a) (zA r)) (hS : va_S (zA r) s.heap H locs)
    (kk : ∀ (v : Option zV) (h1 : zH) (H1 : Heap) (locs1 : List Loc), postN v h1 → va_P D zcl (wd r ca h1) H1 → va_S (zA r) s.heap H1 locs1 → W p l e R s m args below meth c H1 locs1 0 0 Q (F0 m (pc + 3) ls ((v.map (tv r)).toList ++ rest))) : W p l e R s m args below meth c H locs 0 0 Q (F0 m pc ls st0) := by
  intro T hT X
  obtain ⟨v, st₀, t, T', L, h0, X', hL, e1, e2, ⟨w, h1, hp, hv, hP, hz, hk⟩, st⟩ := hr T hT X
  have hv : v = w.map (tv r) := Outcome.returned.inj hv
  rw [h0] at hz hk
  obtain ⟨t2, a1, b1⟩ := kk w h1 T'.heap (locs ++ L) hp (by rw [e1]; exact hP)
    ⟨Nat.le_trans hS.1 (by rw [e1]; exact hz), fun q g1 g2 => by rw [e1, hk q (Nat.lt_of_lt_of_le g1 hS.1) g2]; exact hS.2.1 q g1 g2, fun q hq => by
      rcases List.mem_append.mp hq with g | g
      · exact hS.2.2 q g
      · exact hL q g⟩ T' rfl X'
  rw [← hv] at a1
  exact ⟨t2, st t2 a1, b1⟩
theorem zst_map {r : Nat → Nat} {v : Option zV} {st : List zV} : (v.map (tv r)).toList ++ st.map (tv r) = (v.toList ++ st).map (tv r) := by
  cases v <;> simp
theorem zg_callS (hC : zC N av h postN) (hg : zG N n) (hl : Cond.methodLink M.1.cls idx N.1 ∈ zt) (hst : Cond.static N.1 ∈ zt) (hrm : zRm M N) (hn : av.length = n) (hw : (st.map vw).sum ≤ 8) (hd : decode M.2.1 pc = .ok (.invokestatic idx, 3))
    (k : ∀ v h1, postN v h1 → Z M post (pc + 3) lv (v.toList ++ st) h1) : Z M post pc lv (av.reverse ++ st) h := by
  intro p l e s m args below meth c D r ca B H locs ls P L
  have hT : GoodIn zt (va_wsS M.1.cls idx N.1 (zws N)) := zGood (fun w hw => by
    unfold va_wsS at hw
    rcases List.mem_append.mp hw with q | q
    · simp only [List.mem_cons, List.not_mem_nil, or_false] at q
      rcases q with rfl | rfl | rfl
      · exact hl
      · exact hst
      · exact hg.2.1
    · exact zws_in hg w q)
  refine z_after (va_runS (As := av.map (tv r)) (rest := st.map (tv r)) ⟨B.1, B.2.1, B.2.2.1, B.2.2.2.1, B.2.2.2.2.1⟩ (hC l D r ca) (va_cwS n B.2.2.2.2.1 hT rfl rfl rfl hg.2.2 hrm) ⟨zPc_blind, fun U hU hW => ⟨rfl, by rw [hU]; exact P.1, va_K.moved hW.alike B.2.2.2.2.2.2.2.1, B.2.2.2.2.2.2.2.2⟩⟩ rfl (by rw [List.length_map]; exact hn) L.1 (by simp [List.map_reverse]) (lv_room (by rw [tv_cats]; exact hw)) hd ⟨Nat.le_refl _, Nat.le_refl _⟩) P.2 (fun v h1 H1 locs1 hp hP1 hS1 => ?_)
  rw [zst_map]
  exact k v h1 hp p l e s m args below meth c D r ca B H1 locs1 ls ⟨hP1, hS1⟩ L
theorem zg_callV {a : Nat} (hC : zC N (vR a :: av) h postN) (hg : zG N n) (hl : Cond.methodLink M.1.cls idx N.1 ∈ zt) (hi : Cond.instanceMethod N.1 ∈ zt) (hs : Cond.selects N.1.cls N.1 N.1 ∈ zt) {c0 : Nat} (hc0 : c0 < 13) (hca : (zks a).1 = c0) (hcn : zRR c0 = N.1.cls) (hrm : zRm M N) (hn : av.length = n) (hw : (st.map vw).sum ≤ 8) (hd : decode M.2.1 pc = .ok (.invokevirtual idx, 3))
    (k : ∀ v h1, postN v h1 → Z M post (pc + 3) lv (v.toList ++ st) h1) : Z M post pc lv (av.reverse ++ vR a :: st) h := by
  intro p l e s m args below meth c D r ca B H locs ls P L
  have hT : GoodIn zt (wsV M.1.cls idx N.1.cls N.1 (zws N)) := zGood (fun w hw => by
    unfold wsV at hw
    rcases List.mem_append.mp hw with q | q
    · simp only [List.mem_cons, List.not_mem_nil, or_false] at q
      rcases q with rfl | rfl | rfl | rfl
      · exact hl
      · exact hi
      · exact hs
      · exact hg.2.1
    · exact zws_in hg w q)
  have ha : a < 56 := zks_lt hca (by omega)
  have hrec := va_recv (s := s) (D := D) (ci := c0) (q0 := a) B.2.2.2.2.2.2.2.1 P.1 (zcl_at c0 hc0) (by rw [wd_at ha, zcell_obj hca hc0])
  rw [hcn] at hrec
  refine z_after (va_runV (C := N.1.cls) (b := r a) (As := av.map (tv r)) (rest := st.map (tv r)) ⟨B.1, B.2.1, B.2.2.1, B.2.2.2.1, B.2.2.2.2.1⟩ (hC l D r ca) (cwV n B.2.2.2.2.1 hT rfl rfl rfl ⟨rfl, hg.2.2⟩ hrm) ⟨zPc_blind, hrec, fun U hU hW => ⟨rfl, by rw [hU]; exact P.1, va_K.moved hW.alike B.2.2.2.2.2.2.2.1, B.2.2.2.2.2.2.2.2⟩⟩ rfl (by rw [List.length_map]; exact hn) L.1 (by simp [List.map_reverse]; rfl) (lv_room (by rw [tv_cats]; exact hw)) hd ⟨Nat.le_refl _, Nat.le_refl _⟩) P.2 (fun v h1 H1 locs1 hp hP1 hS1 => ?_)
  rw [zst_map]
  exact k v h1 hp p l e s m args below meth c D r ca B H1 locs1 ls ⟨hP1, hS1⟩ L
end ZK
/-- an exact end: a value and a world; nothing and a world -/
def pV (x : zV) (h0 : zH) : Option zV → zH → Prop := fun v h1 => v = some x ∧ h1 = h0
def p0 (h0 : zH) : Option zV → zH → Prop := fun v h1 => v = none ∧ h1 = h0
section ZC
variable {M N : zM} {post : Option zV → zH → Prop} {pc idx n : Nat} {lv st : List zV} {h h2 : zH}
theorem z_S0 {x : zV} (hC : zC N [] h (pV x h2)) (hg : zG N 0) (hs : Cond.static N.1 ∈ zt) (hl : Cond.methodLink M.1.cls idx N.1 ∈ zt) (hrm : zRm M N) (hw : (st.map vw).sum ≤ 8) (hd : decode M.2.1 pc = .ok (.invokestatic idx, 3)) (k : Z M post (pc + 3) lv (x :: st) h2) : Z M post pc lv (st) h := zg_callS hC hg hl hs hrm rfl hw hd (fun v h1 q => by obtain ⟨rfl, rfl⟩ := q; exact k)
theorem z_S0v (hC : zC N [] h (p0 h2)) (hg : zG N 0) (hs : Cond.static N.1 ∈ zt) (hl : Cond.methodLink M.1.cls idx N.1 ∈ zt) (hrm : zRm M N) (hw : (st.map vw).sum ≤ 8) (hd : decode M.2.1 pc = .ok (.invokestatic idx, 3)) (k : Z M post (pc + 3) lv st h2) : Z M post pc lv (st) h := zg_callS hC hg hl hs hrm rfl hw hd (fun v h1 q => by obtain ⟨rfl, rfl⟩ := q; exact k)
theorem z_V0 {a c0 : Nat} {x : zV} (hC : zC N [vR a] h (pV x h2)) (hg : zG N 0) (hi : Cond.instanceMethod N.1 ∈ zt ∧ Cond.selects N.1.cls N.1 N.1 ∈ zt) (hl : Cond.methodLink M.1.cls idx N.1 ∈ zt) (hca : (zks a).1 = c0) (hc0 : c0 < 13 ∧ zRR c0 = N.1.cls) (hrm : zRm M N) (hw : (st.map vw).sum ≤ 8) (hd : decode M.2.1 pc = .ok (.invokevirtual idx, 3)) (k : Z M post (pc + 3) lv (x :: st) h2) : Z M post pc lv (vR a :: st) h := zg_callV hC hg hl hi.1 hi.2 hc0.1 hca hc0.2 hrm rfl hw hd (fun v h1 q => by obtain ⟨rfl, rfl⟩ := q; exact k)
theorem z_V0v {a c0 : Nat} (hC : zC N [vR a] h (p0 h2)) (hg : zG N 0) (hi : Cond.instanceMethod N.1 ∈ zt ∧ Cond.selects N.1.cls N.1 N.1 ∈ zt) (hl : Cond.methodLink M.1.cls idx N.1 ∈ zt) (hca : (zks a).1 = c0) (hc0 : c0 < 13 ∧ zRR c0 = N.1.cls) (hrm : zRm M N) (hw : (st.map vw).sum ≤ 8) (hd : decode M.2.1 pc = .ok (.invokevirtual idx, 3)) (k : Z M post (pc + 3) lv st h2) : Z M post pc lv (vR a :: st) h := zg_callV hC hg hl hi.1 hi.2 hc0.1 hca hc0.2 hrm rfl hw hd (fun v h1 q => by obtain ⟨rfl, rfl⟩ := q; exact k)
theorem z_V0q {a c0 : Nat} {postN : Option zV → zH → Prop} (hC : zC N [vR a] h postN) (hg : zG N 0) (hi : Cond.instanceMethod N.1 ∈ zt ∧ Cond.selects N.1.cls N.1 N.1 ∈ zt) (hl : Cond.methodLink M.1.cls idx N.1 ∈ zt) (hca : (zks a).1 = c0) (hc0 : c0 < 13 ∧ zRR c0 = N.1.cls) (hrm : zRm M N) (hw : (st.map vw).sum ≤ 8) (hd : decode M.2.1 pc = .ok (.invokevirtual idx, 3)) (k : ∀ v h1, postN v h1 → Z M post (pc + 3) lv (v.toList ++ st) h1) : Z M post pc lv (vR a :: st) h := zg_callV hC hg hl hi.1 hi.2 hc0.1 hca hc0.2 hrm rfl hw hd k
theorem z_S1 {b0 : zV} {x : zV} (hC : zC N [b0] h (pV x h2)) (hg : zG N 1) (hs : Cond.static N.1 ∈ zt) (hl : Cond.methodLink M.1.cls idx N.1 ∈ zt) (hrm : zRm M N) (hw : (st.map vw).sum ≤ 8) (hd : decode M.2.1 pc = .ok (.invokestatic idx, 3)) (k : Z M post (pc + 3) lv (x :: st) h2) : Z M post pc lv (b0 :: st) h := zg_callS hC hg hl hs hrm rfl hw hd (fun v h1 q => by obtain ⟨rfl, rfl⟩ := q; exact k)
theorem z_S1v {b0 : zV} (hC : zC N [b0] h (p0 h2)) (hg : zG N 1) (hs : Cond.static N.1 ∈ zt) (hl : Cond.methodLink M.1.cls idx N.1 ∈ zt) (hrm : zRm M N) (hw : (st.map vw).sum ≤ 8) (hd : decode M.2.1 pc = .ok (.invokestatic idx, 3)) (k : Z M post (pc + 3) lv st h2) : Z M post pc lv (b0 :: st) h := zg_callS hC hg hl hs hrm rfl hw hd (fun v h1 q => by obtain ⟨rfl, rfl⟩ := q; exact k)
theorem z_V1 {b0 : zV} {a c0 : Nat} {x : zV} (hC : zC N [vR a, b0] h (pV x h2)) (hg : zG N 1) (hi : Cond.instanceMethod N.1 ∈ zt ∧ Cond.selects N.1.cls N.1 N.1 ∈ zt) (hl : Cond.methodLink M.1.cls idx N.1 ∈ zt) (hca : (zks a).1 = c0) (hc0 : c0 < 13 ∧ zRR c0 = N.1.cls) (hrm : zRm M N) (hw : (st.map vw).sum ≤ 8) (hd : decode M.2.1 pc = .ok (.invokevirtual idx, 3)) (k : Z M post (pc + 3) lv (x :: st) h2) : Z M post pc lv (b0 :: vR a :: st) h := zg_callV hC hg hl hi.1 hi.2 hc0.1 hca hc0.2 hrm rfl hw hd (fun v h1 q => by obtain ⟨rfl, rfl⟩ := q; exact k)
theorem z_V1v {b0 : zV} {a c0 : Nat} (hC : zC N [vR a, b0] h (p0 h2)) (hg : zG N 1) (hi : Cond.instanceMethod N.1 ∈ zt ∧ Cond.selects N.1.cls N.1 N.1 ∈ zt) (hl : Cond.methodLink M.1.cls idx N.1 ∈ zt) (hca : (zks a).1 = c0) (hc0 : c0 < 13 ∧ zRR c0 = N.1.cls) (hrm : zRm M N) (hw : (st.map vw).sum ≤ 8) (hd : decode M.2.1 pc = .ok (.invokevirtual idx, 3)) (k : Z M post (pc + 3) lv st h2) : Z M post pc lv (b0 :: vR a :: st) h := zg_callV hC hg hl hi.1 hi.2 hc0.1 hca hc0.2 hrm rfl hw hd (fun v h1 q => by obtain ⟨rfl, rfl⟩ := q; exact k)
theorem z_V1q {b0 : zV} {a c0 : Nat} {postN : Option zV → zH → Prop} (hC : zC N [vR a, b0] h postN) (hg : zG N 1) (hi : Cond.instanceMethod N.1 ∈ zt ∧ Cond.selects N.1.cls N.1 N.1 ∈ zt) (hl : Cond.methodLink M.1.cls idx N.1 ∈ zt) (hca : (zks a).1 = c0) (hc0 : c0 < 13 ∧ zRR c0 = N.1.cls) (hrm : zRm M N) (hw : (st.map vw).sum ≤ 8) (hd : decode M.2.1 pc = .ok (.invokevirtual idx, 3)) (k : ∀ v h1, postN v h1 → Z M post (pc + 3) lv (v.toList ++ st) h1) : Z M post pc lv (b0 :: vR a :: st) h := zg_callV hC hg hl hi.1 hi.2 hc0.1 hca hc0.2 hrm rfl hw hd k
theorem z_S2 {b0 b1 : zV} {x : zV} (hC : zC N [b0, b1] h (pV x h2)) (hg : zG N 2) (hs : Cond.static N.1 ∈ zt) (hl : Cond.methodLink M.1.cls idx N.1 ∈ zt) (hrm : zRm M N) (hw : (st.map vw).sum ≤ 8) (hd : decode M.2.1 pc = .ok (.invokestatic idx, 3)) (k : Z M post (pc + 3) lv (x :: st) h2) : Z M post pc lv (b1 :: b0 :: st) h := zg_callS hC hg hl hs hrm rfl hw hd (fun v h1 q => by obtain ⟨rfl, rfl⟩ := q; exact k)
theorem z_S2v {b0 b1 : zV} (hC : zC N [b0, b1] h (p0 h2)) (hg : zG N 2) (hs : Cond.static N.1 ∈ zt) (hl : Cond.methodLink M.1.cls idx N.1 ∈ zt) (hrm : zRm M N) (hw : (st.map vw).sum ≤ 8) (hd : decode M.2.1 pc = .ok (.invokestatic idx, 3)) (k : Z M post (pc + 3) lv st h2) : Z M post pc lv (b1 :: b0 :: st) h := zg_callS hC hg hl hs hrm rfl hw hd (fun v h1 q => by obtain ⟨rfl, rfl⟩ := q; exact k)
theorem z_V2 {b0 b1 : zV} {a c0 : Nat} {x : zV} (hC : zC N [vR a, b0, b1] h (pV x h2)) (hg : zG N 2) (hi : Cond.instanceMethod N.1 ∈ zt ∧ Cond.selects N.1.cls N.1 N.1 ∈ zt) (hl : Cond.methodLink M.1.cls idx N.1 ∈ zt) (hca : (zks a).1 = c0) (hc0 : c0 < 13 ∧ zRR c0 = N.1.cls) (hrm : zRm M N) (hw : (st.map vw).sum ≤ 8) (hd : decode M.2.1 pc = .ok (.invokevirtual idx, 3)) (k : Z M post (pc + 3) lv (x :: st) h2) : Z M post pc lv (b1 :: b0 :: vR a :: st) h := zg_callV hC hg hl hi.1 hi.2 hc0.1 hca hc0.2 hrm rfl hw hd (fun v h1 q => by obtain ⟨rfl, rfl⟩ := q; exact k)
theorem z_V2v {b0 b1 : zV} {a c0 : Nat} (hC : zC N [vR a, b0, b1] h (p0 h2)) (hg : zG N 2) (hi : Cond.instanceMethod N.1 ∈ zt ∧ Cond.selects N.1.cls N.1 N.1 ∈ zt) (hl : Cond.methodLink M.1.cls idx N.1 ∈ zt) (hca : (zks a).1 = c0) (hc0 : c0 < 13 ∧ zRR c0 = N.1.cls) (hrm : zRm M N) (hw : (st.map vw).sum ≤ 8) (hd : decode M.2.1 pc = .ok (.invokevirtual idx, 3)) (k : Z M post (pc + 3) lv st h2) : Z M post pc lv (b1 :: b0 :: vR a :: st) h := zg_callV hC hg hl hi.1 hi.2 hc0.1 hca hc0.2 hrm rfl hw hd (fun v h1 q => by obtain ⟨rfl, rfl⟩ := q; exact k)
theorem z_V2q {b0 b1 : zV} {a c0 : Nat} {postN : Option zV → zH → Prop} (hC : zC N [vR a, b0, b1] h postN) (hg : zG N 2) (hi : Cond.instanceMethod N.1 ∈ zt ∧ Cond.selects N.1.cls N.1 N.1 ∈ zt) (hl : Cond.methodLink M.1.cls idx N.1 ∈ zt) (hca : (zks a).1 = c0) (hc0 : c0 < 13 ∧ zRR c0 = N.1.cls) (hrm : zRm M N) (hw : (st.map vw).sum ≤ 8) (hd : decode M.2.1 pc = .ok (.invokevirtual idx, 3)) (k : ∀ v h1, postN v h1 → Z M post (pc + 3) lv (v.toList ++ st) h1) : Z M post pc lv (b1 :: b0 :: vR a :: st) h := zg_callV hC hg hl hi.1 hi.2 hc0.1 hca hc0.2 hrm rfl hw hd k
theorem z_S3 {b0 b1 b2 : zV} {x : zV} (hC : zC N [b0, b1, b2] h (pV x h2)) (hg : zG N 3) (hs : Cond.static N.1 ∈ zt) (hl : Cond.methodLink M.1.cls idx N.1 ∈ zt) (hrm : zRm M N) (hw : (st.map vw).sum ≤ 8) (hd : decode M.2.1 pc = .ok (.invokestatic idx, 3)) (k : Z M post (pc + 3) lv (x :: st) h2) : Z M post pc lv (b2 :: b1 :: b0 :: st) h := zg_callS hC hg hl hs hrm rfl hw hd (fun v h1 q => by obtain ⟨rfl, rfl⟩ := q; exact k)
theorem z_S3v {b0 b1 b2 : zV} (hC : zC N [b0, b1, b2] h (p0 h2)) (hg : zG N 3) (hs : Cond.static N.1 ∈ zt) (hl : Cond.methodLink M.1.cls idx N.1 ∈ zt) (hrm : zRm M N) (hw : (st.map vw).sum ≤ 8) (hd : decode M.2.1 pc = .ok (.invokestatic idx, 3)) (k : Z M post (pc + 3) lv st h2) : Z M post pc lv (b2 :: b1 :: b0 :: st) h := zg_callS hC hg hl hs hrm rfl hw hd (fun v h1 q => by obtain ⟨rfl, rfl⟩ := q; exact k)
theorem z_V3 {b0 b1 b2 : zV} {a c0 : Nat} {x : zV} (hC : zC N [vR a, b0, b1, b2] h (pV x h2)) (hg : zG N 3) (hi : Cond.instanceMethod N.1 ∈ zt ∧ Cond.selects N.1.cls N.1 N.1 ∈ zt) (hl : Cond.methodLink M.1.cls idx N.1 ∈ zt) (hca : (zks a).1 = c0) (hc0 : c0 < 13 ∧ zRR c0 = N.1.cls) (hrm : zRm M N) (hw : (st.map vw).sum ≤ 8) (hd : decode M.2.1 pc = .ok (.invokevirtual idx, 3)) (k : Z M post (pc + 3) lv (x :: st) h2) : Z M post pc lv (b2 :: b1 :: b0 :: vR a :: st) h := zg_callV hC hg hl hi.1 hi.2 hc0.1 hca hc0.2 hrm rfl hw hd (fun v h1 q => by obtain ⟨rfl, rfl⟩ := q; exact k)
theorem z_V3v {b0 b1 b2 : zV} {a c0 : Nat} (hC : zC N [vR a, b0, b1, b2] h (p0 h2)) (hg : zG N 3) (hi : Cond.instanceMethod N.1 ∈ zt ∧ Cond.selects N.1.cls N.1 N.1 ∈ zt) (hl : Cond.methodLink M.1.cls idx N.1 ∈ zt) (hca : (zks a).1 = c0) (hc0 : c0 < 13 ∧ zRR c0 = N.1.cls) (hrm : zRm M N) (hw : (st.map vw).sum ≤ 8) (hd : decode M.2.1 pc = .ok (.invokevirtual idx, 3)) (k : Z M post (pc + 3) lv st h2) : Z M post pc lv (b2 :: b1 :: b0 :: vR a :: st) h := zg_callV hC hg hl hi.1 hi.2 hc0.1 hca hc0.2 hrm rfl hw hd (fun v h1 q => by obtain ⟨rfl, rfl⟩ := q; exact k)
theorem z_V3q {b0 b1 b2 : zV} {a c0 : Nat} {postN : Option zV → zH → Prop} (hC : zC N [vR a, b0, b1, b2] h postN) (hg : zG N 3) (hi : Cond.instanceMethod N.1 ∈ zt ∧ Cond.selects N.1.cls N.1 N.1 ∈ zt) (hl : Cond.methodLink M.1.cls idx N.1 ∈ zt) (hca : (zks a).1 = c0) (hc0 : c0 < 13 ∧ zRR c0 = N.1.cls) (hrm : zRm M N) (hw : (st.map vw).sum ≤ 8) (hd : decode M.2.1 pc = .ok (.invokevirtual idx, 3)) (k : ∀ v h1, postN v h1 → Z M post (pc + 3) lv (v.toList ++ st) h1) : Z M post pc lv (b2 :: b1 :: b0 :: vR a :: st) h := zg_callV hC hg hl hi.1 hi.2 hc0.1 hca hc0.2 hrm rfl hw hd k
theorem z_S4 {b0 b1 b2 b3 : zV} {x : zV} (hC : zC N [b0, b1, b2, b3] h (pV x h2)) (hg : zG N 4) (hs : Cond.static N.1 ∈ zt) (hl : Cond.methodLink M.1.cls idx N.1 ∈ zt) (hrm : zRm M N) (hw : (st.map vw).sum ≤ 8) (hd : decode M.2.1 pc = .ok (.invokestatic idx, 3)) (k : Z M post (pc + 3) lv (x :: st) h2) : Z M post pc lv (b3 :: b2 :: b1 :: b0 :: st) h := zg_callS hC hg hl hs hrm rfl hw hd (fun v h1 q => by obtain ⟨rfl, rfl⟩ := q; exact k)
theorem z_S4v {b0 b1 b2 b3 : zV} (hC : zC N [b0, b1, b2, b3] h (p0 h2)) (hg : zG N 4) (hs : Cond.static N.1 ∈ zt) (hl : Cond.methodLink M.1.cls idx N.1 ∈ zt) (hrm : zRm M N) (hw : (st.map vw).sum ≤ 8) (hd : decode M.2.1 pc = .ok (.invokestatic idx, 3)) (k : Z M post (pc + 3) lv st h2) : Z M post pc lv (b3 :: b2 :: b1 :: b0 :: st) h := zg_callS hC hg hl hs hrm rfl hw hd (fun v h1 q => by obtain ⟨rfl, rfl⟩ := q; exact k)
theorem z_V4 {b0 b1 b2 b3 : zV} {a c0 : Nat} {x : zV} (hC : zC N [vR a, b0, b1, b2, b3] h (pV x h2)) (hg : zG N 4) (hi : Cond.instanceMethod N.1 ∈ zt ∧ Cond.selects N.1.cls N.1 N.1 ∈ zt) (hl : Cond.methodLink M.1.cls idx N.1 ∈ zt) (hca : (zks a).1 = c0) (hc0 : c0 < 13 ∧ zRR c0 = N.1.cls) (hrm : zRm M N) (hw : (st.map vw).sum ≤ 8) (hd : decode M.2.1 pc = .ok (.invokevirtual idx, 3)) (k : Z M post (pc + 3) lv (x :: st) h2) : Z M post pc lv (b3 :: b2 :: b1 :: b0 :: vR a :: st) h := zg_callV hC hg hl hi.1 hi.2 hc0.1 hca hc0.2 hrm rfl hw hd (fun v h1 q => by obtain ⟨rfl, rfl⟩ := q; exact k)
theorem z_V4v {b0 b1 b2 b3 : zV} {a c0 : Nat} (hC : zC N [vR a, b0, b1, b2, b3] h (p0 h2)) (hg : zG N 4) (hi : Cond.instanceMethod N.1 ∈ zt ∧ Cond.selects N.1.cls N.1 N.1 ∈ zt) (hl : Cond.methodLink M.1.cls idx N.1 ∈ zt) (hca : (zks a).1 = c0) (hc0 : c0 < 13 ∧ zRR c0 = N.1.cls) (hrm : zRm M N) (hw : (st.map vw).sum ≤ 8) (hd : decode M.2.1 pc = .ok (.invokevirtual idx, 3)) (k : Z M post (pc + 3) lv st h2) : Z M post pc lv (b3 :: b2 :: b1 :: b0 :: vR a :: st) h := zg_callV hC hg hl hi.1 hi.2 hc0.1 hca hc0.2 hrm rfl hw hd (fun v h1 q => by obtain ⟨rfl, rfl⟩ := q; exact k)
theorem z_V4q {b0 b1 b2 b3 : zV} {a c0 : Nat} {postN : Option zV → zH → Prop} (hC : zC N [vR a, b0, b1, b2, b3] h postN) (hg : zG N 4) (hi : Cond.instanceMethod N.1 ∈ zt ∧ Cond.selects N.1.cls N.1 N.1 ∈ zt) (hl : Cond.methodLink M.1.cls idx N.1 ∈ zt) (hca : (zks a).1 = c0) (hc0 : c0 < 13 ∧ zRR c0 = N.1.cls) (hrm : zRm M N) (hw : (st.map vw).sum ≤ 8) (hd : decode M.2.1 pc = .ok (.invokevirtual idx, 3)) (k : ∀ v h1, postN v h1 → Z M post (pc + 3) lv (v.toList ++ st) h1) : Z M post pc lv (b3 :: b2 :: b1 :: b0 :: vR a :: st) h := zg_callV hC hg hl hi.1 hi.2 hc0.1 hca hc0.2 hrm rfl hw hd k
theorem z_S5 {b0 b1 b2 b3 b4 : zV} {x : zV} (hC : zC N [b0, b1, b2, b3, b4] h (pV x h2)) (hg : zG N 5) (hs : Cond.static N.1 ∈ zt) (hl : Cond.methodLink M.1.cls idx N.1 ∈ zt) (hrm : zRm M N) (hw : (st.map vw).sum ≤ 8) (hd : decode M.2.1 pc = .ok (.invokestatic idx, 3)) (k : Z M post (pc + 3) lv (x :: st) h2) : Z M post pc lv (b4 :: b3 :: b2 :: b1 :: b0 :: st) h := zg_callS hC hg hl hs hrm rfl hw hd (fun v h1 q => by obtain ⟨rfl, rfl⟩ := q; exact k)
theorem z_S5v {b0 b1 b2 b3 b4 : zV} (hC : zC N [b0, b1, b2, b3, b4] h (p0 h2)) (hg : zG N 5) (hs : Cond.static N.1 ∈ zt) (hl : Cond.methodLink M.1.cls idx N.1 ∈ zt) (hrm : zRm M N) (hw : (st.map vw).sum ≤ 8) (hd : decode M.2.1 pc = .ok (.invokestatic idx, 3)) (k : Z M post (pc + 3) lv st h2) : Z M post pc lv (b4 :: b3 :: b2 :: b1 :: b0 :: st) h := zg_callS hC hg hl hs hrm rfl hw hd (fun v h1 q => by obtain ⟨rfl, rfl⟩ := q; exact k)
theorem z_V5 {b0 b1 b2 b3 b4 : zV} {a c0 : Nat} {x : zV} (hC : zC N [vR a, b0, b1, b2, b3, b4] h (pV x h2)) (hg : zG N 5) (hi : Cond.instanceMethod N.1 ∈ zt ∧ Cond.selects N.1.cls N.1 N.1 ∈ zt) (hl : Cond.methodLink M.1.cls idx N.1 ∈ zt) (hca : (zks a).1 = c0) (hc0 : c0 < 13 ∧ zRR c0 = N.1.cls) (hrm : zRm M N) (hw : (st.map vw).sum ≤ 8) (hd : decode M.2.1 pc = .ok (.invokevirtual idx, 3)) (k : Z M post (pc + 3) lv (x :: st) h2) : Z M post pc lv (b4 :: b3 :: b2 :: b1 :: b0 :: vR a :: st) h := zg_callV hC hg hl hi.1 hi.2 hc0.1 hca hc0.2 hrm rfl hw hd (fun v h1 q => by obtain ⟨rfl, rfl⟩ := q; exact k)
theorem z_V5v {b0 b1 b2 b3 b4 : zV} {a c0 : Nat} (hC : zC N [vR a, b0, b1, b2, b3, b4] h (p0 h2)) (hg : zG N 5) (hi : Cond.instanceMethod N.1 ∈ zt ∧ Cond.selects N.1.cls N.1 N.1 ∈ zt) (hl : Cond.methodLink M.1.cls idx N.1 ∈ zt) (hca : (zks a).1 = c0) (hc0 : c0 < 13 ∧ zRR c0 = N.1.cls) (hrm : zRm M N) (hw : (st.map vw).sum ≤ 8) (hd : decode M.2.1 pc = .ok (.invokevirtual idx, 3)) (k : Z M post (pc + 3) lv st h2) : Z M post pc lv (b4 :: b3 :: b2 :: b1 :: b0 :: vR a :: st) h := zg_callV hC hg hl hi.1 hi.2 hc0.1 hca hc0.2 hrm rfl hw hd (fun v h1 q => by obtain ⟨rfl, rfl⟩ := q; exact k)
theorem z_V5q {b0 b1 b2 b3 b4 : zV} {a c0 : Nat} {postN : Option zV → zH → Prop} (hC : zC N [vR a, b0, b1, b2, b3, b4] h postN) (hg : zG N 5) (hi : Cond.instanceMethod N.1 ∈ zt ∧ Cond.selects N.1.cls N.1 N.1 ∈ zt) (hl : Cond.methodLink M.1.cls idx N.1 ∈ zt) (hca : (zks a).1 = c0) (hc0 : c0 < 13 ∧ zRR c0 = N.1.cls) (hrm : zRm M N) (hw : (st.map vw).sum ≤ 8) (hd : decode M.2.1 pc = .ok (.invokevirtual idx, 3)) (k : ∀ v h1, postN v h1 → Z M post (pc + 3) lv (v.toList ++ st) h1) : Z M post pc lv (b4 :: b3 :: b2 :: b1 :: b0 :: vR a :: st) h := zg_callV hC hg hl hi.1 hi.2 hc0.1 hca hc0.2 hrm rfl hw hd k
end ZC
end
section
/-! methods, links -/
theorem G_kE_worth : zG M_kE_worth 1 := ⟨zt_t1 638 (by decide +kernel) rfl, zt_t1 9 (by decide +kernel) rfl, by decide, by decide, by decide +kernel⟩
theorem G_kB_worth : zG M_kB_worth 1 := ⟨zt_t1 643 (by decide +kernel) rfl, zt_t1 8 (by decide +kernel) rfl, by decide, by decide, by decide +kernel⟩
theorem G_kC_worth : zG M_kC_worth 1 := ⟨zt_t1 648 (by decide +kernel) rfl, zt_t1 10 (by decide +kernel) rfl, by decide, by decide, by decide +kernel⟩
theorem G_kD_worth : zG M_kD_worth 1 := ⟨zt_t1 653 (by decide +kernel) rfl, zt_t1 11 (by decide +kernel) rfl, by decide, by decide, by decide +kernel⟩
theorem G_d_debt : zG M_d_debt 2 := ⟨zt_t1 401 (by decide +kernel) rfl, zt_t1 4 (by decide +kernel) rfl, by decide, by decide, by decide +kernel⟩
theorem S_d_debt : Cond.static M_d_debt.1 ∈ zt := zt_t1 400 (by decide +kernel) rfl
theorem G_d_value : zG M_d_value 1 := ⟨zt_t1 379 (by decide +kernel) rfl, zt_t1 4 (by decide +kernel) rfl, by decide, by decide, by decide +kernel⟩
theorem I_d_value : Cond.instanceMethod M_d_value.1 ∈ zt ∧ Cond.selects M_d_value.1.cls M_d_value.1 M_d_value.1 ∈ zt := ⟨zt_t1 377 (by decide +kernel) rfl, zt_t1 378 (by decide +kernel) rfl⟩
theorem G_d_put : zG M_d_put 2 := ⟨zt_t1 359 (by decide +kernel) rfl, zt_t1 4 (by decide +kernel) rfl, by decide, by decide, by decide +kernel⟩
theorem I_d_put : Cond.instanceMethod M_d_put.1 ∈ zt ∧ Cond.selects M_d_put.1.cls M_d_put.1 M_d_put.1 ∈ zt := ⟨zt_t1 357 (by decide +kernel) rfl, zt_t1 358 (by decide +kernel) rfl⟩
theorem G_d_begin : zG M_d_begin 1 := ⟨zt_t1 352 (by decide +kernel) rfl, zt_t1 4 (by decide +kernel) rfl, by decide, by decide, by decide +kernel⟩
theorem I_d_begin : Cond.instanceMethod M_d_begin.1 ∈ zt ∧ Cond.selects M_d_begin.1.cls M_d_begin.1 M_d_begin.1 ∈ zt := ⟨zt_t1 350 (by decide +kernel) rfl, zt_t1 351 (by decide +kernel) rfl⟩
theorem G_d_remember : zG M_d_remember 0 := ⟨zt_t1 420 (by decide +kernel) rfl, zt_t1 4 (by decide +kernel) rfl, by decide, by decide, by decide +kernel⟩
theorem I_d_remember : Cond.instanceMethod M_d_remember.1 ∈ zt ∧ Cond.selects M_d_remember.1.cls M_d_remember.1 M_d_remember.1 ∈ zt := ⟨zt_t1 418 (by decide +kernel) rfl, zt_t1 419 (by decide +kernel) rfl⟩
theorem G_d_become : zG M_d_become 1 := ⟨zt_t1 669 (by decide +kernel) rfl, zt_t1 4 (by decide +kernel) rfl, by decide, by decide, by decide +kernel⟩
theorem I_d_become : Cond.instanceMethod M_d_become.1 ∈ zt ∧ Cond.selects M_d_become.1.cls M_d_become.1 M_d_become.1 ∈ zt := ⟨zt_t1 667 (by decide +kernel) rfl, zt_t1 668 (by decide +kernel) rfl⟩
theorem G_kG_worth : zG M_kG_worth 1 := ⟨zt_t1 658 (by decide +kernel) rfl, zt_t1 12 (by decide +kernel) rfl, by decide, by decide, by decide +kernel⟩
theorem G_n_add : zG M_n_add 2 := ⟨zt_t1 574 (by decide +kernel) rfl, zt_t1 5 (by decide +kernel) rfl, by decide, by decide, by decide +kernel⟩
theorem I_n_add : Cond.instanceMethod M_n_add.1 ∈ zt ∧ Cond.selects M_n_add.1.cls M_n_add.1 M_n_add.1 ∈ zt := ⟨zt_t1 572 (by decide +kernel) rfl, zt_t1 573 (by decide +kernel) rfl⟩
theorem G_kO_worth : zG M_kO_worth 1 := ⟨zt_t1 661 (by decide +kernel) rfl, zt_t1 7 (by decide +kernel) rfl, by decide, by decide, by decide +kernel⟩
theorem I_kO_worth : Cond.instanceMethod M_kO_worth.1 ∈ zt ∧ Cond.selects M_kO_worth.1.cls M_kO_worth.1 M_kO_worth.1 ∈ zt := ⟨zt_t1 633 (by decide +kernel) rfl, zt_t1 634 (by decide +kernel) rfl⟩
theorem G_t_add : zG M_t_add 1 := ⟨zt_t1 275 (by decide +kernel) rfl, zt_t1 2 (by decide +kernel) rfl, by decide, by decide, by decide +kernel⟩
theorem I_t_add : Cond.instanceMethod M_t_add.1 ∈ zt ∧ Cond.selects M_t_add.1.cls M_t_add.1 M_t_add.1 ∈ zt := ⟨zt_t1 273 (by decide +kernel) rfl, zt_t1 274 (by decide +kernel) rfl⟩
theorem G_t_readInto : zG M_t_readInto 1 := ⟨zt_t1 287 (by decide +kernel) rfl, zt_t1 2 (by decide +kernel) rfl, by decide, by decide, by decide +kernel⟩
theorem I_t_readInto : Cond.instanceMethod M_t_readInto.1 ∈ zt ∧ Cond.selects M_t_readInto.1.cls M_t_readInto.1 M_t_readInto.1 ∈ zt := ⟨zt_t1 285 (by decide +kernel) rfl, zt_t1 286 (by decide +kernel) rfl⟩
theorem G_t_readItem : zG M_t_readItem 1 := ⟨zt_t1 320 (by decide +kernel) rfl, zt_t1 2 (by decide +kernel) rfl, by decide, by decide, by decide +kernel⟩
theorem I_t_readItem : Cond.instanceMethod M_t_readItem.1 ∈ zt ∧ Cond.selects M_t_readItem.1.cls M_t_readItem.1 M_t_readItem.1 ∈ zt := ⟨zt_t1 318 (by decide +kernel) rfl, zt_t1 319 (by decide +kernel) rfl⟩
theorem G_t_readPane : zG M_t_readPane 1 := ⟨zt_t1 324 (by decide +kernel) rfl, zt_t1 2 (by decide +kernel) rfl, by decide, by decide, by decide +kernel⟩
theorem I_t_readPane : Cond.instanceMethod M_t_readPane.1 ∈ zt ∧ Cond.selects M_t_readPane.1.cls M_t_readPane.1 M_t_readPane.1 ∈ zt := ⟨zt_t1 322 (by decide +kernel) rfl, zt_t1 323 (by decide +kernel) rfl⟩
theorem G_t_readKeeps : zG M_t_readKeeps 1 := ⟨zt_t1 336 (by decide +kernel) rfl, zt_t1 2 (by decide +kernel) rfl, by decide, by decide, by decide +kernel⟩
theorem I_t_readKeeps : Cond.instanceMethod M_t_readKeeps.1 ∈ zt ∧ Cond.selects M_t_readKeeps.1.cls M_t_readKeeps.1 M_t_readKeeps.1 ∈ zt := ⟨zt_t1 334 (by decide +kernel) rfl, zt_t1 335 (by decide +kernel) rfl⟩
theorem G_t_readDrag : zG M_t_readDrag 1 := ⟨zt_t1 340 (by decide +kernel) rfl, zt_t1 2 (by decide +kernel) rfl, by decide, by decide, by decide +kernel⟩
theorem I_t_readDrag : Cond.instanceMethod M_t_readDrag.1 ∈ zt ∧ Cond.selects M_t_readDrag.1.cls M_t_readDrag.1 M_t_readDrag.1 ∈ zt := ⟨zt_t1 338 (by decide +kernel) rfl, zt_t1 339 (by decide +kernel) rfl⟩
theorem G_t_readPerson : zG M_t_readPerson 1 := ⟨zt_t1 344 (by decide +kernel) rfl, zt_t1 2 (by decide +kernel) rfl, by decide, by decide, by decide +kernel⟩
theorem I_t_readPerson : Cond.instanceMethod M_t_readPerson.1 ∈ zt ∧ Cond.selects M_t_readPerson.1.cls M_t_readPerson.1 M_t_readPerson.1 ∈ zt := ⟨zt_t1 342 (by decide +kernel) rfl, zt_t1 343 (by decide +kernel) rfl⟩
theorem G_t_readNumber : zG M_t_readNumber 2 := ⟨zt_t1 328 (by decide +kernel) rfl, zt_t1 2 (by decide +kernel) rfl, by decide, by decide, by decide +kernel⟩
theorem I_t_readNumber : Cond.instanceMethod M_t_readNumber.1 ∈ zt ∧ Cond.selects M_t_readNumber.1.cls M_t_readNumber.1 M_t_readNumber.1 ∈ zt := ⟨zt_t1 326 (by decide +kernel) rfl, zt_t1 327 (by decide +kernel) rfl⟩
theorem G_t_readSemicolon : zG M_t_readSemicolon 0 := ⟨zt_t1 332 (by decide +kernel) rfl, zt_t1 2 (by decide +kernel) rfl, by decide, by decide, by decide +kernel⟩
theorem I_t_readSemicolon : Cond.instanceMethod M_t_readSemicolon.1 ∈ zt ∧ Cond.selects M_t_readSemicolon.1.cls M_t_readSemicolon.1 M_t_readSemicolon.1 ∈ zt := ⟨zt_t1 330 (by decide +kernel) rfl, zt_t1 331 (by decide +kernel) rfl⟩
theorem G_t_readToken : zG M_t_readToken 0 := ⟨zt_t1 295 (by decide +kernel) rfl, zt_t1 2 (by decide +kernel) rfl, by decide, by decide, by decide +kernel⟩
theorem I_t_readToken : Cond.instanceMethod M_t_readToken.1 ∈ zt ∧ Cond.selects M_t_readToken.1.cls M_t_readToken.1 M_t_readToken.1 ∈ zt := ⟨zt_t1 293 (by decide +kernel) rfl, zt_t1 294 (by decide +kernel) rfl⟩
theorem G_t_readLetters : zG M_t_readLetters 0 := ⟨zt_t1 306 (by decide +kernel) rfl, zt_t1 2 (by decide +kernel) rfl, by decide, by decide, by decide +kernel⟩
theorem I_t_readLetters : Cond.instanceMethod M_t_readLetters.1 ∈ zt ∧ Cond.selects M_t_readLetters.1.cls M_t_readLetters.1 M_t_readLetters.1 ∈ zt := ⟨zt_t1 304 (by decide +kernel) rfl, zt_t1 305 (by decide +kernel) rfl⟩
theorem G_t_readDigits : zG M_t_readDigits 0 := ⟨zt_t1 313 (by decide +kernel) rfl, zt_t1 2 (by decide +kernel) rfl, by decide, by decide, by decide +kernel⟩
theorem I_t_readDigits : Cond.instanceMethod M_t_readDigits.1 ∈ zt ∧ Cond.selects M_t_readDigits.1.cls M_t_readDigits.1 M_t_readDigits.1 ∈ zt := ⟨zt_t1 311 (by decide +kernel) rfl, zt_t1 312 (by decide +kernel) rfl⟩
theorem G_t_byteAt : zG M_t_byteAt 1 := ⟨zt_t1 299 (by decide +kernel) rfl, zt_t1 2 (by decide +kernel) rfl, by decide, by decide, by decide +kernel⟩
theorem I_t_byteAt : Cond.instanceMethod M_t_byteAt.1 ∈ zt ∧ Cond.selects M_t_byteAt.1.cls M_t_byteAt.1 M_t_byteAt.1 ∈ zt := ⟨zt_t1 297 (by decide +kernel) rfl, zt_t1 298 (by decide +kernel) rfl⟩
theorem G_t_isLetter : zG M_t_isLetter 1 := ⟨zt_t1 302 (by decide +kernel) rfl, zt_t1 2 (by decide +kernel) rfl, by decide, by decide, by decide +kernel⟩
theorem S_t_isLetter : Cond.static M_t_isLetter.1 ∈ zt := zt_t1 301 (by decide +kernel) rfl
theorem G_t_isDigit : zG M_t_isDigit 1 := ⟨zt_t1 309 (by decide +kernel) rfl, zt_t1 2 (by decide +kernel) rfl, by decide, by decide, by decide +kernel⟩
theorem S_t_isDigit : Cond.static M_t_isDigit.1 ∈ zt := zt_t1 308 (by decide +kernel) rfl
theorem G_w_empty : zG M_w_empty 0 := ⟨zt_t1 291 (by decide +kernel) rfl, zt_t1 3 (by decide +kernel) rfl, by decide, by decide, by decide +kernel⟩
theorem I_w_empty : Cond.instanceMethod M_w_empty.1 ∈ zt ∧ Cond.selects M_w_empty.1.cls M_w_empty.1 M_w_empty.1 ∈ zt := ⟨zt_t1 289 (by decide +kernel) rfl, zt_t1 290 (by decide +kernel) rfl⟩
theorem G_w_hasSpot : zG M_w_hasSpot 1 := ⟨zt_t1 367 (by decide +kernel) rfl, zt_t1 3 (by decide +kernel) rfl, by decide, by decide, by decide +kernel⟩
theorem I_w_hasSpot : Cond.instanceMethod M_w_hasSpot.1 ∈ zt ∧ Cond.selects M_w_hasSpot.1.cls M_w_hasSpot.1 M_w_hasSpot.1 ∈ zt := ⟨zt_t1 365 (by decide +kernel) rfl, zt_t1 366 (by decide +kernel) rfl⟩
theorem G_w_hasPerson : zG M_w_hasPerson 1 := ⟨zt_t1 375 (by decide +kernel) rfl, zt_t1 3 (by decide +kernel) rfl, by decide, by decide, by decide +kernel⟩
theorem I_w_hasPerson : Cond.instanceMethod M_w_hasPerson.1 ∈ zt ∧ Cond.selects M_w_hasPerson.1.cls M_w_hasPerson.1 M_w_hasPerson.1 ∈ zt := ⟨zt_t1 373 (by decide +kernel) rfl, zt_t1 374 (by decide +kernel) rfl⟩
theorem G_w_isPlaceTold : zG M_w_isPlaceTold 1 := ⟨zt_t1 348 (by decide +kernel) rfl, zt_t1 3 (by decide +kernel) rfl, by decide, by decide, by decide +kernel⟩
theorem I_w_isPlaceTold : Cond.instanceMethod M_w_isPlaceTold.1 ∈ zt ∧ Cond.selects M_w_isPlaceTold.1.cls M_w_isPlaceTold.1 M_w_isPlaceTold.1 ∈ zt := ⟨zt_t1 346 (by decide +kernel) rfl, zt_t1 347 (by decide +kernel) rfl⟩
theorem G_w_roundThe : zG M_w_roundThe 1 := ⟨zt_t1 391 (by decide +kernel) rfl, zt_t1 3 (by decide +kernel) rfl, by decide, by decide, by decide +kernel⟩
theorem I_w_roundThe : Cond.instanceMethod M_w_roundThe.1 ∈ zt ∧ Cond.selects M_w_roundThe.1.cls M_w_roundThe.1 M_w_roundThe.1 ∈ zt := ⟨zt_t1 389 (by decide +kernel) rfl, zt_t1 390 (by decide +kernel) rfl⟩
theorem G_w_wayRound : zG M_w_wayRound 2 := ⟨zt_t1 537 (by decide +kernel) rfl, zt_t1 3 (by decide +kernel) rfl, by decide, by decide, by decide +kernel⟩
theorem I_w_wayRound : Cond.instanceMethod M_w_wayRound.1 ∈ zt ∧ Cond.selects M_w_wayRound.1.cls M_w_wayRound.1 M_w_wayRound.1 ∈ zt := ⟨zt_t1 535 (by decide +kernel) rfl, zt_t1 536 (by decide +kernel) rfl⟩
theorem G_w_colourAt : zG M_w_colourAt 2 := ⟨zt_t1 387 (by decide +kernel) rfl, zt_t1 3 (by decide +kernel) rfl, by decide, by decide, by decide +kernel⟩
theorem I_w_colourAt : Cond.instanceMethod M_w_colourAt.1 ∈ zt ∧ Cond.selects M_w_colourAt.1.cls M_w_colourAt.1 M_w_colourAt.1 ∈ zt := ⟨zt_t1 385 (by decide +kernel) rfl, zt_t1 386 (by decide +kernel) rfl⟩
theorem G_w_leastLikeTurn : zG M_w_leastLikeTurn 0 := ⟨zt_t1 481 (by decide +kernel) rfl, zt_t1 3 (by decide +kernel) rfl, by decide, by decide, by decide +kernel⟩
theorem I_w_leastLikeTurn : Cond.instanceMethod M_w_leastLikeTurn.1 ∈ zt ∧ Cond.selects M_w_leastLikeTurn.1.cls M_w_leastLikeTurn.1 M_w_leastLikeTurn.1 ∈ zt := ⟨zt_t1 479 (by decide +kernel) rfl, zt_t1 480 (by decide +kernel) rfl⟩
theorem G_w_isAlike : zG M_w_isAlike 1 := ⟨zt_t1 485 (by decide +kernel) rfl, zt_t1 3 (by decide +kernel) rfl, by decide, by decide, by decide +kernel⟩
theorem I_w_isAlike : Cond.instanceMethod M_w_isAlike.1 ∈ zt ∧ Cond.selects M_w_isAlike.1.cls M_w_isAlike.1 M_w_isAlike.1 ∈ zt := ⟨zt_t1 483 (by decide +kernel) rfl, zt_t1 484 (by decide +kernel) rfl⟩
theorem G_w_clicksOf : zG M_w_clicksOf 1 := ⟨zt_t1 431 (by decide +kernel) rfl, zt_t1 3 (by decide +kernel) rfl, by decide, by decide, by decide +kernel⟩
theorem I_w_clicksOf : Cond.instanceMethod M_w_clicksOf.1 ∈ zt ∧ Cond.selects M_w_clicksOf.1.cls M_w_clicksOf.1 M_w_clicksOf.1 ∈ zt := ⟨zt_t1 429 (by decide +kernel) rfl, zt_t1 430 (by decide +kernel) rfl⟩
theorem G_w_clicksBy : zG M_w_clicksBy 3 := ⟨zt_t1 434 (by decide +kernel) rfl, zt_t1 3 (by decide +kernel) rfl, by decide, by decide, by decide +kernel⟩
theorem S_w_clicksBy : Cond.static M_w_clicksBy.1 ∈ zt := zt_t1 433 (by decide +kernel) rfl
theorem G_x_type : zG M_x_type 1 := ⟨zt_t1 268 (by decide +kernel) rfl, zt_t1 1 (by decide +kernel) rfl, by decide, by decide, by decide +kernel⟩
theorem I_x_type : Cond.instanceMethod M_x_type.1 ∈ zt ∧ Cond.selects M_x_type.1.cls M_x_type.1 M_x_type.1 ∈ zt := ⟨zt_t1 266 (by decide +kernel) rfl, zt_t1 267 (by decide +kernel) rfl⟩
theorem G_x_clear : zG M_x_clear 0 := ⟨zt_t1 279 (by decide +kernel) rfl, zt_t1 1 (by decide +kernel) rfl, by decide, by decide, by decide +kernel⟩
theorem I_x_clear : Cond.instanceMethod M_x_clear.1 ∈ zt ∧ Cond.selects M_x_clear.1.cls M_x_clear.1 M_x_clear.1 ∈ zt := ⟨zt_t1 277 (by decide +kernel) rfl, zt_t1 278 (by decide +kernel) rfl⟩
theorem G_x_rose : zG M_x_rose 0 := ⟨zt_t1 283 (by decide +kernel) rfl, zt_t1 1 (by decide +kernel) rfl, by decide, by decide, by decide +kernel⟩
theorem I_x_rose : Cond.instanceMethod M_x_rose.1 ∈ zt ∧ Cond.selects M_x_rose.1.cls M_x_rose.1 M_x_rose.1 ∈ zt := ⟨zt_t1 281 (by decide +kernel) rfl, zt_t1 282 (by decide +kernel) rfl⟩
theorem G_x_pane : zG M_x_pane 1 := ⟨zt_t1 363 (by decide +kernel) rfl, zt_t1 1 (by decide +kernel) rfl, by decide, by decide, by decide +kernel⟩
theorem I_x_pane : Cond.instanceMethod M_x_pane.1 ∈ zt ∧ Cond.selects M_x_pane.1.cls M_x_pane.1 M_x_pane.1 ∈ zt := ⟨zt_t1 361 (by decide +kernel) rfl, zt_t1 362 (by decide +kernel) rfl⟩
theorem G_x_one : zG M_x_one 2 := ⟨zt_t1 371 (by decide +kernel) rfl, zt_t1 1 (by decide +kernel) rfl, by decide, by decide, by decide +kernel⟩
theorem I_x_one : Cond.instanceMethod M_x_one.1 ∈ zt ∧ Cond.selects M_x_one.1.cls M_x_one.1 M_x_one.1 ∈ zt := ⟨zt_t1 369 (by decide +kernel) rfl, zt_t1 370 (by decide +kernel) rfl⟩
theorem G_x_owed : zG M_x_owed 2 := ⟨zt_t1 405 (by decide +kernel) rfl, zt_t1 1 (by decide +kernel) rfl, by decide, by decide, by decide +kernel⟩
theorem I_x_owed : Cond.instanceMethod M_x_owed.1 ∈ zt ∧ Cond.selects M_x_owed.1.cls M_x_owed.1 M_x_owed.1 ∈ zt := ⟨zt_t1 403 (by decide +kernel) rfl, zt_t1 404 (by decide +kernel) rfl⟩
theorem G_x_spins : zG M_x_spins 1 := ⟨zt_t1 413 (by decide +kernel) rfl, zt_t1 1 (by decide +kernel) rfl, by decide, by decide, by decide +kernel⟩
theorem I_x_spins : Cond.instanceMethod M_x_spins.1 ∈ zt ∧ Cond.selects M_x_spins.1.cls M_x_spins.1 M_x_spins.1 ∈ zt := ⟨zt_t1 411 (by decide +kernel) rfl, zt_t1 412 (by decide +kernel) rfl⟩
theorem G_x_goes : zG M_x_goes 2 := ⟨zt_t1 449 (by decide +kernel) rfl, zt_t1 1 (by decide +kernel) rfl, by decide, by decide, by decide +kernel⟩
theorem I_x_goes : Cond.instanceMethod M_x_goes.1 ∈ zt ∧ Cond.selects M_x_goes.1.cls M_x_goes.1 M_x_goes.1 ∈ zt := ⟨zt_t1 447 (by decide +kernel) rfl, zt_t1 448 (by decide +kernel) rfl⟩
theorem G_x_passes : zG M_x_passes 1 := ⟨zt_t1 457 (by decide +kernel) rfl, zt_t1 1 (by decide +kernel) rfl, by decide, by decide, by decide +kernel⟩
theorem I_x_passes : Cond.instanceMethod M_x_passes.1 ∈ zt ∧ Cond.selects M_x_passes.1.cls M_x_passes.1 M_x_passes.1 ∈ zt := ⟨zt_t1 455 (by decide +kernel) rfl, zt_t1 456 (by decide +kernel) rfl⟩
theorem G_x_covers : zG M_x_covers 1 := ⟨zt_t1 461 (by decide +kernel) rfl, zt_t1 1 (by decide +kernel) rfl, by decide, by decide, by decide +kernel⟩
theorem I_x_covers : Cond.instanceMethod M_x_covers.1 ∈ zt ∧ Cond.selects M_x_covers.1.cls M_x_covers.1 M_x_covers.1 ∈ zt := ⟨zt_t1 459 (by decide +kernel) rfl, zt_t1 460 (by decide +kernel) rfl⟩
theorem G_x_forgives : zG M_x_forgives 2 := ⟨zt_t1 465 (by decide +kernel) rfl, zt_t1 1 (by decide +kernel) rfl, by decide, by decide, by decide +kernel⟩
theorem I_x_forgives : Cond.instanceMethod M_x_forgives.1 ∈ zt ∧ Cond.selects M_x_forgives.1.cls M_x_forgives.1 M_x_forgives.1 ∈ zt := ⟨zt_t1 463 (by decide +kernel) rfl, zt_t1 464 (by decide +kernel) rfl⟩
theorem G_x_undo : zG M_x_undo 0 := ⟨zt_t1 469 (by decide +kernel) rfl, zt_t1 1 (by decide +kernel) rfl, by decide, by decide, by decide +kernel⟩
theorem I_x_undo : Cond.instanceMethod M_x_undo.1 ∈ zt ∧ Cond.selects M_x_undo.1.cls M_x_undo.1 M_x_undo.1 ∈ zt := ⟨zt_t1 467 (by decide +kernel) rfl, zt_t1 468 (by decide +kernel) rfl⟩
theorem G_x_now : zG M_x_now 1 := ⟨zt_t1 473 (by decide +kernel) rfl, zt_t1 1 (by decide +kernel) rfl, by decide, by decide, by decide +kernel⟩
theorem I_x_now : Cond.instanceMethod M_x_now.1 ∈ zt ∧ Cond.selects M_x_now.1.cls M_x_now.1 M_x_now.1 ∈ zt := ⟨zt_t1 471 (by decide +kernel) rfl, zt_t1 472 (by decide +kernel) rfl⟩
theorem G_x_clicks : zG M_x_clicks 1 := ⟨zt_t1 502 (by decide +kernel) rfl, zt_t1 1 (by decide +kernel) rfl, by decide, by decide, by decide +kernel⟩
theorem I_x_clicks : Cond.instanceMethod M_x_clicks.1 ∈ zt ∧ Cond.selects M_x_clicks.1.cls M_x_clicks.1 M_x_clicks.1 ∈ zt := ⟨zt_t1 500 (by decide +kernel) rfl, zt_t1 501 (by decide +kernel) rfl⟩
theorem G_x_stops : zG M_x_stops 1 := ⟨zt_t1 506 (by decide +kernel) rfl, zt_t1 1 (by decide +kernel) rfl, by decide, by decide, by decide +kernel⟩
theorem I_x_stops : Cond.instanceMethod M_x_stops.1 ∈ zt ∧ Cond.selects M_x_stops.1.cls M_x_stops.1 M_x_stops.1 ∈ zt := ⟨zt_t1 504 (by decide +kernel) rfl, zt_t1 505 (by decide +kernel) rfl⟩
theorem G_x_shade : zG M_x_shade 2 := ⟨zt_t1 510 (by decide +kernel) rfl, zt_t1 1 (by decide +kernel) rfl, by decide, by decide, by decide +kernel⟩
theorem I_x_shade : Cond.instanceMethod M_x_shade.1 ∈ zt ∧ Cond.selects M_x_shade.1.cls M_x_shade.1 M_x_shade.1 ∈ zt := ⟨zt_t1 508 (by decide +kernel) rfl, zt_t1 509 (by decide +kernel) rfl⟩
theorem G_x_speeds : zG M_x_speeds 3 := ⟨zt_t1 518 (by decide +kernel) rfl, zt_t1 1 (by decide +kernel) rfl, by decide, by decide, by decide +kernel⟩
theorem I_x_speeds : Cond.instanceMethod M_x_speeds.1 ∈ zt ∧ Cond.selects M_x_speeds.1.cls M_x_speeds.1 M_x_speeds.1 ∈ zt := ⟨zt_t1 516 (by decide +kernel) rfl, zt_t1 517 (by decide +kernel) rfl⟩
theorem G_x_steps : zG M_x_steps 4 := ⟨zt_t1 533 (by decide +kernel) rfl, zt_t1 1 (by decide +kernel) rfl, by decide, by decide, by decide +kernel⟩
theorem I_x_steps : Cond.instanceMethod M_x_steps.1 ∈ zt ∧ Cond.selects M_x_steps.1.cls M_x_steps.1 M_x_steps.1 ∈ zt := ⟨zt_t1 531 (by decide +kernel) rfl, zt_t1 532 (by decide +kernel) rfl⟩
theorem G_x_chair : zG M_x_chair 2 := ⟨zt_t1 542 (by decide +kernel) rfl, zt_t1 1 (by decide +kernel) rfl, by decide, by decide, by decide +kernel⟩
theorem I_x_chair : Cond.instanceMethod M_x_chair.1 ∈ zt ∧ Cond.selects M_x_chair.1.cls M_x_chair.1 M_x_chair.1 ∈ zt := ⟨zt_t1 540 (by decide +kernel) rfl, zt_t1 541 (by decide +kernel) rfl⟩
theorem G_x_seats : zG M_x_seats 2 := ⟨zt_t1 546 (by decide +kernel) rfl, zt_t1 1 (by decide +kernel) rfl, by decide, by decide, by decide +kernel⟩
theorem I_x_seats : Cond.instanceMethod M_x_seats.1 ∈ zt ∧ Cond.selects M_x_seats.1.cls M_x_seats.1 M_x_seats.1 ∈ zt := ⟨zt_t1 544 (by decide +kernel) rfl, zt_t1 545 (by decide +kernel) rfl⟩
theorem G_x_odds : zG M_x_odds 5 := ⟨zt_t1 563 (by decide +kernel) rfl, zt_t1 1 (by decide +kernel) rfl, by decide, by decide, by decide +kernel⟩
theorem I_x_odds : Cond.instanceMethod M_x_odds.1 ∈ zt ∧ Cond.selects M_x_odds.1.cls M_x_odds.1 M_x_odds.1 ∈ zt := ⟨zt_t1 561 (by decide +kernel) rfl, zt_t1 562 (by decide +kernel) rfl⟩
theorem G_x_saw : zG M_x_saw 2 := ⟨zt_t1 570 (by decide +kernel) rfl, zt_t1 1 (by decide +kernel) rfl, by decide, by decide, by decide +kernel⟩
theorem I_x_saw : Cond.instanceMethod M_x_saw.1 ∈ zt ∧ Cond.selects M_x_saw.1.cls M_x_saw.1 M_x_saw.1 ∈ zt := ⟨zt_t1 568 (by decide +kernel) rfl, zt_t1 569 (by decide +kernel) rfl⟩
theorem G_x_spun : zG M_x_spun 1 := ⟨zt_t1 578 (by decide +kernel) rfl, zt_t1 1 (by decide +kernel) rfl, by decide, by decide, by decide +kernel⟩
theorem I_x_spun : Cond.instanceMethod M_x_spun.1 ∈ zt ∧ Cond.selects M_x_spun.1.cls M_x_spun.1 M_x_spun.1 ∈ zt := ⟨zt_t1 576 (by decide +kernel) rfl, zt_t1 577 (by decide +kernel) rfl⟩
theorem G_x_look : zG M_x_look 0 := ⟨zt_t1 586 (by decide +kernel) rfl, zt_t1 1 (by decide +kernel) rfl, by decide, by decide, by decide +kernel⟩
theorem I_x_look : Cond.instanceMethod M_x_look.1 ∈ zt ∧ Cond.selects M_x_look.1.cls M_x_look.1 M_x_look.1 ∈ zt := ⟨zt_t1 584 (by decide +kernel) rfl, zt_t1 585 (by decide +kernel) rfl⟩
theorem G_x_hears : zG M_x_hears 2 := ⟨zt_t1 601 (by decide +kernel) rfl, zt_t1 1 (by decide +kernel) rfl, by decide, by decide, by decide +kernel⟩
theorem I_x_hears : Cond.instanceMethod M_x_hears.1 ∈ zt ∧ Cond.selects M_x_hears.1.cls M_x_hears.1 M_x_hears.1 ∈ zt := ⟨zt_t1 599 (by decide +kernel) rfl, zt_t1 600 (by decide +kernel) rfl⟩
theorem G_x_laws : zG M_x_laws 1 := ⟨zt_t1 605 (by decide +kernel) rfl, zt_t1 1 (by decide +kernel) rfl, by decide, by decide, by decide +kernel⟩
theorem I_x_laws : Cond.instanceMethod M_x_laws.1 ∈ zt ∧ Cond.selects M_x_laws.1.cls M_x_laws.1 M_x_laws.1 ∈ zt := ⟨zt_t1 603 (by decide +kernel) rfl, zt_t1 604 (by decide +kernel) rfl⟩
theorem G_x_tryNext : zG M_x_tryNext 0 := ⟨zt_t1 618 (by decide +kernel) rfl, zt_t1 1 (by decide +kernel) rfl, by decide, by decide, by decide +kernel⟩
theorem I_x_tryNext : Cond.instanceMethod M_x_tryNext.1 ∈ zt ∧ Cond.selects M_x_tryNext.1.cls M_x_tryNext.1 M_x_tryNext.1 ∈ zt := ⟨zt_t1 616 (by decide +kernel) rfl, zt_t1 617 (by decide +kernel) rfl⟩
theorem G_x_forget : zG M_x_forget 0 := ⟨zt_t1 626 (by decide +kernel) rfl, zt_t1 1 (by decide +kernel) rfl, by decide, by decide, by decide +kernel⟩
theorem I_x_forget : Cond.instanceMethod M_x_forget.1 ∈ zt ∧ Cond.selects M_x_forget.1.cls M_x_forget.1 M_x_forget.1 ∈ zt := ⟨zt_t1 624 (by decide +kernel) rfl, zt_t1 625 (by decide +kernel) rfl⟩
theorem G_x_mark : zG M_x_mark 2 := ⟨zt_t1 630 (by decide +kernel) rfl, zt_t1 1 (by decide +kernel) rfl, by decide, by decide, by decide +kernel⟩
theorem I_x_mark : Cond.instanceMethod M_x_mark.1 ∈ zt ∧ Cond.selects M_x_mark.1.cls M_x_mark.1 M_x_mark.1 ∈ zt := ⟨zt_t1 628 (by decide +kernel) rfl, zt_t1 629 (by decide +kernel) rfl⟩
theorem G_x_keep : zG M_x_keep 1 := ⟨zt_t1 665 (by decide +kernel) rfl, zt_t1 1 (by decide +kernel) rfl, by decide, by decide, by decide +kernel⟩
theorem I_x_keep : Cond.instanceMethod M_x_keep.1 ∈ zt ∧ Cond.selects M_x_keep.1.cls M_x_keep.1 M_x_keep.1 ∈ zt := ⟨zt_t1 663 (by decide +kernel) rfl, zt_t1 664 (by decide +kernel) rfl⟩
theorem G_x_back : zG M_x_back 1 := ⟨zt_t1 673 (by decide +kernel) rfl, zt_t1 1 (by decide +kernel) rfl, by decide, by decide, by decide +kernel⟩
theorem I_x_back : Cond.instanceMethod M_x_back.1 ∈ zt ∧ Cond.selects M_x_back.1.cls M_x_back.1 M_x_back.1 ∈ zt := ⟨zt_t1 671 (by decide +kernel) rfl, zt_t1 672 (by decide +kernel) rfl⟩
theorem G_x_count : zG M_x_count 1 := ⟨zt_t1 677 (by decide +kernel) rfl, zt_t1 1 (by decide +kernel) rfl, by decide, by decide, by decide +kernel⟩
theorem I_x_count : Cond.instanceMethod M_x_count.1 ∈ zt ∧ Cond.selects M_x_count.1.cls M_x_count.1 M_x_count.1 ∈ zt := ⟨zt_t1 675 (by decide +kernel) rfl, zt_t1 676 (by decide +kernel) rfl⟩
theorem G_x_trace : zG M_x_trace 0 := ⟨zt_t1 681 (by decide +kernel) rfl, zt_t1 1 (by decide +kernel) rfl, by decide, by decide, by decide +kernel⟩
theorem I_x_trace : Cond.instanceMethod M_x_trace.1 ∈ zt ∧ Cond.selects M_x_trace.1.cls M_x_trace.1 M_x_trace.1 ∈ zt := ⟨zt_t1 679 (by decide +kernel) rfl, zt_t1 680 (by decide +kernel) rfl⟩
theorem G_x_isWithin : zG M_x_isWithin 3 := ⟨zt_t1 271 (by decide +kernel) rfl, zt_t1 1 (by decide +kernel) rfl, by decide, by decide, by decide +kernel⟩
theorem S_x_isWithin : Cond.static M_x_isWithin.1 ∈ zt := zt_t1 270 (by decide +kernel) rfl
theorem G_x_isSpeed : zG M_x_isSpeed 1 := ⟨zt_t1 416 (by decide +kernel) rfl, zt_t1 1 (by decide +kernel) rfl, by decide, by decide, by decide +kernel⟩
theorem S_x_isSpeed : Cond.static M_x_isSpeed.1 ∈ zt := zt_t1 415 (by decide +kernel) rfl
theorem G_x_isColour : zG M_x_isColour 1 := ⟨zt_t1 521 (by decide +kernel) rfl, zt_t1 1 (by decide +kernel) rfl, by decide, by decide, by decide +kernel⟩
theorem S_x_isColour : Cond.static M_x_isColour.1 ∈ zt := zt_t1 520 (by decide +kernel) rfl
theorem G_x_areTwo : zG M_x_areTwo 2 := ⟨zt_t1 409 (by decide +kernel) rfl, zt_t1 1 (by decide +kernel) rfl, by decide, by decide, by decide +kernel⟩
theorem I_x_areTwo : Cond.instanceMethod M_x_areTwo.1 ∈ zt ∧ Cond.selects M_x_areTwo.1.cls M_x_areTwo.1 M_x_areTwo.1 ∈ zt := ⟨zt_t1 408 (by decide +kernel) rfl, zt_sel 2 (by decide +kernel) rfl⟩
theorem G_x_colourOf : zG M_x_colourOf 1 := ⟨zt_t1 383 (by decide +kernel) rfl, zt_t1 1 (by decide +kernel) rfl, by decide, by decide, by decide +kernel⟩
theorem I_x_colourOf : Cond.instanceMethod M_x_colourOf.1 ∈ zt ∧ Cond.selects M_x_colourOf.1.cls M_x_colourOf.1 M_x_colourOf.1 ∈ zt := ⟨zt_t1 382 (by decide +kernel) rfl, zt_sel 0 (by decide +kernel) rfl⟩
theorem G_x_whoIsOn : zG M_x_whoIsOn 1 := ⟨zt_t1 453 (by decide +kernel) rfl, zt_t1 1 (by decide +kernel) rfl, by decide, by decide, by decide +kernel⟩
theorem I_x_whoIsOn : Cond.instanceMethod M_x_whoIsOn.1 ∈ zt ∧ Cond.selects M_x_whoIsOn.1.cls M_x_whoIsOn.1 M_x_whoIsOn.1 ∈ zt := ⟨zt_t1 452 (by decide +kernel) rfl, zt_sel 6 (by decide +kernel) rfl⟩
theorem G_x_holdFeast : zG M_x_holdFeast 0 := ⟨zt_t1 440 (by decide +kernel) rfl, zt_t1 1 (by decide +kernel) rfl, by decide, by decide, by decide +kernel⟩
theorem I_x_holdFeast : Cond.instanceMethod M_x_holdFeast.1 ∈ zt ∧ Cond.selects M_x_holdFeast.1.cls M_x_holdFeast.1 M_x_holdFeast.1 ∈ zt := ⟨zt_t1 439 (by decide +kernel) rfl, zt_sel 4 (by decide +kernel) rfl⟩
theorem G_x_oweBlueTo : zG M_x_oweBlueTo 1 := ⟨zt_t1 444 (by decide +kernel) rfl, zt_t1 1 (by decide +kernel) rfl, by decide, by decide, by decide +kernel⟩
theorem I_x_oweBlueTo : Cond.instanceMethod M_x_oweBlueTo.1 ∈ zt ∧ Cond.selects M_x_oweBlueTo.1.cls M_x_oweBlueTo.1 M_x_oweBlueTo.1 ∈ zt := ⟨zt_t1 443 (by decide +kernel) rfl, zt_sel 5 (by decide +kernel) rfl⟩
theorem G_x_owedByAll : zG M_x_owedByAll 1 := ⟨zt_t1 398 (by decide +kernel) rfl, zt_t1 1 (by decide +kernel) rfl, by decide, by decide, by decide +kernel⟩
theorem I_x_owedByAll : Cond.instanceMethod M_x_owedByAll.1 ∈ zt ∧ Cond.selects M_x_owedByAll.1.cls M_x_owedByAll.1 M_x_owedByAll.1 ∈ zt := ⟨zt_t1 397 (by decide +kernel) rfl, zt_sel 1 (by decide +kernel) rfl⟩
theorem G_x_owedInAll : zG M_x_owedInAll 0 := ⟨zt_t1 477 (by decide +kernel) rfl, zt_t1 1 (by decide +kernel) rfl, by decide, by decide, by decide +kernel⟩
theorem I_x_owedInAll : Cond.instanceMethod M_x_owedInAll.1 ∈ zt ∧ Cond.selects M_x_owedInAll.1.cls M_x_owedInAll.1 M_x_owedInAll.1 ∈ zt := ⟨zt_t1 476 (by decide +kernel) rfl, zt_sel 7 (by decide +kernel) rfl⟩
theorem G_x_ringOfDebts : zG M_x_ringOfDebts 0 := ⟨zt_t1 490 (by decide +kernel) rfl, zt_t1 1 (by decide +kernel) rfl, by decide, by decide, by decide +kernel⟩
theorem I_x_ringOfDebts : Cond.instanceMethod M_x_ringOfDebts.1 ∈ zt ∧ Cond.selects M_x_ringOfDebts.1.cls M_x_ringOfDebts.1 M_x_ringOfDebts.1 ∈ zt := ⟨zt_t1 489 (by decide +kernel) rfl, zt_sel 8 (by decide +kernel) rfl⟩
theorem G_x_debtorsBehind : zG M_x_debtorsBehind 1 := ⟨zt_t1 494 (by decide +kernel) rfl, zt_t1 1 (by decide +kernel) rfl, by decide, by decide, by decide +kernel⟩
theorem I_x_debtorsBehind : Cond.instanceMethod M_x_debtorsBehind.1 ∈ zt ∧ Cond.selects M_x_debtorsBehind.1.cls M_x_debtorsBehind.1 M_x_debtorsBehind.1 ∈ zt := ⟨zt_t1 493 (by decide +kernel) rfl, zt_sel 9 (by decide +kernel) rfl⟩
theorem G_x_debtorsOf : zG M_x_debtorsOf 1 := ⟨zt_t1 498 (by decide +kernel) rfl, zt_t1 1 (by decide +kernel) rfl, by decide, by decide, by decide +kernel⟩
theorem I_x_debtorsOf : Cond.instanceMethod M_x_debtorsOf.1 ∈ zt ∧ Cond.selects M_x_debtorsOf.1.cls M_x_debtorsOf.1 M_x_debtorsOf.1 ∈ zt := ⟨zt_t1 497 (by decide +kernel) rfl, zt_sel 10 (by decide +kernel) rfl⟩
theorem G_x_turnBehind : zG M_x_turnBehind 1 := ⟨zt_t1 427 (by decide +kernel) rfl, zt_t1 1 (by decide +kernel) rfl, by decide, by decide, by decide +kernel⟩
theorem I_x_turnBehind : Cond.instanceMethod M_x_turnBehind.1 ∈ zt ∧ Cond.selects M_x_turnBehind.1.cls M_x_turnBehind.1 M_x_turnBehind.1 ∈ zt := ⟨zt_t1 426 (by decide +kernel) rfl, zt_sel 3 (by decide +kernel) rfl⟩
theorem G_x_colourBehind : zG M_x_colourBehind 2 := ⟨zt_t1 514 (by decide +kernel) rfl, zt_t1 1 (by decide +kernel) rfl, by decide, by decide, by decide +kernel⟩
theorem I_x_colourBehind : Cond.instanceMethod M_x_colourBehind.1 ∈ zt ∧ Cond.selects M_x_colourBehind.1.cls M_x_colourBehind.1 M_x_colourBehind.1 ∈ zt := ⟨zt_t1 513 (by decide +kernel) rfl, zt_sel 11 (by decide +kernel) rfl⟩
theorem G_x_speedsFor : zG M_x_speedsFor 3 := ⟨zt_t1 525 (by decide +kernel) rfl, zt_t1 1 (by decide +kernel) rfl, by decide, by decide, by decide +kernel⟩
theorem I_x_speedsFor : Cond.instanceMethod M_x_speedsFor.1 ∈ zt ∧ Cond.selects M_x_speedsFor.1.cls M_x_speedsFor.1 M_x_speedsFor.1 ∈ zt := ⟨zt_t1 524 (by decide +kernel) rfl, zt_sel 12 (by decide +kernel) rfl⟩
theorem G_x_leastSpeedFor : zG M_x_leastSpeedFor 2 := ⟨zt_t1 529 (by decide +kernel) rfl, zt_t1 1 (by decide +kernel) rfl, by decide, by decide, by decide +kernel⟩
theorem I_x_leastSpeedFor : Cond.instanceMethod M_x_leastSpeedFor.1 ∈ zt ∧ Cond.selects M_x_leastSpeedFor.1.cls M_x_leastSpeedFor.1 M_x_leastSpeedFor.1 ∈ zt := ⟨zt_t1 528 (by decide +kernel) rfl, zt_sel 13 (by decide +kernel) rfl⟩
theorem G_x_commonDivisor : zG M_x_commonDivisor 2 := ⟨zt_t1 566 (by decide +kernel) rfl, zt_t1 1 (by decide +kernel) rfl, by decide, by decide, by decide +kernel⟩
theorem S_x_commonDivisor : Cond.static M_x_commonDivisor.1 ∈ zt := zt_t1 565 (by decide +kernel) rfl
theorem G_x_seatAll : zG M_x_seatAll 1 := ⟨zt_t1 550 (by decide +kernel) rfl, zt_t1 1 (by decide +kernel) rfl, by decide, by decide, by decide +kernel⟩
theorem I_x_seatAll : Cond.instanceMethod M_x_seatAll.1 ∈ zt ∧ Cond.selects M_x_seatAll.1.cls M_x_seatAll.1 M_x_seatAll.1 ∈ zt := ⟨zt_t1 549 (by decide +kernel) rfl, zt_sel 14 (by decide +kernel) rfl⟩
theorem G_x_lowestSeat : zG M_x_lowestSeat 4 := ⟨zt_t1 559 (by decide +kernel) rfl, zt_t1 1 (by decide +kernel) rfl, by decide, by decide, by decide +kernel⟩
theorem I_x_lowestSeat : Cond.instanceMethod M_x_lowestSeat.1 ∈ zt ∧ Cond.selects M_x_lowestSeat.1.cls M_x_lowestSeat.1 M_x_lowestSeat.1 ∈ zt := ⟨zt_t1 558 (by decide +kernel) rfl, zt_sel 16 (by decide +kernel) rfl⟩
theorem G_x_mostServed : zG M_x_mostServed 0 := ⟨zt_t1 555 (by decide +kernel) rfl, zt_t1 1 (by decide +kernel) rfl, by decide, by decide, by decide +kernel⟩
theorem I_x_mostServed : Cond.instanceMethod M_x_mostServed.1 ∈ zt ∧ Cond.selects M_x_mostServed.1.cls M_x_mostServed.1 M_x_mostServed.1 ∈ zt := ⟨zt_t1 554 (by decide +kernel) rfl, zt_sel 15 (by decide +kernel) rfl⟩
theorem G_x_isAsSeen : zG M_x_isAsSeen 1 := ⟨zt_t1 582 (by decide +kernel) rfl, zt_t1 1 (by decide +kernel) rfl, by decide, by decide, by decide +kernel⟩
theorem I_x_isAsSeen : Cond.instanceMethod M_x_isAsSeen.1 ∈ zt ∧ Cond.selects M_x_isAsSeen.1.cls M_x_isAsSeen.1 M_x_isAsSeen.1 ∈ zt := ⟨zt_t1 581 (by decide +kernel) rfl, zt_sel 17 (by decide +kernel) rfl⟩
theorem G_x_speedsAsSeen : zG M_x_speedsAsSeen 0 := ⟨zt_t1 590 (by decide +kernel) rfl, zt_t1 1 (by decide +kernel) rfl, by decide, by decide, by decide +kernel⟩
theorem I_x_speedsAsSeen : Cond.instanceMethod M_x_speedsAsSeen.1 ∈ zt ∧ Cond.selects M_x_speedsAsSeen.1.cls M_x_speedsAsSeen.1 M_x_speedsAsSeen.1 ∈ zt := ⟨zt_t1 589 (by decide +kernel) rfl, zt_sel 18 (by decide +kernel) rfl⟩
theorem G_x_mostOfOneColour : zG M_x_mostOfOneColour 2 := ⟨zt_t1 594 (by decide +kernel) rfl, zt_t1 1 (by decide +kernel) rfl, by decide, by decide, by decide +kernel⟩
theorem I_x_mostOfOneColour : Cond.instanceMethod M_x_mostOfOneColour.1 ∈ zt ∧ Cond.selects M_x_mostOfOneColour.1.cls M_x_mostOfOneColour.1 M_x_mostOfOneColour.1 ∈ zt := ⟨zt_t1 593 (by decide +kernel) rfl, zt_sel 19 (by decide +kernel) rfl⟩
theorem G_x_findLaws : zG M_x_findLaws 0 := ⟨zt_t1 609 (by decide +kernel) rfl, zt_t1 1 (by decide +kernel) rfl, by decide, by decide, by decide +kernel⟩
theorem I_x_findLaws : Cond.instanceMethod M_x_findLaws.1 ∈ zt ∧ Cond.selects M_x_findLaws.1.cls M_x_findLaws.1 M_x_findLaws.1 ∈ zt := ⟨zt_t1 608 (by decide +kernel) rfl, zt_sel 20 (by decide +kernel) rfl⟩
theorem G_x_isAsHeard : zG M_x_isAsHeard 2 := ⟨zt_t1 613 (by decide +kernel) rfl, zt_t1 1 (by decide +kernel) rfl, by decide, by decide, by decide +kernel⟩
theorem I_x_isAsHeard : Cond.instanceMethod M_x_isAsHeard.1 ∈ zt ∧ Cond.selects M_x_isAsHeard.1.cls M_x_isAsHeard.1 M_x_isAsHeard.1 ∈ zt := ⟨zt_t1 612 (by decide +kernel) rfl, zt_sel 21 (by decide +kernel) rfl⟩
theorem G_x_mostOfOneSound : zG M_x_mostOfOneSound 2 := ⟨zt_t1 622 (by decide +kernel) rfl, zt_t1 1 (by decide +kernel) rfl, by decide, by decide, by decide +kernel⟩
theorem I_x_mostOfOneSound : Cond.instanceMethod M_x_mostOfOneSound.1 ∈ zt ∧ Cond.selects M_x_mostOfOneSound.1.cls M_x_mostOfOneSound.1 M_x_mostOfOneSound.1 ∈ zt := ⟨zt_t1 621 (by decide +kernel) rfl, zt_sel 22 (by decide +kernel) rfl⟩
theorem G_m_in : zG M_m_in 3 := ⟨zt_t1 797 (by decide +kernel) rfl, zt_t1 13 (by decide +kernel) rfl, by decide, by decide, by decide +kernel⟩
theorem S_m_in : Cond.static M_m_in.1 ∈ zt := zt_t1 796 (by decide +kernel) rfl
theorem G_m_has : zG M_m_has 2 := ⟨zt_t1 940 (by decide +kernel) rfl, zt_t1 13 (by decide +kernel) rfl, by decide, by decide, by decide +kernel⟩
theorem S_m_has : Cond.static M_m_has.1 ∈ zt := zt_t1 939 (by decide +kernel) rfl
theorem G_m_isOne : zG M_m_isOne 1 := ⟨zt_t1 855 (by decide +kernel) rfl, zt_t1 13 (by decide +kernel) rfl, by decide, by decide, by decide +kernel⟩
theorem I_m_isOne : Cond.instanceMethod M_m_isOne.1 ∈ zt ∧ Cond.selects M_m_isOne.1.cls M_m_isOne.1 M_m_isOne.1 ∈ zt := ⟨zt_t1 854 (by decide +kernel) rfl, zt_sel 31 (by decide +kernel) rfl⟩
theorem G_m_isSpot : zG M_m_isSpot 1 := ⟨zt_t1 847 (by decide +kernel) rfl, zt_t1 13 (by decide +kernel) rfl, by decide, by decide, by decide +kernel⟩
theorem I_m_isSpot : Cond.instanceMethod M_m_isSpot.1 ∈ zt ∧ Cond.selects M_m_isSpot.1.cls M_m_isSpot.1 M_m_isSpot.1 ∈ zt := ⟨zt_t1 846 (by decide +kernel) rfl, zt_sel 30 (by decide +kernel) rfl⟩
theorem G_m_isColour : zG M_m_isColour 1 := ⟨zt_t1 963 (by decide +kernel) rfl, zt_t1 13 (by decide +kernel) rfl, by decide, by decide, by decide +kernel⟩
theorem S_m_isColour : Cond.static M_m_isColour.1 ∈ zt := zt_t1 962 (by decide +kernel) rfl
theorem G_m_isSpeed : zG M_m_isSpeed 1 := ⟨zt_t1 882 (by decide +kernel) rfl, zt_t1 13 (by decide +kernel) rfl, by decide, by decide, by decide +kernel⟩
theorem S_m_isSpeed : Cond.static M_m_isSpeed.1 ∈ zt := zt_t1 881 (by decide +kernel) rfl
theorem G_m_type : zG M_m_type 1 := ⟨zt_t1 794 (by decide +kernel) rfl, zt_t1 13 (by decide +kernel) rfl, by decide, by decide, by decide +kernel⟩
theorem I_m_type : Cond.instanceMethod M_m_type.1 ∈ zt ∧ Cond.selects M_m_type.1.cls M_m_type.1 M_m_type.1 ∈ zt := ⟨zt_t1 792 (by decide +kernel) rfl, zt_t1 793 (by decide +kernel) rfl⟩
theorem G_m_clear : zG M_m_clear 0 := ⟨zt_t1 801 (by decide +kernel) rfl, zt_t1 13 (by decide +kernel) rfl, by decide, by decide, by decide +kernel⟩
theorem I_m_clear : Cond.instanceMethod M_m_clear.1 ∈ zt ∧ Cond.selects M_m_clear.1.cls M_m_clear.1 M_m_clear.1 ∈ zt := ⟨zt_t1 799 (by decide +kernel) rfl, zt_t1 800 (by decide +kernel) rfl⟩
theorem G_m_letterAt : zG M_m_letterAt 1 := ⟨zt_t1 813 (by decide +kernel) rfl, zt_t1 13 (by decide +kernel) rfl, by decide, by decide, by decide +kernel⟩
theorem I_m_letterAt : Cond.instanceMethod M_m_letterAt.1 ∈ zt ∧ Cond.selects M_m_letterAt.1.cls M_m_letterAt.1 M_m_letterAt.1 ∈ zt := ⟨zt_t1 812 (by decide +kernel) rfl, zt_sel 24 (by decide +kernel) rfl⟩
theorem G_m_isFigure : zG M_m_isFigure 1 := ⟨zt_t1 816 (by decide +kernel) rfl, zt_t1 13 (by decide +kernel) rfl, by decide, by decide, by decide +kernel⟩
theorem S_m_isFigure : Cond.static M_m_isFigure.1 ∈ zt := zt_t1 815 (by decide +kernel) rfl
theorem G_m_isLetter : zG M_m_isLetter 1 := ⟨zt_t1 819 (by decide +kernel) rfl, zt_t1 13 (by decide +kernel) rfl, by decide, by decide, by decide +kernel⟩
theorem S_m_isLetter : Cond.static M_m_isLetter.1 ∈ zt := zt_t1 818 (by decide +kernel) rfl
theorem G_m_next : zG M_m_next 0 := ⟨zt_t1 809 (by decide +kernel) rfl, zt_t1 13 (by decide +kernel) rfl, by decide, by decide, by decide +kernel⟩
theorem I_m_next : Cond.instanceMethod M_m_next.1 ∈ zt ∧ Cond.selects M_m_next.1.cls M_m_next.1 M_m_next.1 ∈ zt := ⟨zt_t1 808 (by decide +kernel) rfl, zt_sel 23 (by decide +kernel) rfl⟩
theorem G_m_takesNumber : zG M_m_takesNumber 2 := ⟨zt_t1 831 (by decide +kernel) rfl, zt_t1 13 (by decide +kernel) rfl, by decide, by decide, by decide +kernel⟩
theorem I_m_takesNumber : Cond.instanceMethod M_m_takesNumber.1 ∈ zt ∧ Cond.selects M_m_takesNumber.1.cls M_m_takesNumber.1 M_m_takesNumber.1 ∈ zt := ⟨zt_t1 830 (by decide +kernel) rfl, zt_sel 27 (by decide +kernel) rfl⟩
theorem G_m_readOne : zG M_m_readOne 0 := ⟨zt_t1 835 (by decide +kernel) rfl, zt_t1 13 (by decide +kernel) rfl, by decide, by decide, by decide +kernel⟩
theorem I_m_readOne : Cond.instanceMethod M_m_readOne.1 ∈ zt ∧ Cond.selects M_m_readOne.1.cls M_m_readOne.1 M_m_readOne.1 ∈ zt := ⟨zt_t1 834 (by decide +kernel) rfl, zt_sel 28 (by decide +kernel) rfl⟩
theorem G_m_mayBegin : zG M_m_mayBegin 1 := ⟨zt_t1 827 (by decide +kernel) rfl, zt_t1 13 (by decide +kernel) rfl, by decide, by decide, by decide +kernel⟩
theorem I_m_mayBegin : Cond.instanceMethod M_m_mayBegin.1 ∈ zt ∧ Cond.selects M_m_mayBegin.1.cls M_m_mayBegin.1 M_m_mayBegin.1 ∈ zt := ⟨zt_t1 826 (by decide +kernel) rfl, zt_sel 26 (by decide +kernel) rfl⟩
theorem G_m_readItem : zG M_m_readItem 0 := ⟨zt_t1 823 (by decide +kernel) rfl, zt_t1 13 (by decide +kernel) rfl, by decide, by decide, by decide +kernel⟩
theorem I_m_readItem : Cond.instanceMethod M_m_readItem.1 ∈ zt ∧ Cond.selects M_m_readItem.1.cls M_m_readItem.1 M_m_readItem.1 ∈ zt := ⟨zt_t1 822 (by decide +kernel) rfl, zt_sel 25 (by decide +kernel) rfl⟩
theorem G_m_rose : zG M_m_rose 0 := ⟨zt_t1 805 (by decide +kernel) rfl, zt_t1 13 (by decide +kernel) rfl, by decide, by decide, by decide +kernel⟩
theorem I_m_rose : Cond.instanceMethod M_m_rose.1 ∈ zt ∧ Cond.selects M_m_rose.1.cls M_m_rose.1 M_m_rose.1 ∈ zt := ⟨zt_t1 803 (by decide +kernel) rfl, zt_t1 804 (by decide +kernel) rfl⟩
theorem G_m_settles : zG M_m_settles 0 := ⟨zt_t1 839 (by decide +kernel) rfl, zt_t1 13 (by decide +kernel) rfl, by decide, by decide, by decide +kernel⟩
theorem I_m_settles : Cond.instanceMethod M_m_settles.1 ∈ zt ∧ Cond.selects M_m_settles.1.cls M_m_settles.1 M_m_settles.1 ∈ zt := ⟨zt_t1 838 (by decide +kernel) rfl, zt_sel 29 (by decide +kernel) rfl⟩
theorem G_m_pane : zG M_m_pane 1 := ⟨zt_t1 843 (by decide +kernel) rfl, zt_t1 13 (by decide +kernel) rfl, by decide, by decide, by decide +kernel⟩
theorem I_m_pane : Cond.instanceMethod M_m_pane.1 ∈ zt ∧ Cond.selects M_m_pane.1.cls M_m_pane.1 M_m_pane.1 ∈ zt := ⟨zt_t1 841 (by decide +kernel) rfl, zt_t1 842 (by decide +kernel) rfl⟩
theorem G_m_colourAt : zG M_m_colourAt 2 := ⟨zt_t1 863 (by decide +kernel) rfl, zt_t1 13 (by decide +kernel) rfl, by decide, by decide, by decide +kernel⟩
theorem I_m_colourAt : Cond.instanceMethod M_m_colourAt.1 ∈ zt ∧ Cond.selects M_m_colourAt.1.cls M_m_colourAt.1 M_m_colourAt.1 ∈ zt := ⟨zt_t1 862 (by decide +kernel) rfl, zt_sel 33 (by decide +kernel) rfl⟩
theorem G_m_standsIn : zG M_m_standsIn 1 := ⟨zt_t1 859 (by decide +kernel) rfl, zt_t1 13 (by decide +kernel) rfl, by decide, by decide, by decide +kernel⟩
theorem I_m_standsIn : Cond.instanceMethod M_m_standsIn.1 ∈ zt ∧ Cond.selects M_m_standsIn.1.cls M_m_standsIn.1 M_m_standsIn.1 ∈ zt := ⟨zt_t1 858 (by decide +kernel) rfl, zt_sel 32 (by decide +kernel) rfl⟩
theorem G_m_owedAll : zG M_m_owedAll 1 := ⟨zt_t1 867 (by decide +kernel) rfl, zt_t1 13 (by decide +kernel) rfl, by decide, by decide, by decide +kernel⟩
theorem I_m_owedAll : Cond.instanceMethod M_m_owedAll.1 ∈ zt ∧ Cond.selects M_m_owedAll.1.cls M_m_owedAll.1 M_m_owedAll.1 ∈ zt := ⟨zt_t1 866 (by decide +kernel) rfl, zt_sel 34 (by decide +kernel) rfl⟩
theorem G_m_one : zG M_m_one 2 := ⟨zt_t1 851 (by decide +kernel) rfl, zt_t1 13 (by decide +kernel) rfl, by decide, by decide, by decide +kernel⟩
theorem I_m_one : Cond.instanceMethod M_m_one.1 ∈ zt ∧ Cond.selects M_m_one.1.cls M_m_one.1 M_m_one.1 ∈ zt := ⟨zt_t1 849 (by decide +kernel) rfl, zt_t1 850 (by decide +kernel) rfl⟩
theorem G_m_areTwo : zG M_m_areTwo 2 := ⟨zt_t1 875 (by decide +kernel) rfl, zt_t1 13 (by decide +kernel) rfl, by decide, by decide, by decide +kernel⟩
theorem I_m_areTwo : Cond.instanceMethod M_m_areTwo.1 ∈ zt ∧ Cond.selects M_m_areTwo.1.cls M_m_areTwo.1 M_m_areTwo.1 ∈ zt := ⟨zt_t1 874 (by decide +kernel) rfl, zt_sel 35 (by decide +kernel) rfl⟩
theorem G_m_owed : zG M_m_owed 2 := ⟨zt_t1 871 (by decide +kernel) rfl, zt_t1 13 (by decide +kernel) rfl, by decide, by decide, by decide +kernel⟩
theorem I_m_owed : Cond.instanceMethod M_m_owed.1 ∈ zt ∧ Cond.selects M_m_owed.1.cls M_m_owed.1 M_m_owed.1 ∈ zt := ⟨zt_t1 869 (by decide +kernel) rfl, zt_t1 870 (by decide +kernel) rfl⟩
theorem G_m_remembers : zG M_m_remembers 0 := ⟨zt_t1 886 (by decide +kernel) rfl, zt_t1 13 (by decide +kernel) rfl, by decide, by decide, by decide +kernel⟩
theorem I_m_remembers : Cond.instanceMethod M_m_remembers.1 ∈ zt ∧ Cond.selects M_m_remembers.1.cls M_m_remembers.1 M_m_remembers.1 ∈ zt := ⟨zt_t1 885 (by decide +kernel) rfl, zt_sel 36 (by decide +kernel) rfl⟩
theorem G_m_clicksBy : zG M_m_clicksBy 3 := ⟨zt_t1 893 (by decide +kernel) rfl, zt_t1 13 (by decide +kernel) rfl, by decide, by decide, by decide +kernel⟩
theorem S_m_clicksBy : Cond.static M_m_clicksBy.1 ∈ zt := zt_t1 892 (by decide +kernel) rfl
theorem G_m_clicksOf : zG M_m_clicksOf 1 := ⟨zt_t1 890 (by decide +kernel) rfl, zt_t1 13 (by decide +kernel) rfl, by decide, by decide, by decide +kernel⟩
theorem I_m_clicksOf : Cond.instanceMethod M_m_clicksOf.1 ∈ zt ∧ Cond.selects M_m_clicksOf.1.cls M_m_clicksOf.1 M_m_clicksOf.1 ∈ zt := ⟨zt_t1 889 (by decide +kernel) rfl, zt_sel 37 (by decide +kernel) rfl⟩
theorem G_m_feasts : zG M_m_feasts 0 := ⟨zt_t1 897 (by decide +kernel) rfl, zt_t1 13 (by decide +kernel) rfl, by decide, by decide, by decide +kernel⟩
theorem I_m_feasts : Cond.instanceMethod M_m_feasts.1 ∈ zt ∧ Cond.selects M_m_feasts.1.cls M_m_feasts.1 M_m_feasts.1 ∈ zt := ⟨zt_t1 896 (by decide +kernel) rfl, zt_sel 38 (by decide +kernel) rfl⟩
theorem G_m_spins : zG M_m_spins 1 := ⟨zt_t1 879 (by decide +kernel) rfl, zt_t1 13 (by decide +kernel) rfl, by decide, by decide, by decide +kernel⟩
theorem I_m_spins : Cond.instanceMethod M_m_spins.1 ∈ zt ∧ Cond.selects M_m_spins.1.cls M_m_spins.1 M_m_spins.1 ∈ zt := ⟨zt_t1 877 (by decide +kernel) rfl, zt_t1 878 (by decide +kernel) rfl⟩
theorem G_m_whoHas : zG M_m_whoHas 1 := ⟨zt_t1 905 (by decide +kernel) rfl, zt_t1 13 (by decide +kernel) rfl, by decide, by decide, by decide +kernel⟩
theorem I_m_whoHas : Cond.instanceMethod M_m_whoHas.1 ∈ zt ∧ Cond.selects M_m_whoHas.1.cls M_m_whoHas.1 M_m_whoHas.1 ∈ zt := ⟨zt_t1 904 (by decide +kernel) rfl, zt_sel 39 (by decide +kernel) rfl⟩
theorem G_m_goes : zG M_m_goes 2 := ⟨zt_t1 901 (by decide +kernel) rfl, zt_t1 13 (by decide +kernel) rfl, by decide, by decide, by decide +kernel⟩
theorem I_m_goes : Cond.instanceMethod M_m_goes.1 ∈ zt ∧ Cond.selects M_m_goes.1.cls M_m_goes.1 M_m_goes.1 ∈ zt := ⟨zt_t1 899 (by decide +kernel) rfl, zt_t1 900 (by decide +kernel) rfl⟩
theorem G_m_passes : zG M_m_passes 1 := ⟨zt_t1 909 (by decide +kernel) rfl, zt_t1 13 (by decide +kernel) rfl, by decide, by decide, by decide +kernel⟩
theorem I_m_passes : Cond.instanceMethod M_m_passes.1 ∈ zt ∧ Cond.selects M_m_passes.1.cls M_m_passes.1 M_m_passes.1 ∈ zt := ⟨zt_t1 907 (by decide +kernel) rfl, zt_t1 908 (by decide +kernel) rfl⟩
theorem G_m_covers : zG M_m_covers 1 := ⟨zt_t1 913 (by decide +kernel) rfl, zt_t1 13 (by decide +kernel) rfl, by decide, by decide, by decide +kernel⟩
theorem I_m_covers : Cond.instanceMethod M_m_covers.1 ∈ zt ∧ Cond.selects M_m_covers.1.cls M_m_covers.1 M_m_covers.1 ∈ zt := ⟨zt_t1 911 (by decide +kernel) rfl, zt_t1 912 (by decide +kernel) rfl⟩
theorem G_m_forgives : zG M_m_forgives 2 := ⟨zt_t1 917 (by decide +kernel) rfl, zt_t1 13 (by decide +kernel) rfl, by decide, by decide, by decide +kernel⟩
theorem I_m_forgives : Cond.instanceMethod M_m_forgives.1 ∈ zt ∧ Cond.selects M_m_forgives.1.cls M_m_forgives.1 M_m_forgives.1 ∈ zt := ⟨zt_t1 915 (by decide +kernel) rfl, zt_t1 916 (by decide +kernel) rfl⟩
theorem G_m_undo : zG M_m_undo 0 := ⟨zt_t1 921 (by decide +kernel) rfl, zt_t1 13 (by decide +kernel) rfl, by decide, by decide, by decide +kernel⟩
theorem I_m_undo : Cond.instanceMethod M_m_undo.1 ∈ zt ∧ Cond.selects M_m_undo.1.cls M_m_undo.1 M_m_undo.1 ∈ zt := ⟨zt_t1 919 (by decide +kernel) rfl, zt_t1 920 (by decide +kernel) rfl⟩
theorem G_m_isAlike : zG M_m_isAlike 1 := ⟨zt_t1 933 (by decide +kernel) rfl, zt_t1 13 (by decide +kernel) rfl, by decide, by decide, by decide +kernel⟩
theorem I_m_isAlike : Cond.instanceMethod M_m_isAlike.1 ∈ zt ∧ Cond.selects M_m_isAlike.1.cls M_m_isAlike.1 M_m_isAlike.1 ∈ zt := ⟨zt_t1 932 (by decide +kernel) rfl, zt_sel 41 (by decide +kernel) rfl⟩
theorem G_m_alike : zG M_m_alike 0 := ⟨zt_t1 929 (by decide +kernel) rfl, zt_t1 13 (by decide +kernel) rfl, by decide, by decide, by decide +kernel⟩
theorem I_m_alike : Cond.instanceMethod M_m_alike.1 ∈ zt ∧ Cond.selects M_m_alike.1.cls M_m_alike.1 M_m_alike.1 ∈ zt := ⟨zt_t1 928 (by decide +kernel) rfl, zt_sel 40 (by decide +kernel) rfl⟩
theorem G_m_ring : zG M_m_ring 0 := ⟨zt_t1 937 (by decide +kernel) rfl, zt_t1 13 (by decide +kernel) rfl, by decide, by decide, by decide +kernel⟩
theorem I_m_ring : Cond.instanceMethod M_m_ring.1 ∈ zt ∧ Cond.selects M_m_ring.1.cls M_m_ring.1 M_m_ring.1 ∈ zt := ⟨zt_t1 936 (by decide +kernel) rfl, zt_sel 42 (by decide +kernel) rfl⟩
theorem G_m_now : zG M_m_now 1 := ⟨zt_t1 925 (by decide +kernel) rfl, zt_t1 13 (by decide +kernel) rfl, by decide, by decide, by decide +kernel⟩
theorem I_m_now : Cond.instanceMethod M_m_now.1 ∈ zt ∧ Cond.selects M_m_now.1.cls M_m_now.1 M_m_now.1 ∈ zt := ⟨zt_t1 923 (by decide +kernel) rfl, zt_t1 924 (by decide +kernel) rfl⟩
theorem G_m_clicks : zG M_m_clicks 1 := ⟨zt_t1 944 (by decide +kernel) rfl, zt_t1 13 (by decide +kernel) rfl, by decide, by decide, by decide +kernel⟩
theorem I_m_clicks : Cond.instanceMethod M_m_clicks.1 ∈ zt ∧ Cond.selects M_m_clicks.1.cls M_m_clicks.1 M_m_clicks.1 ∈ zt := ⟨zt_t1 942 (by decide +kernel) rfl, zt_t1 943 (by decide +kernel) rfl⟩
theorem G_m_stops : zG M_m_stops 1 := ⟨zt_t1 948 (by decide +kernel) rfl, zt_t1 13 (by decide +kernel) rfl, by decide, by decide, by decide +kernel⟩
theorem I_m_stops : Cond.instanceMethod M_m_stops.1 ∈ zt ∧ Cond.selects M_m_stops.1.cls M_m_stops.1 M_m_stops.1 ∈ zt := ⟨zt_t1 946 (by decide +kernel) rfl, zt_t1 947 (by decide +kernel) rfl⟩
theorem G_m_shadeOf : zG M_m_shadeOf 2 := ⟨zt_t1 956 (by decide +kernel) rfl, zt_t1 13 (by decide +kernel) rfl, by decide, by decide, by decide +kernel⟩
theorem I_m_shadeOf : Cond.instanceMethod M_m_shadeOf.1 ∈ zt ∧ Cond.selects M_m_shadeOf.1.cls M_m_shadeOf.1 M_m_shadeOf.1 ∈ zt := ⟨zt_t1 955 (by decide +kernel) rfl, zt_sel 43 (by decide +kernel) rfl⟩
theorem G_m_shade : zG M_m_shade 2 := ⟨zt_t1 952 (by decide +kernel) rfl, zt_t1 13 (by decide +kernel) rfl, by decide, by decide, by decide +kernel⟩
theorem I_m_shade : Cond.instanceMethod M_m_shade.1 ∈ zt ∧ Cond.selects M_m_shade.1.cls M_m_shade.1 M_m_shade.1 ∈ zt := ⟨zt_t1 950 (by decide +kernel) rfl, zt_t1 951 (by decide +kernel) rfl⟩
theorem G_m_speedsOf : zG M_m_speedsOf 3 := ⟨zt_t1 967 (by decide +kernel) rfl, zt_t1 13 (by decide +kernel) rfl, by decide, by decide, by decide +kernel⟩
theorem I_m_speedsOf : Cond.instanceMethod M_m_speedsOf.1 ∈ zt ∧ Cond.selects M_m_speedsOf.1.cls M_m_speedsOf.1 M_m_speedsOf.1 ∈ zt := ⟨zt_t1 966 (by decide +kernel) rfl, zt_sel 44 (by decide +kernel) rfl⟩
theorem G_m_speeds : zG M_m_speeds 3 := ⟨zt_t1 960 (by decide +kernel) rfl, zt_t1 13 (by decide +kernel) rfl, by decide, by decide, by decide +kernel⟩
theorem I_m_speeds : Cond.instanceMethod M_m_speeds.1 ∈ zt ∧ Cond.selects M_m_speeds.1.cls M_m_speeds.1 M_m_speeds.1 ∈ zt := ⟨zt_t1 958 (by decide +kernel) rfl, zt_t1 959 (by decide +kernel) rfl⟩
theorem G_m_steps : zG M_m_steps 4 := ⟨zt_t1 971 (by decide +kernel) rfl, zt_t1 13 (by decide +kernel) rfl, by decide, by decide, by decide +kernel⟩
theorem I_m_steps : Cond.instanceMethod M_m_steps.1 ∈ zt ∧ Cond.selects M_m_steps.1.cls M_m_steps.1 M_m_steps.1 ∈ zt := ⟨zt_t1 969 (by decide +kernel) rfl, zt_t1 970 (by decide +kernel) rfl⟩
theorem G_m_chair : zG M_m_chair 2 := ⟨zt_t1 975 (by decide +kernel) rfl, zt_t1 13 (by decide +kernel) rfl, by decide, by decide, by decide +kernel⟩
theorem I_m_chair : Cond.instanceMethod M_m_chair.1 ∈ zt ∧ Cond.selects M_m_chair.1.cls M_m_chair.1 M_m_chair.1 ∈ zt := ⟨zt_t1 973 (by decide +kernel) rfl, zt_t1 974 (by decide +kernel) rfl⟩
theorem G_m_mostYet : zG M_m_mostYet 0 := ⟨zt_t1 987 (by decide +kernel) rfl, zt_t1 13 (by decide +kernel) rfl, by decide, by decide, by decide +kernel⟩
theorem I_m_mostYet : Cond.instanceMethod M_m_mostYet.1 ∈ zt ∧ Cond.selects M_m_mostYet.1.cls M_m_mostYet.1 M_m_mostYet.1 ∈ zt := ⟨zt_t1 986 (by decide +kernel) rfl, zt_sel 46 (by decide +kernel) rfl⟩
theorem G_m_sits : zG M_m_sits 1 := ⟨zt_t1 983 (by decide +kernel) rfl, zt_t1 13 (by decide +kernel) rfl, by decide, by decide, by decide +kernel⟩
theorem I_m_sits : Cond.instanceMethod M_m_sits.1 ∈ zt ∧ Cond.selects M_m_sits.1.cls M_m_sits.1 M_m_sits.1 ∈ zt := ⟨zt_t1 982 (by decide +kernel) rfl, zt_sel 45 (by decide +kernel) rfl⟩
theorem G_m_seats : zG M_m_seats 2 := ⟨zt_t1 979 (by decide +kernel) rfl, zt_t1 13 (by decide +kernel) rfl, by decide, by decide, by decide +kernel⟩
theorem I_m_seats : Cond.instanceMethod M_m_seats.1 ∈ zt ∧ Cond.selects M_m_seats.1.cls M_m_seats.1 M_m_seats.1 ∈ zt := ⟨zt_t1 977 (by decide +kernel) rfl, zt_t1 978 (by decide +kernel) rfl⟩
theorem G_m_lowest : zG M_m_lowest 3 := ⟨zt_t1 994 (by decide +kernel) rfl, zt_t1 13 (by decide +kernel) rfl, by decide, by decide, by decide +kernel⟩
theorem S_m_lowest : Cond.static M_m_lowest.1 ∈ zt := zt_t1 993 (by decide +kernel) rfl
theorem G_m_odds : zG M_m_odds 5 := ⟨zt_t1 991 (by decide +kernel) rfl, zt_t1 13 (by decide +kernel) rfl, by decide, by decide, by decide +kernel⟩
theorem I_m_odds : Cond.instanceMethod M_m_odds.1 ∈ zt ∧ Cond.selects M_m_odds.1.cls M_m_odds.1 M_m_odds.1 ∈ zt := ⟨zt_t1 989 (by decide +kernel) rfl, zt_t1 990 (by decide +kernel) rfl⟩
theorem G_m_saw : zG M_m_saw 2 := ⟨zt_t1 998 (by decide +kernel) rfl, zt_t1 13 (by decide +kernel) rfl, by decide, by decide, by decide +kernel⟩
theorem I_m_saw : Cond.instanceMethod M_m_saw.1 ∈ zt ∧ Cond.selects M_m_saw.1.cls M_m_saw.1 M_m_saw.1 ∈ zt := ⟨zt_t1 996 (by decide +kernel) rfl, zt_t1 997 (by decide +kernel) rfl⟩
theorem G_m_isSeen : zG M_m_isSeen 1 := ⟨zt_t1 1006 (by decide +kernel) rfl, zt_t1 13 (by decide +kernel) rfl, by decide, by decide, by decide +kernel⟩
theorem I_m_isSeen : Cond.instanceMethod M_m_isSeen.1 ∈ zt ∧ Cond.selects M_m_isSeen.1.cls M_m_isSeen.1 M_m_isSeen.1 ∈ zt := ⟨zt_t1 1005 (by decide +kernel) rfl, zt_sel 47 (by decide +kernel) rfl⟩
theorem G_m_spun : zG M_m_spun 1 := ⟨zt_t1 1002 (by decide +kernel) rfl, zt_t1 13 (by decide +kernel) rfl, by decide, by decide, by decide +kernel⟩
theorem I_m_spun : Cond.instanceMethod M_m_spun.1 ∈ zt ∧ Cond.selects M_m_spun.1.cls M_m_spun.1 M_m_spun.1 ∈ zt := ⟨zt_t1 1000 (by decide +kernel) rfl, zt_t1 1001 (by decide +kernel) rfl⟩
theorem G_m_look : zG M_m_look 0 := ⟨zt_t1 1010 (by decide +kernel) rfl, zt_t1 13 (by decide +kernel) rfl, by decide, by decide, by decide +kernel⟩
theorem I_m_look : Cond.instanceMethod M_m_look.1 ∈ zt ∧ Cond.selects M_m_look.1.cls M_m_look.1 M_m_look.1 ∈ zt := ⟨zt_t1 1008 (by decide +kernel) rfl, zt_t1 1009 (by decide +kernel) rfl⟩
theorem G_m_hears : zG M_m_hears 2 := ⟨zt_t1 1015 (by decide +kernel) rfl, zt_t1 13 (by decide +kernel) rfl, by decide, by decide, by decide +kernel⟩
theorem I_m_hears : Cond.instanceMethod M_m_hears.1 ∈ zt ∧ Cond.selects M_m_hears.1.cls M_m_hears.1 M_m_hears.1 ∈ zt := ⟨zt_t1 1013 (by decide +kernel) rfl, zt_t1 1014 (by decide +kernel) rfl⟩
theorem G_m_isHeard : zG M_m_isHeard 2 := ⟨zt_t1 1023 (by decide +kernel) rfl, zt_t1 13 (by decide +kernel) rfl, by decide, by decide, by decide +kernel⟩
theorem I_m_isHeard : Cond.instanceMethod M_m_isHeard.1 ∈ zt ∧ Cond.selects M_m_isHeard.1.cls M_m_isHeard.1 M_m_isHeard.1 ∈ zt := ⟨zt_t1 1022 (by decide +kernel) rfl, zt_sel 48 (by decide +kernel) rfl⟩
theorem G_m_laws : zG M_m_laws 1 := ⟨zt_t1 1019 (by decide +kernel) rfl, zt_t1 13 (by decide +kernel) rfl, by decide, by decide, by decide +kernel⟩
theorem I_m_laws : Cond.instanceMethod M_m_laws.1 ∈ zt ∧ Cond.selects M_m_laws.1.cls M_m_laws.1 M_m_laws.1 ∈ zt := ⟨zt_t1 1017 (by decide +kernel) rfl, zt_t1 1018 (by decide +kernel) rfl⟩
theorem G_m_greatest : zG M_m_greatest 1 := ⟨zt_t1 1032 (by decide +kernel) rfl, zt_t1 13 (by decide +kernel) rfl, by decide, by decide, by decide +kernel⟩
theorem I_m_greatest : Cond.instanceMethod M_m_greatest.1 ∈ zt ∧ Cond.selects M_m_greatest.1.cls M_m_greatest.1 M_m_greatest.1 ∈ zt := ⟨zt_t1 1031 (by decide +kernel) rfl, zt_sel 49 (by decide +kernel) rfl⟩
theorem G_m_tryNext : zG M_m_tryNext 0 := ⟨zt_t1 1027 (by decide +kernel) rfl, zt_t1 13 (by decide +kernel) rfl, by decide, by decide, by decide +kernel⟩
theorem I_m_tryNext : Cond.instanceMethod M_m_tryNext.1 ∈ zt ∧ Cond.selects M_m_tryNext.1.cls M_m_tryNext.1 M_m_tryNext.1 ∈ zt := ⟨zt_t1 1025 (by decide +kernel) rfl, zt_t1 1026 (by decide +kernel) rfl⟩
theorem G_m_forget : zG M_m_forget 0 := ⟨zt_t1 1036 (by decide +kernel) rfl, zt_t1 13 (by decide +kernel) rfl, by decide, by decide, by decide +kernel⟩
theorem I_m_forget : Cond.instanceMethod M_m_forget.1 ∈ zt ∧ Cond.selects M_m_forget.1.cls M_m_forget.1 M_m_forget.1 ∈ zt := ⟨zt_t1 1034 (by decide +kernel) rfl, zt_t1 1035 (by decide +kernel) rfl⟩
theorem G_m_mark : zG M_m_mark 2 := ⟨zt_t1 1040 (by decide +kernel) rfl, zt_t1 13 (by decide +kernel) rfl, by decide, by decide, by decide +kernel⟩
theorem I_m_mark : Cond.instanceMethod M_m_mark.1 ∈ zt ∧ Cond.selects M_m_mark.1.cls M_m_mark.1 M_m_mark.1 ∈ zt := ⟨zt_t1 1038 (by decide +kernel) rfl, zt_t1 1039 (by decide +kernel) rfl⟩
theorem G_m_keep : zG M_m_keep 1 := ⟨zt_t1 1050 (by decide +kernel) rfl, zt_t1 13 (by decide +kernel) rfl, by decide, by decide, by decide +kernel⟩
theorem I_m_keep : Cond.instanceMethod M_m_keep.1 ∈ zt ∧ Cond.selects M_m_keep.1.cls M_m_keep.1 M_m_keep.1 ∈ zt := ⟨zt_t1 1048 (by decide +kernel) rfl, zt_t1 1049 (by decide +kernel) rfl⟩
theorem G_m_back : zG M_m_back 1 := ⟨zt_t1 1054 (by decide +kernel) rfl, zt_t1 13 (by decide +kernel) rfl, by decide, by decide, by decide +kernel⟩
theorem I_m_back : Cond.instanceMethod M_m_back.1 ∈ zt ∧ Cond.selects M_m_back.1.cls M_m_back.1 M_m_back.1 ∈ zt := ⟨zt_t1 1052 (by decide +kernel) rfl, zt_t1 1053 (by decide +kernel) rfl⟩
theorem G_m_count : zG M_m_count 1 := ⟨zt_t1 1058 (by decide +kernel) rfl, zt_t1 13 (by decide +kernel) rfl, by decide, by decide, by decide +kernel⟩
theorem I_m_count : Cond.instanceMethod M_m_count.1 ∈ zt ∧ Cond.selects M_m_count.1.cls M_m_count.1 M_m_count.1 ∈ zt := ⟨zt_t1 1056 (by decide +kernel) rfl, zt_t1 1057 (by decide +kernel) rfl⟩
theorem G_m_trace : zG M_m_trace 0 := ⟨zt_t1 1062 (by decide +kernel) rfl, zt_t1 13 (by decide +kernel) rfl, by decide, by decide, by decide +kernel⟩
theorem I_m_trace : Cond.instanceMethod M_m_trace.1 ∈ zt ∧ Cond.selects M_m_trace.1.cls M_m_trace.1 M_m_trace.1 ∈ zt := ⟨zt_t1 1060 (by decide +kernel) rfl, zt_t1 1061 (by decide +kernel) rfl⟩
theorem G_j_floorMod : zG M_j_floorMod 2 := ⟨zt_t1 394 (by decide +kernel) rfl, zt_t1 14 (by decide +kernel) rfl, by decide, by decide, by decide +kernel⟩
theorem S_j_floorMod : Cond.static M_j_floorMod.1 ∈ zt := zt_t1 393 (by decide +kernel) rfl
theorem G_j_max : zG M_j_max 2 := ⟨zt_t1 597 (by decide +kernel) rfl, zt_t1 14 (by decide +kernel) rfl, by decide, by decide, by decide +kernel⟩
theorem S_j_max : Cond.static M_j_max.1 ∈ zt := zt_t1 596 (by decide +kernel) rfl
theorem G_j_min : zG M_j_min 2 := ⟨zt_t1 316 (by decide +kernel) rfl, zt_t1 14 (by decide +kernel) rfl, by decide, by decide, by decide +kernel⟩
theorem S_j_min : Cond.static M_j_min.1 ∈ zt := zt_t1 315 (by decide +kernel) rfl
theorem G_j_fill : zG M_j_fill 2 := ⟨zt_t1 355 (by decide +kernel) rfl, zt_t1 15 (by decide +kernel) rfl, by decide, by decide, by decide +kernel⟩
theorem S_j_fill : Cond.static M_j_fill.1 ∈ zt := zt_t1 354 (by decide +kernel) rfl
theorem lk_law_9 : Cond.methodLink "RoseWheelLaw" 9 M_x_init.1 ∈ zt := zt_t1 19 (by decide +kernel) rfl
theorem lk_law_13 : Cond.methodLink "RoseWheelLaw" 13 M_x_type.1 ∈ zt := zt_t1 265 (by decide +kernel) rfl
theorem lk_x_99 : Cond.methodLink "RoseWheel" 99 M_x_isWithin.1 ∈ zt := zt_t1 269 (by decide +kernel) rfl
theorem lk_x_103 : Cond.methodLink "RoseWheel" 103 M_t_add.1 ∈ zt := zt_t1 272 (by decide +kernel) rfl
theorem lk_law_18 : Cond.methodLink "RoseWheelLaw" 18 M_x_clear.1 ∈ zt := zt_t1 276 (by decide +kernel) rfl
theorem lk_law_23 : Cond.methodLink "RoseWheelLaw" 23 M_x_rose.1 ∈ zt := zt_t1 280 (by decide +kernel) rfl
theorem lk_x_111 : Cond.methodLink "RoseWheel" 111 M_t_readInto.1 ∈ zt := zt_t1 284 (by decide +kernel) rfl
theorem lk_t_19 : Cond.methodLink "RoseWheel$Text" 19 M_w_empty.1 ∈ zt := zt_t1 288 (by decide +kernel) rfl
theorem lk_t_34 : Cond.methodLink "RoseWheel$Text" 34 M_t_readToken.1 ∈ zt := zt_t1 292 (by decide +kernel) rfl
theorem lk_t_95 : Cond.methodLink "RoseWheel$Text" 95 M_t_byteAt.1 ∈ zt := zt_t1 296 (by decide +kernel) rfl
theorem lk_t_99 : Cond.methodLink "RoseWheel$Text" 99 M_t_isLetter.1 ∈ zt := zt_t1 300 (by decide +kernel) rfl
theorem lk_t_102 : Cond.methodLink "RoseWheel$Text" 102 M_t_readLetters.1 ∈ zt := zt_t1 303 (by decide +kernel) rfl
theorem lk_t_105 : Cond.methodLink "RoseWheel$Text" 105 M_t_isDigit.1 ∈ zt := zt_t1 307 (by decide +kernel) rfl
theorem lk_t_108 : Cond.methodLink "RoseWheel$Text" 108 M_t_readDigits.1 ∈ zt := zt_t1 310 (by decide +kernel) rfl
theorem lk_t_111 : Cond.methodLink "RoseWheel$Text" 111 M_j_min.1 ∈ zt := zt_t1 314 (by decide +kernel) rfl
theorem lk_t_40 : Cond.methodLink "RoseWheel$Text" 40 M_t_readItem.1 ∈ zt := zt_t1 317 (by decide +kernel) rfl
theorem lk_t_50 : Cond.methodLink "RoseWheel$Text" 50 M_t_readPane.1 ∈ zt := zt_t1 321 (by decide +kernel) rfl
theorem lk_t_65 : Cond.methodLink "RoseWheel$Text" 65 M_t_readNumber.1 ∈ zt := zt_t1 325 (by decide +kernel) rfl
theorem lk_t_72 : Cond.methodLink "RoseWheel$Text" 72 M_t_readSemicolon.1 ∈ zt := zt_t1 329 (by decide +kernel) rfl
theorem lk_t_53 : Cond.methodLink "RoseWheel$Text" 53 M_t_readKeeps.1 ∈ zt := zt_t1 333 (by decide +kernel) rfl
theorem lk_t_56 : Cond.methodLink "RoseWheel$Text" 56 M_t_readDrag.1 ∈ zt := zt_t1 337 (by decide +kernel) rfl
theorem lk_t_59 : Cond.methodLink "RoseWheel$Text" 59 M_t_readPerson.1 ∈ zt := zt_t1 341 (by decide +kernel) rfl
theorem lk_t_85 : Cond.methodLink "RoseWheel$Text" 85 M_w_isPlaceTold.1 ∈ zt := zt_t1 345 (by decide +kernel) rfl
theorem lk_x_115 : Cond.methodLink "RoseWheel" 115 M_d_begin.1 ∈ zt := zt_t1 349 (by decide +kernel) rfl
theorem lk_d_19 : Cond.methodLink "RoseWheel$Days" 19 M_j_fill.1 ∈ zt := zt_t1 353 (by decide +kernel) rfl
theorem lk_d_33 : Cond.methodLink "RoseWheel$Days" 33 M_d_put.1 ∈ zt := zt_t1 356 (by decide +kernel) rfl
theorem lk_law_27 : Cond.methodLink "RoseWheelLaw" 27 M_x_pane.1 ∈ zt := zt_t1 360 (by decide +kernel) rfl
theorem lk_x_122 : Cond.methodLink "RoseWheel" 122 M_w_hasSpot.1 ∈ zt := zt_t1 364 (by decide +kernel) rfl
theorem lk_law_31 : Cond.methodLink "RoseWheelLaw" 31 M_x_one.1 ∈ zt := zt_t1 368 (by decide +kernel) rfl
theorem lk_x_128 : Cond.methodLink "RoseWheel" 128 M_w_hasPerson.1 ∈ zt := zt_t1 372 (by decide +kernel) rfl
theorem lk_x_131 : Cond.methodLink "RoseWheel" 131 M_d_value.1 ∈ zt := zt_t1 376 (by decide +kernel) rfl
theorem lk_x_138 : Cond.methodLink "RoseWheel" 138 M_x_colourOf.1 ∈ zt := zt_t1 380 (by decide +kernel) rfl
theorem lk_x_271 : Cond.methodLink "RoseWheel" 271 M_w_colourAt.1 ∈ zt := zt_t1 384 (by decide +kernel) rfl
theorem lk_w_40 : Cond.methodLink "RoseWheel$Window" 40 M_w_roundThe.1 ∈ zt := zt_t1 388 (by decide +kernel) rfl
theorem lk_w_34 : Cond.methodLink "RoseWheel$Window" 34 M_j_floorMod.1 ∈ zt := zt_t1 392 (by decide +kernel) rfl
theorem lk_x_141 : Cond.methodLink "RoseWheel" 141 M_x_owedByAll.1 ∈ zt := zt_t1 395 (by decide +kernel) rfl
theorem lk_x_148 : Cond.methodLink "RoseWheel" 148 M_d_debt.1 ∈ zt := zt_t1 399 (by decide +kernel) rfl
theorem lk_law_36 : Cond.methodLink "RoseWheelLaw" 36 M_x_owed.1 ∈ zt := zt_t1 402 (by decide +kernel) rfl
theorem lk_x_144 : Cond.methodLink "RoseWheel" 144 M_x_areTwo.1 ∈ zt := zt_t1 406 (by decide +kernel) rfl
theorem lk_law_40 : Cond.methodLink "RoseWheelLaw" 40 M_x_spins.1 ∈ zt := zt_t1 410 (by decide +kernel) rfl
theorem lk_x_152 : Cond.methodLink "RoseWheel" 152 M_x_isSpeed.1 ∈ zt := zt_t1 414 (by decide +kernel) rfl
theorem lk_x_158 : Cond.methodLink "RoseWheel" 158 M_d_remember.1 ∈ zt := zt_t1 417 (by decide +kernel) rfl
theorem lk_d_37 : Cond.methodLink "RoseWheel$Days" 37 arraycopyName ∈ zt := zt_t1 421 (by decide +kernel) rfl
theorem lk_x_161 : Cond.methodLink "RoseWheel" 161 M_x_turnBehind.1 ∈ zt := zt_t1 424 (by decide +kernel) rfl
theorem lk_x_193 : Cond.methodLink "RoseWheel" 193 M_w_clicksOf.1 ∈ zt := zt_t1 428 (by decide +kernel) rfl
theorem lk_w_54 : Cond.methodLink "RoseWheel$Window" 54 M_w_clicksBy.1 ∈ zt := zt_t1 432 (by decide +kernel) rfl
theorem lk_x_174 : Cond.methodLink "RoseWheel" 174 M_w_roundThe.1 ∈ zt := zt_t1 435 (by decide +kernel) rfl
theorem lk_x_164 : Cond.methodLink "RoseWheel" 164 M_d_put.1 ∈ zt := zt_t1 436 (by decide +kernel) rfl
theorem lk_x_168 : Cond.methodLink "RoseWheel" 168 M_x_holdFeast.1 ∈ zt := zt_t1 437 (by decide +kernel) rfl
theorem lk_x_274 : Cond.methodLink "RoseWheel" 274 M_x_oweBlueTo.1 ∈ zt := zt_t1 441 (by decide +kernel) rfl
theorem lk_x_278 : Cond.methodLink "RoseWheel" 278 M_j_min.1 ∈ zt := zt_t1 445 (by decide +kernel) rfl
theorem lk_law_44 : Cond.methodLink "RoseWheelLaw" 44 M_x_goes.1 ∈ zt := zt_t1 446 (by decide +kernel) rfl
theorem lk_x_171 : Cond.methodLink "RoseWheel" 171 M_x_whoIsOn.1 ∈ zt := zt_t1 450 (by decide +kernel) rfl
theorem lk_law_48 : Cond.methodLink "RoseWheelLaw" 48 M_x_passes.1 ∈ zt := zt_t1 454 (by decide +kernel) rfl
theorem lk_law_52 : Cond.methodLink "RoseWheelLaw" 52 M_x_covers.1 ∈ zt := zt_t1 458 (by decide +kernel) rfl
theorem lk_law_56 : Cond.methodLink "RoseWheelLaw" 56 M_x_forgives.1 ∈ zt := zt_t1 462 (by decide +kernel) rfl
theorem lk_law_60 : Cond.methodLink "RoseWheelLaw" 60 M_x_undo.1 ∈ zt := zt_t1 466 (by decide +kernel) rfl
theorem lk_law_64 : Cond.methodLink "RoseWheelLaw" 64 M_x_now.1 ∈ zt := zt_t1 470 (by decide +kernel) rfl
theorem lk_x_183 : Cond.methodLink "RoseWheel" 183 M_x_owedInAll.1 ∈ zt := zt_t1 474 (by decide +kernel) rfl
theorem lk_x_187 : Cond.methodLink "RoseWheel" 187 M_w_leastLikeTurn.1 ∈ zt := zt_t1 478 (by decide +kernel) rfl
theorem lk_w_47 : Cond.methodLink "RoseWheel$Window" 47 M_w_isAlike.1 ∈ zt := zt_t1 482 (by decide +kernel) rfl
theorem lk_w_51 : Cond.methodLink "RoseWheel$Window" 51 M_w_colourAt.1 ∈ zt := zt_t1 486 (by decide +kernel) rfl
theorem lk_x_190 : Cond.methodLink "RoseWheel" 190 M_x_ringOfDebts.1 ∈ zt := zt_t1 487 (by decide +kernel) rfl
theorem lk_x_283 : Cond.methodLink "RoseWheel" 283 M_x_debtorsBehind.1 ∈ zt := zt_t1 491 (by decide +kernel) rfl
theorem lk_x_286 : Cond.methodLink "RoseWheel" 286 M_x_debtorsOf.1 ∈ zt := zt_t1 495 (by decide +kernel) rfl
theorem lk_law_68 : Cond.methodLink "RoseWheelLaw" 68 M_x_clicks.1 ∈ zt := zt_t1 499 (by decide +kernel) rfl
theorem lk_law_72 : Cond.methodLink "RoseWheelLaw" 72 M_x_stops.1 ∈ zt := zt_t1 503 (by decide +kernel) rfl
theorem lk_law_76 : Cond.methodLink "RoseWheelLaw" 76 M_x_shade.1 ∈ zt := zt_t1 507 (by decide +kernel) rfl
theorem lk_x_196 : Cond.methodLink "RoseWheel" 196 M_x_colourBehind.1 ∈ zt := zt_t1 511 (by decide +kernel) rfl
theorem lk_law_80 : Cond.methodLink "RoseWheelLaw" 80 M_x_speeds.1 ∈ zt := zt_t1 515 (by decide +kernel) rfl
theorem lk_x_199 : Cond.methodLink "RoseWheel" 199 M_x_isColour.1 ∈ zt := zt_t1 519 (by decide +kernel) rfl
theorem lk_x_202 : Cond.methodLink "RoseWheel" 202 M_x_speedsFor.1 ∈ zt := zt_t1 522 (by decide +kernel) rfl
theorem lk_x_206 : Cond.methodLink "RoseWheel" 206 M_x_leastSpeedFor.1 ∈ zt := zt_t1 526 (by decide +kernel) rfl
theorem lk_law_85 : Cond.methodLink "RoseWheelLaw" 85 M_x_steps.1 ∈ zt := zt_t1 530 (by decide +kernel) rfl
theorem lk_x_209 : Cond.methodLink "RoseWheel" 209 M_w_wayRound.1 ∈ zt := zt_t1 534 (by decide +kernel) rfl
theorem lk_w_44 : Cond.methodLink "RoseWheel$Window" 44 M_j_min.1 ∈ zt := zt_t1 538 (by decide +kernel) rfl
theorem lk_law_90 : Cond.methodLink "RoseWheelLaw" 90 M_x_chair.1 ∈ zt := zt_t1 539 (by decide +kernel) rfl
theorem lk_law_94 : Cond.methodLink "RoseWheelLaw" 94 M_x_seats.1 ∈ zt := zt_t1 543 (by decide +kernel) rfl
theorem lk_x_212 : Cond.methodLink "RoseWheel" 212 M_x_seatAll.1 ∈ zt := zt_t1 547 (by decide +kernel) rfl
theorem lk_x_289 : Cond.methodLink "RoseWheel" 289 M_j_fill.1 ∈ zt := zt_t1 551 (by decide +kernel) rfl
theorem lk_x_295 : Cond.methodLink "RoseWheel" 295 M_x_mostServed.1 ∈ zt := zt_t1 552 (by decide +kernel) rfl
theorem lk_x_298 : Cond.methodLink "RoseWheel" 298 M_x_lowestSeat.1 ∈ zt := zt_t1 556 (by decide +kernel) rfl
theorem lk_law_98 : Cond.methodLink "RoseWheelLaw" 98 M_x_odds.1 ∈ zt := zt_t1 560 (by decide +kernel) rfl
theorem lk_x_215 : Cond.methodLink "RoseWheel" 215 M_x_commonDivisor.1 ∈ zt := zt_t1 564 (by decide +kernel) rfl
theorem lk_law_103 : Cond.methodLink "RoseWheelLaw" 103 M_x_saw.1 ∈ zt := zt_t1 567 (by decide +kernel) rfl
theorem lk_x_218 : Cond.methodLink "RoseWheel" 218 M_n_add.1 ∈ zt := zt_t1 571 (by decide +kernel) rfl
theorem lk_law_107 : Cond.methodLink "RoseWheelLaw" 107 M_x_spun.1 ∈ zt := zt_t1 575 (by decide +kernel) rfl
theorem lk_x_220 : Cond.methodLink "RoseWheel" 220 M_x_isAsSeen.1 ∈ zt := zt_t1 579 (by decide +kernel) rfl
theorem lk_law_111 : Cond.methodLink "RoseWheelLaw" 111 M_x_look.1 ∈ zt := zt_t1 583 (by decide +kernel) rfl
theorem lk_x_223 : Cond.methodLink "RoseWheel" 223 M_x_speedsAsSeen.1 ∈ zt := zt_t1 587 (by decide +kernel) rfl
theorem lk_x_227 : Cond.methodLink "RoseWheel" 227 M_x_mostOfOneColour.1 ∈ zt := zt_t1 591 (by decide +kernel) rfl
theorem lk_x_308 : Cond.methodLink "RoseWheel" 308 M_j_max.1 ∈ zt := zt_t1 595 (by decide +kernel) rfl
theorem lk_law_115 : Cond.methodLink "RoseWheelLaw" 115 M_x_hears.1 ∈ zt := zt_t1 598 (by decide +kernel) rfl
theorem lk_law_119 : Cond.methodLink "RoseWheelLaw" 119 M_x_laws.1 ∈ zt := zt_t1 602 (by decide +kernel) rfl
theorem lk_x_231 : Cond.methodLink "RoseWheel" 231 M_x_findLaws.1 ∈ zt := zt_t1 606 (by decide +kernel) rfl
theorem lk_x_311 : Cond.methodLink "RoseWheel" 311 M_x_isAsHeard.1 ∈ zt := zt_t1 610 (by decide +kernel) rfl
theorem lk_x_314 : Cond.methodLink "RoseWheel" 314 M_w_clicksBy.1 ∈ zt := zt_t1 614 (by decide +kernel) rfl
theorem lk_law_123 : Cond.methodLink "RoseWheelLaw" 123 M_x_tryNext.1 ∈ zt := zt_t1 615 (by decide +kernel) rfl
theorem lk_x_234 : Cond.methodLink "RoseWheel" 234 M_x_mostOfOneSound.1 ∈ zt := zt_t1 619 (by decide +kernel) rfl
theorem lk_law_127 : Cond.methodLink "RoseWheelLaw" 127 M_x_forget.1 ∈ zt := zt_t1 623 (by decide +kernel) rfl
theorem lk_law_131 : Cond.methodLink "RoseWheelLaw" 131 M_x_mark.1 ∈ zt := zt_t1 627 (by decide +kernel) rfl
theorem lk_x_253 : Cond.methodLink "RoseWheel" 253 M_kO_worth.1 ∈ zt := zt_t1 632 (by decide +kernel) rfl
theorem lk_kE_15 : Cond.methodLink "RoseWheel$Beadle" 15 M_kO_worth.1 ∈ zt := zt_t1 640 (by decide +kernel) rfl
theorem lk_kB_15 : Cond.methodLink "RoseWheel$Blind" 15 M_kO_worth.1 ∈ zt := zt_t1 645 (by decide +kernel) rfl
theorem lk_kC_15 : Cond.methodLink "RoseWheel$Cripple" 15 M_kB_worth.1 ∈ zt := zt_t1 650 (by decide +kernel) rfl
theorem lk_kD_15 : Cond.methodLink "RoseWheel$Daughter" 15 M_kE_worth.1 ∈ zt := zt_t1 655 (by decide +kernel) rfl
theorem lk_kG_15 : Cond.methodLink "RoseWheel$Dog" 15 M_kO_worth.1 ∈ zt := zt_t1 660 (by decide +kernel) rfl
theorem lk_law_135 : Cond.methodLink "RoseWheelLaw" 135 M_x_keep.1 ∈ zt := zt_t1 662 (by decide +kernel) rfl
theorem lk_x_257 : Cond.methodLink "RoseWheel" 257 M_d_become.1 ∈ zt := zt_t1 666 (by decide +kernel) rfl
theorem lk_law_139 : Cond.methodLink "RoseWheelLaw" 139 M_x_back.1 ∈ zt := zt_t1 670 (by decide +kernel) rfl
theorem lk_law_143 : Cond.methodLink "RoseWheelLaw" 143 M_x_count.1 ∈ zt := zt_t1 674 (by decide +kernel) rfl
theorem lk_law_147 : Cond.methodLink "RoseWheelLaw" 147 M_x_trace.1 ∈ zt := zt_t1 678 (by decide +kernel) rfl
theorem lk_law_12 : Cond.methodLink "RoseWheelLaw" 12 M_m_init.1 ∈ zt := zt_t1 684 (by decide +kernel) rfl
theorem lk_law_17 : Cond.methodLink "RoseWheelLaw" 17 M_m_type.1 ∈ zt := zt_t1 791 (by decide +kernel) rfl
theorem lk_m_69 : Cond.methodLink "RoseWheelModel" 69 M_m_in.1 ∈ zt := zt_t1 795 (by decide +kernel) rfl
theorem lk_law_22 : Cond.methodLink "RoseWheelLaw" 22 M_m_clear.1 ∈ zt := zt_t1 798 (by decide +kernel) rfl
theorem lk_law_26 : Cond.methodLink "RoseWheelLaw" 26 M_m_rose.1 ∈ zt := zt_t1 802 (by decide +kernel) rfl
theorem lk_m_106 : Cond.methodLink "RoseWheelModel" 106 M_m_next.1 ∈ zt := zt_t1 806 (by decide +kernel) rfl
theorem lk_m_82 : Cond.methodLink "RoseWheelModel" 82 M_m_letterAt.1 ∈ zt := zt_t1 810 (by decide +kernel) rfl
theorem lk_m_95 : Cond.methodLink "RoseWheelModel" 95 M_m_isFigure.1 ∈ zt := zt_t1 814 (by decide +kernel) rfl
theorem lk_m_99 : Cond.methodLink "RoseWheelModel" 99 M_m_isLetter.1 ∈ zt := zt_t1 817 (by decide +kernel) rfl
theorem lk_m_134 : Cond.methodLink "RoseWheelModel" 134 M_m_readItem.1 ∈ zt := zt_t1 820 (by decide +kernel) rfl
theorem lk_m_125 : Cond.methodLink "RoseWheelModel" 125 M_m_mayBegin.1 ∈ zt := zt_t1 824 (by decide +kernel) rfl
theorem lk_m_115 : Cond.methodLink "RoseWheelModel" 115 M_m_takesNumber.1 ∈ zt := zt_t1 828 (by decide +kernel) rfl
theorem lk_m_128 : Cond.methodLink "RoseWheelModel" 128 M_m_readOne.1 ∈ zt := zt_t1 832 (by decide +kernel) rfl
theorem lk_m_137 : Cond.methodLink "RoseWheelModel" 137 M_m_settles.1 ∈ zt := zt_t1 836 (by decide +kernel) rfl
theorem lk_law_30 : Cond.methodLink "RoseWheelLaw" 30 M_m_pane.1 ∈ zt := zt_t1 840 (by decide +kernel) rfl
theorem lk_m_146 : Cond.methodLink "RoseWheelModel" 146 M_m_isSpot.1 ∈ zt := zt_t1 844 (by decide +kernel) rfl
theorem lk_law_35 : Cond.methodLink "RoseWheelLaw" 35 M_m_one.1 ∈ zt := zt_t1 848 (by decide +kernel) rfl
theorem lk_m_152 : Cond.methodLink "RoseWheelModel" 152 M_m_isOne.1 ∈ zt := zt_t1 852 (by decide +kernel) rfl
theorem lk_m_155 : Cond.methodLink "RoseWheelModel" 155 M_m_standsIn.1 ∈ zt := zt_t1 856 (by decide +kernel) rfl
theorem lk_m_149 : Cond.methodLink "RoseWheelModel" 149 M_m_colourAt.1 ∈ zt := zt_t1 860 (by decide +kernel) rfl
theorem lk_m_158 : Cond.methodLink "RoseWheelModel" 158 M_m_owedAll.1 ∈ zt := zt_t1 864 (by decide +kernel) rfl
theorem lk_law_39 : Cond.methodLink "RoseWheelLaw" 39 M_m_owed.1 ∈ zt := zt_t1 868 (by decide +kernel) rfl
theorem lk_m_161 : Cond.methodLink "RoseWheelModel" 161 M_m_areTwo.1 ∈ zt := zt_t1 872 (by decide +kernel) rfl
theorem lk_law_43 : Cond.methodLink "RoseWheelLaw" 43 M_m_spins.1 ∈ zt := zt_t1 876 (by decide +kernel) rfl
theorem lk_m_169 : Cond.methodLink "RoseWheelModel" 169 M_m_isSpeed.1 ∈ zt := zt_t1 880 (by decide +kernel) rfl
theorem lk_m_172 : Cond.methodLink "RoseWheelModel" 172 M_m_remembers.1 ∈ zt := zt_t1 883 (by decide +kernel) rfl
theorem lk_m_175 : Cond.methodLink "RoseWheelModel" 175 M_m_clicksOf.1 ∈ zt := zt_t1 887 (by decide +kernel) rfl
theorem lk_m_165 : Cond.methodLink "RoseWheelModel" 165 M_m_clicksBy.1 ∈ zt := zt_t1 891 (by decide +kernel) rfl
theorem lk_m_178 : Cond.methodLink "RoseWheelModel" 178 M_m_feasts.1 ∈ zt := zt_t1 894 (by decide +kernel) rfl
theorem lk_law_47 : Cond.methodLink "RoseWheelLaw" 47 M_m_goes.1 ∈ zt := zt_t1 898 (by decide +kernel) rfl
theorem lk_m_181 : Cond.methodLink "RoseWheelModel" 181 M_m_whoHas.1 ∈ zt := zt_t1 902 (by decide +kernel) rfl
theorem lk_law_51 : Cond.methodLink "RoseWheelLaw" 51 M_m_passes.1 ∈ zt := zt_t1 906 (by decide +kernel) rfl
theorem lk_law_55 : Cond.methodLink "RoseWheelLaw" 55 M_m_covers.1 ∈ zt := zt_t1 910 (by decide +kernel) rfl
theorem lk_law_59 : Cond.methodLink "RoseWheelLaw" 59 M_m_forgives.1 ∈ zt := zt_t1 914 (by decide +kernel) rfl
theorem lk_law_63 : Cond.methodLink "RoseWheelLaw" 63 M_m_undo.1 ∈ zt := zt_t1 918 (by decide +kernel) rfl
theorem lk_law_67 : Cond.methodLink "RoseWheelLaw" 67 M_m_now.1 ∈ zt := zt_t1 922 (by decide +kernel) rfl
theorem lk_m_190 : Cond.methodLink "RoseWheelModel" 190 M_m_alike.1 ∈ zt := zt_t1 926 (by decide +kernel) rfl
theorem lk_m_184 : Cond.methodLink "RoseWheelModel" 184 M_m_isAlike.1 ∈ zt := zt_t1 930 (by decide +kernel) rfl
theorem lk_m_194 : Cond.methodLink "RoseWheelModel" 194 M_m_ring.1 ∈ zt := zt_t1 934 (by decide +kernel) rfl
theorem lk_m_187 : Cond.methodLink "RoseWheelModel" 187 M_m_has.1 ∈ zt := zt_t1 938 (by decide +kernel) rfl
theorem lk_law_71 : Cond.methodLink "RoseWheelLaw" 71 M_m_clicks.1 ∈ zt := zt_t1 941 (by decide +kernel) rfl
theorem lk_law_75 : Cond.methodLink "RoseWheelLaw" 75 M_m_stops.1 ∈ zt := zt_t1 945 (by decide +kernel) rfl
theorem lk_law_79 : Cond.methodLink "RoseWheelLaw" 79 M_m_shade.1 ∈ zt := zt_t1 949 (by decide +kernel) rfl
theorem lk_m_197 : Cond.methodLink "RoseWheelModel" 197 M_m_shadeOf.1 ∈ zt := zt_t1 953 (by decide +kernel) rfl
theorem lk_law_84 : Cond.methodLink "RoseWheelLaw" 84 M_m_speeds.1 ∈ zt := zt_t1 957 (by decide +kernel) rfl
theorem lk_m_200 : Cond.methodLink "RoseWheelModel" 200 M_m_isColour.1 ∈ zt := zt_t1 961 (by decide +kernel) rfl
theorem lk_m_203 : Cond.methodLink "RoseWheelModel" 203 M_m_speedsOf.1 ∈ zt := zt_t1 964 (by decide +kernel) rfl
theorem lk_law_89 : Cond.methodLink "RoseWheelLaw" 89 M_m_steps.1 ∈ zt := zt_t1 968 (by decide +kernel) rfl
theorem lk_law_93 : Cond.methodLink "RoseWheelLaw" 93 M_m_chair.1 ∈ zt := zt_t1 972 (by decide +kernel) rfl
theorem lk_law_97 : Cond.methodLink "RoseWheelLaw" 97 M_m_seats.1 ∈ zt := zt_t1 976 (by decide +kernel) rfl
theorem lk_m_209 : Cond.methodLink "RoseWheelModel" 209 M_m_sits.1 ∈ zt := zt_t1 980 (by decide +kernel) rfl
theorem lk_m_206 : Cond.methodLink "RoseWheelModel" 206 M_m_mostYet.1 ∈ zt := zt_t1 984 (by decide +kernel) rfl
theorem lk_law_102 : Cond.methodLink "RoseWheelLaw" 102 M_m_odds.1 ∈ zt := zt_t1 988 (by decide +kernel) rfl
theorem lk_m_212 : Cond.methodLink "RoseWheelModel" 212 M_m_lowest.1 ∈ zt := zt_t1 992 (by decide +kernel) rfl
theorem lk_law_106 : Cond.methodLink "RoseWheelLaw" 106 M_m_saw.1 ∈ zt := zt_t1 995 (by decide +kernel) rfl
theorem lk_law_110 : Cond.methodLink "RoseWheelLaw" 110 M_m_spun.1 ∈ zt := zt_t1 999 (by decide +kernel) rfl
theorem lk_m_215 : Cond.methodLink "RoseWheelModel" 215 M_m_isSeen.1 ∈ zt := zt_t1 1003 (by decide +kernel) rfl
theorem lk_law_114 : Cond.methodLink "RoseWheelLaw" 114 M_m_look.1 ∈ zt := zt_t1 1007 (by decide +kernel) rfl
theorem lk_m_218 : Cond.methodLink "RoseWheelModel" 218 M_m_spun.1 ∈ zt := zt_t1 1011 (by decide +kernel) rfl
theorem lk_law_118 : Cond.methodLink "RoseWheelLaw" 118 M_m_hears.1 ∈ zt := zt_t1 1012 (by decide +kernel) rfl
theorem lk_law_122 : Cond.methodLink "RoseWheelLaw" 122 M_m_laws.1 ∈ zt := zt_t1 1016 (by decide +kernel) rfl
theorem lk_m_221 : Cond.methodLink "RoseWheelModel" 221 M_m_isHeard.1 ∈ zt := zt_t1 1020 (by decide +kernel) rfl
theorem lk_law_126 : Cond.methodLink "RoseWheelLaw" 126 M_m_tryNext.1 ∈ zt := zt_t1 1024 (by decide +kernel) rfl
theorem lk_m_224 : Cond.methodLink "RoseWheelModel" 224 M_m_laws.1 ∈ zt := zt_t1 1028 (by decide +kernel) rfl
theorem lk_m_227 : Cond.methodLink "RoseWheelModel" 227 M_m_greatest.1 ∈ zt := zt_t1 1029 (by decide +kernel) rfl
theorem lk_law_130 : Cond.methodLink "RoseWheelLaw" 130 M_m_forget.1 ∈ zt := zt_t1 1033 (by decide +kernel) rfl
theorem lk_law_134 : Cond.methodLink "RoseWheelLaw" 134 M_m_mark.1 ∈ zt := zt_t1 1037 (by decide +kernel) rfl
theorem lk_law_138 : Cond.methodLink "RoseWheelLaw" 138 M_m_keep.1 ∈ zt := zt_t1 1047 (by decide +kernel) rfl
theorem lk_law_142 : Cond.methodLink "RoseWheelLaw" 142 M_m_back.1 ∈ zt := zt_t1 1051 (by decide +kernel) rfl
theorem lk_law_146 : Cond.methodLink "RoseWheelLaw" 146 M_m_count.1 ∈ zt := zt_t1 1055 (by decide +kernel) rfl
theorem lk_law_151 : Cond.methodLink "RoseWheelLaw" 151 M_m_trace.1 ∈ zt := zt_t1 1059 (by decide +kernel) rfl
theorem fl_t_9 : zF "RoseWheel$Text" 9 9 0 := ⟨by decide, by decide, zt_t1 31 (by decide +kernel) rfl⟩
theorem fl_t_15 : zF "RoseWheel$Text" 15 9 1 := ⟨by decide, by decide, zt_t1 32 (by decide +kernel) rfl⟩
theorem fl_x_107 : zF "RoseWheel" 107 9 1 := ⟨by decide, by decide, zt_t1 33 (by decide +kernel) rfl⟩
theorem fl_t_24 : zF "RoseWheel$Text" 24 9 2 := ⟨by decide, by decide, zt_t1 34 (by decide +kernel) rfl⟩
theorem fl_t_44 : zF "RoseWheel$Text" 44 9 3 := ⟨by decide, by decide, zt_t1 35 (by decide +kernel) rfl⟩
theorem fl_t_37 : zF "RoseWheel$Text" 37 9 4 := ⟨by decide, by decide, zt_t1 36 (by decide +kernel) rfl⟩
theorem fl_t_47 : zF "RoseWheel$Text" 47 9 5 := ⟨by decide, by decide, zt_t1 37 (by decide +kernel) rfl⟩
theorem fl_t_27 : zF "RoseWheel$Text" 27 9 6 := ⟨by decide, by decide, zt_t1 38 (by decide +kernel) rfl⟩
theorem fl_t_31 : zF "RoseWheel$Text" 31 9 7 := ⟨by decide, by decide, zt_t1 39 (by decide +kernel) rfl⟩
theorem fl_w_9 : zF "RoseWheel$Window" 9 10 0 := ⟨by decide, by decide, zt_t1 64 (by decide +kernel) rfl⟩
theorem fl_x_125 : zF "RoseWheel" 125 10 0 := ⟨by decide, by decide, zt_t1 65 (by decide +kernel) rfl⟩
theorem fl_t_69 : zF "RoseWheel$Text" 69 10 0 := ⟨by decide, by decide, zt_t1 66 (by decide +kernel) rfl⟩
theorem fl_w_15 : zF "RoseWheel$Window" 15 10 1 := ⟨by decide, by decide, zt_t1 67 (by decide +kernel) rfl⟩
theorem fl_d_30 : zF "RoseWheel$Days" 30 10 1 := ⟨by decide, by decide, zt_t1 68 (by decide +kernel) rfl⟩
theorem fl_t_89 : zF "RoseWheel$Text" 89 10 1 := ⟨by decide, by decide, zt_t1 69 (by decide +kernel) rfl⟩
theorem fl_w_18 : zF "RoseWheel$Window" 18 10 2 := ⟨by decide, by decide, zt_t1 70 (by decide +kernel) rfl⟩
theorem fl_x_135 : zF "RoseWheel" 135 10 2 := ⟨by decide, by decide, zt_t1 71 (by decide +kernel) rfl⟩
theorem fl_t_92 : zF "RoseWheel$Text" 92 10 2 := ⟨by decide, by decide, zt_t1 72 (by decide +kernel) rfl⟩
theorem fl_w_21 : zF "RoseWheel$Window" 21 10 3 := ⟨by decide, by decide, zt_t1 73 (by decide +kernel) rfl⟩
theorem fl_t_62 : zF "RoseWheel$Text" 62 10 3 := ⟨by decide, by decide, zt_t1 74 (by decide +kernel) rfl⟩
theorem fl_x_155 : zF "RoseWheel" 155 10 3 := ⟨by decide, by decide, zt_t1 75 (by decide +kernel) rfl⟩
theorem fl_w_25 : zF "RoseWheel$Window" 25 10 4 := ⟨by decide, by decide, zt_t1 76 (by decide +kernel) rfl⟩
theorem fl_d_25 : zF "RoseWheel$Days" 25 10 4 := ⟨by decide, by decide, zt_t1 77 (by decide +kernel) rfl⟩
theorem fl_t_82 : zF "RoseWheel$Text" 82 10 4 := ⟨by decide, by decide, zt_t1 78 (by decide +kernel) rfl⟩
theorem fl_x_177 : zF "RoseWheel" 177 10 4 := ⟨by decide, by decide, zt_t1 79 (by decide +kernel) rfl⟩
theorem fl_w_28 : zF "RoseWheel$Window" 28 10 5 := ⟨by decide, by decide, zt_t1 80 (by decide +kernel) rfl⟩
theorem fl_t_76 : zF "RoseWheel$Text" 76 10 5 := ⟨by decide, by decide, zt_t1 81 (by decide +kernel) rfl⟩
theorem fl_x_261 : zF "RoseWheel" 261 10 5 := ⟨by decide, by decide, zt_t1 82 (by decide +kernel) rfl⟩
theorem fl_w_31 : zF "RoseWheel$Window" 31 10 6 := ⟨by decide, by decide, zt_t1 83 (by decide +kernel) rfl⟩
theorem fl_t_79 : zF "RoseWheel$Text" 79 10 6 := ⟨by decide, by decide, zt_t1 84 (by decide +kernel) rfl⟩
theorem fl_x_264 : zF "RoseWheel" 264 10 6 := ⟨by decide, by decide, zt_t1 85 (by decide +kernel) rfl⟩
theorem fl_d_11 : zF "RoseWheel$Days" 11 5 0 := ⟨by decide, by decide, zt_t1 107 (by decide +kernel) rfl⟩
theorem fl_d_15 : zF "RoseWheel$Days" 15 5 1 := ⟨by decide, by decide, zt_t1 108 (by decide +kernel) rfl⟩
theorem fl_x_180 : zF "RoseWheel" 180 5 1 := ⟨by decide, by decide, zt_t1 109 (by decide +kernel) rfl⟩
theorem fl_n_9 : zF "RoseWheel$Notes" 9 7 0 := ⟨by decide, by decide, zt_t1 122 (by decide +kernel) rfl⟩
theorem fl_x_302 : zF "RoseWheel" 302 7 0 := ⟨by decide, by decide, zt_t1 123 (by decide +kernel) rfl⟩
theorem fl_n_15 : zF "RoseWheel$Notes" 15 7 1 := ⟨by decide, by decide, zt_t1 124 (by decide +kernel) rfl⟩
theorem fl_x_305 : zF "RoseWheel" 305 7 1 := ⟨by decide, by decide, zt_t1 125 (by decide +kernel) rfl⟩
theorem fl_n_18 : zF "RoseWheel$Notes" 18 7 2 := ⟨by decide, by decide, zt_t1 126 (by decide +kernel) rfl⟩
theorem fl_x_119 : zF "RoseWheel" 119 7 2 := ⟨by decide, by decide, zt_t1 127 (by decide +kernel) rfl⟩
theorem fl_kD_19 : zF "RoseWheel$Daughter" 19 0 0 := ⟨by decide, by decide, zt_t1 142 (by decide +kernel) rfl⟩
theorem fl_x_238 : zF "RoseWheel" 238 0 0 := ⟨by decide, by decide, zt_t1 143 (by decide +kernel) rfl⟩
theorem fl_kE_19 : zF "RoseWheel$Beadle" 19 0 1 := ⟨by decide, by decide, zt_t1 144 (by decide +kernel) rfl⟩
theorem fl_x_241 : zF "RoseWheel" 241 0 1 := ⟨by decide, by decide, zt_t1 145 (by decide +kernel) rfl⟩
theorem fl_kO_13 : zF "RoseWheel$One" 13 0 2 := ⟨by decide, by decide, zt_t1 146 (by decide +kernel) rfl⟩
theorem fl_x_244 : zF "RoseWheel" 244 0 2 := ⟨by decide, by decide, zt_t1 147 (by decide +kernel) rfl⟩
theorem fl_kB_19 : zF "RoseWheel$Blind" 19 0 3 := ⟨by decide, by decide, zt_t1 148 (by decide +kernel) rfl⟩
theorem fl_x_247 : zF "RoseWheel" 247 0 3 := ⟨by decide, by decide, zt_t1 149 (by decide +kernel) rfl⟩
theorem fl_kG_19 : zF "RoseWheel$Dog" 19 0 4 := ⟨by decide, by decide, zt_t1 150 (by decide +kernel) rfl⟩
theorem fl_x_250 : zF "RoseWheel" 250 0 4 := ⟨by decide, by decide, zt_t1 151 (by decide +kernel) rfl⟩
theorem fl_a_7 : zF "RoseWheel$Asked" 7 0 5 := ⟨by decide, by decide, zt_t1 152 (by decide +kernel) rfl⟩
theorem fl_kO_7 : zF "RoseWheel$One" 7 0 5 := ⟨by decide, by decide, zt_t1 153 (by decide +kernel) rfl⟩
theorem fl_kE_7 : zF "RoseWheel$Beadle" 7 0 5 := ⟨by decide, by decide, zt_t1 154 (by decide +kernel) rfl⟩
theorem fl_kB_7 : zF "RoseWheel$Blind" 7 0 5 := ⟨by decide, by decide, zt_t1 155 (by decide +kernel) rfl⟩
theorem fl_kC_7 : zF "RoseWheel$Cripple" 7 0 5 := ⟨by decide, by decide, zt_t1 156 (by decide +kernel) rfl⟩
theorem fl_kD_7 : zF "RoseWheel$Daughter" 7 0 5 := ⟨by decide, by decide, zt_t1 157 (by decide +kernel) rfl⟩
theorem fl_kG_7 : zF "RoseWheel$Dog" 7 0 5 := ⟨by decide, by decide, zt_t1 158 (by decide +kernel) rfl⟩
theorem fl_x_267 : zF "RoseWheel" 267 0 5 := ⟨by decide, by decide, zt_t1 159 (by decide +kernel) rfl⟩
theorem fl_x_10 : zF "RoseWheel" 10 11 0 := ⟨by decide, by decide, zt_t1 216 (by decide +kernel) rfl⟩
theorem fl_x_19 : zF "RoseWheel" 19 11 1 := ⟨by decide, by decide, zt_t1 217 (by decide +kernel) rfl⟩
theorem fl_x_23 : zF "RoseWheel" 23 11 2 := ⟨by decide, by decide, zt_t1 218 (by decide +kernel) rfl⟩
theorem fl_x_29 : zF "RoseWheel" 29 11 3 := ⟨by decide, by decide, zt_t1 219 (by decide +kernel) rfl⟩
theorem fl_x_33 : zF "RoseWheel" 33 11 4 := ⟨by decide, by decide, zt_t1 220 (by decide +kernel) rfl⟩
theorem fl_x_37 : zF "RoseWheel" 37 11 5 := ⟨by decide, by decide, zt_t1 221 (by decide +kernel) rfl⟩
theorem fl_x_44 : zF "RoseWheel" 44 11 6 := ⟨by decide, by decide, zt_t1 222 (by decide +kernel) rfl⟩
theorem fl_x_48 : zF "RoseWheel" 48 11 7 := ⟨by decide, by decide, zt_t1 223 (by decide +kernel) rfl⟩
theorem fl_x_54 : zF "RoseWheel" 54 11 8 := ⟨by decide, by decide, zt_t1 224 (by decide +kernel) rfl⟩
theorem fl_x_76 : zF "RoseWheel" 76 11 9 := ⟨by decide, by decide, zt_t1 225 (by decide +kernel) rfl⟩
theorem fl_x_80 : zF "RoseWheel" 80 11 10 := ⟨by decide, by decide, zt_t1 226 (by decide +kernel) rfl⟩
theorem fl_x_84 : zF "RoseWheel" 84 11 11 := ⟨by decide, by decide, zt_t1 227 (by decide +kernel) rfl⟩
theorem fl_x_87 : zF "RoseWheel" 87 11 12 := ⟨by decide, by decide, zt_t1 228 (by decide +kernel) rfl⟩
theorem fl_x_90 : zF "RoseWheel" 90 11 13 := ⟨by decide, by decide, zt_t1 229 (by decide +kernel) rfl⟩
theorem fl_x_93 : zF "RoseWheel" 93 11 14 := ⟨by decide, by decide, zt_t1 230 (by decide +kernel) rfl⟩
theorem fl_x_96 : zF "RoseWheel" 96 11 15 := ⟨by decide, by decide, zt_t1 231 (by decide +kernel) rfl⟩
theorem fl_m_73 : zF "RoseWheelModel" 73 12 0 := ⟨by decide, by decide, zt_t1 688 (by decide +kernel) rfl⟩
theorem fl_m_7 : zF "RoseWheelModel" 7 12 1 := ⟨by decide, by decide, zt_t1 689 (by decide +kernel) rfl⟩
theorem fl_m_13 : zF "RoseWheelModel" 13 12 2 := ⟨by decide, by decide, zt_t1 690 (by decide +kernel) rfl⟩
theorem fl_m_17 : zF "RoseWheelModel" 17 12 3 := ⟨by decide, by decide, zt_t1 691 (by decide +kernel) rfl⟩
theorem fl_m_66 : zF "RoseWheelModel" 66 12 4 := ⟨by decide, by decide, zt_t1 692 (by decide +kernel) rfl⟩
theorem fl_m_20 : zF "RoseWheelModel" 20 12 5 := ⟨by decide, by decide, zt_t1 693 (by decide +kernel) rfl⟩
theorem fl_m_23 : zF "RoseWheelModel" 23 12 6 := ⟨by decide, by decide, zt_t1 694 (by decide +kernel) rfl⟩
theorem fl_m_26 : zF "RoseWheelModel" 26 12 7 := ⟨by decide, by decide, zt_t1 695 (by decide +kernel) rfl⟩
theorem fl_m_29 : zF "RoseWheelModel" 29 12 8 := ⟨by decide, by decide, zt_t1 696 (by decide +kernel) rfl⟩
theorem fl_m_140 : zF "RoseWheelModel" 140 12 9 := ⟨by decide, by decide, zt_t1 697 (by decide +kernel) rfl⟩
theorem fl_m_33 : zF "RoseWheelModel" 33 12 10 := ⟨by decide, by decide, zt_t1 698 (by decide +kernel) rfl⟩
theorem fl_m_143 : zF "RoseWheelModel" 143 12 11 := ⟨by decide, by decide, zt_t1 699 (by decide +kernel) rfl⟩
theorem fl_m_36 : zF "RoseWheelModel" 36 12 12 := ⟨by decide, by decide, zt_t1 700 (by decide +kernel) rfl⟩
theorem fl_m_231 : zF "RoseWheelModel" 231 12 13 := ⟨by decide, by decide, zt_t1 701 (by decide +kernel) rfl⟩
theorem fl_m_39 : zF "RoseWheelModel" 39 12 14 := ⟨by decide, by decide, zt_t1 702 (by decide +kernel) rfl⟩
theorem fl_m_76 : zF "RoseWheelModel" 76 12 15 := ⟨by decide, by decide, zt_t1 703 (by decide +kernel) rfl⟩
theorem fl_m_79 : zF "RoseWheelModel" 79 12 16 := ⟨by decide, by decide, zt_t1 704 (by decide +kernel) rfl⟩
theorem fl_m_86 : zF "RoseWheelModel" 86 12 17 := ⟨by decide, by decide, zt_t1 705 (by decide +kernel) rfl⟩
theorem fl_m_92 : zF "RoseWheelModel" 92 12 18 := ⟨by decide, by decide, zt_t1 706 (by decide +kernel) rfl⟩
theorem fl_m_89 : zF "RoseWheelModel" 89 12 19 := ⟨by decide, by decide, zt_t1 707 (by decide +kernel) rfl⟩
theorem fl_m_102 : zF "RoseWheelModel" 102 12 20 := ⟨by decide, by decide, zt_t1 708 (by decide +kernel) rfl⟩
theorem fl_m_131 : zF "RoseWheelModel" 131 12 21 := ⟨by decide, by decide, zt_t1 709 (by decide +kernel) rfl⟩
theorem fl_m_112 : zF "RoseWheelModel" 112 12 22 := ⟨by decide, by decide, zt_t1 710 (by decide +kernel) rfl⟩
theorem fl_m_42 : zF "RoseWheelModel" 42 12 23 := ⟨by decide, by decide, zt_t1 711 (by decide +kernel) rfl⟩
theorem fl_m_119 : zF "RoseWheelModel" 119 12 24 := ⟨by decide, by decide, zt_t1 712 (by decide +kernel) rfl⟩
theorem fl_m_122 : zF "RoseWheelModel" 122 12 25 := ⟨by decide, by decide, zt_t1 713 (by decide +kernel) rfl⟩
theorem fl_m_109 : zF "RoseWheelModel" 109 12 26 := ⟨by decide, by decide, zt_t1 714 (by decide +kernel) rfl⟩
theorem fl_m_45 : zF "RoseWheelModel" 45 12 27 := ⟨by decide, by decide, zt_t1 715 (by decide +kernel) rfl⟩
theorem fl_m_48 : zF "RoseWheelModel" 48 12 28 := ⟨by decide, by decide, zt_t1 716 (by decide +kernel) rfl⟩
theorem fl_m_51 : zF "RoseWheelModel" 51 12 29 := ⟨by decide, by decide, zt_t1 717 (by decide +kernel) rfl⟩
theorem fl_m_54 : zF "RoseWheelModel" 54 12 30 := ⟨by decide, by decide, zt_t1 718 (by decide +kernel) rfl⟩
theorem fl_m_57 : zF "RoseWheelModel" 57 12 31 := ⟨by decide, by decide, zt_t1 719 (by decide +kernel) rfl⟩
theorem fl_m_60 : zF "RoseWheelModel" 60 12 32 := ⟨by decide, by decide, zt_t1 720 (by decide +kernel) rfl⟩
theorem fl_m_63 : zF "RoseWheelModel" 63 12 33 := ⟨by decide, by decide, zt_t1 721 (by decide +kernel) rfl⟩
theorem ac_native : Cond.native arraycopyName ∈ zt := zt_t1 423 (by decide +kernel) rfl
theorem ac_static : Cond.static arraycopyName ∈ zt := zt_t1 422 (by decide +kernel) rfl
theorem ac_init : Cond.initialized "java/lang/System" ∈ zt := zt_t1 16 (by decide +kernel) rfl
end
section
/-! further rows and small numbers -/
theorem Z.pad {M : zM} {post : Option zV → zH → Prop} {pc : Nat} {lv st : List zV} {h : zH} (n : Nat) (k : Z M post pc (lv ++ List.replicate n vU) st h) : Z M post pc lv st h := by
  intro p l e s m args below meth c D r ca B H locs ls P L
  refine k p l e s m args below meth c D r ca B H locs ls P ⟨L.1, L.2.1, fun i v hi hu => ?_⟩
  by_cases hl : i < lv.length
  · rw [List.getElem?_append_left hl] at hi
    exact L.2.2 i v hi hu
  · rw [List.getElem?_append_right (by omega)] at hi
    have hm := List.mem_of_getElem? hi
    rw [List.mem_replicate] at hm
    rw [hm.2] at hu
    cases hu
theorem zC.ofN {M : zM} {av : List zV} {h : zH} {post : Option zV → zH → Prop} (n : Nat) (hp : plainName M.1.cls = true) (hn : (av.map vw).sum ≤ M.2.2.1) (k : Z M post 0 (zent av ++ List.replicate n vU) [] h) : zC M av h post := zC.of hp hn (k.pad n)
theorem Met.ofWF {l : Launch} {y : MethodName} {ws ws' : List Cond} {rm : Room} {Pc : Array Value → State → Prop} {Qc : Array Value → State → Outcome → State → Prop} {mc ms : Nat} {free : Addr → Prop} {cc : ByteArray} {maxL : Nat} {ret : Option FieldType}
    (hy : plainFor y = true) (hw : ws = Cond.code y cc maxL ret :: ws')
    (body : ∀ p e s m args below meth c s₁, BodyLoose p l y (headSpec ws rm) cc maxL ret e s m args below meth c s₁ → c.maxLocals = maxL → Pc args s →
      W p l e (headSpec ws rm).room s m args below meth c s.heap [] 0 0 (MQ below Qc args s mc ms free) (entryFrame m args maxL)) : Met l y ws rm Pc Qc mc ms free := by
  refine MetFree.of_bodySF (code := cc) (maxLocals := maxL) (ret := ret) hy ?_ ?_
  · intro args s m h hn
    obtain ⟨meth, c, h1, h2, h3, h4, h5, h6, -, -⟩ := Cond.code_spec hn (atoms_spec (ws := ws) h _ (by rw [hw]; exact List.mem_cons_self))
    exact ⟨meth, c, h1, h2, h3, h4, h5, h6⟩
  · intro p e s m args below meth c s₁ B hml hP _
    have hh0 : s₁.heap = s.heap := by rw [B.state]; rfl
    obtain ⟨t, a1, o, b1, b2, b3⟩ := body p e s m args below meth c s₁ B hml hP s₁ hh0 (Stand.of_body B)
    exact ⟨t, o, a1, b1, b2, ⟨b3.1, b3.2⟩⟩
theorem zC.ofF {M : zM} {av : List zV} {h : zH} {post : Option zV → zH → Prop} (n : Nat) (hp : plainFor M.1 = true) (hn : (av.map vw).sum ≤ M.2.2.1) (k0 : Z M post 0 (zent av ++ List.replicate n vU) [] h) : zC M av h post := by
  have k := k0.pad n
  intro l D r ca
  refine Met.ofWF (cc := M.2.1) (maxL := M.2.2.1) (ret := M.2.2.2.1) hp rfl ?_
  intro p e s m args below meth c s₁ B hml hv
  obtain ⟨rfl, hP, hK, hD⟩ := hv
  have hts := atoms_spec (ws := zws M) B.pre
  have hown : s.vm.findClass M.1.cls = some m.cls := findClass_of_methodNamed B.named
  have hl := lv_entry (av.map (tv r)) (n := M.2.2.1) (by rw [zent_len]; exact hn)
  rw [lg_entry_eq]
  refine k p l e s m _ below meth c D r ca ⟨B.exec, B.bytes, hml, hown, fun w hw => hts w (List.mem_cons_of_mem _ hw), B.returns, B.notSynchronized, hK, hD⟩ s.heap [] _ ⟨hP, va_S.rf⟩ ⟨hl.1, hl.2.1, fun i v hi hu => ?_⟩
  have hm := zent_args r av 0 i v hi hu
  rw [Nat.zero_add] at hm
  exact hl.2.2 _ hm
theorem zC.weak {M : zM} {av : List zV} {h : zH} {p1 p2 : Option zV → zH → Prop} (hC : zC M av h p1) (hw : ∀ v h1, p1 v h1 → p2 v h1) : zC M av h p2 := by
  intro l D r ca p e ha hc hk s m args below h1 h2 h3 h4
  obtain ⟨k, o, g1, g2, g3, ⟨⟨v, hh, gp, gr⟩, gL⟩⟩ := hC l D r ca p e ha hc hk s m args below h1 h2 h3 h4
  exact ⟨k, o, g1, g2, g3, ⟨⟨v, hh, hw v hh gp, gr⟩, gL⟩⟩
theorem pvI {x y : Int} {h1 h2 : zH} (e : x = y) (eh : h1 = h2) : pV (vI y) h2 (some (vI x)) h1 := ⟨by rw [e], eh⟩
theorem pv0 {h1 h2 : zH} (eh : h1 = h2) : p0 h2 none h1 := ⟨rfl, eh⟩
theorem zb_eq {c d : Prop} [Decidable c] [Decidable d] (h : c ↔ d) : zb c = zb d := by
  by_cases hc : c
  · rw [zb_t hc, zb_t (h.mp hc)]
  · rw [zb_f hc, zb_f (fun q => hc (h.mpr q))]
section ZX
variable {M : zM} {post : Option zV → zH → Prop} {pc : Nat} {lv st : List zV} {h : zH}
theorem i32_xor_sign {x y : Int} (hx : -2147483648 ≤ x ∧ x ≤ 2147483647) (hy : -2147483648 ≤ y ∧ y ≤ 2147483647) : 0 ≤ (Int32.ofInt x ^^^ Int32.ofInt y).toInt ↔ (0 ≤ x ↔ 0 ≤ y) := by
  have sg : ∀ z : Int32, 0 ≤ z.toInt ↔ z.toBitVec.msb = false := by
    intro z
    have := BitVec.toInt_neg_iff (x := z.toBitVec)
    have h2 := BitVec.msb_eq_toInt (x := z.toBitVec)
    have h3 : z.toInt = z.toBitVec.toInt := rfl
    rw [h3, h2]
    simp
  rw [sg, Int32.toBitVec_xor, BitVec.msb_xor]
  have ax := sg (Int32.ofInt x)
  have ay := sg (Int32.ofInt y)
  rw [i32_to hx] at ax
  rw [i32_to hy] at ay
  rw [ax, ay]
  cases (Int32.ofInt x).toBitVec.msb <;> cases (Int32.ofInt y).toBitVec.msb <;> simp
theorem z_ixor {x y : Int} (hd : decode M.2.1 pc = .ok (.ixor, 1)) (hx : -2147483648 ≤ x ∧ x ≤ 2147483647) (hy : -2147483648 ≤ y ∧ y ≤ 2147483647) (k : ∀ z : Int, (-2147483648 ≤ z ∧ z ≤ 2147483647) → (0 ≤ z ↔ (0 ≤ x ↔ 0 ≤ y)) → Z M post (pc + 1) lv (vI z :: st) h) : Z M post pc lv (vI y :: vI x :: st) h := by
  intro p l e s m args below meth c D r ca B H locs ls P L
  refine lv_ixor B.1 B.2.1 hd ?_
  have k := k (Int32.ofInt x ^^^ Int32.ofInt y).toInt ⟨by have := Int32.le_toInt (Int32.ofInt x ^^^ Int32.ofInt y); omega, by have := Int32.toInt_lt (Int32.ofInt x ^^^ Int32.ofInt y); omega⟩ (i32_xor_sign hx hy) p l e s m args below meth c D r ca B H locs ls P L
  simp only [List.map_cons, vI, tv, Int32.ofInt_toInt] at k
  exact k
end ZX
theorem fm_neg {x y : Int} (hx : x < 0) (hy : 0 < y) (h : x.tmod y ≠ 0) : x.tmod y + y = x % y := by
  have h1 := Int.tmod_eq_emod (a := x) (b := y)
  have h2 : ¬ (0 ≤ x ∨ y ∣ x) := by
    rintro (q | q)
    · omega
    · exact h (Int.tmod_eq_zero_of_dvd q)
  rw [if_neg h2] at h1
  omega
theorem fm_zero {x y : Int} (h : x.tmod y = 0) : x.tmod y = x % y := by
  rw [h]
  exact (Int.emod_eq_zero_of_dvd (Int.dvd_of_tmod_eq_zero h)).symm
/-- the windows' cells -/
theorem kw {w : Nat} (hw : w = 3 ∨ w = 7) : (zks w).1 = 10 := by rcases hw with rfl | rfl <;> rfl
theorem kw0 {w : Nat} (hw : w = 3 ∨ w = 7) : zsr w 0 = w + 1 := by rcases hw with rfl | rfl <;> rfl
theorem kw1 {w : Nat} (hw : w = 3 ∨ w = 7) : zsr w 1 = w + 2 := by rcases hw with rfl | rfl <;> rfl
theorem kw2 {w : Nat} (hw : w = 3 ∨ w = 7) : zsr w 2 = w + 3 := by rcases hw with rfl | rfl <;> rfl
theorem kwp {w : Nat} (hw : w = 3 ∨ w = 7) : zks (w + 1) = (100, 12) := by rcases hw with rfl | rfl <;> rfl
theorem kws {w : Nat} (hw : w = 3 ∨ w = 7) : zks (w + 2) = (100, 6) := by rcases hw with rfl | rfl <;> rfl
theorem kwn {w : Nat} (hw : w = 3 ∨ w = 7) : zks (w + 3) = (100, 6) := by rcases hw with rfl | rfl <;> rfl
end
section
/-! small methods of both sides -/
theorem c_x_isWithin {h : zH} {n lo hi : Int} (r_n : -2147483648 ≤ n ∧ n ≤ 2147483647) (r_lo : -2147483648 ≤ lo ∧ lo ≤ 2147483647) (r_hi : -2147483648 ≤ hi ∧ hi ≤ 2147483647) : zC M_x_isWithin [vI n, vI lo, vI hi] h (pV (vI (zb (lo ≤ n ∧ n ≤ hi))) h) := by
  refine zC.ofN 0 (by decide) (by first | decide | exact Nat.le_of_ble_eq_true rfl) ?_
  show Z M_x_isWithin _ 0 [vI n, vI lo, vI hi] [] h
  refine z_iload_n D_x_isWithin_0 rfl ?_
  refine z_iload_n D_x_isWithin_1 rfl ?_
  refine z_icmp_lt (tgt := 14) D_x_isWithin_2 (by decide) (by omega) (by omega) (fun q2 => ?_) (fun q2 => ?_)
  · refine z_iconst D_x_isWithin_14 ?_
    exact z_zreturn rfl (by first | exact Or.inl rfl | exact Or.inr rfl | exact zb_01 _) D_x_isWithin_15 (pvI (by first | exact (zb_t (by omega)).symm | exact (zb_f (by omega)).symm) rfl)
  · refine z_iload_n D_x_isWithin_5 rfl ?_
    refine z_iload_n D_x_isWithin_6 rfl ?_
    refine z_icmp_gt (tgt := 14) D_x_isWithin_7 (by decide) (by omega) (by omega) (fun q7 => ?_) (fun q7 => ?_)
    · refine z_iconst D_x_isWithin_14 ?_
      exact z_zreturn rfl (by first | exact Or.inl rfl | exact Or.inr rfl | exact zb_01 _) D_x_isWithin_15 (pvI (by first | exact (zb_t (by omega)).symm | exact (zb_f (by omega)).symm) rfl)
    · refine z_iconst D_x_isWithin_10 ?_
      refine z_goto (tgt := 15) D_x_isWithin_11 (by decide) ?_
      exact z_zreturn rfl (by first | exact Or.inl rfl | exact Or.inr rfl | exact zb_01 _) D_x_isWithin_15 (pvI (by first | exact (zb_t (by omega)).symm | exact (zb_f (by omega)).symm) rfl)

theorem c_m_in {h : zH} {n lo hi : Int} (r_n : -2147483648 ≤ n ∧ n ≤ 2147483647) (r_lo : -2147483648 ≤ lo ∧ lo ≤ 2147483647) (r_hi : -2147483648 ≤ hi ∧ hi ≤ 2147483647) : zC M_m_in [vI n, vI lo, vI hi] h (pV (vI (zb (lo ≤ n ∧ n ≤ hi))) h) := by
  refine zC.ofN 0 (by decide) (by first | decide | exact Nat.le_of_ble_eq_true rfl) ?_
  show Z M_m_in _ 0 [vI n, vI lo, vI hi] [] h
  refine z_iload_n D_m_in_0 rfl ?_
  refine z_iload_n D_m_in_1 rfl ?_
  refine z_icmp_lt (tgt := 14) D_m_in_2 (by decide) (by omega) (by omega) (fun q2 => ?_) (fun q2 => ?_)
  · refine z_iconst D_m_in_14 ?_
    exact z_zreturn rfl (by first | exact Or.inl rfl | exact Or.inr rfl | exact zb_01 _) D_m_in_15 (pvI (by first | exact (zb_t (by omega)).symm | exact (zb_f (by omega)).symm) rfl)
  · refine z_iload_n D_m_in_5 rfl ?_
    refine z_iload_n D_m_in_6 rfl ?_
    refine z_icmp_gt (tgt := 14) D_m_in_7 (by decide) (by omega) (by omega) (fun q7 => ?_) (fun q7 => ?_)
    · refine z_iconst D_m_in_14 ?_
      exact z_zreturn rfl (by first | exact Or.inl rfl | exact Or.inr rfl | exact zb_01 _) D_m_in_15 (pvI (by first | exact (zb_t (by omega)).symm | exact (zb_f (by omega)).symm) rfl)
    · refine z_iconst D_m_in_10 ?_
      refine z_goto (tgt := 15) D_m_in_11 (by decide) ?_
      exact z_zreturn rfl (by first | exact Or.inl rfl | exact Or.inr rfl | exact zb_01 _) D_m_in_15 (pvI (by first | exact (zb_t (by omega)).symm | exact (zb_f (by omega)).symm) rfl)

theorem c_x_isSpeed {h : zH} {n : Int} (r_n : -2147483648 ≤ n ∧ n ≤ 2147483647) : zC M_x_isSpeed [vI n] h (pV (vI (zb (1 ≤ n ∧ n ≤ 60))) h) := by
  refine zC.ofN 0 (by decide) (by first | decide | exact Nat.le_of_ble_eq_true rfl) ?_
  show Z M_x_isSpeed _ 0 [vI n] [] h
  refine z_iload_n D_x_isSpeed_0 rfl ?_
  refine z_iconst D_x_isSpeed_1 ?_
  refine z_bipush (by decide) D_x_isSpeed_2 ?_
  refine z_S3 (c_x_isWithin r_n (by omega) (by omega)) G_x_isWithin S_x_isWithin lk_x_99 ⟨Nat.le_of_ble_eq_true rfl, Nat.le_of_ble_eq_true rfl⟩ (Nat.le_of_ble_eq_true rfl) D_x_isSpeed_4 ?_
  exact z_zreturn rfl (by first | exact Or.inl rfl | exact Or.inr rfl | exact zb_01 _) D_x_isSpeed_7 (pvI rfl rfl)

theorem c_x_isColour {h : zH} {n : Int} (r_n : -2147483648 ≤ n ∧ n ≤ 2147483647) : zC M_x_isColour [vI n] h (pV (vI (zb (0 ≤ n ∧ n ≤ 5))) h) := by
  refine zC.ofN 0 (by decide) (by first | decide | exact Nat.le_of_ble_eq_true rfl) ?_
  show Z M_x_isColour _ 0 [vI n] [] h
  refine z_iload_n D_x_isColour_0 rfl ?_
  refine z_iconst D_x_isColour_1 ?_
  refine z_iconst D_x_isColour_2 ?_
  refine z_S3 (c_x_isWithin r_n (by omega) (by omega)) G_x_isWithin S_x_isWithin lk_x_99 ⟨Nat.le_of_ble_eq_true rfl, Nat.le_of_ble_eq_true rfl⟩ (Nat.le_of_ble_eq_true rfl) D_x_isColour_3 ?_
  exact z_zreturn rfl (by first | exact Or.inl rfl | exact Or.inr rfl | exact zb_01 _) D_x_isColour_6 (pvI rfl rfl)

theorem c_m_isColour {h : zH} {n : Int} (r_n : -2147483648 ≤ n ∧ n ≤ 2147483647) : zC M_m_isColour [vI n] h (pV (vI (zb (0 ≤ n ∧ n ≤ 5))) h) := by
  refine zC.ofN 0 (by decide) (by first | decide | exact Nat.le_of_ble_eq_true rfl) ?_
  show Z M_m_isColour _ 0 [vI n] [] h
  refine z_iload_n D_m_isColour_0 rfl ?_
  refine z_iconst D_m_isColour_1 ?_
  refine z_iconst D_m_isColour_2 ?_
  refine z_S3 (c_m_in r_n (by omega) (by omega)) G_m_in S_m_in lk_m_69 ⟨Nat.le_of_ble_eq_true rfl, Nat.le_of_ble_eq_true rfl⟩ (Nat.le_of_ble_eq_true rfl) D_m_isColour_3 ?_
  exact z_zreturn rfl (by first | exact Or.inl rfl | exact Or.inr rfl | exact zb_01 _) D_m_isColour_6 (pvI rfl rfl)

theorem c_m_isSpeed {h : zH} {n : Int} (r_n : -2147483648 ≤ n ∧ n ≤ 2147483647) : zC M_m_isSpeed [vI n] h (pV (vI (zb (1 ≤ n ∧ n ≤ 60))) h) := by
  refine zC.ofN 0 (by decide) (by first | decide | exact Nat.le_of_ble_eq_true rfl) ?_
  show Z M_m_isSpeed _ 0 [vI n] [] h
  refine z_iload_n D_m_isSpeed_0 rfl ?_
  refine z_iconst D_m_isSpeed_1 ?_
  refine z_bipush (by decide) D_m_isSpeed_2 ?_
  refine z_S3 (c_m_in r_n (by omega) (by omega)) G_m_in S_m_in lk_m_69 ⟨Nat.le_of_ble_eq_true rfl, Nat.le_of_ble_eq_true rfl⟩ (Nat.le_of_ble_eq_true rfl) D_m_isSpeed_4 ?_
  exact z_zreturn rfl (by first | exact Or.inl rfl | exact Or.inr rfl | exact zb_01 _) D_m_isSpeed_7 (pvI rfl rfl)

theorem c_m_isFigure {h : zH} {n : Int} (r_n : -2147483648 ≤ n ∧ n ≤ 2147483647) : zC M_m_isFigure [vI n] h (pV (vI (zb (48 ≤ n ∧ n ≤ 57))) h) := by
  refine zC.ofN 0 (by decide) (by first | decide | exact Nat.le_of_ble_eq_true rfl) ?_
  show Z M_m_isFigure _ 0 [vI n] [] h
  refine z_iload_n D_m_isFigure_0 rfl ?_
  refine z_bipush (by decide) D_m_isFigure_1 ?_
  refine z_bipush (by decide) D_m_isFigure_3 ?_
  refine z_S3 (c_m_in r_n (by omega) (by omega)) G_m_in S_m_in lk_m_69 ⟨Nat.le_of_ble_eq_true rfl, Nat.le_of_ble_eq_true rfl⟩ (Nat.le_of_ble_eq_true rfl) D_m_isFigure_5 ?_
  exact z_zreturn rfl (by first | exact Or.inl rfl | exact Or.inr rfl | exact zb_01 _) D_m_isFigure_8 (pvI rfl rfl)

theorem c_m_isLetter {h : zH} {n : Int} (r_n : -2147483648 ≤ n ∧ n ≤ 2147483647) : zC M_m_isLetter [vI n] h (pV (vI (zb (97 ≤ n ∧ n ≤ 122))) h) := by
  refine zC.ofN 0 (by decide) (by first | decide | exact Nat.le_of_ble_eq_true rfl) ?_
  show Z M_m_isLetter _ 0 [vI n] [] h
  refine z_iload_n D_m_isLetter_0 rfl ?_
  refine z_bipush (by decide) D_m_isLetter_1 ?_
  refine z_bipush (by decide) D_m_isLetter_3 ?_
  refine z_S3 (c_m_in r_n (by omega) (by omega)) G_m_in S_m_in lk_m_69 ⟨Nat.le_of_ble_eq_true rfl, Nat.le_of_ble_eq_true rfl⟩ (Nat.le_of_ble_eq_true rfl) D_m_isLetter_5 ?_
  exact z_zreturn rfl (by first | exact Or.inl rfl | exact Or.inr rfl | exact zb_01 _) D_m_isLetter_8 (pvI rfl rfl)

theorem c_t_isLetter {h : zH} {n : Int} (r_n : -2147483648 ≤ n ∧ n ≤ 2147483647) : zC M_t_isLetter [vI n] h (pV (vI (zb (97 ≤ n ∧ n ≤ 122))) h) := by
  refine zC.ofN 0 (by decide) (by first | decide | exact Nat.le_of_ble_eq_true rfl) ?_
  show Z M_t_isLetter _ 0 [vI n] [] h
  refine z_iload_n D_t_isLetter_0 rfl ?_
  refine z_bipush (by decide) D_t_isLetter_1 ?_
  refine z_icmp_lt (tgt := 16) D_t_isLetter_3 (by decide) (by omega) (by omega) (fun q3 => ?_) (fun q3 => ?_)
  · refine z_iconst D_t_isLetter_16 ?_
    exact z_zreturn rfl (by first | exact Or.inl rfl | exact Or.inr rfl | exact zb_01 _) D_t_isLetter_17 (pvI (by first | exact (zb_t (by omega)).symm | exact (zb_f (by omega)).symm) rfl)
  · refine z_iload_n D_t_isLetter_6 rfl ?_
    refine z_bipush (by decide) D_t_isLetter_7 ?_
    refine z_icmp_gt (tgt := 16) D_t_isLetter_9 (by decide) (by omega) (by omega) (fun q9 => ?_) (fun q9 => ?_)
    · refine z_iconst D_t_isLetter_16 ?_
      exact z_zreturn rfl (by first | exact Or.inl rfl | exact Or.inr rfl | exact zb_01 _) D_t_isLetter_17 (pvI (by first | exact (zb_t (by omega)).symm | exact (zb_f (by omega)).symm) rfl)
    · refine z_iconst D_t_isLetter_12 ?_
      refine z_goto (tgt := 17) D_t_isLetter_13 (by decide) ?_
      exact z_zreturn rfl (by first | exact Or.inl rfl | exact Or.inr rfl | exact zb_01 _) D_t_isLetter_17 (pvI (by first | exact (zb_t (by omega)).symm | exact (zb_f (by omega)).symm) rfl)

theorem c_t_isDigit {h : zH} {n : Int} (r_n : -2147483648 ≤ n ∧ n ≤ 2147483647) : zC M_t_isDigit [vI n] h (pV (vI (zb (48 ≤ n ∧ n ≤ 57))) h) := by
  refine zC.ofN 0 (by decide) (by first | decide | exact Nat.le_of_ble_eq_true rfl) ?_
  show Z M_t_isDigit _ 0 [vI n] [] h
  refine z_iload_n D_t_isDigit_0 rfl ?_
  refine z_bipush (by decide) D_t_isDigit_1 ?_
  refine z_icmp_lt (tgt := 16) D_t_isDigit_3 (by decide) (by omega) (by omega) (fun q3 => ?_) (fun q3 => ?_)
  · refine z_iconst D_t_isDigit_16 ?_
    exact z_zreturn rfl (by first | exact Or.inl rfl | exact Or.inr rfl | exact zb_01 _) D_t_isDigit_17 (pvI (by first | exact (zb_t (by omega)).symm | exact (zb_f (by omega)).symm) rfl)
  · refine z_iload_n D_t_isDigit_6 rfl ?_
    refine z_bipush (by decide) D_t_isDigit_7 ?_
    refine z_icmp_gt (tgt := 16) D_t_isDigit_9 (by decide) (by omega) (by omega) (fun q9 => ?_) (fun q9 => ?_)
    · refine z_iconst D_t_isDigit_16 ?_
      exact z_zreturn rfl (by first | exact Or.inl rfl | exact Or.inr rfl | exact zb_01 _) D_t_isDigit_17 (pvI (by first | exact (zb_t (by omega)).symm | exact (zb_f (by omega)).symm) rfl)
    · refine z_iconst D_t_isDigit_12 ?_
      refine z_goto (tgt := 17) D_t_isDigit_13 (by decide) ?_
      exact z_zreturn rfl (by first | exact Or.inl rfl | exact Or.inr rfl | exact zb_01 _) D_t_isDigit_17 (pvI (by first | exact (zb_t (by omega)).symm | exact (zb_f (by omega)).symm) rfl)

theorem c_j_min {h : zH} {x y : Int} (r_x : -2147483648 ≤ x ∧ x ≤ 2147483647) (r_y : -2147483648 ≤ y ∧ y ≤ 2147483647) : zC M_j_min [vI x, vI y] h (pV (vI (min x y)) h) := by
  refine zC.ofF 0 (by decide +kernel) (by first | decide | exact Nat.le_of_ble_eq_true rfl) ?_
  show Z M_j_min _ 0 [vI x, vI y] [] h
  refine z_iload_n D_j_min_0 rfl ?_
  refine z_iload_n D_j_min_1 rfl ?_
  refine z_icmp_gt (tgt := 9) D_j_min_2 (by decide) (by omega) (by omega) (fun q2 => ?_) (fun q2 => ?_)
  · refine z_iload_n D_j_min_9 rfl ?_
    exact z_ireturn rfl D_j_min_10 (pvI (by omega) rfl)
  · refine z_iload_n D_j_min_5 rfl ?_
    refine z_goto (tgt := 10) D_j_min_6 (by decide) ?_
    exact z_ireturn rfl D_j_min_10 (pvI (by omega) rfl)

theorem c_j_max {h : zH} {x y : Int} (r_x : -2147483648 ≤ x ∧ x ≤ 2147483647) (r_y : -2147483648 ≤ y ∧ y ≤ 2147483647) : zC M_j_max [vI x, vI y] h (pV (vI (max x y)) h) := by
  refine zC.ofF 0 (by decide +kernel) (by first | decide | exact Nat.le_of_ble_eq_true rfl) ?_
  show Z M_j_max _ 0 [vI x, vI y] [] h
  refine z_iload_n D_j_max_0 rfl ?_
  refine z_iload_n D_j_max_1 rfl ?_
  refine z_icmp_lt (tgt := 9) D_j_max_2 (by decide) (by omega) (by omega) (fun q2 => ?_) (fun q2 => ?_)
  · refine z_iload_n D_j_max_9 rfl ?_
    exact z_ireturn rfl D_j_max_10 (pvI (by omega) rfl)
  · refine z_iload_n D_j_max_5 rfl ?_
    refine z_goto (tgt := 10) D_j_max_6 (by decide) ?_
    exact z_ireturn rfl D_j_max_10 (pvI (by omega) rfl)

theorem c_j_floorMod {h : zH} {x y : Int} (r_x : -2147483648 ≤ x ∧ x ≤ 2147483647) (hy : 0 < y ∧ y ≤ 2147483647) : zC M_j_floorMod [vI x, vI y] h (pV (vI (x % y)) h) := by
  refine zC.ofF 1 (by decide +kernel) (Nat.le_of_ble_eq_true rfl) ?_
  show Z M_j_floorMod _ 0 [vI x, vI y, vU] [] h
  have rm : -2147483648 ≤ x.tmod y ∧ x.tmod y ≤ 2147483647 := by
    have h1 := Int.tmod_lt_of_pos x hy.1
    have h2 := Int.lt_tmod_of_pos x hy.1
    omega
  refine z_iload_n D_j_floorMod_0 rfl ?_
  refine z_iload_n D_j_floorMod_1 rfl ?_
  refine z_irem D_j_floorMod_2 r_x (by omega) (by omega) ?_
  refine z_istore_2 D_j_floorMod_3 (Nat.le_of_ble_eq_true rfl) rfl ?_
  refine z_iload_n D_j_floorMod_4 rfl ?_
  refine z_iload_n D_j_floorMod_5 rfl ?_
  refine z_ixor D_j_floorMod_6 r_x (by omega) (fun z hz hs => ?_)
  refine z_if_ge (tgt := 18) D_j_floorMod_7 (by decide) (by omega) (fun q7 => ?_) (fun q7 => ?_)
  · refine z_iload_n D_j_floorMod_18 rfl ?_
    exact z_ireturn rfl D_j_floorMod_19 (pvI (by first | exact fm_zero q11 | exact Int.tmod_eq_emod_of_nonneg (by omega)) rfl)
  · refine z_iload_n D_j_floorMod_10 rfl ?_
    refine z_if_eq (tgt := 18) D_j_floorMod_11 (by decide) (by omega) (fun q11 => ?_) (fun q11 => ?_)
    · refine z_iload_n D_j_floorMod_18 rfl ?_
      exact z_ireturn rfl D_j_floorMod_19 (pvI (by first | exact fm_zero q11 | exact Int.tmod_eq_emod_of_nonneg (by omega)) rfl)
    · refine z_iload_n D_j_floorMod_14 rfl ?_
      refine z_iload_n D_j_floorMod_15 rfl ?_
      refine z_iadd D_j_floorMod_16 ?_
      exact z_ireturn rfl D_j_floorMod_17 (pvI (fm_neg (by omega) hy.1 q11) rfl)
theorem c_d_debt {h : zH} {p q : Int}  : zC M_d_debt [vI p, vI q] h (pV (vI (16 + p * 6 + q)) h) := by
  refine zC.ofN 0 (by decide) (by first | decide | exact Nat.le_of_ble_eq_true rfl) ?_
  show Z M_d_debt _ 0 [vI p, vI q] [] h
  refine z_bipush (by decide) D_d_debt_0 ?_
  refine z_iload_n D_d_debt_2 rfl ?_
  refine z_bipush (by decide) D_d_debt_3 ?_
  refine z_imul D_d_debt_5 ?_
  refine z_iadd D_d_debt_6 ?_
  refine z_iload_n D_d_debt_7 rfl ?_
  refine z_iadd D_d_debt_8 ?_
  exact z_ireturn rfl D_d_debt_9 (pvI rfl rfl)

/-- a cell of NOW -/
def nw (h : zH) (c : Int) : Int := h 12 (h 11 1 * 52 + c).toNat
theorem c_d_value {h : zH} {c : Int} (hu : 0 ≤ h 11 1 ∧ h 11 1 ≤ 10) (hc : 0 ≤ c ∧ c < 52) : zC M_d_value [vR 11, vI c] h (pV (vI (nw h c)) h) := by
  refine zC.ofN 1 (by decide) (by first | decide | exact Nat.le_of_ble_eq_true rfl) ?_
  show Z M_d_value _ 0 [vR 11, vI c, vU] [] h
  refine z_aload_n D_d_value_0 rfl ?_
  refine z_getI fl_d_15 (rfl) rfl D_d_value_1 ?_
  refine z_bipush (by decide) D_d_value_4 ?_
  refine z_imul D_d_value_6 ?_
  refine z_iload_n D_d_value_7 rfl ?_
  refine z_iadd D_d_value_8 ?_
  refine z_istore_2 D_d_value_9 (Nat.le_of_ble_eq_true rfl) rfl ?_
  refine z_iload_n D_d_value_10 rfl ?_
  refine z_if_lt (tgt := 32) D_d_value_11 (by decide) (by omega) (fun q11 => ?_) (fun q11 => ?_)
  · refine z_iconst D_d_value_32 ?_
    exact z_ireturn rfl D_d_value_33 (pvI (by first | rfl | omega) rfl)
  · refine z_iload_n D_d_value_14 rfl ?_
    refine z_aload_n D_d_value_15 rfl ?_
    refine z_getR (q := 12) fl_d_11 (rfl) rfl (rfl) D_d_value_16 ?_
    refine z_alen (n := 572) (rfl) (by decide) D_d_value_19 ?_
    refine z_icmp_ge (tgt := 32) D_d_value_20 (by decide) (by omega) (by omega) (fun q20 => ?_) (fun q20 => ?_)
    · refine z_iconst D_d_value_32 ?_
      exact z_ireturn rfl D_d_value_33 (pvI (by first | rfl | omega) rfl)
    · refine z_aload_n D_d_value_23 rfl ?_
      refine z_getR (q := 12) fl_d_11 (rfl) rfl (rfl) D_d_value_24 ?_
      refine z_iload_n D_d_value_27 rfl ?_
      refine z_iald (n := 572) (rfl) (by omega) D_d_value_28 ?_
      refine z_goto (tgt := 33) D_d_value_29 (by decide) ?_
      exact z_ireturn rfl D_d_value_33 (pvI (by first | rfl | omega) rfl)

theorem c_d_put {h : zH} {c x : Int} (hu : 0 ≤ h 11 1 ∧ h 11 1 ≤ 10) (hc : 0 ≤ c ∧ c < 52) : zC M_d_put [vR 11, vI c, vI x] h (p0 (zup h 12 (h 11 1 * 52 + c).toNat x)) := by
  refine zC.ofN 1 (by decide) (by first | decide | exact Nat.le_of_ble_eq_true rfl) ?_
  show Z M_d_put _ 0 [vR 11, vI c, vI x, vU] [] h
  refine z_aload_n D_d_put_0 rfl ?_
  refine z_getI fl_d_15 (rfl) rfl D_d_put_1 ?_
  refine z_bipush (by decide) D_d_put_4 ?_
  refine z_imul D_d_put_6 ?_
  refine z_iload_n D_d_put_7 rfl ?_
  refine z_iadd D_d_put_8 ?_
  refine z_istore_3 D_d_put_9 (Nat.le_of_ble_eq_true rfl) rfl ?_
  refine z_iload_n D_d_put_10 rfl ?_
  refine z_if_lt (tgt := 30) D_d_put_11 (by decide) (by omega) (fun q11 => ?_) (fun q11 => ?_)
  · exact z_return rfl D_d_put_30 (pv0 (by first | rfl | omega))
  · refine z_iload_n D_d_put_14 rfl ?_
    refine z_aload_n D_d_put_15 rfl ?_
    refine z_getR (q := 12) fl_d_11 (rfl) rfl (rfl) D_d_put_16 ?_
    refine z_alen (n := 572) (rfl) (by decide) D_d_put_19 ?_
    refine z_icmp_ge (tgt := 30) D_d_put_20 (by decide) (by omega) (by omega) (fun q20 => ?_) (fun q20 => ?_)
    · exact z_return rfl D_d_put_30 (pv0 (by first | rfl | omega))
    · refine z_aload_n D_d_put_23 rfl ?_
      refine z_getR (q := 12) fl_d_11 (rfl) rfl (rfl) D_d_put_24 ?_
      refine z_iload_n D_d_put_27 rfl ?_
      refine z_iload_n D_d_put_28 rfl ?_
      refine z_iast (n := 572) (rfl) (by omega) D_d_put_29 ?_
      exact z_return rfl D_d_put_30 (pv0 (by first | rfl | omega))

theorem c_w_hasSpot {h : zH} {w : Nat} {s : Int} (hw : w = 3 ∨ w = 7) (h3 : 0 ≤ h w 3 ∧ h w 3 ≤ 12) (r_s : -2147483648 ≤ s ∧ s ≤ 2147483647) : zC M_w_hasSpot [vR w, vI s] h (pV (vI (zb (0 ≤ s ∧ s < h w 3))) h) := by
  refine zC.ofN 0 (by decide) (by first | decide | exact Nat.le_of_ble_eq_true rfl) ?_
  show Z M_w_hasSpot _ 0 [vR w, vI s] [] h
  refine z_iload_n D_w_hasSpot_0 rfl ?_
  refine z_if_lt (tgt := 25) D_w_hasSpot_1 (by decide) (by omega) (fun q1 => ?_) (fun q1 => ?_)
  · refine z_iconst D_w_hasSpot_25 ?_
    exact z_zreturn rfl (by first | exact Or.inl rfl | exact Or.inr rfl | exact zb_01 _) D_w_hasSpot_26 (pvI (by first | exact (zb_t (by omega)).symm | exact (zb_f (by omega)).symm) rfl)
  · refine z_iload_n D_w_hasSpot_4 rfl ?_
    refine z_aload_n D_w_hasSpot_5 rfl ?_
    refine z_getI fl_w_21 (kw hw) rfl D_w_hasSpot_6 ?_
    refine z_icmp_ge (tgt := 25) D_w_hasSpot_9 (by decide) (by omega) (by omega) (fun q9 => ?_) (fun q9 => ?_)
    · refine z_iconst D_w_hasSpot_25 ?_
      exact z_zreturn rfl (by first | exact Or.inl rfl | exact Or.inr rfl | exact zb_01 _) D_w_hasSpot_26 (pvI (by first | exact (zb_t (by omega)).symm | exact (zb_f (by omega)).symm) rfl)
    · refine z_iload_n D_w_hasSpot_12 rfl ?_
      refine z_aload_n D_w_hasSpot_13 rfl ?_
      refine z_getR (q := (w + 1)) fl_w_9 (kw hw) rfl (kw0 hw) D_w_hasSpot_14 ?_
      refine z_alen (n := 12) (kwp hw) (by decide) D_w_hasSpot_17 ?_
      refine z_icmp_ge (tgt := 25) D_w_hasSpot_18 (by decide) (by omega) (by omega) (fun q18 => ?_) (fun q18 => ?_)
      · refine z_iconst D_w_hasSpot_25 ?_
        exact z_zreturn rfl (by first | exact Or.inl rfl | exact Or.inr rfl | exact zb_01 _) D_w_hasSpot_26 (pvI (by first | exact (zb_t (by omega)).symm | exact (zb_f (by omega)).symm) rfl)
      · refine z_iconst D_w_hasSpot_21 ?_
        refine z_goto (tgt := 26) D_w_hasSpot_22 (by decide) ?_
        exact z_zreturn rfl (by first | exact Or.inl rfl | exact Or.inr rfl | exact zb_01 _) D_w_hasSpot_26 (pvI (by first | exact (zb_t (by omega)).symm | exact (zb_f (by omega)).symm) rfl)

theorem c_w_hasPerson {h : zH} {w : Nat} {s : Int} (hw : w = 3 ∨ w = 7) (h4 : 0 ≤ h w 4 ∧ h w 4 ≤ 6) (r_s : -2147483648 ≤ s ∧ s ≤ 2147483647) : zC M_w_hasPerson [vR w, vI s] h (pV (vI (zb (0 ≤ s ∧ s < h w 4))) h) := by
  refine zC.ofN 0 (by decide) (by first | decide | exact Nat.le_of_ble_eq_true rfl) ?_
  show Z M_w_hasPerson _ 0 [vR w, vI s] [] h
  refine z_iload_n D_w_hasPerson_0 rfl ?_
  refine z_if_lt (tgt := 25) D_w_hasPerson_1 (by decide) (by omega) (fun q1 => ?_) (fun q1 => ?_)
  · refine z_iconst D_w_hasPerson_25 ?_
    exact z_zreturn rfl (by first | exact Or.inl rfl | exact Or.inr rfl | exact zb_01 _) D_w_hasPerson_26 (pvI (by first | exact (zb_t (by omega)).symm | exact (zb_f (by omega)).symm) rfl)
  · refine z_iload_n D_w_hasPerson_4 rfl ?_
    refine z_aload_n D_w_hasPerson_5 rfl ?_
    refine z_getI fl_w_25 (kw hw) rfl D_w_hasPerson_6 ?_
    refine z_icmp_ge (tgt := 25) D_w_hasPerson_9 (by decide) (by omega) (by omega) (fun q9 => ?_) (fun q9 => ?_)
    · refine z_iconst D_w_hasPerson_25 ?_
      exact z_zreturn rfl (by first | exact Or.inl rfl | exact Or.inr rfl | exact zb_01 _) D_w_hasPerson_26 (pvI (by first | exact (zb_t (by omega)).symm | exact (zb_f (by omega)).symm) rfl)
    · refine z_iload_n D_w_hasPerson_12 rfl ?_
      refine z_aload_n D_w_hasPerson_13 rfl ?_
      refine z_getR (q := (w + 3)) fl_w_18 (kw hw) rfl (kw2 hw) D_w_hasPerson_14 ?_
      refine z_alen (n := 6) (kwn hw) (by decide) D_w_hasPerson_17 ?_
      refine z_icmp_ge (tgt := 25) D_w_hasPerson_18 (by decide) (by omega) (by omega) (fun q18 => ?_) (fun q18 => ?_)
      · refine z_iconst D_w_hasPerson_25 ?_
        exact z_zreturn rfl (by first | exact Or.inl rfl | exact Or.inr rfl | exact zb_01 _) D_w_hasPerson_26 (pvI (by first | exact (zb_t (by omega)).symm | exact (zb_f (by omega)).symm) rfl)
      · refine z_iconst D_w_hasPerson_21 ?_
        refine z_goto (tgt := 26) D_w_hasPerson_22 (by decide) ?_
        exact z_zreturn rfl (by first | exact Or.inl rfl | exact Or.inr rfl | exact zb_01 _) D_w_hasPerson_26 (pvI (by first | exact (zb_t (by omega)).symm | exact (zb_f (by omega)).symm) rfl)

def rnd (n x : Int) : Int := if 0 < n then x % n else 0
theorem c_w_roundThe {h : zH} {w : Nat} {x : Int} (hw : w = 3 ∨ w = 7) (h3 : 0 ≤ h w 3 ∧ h w 3 ≤ 12) (r_x : -2147483648 ≤ x ∧ x ≤ 2147483647) : zC M_w_roundThe [vR w, vI x] h (pV (vI (rnd (h w 3) x)) h) := by
  refine zC.ofN 0 (by decide) (by first | decide | exact Nat.le_of_ble_eq_true rfl) ?_
  show Z M_w_roundThe _ 0 [vR w, vI x] [] h
  refine z_aload_n D_w_roundThe_0 rfl ?_
  refine z_getI fl_w_21 (kw hw) rfl D_w_roundThe_1 ?_
  refine z_if_le (tgt := 18) D_w_roundThe_4 (by decide) (by omega) (fun q4 => ?_) (fun q4 => ?_)
  · refine z_iconst D_w_roundThe_18 ?_
    exact z_ireturn rfl D_w_roundThe_19 (pvI (by first | exact (if_pos (by omega)).symm | exact (if_neg (by omega)).symm) rfl)
  · refine z_iload_n D_w_roundThe_7 rfl ?_
    refine z_aload_n D_w_roundThe_8 rfl ?_
    refine z_getI fl_w_21 (kw hw) rfl D_w_roundThe_9 ?_
    refine z_S2 (c_j_floorMod r_x (by omega)) G_j_floorMod S_j_floorMod lk_w_34 ⟨Nat.le_of_ble_eq_true rfl, Nat.le_of_ble_eq_true rfl⟩ (Nat.le_of_ble_eq_true rfl) D_w_roundThe_12 ?_
    refine z_goto (tgt := 19) D_w_roundThe_15 (by decide) ?_
    exact z_ireturn rfl D_w_roundThe_19 (pvI (by first | exact (if_pos (by omega)).symm | exact (if_neg (by omega)).symm) rfl)

theorem rnd_in {n x : Int} (h : 0 ≤ n) : 0 ≤ rnd n x ∧ (rnd n x < n ∨ (n = 0 ∧ rnd n x = 0)) := by
  unfold rnd
  split
  · have h1 := Int.emod_nonneg x (show n ≠ 0 by omega)
    have h2 := Int.emod_lt_of_pos x (show 0 < n by omega)
    omega
  · omega
theorem c_w_colourAt {h : zH} {w : Nat} {s t : Int} (hw : w = 3 ∨ w = 7) (h3 : 0 ≤ h w 3 ∧ h w 3 ≤ 12) (r_s : -1000000 ≤ s + t ∧ s + t ≤ 1000000) : zC M_w_colourAt [vR w, vI s, vI t] h (pV (vI (h (w + 1) (rnd (h w 3) (s + t)).toNat)) h) := by
  refine zC.ofN 0 (by decide) (by first | decide | exact Nat.le_of_ble_eq_true rfl) ?_
  show Z M_w_colourAt _ 0 [vR w, vI s, vI t] [] h
  refine z_aload_n D_w_colourAt_0 rfl ?_
  refine z_getR (q := (w + 1)) fl_w_9 (kw hw) rfl (kw0 hw) D_w_colourAt_1 ?_
  refine z_aload_n D_w_colourAt_4 rfl ?_
  refine z_iload_n D_w_colourAt_5 rfl ?_
  refine z_iload_n D_w_colourAt_6 rfl ?_
  refine z_iadd D_w_colourAt_7 ?_
  refine z_V1 (c0 := 10) (c_w_roundThe hw h3 (by omega)) G_w_roundThe I_w_roundThe lk_w_40 (kw hw) ⟨by decide, rfl⟩ ⟨Nat.le_of_ble_eq_true rfl, Nat.le_of_ble_eq_true rfl⟩ (Nat.le_of_ble_eq_true rfl) D_w_colourAt_8 ?_
  refine z_iald (n := 12) (kwp hw) (by have := rnd_in (x := s + t) h3.1; omega) D_w_colourAt_11 ?_
  exact z_ireturn rfl D_w_colourAt_12 (pvI rfl rfl)

theorem c_w_wayRound {h : zH} {w : Nat} {s t : Int} (hw : w = 3 ∨ w = 7) (h3 : 0 ≤ h w 3 ∧ h w 3 ≤ 12) (r_s : -1000000 ≤ s ∧ s ≤ 1000000) (r_t : -1000000 ≤ t ∧ t ≤ 1000000) : zC M_w_wayRound [vR w, vI s, vI t] h (pV (vI (min (rnd (h w 3) (t - s)) (rnd (h w 3) (s - t)))) h) := by
  refine zC.ofN 0 (by decide) (by first | decide | exact Nat.le_of_ble_eq_true rfl) ?_
  show Z M_w_wayRound _ 0 [vR w, vI s, vI t] [] h
  refine z_aload_n D_w_wayRound_0 rfl ?_
  refine z_iload_n D_w_wayRound_1 rfl ?_
  refine z_iload_n D_w_wayRound_2 rfl ?_
  refine z_isub D_w_wayRound_3 ?_
  refine z_V1 (c0 := 10) (c_w_roundThe hw h3 (by omega)) G_w_roundThe I_w_roundThe lk_w_40 (kw hw) ⟨by decide, rfl⟩ ⟨Nat.le_of_ble_eq_true rfl, Nat.le_of_ble_eq_true rfl⟩ (Nat.le_of_ble_eq_true rfl) D_w_wayRound_4 ?_
  refine z_aload_n D_w_wayRound_7 rfl ?_
  refine z_iload_n D_w_wayRound_8 rfl ?_
  refine z_iload_n D_w_wayRound_9 rfl ?_
  refine z_isub D_w_wayRound_10 ?_
  refine z_V1 (c0 := 10) (c_w_roundThe hw h3 (by omega)) G_w_roundThe I_w_roundThe lk_w_40 (kw hw) ⟨by decide, rfl⟩ ⟨Nat.le_of_ble_eq_true rfl, Nat.le_of_ble_eq_true rfl⟩ (Nat.le_of_ble_eq_true rfl) D_w_wayRound_11 ?_
  refine z_S2 (c_j_min (by have := rnd_in (x := t - s) h3.1; omega) (by have := rnd_in (x := s - t) h3.1; omega)) G_j_min S_j_min lk_w_44 ⟨Nat.le_of_ble_eq_true rfl, Nat.le_of_ble_eq_true rfl⟩ (Nat.le_of_ble_eq_true rfl) D_w_wayRound_14 ?_
  exact z_ireturn rfl D_w_wayRound_17 (pvI rfl rfl)

theorem c_w_clicksOf {h : zH} {w : Nat} {v r : Int} (hw : w = 3 ∨ w = 7) (hC : zC M_w_clicksBy [vI v, vI (h w 5), vI (h w 6)] h (pV (vI r) h)) : zC M_w_clicksOf [vR w, vI v] h (pV (vI r) h) := by
  refine zC.ofN 0 (by decide) (by first | decide | exact Nat.le_of_ble_eq_true rfl) ?_
  show Z M_w_clicksOf _ 0 [vR w, vI v] [] h
  refine z_iload_n D_w_clicksOf_0 rfl ?_
  refine z_aload_n D_w_clicksOf_1 rfl ?_
  refine z_getI fl_w_28 (kw hw) rfl D_w_clicksOf_2 ?_
  refine z_aload_n D_w_clicksOf_5 rfl ?_
  refine z_getI fl_w_31 (kw hw) rfl D_w_clicksOf_6 ?_
  refine z_S3 hC G_w_clicksBy S_w_clicksBy lk_w_54 ⟨Nat.le_of_ble_eq_true rfl, Nat.le_of_ble_eq_true rfl⟩ (Nat.le_of_ble_eq_true rfl) D_w_clicksOf_9 ?_
  exact z_ireturn rfl D_w_clicksOf_12 (pvI rfl rfl)

theorem c_m_isOne {h : zH} {s : Int} (h4 : 0 ≤ h 39 4 ∧ h 39 4 ≤ 12) (r_s : -2147483648 ≤ s ∧ s ≤ 2147483647) : zC M_m_isOne [vR 39, vI s] h (pV (vI (zb (0 ≤ s ∧ s < h 39 4))) h) := by
  refine zC.ofN 0 (by decide) (by first | decide | exact Nat.le_of_ble_eq_true rfl) ?_
  show Z M_m_isOne _ 0 [vR 39, vI s] [] h
  refine z_iload_n D_m_isOne_0 rfl ?_
  refine z_iconst D_m_isOne_1 ?_
  refine z_aload_n D_m_isOne_2 rfl ?_
  refine z_getI fl_m_66 (rfl) rfl D_m_isOne_3 ?_
  refine z_iconst D_m_isOne_6 ?_
  refine z_isub D_m_isOne_7 ?_
  refine z_S3 (c_m_in r_s (by omega) (by omega)) G_m_in S_m_in lk_m_69 ⟨Nat.le_of_ble_eq_true rfl, Nat.le_of_ble_eq_true rfl⟩ (Nat.le_of_ble_eq_true rfl) D_m_isOne_8 ?_
  exact z_zreturn rfl (by first | exact Or.inl rfl | exact Or.inr rfl | exact zb_01 _) D_m_isOne_11 (pvI (zb_eq (by omega)) rfl)

theorem c_m_isSpot {h : zH} {s : Int} (h4 : 0 ≤ h 39 0 ∧ h 39 0 ≤ 12) (r_s : -2147483648 ≤ s ∧ s ≤ 2147483647) : zC M_m_isSpot [vR 39, vI s] h (pV (vI (zb (0 ≤ s ∧ s < h 39 0))) h) := by
  refine zC.ofN 0 (by decide) (by first | decide | exact Nat.le_of_ble_eq_true rfl) ?_
  show Z M_m_isSpot _ 0 [vR 39, vI s] [] h
  refine z_iload_n D_m_isSpot_0 rfl ?_
  refine z_iconst D_m_isSpot_1 ?_
  refine z_aload_n D_m_isSpot_2 rfl ?_
  refine z_getI fl_m_73 (rfl) rfl D_m_isSpot_3 ?_
  refine z_iconst D_m_isSpot_6 ?_
  refine z_isub D_m_isSpot_7 ?_
  refine z_S3 (c_m_in r_s (by omega) (by omega)) G_m_in S_m_in lk_m_69 ⟨Nat.le_of_ble_eq_true rfl, Nat.le_of_ble_eq_true rfl⟩ (Nat.le_of_ble_eq_true rfl) D_m_isSpot_8 ?_
  exact z_zreturn rfl (by first | exact Or.inl rfl | exact Or.inr rfl | exact zb_01 _) D_m_isSpot_11 (pvI (zb_eq (by omega)) rfl)
end
section
/-! what the window and NOW hold, told of functions -/
def px (h : zH) (w : Nat) (j : Int) : Int := h (w + 1) j.toNat
def wx (h : zH) (w : Nat) (j : Int) : Int := h (w + 3) j.toNat
def pm (h : zH) (j : Int) : Int := h 40 j.toNat
def wm (h : zH) (j : Int) : Int := h 41 j.toNat
def nm (h : zH) (c : Int) : Int := h 42 c.toNat
def RowOK (n np : Int) (N : Int → Int) : Prop := (0 ≤ N 0 ∧ N 0 ≤ 11) ∧ (0 ≤ N 1 ∧ N 1 ≤ 11) ∧ (0 ≤ N 2 ∧ N 2 ≤ 1) ∧ (0 ≤ N 3 ∧ N 3 ≤ 999) ∧ (∀ p, 0 ≤ p → p < np → 0 ≤ N (4 + p) ∧ N (4 + p) < n) ∧ (∀ p q, 0 ≤ p → p < np → 0 ≤ q → q < np → N (4 + p) = N (4 + q) → p = q) ∧ (∀ c, 10 ≤ c → c < 52 → 0 ≤ N c ∧ N c ≤ 99)
def DI (n np k d : Int) (P Wt N : Int → Int) : Prop := (0 ≤ n ∧ n ≤ 12) ∧ (0 ≤ np ∧ np ≤ 6) ∧ (0 ≤ k ∧ k ≤ 9) ∧ (1 ≤ d ∧ d ≤ 9) ∧ (∀ j, 0 ≤ j → j < n → 0 ≤ P j ∧ P j ≤ 5) ∧ (∀ j, 0 ≤ j → j < np → 1 ≤ Wt j ∧ Wt j ≤ 5) ∧ RowOK n np N
section DIs
variable {n np k d : Int} {P Wt N : Int → Int}
theorem DI.hn (h : DI n np k d P Wt N) : 0 ≤ n ∧ n ≤ 12 := h.1
theorem DI.hnp (h : DI n np k d P Wt N) : 0 ≤ np ∧ np ≤ 6 := h.2.1
theorem DI.hk (h : DI n np k d P Wt N) : 0 ≤ k ∧ k ≤ 9 := h.2.2.1
theorem DI.hd (h : DI n np k d P Wt N) : 1 ≤ d ∧ d ≤ 9 := h.2.2.2.1
theorem DI.hP (h : DI n np k d P Wt N) {j : Int} (h0 : 0 ≤ j) (h1 : j < n) : 0 ≤ P j ∧ P j ≤ 5 := h.2.2.2.2.1 j h0 h1
theorem DI.hW (h : DI n np k d P Wt N) {j : Int} (h0 : 0 ≤ j) (h1 : j < np) : 1 ≤ Wt j ∧ Wt j ≤ 5 := h.2.2.2.2.2.1 j h0 h1
theorem DI.row (h : DI n np k d P Wt N) : RowOK n np N := h.2.2.2.2.2.2
end DIs
section ROs
variable {n np : Int} {N : Int → Int}
theorem RowOK.ht (h : RowOK n np N) : 0 ≤ N 0 ∧ N 0 ≤ 11 := h.1
theorem RowOK.hh (h : RowOK n np N) : 0 ≤ N 1 ∧ N 1 ≤ 11 := h.2.1
theorem RowOK.hc (h : RowOK n np N) : 0 ≤ N 2 ∧ N 2 ≤ 1 := h.2.2.1
theorem RowOK.hf (h : RowOK n np N) : 0 ≤ N 3 ∧ N 3 ≤ 999 := h.2.2.2.1
theorem RowOK.hs (h : RowOK n np N) {p : Int} (h0 : 0 ≤ p) (h1 : p < np) : 0 ≤ N (4 + p) ∧ N (4 + p) < n := h.2.2.2.2.1 p h0 h1
theorem RowOK.hi (h : RowOK n np N) {p q : Int} (h0 : 0 ≤ p) (h1 : p < np) (h2 : 0 ≤ q) (h3 : q < np) (e : N (4 + p) = N (4 + q)) : p = q := h.2.2.2.2.2.1 p q h0 h1 h2 h3 e
theorem RowOK.ho (h : RowOK n np N) {c : Int} (h0 : 10 ≤ c) (h1 : c < 52) : 0 ≤ N c ∧ N c ≤ 99 := h.2.2.2.2.2.2 c h0 h1
end ROs
def XI (h : zH) (w : Nat) : Prop := h 0 1 = (w : Int) ∧ (w = 3 ∨ w = 7) ∧ (0 ≤ h 11 1 ∧ h 11 1 ≤ 10) ∧ DI (h w 3) (h w 4) (h w 5) (h w 6) (px h w) (wx h w) (nw h)
def MI (h : zH) : Prop := DI (h 39 0) (h 39 4) (h 39 2) (h 39 3) (pm h) (wm h) (nm h)
-- clicks
def zclk (k d : Int) : Nat → Int → Int
  | 0, _ => 0
  | n + 1, v => if 0 < v then v + zclk k d n (v * k / 10 - d) else 0
def clk (v k d : Int) : Int := zclk k d 60 v
theorem mulb {a b : Int} (ha : 0 ≤ a ∧ a ≤ 60) (hb : 0 ≤ b ∧ b ≤ 9) : 0 ≤ a * b ∧ a * b ≤ 9 * a ∧ a * b ≤ 540 := by
  have h1 := Int.mul_nonneg ha.1 hb.1
  have h2 := Int.mul_le_mul_of_nonneg_left hb.2 ha.1
  omega
theorem zclk_in (k d : Int) (hk : 0 ≤ k ∧ k ≤ 9) (hd : 1 ≤ d ∧ d ≤ 9) : ∀ (n : Nat) (v : Int), v ≤ 60 → 0 ≤ zclk k d n v ∧ zclk k d n v ≤ 60 * n
  | 0, v, _ => by simp [zclk]
  | n + 1, v, hv => by
    unfold zclk
    split
    · have hm := mulb (a := v) (b := k) (by omega) hk
      have ih := zclk_in k d hk hd n (v * k / 10 - d) (by omega)
      omega
    · omega
theorem clk_in {v k d : Int} (hv : v ≤ 60) (hk : 0 ≤ k ∧ k ≤ 9) (hd : 1 ≤ d ∧ d ≤ 9) : 0 ≤ clk v k d ∧ clk v k d ≤ 3600 := by
  have := zclk_in k d hk hd 60 v hv
  unfold clk
  omega
theorem l_w_clicksBy {h : zH} {v k d : Int} (hk : 0 ≤ k ∧ k ≤ 9) (hd : 1 ≤ d ∧ d ≤ 9) : ∀ (f : Nat) (i s a : Int), 0 ≤ i → i + f = 60 → -9 ≤ s ∧ s ≤ 60 → Z M_w_clicksBy (pV (vI (a + zclk k d f s)) h) 8 [vI v, vI k, vI d, vI a, vI s, vI i] [] h := by
  intro f
  induction f with
  | zero =>
    intro i s a h0 h1 hs
    refine z_iload D_w_clicksBy_8 rfl ?_
    refine z_bipush (by decide) D_w_clicksBy_10 ?_
    refine z_icmp_ge (tgt := 42) D_w_clicksBy_12 (by decide) (by omega) (by omega) (fun q12 => ?_) (fun q12 => ?_)
    · refine z_iload_n D_w_clicksBy_42 rfl ?_
      exact z_ireturn rfl D_w_clicksBy_43 (pvI (by simp [zclk]) rfl)
    · omega
  | succ f ih =>
    intro i s a h0 h1 hs
    refine z_iload D_w_clicksBy_8 rfl ?_
    refine z_bipush (by decide) D_w_clicksBy_10 ?_
    refine z_icmp_ge (tgt := 42) D_w_clicksBy_12 (by decide) (by omega) (by omega) (fun q12 => ?_) (fun q12 => ?_)
    · refine z_iload_n D_w_clicksBy_42 rfl ?_
      exact z_ireturn rfl D_w_clicksBy_43 (pvI (by have : zclk k d (f + 1) s = 0 := if_neg (by omega); omega) rfl)
    · refine z_iload D_w_clicksBy_15 rfl ?_
      refine z_if_le (tgt := 42) D_w_clicksBy_17 (by decide) (by omega) (fun q17 => ?_) (fun q17 => ?_)
      · refine z_iload_n D_w_clicksBy_42 rfl ?_
        exact z_ireturn rfl D_w_clicksBy_43 (pvI (by have : zclk k d (f + 1) s = 0 := if_neg (by omega); omega) rfl)
      · refine z_iload_n D_w_clicksBy_20 rfl ?_
        refine z_iload D_w_clicksBy_21 rfl ?_
        refine z_iadd D_w_clicksBy_23 ?_
        refine z_istore_3 D_w_clicksBy_24 (Nat.le_of_ble_eq_true rfl) rfl ?_
        refine z_iload D_w_clicksBy_25 rfl ?_
        refine z_iload_n D_w_clicksBy_27 rfl ?_
        refine z_imul D_w_clicksBy_28 ?_
        refine z_bipush (by decide) D_w_clicksBy_29 ?_
        refine z_idiv D_w_clicksBy_31 ⟨(mulb (a := s) (b := k) (by omega) hk).1, by have := (mulb (a := s) (b := k) (by omega) hk).2.2; omega⟩ (by omega) ?_
        refine z_iload_n D_w_clicksBy_32 rfl ?_
        refine z_isub D_w_clicksBy_33 ?_
        refine z_istore_4 D_w_clicksBy_34 (Nat.le_of_ble_eq_true rfl) rfl ?_
        refine z_iinc_5 D_w_clicksBy_36 (Nat.le_of_ble_eq_true rfl) rfl ?_
        refine z_goto (tgt := 8) D_w_clicksBy_39 (by decide) ?_
        have hm := mulb (a := s) (b := k) (by omega) hk
        have e : a + zclk k d (f + 1) s = a + s + zclk k d f (s * k / 10 - d) := by
          have : zclk k d (f + 1) s = s + zclk k d f (s * k / 10 - d) := by
            show (if 0 < s then _ else _) = _
            rw [if_pos (by omega)]
          omega
        rw [e]
        exact ih (i + 1) _ _ (by omega) (by omega) (by omega)
theorem c_w_clicksBy {h : zH} {v k d : Int} (hk : 0 ≤ k ∧ k ≤ 9) (hd : 1 ≤ d ∧ d ≤ 9) (hv : -9 ≤ v ∧ v ≤ 60) : zC M_w_clicksBy [vI v, vI k, vI d] h (pV (vI (clk v k d)) h) := by
  refine zC.ofN 3 (by decide) (by first | decide | exact Nat.le_of_ble_eq_true rfl) ?_
  show Z M_w_clicksBy _ 0 [vI v, vI k, vI d, vU, vU, vU] [] h
  refine z_iconst D_w_clicksBy_0 ?_
  refine z_istore_3 D_w_clicksBy_1 (Nat.le_of_ble_eq_true rfl) rfl ?_
  refine z_iload_n D_w_clicksBy_2 rfl ?_
  refine z_istore_4 D_w_clicksBy_3 (Nat.le_of_ble_eq_true rfl) rfl ?_
  refine z_iconst D_w_clicksBy_5 ?_
  refine z_istore_5 D_w_clicksBy_6 (Nat.le_of_ble_eq_true rfl) rfl ?_
  have e : clk v k d = 0 + zclk k d 60 v := by unfold clk; omega
  rw [e]
  exact l_w_clicksBy hk hd 60 0 v 0 (by omega) (by omega) hv

theorem l_m_clicksBy {h : zH} {v k d : Int} (hk : 0 ≤ k ∧ k ≤ 9) (hd : 1 ≤ d ∧ d ≤ 9) : ∀ (f : Nat) (s a : Int), s ≤ f → -9 ≤ s ∧ s ≤ 60 → Z M_m_clicksBy (pV (vI (a + zclk k d f s)) h) 5 [vI v, vI k, vI d, vI a, vI s] [] h := by
  intro f
  induction f with
  | zero =>
    intro s a h0 hs
    refine z_iload D_m_clicksBy_5 rfl ?_
    refine z_if_le (tgt := 29) D_m_clicksBy_7 (by decide) (by omega) (fun q7 => ?_) (fun q7 => ?_)
    · refine z_iload_n D_m_clicksBy_29 rfl ?_
      exact z_ireturn rfl D_m_clicksBy_30 (pvI (by simp [zclk]) rfl)
    · omega
  | succ f ih =>
    intro s a h0 hs
    refine z_iload D_m_clicksBy_5 rfl ?_
    refine z_if_le (tgt := 29) D_m_clicksBy_7 (by decide) (by omega) (fun q7 => ?_) (fun q7 => ?_)
    · refine z_iload_n D_m_clicksBy_29 rfl ?_
      exact z_ireturn rfl D_m_clicksBy_30 (pvI (by have : zclk k d (f + 1) s = 0 := if_neg (by omega); omega) rfl)
    · refine z_iload_n D_m_clicksBy_10 rfl ?_
      refine z_iload D_m_clicksBy_11 rfl ?_
      refine z_iadd D_m_clicksBy_13 ?_
      refine z_istore_3 D_m_clicksBy_14 (Nat.le_of_ble_eq_true rfl) rfl ?_
      refine z_iload_n D_m_clicksBy_15 rfl ?_
      refine z_iload D_m_clicksBy_16 rfl ?_
      refine z_imul D_m_clicksBy_18 ?_
      refine z_bipush (by decide) D_m_clicksBy_19 ?_
      rw [Int.mul_comm k s]
      refine z_idiv D_m_clicksBy_21 ⟨(mulb (a := s) (b := k) (by omega) hk).1, by have := (mulb (a := s) (b := k) (by omega) hk).2.2; omega⟩ (by omega) ?_
      refine z_iload_n D_m_clicksBy_22 rfl ?_
      refine z_isub D_m_clicksBy_23 ?_
      refine z_istore_4 D_m_clicksBy_24 (Nat.le_of_ble_eq_true rfl) rfl ?_
      refine z_goto (tgt := 5) D_m_clicksBy_26 (by decide) ?_
      have hm := mulb (a := s) (b := k) (by omega) hk
      have e : a + zclk k d (f + 1) s = a + s + zclk k d f (s * k / 10 - d) := by
        have : zclk k d (f + 1) s = s + zclk k d f (s * k / 10 - d) := by
          show (if 0 < s then _ else _) = _
          rw [if_pos (by omega)]
        omega
      rw [e]
      exact ih _ _ (by omega) (by omega)
theorem c_m_clicksBy {h : zH} {v k d : Int} (hk : 0 ≤ k ∧ k ≤ 9) (hd : 1 ≤ d ∧ d ≤ 9) (hv : -9 ≤ v ∧ v ≤ 60) : zC M_m_clicksBy [vI v, vI k, vI d] h (pV (vI (clk v k d)) h) := by
  refine zC.ofN 2 (by decide) (by first | decide | exact Nat.le_of_ble_eq_true rfl) ?_
  show Z M_m_clicksBy _ 0 [vI v, vI k, vI d, vU, vU] [] h
  refine z_iconst D_m_clicksBy_0 ?_
  refine z_istore_3 D_m_clicksBy_1 (Nat.le_of_ble_eq_true rfl) rfl ?_
  refine z_iload_n D_m_clicksBy_2 rfl ?_
  refine z_istore_4 D_m_clicksBy_3 (Nat.le_of_ble_eq_true rfl) rfl ?_
  have e : clk v k d = 0 + zclk k d 60 v := by unfold clk; omega
  rw [e]
  exact l_m_clicksBy hk hd 60 v 0 (by omega) hv

theorem c_m_clicksOf {h : zH} {v : Int} (hm : MI h) (hv : -9 ≤ v ∧ v ≤ 60) : zC M_m_clicksOf [vR 39, vI v] h (pV (vI (clk v (h 39 2) (h 39 3))) h) := by
  refine zC.ofN 0 (by decide) (by first | decide | exact Nat.le_of_ble_eq_true rfl) ?_
  show Z M_m_clicksOf _ 0 [vR 39, vI v] [] h
  refine z_iload_n D_m_clicksOf_0 rfl ?_
  refine z_aload_n D_m_clicksOf_1 rfl ?_
  refine z_getI fl_m_13 (rfl) rfl D_m_clicksOf_2 ?_
  refine z_aload_n D_m_clicksOf_5 rfl ?_
  refine z_getI fl_m_17 (rfl) rfl D_m_clicksOf_6 ?_
  refine z_S3 (c_m_clicksBy hm.hk hm.hd hv) G_m_clicksBy S_m_clicksBy lk_m_165 ⟨Nat.le_of_ble_eq_true rfl, Nat.le_of_ble_eq_true rfl⟩ (Nat.le_of_ble_eq_true rfl) D_m_clicksOf_9 ?_
  exact z_ireturn rfl D_m_clicksOf_12 (pvI rfl rfl)

def shd (P : Int → Int) (n tt k d s v : Int) : Int := if 0 < n then P ((s + tt + clk v k d) % n) else 0
def col (P N : Int → Int) (n p : Int) : Int := if N 2 = 1 then 0 else P ((N (4 + p) + (N 0 + N 1)) % n)
def gx (h : zH) (w : Nat) (s v : Int) : Int := shd (px h w) (h w 3) (nw h 0 + nw h 1) (h w 5) (h w 6) s v
def gm (h : zH) (s v : Int) : Int := shd (pm h) (h 39 0) (nm h 0 + nm h 1) (h 39 2) (h 39 3) s v
theorem emod_in {x n : Int} (h : 0 < n) : 0 ≤ x % n ∧ x % n < n := ⟨Int.emod_nonneg x (by omega), Int.emod_lt_of_pos x h⟩
theorem shd_in {n np k d s v tt : Int} {P Wt N : Int → Int} (h : DI n np k d P Wt N) : 0 ≤ shd P n tt k d s v ∧ shd P n tt k d s v ≤ 5 := by
  unfold shd
  split
  · exact h.hP (emod_in (by omega)).1 (emod_in (by omega)).2
  · omega
theorem gx_in {h : zH} {w : Nat} (hx : XI h w) (s v : Int) : 0 ≤ gx h w s v ∧ gx h w s v ≤ 5 := shd_in hx.2.2.2
theorem gm_in {h : zH} (hm : MI h) (s v : Int) : 0 ≤ gm h s v ∧ gm h s v ≤ 5 := shd_in hm
theorem col_in {n np k d p : Int} {P Wt N : Int → Int} (h : DI n np k d P Wt N) (h0 : 0 ≤ p) (h1 : p < np) : 0 ≤ col P N n p ∧ col P N n p ≤ 5 := by
  have := h.row.hs h0 h1
  unfold col
  split
  · omega
  · exact h.hP (emod_in (by omega)).1 (emod_in (by omega)).2
theorem c_x_turnBehind {h : zH} {w : Nat} {v : Int} (hx : XI h w) (hv : -9 ≤ v ∧ v ≤ 60) : zC M_x_turnBehind [vR 0, vI v] h (pV (vI (rnd (h w 3) (nw h 0 + clk v (h w 5) (h w 6)))) h) := by
  refine zC.ofN 0 (by decide) (by first | decide | exact Nat.le_of_ble_eq_true rfl) ?_
  show Z M_x_turnBehind _ 0 [vR 0, vI v] [] h
  have hw := hx.2.1
  have hu := hx.2.2.1
  have hn := hx.2.2.2.hn
  have hnp := hx.2.2.2.hnp
  have ht := hx.2.2.2.row.ht
  have hh := hx.2.2.2.row.hh
  have hc := hx.2.2.2.row.hc
  refine z_aload_n D_x_turnBehind_0 rfl ?_
  refine z_getW fl_x_19 (by decide) hx.1 D_x_turnBehind_1 ?_
  refine z_aload_n D_x_turnBehind_4 rfl ?_
  refine z_getR (q := 11) fl_x_29 (rfl) rfl (rfl) D_x_turnBehind_5 ?_
  refine z_iconst D_x_turnBehind_8 ?_
  refine z_V1 (c0 := 5) (c_d_value hu (by omega)) G_d_value I_d_value lk_x_131 (rfl) ⟨by decide, rfl⟩ ⟨Nat.le_of_ble_eq_true rfl, Nat.le_of_ble_eq_true rfl⟩ (Nat.le_of_ble_eq_true rfl) D_x_turnBehind_9 ?_
  refine z_aload_n D_x_turnBehind_12 rfl ?_
  refine z_getW fl_x_19 (by decide) hx.1 D_x_turnBehind_13 ?_
  refine z_iload_n D_x_turnBehind_16 rfl ?_
  refine z_V1 (c0 := 10) (c_w_clicksOf hw (c_w_clicksBy hx.2.2.2.hk hx.2.2.2.hd (by omega))) G_w_clicksOf I_w_clicksOf lk_x_193 (kw hw) ⟨by decide, rfl⟩ ⟨Nat.le_of_ble_eq_true rfl, Nat.le_of_ble_eq_true rfl⟩ (Nat.le_of_ble_eq_true rfl) D_x_turnBehind_17 ?_
  refine z_iadd D_x_turnBehind_20 ?_
  refine z_V1 (c0 := 10) (c_w_roundThe hw hn (by have := clk_in hv.2 hx.2.2.2.hk hx.2.2.2.hd; omega)) G_w_roundThe I_w_roundThe lk_x_174 (kw hw) ⟨by decide, rfl⟩ ⟨Nat.le_of_ble_eq_true rfl, Nat.le_of_ble_eq_true rfl⟩ (Nat.le_of_ble_eq_true rfl) D_x_turnBehind_21 ?_
  exact z_ireturn rfl D_x_turnBehind_24 (pvI rfl rfl)

theorem rnd_sh {n s t c : Int} (hn : 0 < n) : rnd n (s + (rnd n (t + c) + 0)) = (s + t + c) % n := by
  unfold rnd
  rw [if_pos hn, if_pos hn, Int.add_zero, Int.add_emod_emod, Int.add_assoc]
theorem c_x_colourBehind {h : zH} {w : Nat} {s v : Int} (hx : XI h w) (hs : 0 ≤ s ∧ s < h w 3) (hv : -9 ≤ v ∧ v ≤ 60) : zC M_x_colourBehind [vR 0, vI s, vI v] h (pV (vI (gx h w s v)) h) := by
  refine zC.ofN 0 (by decide) (by first | decide | exact Nat.le_of_ble_eq_true rfl) ?_
  show Z M_x_colourBehind _ 0 [vR 0, vI s, vI v] [] h
  have hw := hx.2.1
  have hu := hx.2.2.1
  have hn := hx.2.2.2.hn
  have hnp := hx.2.2.2.hnp
  have ht := hx.2.2.2.row.ht
  have hh := hx.2.2.2.row.hh
  have hc := hx.2.2.2.row.hc
  refine z_aload_n D_x_colourBehind_0 rfl ?_
  refine z_getW fl_x_19 (by decide) hx.1 D_x_colourBehind_1 ?_
  refine z_iload_n D_x_colourBehind_4 rfl ?_
  refine z_aload_n D_x_colourBehind_5 rfl ?_
  refine z_iload_n D_x_colourBehind_6 rfl ?_
  refine z_V1 (c0 := 11) (c_x_turnBehind hx hv) G_x_turnBehind I_x_turnBehind lk_x_161 (rfl) ⟨by decide, rfl⟩ ⟨Nat.le_of_ble_eq_true rfl, Nat.le_of_ble_eq_true rfl⟩ (Nat.le_of_ble_eq_true rfl) D_x_colourBehind_7 ?_
  refine z_aload_n D_x_colourBehind_10 rfl ?_
  refine z_getR (q := 11) fl_x_29 (rfl) rfl (rfl) D_x_colourBehind_11 ?_
  refine z_iconst D_x_colourBehind_14 ?_
  refine z_V1 (c0 := 5) (c_d_value hu (by omega)) G_d_value I_d_value lk_x_131 (rfl) ⟨by decide, rfl⟩ ⟨Nat.le_of_ble_eq_true rfl, Nat.le_of_ble_eq_true rfl⟩ (Nat.le_of_ble_eq_true rfl) D_x_colourBehind_15 ?_
  refine z_iadd D_x_colourBehind_18 ?_
  refine z_V2 (c0 := 10) (c_w_colourAt hw hn (by have := rnd_in (x := nw h 0 + clk v (h w 5) (h w 6)) hn.1; omega)) G_w_colourAt I_w_colourAt lk_x_271 (kw hw) ⟨by decide, rfl⟩ ⟨Nat.le_of_ble_eq_true rfl, Nat.le_of_ble_eq_true rfl⟩ (Nat.le_of_ble_eq_true rfl) D_x_colourBehind_19 ?_
  exact z_ireturn rfl D_x_colourBehind_22 (pvI (by
      unfold gx shd
      rw [if_pos (by omega)]
      unfold px rnd
      rw [if_pos (by omega), if_pos (by omega)]
      congr 2
      rw [← Int.add_assoc, ← Int.emod_add_emod, Int.add_emod_emod, Int.emod_add_emod]
      congr 1
      omega) rfl)

theorem c_x_colourOf {h : zH} {w : Nat} {p : Int} (hx : XI h w) (hp : 0 ≤ p ∧ p < h w 4) : zC M_x_colourOf [vR 0, vI p] h (pV (vI (col (px h w) (nw h) (h w 3) p)) h) := by
  refine zC.ofN 0 (by decide) (by first | decide | exact Nat.le_of_ble_eq_true rfl) ?_
  show Z M_x_colourOf _ 0 [vR 0, vI p] [] h
  have hw := hx.2.1
  have hu := hx.2.2.1
  have hn := hx.2.2.2.hn
  have hnp := hx.2.2.2.hnp
  have ht := hx.2.2.2.row.ht
  have hh := hx.2.2.2.row.hh
  have hc := hx.2.2.2.row.hc
  have hs := hx.2.2.2.row.hs hp.1 hp.2
  refine z_aload_n D_x_colourOf_0 rfl ?_
  refine z_getR (q := 11) fl_x_29 (rfl) rfl (rfl) D_x_colourOf_1 ?_
  refine z_iconst D_x_colourOf_4 ?_
  refine z_V1 (c0 := 5) (c_d_value hu (by omega)) G_d_value I_d_value lk_x_131 (rfl) ⟨by decide, rfl⟩ ⟨Nat.le_of_ble_eq_true rfl, Nat.le_of_ble_eq_true rfl⟩ (Nat.le_of_ble_eq_true rfl) D_x_colourOf_5 ?_
  refine z_iconst D_x_colourOf_8 ?_
  refine z_icmp_ne (tgt := 14) D_x_colourOf_9 (by decide) (by omega) (by omega) (fun q9 => ?_) (fun q9 => ?_)
  · refine z_aload_n D_x_colourOf_14 rfl ?_
    refine z_getW fl_x_19 (by decide) hx.1 D_x_colourOf_15 ?_
    refine z_aload_n D_x_colourOf_18 rfl ?_
    refine z_getR (q := 11) fl_x_29 (rfl) rfl (rfl) D_x_colourOf_19 ?_
    refine z_iconst D_x_colourOf_22 ?_
    refine z_iload_n D_x_colourOf_23 rfl ?_
    refine z_iadd D_x_colourOf_24 ?_
    refine z_V1 (c0 := 5) (c_d_value hu (by omega)) G_d_value I_d_value lk_x_131 (rfl) ⟨by decide, rfl⟩ ⟨Nat.le_of_ble_eq_true rfl, Nat.le_of_ble_eq_true rfl⟩ (Nat.le_of_ble_eq_true rfl) D_x_colourOf_25 ?_
    refine z_aload_n D_x_colourOf_28 rfl ?_
    refine z_getR (q := 11) fl_x_29 (rfl) rfl (rfl) D_x_colourOf_29 ?_
    refine z_iconst D_x_colourOf_32 ?_
    refine z_V1 (c0 := 5) (c_d_value hu (by omega)) G_d_value I_d_value lk_x_131 (rfl) ⟨by decide, rfl⟩ ⟨Nat.le_of_ble_eq_true rfl, Nat.le_of_ble_eq_true rfl⟩ (Nat.le_of_ble_eq_true rfl) D_x_colourOf_33 ?_
    refine z_aload_n D_x_colourOf_36 rfl ?_
    refine z_getR (q := 11) fl_x_29 (rfl) rfl (rfl) D_x_colourOf_37 ?_
    refine z_iconst D_x_colourOf_40 ?_
    refine z_V1 (c0 := 5) (c_d_value hu (by omega)) G_d_value I_d_value lk_x_131 (rfl) ⟨by decide, rfl⟩ ⟨Nat.le_of_ble_eq_true rfl, Nat.le_of_ble_eq_true rfl⟩ (Nat.le_of_ble_eq_true rfl) D_x_colourOf_41 ?_
    refine z_iadd D_x_colourOf_44 ?_
    refine z_V2 (c0 := 10) (c_w_colourAt hw hn (by omega)) G_w_colourAt I_w_colourAt lk_x_271 (kw hw) ⟨by decide, rfl⟩ ⟨Nat.le_of_ble_eq_true rfl, Nat.le_of_ble_eq_true rfl⟩ (Nat.le_of_ble_eq_true rfl) D_x_colourOf_45 ?_
    exact z_ireturn rfl D_x_colourOf_48 (pvI (by
      unfold col px rnd
      rw [if_neg q9, if_pos (by omega)]) rfl)
  · refine z_iconst D_x_colourOf_12 ?_
    exact z_ireturn rfl D_x_colourOf_13 (pvI (by unfold col; rw [if_pos q9]) rfl)

theorem c_m_colourAt {h : zH} {s t : Int} (hm : MI h) (h0 : 0 < h 39 0) (hs : 0 ≤ s ∧ s ≤ 12) (hq : 0 ≤ t ∧ t ≤ 3600) : zC M_m_colourAt [vR 39, vI s, vI t] h (pV (vI (pm h ((s + nm h 0 + nm h 1 + t) % h 39 0))) h) := by
  refine zC.ofN 0 (by decide) (by first | decide | exact Nat.le_of_ble_eq_true rfl) ?_
  show Z M_m_colourAt _ 0 [vR 39, vI s, vI t] [] h
  have hn := hm.hn
  have hnp := hm.hnp
  have ht := hm.row.ht
  have hh := hm.row.hh
  have hc := hm.row.hc
  unfold nm at ht hh hc
  refine z_aload_n D_m_colourAt_0 rfl ?_
  refine z_getR (q := 40) fl_m_7 (rfl) rfl (rfl) D_m_colourAt_1 ?_
  refine z_iload_n D_m_colourAt_4 rfl ?_
  refine z_aload_n D_m_colourAt_5 rfl ?_
  refine z_getR (q := 42) fl_m_23 (rfl) rfl (rfl) D_m_colourAt_6 ?_
  refine z_iconst D_m_colourAt_9 ?_
  refine z_iald (n := 573) (rfl) (by omega) D_m_colourAt_10 ?_
  refine z_iadd D_m_colourAt_11 ?_
  refine z_aload_n D_m_colourAt_12 rfl ?_
  refine z_getR (q := 42) fl_m_23 (rfl) rfl (rfl) D_m_colourAt_13 ?_
  refine z_iconst D_m_colourAt_16 ?_
  refine z_iald (n := 573) (rfl) (by omega) D_m_colourAt_17 ?_
  refine z_iadd D_m_colourAt_18 ?_
  refine z_iload_n D_m_colourAt_19 rfl ?_
  refine z_iadd D_m_colourAt_20 ?_
  refine z_aload_n D_m_colourAt_21 rfl ?_
  refine z_getI fl_m_73 (rfl) rfl D_m_colourAt_22 ?_
  refine z_irem_p D_m_colourAt_25 (by omega) (by omega) ?_
  refine z_iald (n := 12) (rfl) (by have := emod_in (x := s + h 42 (Int.toNat 0) + h 42 (Int.toNat 1) + t) h0; omega) D_m_colourAt_26 ?_
  exact z_ireturn rfl D_m_colourAt_27 (pvI rfl rfl)

theorem c_m_shadeOf {h : zH} {s v : Int} (hm : MI h) (hs : 0 ≤ s ∧ s < h 39 0) (hv : -9 ≤ v ∧ v ≤ 60) : zC M_m_shadeOf [vR 39, vI s, vI v] h (pV (vI (gm h s v)) h) := by
  refine zC.ofN 0 (by decide) (by first | decide | exact Nat.le_of_ble_eq_true rfl) ?_
  show Z M_m_shadeOf _ 0 [vR 39, vI s, vI v] [] h
  have hn := hm.hn
  refine z_aload_n D_m_shadeOf_0 rfl ?_
  refine z_iload_n D_m_shadeOf_1 rfl ?_
  refine z_aload_n D_m_shadeOf_2 rfl ?_
  refine z_iload_n D_m_shadeOf_3 rfl ?_
  refine z_V1 (c0 := 12) (c_m_clicksOf hm hv) G_m_clicksOf I_m_clicksOf lk_m_175 (rfl) ⟨by decide, rfl⟩ ⟨Nat.le_of_ble_eq_true rfl, Nat.le_of_ble_eq_true rfl⟩ (Nat.le_of_ble_eq_true rfl) D_m_shadeOf_4 ?_
  refine z_V2 (c0 := 12) (c_m_colourAt hm (by omega) (by omega) (by have := clk_in hv.2 hm.hk hm.hd; omega)) G_m_colourAt I_m_colourAt lk_m_149 (rfl) ⟨by decide, rfl⟩ ⟨Nat.le_of_ble_eq_true rfl, Nat.le_of_ble_eq_true rfl⟩ (Nat.le_of_ble_eq_true rfl) D_m_shadeOf_7 ?_
  exact z_ireturn rfl D_m_shadeOf_10 (pvI (by
      unfold gm shd
      rw [if_pos (by omega), ← Int.add_assoc]) rfl)

theorem c_m_standsIn {h : zH} {p : Int} (hm : MI h) (hp : 0 ≤ p ∧ p < h 39 4) : zC M_m_standsIn [vR 39, vI p] h (pV (vI (col (pm h) (nm h) (h 39 0) p)) h) := by
  refine zC.ofN 0 (by decide) (by first | decide | exact Nat.le_of_ble_eq_true rfl) ?_
  show Z M_m_standsIn _ 0 [vR 39, vI p] [] h
  have hn := hm.hn
  have hnp := hm.hnp
  have ht := hm.row.ht
  have hh := hm.row.hh
  have hc := hm.row.hc
  unfold nm at ht hh hc
  have hs := hm.row.hs hp.1 hp.2
  unfold nm at hs
  refine z_aload_n D_m_standsIn_0 rfl ?_
  refine z_getR (q := 42) fl_m_23 (rfl) rfl (rfl) D_m_standsIn_1 ?_
  refine z_iconst D_m_standsIn_4 ?_
  refine z_iald (n := 573) (rfl) (by omega) D_m_standsIn_5 ?_
  refine z_iconst D_m_standsIn_6 ?_
  refine z_icmp_ne (tgt := 14) D_m_standsIn_7 (by decide) (by omega) (by omega) (fun q7 => ?_) (fun q7 => ?_)
  · refine z_aload_n D_m_standsIn_14 rfl ?_
    refine z_aload_n D_m_standsIn_15 rfl ?_
    refine z_getR (q := 42) fl_m_23 (rfl) rfl (rfl) D_m_standsIn_16 ?_
    refine z_iconst D_m_standsIn_19 ?_
    refine z_iload_n D_m_standsIn_20 rfl ?_
    refine z_iadd D_m_standsIn_21 ?_
    refine z_iald (n := 573) (rfl) (by omega) D_m_standsIn_22 ?_
    refine z_iconst D_m_standsIn_23 ?_
    refine z_V2 (c0 := 12) (c_m_colourAt hm (by omega) (by omega) (by omega)) G_m_colourAt I_m_colourAt lk_m_149 (rfl) ⟨by decide, rfl⟩ ⟨Nat.le_of_ble_eq_true rfl, Nat.le_of_ble_eq_true rfl⟩ (Nat.le_of_ble_eq_true rfl) D_m_standsIn_24 ?_
    exact z_ireturn rfl D_m_standsIn_27 (pvI (by
      unfold col
      first
      | exact (if_pos q7).symm
      | (refine Eq.trans ?_ (if_neg q7).symm
         congr 2
         unfold nm
         omega)) rfl)
  · refine z_iconst D_m_standsIn_10 ?_
    refine z_goto (tgt := 27) D_m_standsIn_11 (by decide) ?_
    exact z_ireturn rfl D_m_standsIn_27 (pvI (by
      unfold col
      first
      | exact (if_pos q7).symm
      | (refine Eq.trans ?_ (if_neg q7).symm
         congr 2
         unfold nm
         omega)) rfl)
end
section
/-! counting, searching -/
def sumF (f : Int → Int) : Nat → Int
  | 0 => 0
  | m + 1 => sumF f m + f m
def cntS (f : Int → Int) (c : Int) : Nat → Int
  | 0 => 0
  | m + 1 => cntS f c m + zb (f (m + 1) = c)
def lstU (b : Int → Bool) (a : Int) : Nat → Int → Int
  | 0, _ => a
  | k + 1, i => if b i then i else lstU b a k (i + 1)
def lstD (b : Int → Bool) : Nat → Int → Int
  | 0, a => a
  | k + 1, a => lstD b k (if b (k + 1) then k + 1 else a)
def lastF (b : Int → Bool) (a : Int) : Nat → Int
  | 0 => a
  | m + 1 => if b m then m else lastF b a m
def allF (b : Int → Bool) : Nat → Bool
  | 0 => true
  | m + 1 => allF b m && b m
theorem tn1 {i : Int} (h : 0 ≤ i) : (i + 1).toNat = i.toNat + 1 := by omega
theorem tn {i : Int} (h : 0 ≤ i) : (i.toNat : Int) = i := by omega
theorem sumF_1 {f : Int → Int} {i : Int} (h : 0 ≤ i) : sumF f (i + 1).toNat = sumF f i.toNat + f i := by rw [tn1 h]; simp only [sumF, tn h]
theorem cntS_1 {f : Int → Int} {c i : Int} (h : 1 ≤ i) : cntS f c (i + 1 - 1).toNat = cntS f c (i - 1).toNat + zb (f i = c) := by
  rw [show (i + 1 - 1).toNat = (i - 1).toNat + 1 by omega]
  simp only [cntS]
  rw [show ((i - 1).toNat : Int) + 1 = i by omega]
theorem lastF_1 {b : Int → Bool} {a i : Int} (h : 0 ≤ i) : lastF b a (i + 1).toNat = if b i then i else lastF b a i.toNat := by rw [tn1 h]; simp only [lastF, tn h]
theorem allF_1 {b : Int → Bool} {i : Int} (h : 0 ≤ i) : allF b (i + 1).toNat = (allF b i.toNat && b i) := by rw [tn1 h]; simp only [allF, tn h]
theorem allF_iff {b : Int → Bool} : ∀ {m : Nat}, allF b m = true ↔ ∀ j : Int, 0 ≤ j → j < m → b j = true
  | 0 => by simp only [allF, true_iff]; intro j h1 h2; omega
  | m + 1 => by
    simp only [allF, Bool.and_eq_true, allF_iff (m := m)]
    constructor
    · rintro ⟨h1, h2⟩ j h3 h4
      by_cases hj : j = m
      · rw [hj]; exact h2
      · exact h1 j h3 (by omega)
    · intro h1
      exact ⟨fun j h3 h4 => h1 j h3 (by omega), h1 m (by omega) (by omega)⟩
theorem allF_f {b : Int → Bool} {m i : Int} (h0 : 0 ≤ i) (h1 : i < m) (hb : b i = false) : allF b m.toNat = false := by
  cases h : allF b m.toNat with
  | false => rfl
  | true =>
    have := allF_iff.mp h i h0 (by omega)
    rw [hb] at this
    cases this
theorem lstU_last (b : Int → Bool) : ∀ (k : Nat) (a i : Int), lstU b a (k + 1) i = lstU b (if b (i + k) then i + k else a) k i
  | 0, a, i => by simp [lstU]
  | k + 1, a, i => by
    rw [lstU]
    conv => rhs; rw [lstU]
    by_cases h : b i = true
    · rw [if_pos h, if_pos h]
    · rw [if_neg h, if_neg h, lstU_last b k a (i + 1)]
      rw [show i + 1 + (k : Int) = i + ((k + 1 : Nat) : Int) by omega]
theorem lstD_U (b : Int → Bool) : ∀ (k : Nat) (a : Int), lstD b k a = lstU b a k 1
  | 0, a => rfl
  | k + 1, a => by
    rw [lstU_last, lstD, lstD_U b k]
    rw [show (1 : Int) + (k : Int) = (k : Int) + 1 by omega]
theorem lstU_in (b : Int → Bool) : ∀ (k : Nat) (a i : Int), lstU b a k i = a ∨ (i ≤ lstU b a k i ∧ lstU b a k i < i + k ∧ b (lstU b a k i) = true)
  | 0, a, i => Or.inl rfl
  | k + 1, a, i => by
    unfold lstU
    by_cases h : b i = true
    · rw [if_pos h]; right; exact ⟨by omega, by omega, h⟩
    · rw [if_neg h]
      rcases lstU_in b k a (i + 1) with q | q
      · exact Or.inl q
      · right; exact ⟨by omega, by omega, q.2.2⟩
theorem lstU_none (b : Int → Bool) : ∀ (k : Nat) (a i : Int), (∀ j, i ≤ j → j < i + k → b j = false) → lstU b a k i = a
  | 0, a, i, _ => rfl
  | k + 1, a, i, h => by
    unfold lstU
    rw [h i (by omega) (by omega)]
    exact lstU_none b k a (i + 1) (fun j h1 h2 => h j (by omega) (by omega))
theorem lstU_one (b : Int → Bool) : ∀ (k : Nat) (a i p : Int), i ≤ p → p < i + k → b p = true → (∀ j, i ≤ j → j < p → b j = false) → lstU b a k i = p
  | 0, a, i, p, h1, h2, _, _ => by omega
  | k + 1, a, i, p, h1, h2, h3, h4 => by
    unfold lstU
    by_cases hp : i = p
    · rw [hp, h3]; rfl
    · rw [h4 i (by omega) (by omega)]
      exact lstU_one b k a (i + 1) p (by omega) (by omega) h3 (fun j g1 g2 => h4 j (by omega) g2)
theorem lastF_none (b : Int → Bool) (a : Int) : ∀ (m : Nat), (∀ j : Int, 0 ≤ j → j < m → b j = false) → lastF b a m = a
  | 0, _ => rfl
  | m + 1, h => by
    unfold lastF
    rw [h m (by omega) (by omega)]
    exact lastF_none b a m (fun j h1 h2 => h j h1 (by omega))
theorem lastF_one (b : Int → Bool) (a p : Int) : ∀ (m : Nat), 0 ≤ p → p < m → b p = true → (∀ j : Int, 0 ≤ j → j < m → b j = true → j = p) → lastF b a m = p
  | 0, h1, h2, _, _ => by omega
  | m + 1, h1, h2, h3, h4 => by
    unfold lastF
    by_cases hm : b m = true
    · rw [if_pos hm]; exact h4 m (by omega) (by omega) hm
    · rw [if_neg hm]
      refine lastF_one b a p m h1 ?_ h3 (fun j g1 g2 => h4 j g1 (by omega))
      by_cases hp : p = m
      · rw [hp] at h3; exact absurd h3 hm
      · omega
/-- who is on a spot: first and last are one where no two are on one -/
def whoX (N : Int → Int) (np s : Int) : Int := lstU (fun p => N (4 + p) == s) (-1) np.toNat 0
def whoM (N : Int → Int) (np s : Int) : Int := lastF (fun p => N (4 + p) == s) (-9) np.toNat
theorem who_eq {n np : Int} {N : Int → Int} (h : RowOK n np N) (hnp : 0 ≤ np) (s : Int) : (whoX N np s = -1 ∧ whoM N np s = -9 ∧ ∀ p, 0 ≤ p → p < np → N (4 + p) ≠ s) ∨ (0 ≤ whoX N np s ∧ whoX N np s < np ∧ whoM N np s = whoX N np s ∧ N (4 + whoX N np s) = s) := by
  by_cases hp : ∃ p : Int, 0 ≤ p ∧ p < np ∧ N (4 + p) = s
  · obtain ⟨p, h0, h1, h2⟩ := hp
    right
    have hb : ∀ j : Int, 0 ≤ j → j < np → (N (4 + j) == s) = true → j = p := fun j g1 g2 g3 => h.hi g1 g2 h0 h1 (by rw [h2]; exact eq_of_beq g3)
    have e1 : whoX N np s = p := lstU_one _ _ _ _ p (by omega) (by omega) (by simp [h2]) (fun j g1 g2 => by
      cases hj : (N (4 + j) == s) with
      | false => rfl
      | true => have := hb j g1 (by omega) hj; omega)
    have e2 : whoM N np s = p := lastF_one _ _ p _ h0 (by omega) (by simp [h2]) (fun j g1 g2 g3 => hb j g1 (by omega) g3)
    rw [e1, e2]
    exact ⟨h0, h1, rfl, h2⟩
  · left
    have hn : ∀ p, 0 ≤ p → p < np → N (4 + p) ≠ s := fun p g1 g2 g3 => hp ⟨p, g1, g2, g3⟩
    have hb : ∀ j : Int, 0 ≤ j → j < np → (N (4 + j) == s) = false := fun j g1 g2 => by simp [hn j g1 g2]
    exact ⟨lstU_none _ _ _ _ (fun j g1 g2 => hb j g1 (by omega)), lastF_none _ _ _ (fun j g1 g2 => hb j g1 (by omega)), hn⟩
def zfill (h : zH) (a n : Nat) (x : Int) : zH := fun b j => if b = a ∧ j < n then x else h b j
theorem zfill_0 {h : zH} {a : Nat} {x : Int} : zfill h a 0 x = h := by funext b j; simp [zfill]
theorem zfill_1 {h : zH} {a : Nat} {x i : Int} (hi : 0 ≤ i) : zup (zfill h a i.toNat x) a i.toNat x = zfill h a (i + 1).toNat x := by
  funext b j
  unfold zup zfill
  by_cases hb : b = a
  · by_cases hj : j = i.toNat
    · rw [if_pos ⟨hb, hj⟩, if_pos ⟨hb, by omega⟩]
    · rw [if_neg (fun q => hj q.2)]
      by_cases hl : j < i.toNat
      · rw [if_pos ⟨hb, hl⟩, if_pos ⟨hb, by omega⟩]
      · rw [if_neg (fun q => hl q.2), if_neg (fun q => by omega)]
  · rw [if_neg (fun q => hb q.1), if_neg (fun q => hb q.1), if_neg (fun q => hb q.1)]
theorem l_j_fill {h : zH} {a n : Nat} {x : Int} (hk : zks a = (100, n)) (hn : n ≤ 2000) : ∀ (k : Nat) (i : Int), 0 ≤ i → i ≤ (n : Int) → (n : Int) - i < k → Z M_j_fill (p0 (zfill h a n x)) 5 [vR a, vI x, vI i, vI (n : Int)] [] (zfill h a i.toNat x) := by
  intro k
  induction k with
  | zero => intro i h0 h1 h2; omega
  | succ k ih =>
    intro i h0 h1 h2
    refine z_iload_n D_j_fill_5 rfl ?_
    refine z_iload_n D_j_fill_6 rfl ?_
    refine z_icmp_ge (tgt := 20) D_j_fill_7 (by decide) (by omega) (by omega) (fun q7 => ?_) (fun q7 => ?_)
    · exact z_return rfl D_j_fill_20 (pv0 (by rw [show i.toNat = n by omega]))
    · refine z_aload_n D_j_fill_10 rfl ?_
      refine z_iload_n D_j_fill_11 rfl ?_
      refine z_iload_n D_j_fill_12 rfl ?_
      refine z_iast (n := n) (hk) (by omega) D_j_fill_13 ?_
      refine z_iinc_2 D_j_fill_14 (Nat.le_of_ble_eq_true rfl) rfl ?_
      refine z_goto (tgt := 5) D_j_fill_17 (by decide) ?_
      rw [zfill_1 h0]
      exact ih (i + 1) (by omega) (by omega) (by omega)
theorem c_j_fill {h : zH} {a n : Nat} {x : Int} (hk : zks a = (100, n)) (hn : n ≤ 2000) : zC M_j_fill [vR a, vI x] h (p0 (zfill h a n x)) := by
  refine zC.ofF 2 (by decide +kernel) (by first | decide | exact Nat.le_of_ble_eq_true rfl) ?_
  show Z M_j_fill _ 0 [vR a, vI x, vU, vU] [] h
  refine z_iconst D_j_fill_0 ?_
  refine z_istore_2 D_j_fill_1 (Nat.le_of_ble_eq_true rfl) rfl ?_
  refine z_aload_n D_j_fill_2 rfl ?_
  refine z_alen (n := n) (hk) (by decide) D_j_fill_3 ?_
  refine z_istore_3 D_j_fill_4 (Nat.le_of_ble_eq_true rfl) rfl ?_
  have q := l_j_fill (h := h) (x := x) hk hn (n + 1) 0 (by omega) (by omega) (by omega)
  rw [show (0 : Int).toNat = 0 from rfl, zfill_0] at q
  exact q

theorem l_x_whoIsOn {h : zH} {w : Nat} {s : Int} (hx : XI h w) (hs : -2147483648 ≤ s ∧ s ≤ 2147483647) : ∀ (k : Nat) (i : Int), 0 ≤ i → i ≤ h w 4 → h w 4 - i < k → Z M_x_whoIsOn (pV (vI (lstU (fun p => nw h (4 + p) == s) (-1) (h w 4 - i).toNat i)) h) 2 [vR 0, vI s, vI i] [] (h) := by
  intro k
  induction k with
  | zero => intro i h0 h1 h2; omega
  | succ k ih =>
    intro i h0 h1 h2
    have hw := hx.2.1
    have hu := hx.2.2.1
    have hn := hx.2.2.2.hn
    have hnp := hx.2.2.2.hnp
    have ht := hx.2.2.2.row.ht
    have hh := hx.2.2.2.row.hh
    have hc := hx.2.2.2.row.hc
    have e : i < h w 4 → lstU (fun p => nw h (4 + p) == s) (-1) (h w 4 - i).toNat i = if nw h (4 + i) == s then i else lstU (fun p => nw h (4 + p) == s) (-1) (h w 4 - (i + 1)).toNat (i + 1) := fun hi => by
      rw [show (h w 4 - i).toNat = (h w 4 - (i + 1)).toNat + 1 by omega]
      rfl
    refine z_iload_n D_x_whoIsOn_2 rfl ?_
    refine z_aload_n D_x_whoIsOn_3 rfl ?_
    refine z_getW fl_x_19 (by decide) hx.1 D_x_whoIsOn_4 ?_
    refine z_getI fl_x_177 (kw hw) rfl D_x_whoIsOn_7 ?_
    refine z_icmp_ge (tgt := 35) D_x_whoIsOn_10 (by decide) (by omega) (by omega) (fun q10 => ?_) (fun q10 => ?_)
    · refine z_iconst D_x_whoIsOn_35 ?_
      exact z_ireturn rfl D_x_whoIsOn_36 (pvI (by rw [show (h w 4 - i).toNat = 0 by omega]; rfl) rfl)
    · refine z_aload_n D_x_whoIsOn_13 rfl ?_
      refine z_getR (q := 11) fl_x_29 (rfl) rfl (rfl) D_x_whoIsOn_14 ?_
      refine z_iconst D_x_whoIsOn_17 ?_
      refine z_iload_n D_x_whoIsOn_18 rfl ?_
      refine z_iadd D_x_whoIsOn_19 ?_
      refine z_V1 (c0 := 5) (c_d_value hu (by omega)) G_d_value I_d_value lk_x_131 (rfl) ⟨by decide, rfl⟩ ⟨Nat.le_of_ble_eq_true rfl, Nat.le_of_ble_eq_true rfl⟩ (Nat.le_of_ble_eq_true rfl) D_x_whoIsOn_20 ?_
      refine z_iload_n D_x_whoIsOn_23 rfl ?_
      refine z_icmp_ne (tgt := 29) D_x_whoIsOn_24 (by decide) (by have := hx.2.2.2.row.hs h0 (by omega); omega) (by omega) (fun q24 => ?_) (fun q24 => ?_)
      · refine z_iinc_2 D_x_whoIsOn_29 (Nat.le_of_ble_eq_true rfl) rfl ?_
        refine z_goto (tgt := 2) D_x_whoIsOn_32 (by decide) ?_
        rw [e q10, if_neg (by simp [q24])]
        exact ih (i + 1) (by omega) (by omega) (by omega)
      · refine z_iload_n D_x_whoIsOn_27 rfl ?_
        exact z_ireturn rfl D_x_whoIsOn_28 (pvI (by rw [e q10, if_pos (by simp [q24])]) rfl)
theorem c_x_whoIsOn {h : zH} {w : Nat} {s : Int} (hx : XI h w) (hs : -2147483648 ≤ s ∧ s ≤ 2147483647) : zC M_x_whoIsOn [vR 0, vI s] h (pV (vI (whoX (nw h) (h w 4) s)) h) := by
  refine zC.ofN 1 (by decide) (by first | decide | exact Nat.le_of_ble_eq_true rfl) ?_
  show Z M_x_whoIsOn _ 0 [vR 0, vI s, vU] [] h
  refine z_iconst D_x_whoIsOn_0 ?_
  refine z_istore_2 D_x_whoIsOn_1 (Nat.le_of_ble_eq_true rfl) rfl ?_
  have hnp := hx.2.2.2.hnp
  have q := l_x_whoIsOn hx hs (7 : Nat) 0 (by omega) (by omega) (by omega)
  rw [Int.sub_zero] at q
  exact q

theorem l_m_whoHas {h : zH} {s : Int} (hm : MI h) (hs : -2147483648 ≤ s ∧ s ≤ 2147483647) : ∀ (k : Nat) (i : Int), 0 ≤ i → i ≤ h 39 4 → h 39 4 - i < k → Z M_m_whoHas (pV (vI (whoM (nm h) (h 39 4) s)) h) 5 [vR 39, vI s, vI (lastF (fun p => nm h (4 + p) == s) (-9) i.toNat), vI i] [] h := by
  intro k
  induction k with
  | zero => intro i h0 h1 h2; omega
  | succ k ih =>
    intro i h0 h1 h2
    have hn := hm.hn
    have hnp := hm.hnp
    have e := lastF_1 (b := fun p => nm h (4 + p) == s) (a := -9) h0
    refine z_iload_n D_m_whoHas_5 rfl ?_
    refine z_aload_n D_m_whoHas_6 rfl ?_
    refine z_getI fl_m_66 (rfl) rfl D_m_whoHas_7 ?_
    refine z_icmp_ge (tgt := 37) D_m_whoHas_10 (by decide) (by omega) (by omega) (fun q10 => ?_) (fun q10 => ?_)
    · refine z_iload_n D_m_whoHas_37 rfl ?_
      exact z_ireturn rfl D_m_whoHas_38 (pvI (by rw [show i = h 39 4 by omega]; rfl) rfl)
    · refine z_aload_n D_m_whoHas_13 rfl ?_
      refine z_getR (q := 42) fl_m_23 (rfl) rfl (rfl) D_m_whoHas_14 ?_
      refine z_iconst D_m_whoHas_17 ?_
      refine z_iload_n D_m_whoHas_18 rfl ?_
      refine z_iadd D_m_whoHas_19 ?_
      refine z_iald (n := 573) (rfl) (by omega) D_m_whoHas_20 ?_
      refine z_iload_n D_m_whoHas_21 rfl ?_
      refine z_icmp_ne (tgt := 29) D_m_whoHas_22 (by decide) (by have := hm.row.hs h0 (by omega); unfold nm at this; omega) (by omega) (fun q22 => ?_) (fun q22 => ?_)
      · refine z_iload_n D_m_whoHas_29 rfl ?_
        refine z_istore_2 D_m_whoHas_30 (Nat.le_of_ble_eq_true rfl) rfl ?_
        refine z_iinc_3 D_m_whoHas_31 (Nat.le_of_ble_eq_true rfl) rfl ?_
        refine z_goto (tgt := 5) D_m_whoHas_34 (by decide) ?_
        have q := ih (i + 1) (by omega) (by omega) (by omega)
        rw [e] at q
        rw [if_neg (by simpa [nm] using q22)] at q
        exact q
      · refine z_iload_n D_m_whoHas_25 rfl ?_
        refine z_goto (tgt := 30) D_m_whoHas_26 (by decide) ?_
        refine z_istore_2 D_m_whoHas_30 (Nat.le_of_ble_eq_true rfl) rfl ?_
        refine z_iinc_3 D_m_whoHas_31 (Nat.le_of_ble_eq_true rfl) rfl ?_
        refine z_goto (tgt := 5) D_m_whoHas_34 (by decide) ?_
        have q := ih (i + 1) (by omega) (by omega) (by omega)
        rw [e] at q
        rw [if_pos (by simpa [nm] using q22)] at q
        exact q
theorem c_m_whoHas {h : zH} {s : Int} (hm : MI h) (hs : -2147483648 ≤ s ∧ s ≤ 2147483647) : zC M_m_whoHas [vR 39, vI s] h (pV (vI (whoM (nm h) (h 39 4) s)) h) := by
  refine zC.ofN 2 (by decide) (by first | decide | exact Nat.le_of_ble_eq_true rfl) ?_
  show Z M_m_whoHas _ 0 [vR 39, vI s, vU, vU] [] h
  refine z_bipush (by decide) D_m_whoHas_0 ?_
  refine z_istore_2 D_m_whoHas_2 (Nat.le_of_ble_eq_true rfl) rfl ?_
  refine z_iconst D_m_whoHas_3 ?_
  refine z_istore_3 D_m_whoHas_4 (Nat.le_of_ble_eq_true rfl) rfl ?_
  have hnp := hm.hnp
  exact l_m_whoHas hm hs (7 : Nat) 0 (by omega) (by omega) (by omega)

def owF (N : Int → Int) (p q : Int) : Int := N (16 + p * 6 + q)
theorem l_x_owedByAll {h : zH} {w : Nat} {p : Int} (hx : XI h w) (hp : 0 ≤ p ∧ p < 6) : ∀ (k : Nat) (i : Int), 0 ≤ i → i ≤ h w 4 → h w 4 - i < k → Z M_x_owedByAll (pV (vI (sumF (owF (nw h) p) (h w 4).toNat)) h) 4 [vR 0, vI p, vI (sumF (owF (nw h) p) i.toNat), vI i] [] (h) := by
  intro k
  induction k with
  | zero => intro i h0 h1 h2; omega
  | succ k ih =>
    intro i h0 h1 h2
    have hw := hx.2.1
    have hu := hx.2.2.1
    have hn := hx.2.2.2.hn
    have hnp := hx.2.2.2.hnp
    have ht := hx.2.2.2.row.ht
    have hh := hx.2.2.2.row.hh
    have hc := hx.2.2.2.row.hc
    refine z_iload_n D_x_owedByAll_4 rfl ?_
    refine z_aload_n D_x_owedByAll_5 rfl ?_
    refine z_getW fl_x_19 (by decide) hx.1 D_x_owedByAll_6 ?_
    refine z_getI fl_x_177 (kw hw) rfl D_x_owedByAll_9 ?_
    refine z_icmp_ge (tgt := 36) D_x_owedByAll_12 (by decide) (by omega) (by omega) (fun q12 => ?_) (fun q12 => ?_)
    · refine z_iload_n D_x_owedByAll_36 rfl ?_
      exact z_ireturn rfl D_x_owedByAll_37 (pvI (by rw [show i = h w 4 by omega]) rfl)
    · refine z_iload_n D_x_owedByAll_15 rfl ?_
      refine z_aload_n D_x_owedByAll_16 rfl ?_
      refine z_getR (q := 11) fl_x_29 (rfl) rfl (rfl) D_x_owedByAll_17 ?_
      refine z_iload_n D_x_owedByAll_20 rfl ?_
      refine z_iload_n D_x_owedByAll_21 rfl ?_
      refine z_S2 (c_d_debt) G_d_debt S_d_debt lk_x_148 ⟨Nat.le_of_ble_eq_true rfl, Nat.le_of_ble_eq_true rfl⟩ (Nat.le_of_ble_eq_true rfl) D_x_owedByAll_22 ?_
      refine z_V1 (c0 := 5) (c_d_value hu (by omega)) G_d_value I_d_value lk_x_131 (rfl) ⟨by decide, rfl⟩ ⟨Nat.le_of_ble_eq_true rfl, Nat.le_of_ble_eq_true rfl⟩ (Nat.le_of_ble_eq_true rfl) D_x_owedByAll_25 ?_
      refine z_iadd D_x_owedByAll_28 ?_
      refine z_istore_2 D_x_owedByAll_29 (Nat.le_of_ble_eq_true rfl) rfl ?_
      refine z_iinc_3 D_x_owedByAll_30 (Nat.le_of_ble_eq_true rfl) rfl ?_
      refine z_goto (tgt := 4) D_x_owedByAll_33 (by decide) ?_
      have q := ih (i + 1) (by omega) (by omega) (by omega)
      rw [sumF_1 h0] at q
      exact q
theorem c_x_owedByAll {h : zH} {w : Nat} {p : Int} (hx : XI h w) (hp : 0 ≤ p ∧ p < 6) : zC M_x_owedByAll [vR 0, vI p] h (pV (vI (sumF (owF (nw h) p) (h w 4).toNat)) h) := by
  refine zC.ofN 2 (by decide) (by first | decide | exact Nat.le_of_ble_eq_true rfl) ?_
  show Z M_x_owedByAll _ 0 [vR 0, vI p, vU, vU] [] h
  refine z_iconst D_x_owedByAll_0 ?_
  refine z_istore_2 D_x_owedByAll_1 (Nat.le_of_ble_eq_true rfl) rfl ?_
  refine z_iconst D_x_owedByAll_2 ?_
  refine z_istore_3 D_x_owedByAll_3 (Nat.le_of_ble_eq_true rfl) rfl ?_
  have hnp := hx.2.2.2.hnp
  exact l_x_owedByAll hx hp (7 : Nat) 0 (by omega) (by omega) (by omega)

theorem l_m_owedAll {h : zH} {p : Int} (hm : MI h) (hp : 0 ≤ p ∧ p < 6) : ∀ (k : Nat) (i : Int), 0 ≤ i → i ≤ h 39 4 → h 39 4 - i < k → Z M_m_owedAll (pV (vI (sumF (owF (nm h) p) (h 39 4).toNat)) h) 4 [vR 39, vI p, vI (sumF (owF (nm h) p) i.toNat), vI i] [] (h) := by
  intro k
  induction k with
  | zero => intro i h0 h1 h2; omega
  | succ k ih =>
    intro i h0 h1 h2
    have hn := hm.hn
    have hnp := hm.hnp
    have ht := hm.row.ht
    have hh := hm.row.hh
    have hc := hm.row.hc
    unfold nm at ht hh hc
    refine z_iload_n D_m_owedAll_4 rfl ?_
    refine z_aload_n D_m_owedAll_5 rfl ?_
    refine z_getI fl_m_66 (rfl) rfl D_m_owedAll_6 ?_
    refine z_icmp_ge (tgt := 35) D_m_owedAll_9 (by decide) (by omega) (by omega) (fun q9 => ?_) (fun q9 => ?_)
    · refine z_iload_n D_m_owedAll_35 rfl ?_
      exact z_ireturn rfl D_m_owedAll_36 (pvI (by rw [show i = h 39 4 by omega]) rfl)
    · refine z_iload_n D_m_owedAll_12 rfl ?_
      refine z_aload_n D_m_owedAll_13 rfl ?_
      refine z_getR (q := 42) fl_m_23 (rfl) rfl (rfl) D_m_owedAll_14 ?_
      refine z_bipush (by decide) D_m_owedAll_17 ?_
      refine z_bipush (by decide) D_m_owedAll_19 ?_
      refine z_iload_n D_m_owedAll_21 rfl ?_
      refine z_imul D_m_owedAll_22 ?_
      refine z_iadd D_m_owedAll_23 ?_
      refine z_iload_n D_m_owedAll_24 rfl ?_
      refine z_iadd D_m_owedAll_25 ?_
      refine z_iald (n := 573) (rfl) (by omega) D_m_owedAll_26 ?_
      refine z_iadd D_m_owedAll_27 ?_
      refine z_istore_2 D_m_owedAll_28 (Nat.le_of_ble_eq_true rfl) rfl ?_
      refine z_iinc_3 D_m_owedAll_29 (Nat.le_of_ble_eq_true rfl) rfl ?_
      refine z_goto (tgt := 4) D_m_owedAll_32 (by decide) ?_
      have q := ih (i + 1) (by omega) (by omega) (by omega)
      have e : owF (nm h) p i = h 42 (16 + 6 * p + i).toNat := by unfold owF nm; rw [Int.mul_comm]
      rw [sumF_1 h0, e] at q
      exact q
theorem c_m_owedAll {h : zH} {p : Int} (hm : MI h) (hp : 0 ≤ p ∧ p < 6) : zC M_m_owedAll [vR 39, vI p] h (pV (vI (sumF (owF (nm h) p) (h 39 4).toNat)) h) := by
  refine zC.ofN 2 (by decide) (by first | decide | exact Nat.le_of_ble_eq_true rfl) ?_
  show Z M_m_owedAll _ 0 [vR 39, vI p, vU, vU] [] h
  refine z_iconst D_m_owedAll_0 ?_
  refine z_istore_2 D_m_owedAll_1 (Nat.le_of_ble_eq_true rfl) rfl ?_
  refine z_iconst D_m_owedAll_2 ?_
  refine z_istore_3 D_m_owedAll_3 (Nat.le_of_ble_eq_true rfl) rfl ?_
  have hnp := hm.hnp
  exact l_m_owedAll hm hp (7 : Nat) 0 (by omega) (by omega) (by omega)

theorem l_x_owedInAll {h : zH} {w : Nat} (hx : XI h w) : ∀ (k : Nat) (i : Int), 0 ≤ i → i ≤ h w 4 → h w 4 - i < k → Z M_x_owedInAll (pV (vI (sumF (fun p => sumF (owF (nw h) p) (h w 4).toNat) (h w 4).toNat)) h) 4 [vR 0, vI (sumF (fun p => sumF (owF (nw h) p) (h w 4).toNat) i.toNat), vI i] [] (h) := by
  intro k
  induction k with
  | zero => intro i h0 h1 h2; omega
  | succ k ih =>
    intro i h0 h1 h2
    have hw := hx.2.1
    have hu := hx.2.2.1
    have hn := hx.2.2.2.hn
    have hnp := hx.2.2.2.hnp
    have ht := hx.2.2.2.row.ht
    have hh := hx.2.2.2.row.hh
    have hc := hx.2.2.2.row.hc
    refine z_iload_n D_x_owedInAll_4 rfl ?_
    refine z_aload_n D_x_owedInAll_5 rfl ?_
    refine z_getW fl_x_19 (by decide) hx.1 D_x_owedInAll_6 ?_
    refine z_getI fl_x_177 (kw hw) rfl D_x_owedInAll_9 ?_
    refine z_icmp_ge (tgt := 29) D_x_owedInAll_12 (by decide) (by omega) (by omega) (fun q12 => ?_) (fun q12 => ?_)
    · refine z_iload_n D_x_owedInAll_29 rfl ?_
      exact z_ireturn rfl D_x_owedInAll_30 (pvI (by rw [show i = h w 4 by omega]) rfl)
    · refine z_iload_n D_x_owedInAll_15 rfl ?_
      refine z_aload_n D_x_owedInAll_16 rfl ?_
      refine z_iload_n D_x_owedInAll_17 rfl ?_
      refine z_V1 (c0 := 11) (c_x_owedByAll hx (by omega)) G_x_owedByAll I_x_owedByAll lk_x_141 (rfl) ⟨by decide, rfl⟩ ⟨Nat.le_of_ble_eq_true rfl, Nat.le_of_ble_eq_true rfl⟩ (Nat.le_of_ble_eq_true rfl) D_x_owedInAll_18 ?_
      refine z_iadd D_x_owedInAll_21 ?_
      refine z_istore_1 D_x_owedInAll_22 (Nat.le_of_ble_eq_true rfl) rfl ?_
      refine z_iinc_2 D_x_owedInAll_23 (Nat.le_of_ble_eq_true rfl) rfl ?_
      refine z_goto (tgt := 4) D_x_owedInAll_26 (by decide) ?_
      have q := ih (i + 1) (by omega) (by omega) (by omega)
      rw [sumF_1 h0] at q
      exact q
theorem c_x_owedInAll {h : zH} {w : Nat} (hx : XI h w) : zC M_x_owedInAll [vR 0] h (pV (vI (sumF (fun p => sumF (owF (nw h) p) (h w 4).toNat) (h w 4).toNat)) h) := by
  refine zC.ofN 2 (by decide) (by first | decide | exact Nat.le_of_ble_eq_true rfl) ?_
  show Z M_x_owedInAll _ 0 [vR 0, vU, vU] [] h
  refine z_iconst D_x_owedInAll_0 ?_
  refine z_istore_1 D_x_owedInAll_1 (Nat.le_of_ble_eq_true rfl) rfl ?_
  refine z_iconst D_x_owedInAll_2 ?_
  refine z_istore_2 D_x_owedInAll_3 (Nat.le_of_ble_eq_true rfl) rfl ?_
  have hnp := hx.2.2.2.hnp
  exact l_x_owedInAll hx (7 : Nat) 0 (by omega) (by omega) (by omega)

theorem c_x_areTwo {h : zH} {w : Nat} {p q : Int} (hx : XI h w) (r_p : -2147483648 ≤ p ∧ p ≤ 2147483647) (r_q : -2147483648 ≤ q ∧ q ≤ 2147483647) : zC M_x_areTwo [vR 0, vI p, vI q] h (pV (vI (zb (p ≠ q ∧ (0 ≤ p ∧ p < h w 4) ∧ (0 ≤ q ∧ q < h w 4)))) h) := by
  refine zC.ofN 0 (by decide) (by first | decide | exact Nat.le_of_ble_eq_true rfl) ?_
  show Z M_x_areTwo _ 0 [vR 0, vI p, vI q] [] h
  have hw := hx.2.1
  have hu := hx.2.2.1
  have hn := hx.2.2.2.hn
  have hnp := hx.2.2.2.hnp
  have ht := hx.2.2.2.row.ht
  have hh := hx.2.2.2.row.hh
  have hc := hx.2.2.2.row.hc
  refine z_iload_n D_x_areTwo_0 rfl ?_
  refine z_iload_n D_x_areTwo_1 rfl ?_
  refine z_icmp_eq (tgt := 31) D_x_areTwo_2 (by decide) (by omega) (by omega) (fun q2 => ?_) (fun q2 => ?_)
  · refine z_iconst D_x_areTwo_31 ?_
    exact z_zreturn rfl (by first | exact Or.inl rfl | exact Or.inr rfl | exact zb_01 _) D_x_areTwo_32 (pvI (by first | exact (zb_t (by omega)).symm | exact (zb_f (by omega)).symm) rfl)
  · refine z_aload_n D_x_areTwo_5 rfl ?_
    refine z_getW fl_x_19 (by decide) hx.1 D_x_areTwo_6 ?_
    refine z_iload_n D_x_areTwo_9 rfl ?_
    refine z_V1 (c0 := 10) (c_w_hasPerson hw hnp (by omega)) G_w_hasPerson I_w_hasPerson lk_x_128 (kw hw) ⟨by decide, rfl⟩ ⟨Nat.le_of_ble_eq_true rfl, Nat.le_of_ble_eq_true rfl⟩ (Nat.le_of_ble_eq_true rfl) D_x_areTwo_10 ?_
    refine z_ifeqB (tgt := 31) D_x_areTwo_13 (by decide) (fun q13 => ?_) (fun q13 => ?_)
    · refine z_iconst D_x_areTwo_31 ?_
      exact z_zreturn rfl (by first | exact Or.inl rfl | exact Or.inr rfl | exact zb_01 _) D_x_areTwo_32 (pvI (by first | exact (zb_t (by omega)).symm | exact (zb_f (by omega)).symm) rfl)
    · refine z_aload_n D_x_areTwo_16 rfl ?_
      refine z_getW fl_x_19 (by decide) hx.1 D_x_areTwo_17 ?_
      refine z_iload_n D_x_areTwo_20 rfl ?_
      refine z_V1 (c0 := 10) (c_w_hasPerson hw hnp (by omega)) G_w_hasPerson I_w_hasPerson lk_x_128 (kw hw) ⟨by decide, rfl⟩ ⟨Nat.le_of_ble_eq_true rfl, Nat.le_of_ble_eq_true rfl⟩ (Nat.le_of_ble_eq_true rfl) D_x_areTwo_21 ?_
      refine z_ifeqB (tgt := 31) D_x_areTwo_24 (by decide) (fun q24 => ?_) (fun q24 => ?_)
      · refine z_iconst D_x_areTwo_31 ?_
        exact z_zreturn rfl (by first | exact Or.inl rfl | exact Or.inr rfl | exact zb_01 _) D_x_areTwo_32 (pvI (by first | exact (zb_t (by omega)).symm | exact (zb_f (by omega)).symm) rfl)
      · refine z_iconst D_x_areTwo_27 ?_
        refine z_goto (tgt := 32) D_x_areTwo_28 (by decide) ?_
        exact z_zreturn rfl (by first | exact Or.inl rfl | exact Or.inr rfl | exact zb_01 _) D_x_areTwo_32 (pvI (by first | exact (zb_t (by omega)).symm | exact (zb_f (by omega)).symm) rfl)

theorem c_m_areTwo {h : zH} {p q : Int} (hm : MI h) (r_p : -2147483648 ≤ p ∧ p ≤ 2147483647) (r_q : -2147483648 ≤ q ∧ q ≤ 2147483647) : zC M_m_areTwo [vR 39, vI p, vI q] h (pV (vI (zb (p ≠ q ∧ (0 ≤ p ∧ p < h 39 4) ∧ (0 ≤ q ∧ q < h 39 4)))) h) := by
  refine zC.ofN 0 (by decide) (by first | decide | exact Nat.le_of_ble_eq_true rfl) ?_
  show Z M_m_areTwo _ 0 [vR 39, vI p, vI q] [] h
  have hn := hm.hn
  have hnp := hm.hnp
  have ht := hm.row.ht
  have hh := hm.row.hh
  have hc := hm.row.hc
  unfold nm at ht hh hc
  refine z_aload_n D_m_areTwo_0 rfl ?_
  refine z_iload_n D_m_areTwo_1 rfl ?_
  refine z_V1 (c0 := 12) (c_m_isOne (by omega) (by omega)) G_m_isOne I_m_isOne lk_m_152 (rfl) ⟨by decide, rfl⟩ ⟨Nat.le_of_ble_eq_true rfl, Nat.le_of_ble_eq_true rfl⟩ (Nat.le_of_ble_eq_true rfl) D_m_areTwo_2 ?_
  refine z_ifeqB (tgt := 25) D_m_areTwo_5 (by decide) (fun q5 => ?_) (fun q5 => ?_)
  · refine z_iconst D_m_areTwo_25 ?_
    exact z_zreturn rfl (by first | exact Or.inl rfl | exact Or.inr rfl | exact zb_01 _) D_m_areTwo_26 (pvI (by first | exact (zb_t (by omega)).symm | exact (zb_f (by omega)).symm) rfl)
  · refine z_aload_n D_m_areTwo_8 rfl ?_
    refine z_iload_n D_m_areTwo_9 rfl ?_
    refine z_V1 (c0 := 12) (c_m_isOne (by omega) (by omega)) G_m_isOne I_m_isOne lk_m_152 (rfl) ⟨by decide, rfl⟩ ⟨Nat.le_of_ble_eq_true rfl, Nat.le_of_ble_eq_true rfl⟩ (Nat.le_of_ble_eq_true rfl) D_m_areTwo_10 ?_
    refine z_ifeqB (tgt := 25) D_m_areTwo_13 (by decide) (fun q13 => ?_) (fun q13 => ?_)
    · refine z_iconst D_m_areTwo_25 ?_
      exact z_zreturn rfl (by first | exact Or.inl rfl | exact Or.inr rfl | exact zb_01 _) D_m_areTwo_26 (pvI (by first | exact (zb_t (by omega)).symm | exact (zb_f (by omega)).symm) rfl)
    · refine z_iload_n D_m_areTwo_16 rfl ?_
      refine z_iload_n D_m_areTwo_17 rfl ?_
      refine z_icmp_eq (tgt := 25) D_m_areTwo_18 (by decide) (by omega) (by omega) (fun q18 => ?_) (fun q18 => ?_)
      · refine z_iconst D_m_areTwo_25 ?_
        exact z_zreturn rfl (by first | exact Or.inl rfl | exact Or.inr rfl | exact zb_01 _) D_m_areTwo_26 (pvI (by first | exact (zb_t (by omega)).symm | exact (zb_f (by omega)).symm) rfl)
      · refine z_iconst D_m_areTwo_21 ?_
        refine z_goto (tgt := 26) D_m_areTwo_22 (by decide) ?_
        exact z_zreturn rfl (by first | exact Or.inl rfl | exact Or.inr rfl | exact zb_01 _) D_m_areTwo_26 (pvI (by first | exact (zb_t (by omega)).symm | exact (zb_f (by omega)).symm) rfl)

theorem c_x_pane {h : zH} {w : Nat} {s : Int} (hx : XI h w) (r_s : -2147483648 ≤ s ∧ s ≤ 2147483647) : zC M_x_pane [vR 0, vI s] h (pV (vI (if 0 ≤ s ∧ s < h w 3 then px h w s else -1)) h) := by
  refine zC.ofN 0 (by decide) (by first | decide | exact Nat.le_of_ble_eq_true rfl) ?_
  show Z M_x_pane _ 0 [vR 0, vI s] [] h
  have hw := hx.2.1
  have hu := hx.2.2.1
  have hn := hx.2.2.2.hn
  have hnp := hx.2.2.2.hnp
  have ht := hx.2.2.2.row.ht
  have hh := hx.2.2.2.row.hh
  have hc := hx.2.2.2.row.hc
  refine z_aload_n D_x_pane_0 rfl ?_
  refine z_getW fl_x_19 (by decide) hx.1 D_x_pane_1 ?_
  refine z_iload_n D_x_pane_4 rfl ?_
  refine z_V1 (c0 := 10) (c_w_hasSpot hw hn r_s) G_w_hasSpot I_w_hasSpot lk_x_122 (kw hw) ⟨by decide, rfl⟩ ⟨Nat.le_of_ble_eq_true rfl, Nat.le_of_ble_eq_true rfl⟩ (Nat.le_of_ble_eq_true rfl) D_x_pane_5 ?_
  refine z_ifeqB (tgt := 23) D_x_pane_8 (by decide) (fun q8 => ?_) (fun q8 => ?_)
  · refine z_iconst D_x_pane_23 ?_
    exact z_ireturn rfl D_x_pane_24 (pvI (by first | exact (if_pos q8).symm | exact (if_neg q8).symm) rfl)
  · refine z_aload_n D_x_pane_11 rfl ?_
    refine z_getW fl_x_19 (by decide) hx.1 D_x_pane_12 ?_
    refine z_getR (q := (w + 1)) fl_x_125 (kw hw) rfl (kw0 hw) D_x_pane_15 ?_
    refine z_iload_n D_x_pane_18 rfl ?_
    refine z_iald (n := 12) (kwp hw) (by omega) D_x_pane_19 ?_
    refine z_goto (tgt := 24) D_x_pane_20 (by decide) ?_
    exact z_ireturn rfl D_x_pane_24 (pvI (by first | exact (if_pos q8).symm | exact (if_neg q8).symm) rfl)

theorem c_m_pane {h : zH} {s : Int} (hm : MI h) (r_s : -2147483648 ≤ s ∧ s ≤ 2147483647) : zC M_m_pane [vR 39, vI s] h (pV (vI (if 0 ≤ s ∧ s < h 39 0 then pm h s else -1)) h) := by
  refine zC.ofN 0 (by decide) (by first | decide | exact Nat.le_of_ble_eq_true rfl) ?_
  show Z M_m_pane _ 0 [vR 39, vI s] [] h
  have hn := hm.hn
  have hnp := hm.hnp
  have ht := hm.row.ht
  have hh := hm.row.hh
  have hc := hm.row.hc
  unfold nm at ht hh hc
  refine z_aload_n D_m_pane_0 rfl ?_
  refine z_iload_n D_m_pane_1 rfl ?_
  refine z_V1 (c0 := 12) (c_m_isSpot hn r_s) G_m_isSpot I_m_isSpot lk_m_146 (rfl) ⟨by decide, rfl⟩ ⟨Nat.le_of_ble_eq_true rfl, Nat.le_of_ble_eq_true rfl⟩ (Nat.le_of_ble_eq_true rfl) D_m_pane_2 ?_
  refine z_ifeqB (tgt := 17) D_m_pane_5 (by decide) (fun q5 => ?_) (fun q5 => ?_)
  · refine z_iconst D_m_pane_17 ?_
    exact z_ireturn rfl D_m_pane_18 (pvI (by first | exact (if_pos q5).symm | exact (if_neg q5).symm) rfl)
  · refine z_aload_n D_m_pane_8 rfl ?_
    refine z_getR (q := 40) fl_m_7 (rfl) rfl (rfl) D_m_pane_9 ?_
    refine z_iload_n D_m_pane_12 rfl ?_
    refine z_iald (n := 12) (rfl) (by omega) D_m_pane_13 ?_
    refine z_goto (tgt := 18) D_m_pane_14 (by decide) ?_
    exact z_ireturn rfl D_m_pane_18 (pvI (by first | exact (if_pos q5).symm | exact (if_neg q5).symm) rfl)

theorem cnt_in (f : Int → Int) (c : Int) : ∀ m : Nat, 0 ≤ cntS f c m ∧ cntS f c m ≤ m
  | 0 => by simp [cntS]
  | m + 1 => by
    have := cnt_in f c m
    have h2 := zb_01 (f (m + 1) = c)
    simp only [cntS]
    omega
theorem l_x_speedsFor {h : zH} {w : Nat} {s c m : Int} (hx : XI h w) (hs : 0 ≤ s ∧ s < h w 3) (hc : 0 ≤ c ∧ c ≤ 5) (hm0 : 0 ≤ m ∧ m ≤ 60) : ∀ (k : Nat) (i : Int), 1 ≤ i → i ≤ m + 1 → m + 1 - i < k → Z M_x_speedsFor (pV (vI (cntS (gx h w s) c m.toNat)) h) 6 [vR 0, vI s, vI c, vI m, vI (cntS (gx h w s) c (i - 1).toNat), vI i] [] h := by
  intro k
  induction k with
  | zero => intro i h0 h1 h2; omega
  | succ k ih =>
    intro i h0 h1 h2
    have q := ih (i + 1) (by omega)
    rw [cntS_1 h0] at q
    refine z_iload D_x_speedsFor_6 rfl ?_
    refine z_iload_n D_x_speedsFor_8 rfl ?_
    refine z_icmp_gt (tgt := 32) D_x_speedsFor_9 (by decide) (by omega) (by omega) (fun q9 => ?_) (fun q9 => ?_)
    · refine z_iload D_x_speedsFor_32 rfl ?_
      exact z_ireturn rfl D_x_speedsFor_34 (pvI (by rw [show (i - 1).toNat = m.toNat by omega]) rfl)
    · refine z_aload_n D_x_speedsFor_12 rfl ?_
      refine z_iload_n D_x_speedsFor_13 rfl ?_
      refine z_iload D_x_speedsFor_14 rfl ?_
      refine z_V2 (c0 := 11) (c_x_colourBehind hx hs (by omega)) G_x_colourBehind I_x_colourBehind lk_x_196 (rfl) ⟨by decide, rfl⟩ ⟨Nat.le_of_ble_eq_true rfl, Nat.le_of_ble_eq_true rfl⟩ (Nat.le_of_ble_eq_true rfl) D_x_speedsFor_16 ?_
      refine z_iload_n D_x_speedsFor_19 rfl ?_
      refine z_icmp_ne (tgt := 26) D_x_speedsFor_20 (by decide) (by have := gx_in hx s i; omega) (by omega) (fun q20 => ?_) (fun q20 => ?_)
      · refine z_iinc_5 D_x_speedsFor_26 (Nat.le_of_ble_eq_true rfl) rfl ?_
        refine z_goto (tgt := 6) D_x_speedsFor_29 (by decide) ?_
        first
        | rw [zb_t q20] at q
        | rw [zb_f q20, Int.add_zero] at q
        exact q (by omega) (by omega)
      · refine z_iinc_4 D_x_speedsFor_23 (Nat.le_of_ble_eq_true rfl) rfl ?_
        refine z_iinc_5 D_x_speedsFor_26 (Nat.le_of_ble_eq_true rfl) rfl ?_
        refine z_goto (tgt := 6) D_x_speedsFor_29 (by decide) ?_
        first
        | rw [zb_t q20] at q
        | rw [zb_f q20, Int.add_zero] at q
        exact q (by omega) (by omega)
theorem c_x_speedsFor {h : zH} {w : Nat} {s c m : Int} (hx : XI h w) (hs : 0 ≤ s ∧ s < h w 3) (hc : 0 ≤ c ∧ c ≤ 5) (hm0 : 0 ≤ m ∧ m ≤ 60) : zC M_x_speedsFor [vR 0, vI s, vI c, vI m] h (pV (vI (cntS (gx h w s) c m.toNat)) h) := by
  refine zC.ofN 2 (by decide) (by first | decide | exact Nat.le_of_ble_eq_true rfl) ?_
  show Z M_x_speedsFor _ 0 [vR 0, vI s, vI c, vI m, vU, vU] [] h
  refine z_iconst D_x_speedsFor_0 ?_
  refine z_istore_4 D_x_speedsFor_1 (Nat.le_of_ble_eq_true rfl) rfl ?_
  refine z_iconst D_x_speedsFor_3 ?_
  refine z_istore_5 D_x_speedsFor_4 (Nat.le_of_ble_eq_true rfl) rfl ?_
  exact l_x_speedsFor hx hs hc hm0 (62 : Nat) 1 (by omega) (by omega) (by omega)

theorem l_m_speedsOf {h : zH} {s c m : Int} (hm : MI h) (hs : 0 ≤ s ∧ s < h 39 0) (hc : 0 ≤ c ∧ c ≤ 5) (hm0 : 0 ≤ m ∧ m ≤ 60) : ∀ (k : Nat) (i : Int), 1 ≤ i → i ≤ m + 1 → m + 1 - i < k → Z M_m_speedsOf (pV (vI (cntS (gm h s) c m.toNat)) h) 6 [vR 39, vI s, vI c, vI m, vI (cntS (gm h s) c (i - 1).toNat), vI i] [] h := by
  intro k
  induction k with
  | zero => intro i h0 h1 h2; omega
  | succ k ih =>
    intro i h0 h1 h2
    have q := ih (i + 1) (by omega)
    rw [cntS_1 h0] at q
    refine z_iload D_m_speedsOf_6 rfl ?_
    refine z_iload_n D_m_speedsOf_8 rfl ?_
    refine z_icmp_gt (tgt := 39) D_m_speedsOf_9 (by decide) (by omega) (by omega) (fun q9 => ?_) (fun q9 => ?_)
    · refine z_iload D_m_speedsOf_39 rfl ?_
      exact z_ireturn rfl D_m_speedsOf_41 (pvI (by rw [show (i - 1).toNat = m.toNat by omega]) rfl)
    · refine z_iload D_m_speedsOf_12 rfl ?_
      refine z_aload_n D_m_speedsOf_14 rfl ?_
      refine z_iload_n D_m_speedsOf_15 rfl ?_
      refine z_iload D_m_speedsOf_16 rfl ?_
      refine z_V2 (c0 := 12) (c_m_shadeOf hm hs (by omega)) G_m_shadeOf I_m_shadeOf lk_m_197 (rfl) ⟨by decide, rfl⟩ ⟨Nat.le_of_ble_eq_true rfl, Nat.le_of_ble_eq_true rfl⟩ (Nat.le_of_ble_eq_true rfl) D_m_speedsOf_18 ?_
      refine z_iload_n D_m_speedsOf_21 rfl ?_
      refine z_icmp_ne (tgt := 29) D_m_speedsOf_22 (by decide) (by have := gm_in hm s i; omega) (by omega) (fun q22 => ?_) (fun q22 => ?_)
      · refine z_iconst D_m_speedsOf_29 ?_
        refine z_iadd D_m_speedsOf_30 ?_
        refine z_istore_4 D_m_speedsOf_31 (Nat.le_of_ble_eq_true rfl) rfl ?_
        refine z_iinc_5 D_m_speedsOf_33 (Nat.le_of_ble_eq_true rfl) rfl ?_
        refine z_goto (tgt := 6) D_m_speedsOf_36 (by decide) ?_
        first
        | rw [zb_t q22] at q
        | rw [zb_f q22] at q
        exact q (by omega) (by omega)
      · refine z_iconst D_m_speedsOf_25 ?_
        refine z_goto (tgt := 30) D_m_speedsOf_26 (by decide) ?_
        refine z_iadd D_m_speedsOf_30 ?_
        refine z_istore_4 D_m_speedsOf_31 (Nat.le_of_ble_eq_true rfl) rfl ?_
        refine z_iinc_5 D_m_speedsOf_33 (Nat.le_of_ble_eq_true rfl) rfl ?_
        refine z_goto (tgt := 6) D_m_speedsOf_36 (by decide) ?_
        first
        | rw [zb_t q22] at q
        | rw [zb_f q22] at q
        exact q (by omega) (by omega)
theorem c_m_speedsOf {h : zH} {s c m : Int} (hm : MI h) (hs : 0 ≤ s ∧ s < h 39 0) (hc : 0 ≤ c ∧ c ≤ 5) (hm0 : 0 ≤ m ∧ m ≤ 60) : zC M_m_speedsOf [vR 39, vI s, vI c, vI m] h (pV (vI (cntS (gm h s) c m.toNat)) h) := by
  refine zC.ofN 2 (by decide) (by first | decide | exact Nat.le_of_ble_eq_true rfl) ?_
  show Z M_m_speedsOf _ 0 [vR 39, vI s, vI c, vI m, vU, vU] [] h
  refine z_iconst D_m_speedsOf_0 ?_
  refine z_istore_4 D_m_speedsOf_1 (Nat.le_of_ble_eq_true rfl) rfl ?_
  refine z_iconst D_m_speedsOf_3 ?_
  refine z_istore_5 D_m_speedsOf_4 (Nat.le_of_ble_eq_true rfl) rfl ?_
  exact l_m_speedsOf hm hs hc hm0 (62 : Nat) 1 (by omega) (by omega) (by omega)

theorem l_x_leastSpeedFor {h : zH} {w : Nat} {s c : Int} (hx : XI h w) (hs : 0 ≤ s ∧ s < h w 3) (hc : 0 ≤ c ∧ c ≤ 5) : ∀ (k : Nat) (i : Int), 1 ≤ i → i + k = 61 → Z M_x_leastSpeedFor (pV (vI (lstU (fun v => gx h w s v == c) (-9) k i)) h) 2 [vR 0, vI s, vI c, vI i] [] h := by
  intro k
  induction k with
  | zero =>
    intro i h0 h1
    refine z_iload_n D_x_leastSpeedFor_2 rfl ?_
    refine z_bipush (by decide) D_x_leastSpeedFor_3 ?_
    refine z_icmp_gt (tgt := 26) D_x_leastSpeedFor_5 (by decide) (by omega) (by omega) (fun q5 => ?_) (fun q5 => ?_)
    · refine z_bipush (by decide) D_x_leastSpeedFor_26 ?_
      exact z_ireturn rfl D_x_leastSpeedFor_28 (pvI rfl rfl)
    · omega
  | succ k ih =>
    intro i h0 h1
    refine z_iload_n D_x_leastSpeedFor_2 rfl ?_
    refine z_bipush (by decide) D_x_leastSpeedFor_3 ?_
    refine z_icmp_gt (tgt := 26) D_x_leastSpeedFor_5 (by decide) (by omega) (by omega) (fun q5 => ?_) (fun q5 => ?_)
    · omega
    · refine z_aload_n D_x_leastSpeedFor_8 rfl ?_
      refine z_iload_n D_x_leastSpeedFor_9 rfl ?_
      refine z_iload_n D_x_leastSpeedFor_10 rfl ?_
      refine z_V2 (c0 := 11) (c_x_colourBehind hx hs (by omega)) G_x_colourBehind I_x_colourBehind lk_x_196 (rfl) ⟨by decide, rfl⟩ ⟨Nat.le_of_ble_eq_true rfl, Nat.le_of_ble_eq_true rfl⟩ (Nat.le_of_ble_eq_true rfl) D_x_leastSpeedFor_11 ?_
      refine z_iload_n D_x_leastSpeedFor_14 rfl ?_
      refine z_icmp_ne (tgt := 20) D_x_leastSpeedFor_15 (by decide) (by have := gx_in hx s i; omega) (by omega) (fun q15 => ?_) (fun q15 => ?_)
      · refine z_iinc_3 D_x_leastSpeedFor_20 (Nat.le_of_ble_eq_true rfl) rfl ?_
        refine z_goto (tgt := 2) D_x_leastSpeedFor_23 (by decide) ?_
        have q := ih (i + 1) (by omega) (by omega)
        rw [lstU, if_neg (by simpa using q15)]
        exact q
      · refine z_iload_n D_x_leastSpeedFor_18 rfl ?_
        exact z_ireturn rfl D_x_leastSpeedFor_19 (pvI (by rw [lstU, if_pos (by simpa using q15)]) rfl)
theorem c_x_leastSpeedFor {h : zH} {w : Nat} {s c : Int} (hx : XI h w) (hs : 0 ≤ s ∧ s < h w 3) (hc : 0 ≤ c ∧ c ≤ 5) : zC M_x_leastSpeedFor [vR 0, vI s, vI c] h (pV (vI (lstU (fun v => gx h w s v == c) (-9) 60 1)) h) := by
  refine zC.ofN 1 (by decide) (by first | decide | exact Nat.le_of_ble_eq_true rfl) ?_
  show Z M_x_leastSpeedFor _ 0 [vR 0, vI s, vI c, vU] [] h
  refine z_iconst D_x_leastSpeedFor_0 ?_
  refine z_istore_3 D_x_leastSpeedFor_1 (Nat.le_of_ble_eq_true rfl) rfl ?_
  exact l_x_leastSpeedFor hx hs hc 60 1 (by omega) (by omega)
end
section
/-! text, clicks, stops, shades, speeds -/
theorem zup_ne {h : zH} {a b k j : Nat} {x : Int} (hb : b ≠ a) : zup h a k x b j = h b j := zup_other (fun q => hb q.1)
theorem zup_nk {h : zH} {a b k j : Nat} {x : Int} (hj : j ≠ k) : zup h a k x b j = h b j := zup_other (fun q => hj q.2)
def iter {α : Type} (f : Int → α → α) (a : α) : Nat → α
  | 0 => a
  | m + 1 => f m (iter f a m)
theorem iter_1 {α : Type} {f : Int → α → α} {a : α} {i : Int} (h : 0 ≤ i) : iter f a (i + 1).toNat = f i (iter f a i.toNat) := by rw [tn1 h]; simp only [iter, tn h]
theorem iter_inv {α : Type} {f : Int → α → α} {a : α} (I : α → Prop) (h0 : I a) (h1 : ∀ (i : Int) (s : α), 0 ≤ i → I s → I (f i s)) : ∀ m : Nat, I (iter f a m)
  | 0 => h0
  | m + 1 => h1 m _ (by omega) (iter_inv I h0 h1 m)
theorem c_t_add {h : zH} {c : Int} (hT : 0 ≤ h 1 1 ∧ h 1 1 ≤ 150) : zC M_t_add [vR 1, vI c] h (pV (vI (zb (h 1 1 < 150))) (if h 1 1 < 150 then zup (zup h 2 (h 1 1).toNat c) 1 1 (h 1 1 + 1) else h)) := by
  refine zC.ofN 0 (by decide) (by first | decide | exact Nat.le_of_ble_eq_true rfl) ?_
  show Z M_t_add _ 0 [vR 1, vI c] [] h
  refine z_aload_n D_t_add_0 rfl ?_
  refine z_getI fl_t_15 (rfl) rfl D_t_add_1 ?_
  refine z_aload_n D_t_add_4 rfl ?_
  refine z_getR (q := 2) fl_t_9 (rfl) rfl (rfl) D_t_add_5 ?_
  refine z_alen (n := 150) (rfl) (by decide) D_t_add_8 ?_
  refine z_icmp_lt (tgt := 14) D_t_add_9 (by decide) (by omega) (by omega) (fun q9 => ?_) (fun q9 => ?_)
  · refine z_aload_n D_t_add_14 rfl ?_
    refine z_getR (q := 2) fl_t_9 (rfl) rfl (rfl) D_t_add_15 ?_
    refine z_aload_n D_t_add_18 rfl ?_
    refine z_getI fl_t_15 (rfl) rfl D_t_add_19 ?_
    refine z_iload_n D_t_add_22 rfl ?_
    refine z_iast (n := 150) (rfl) (by omega) D_t_add_23 ?_
    refine z_aload_n D_t_add_24 rfl ?_
    refine z_dup rfl D_t_add_25 ?_
    refine z_getI fl_t_15 (rfl) rfl D_t_add_26 ?_
    refine z_iconst D_t_add_29 ?_
    refine z_iadd D_t_add_30 ?_
    rw [zup_ne (show (1 : Nat) ≠ 2 by decide)]
    refine z_putI fl_t_15 (rfl) rfl rfl D_t_add_31 ?_
    refine z_iconst D_t_add_34 ?_
    exact z_zreturn rfl (by first | exact Or.inl rfl | exact Or.inr rfl | exact zb_01 _) D_t_add_35 (pvI (zb_t (by omega)).symm (if_pos (by omega)).symm)
  · refine z_iconst D_t_add_12 ?_
    exact z_zreturn rfl (by first | exact Or.inl rfl | exact Or.inr rfl | exact zb_01 _) D_t_add_13 (pvI (zb_f (by omega)).symm (if_neg (by omega)).symm)

theorem c_x_type {h : zH} {c : Int} (hT : 0 ≤ h 1 1 ∧ h 1 1 ≤ 150) (r_c : -2147483648 ≤ c ∧ c ≤ 2147483647) : zC M_x_type [vR 0, vI c] h (pV (vI (if 0 ≤ c ∧ c ≤ 255 then (if h 1 1 < 150 then h 1 1 + 1 else -3) else -1)) (if (0 ≤ c ∧ c ≤ 255) ∧ h 1 1 < 150 then zup (zup h 2 (h 1 1).toNat c) 1 1 (h 1 1 + 1) else h)) := by
  refine zC.ofN 0 (by decide) (by first | decide | exact Nat.le_of_ble_eq_true rfl) ?_
  show Z M_x_type _ 0 [vR 0, vI c] [] h
  refine z_iload_n D_x_type_0 rfl ?_
  refine z_iconst D_x_type_1 ?_
  refine z_sipush (by decide) D_x_type_2 ?_
  refine z_S3 (c_x_isWithin r_c (by omega) (by omega)) G_x_isWithin S_x_isWithin lk_x_99 ⟨Nat.le_of_ble_eq_true rfl, Nat.le_of_ble_eq_true rfl⟩ (Nat.le_of_ble_eq_true rfl) D_x_type_5 ?_
  refine z_ifneB (tgt := 13) D_x_type_8 (by decide) (fun q8 => ?_) (fun q8 => ?_)
  · refine z_aload_n D_x_type_13 rfl ?_
    refine z_getR (q := 1) fl_x_10 (rfl) rfl (rfl) D_x_type_14 ?_
    refine z_iload_n D_x_type_17 rfl ?_
    refine z_V1 (c0 := 9) (c_t_add hT) G_t_add I_t_add lk_x_103 (rfl) ⟨by decide, rfl⟩ ⟨Nat.le_of_ble_eq_true rfl, Nat.le_of_ble_eq_true rfl⟩ (Nat.le_of_ble_eq_true rfl) D_x_type_18 ?_
    refine z_ifeqB (tgt := 34) D_x_type_21 (by decide) (fun q21 => ?_) (fun q21 => ?_)
    · rw [if_neg q21]
      refine z_bipush (by decide) D_x_type_34 ?_
      exact z_ireturn rfl D_x_type_36 (pvI (by (try rw [zup_same]); (repeat' split) <;> first | rfl | omega | (exfalso; omega)) (by (repeat' split) <;> first | rfl | omega | (exfalso; omega)))
    · rw [if_pos q21]
      refine z_aload_n D_x_type_24 rfl ?_
      refine z_getR (q := 1) fl_x_10 (rfl) rfl (rfl) D_x_type_25 ?_
      refine z_getI fl_x_107 (rfl) rfl D_x_type_28 ?_
      refine z_goto (tgt := 36) D_x_type_31 (by decide) ?_
      exact z_ireturn rfl D_x_type_36 (pvI (by (try rw [zup_same]); (repeat' split) <;> first | rfl | omega | (exfalso; omega)) (by (repeat' split) <;> first | rfl | omega | (exfalso; omega)))
  · refine z_iconst D_x_type_11 ?_
    exact z_ireturn rfl D_x_type_12 (pvI (by (repeat' split) <;> first | rfl | omega | (exfalso; omega)) (by (repeat' split) <;> first | rfl | omega | (exfalso; omega)))

theorem c_m_type {h : zH} {c : Int} (hT : 0 ≤ h 39 15 ∧ h 39 15 ≤ 150) (r_c : -2147483648 ≤ c ∧ c ≤ 2147483647) : zC M_m_type [vR 39, vI c] h (pV (vI (if 0 ≤ c ∧ c ≤ 255 then (if h 39 15 < 150 then h 39 15 + 1 else -3) else -1)) (if (0 ≤ c ∧ c ≤ 255) ∧ h 39 15 < 150 then zup (zup h 47 (h 39 15).toNat c) 39 15 (h 39 15 + 1) else h)) := by
  refine zC.ofN 0 (by decide) (by first | decide | exact Nat.le_of_ble_eq_true rfl) ?_
  show Z M_m_type _ 0 [vR 39, vI c] [] h
  refine z_iload_n D_m_type_0 rfl ?_
  refine z_iconst D_m_type_1 ?_
  refine z_sipush (by decide) D_m_type_2 ?_
  refine z_S3 (c_m_in r_c (by omega) (by omega)) G_m_in S_m_in lk_m_69 ⟨Nat.le_of_ble_eq_true rfl, Nat.le_of_ble_eq_true rfl⟩ (Nat.le_of_ble_eq_true rfl) D_m_type_5 ?_
  refine z_ifneB (tgt := 13) D_m_type_8 (by decide) (fun q8 => ?_) (fun q8 => ?_)
  · refine z_aload_n D_m_type_13 rfl ?_
    refine z_getI fl_m_76 (rfl) rfl D_m_type_14 ?_
    refine z_sipush (by decide) D_m_type_17 ?_
    refine z_icmp_ne (tgt := 26) D_m_type_20 (by decide) (by omega) (by omega) (fun q20 => ?_) (fun q20 => ?_)
    · refine z_aload_n D_m_type_26 rfl ?_
      refine z_getR (q := 47) fl_m_39 (rfl) rfl (rfl) D_m_type_27 ?_
      refine z_aload_n D_m_type_30 rfl ?_
      refine z_getI fl_m_76 (rfl) rfl D_m_type_31 ?_
      refine z_iload_n D_m_type_34 rfl ?_
      refine z_iast (n := 150) (rfl) (by omega) D_m_type_35 ?_
      refine z_aload_n D_m_type_36 rfl ?_
      refine z_dup rfl D_m_type_37 ?_
      refine z_getI fl_m_76 (rfl) rfl D_m_type_38 ?_
      refine z_iconst D_m_type_41 ?_
      refine z_iadd D_m_type_42 ?_
      rw [zup_ne (show (39 : Nat) ≠ 47 by decide)]
      refine z_putI fl_m_76 (rfl) rfl rfl D_m_type_43 ?_
      refine z_aload_n D_m_type_46 rfl ?_
      refine z_getI fl_m_76 (rfl) rfl D_m_type_47 ?_
      exact z_ireturn rfl D_m_type_50 (pvI (by rw [zup_same, if_pos q8, if_pos (by omega)]) (by rw [if_pos ⟨q8, by omega⟩]))
    · refine z_bipush (by decide) D_m_type_23 ?_
      exact z_ireturn rfl D_m_type_25 (pvI (by (repeat' split) <;> first | rfl | omega | (exfalso; omega)) (by (repeat' split) <;> first | rfl | omega | (exfalso; omega)))
  · refine z_iconst D_m_type_11 ?_
    exact z_ireturn rfl D_m_type_12 (pvI (by (repeat' split) <;> first | rfl | omega | (exfalso; omega)) (by (repeat' split) <;> first | rfl | omega | (exfalso; omega)))

theorem c_x_clear {h : zH}   : zC M_x_clear [vR 0] h (pV (vI (h 1 1)) (zup h 1 1 0)) := by
  refine zC.ofN 1 (by decide) (by first | decide | exact Nat.le_of_ble_eq_true rfl) ?_
  show Z M_x_clear _ 0 [vR 0, vU] [] h
  refine z_aload_n D_x_clear_0 rfl ?_
  refine z_getR (q := 1) fl_x_10 (rfl) rfl (rfl) D_x_clear_1 ?_
  refine z_getI fl_x_107 (rfl) rfl D_x_clear_4 ?_
  refine z_istore_1 D_x_clear_7 (Nat.le_of_ble_eq_true rfl) rfl ?_
  refine z_aload_n D_x_clear_8 rfl ?_
  refine z_getR (q := 1) fl_x_10 (rfl) rfl (rfl) D_x_clear_9 ?_
  refine z_iconst D_x_clear_12 ?_
  refine z_putI fl_x_107 (rfl) rfl rfl D_x_clear_13 ?_
  refine z_iload_n D_x_clear_16 rfl ?_
  exact z_ireturn rfl D_x_clear_17 (pvI rfl rfl)

theorem c_m_clear {h : zH}   : zC M_m_clear [vR 39] h (pV (vI (h 39 15)) (zup h 39 15 0)) := by
  refine zC.ofN 1 (by decide) (by first | decide | exact Nat.le_of_ble_eq_true rfl) ?_
  show Z M_m_clear _ 0 [vR 39, vU] [] h
  refine z_aload_n D_m_clear_0 rfl ?_
  refine z_getI fl_m_76 (rfl) rfl D_m_clear_1 ?_
  refine z_istore_1 D_m_clear_4 (Nat.le_of_ble_eq_true rfl) rfl ?_
  refine z_aload_n D_m_clear_5 rfl ?_
  refine z_iconst D_m_clear_6 ?_
  refine z_putI fl_m_76 (rfl) rfl rfl D_m_clear_7 ?_
  refine z_iload_n D_m_clear_10 rfl ?_
  exact z_ireturn rfl D_m_clear_11 (pvI rfl rfl)

theorem c_x_clicks {h : zH} {w : Nat} {v : Int} (hx : XI h w) (r_v : -2147483648 ≤ v ∧ v ≤ 2147483647) : zC M_x_clicks [vR 0, vI v] h (pV (vI (if 1 ≤ v ∧ v ≤ 60 then clk v (h w 5) (h w 6) else -1)) h) := by
  refine zC.ofN 0 (by decide) (by first | decide | exact Nat.le_of_ble_eq_true rfl) ?_
  show Z M_x_clicks _ 0 [vR 0, vI v] [] h
  have hw := hx.2.1
  have hu := hx.2.2.1
  have hn := hx.2.2.2.hn
  have hnp := hx.2.2.2.hnp
  have ht := hx.2.2.2.row.ht
  have hh := hx.2.2.2.row.hh
  have hc := hx.2.2.2.row.hc
  refine z_iload_n D_x_clicks_0 rfl ?_
  refine z_S1 (c_x_isSpeed (by omega)) G_x_isSpeed S_x_isSpeed lk_x_152 ⟨Nat.le_of_ble_eq_true rfl, Nat.le_of_ble_eq_true rfl⟩ (Nat.le_of_ble_eq_true rfl) D_x_clicks_1 ?_
  refine z_ifeqB (tgt := 18) D_x_clicks_4 (by decide) (fun q4 => ?_) (fun q4 => ?_)
  · refine z_iconst D_x_clicks_18 ?_
    exact z_ireturn rfl D_x_clicks_19 (pvI (by (repeat' split) <;> first | rfl | omega | (exfalso; omega)) rfl)
  · refine z_aload_n D_x_clicks_7 rfl ?_
    refine z_getW fl_x_19 (by decide) hx.1 D_x_clicks_8 ?_
    refine z_iload_n D_x_clicks_11 rfl ?_
    refine z_V1 (c0 := 10) (c_w_clicksOf hw (c_w_clicksBy hx.2.2.2.hk hx.2.2.2.hd (by omega))) G_w_clicksOf I_w_clicksOf lk_x_193 (kw hw) ⟨by decide, rfl⟩ ⟨Nat.le_of_ble_eq_true rfl, Nat.le_of_ble_eq_true rfl⟩ (Nat.le_of_ble_eq_true rfl) D_x_clicks_12 ?_
    refine z_goto (tgt := 19) D_x_clicks_15 (by decide) ?_
    exact z_ireturn rfl D_x_clicks_19 (pvI (by (repeat' split) <;> first | rfl | omega | (exfalso; omega)) rfl)

theorem c_m_clicks {h : zH} {v : Int} (hm : MI h) (r_v : -2147483648 ≤ v ∧ v ≤ 2147483647) : zC M_m_clicks [vR 39, vI v] h (pV (vI (if 1 ≤ v ∧ v ≤ 60 then clk v (h 39 2) (h 39 3) else -1)) h) := by
  refine zC.ofN 0 (by decide) (by first | decide | exact Nat.le_of_ble_eq_true rfl) ?_
  show Z M_m_clicks _ 0 [vR 39, vI v] [] h
  have hn := hm.hn
  have hnp := hm.hnp
  have ht := hm.row.ht
  have hh := hm.row.hh
  have hc := hm.row.hc
  unfold nm at ht hh hc
  refine z_iload_n D_m_clicks_0 rfl ?_
  refine z_S1 (c_m_isSpeed (by omega)) G_m_isSpeed S_m_isSpeed lk_m_169 ⟨Nat.le_of_ble_eq_true rfl, Nat.le_of_ble_eq_true rfl⟩ (Nat.le_of_ble_eq_true rfl) D_m_clicks_1 ?_
  refine z_ifeqB (tgt := 15) D_m_clicks_4 (by decide) (fun q4 => ?_) (fun q4 => ?_)
  · refine z_iconst D_m_clicks_15 ?_
    exact z_ireturn rfl D_m_clicks_16 (pvI (by (repeat' split) <;> first | rfl | omega | (exfalso; omega)) rfl)
  · refine z_aload_n D_m_clicks_7 rfl ?_
    refine z_iload_n D_m_clicks_8 rfl ?_
    refine z_V1 (c0 := 12) (c_m_clicksOf hm (by omega)) G_m_clicksOf I_m_clicksOf lk_m_175 (rfl) ⟨by decide, rfl⟩ ⟨Nat.le_of_ble_eq_true rfl, Nat.le_of_ble_eq_true rfl⟩ (Nat.le_of_ble_eq_true rfl) D_m_clicks_9 ?_
    refine z_goto (tgt := 16) D_m_clicks_12 (by decide) ?_
    exact z_ireturn rfl D_m_clicks_16 (pvI (by (repeat' split) <;> first | rfl | omega | (exfalso; omega)) rfl)

theorem c_x_stops {h : zH} {w : Nat} {v : Int} (hx : XI h w) (r_v : -2147483648 ≤ v ∧ v ≤ 2147483647) : zC M_x_stops [vR 0, vI v] h (pV (vI (if 1 ≤ v ∧ v ≤ 60 then (if h w 3 = 0 then -2 else (nw h 0 + clk v (h w 5) (h w 6)) % h w 3) else -1)) h) := by
  refine zC.ofN 0 (by decide) (by first | decide | exact Nat.le_of_ble_eq_true rfl) ?_
  show Z M_x_stops _ 0 [vR 0, vI v] [] h
  have hw := hx.2.1
  have hu := hx.2.2.1
  have hn := hx.2.2.2.hn
  have hnp := hx.2.2.2.hnp
  have ht := hx.2.2.2.row.ht
  have hh := hx.2.2.2.row.hh
  have hc := hx.2.2.2.row.hc
  refine z_iload_n D_x_stops_0 rfl ?_
  refine z_S1 (c_x_isSpeed (by omega)) G_x_isSpeed S_x_isSpeed lk_x_152 ⟨Nat.le_of_ble_eq_true rfl, Nat.le_of_ble_eq_true rfl⟩ (Nat.le_of_ble_eq_true rfl) D_x_stops_1 ?_
  refine z_ifneB (tgt := 9) D_x_stops_4 (by decide) (fun q4 => ?_) (fun q4 => ?_)
  · refine z_aload_n D_x_stops_9 rfl ?_
    refine z_getW fl_x_19 (by decide) hx.1 D_x_stops_10 ?_
    refine z_getI fl_x_155 (kw hw) rfl D_x_stops_13 ?_
    refine z_if_ne (tgt := 24) D_x_stops_16 (by decide) (by omega) (fun q16 => ?_) (fun q16 => ?_)
    · refine z_aload_n D_x_stops_24 rfl ?_
      refine z_iload_n D_x_stops_25 rfl ?_
      refine z_V1 (c0 := 11) (c_x_turnBehind hx (by omega)) G_x_turnBehind I_x_turnBehind lk_x_161 (rfl) ⟨by decide, rfl⟩ ⟨Nat.le_of_ble_eq_true rfl, Nat.le_of_ble_eq_true rfl⟩ (Nat.le_of_ble_eq_true rfl) D_x_stops_26 ?_
      exact z_ireturn rfl D_x_stops_29 (pvI (by first | (rw [if_pos q4, if_pos q16]) | (rw [if_pos q4, if_neg q16]; exact if_pos (by omega))) rfl)
    · refine z_bipush (by decide) D_x_stops_19 ?_
      refine z_goto (tgt := 29) D_x_stops_21 (by decide) ?_
      exact z_ireturn rfl D_x_stops_29 (pvI (by first | (rw [if_pos q4, if_pos q16]) | (rw [if_pos q4, if_neg q16]; exact if_pos (by omega))) rfl)
  · refine z_iconst D_x_stops_7 ?_
    exact z_ireturn rfl D_x_stops_8 (pvI (by (repeat' split) <;> first | rfl | omega | (exfalso; omega)) rfl)

theorem c_m_stops {h : zH} {v : Int} (hm : MI h) (r_v : -2147483648 ≤ v ∧ v ≤ 2147483647) : zC M_m_stops [vR 39, vI v] h (pV (vI (if 1 ≤ v ∧ v ≤ 60 then (if h 39 0 = 0 then -2 else (nm h 0 + clk v (h 39 2) (h 39 3)) % h 39 0) else -1)) h) := by
  refine zC.ofN 0 (by decide) (by first | decide | exact Nat.le_of_ble_eq_true rfl) ?_
  show Z M_m_stops _ 0 [vR 39, vI v] [] h
  have hn := hm.hn
  have hnp := hm.hnp
  have ht := hm.row.ht
  have hh := hm.row.hh
  have hc := hm.row.hc
  unfold nm at ht hh hc
  refine z_iload_n D_m_stops_0 rfl ?_
  refine z_S1 (c_m_isSpeed (by omega)) G_m_isSpeed S_m_isSpeed lk_m_169 ⟨Nat.le_of_ble_eq_true rfl, Nat.le_of_ble_eq_true rfl⟩ (Nat.le_of_ble_eq_true rfl) D_m_stops_1 ?_
  refine z_ifneB (tgt := 9) D_m_stops_4 (by decide) (fun q4 => ?_) (fun q4 => ?_)
  · refine z_aload_n D_m_stops_9 rfl ?_
    refine z_getI fl_m_73 (rfl) rfl D_m_stops_10 ?_
    refine z_if_ne (tgt := 21) D_m_stops_13 (by decide) (by omega) (fun q13 => ?_) (fun q13 => ?_)
    · refine z_aload_n D_m_stops_21 rfl ?_
      refine z_getR (q := 42) fl_m_23 (rfl) rfl (rfl) D_m_stops_22 ?_
      refine z_iconst D_m_stops_25 ?_
      refine z_iald (n := 573) (rfl) (by omega) D_m_stops_26 ?_
      refine z_aload_n D_m_stops_27 rfl ?_
      refine z_iload_n D_m_stops_28 rfl ?_
      refine z_V1 (c0 := 12) (c_m_clicksOf hm (by omega)) G_m_clicksOf I_m_clicksOf lk_m_175 (rfl) ⟨by decide, rfl⟩ ⟨Nat.le_of_ble_eq_true rfl, Nat.le_of_ble_eq_true rfl⟩ (Nat.le_of_ble_eq_true rfl) D_m_stops_29 ?_
      refine z_iadd D_m_stops_32 ?_
      refine z_aload_n D_m_stops_33 rfl ?_
      refine z_getI fl_m_73 (rfl) rfl D_m_stops_34 ?_
      refine z_irem_p D_m_stops_37 (by have := clk_in q4.2 hm.hk hm.hd; omega) (by omega) ?_
      exact z_ireturn rfl D_m_stops_38 (pvI (by first | (rw [if_pos q4, if_pos q13]) | (rw [if_pos q4, if_neg q13]; rfl)) rfl)
    · refine z_bipush (by decide) D_m_stops_16 ?_
      refine z_goto (tgt := 38) D_m_stops_18 (by decide) ?_
      exact z_ireturn rfl D_m_stops_38 (pvI (by first | (rw [if_pos q4, if_pos q13]) | (rw [if_pos q4, if_neg q13]; rfl)) rfl)
  · refine z_iconst D_m_stops_7 ?_
    exact z_ireturn rfl D_m_stops_8 (pvI (by (repeat' split) <;> first | rfl | omega | (exfalso; omega)) rfl)

theorem c_x_shade {h : zH} {w : Nat} {s : Int} {v : Int} (hx : XI h w) (r_s : -2147483648 ≤ s ∧ s ≤ 2147483647) (r_v : -2147483648 ≤ v ∧ v ≤ 2147483647) : zC M_x_shade [vR 0, vI s, vI v] h (pV (vI (if (0 ≤ s ∧ s < h w 3) ∧ (1 ≤ v ∧ v ≤ 60) then gx h w s v else -1)) h) := by
  refine zC.ofN 0 (by decide) (by first | decide | exact Nat.le_of_ble_eq_true rfl) ?_
  show Z M_x_shade _ 0 [vR 0, vI s, vI v] [] h
  have hw := hx.2.1
  have hu := hx.2.2.1
  have hn := hx.2.2.2.hn
  have hnp := hx.2.2.2.hnp
  have ht := hx.2.2.2.row.ht
  have hh := hx.2.2.2.row.hh
  have hc := hx.2.2.2.row.hc
  refine z_aload_n D_x_shade_0 rfl ?_
  refine z_getW fl_x_19 (by decide) hx.1 D_x_shade_1 ?_
  refine z_iload_n D_x_shade_4 rfl ?_
  refine z_V1 (c0 := 10) (c_w_hasSpot hw hn (by omega)) G_w_hasSpot I_w_hasSpot lk_x_122 (kw hw) ⟨by decide, rfl⟩ ⟨Nat.le_of_ble_eq_true rfl, Nat.le_of_ble_eq_true rfl⟩ (Nat.le_of_ble_eq_true rfl) D_x_shade_5 ?_
  refine z_ifeqB (tgt := 27) D_x_shade_8 (by decide) (fun q8 => ?_) (fun q8 => ?_)
  · refine z_iconst D_x_shade_27 ?_
    exact z_ireturn rfl D_x_shade_28 (pvI (by (repeat' split) <;> first | rfl | omega | (exfalso; omega)) rfl)
  · refine z_iload_n D_x_shade_11 rfl ?_
    refine z_S1 (c_x_isSpeed (by omega)) G_x_isSpeed S_x_isSpeed lk_x_152 ⟨Nat.le_of_ble_eq_true rfl, Nat.le_of_ble_eq_true rfl⟩ (Nat.le_of_ble_eq_true rfl) D_x_shade_12 ?_
    refine z_ifeqB (tgt := 27) D_x_shade_15 (by decide) (fun q15 => ?_) (fun q15 => ?_)
    · refine z_iconst D_x_shade_27 ?_
      exact z_ireturn rfl D_x_shade_28 (pvI (by (repeat' split) <;> first | rfl | omega | (exfalso; omega)) rfl)
    · refine z_aload_n D_x_shade_18 rfl ?_
      refine z_iload_n D_x_shade_19 rfl ?_
      refine z_iload_n D_x_shade_20 rfl ?_
      refine z_V2 (c0 := 11) (c_x_colourBehind hx (by omega) (by omega)) G_x_colourBehind I_x_colourBehind lk_x_196 (rfl) ⟨by decide, rfl⟩ ⟨Nat.le_of_ble_eq_true rfl, Nat.le_of_ble_eq_true rfl⟩ (Nat.le_of_ble_eq_true rfl) D_x_shade_21 ?_
      refine z_goto (tgt := 28) D_x_shade_24 (by decide) ?_
      exact z_ireturn rfl D_x_shade_28 (pvI (by (repeat' split) <;> first | rfl | omega | (exfalso; omega)) rfl)

theorem c_m_shade {h : zH} {s : Int} {v : Int} (hm : MI h) (r_s : -2147483648 ≤ s ∧ s ≤ 2147483647) (r_v : -2147483648 ≤ v ∧ v ≤ 2147483647) : zC M_m_shade [vR 39, vI s, vI v] h (pV (vI (if (0 ≤ s ∧ s < h 39 0) ∧ (1 ≤ v ∧ v ≤ 60) then gm h s v else -1)) h) := by
  refine zC.ofN 0 (by decide) (by first | decide | exact Nat.le_of_ble_eq_true rfl) ?_
  show Z M_m_shade _ 0 [vR 39, vI s, vI v] [] h
  have hn := hm.hn
  have hnp := hm.hnp
  have ht := hm.row.ht
  have hh := hm.row.hh
  have hc := hm.row.hc
  unfold nm at ht hh hc
  refine z_aload_n D_m_shade_0 rfl ?_
  refine z_iload_n D_m_shade_1 rfl ?_
  refine z_V1 (c0 := 12) (c_m_isSpot hn (by omega)) G_m_isSpot I_m_isSpot lk_m_146 (rfl) ⟨by decide, rfl⟩ ⟨Nat.le_of_ble_eq_true rfl, Nat.le_of_ble_eq_true rfl⟩ (Nat.le_of_ble_eq_true rfl) D_m_shade_2 ?_
  refine z_ifeqB (tgt := 24) D_m_shade_5 (by decide) (fun q5 => ?_) (fun q5 => ?_)
  · refine z_iconst D_m_shade_24 ?_
    exact z_ireturn rfl D_m_shade_25 (pvI (by (repeat' split) <;> first | rfl | omega | (exfalso; omega)) rfl)
  · refine z_iload_n D_m_shade_8 rfl ?_
    refine z_S1 (c_m_isSpeed (by omega)) G_m_isSpeed S_m_isSpeed lk_m_169 ⟨Nat.le_of_ble_eq_true rfl, Nat.le_of_ble_eq_true rfl⟩ (Nat.le_of_ble_eq_true rfl) D_m_shade_9 ?_
    refine z_ifeqB (tgt := 24) D_m_shade_12 (by decide) (fun q12 => ?_) (fun q12 => ?_)
    · refine z_iconst D_m_shade_24 ?_
      exact z_ireturn rfl D_m_shade_25 (pvI (by (repeat' split) <;> first | rfl | omega | (exfalso; omega)) rfl)
    · refine z_aload_n D_m_shade_15 rfl ?_
      refine z_iload_n D_m_shade_16 rfl ?_
      refine z_iload_n D_m_shade_17 rfl ?_
      refine z_V2 (c0 := 12) (c_m_shadeOf hm (by omega) (by omega)) G_m_shadeOf I_m_shadeOf lk_m_197 (rfl) ⟨by decide, rfl⟩ ⟨Nat.le_of_ble_eq_true rfl, Nat.le_of_ble_eq_true rfl⟩ (Nat.le_of_ble_eq_true rfl) D_m_shade_18 ?_
      refine z_goto (tgt := 25) D_m_shade_21 (by decide) ?_
      exact z_ireturn rfl D_m_shade_25 (pvI (by (repeat' split) <;> first | rfl | omega | (exfalso; omega)) rfl)

theorem l_m_speeds {h : zH} {s c t y : Int} (hm : MI h) (hs : 0 ≤ s ∧ s < h 39 0) (hc : 0 ≤ c ∧ c ≤ 5) : ∀ (k : Nat) (a : Int), k ≤ 60 → lstD (fun v => gm h s v == c) k a = y → Z M_m_speeds (pV (vI y) h) 47 [vR 39, vI s, vI c, vI t, vI a, vI (k : Int)] [] h := by
  intro k
  induction k with
  | zero =>
    intro a h0 hy
    refine z_iload D_m_speeds_47 rfl ?_
    refine z_if_le (tgt := 78) D_m_speeds_49 (by decide) (by omega) (fun q49 => ?_) (fun q49 => ?_)
    · refine z_iload D_m_speeds_78 rfl ?_
      exact z_ireturn rfl D_m_speeds_80 (pvI hy rfl)
    · omega
  | succ k ih =>
    intro a h0 hy
    have e : ((k + 1 : Nat) : Int) + (-1) = (k : Int) := by omega
    simp only [lstD] at hy
    refine z_iload D_m_speeds_47 rfl ?_
    refine z_if_le (tgt := 78) D_m_speeds_49 (by decide) (by omega) (fun q49 => ?_) (fun q49 => ?_)
    · omega
    · refine z_aload_n D_m_speeds_52 rfl ?_
      refine z_iload_n D_m_speeds_53 rfl ?_
      refine z_iload D_m_speeds_54 rfl ?_
      refine z_V2 (c0 := 12) (c_m_shadeOf hm (by omega) (by omega)) G_m_shadeOf I_m_shadeOf lk_m_197 (rfl) ⟨by decide, rfl⟩ ⟨Nat.le_of_ble_eq_true rfl, Nat.le_of_ble_eq_true rfl⟩ (Nat.le_of_ble_eq_true rfl) D_m_speeds_56 ?_
      refine z_iload_n D_m_speeds_59 rfl ?_
      refine z_icmp_ne (tgt := 68) D_m_speeds_60 (by decide) (by have := gm_in hm s ((k + 1 : Nat) : Int); omega) (by omega) (fun q60 => ?_) (fun q60 => ?_)
      · refine z_iload D_m_speeds_68 rfl ?_
        refine z_istore_4 D_m_speeds_70 (Nat.le_of_ble_eq_true rfl) rfl ?_
        refine z_iinc_5 D_m_speeds_72 (Nat.le_of_ble_eq_true rfl) rfl ?_
        refine z_goto (tgt := 47) D_m_speeds_75 (by decide) ?_
        rw [e]
        first
        | (rw [if_pos (by simpa using q60)] at hy; exact ih _ (by omega) hy)
        | (rw [if_neg (by simpa using q60)] at hy; exact ih _ (by omega) hy)
      · refine z_iload D_m_speeds_63 rfl ?_
        refine z_goto (tgt := 70) D_m_speeds_65 (by decide) ?_
        refine z_istore_4 D_m_speeds_70 (Nat.le_of_ble_eq_true rfl) rfl ?_
        refine z_iinc_5 D_m_speeds_72 (Nat.le_of_ble_eq_true rfl) rfl ?_
        refine z_goto (tgt := 47) D_m_speeds_75 (by decide) ?_
        rw [e]
        first
        | (rw [if_pos (by simpa using q60)] at hy; exact ih _ (by omega) hy)
        | (rw [if_neg (by simpa using q60)] at hy; exact ih _ (by omega) hy)
theorem c_x_speeds {h : zH} {w : Nat} {s : Int} {c : Int} {t : Int} (hx : XI h w) (r_s : -2147483648 ≤ s ∧ s ≤ 2147483647) (r_c : -2147483648 ≤ c ∧ c ≤ 2147483647) (r_t : -2147483648 ≤ t ∧ t ≤ 2147483647) : zC M_x_speeds [vR 0, vI s, vI c, vI t] h (pV (vI (if (0 ≤ s ∧ s < h w 3) ∧ (0 ≤ c ∧ c ≤ 5) ∧ (0 ≤ t ∧ t ≤ 1) then (if t = 0 then cntS (gx h w s) c 60 else lstU (fun v => gx h w s v == c) (-9) 60 1) else -1)) h) := by
  refine zC.ofN 0 (by decide) (by first | decide | exact Nat.le_of_ble_eq_true rfl) ?_
  show Z M_x_speeds _ 0 [vR 0, vI s, vI c, vI t] [] h
  have hw := hx.2.1
  have hu := hx.2.2.1
  have hn := hx.2.2.2.hn
  have hnp := hx.2.2.2.hnp
  have ht := hx.2.2.2.row.ht
  have hh := hx.2.2.2.row.hh
  have hc := hx.2.2.2.row.hc
  refine z_aload_n D_x_speeds_0 rfl ?_
  refine z_getW fl_x_19 (by decide) hx.1 D_x_speeds_1 ?_
  refine z_iload_n D_x_speeds_4 rfl ?_
  refine z_V1 (c0 := 10) (c_w_hasSpot hw hn (by omega)) G_w_hasSpot I_w_hasSpot lk_x_122 (kw hw) ⟨by decide, rfl⟩ ⟨Nat.le_of_ble_eq_true rfl, Nat.le_of_ble_eq_true rfl⟩ (Nat.le_of_ble_eq_true rfl) D_x_speeds_5 ?_
  refine z_ifeqB (tgt := 27) D_x_speeds_8 (by decide) (fun q8 => ?_) (fun q8 => ?_)
  · refine z_iconst D_x_speeds_27 ?_
    exact z_ireturn rfl D_x_speeds_28 (pvI (by (repeat' split) <;> first | rfl | omega | (exfalso; omega)) rfl)
  · refine z_iload_n D_x_speeds_11 rfl ?_
    refine z_S1 (c_x_isColour (by omega)) G_x_isColour S_x_isColour lk_x_199 ⟨Nat.le_of_ble_eq_true rfl, Nat.le_of_ble_eq_true rfl⟩ (Nat.le_of_ble_eq_true rfl) D_x_speeds_12 ?_
    refine z_ifeqB (tgt := 27) D_x_speeds_15 (by decide) (fun q15 => ?_) (fun q15 => ?_)
    · refine z_iconst D_x_speeds_27 ?_
      exact z_ireturn rfl D_x_speeds_28 (pvI (by (repeat' split) <;> first | rfl | omega | (exfalso; omega)) rfl)
    · refine z_iload_n D_x_speeds_18 rfl ?_
      refine z_iconst D_x_speeds_19 ?_
      refine z_iconst D_x_speeds_20 ?_
      refine z_S3 (c_x_isWithin (by omega) (by omega) (by omega)) G_x_isWithin S_x_isWithin lk_x_99 ⟨Nat.le_of_ble_eq_true rfl, Nat.le_of_ble_eq_true rfl⟩ (Nat.le_of_ble_eq_true rfl) D_x_speeds_21 ?_
      refine z_ifneB (tgt := 29) D_x_speeds_24 (by decide) (fun q24 => ?_) (fun q24 => ?_)
      · refine z_iload_n D_x_speeds_29 rfl ?_
        refine z_if_ne (tgt := 44) D_x_speeds_30 (by decide) (by omega) (fun q30 => ?_) (fun q30 => ?_)
        · refine z_aload_n D_x_speeds_44 rfl ?_
          refine z_iload_n D_x_speeds_45 rfl ?_
          refine z_iload_n D_x_speeds_46 rfl ?_
          refine z_V2 (c0 := 11) (c_x_leastSpeedFor hx (by omega) (by omega)) G_x_leastSpeedFor I_x_leastSpeedFor lk_x_206 (rfl) ⟨by decide, rfl⟩ ⟨Nat.le_of_ble_eq_true rfl, Nat.le_of_ble_eq_true rfl⟩ (Nat.le_of_ble_eq_true rfl) D_x_speeds_47 ?_
          exact z_ireturn rfl D_x_speeds_50 (pvI (by first | (rw [if_pos (by omega), if_pos (by omega)]; rfl) | (rw [if_pos (by omega), if_neg (by omega)])) rfl)
        · refine z_aload_n D_x_speeds_33 rfl ?_
          refine z_iload_n D_x_speeds_34 rfl ?_
          refine z_iload_n D_x_speeds_35 rfl ?_
          refine z_bipush (by decide) D_x_speeds_36 ?_
          refine z_V3 (c0 := 11) (c_x_speedsFor hx (by omega) (by omega) (by omega)) G_x_speedsFor I_x_speedsFor lk_x_202 (rfl) ⟨by decide, rfl⟩ ⟨Nat.le_of_ble_eq_true rfl, Nat.le_of_ble_eq_true rfl⟩ (Nat.le_of_ble_eq_true rfl) D_x_speeds_38 ?_
          refine z_goto (tgt := 50) D_x_speeds_41 (by decide) ?_
          exact z_ireturn rfl D_x_speeds_50 (pvI (by first | (rw [if_pos (by omega), if_pos (by omega)]; rfl) | (rw [if_pos (by omega), if_neg (by omega)])) rfl)
      · refine z_iconst D_x_speeds_27 ?_
        exact z_ireturn rfl D_x_speeds_28 (pvI (by (repeat' split) <;> first | rfl | omega | (exfalso; omega)) rfl)

theorem c_m_speeds {h : zH} {s : Int} {c : Int} {t : Int} (hm : MI h) (r_s : -2147483648 ≤ s ∧ s ≤ 2147483647) (r_c : -2147483648 ≤ c ∧ c ≤ 2147483647) (r_t : -2147483648 ≤ t ∧ t ≤ 2147483647) : zC M_m_speeds [vR 39, vI s, vI c, vI t] h (pV (vI (if (0 ≤ s ∧ s < h 39 0) ∧ (0 ≤ c ∧ c ≤ 5) ∧ (0 ≤ t ∧ t ≤ 1) then (if t = 0 then cntS (gm h s) c 60 else lstU (fun v => gm h s v == c) (-9) 60 1) else -1)) h) := by
  refine zC.ofN 2 (by decide) (by first | decide | exact Nat.le_of_ble_eq_true rfl) ?_
  show Z M_m_speeds _ 0 [vR 39, vI s, vI c, vI t, vU, vU] [] h
  have hn := hm.hn
  have hnp := hm.hnp
  have ht := hm.row.ht
  have hh := hm.row.hh
  have hc := hm.row.hc
  unfold nm at ht hh hc
  refine z_aload_n D_m_speeds_0 rfl ?_
  refine z_iload_n D_m_speeds_1 rfl ?_
  refine z_V1 (c0 := 12) (c_m_isSpot hn (by omega)) G_m_isSpot I_m_isSpot lk_m_146 (rfl) ⟨by decide, rfl⟩ ⟨Nat.le_of_ble_eq_true rfl, Nat.le_of_ble_eq_true rfl⟩ (Nat.le_of_ble_eq_true rfl) D_m_speeds_2 ?_
  refine z_ifeqB (tgt := 24) D_m_speeds_5 (by decide) (fun q5 => ?_) (fun q5 => ?_)
  · refine z_iconst D_m_speeds_24 ?_
    exact z_ireturn rfl D_m_speeds_25 (pvI (by (repeat' split) <;> first | rfl | omega | (exfalso; omega)) rfl)
  · refine z_iload_n D_m_speeds_8 rfl ?_
    refine z_S1 (c_m_isColour (by omega)) G_m_isColour S_m_isColour lk_m_200 ⟨Nat.le_of_ble_eq_true rfl, Nat.le_of_ble_eq_true rfl⟩ (Nat.le_of_ble_eq_true rfl) D_m_speeds_9 ?_
    refine z_ifeqB (tgt := 24) D_m_speeds_12 (by decide) (fun q12 => ?_) (fun q12 => ?_)
    · refine z_iconst D_m_speeds_24 ?_
      exact z_ireturn rfl D_m_speeds_25 (pvI (by (repeat' split) <;> first | rfl | omega | (exfalso; omega)) rfl)
    · refine z_iload_n D_m_speeds_15 rfl ?_
      refine z_iconst D_m_speeds_16 ?_
      refine z_iconst D_m_speeds_17 ?_
      refine z_S3 (c_m_in (by omega) (by omega) (by omega)) G_m_in S_m_in lk_m_69 ⟨Nat.le_of_ble_eq_true rfl, Nat.le_of_ble_eq_true rfl⟩ (Nat.le_of_ble_eq_true rfl) D_m_speeds_18 ?_
      refine z_ifneB (tgt := 26) D_m_speeds_21 (by decide) (fun q21 => ?_) (fun q21 => ?_)
      · refine z_iload_n D_m_speeds_26 rfl ?_
        refine z_if_ne (tgt := 39) D_m_speeds_27 (by decide) (by omega) (fun q27 => ?_) (fun q27 => ?_)
        · refine z_bipush (by decide) D_m_speeds_39 ?_
          refine z_istore_4 D_m_speeds_41 (Nat.le_of_ble_eq_true rfl) rfl ?_
          refine z_bipush (by decide) D_m_speeds_43 ?_
          refine z_istore_5 D_m_speeds_45 (Nat.le_of_ble_eq_true rfl) rfl ?_
          refine l_m_speeds hm (by omega) (by omega) 60 (-9) (by omega) ?_
          rw [lstD_U, if_pos (by omega), if_neg (by omega)]
        · refine z_aload_n D_m_speeds_30 rfl ?_
          refine z_iload_n D_m_speeds_31 rfl ?_
          refine z_iload_n D_m_speeds_32 rfl ?_
          refine z_bipush (by decide) D_m_speeds_33 ?_
          refine z_V3 (c0 := 12) (c_m_speedsOf hm (by omega) (by omega) (by omega)) G_m_speedsOf I_m_speedsOf lk_m_203 (rfl) ⟨by decide, rfl⟩ ⟨Nat.le_of_ble_eq_true rfl, Nat.le_of_ble_eq_true rfl⟩ (Nat.le_of_ble_eq_true rfl) D_m_speeds_35 ?_
          exact z_ireturn rfl D_m_speeds_38 (pvI (by first | (rw [if_pos (by omega), if_pos (by omega)]; rfl) | (rw [if_pos (by omega), if_neg (by omega)])) rfl)
      · refine z_iconst D_m_speeds_24 ?_
        exact z_ireturn rfl D_m_speeds_25 (pvI (by (repeat' split) <;> first | rfl | omega | (exfalso; omega)) rfl)
end
section
/-! chair, steps -/
theorem iter_invB {α : Type} {f : Int → α → α} {a : α} (I : α → Prop) (B : Int) (h0 : I a) (h1 : ∀ (i : Int) (s : α), 0 ≤ i → i < B → I s → I (f i s)) : ∀ m : Nat, (m : Int) ≤ B → I (iter f a m)
  | 0, _ => h0
  | m + 1, hm => h1 m _ (by omega) (by omega) (iter_invB I B h0 h1 m (by omega))
def stC (g : Int → Int → Int) (c i : Int) (s : Int × Int) : Int × Int := if s.2 < cntS (g i) c 60 then (i, cntS (g i) c 60) else s
def chF (g : Int → Int → Int) (c : Int) (n : Nat) : Int × Int := iter (stC g c) (-9, -9) n
theorem chF_in (g : Int → Int → Int) (c : Int) (n : Nat) (hn : (n : Int) ≤ 12) : ((chF g c n).1 = -9 ∧ (chF g c n).2 = -9) ∨ (0 ≤ (chF g c n).1 ∧ (chF g c n).1 ≤ 12 ∧ 0 ≤ (chF g c n).2 ∧ (chF g c n).2 ≤ 60) := by
  refine iter_invB (fun s : Int × Int => (s.1 = -9 ∧ s.2 = -9) ∨ (0 ≤ s.1 ∧ s.1 ≤ 12 ∧ 0 ≤ s.2 ∧ s.2 ≤ 60)) 12 (Or.inl ⟨rfl, rfl⟩) (fun i s h0 h1 h2 => ?_) n hn
  have h3 := cnt_in (g i) c 60
  unfold stC
  split
  · right; exact ⟨h0, by omega, h3.1, by omega⟩
  · exact h2
theorem chF_1 {g : Int → Int → Int} {c i : Int} (h : 0 ≤ i) : chF g c (i + 1).toNat = stC g c i (chF g c i.toNat) := iter_1 h
theorem c_x_speedsFor60 {h : zH} {w : Nat} {s c : Int} (hx : XI h w) (hs : 0 ≤ s ∧ s < h w 3) (hc : 0 ≤ c ∧ c ≤ 5) : zC M_x_speedsFor [vR 0, vI s, vI c, vI 60] h (pV (vI (cntS (gx h w s) c 60)) h) := c_x_speedsFor hx hs hc (by omega)
theorem c_m_speedsOf60 {h : zH} {s c : Int} (hm : MI h) (hs : 0 ≤ s ∧ s < h 39 0) (hc : 0 ≤ c ∧ c ≤ 5) : zC M_m_speedsOf [vR 39, vI s, vI c, vI 60] h (pV (vI (cntS (gm h s) c 60)) h) := c_m_speedsOf hm hs hc (by omega)
theorem l_x_chair {h : zH} {w : Nat} {c t y : Int} (hx : XI h w) (hc : 0 ≤ c ∧ c ≤ 5) (ht : 0 ≤ t ∧ t ≤ 1) (hY : (if t = 0 then (chF (gx h w) c (h w 3).toNat).1 else (chF (gx h w) c (h w 3).toNat).2) = y) : ∀ (k : Nat) (i : Int) (x6 : zV), 0 ≤ i → i ≤ h w 3 → h w 3 - i < k → Z M_x_chair (pV (vI y) h) 28 [vR 0, vI c, vI t, vI (chF (gx h w) c i.toNat).1, vI (chF (gx h w) c i.toNat).2, vI i, x6] [] h := by
  intro k
  induction k with
  | zero => intro i x6 h0 h1 h2; omega
  | succ k ih =>
    intro i x6 h0 h1 h2
    have hw := hx.2.1
    have hu := hx.2.2.1
    have hn := hx.2.2.2.hn
    have hnp := hx.2.2.2.hnp
    have ht0 := hx.2.2.2.row.ht
    have hh := hx.2.2.2.row.hh
    have hc0 := hx.2.2.2.row.hc
    have e := chF_1 (g := gx h w) (c := c) h0
    have hr := chF_in (gx h w) c i.toNat (by omega)
    have hq := cnt_in (gx h w i) c 60
    have q := fun y => ih (i + 1) y (by omega)
    rw [e] at q
    have hxt : i = h w 3 → chF (gx h w) c i.toNat = chF (gx h w) c (h w 3).toNat := fun e9 => by rw [e9]
    generalize chF (gx h w) c i.toNat = S at q hr hxt ⊢
    obtain ⟨b, m⟩ := S
    dsimp only at q hr hxt ⊢
    unfold stC at q
    dsimp only at q
    refine z_iload D_x_chair_28 rfl ?_
    refine z_aload_n D_x_chair_30 rfl ?_
    refine z_getW fl_x_19 (by decide) hx.1 D_x_chair_31 ?_
    refine z_getI fl_x_155 (kw hw) rfl D_x_chair_34 ?_
    refine z_icmp_ge (tgt := 77) D_x_chair_37 (by decide) (by omega) (by omega) (fun q37 => ?_) (fun q37 => ?_)
    · refine z_iload_n D_x_chair_77 rfl ?_
      refine z_if_ne (tgt := 85) D_x_chair_78 (by decide) (by omega) (fun q78 => ?_) (fun q78 => ?_)
      · refine z_iload D_x_chair_85 rfl ?_
        exact z_ireturn rfl D_x_chair_87 (pvI (by rw [← hY, ← hxt (by omega)]; (repeat' split) <;> first | rfl | omega | (exfalso; omega)) rfl)
      · refine z_iload_n D_x_chair_81 rfl ?_
        refine z_goto (tgt := 87) D_x_chair_82 (by decide) ?_
        exact z_ireturn rfl D_x_chair_87 (pvI (by rw [← hY, ← hxt (by omega)]; (repeat' split) <;> first | rfl | omega | (exfalso; omega)) rfl)
    · refine z_aload_n D_x_chair_40 rfl ?_
      refine z_iload D_x_chair_41 rfl ?_
      refine z_iload_n D_x_chair_43 rfl ?_
      refine z_bipush (by decide) D_x_chair_44 ?_
      refine z_V3 (c0 := 11) (c_x_speedsFor60 hx (by omega) (by omega)) G_x_speedsFor I_x_speedsFor lk_x_202 (rfl) ⟨by decide, rfl⟩ ⟨Nat.le_of_ble_eq_true rfl, Nat.le_of_ble_eq_true rfl⟩ (Nat.le_of_ble_eq_true rfl) D_x_chair_46 ?_
      refine z_istore_6 D_x_chair_49 (Nat.le_of_ble_eq_true rfl) rfl ?_
      refine z_iload_n D_x_chair_51 rfl ?_
      refine z_bipush (by decide) D_x_chair_52 ?_
      refine z_icmp_eq (tgt := 64) D_x_chair_54 (by decide) (by omega) (by omega) (fun q54 => ?_) (fun q54 => ?_)
      · refine z_iload D_x_chair_64 rfl ?_
        refine z_istore_3 D_x_chair_66 (Nat.le_of_ble_eq_true rfl) rfl ?_
        refine z_iload D_x_chair_67 rfl ?_
        refine z_istore_4 D_x_chair_69 (Nat.le_of_ble_eq_true rfl) rfl ?_
        refine z_iinc_5 D_x_chair_71 (Nat.le_of_ble_eq_true rfl) rfl ?_
        refine z_goto (tgt := 28) D_x_chair_74 (by decide) ?_
        first
        | (rw [if_pos (by omega)] at q; exact q _ (by omega) (by omega))
        | (rw [if_neg (by omega)] at q; exact q _ (by omega) (by omega))
      · refine z_iload D_x_chair_57 rfl ?_
        refine z_iload D_x_chair_59 rfl ?_
        refine z_icmp_le (tgt := 71) D_x_chair_61 (by decide) (by omega) (by omega) (fun q61 => ?_) (fun q61 => ?_)
        · refine z_iinc_5 D_x_chair_71 (Nat.le_of_ble_eq_true rfl) rfl ?_
          refine z_goto (tgt := 28) D_x_chair_74 (by decide) ?_
          first
          | (rw [if_pos (by omega)] at q; exact q _ (by omega) (by omega))
          | (rw [if_neg (by omega)] at q; exact q _ (by omega) (by omega))
        · refine z_iload D_x_chair_64 rfl ?_
          refine z_istore_3 D_x_chair_66 (Nat.le_of_ble_eq_true rfl) rfl ?_
          refine z_iload D_x_chair_67 rfl ?_
          refine z_istore_4 D_x_chair_69 (Nat.le_of_ble_eq_true rfl) rfl ?_
          refine z_iinc_5 D_x_chair_71 (Nat.le_of_ble_eq_true rfl) rfl ?_
          refine z_goto (tgt := 28) D_x_chair_74 (by decide) ?_
          first
          | (rw [if_pos (by omega)] at q; exact q _ (by omega) (by omega))
          | (rw [if_neg (by omega)] at q; exact q _ (by omega) (by omega))
theorem c_x_chair {h : zH} {w : Nat} {c t : Int} (hx : XI h w) (r_c : -2147483648 ≤ c ∧ c ≤ 2147483647) (r_t : -2147483648 ≤ t ∧ t ≤ 2147483647) : zC M_x_chair [vR 0, vI c, vI t] h (pV (vI (if (0 ≤ c ∧ c ≤ 5) ∧ (0 ≤ t ∧ t ≤ 1) then (if t = 0 then (chF (gx h w) c (h w 3).toNat).1 else (chF (gx h w) c (h w 3).toNat).2) else -1)) h) := by
  refine zC.ofN 4 (by decide) (by first | decide | exact Nat.le_of_ble_eq_true rfl) ?_
  show Z M_x_chair _ 0 [vR 0, vI c, vI t, vU, vU, vU, vU] [] h
  refine z_iload_n D_x_chair_0 rfl ?_
  refine z_S1 (c_x_isColour (by omega)) G_x_isColour S_x_isColour lk_x_199 ⟨Nat.le_of_ble_eq_true rfl, Nat.le_of_ble_eq_true rfl⟩ (Nat.le_of_ble_eq_true rfl) D_x_chair_1 ?_
  refine z_ifeqB (tgt := 16) D_x_chair_4 (by decide) (fun q4 => ?_) (fun q4 => ?_)
  · refine z_iconst D_x_chair_16 ?_
    exact z_ireturn rfl D_x_chair_17 (pvI (by (repeat' split) <;> first | rfl | omega | (exfalso; omega)) rfl)
  · refine z_iload_n D_x_chair_7 rfl ?_
    refine z_iconst D_x_chair_8 ?_
    refine z_iconst D_x_chair_9 ?_
    refine z_S3 (c_x_isWithin (by omega) (by omega) (by omega)) G_x_isWithin S_x_isWithin lk_x_99 ⟨Nat.le_of_ble_eq_true rfl, Nat.le_of_ble_eq_true rfl⟩ (Nat.le_of_ble_eq_true rfl) D_x_chair_10 ?_
    refine z_ifneB (tgt := 18) D_x_chair_13 (by decide) (fun q13 => ?_) (fun q13 => ?_)
    · refine z_bipush (by decide) D_x_chair_18 ?_
      refine z_istore_3 D_x_chair_20 (Nat.le_of_ble_eq_true rfl) rfl ?_
      refine z_bipush (by decide) D_x_chair_21 ?_
      refine z_istore_4 D_x_chair_23 (Nat.le_of_ble_eq_true rfl) rfl ?_
      refine z_iconst D_x_chair_25 ?_
      refine z_istore_5 D_x_chair_26 (Nat.le_of_ble_eq_true rfl) rfl ?_
      rw [if_pos (by omega)]
      have hn := hx.2.2.2.hn
      exact l_x_chair hx (by omega) (by omega) rfl (13 : Nat) 0 vU (by omega) (by omega) (by omega)
    · refine z_iconst D_x_chair_16 ?_
      exact z_ireturn rfl D_x_chair_17 (pvI (by (repeat' split) <;> first | rfl | omega | (exfalso; omega)) rfl)

theorem l_m_chair {h : zH} {c t y : Int} (hm : MI h) (hc : 0 ≤ c ∧ c ≤ 5) (ht : 0 ≤ t ∧ t ≤ 1) (hY : (if t = 0 then (chF (gm h) c (h 39 0).toNat).1 else (chF (gm h) c (h 39 0).toNat).2) = y) : ∀ (k : Nat) (i : Int) (x6 : zV), 0 ≤ i → i ≤ h 39 0 → h 39 0 - i < k → Z M_m_chair (pV (vI y) h) 28 [vR 39, vI c, vI t, vI (chF (gm h) c i.toNat).1, vI (chF (gm h) c i.toNat).2, vI i, x6] [] h := by
  intro k
  induction k with
  | zero => intro i x6 h0 h1 h2; omega
  | succ k ih =>
    intro i x6 h0 h1 h2
    have hn := hm.hn
    have hnp := hm.hnp
    have ht0 := hm.row.ht
    have hh := hm.row.hh
    have hc0 := hm.row.hc
    unfold nm at ht0 hh hc0
    have e := chF_1 (g := gm h) (c := c) h0
    have hr := chF_in (gm h) c i.toNat (by omega)
    have hq := cnt_in (gm h i) c 60
    have q := fun y => ih (i + 1) y (by omega)
    rw [e] at q
    have hxt : i = h 39 0 → chF (gm h) c i.toNat = chF (gm h) c (h 39 0).toNat := fun e9 => by rw [e9]
    generalize chF (gm h) c i.toNat = S at q hr hxt ⊢
    obtain ⟨b, m⟩ := S
    dsimp only at q hr hxt ⊢
    unfold stC at q
    dsimp only at q
    refine z_iload D_m_chair_28 rfl ?_
    refine z_aload_n D_m_chair_30 rfl ?_
    refine z_getI fl_m_73 (rfl) rfl D_m_chair_31 ?_
    refine z_icmp_ge (tgt := 84) D_m_chair_34 (by decide) (by omega) (by omega) (fun q34 => ?_) (fun q34 => ?_)
    · refine z_iload_n D_m_chair_84 rfl ?_
      refine z_if_ne (tgt := 92) D_m_chair_85 (by decide) (by omega) (fun q85 => ?_) (fun q85 => ?_)
      · refine z_iload D_m_chair_92 rfl ?_
        exact z_ireturn rfl D_m_chair_94 (pvI (by rw [← hY, ← hxt (by omega)]; (repeat' split) <;> first | rfl | omega | (exfalso; omega)) rfl)
      · refine z_iload_n D_m_chair_88 rfl ?_
        refine z_goto (tgt := 94) D_m_chair_89 (by decide) ?_
        exact z_ireturn rfl D_m_chair_94 (pvI (by rw [← hY, ← hxt (by omega)]; (repeat' split) <;> first | rfl | omega | (exfalso; omega)) rfl)
    · refine z_aload_n D_m_chair_37 rfl ?_
      refine z_iload D_m_chair_38 rfl ?_
      refine z_iload_n D_m_chair_40 rfl ?_
      refine z_bipush (by decide) D_m_chair_41 ?_
      refine z_V3 (c0 := 12) (c_m_speedsOf60 hm (by omega) (by omega)) G_m_speedsOf I_m_speedsOf lk_m_203 (rfl) ⟨by decide, rfl⟩ ⟨Nat.le_of_ble_eq_true rfl, Nat.le_of_ble_eq_true rfl⟩ (Nat.le_of_ble_eq_true rfl) D_m_chair_43 ?_
      refine z_istore_6 D_m_chair_46 (Nat.le_of_ble_eq_true rfl) rfl ?_
      refine z_iload D_m_chair_48 rfl ?_
      refine z_iload D_m_chair_50 rfl ?_
      refine z_icmp_le (tgt := 60) D_m_chair_52 (by decide) (by omega) (by omega) (fun q52 => ?_) (fun q52 => ?_)
      · refine z_iload_n D_m_chair_60 rfl ?_
        refine z_istore_3 D_m_chair_61 (Nat.le_of_ble_eq_true rfl) rfl ?_
        refine z_iload D_m_chair_62 rfl ?_
        refine z_iload D_m_chair_64 rfl ?_
        refine z_icmp_le (tgt := 74) D_m_chair_66 (by decide) (by omega) (by omega) (fun q66 => ?_) (fun q66 => ?_)
        · refine z_iload D_m_chair_74 rfl ?_
          refine z_istore_4 D_m_chair_76 (Nat.le_of_ble_eq_true rfl) rfl ?_
          refine z_iinc_5 D_m_chair_78 (Nat.le_of_ble_eq_true rfl) rfl ?_
          refine z_goto (tgt := 28) D_m_chair_81 (by decide) ?_
          first
          | (exfalso; omega)
          | (rw [if_pos (by omega)] at q; exact q _ (by omega) (by omega))
          | (rw [if_neg (by omega)] at q; exact q _ (by omega) (by omega))
        · refine z_iload D_m_chair_69 rfl ?_
          refine z_goto (tgt := 76) D_m_chair_71 (by decide) ?_
          refine z_istore_4 D_m_chair_76 (Nat.le_of_ble_eq_true rfl) rfl ?_
          refine z_iinc_5 D_m_chair_78 (Nat.le_of_ble_eq_true rfl) rfl ?_
          refine z_goto (tgt := 28) D_m_chair_81 (by decide) ?_
          first
          | (exfalso; omega)
          | (rw [if_pos (by omega)] at q; exact q _ (by omega) (by omega))
          | (rw [if_neg (by omega)] at q; exact q _ (by omega) (by omega))
      · refine z_iload D_m_chair_55 rfl ?_
        refine z_goto (tgt := 61) D_m_chair_57 (by decide) ?_
        refine z_istore_3 D_m_chair_61 (Nat.le_of_ble_eq_true rfl) rfl ?_
        refine z_iload D_m_chair_62 rfl ?_
        refine z_iload D_m_chair_64 rfl ?_
        refine z_icmp_le (tgt := 74) D_m_chair_66 (by decide) (by omega) (by omega) (fun q66 => ?_) (fun q66 => ?_)
        · refine z_iload D_m_chair_74 rfl ?_
          refine z_istore_4 D_m_chair_76 (Nat.le_of_ble_eq_true rfl) rfl ?_
          refine z_iinc_5 D_m_chair_78 (Nat.le_of_ble_eq_true rfl) rfl ?_
          refine z_goto (tgt := 28) D_m_chair_81 (by decide) ?_
          first
          | (exfalso; omega)
          | (rw [if_pos (by omega)] at q; exact q _ (by omega) (by omega))
          | (rw [if_neg (by omega)] at q; exact q _ (by omega) (by omega))
        · refine z_iload D_m_chair_69 rfl ?_
          refine z_goto (tgt := 76) D_m_chair_71 (by decide) ?_
          refine z_istore_4 D_m_chair_76 (Nat.le_of_ble_eq_true rfl) rfl ?_
          refine z_iinc_5 D_m_chair_78 (Nat.le_of_ble_eq_true rfl) rfl ?_
          refine z_goto (tgt := 28) D_m_chair_81 (by decide) ?_
          first
          | (exfalso; omega)
          | (rw [if_pos (by omega)] at q; exact q _ (by omega) (by omega))
          | (rw [if_neg (by omega)] at q; exact q _ (by omega) (by omega))
theorem c_m_chair {h : zH} {c t : Int} (hm : MI h) (r_c : -2147483648 ≤ c ∧ c ≤ 2147483647) (r_t : -2147483648 ≤ t ∧ t ≤ 2147483647) : zC M_m_chair [vR 39, vI c, vI t] h (pV (vI (if (0 ≤ c ∧ c ≤ 5) ∧ (0 ≤ t ∧ t ≤ 1) then (if t = 0 then (chF (gm h) c (h 39 0).toNat).1 else (chF (gm h) c (h 39 0).toNat).2) else -1)) h) := by
  refine zC.ofN 4 (by decide) (by first | decide | exact Nat.le_of_ble_eq_true rfl) ?_
  show Z M_m_chair _ 0 [vR 39, vI c, vI t, vU, vU, vU, vU] [] h
  refine z_iload_n D_m_chair_0 rfl ?_
  refine z_S1 (c_m_isColour (by omega)) G_m_isColour S_m_isColour lk_m_200 ⟨Nat.le_of_ble_eq_true rfl, Nat.le_of_ble_eq_true rfl⟩ (Nat.le_of_ble_eq_true rfl) D_m_chair_1 ?_
  refine z_ifeqB (tgt := 16) D_m_chair_4 (by decide) (fun q4 => ?_) (fun q4 => ?_)
  · refine z_iconst D_m_chair_16 ?_
    exact z_ireturn rfl D_m_chair_17 (pvI (by (repeat' split) <;> first | rfl | omega | (exfalso; omega)) rfl)
  · refine z_iload_n D_m_chair_7 rfl ?_
    refine z_iconst D_m_chair_8 ?_
    refine z_iconst D_m_chair_9 ?_
    refine z_S3 (c_m_in (by omega) (by omega) (by omega)) G_m_in S_m_in lk_m_69 ⟨Nat.le_of_ble_eq_true rfl, Nat.le_of_ble_eq_true rfl⟩ (Nat.le_of_ble_eq_true rfl) D_m_chair_10 ?_
    refine z_ifneB (tgt := 18) D_m_chair_13 (by decide) (fun q13 => ?_) (fun q13 => ?_)
    · refine z_bipush (by decide) D_m_chair_18 ?_
      refine z_istore_3 D_m_chair_20 (Nat.le_of_ble_eq_true rfl) rfl ?_
      refine z_bipush (by decide) D_m_chair_21 ?_
      refine z_istore_4 D_m_chair_23 (Nat.le_of_ble_eq_true rfl) rfl ?_
      refine z_iconst D_m_chair_25 ?_
      refine z_istore_5 D_m_chair_26 (Nat.le_of_ble_eq_true rfl) rfl ?_
      rw [if_pos (by omega)]
      have hn := hm.hn
      exact l_m_chair hm (by omega) (by omega) rfl (13 : Nat) 0 vU (by omega) (by omega) (by omega)
    · refine z_iconst D_m_chair_16 ?_
      exact z_ireturn rfl D_m_chair_17 (pvI (by (repeat' split) <;> first | rfl | omega | (exfalso; omega)) rfl)

def wayF (n f s : Int) : Int := min (rnd n (s - f)) (rnd n (f - s))
def okS (N : Int → Int) (np p s : Int) : Prop := whoX N np s = -1 ∨ whoX N np s = p
theorem emod_neg1 {x n : Int} (h1 : -n ≤ x) (h2 : x < 0) : x % n = x + n := by
  have : x % n = (x + n) % n := by simp
  rw [this, Int.emod_eq_of_lt (by omega) (by omega)]
theorem wayF_eq {n f s : Int} (hf : 0 ≤ f ∧ f < n) (hs : 0 ≤ s ∧ s < n) : (s - f + n) % n = (s - f) % n ∧ 0 ≤ (s - f) % n ∧ (s - f) % n < n ∧ wayF n f s = if (s - f) % n < n - (s - f) % n then (s - f) % n else n - (s - f) % n := by
  have h0 : 0 < n := by omega
  unfold wayF rnd
  rw [if_pos h0, if_pos h0]
  refine ⟨by simp, (emod_in h0).1, (emod_in h0).2, ?_⟩
  by_cases hd : s = f
  · subst hd
    simp
    omega
  · by_cases hl : s < f
    · rw [emod_neg1 (x := s - f) (by omega) (by omega), Int.emod_eq_of_lt (a := f - s) (by omega) (by omega)]
      split <;> omega
    · rw [emod_neg1 (x := f - s) (by omega) (by omega), Int.emod_eq_of_lt (a := s - f) (by omega) (by omega)]
      split <;> omega
theorem wayF_in {n f s : Int} (hf : 0 ≤ f ∧ f < n) (hs : 0 ≤ s ∧ s < n) : 0 ≤ wayF n f s ∧ wayF n f s ≤ n := by
  have := wayF_eq hf hs
  rw [this.2.2.2]
  split <;> omega
def stS (N : Int → Int) (g : Int → Int → Int) (np n p c v i : Int) (s : Int × Int) : Int × Int := if (whoX N np i = -1 ∨ whoX N np i = p) ∧ g i v = c ∧ (s.1 < 0 ∨ wayF n (N (4 + p)) i < s.2) then (i, wayF n (N (4 + p)) i) else s
def spF (N : Int → Int) (g : Int → Int → Int) (np n p c v : Int) (m : Nat) : Int × Int := iter (stS N g np n p c v) (-9, 0) m
theorem spF_1 {N : Int → Int} {g : Int → Int → Int} {np n p c v i : Int} (h : 0 ≤ i) : spF N g np n p c v (i + 1).toNat = stS N g np n p c v i (spF N g np n p c v i.toNat) := iter_1 h
theorem spF_in {N : Int → Int} {g : Int → Int → Int} {np n p c v : Int} (hn : n ≤ 12) (hp : 0 ≤ N (4 + p) ∧ N (4 + p) < n) (m : Nat) (hm : (m : Int) ≤ n) : ((spF N g np n p c v m).1 = -9 ∧ (spF N g np n p c v m).2 = 0) ∨ (0 ≤ (spF N g np n p c v m).1 ∧ (spF N g np n p c v m).1 ≤ 12 ∧ 0 ≤ (spF N g np n p c v m).2 ∧ (spF N g np n p c v m).2 ≤ 12) := by
  refine iter_invB (fun s : Int × Int => (s.1 = -9 ∧ s.2 = 0) ∨ (0 ≤ s.1 ∧ s.1 ≤ 12 ∧ 0 ≤ s.2 ∧ s.2 ≤ 12)) n (Or.inl ⟨rfl, rfl⟩) (fun i s h0 h1 h2 => ?_) m hm
  unfold stS
  split
  · have := wayF_in (n := n) hp (s := i) ⟨h0, h1⟩
    right; exact ⟨h0, by dsimp only; omega, this.1, by dsimp only; omega⟩
  · exact h2
theorem who_in {n np : Int} {N : Int → Int} (h : RowOK n np N) (hnp : 0 ≤ np) (s : Int) : -1 ≤ whoX N np s ∧ (whoX N np s < np ∨ whoX N np s = -1) ∧ -9 ≤ whoM N np s ∧ (whoM N np s < np ∨ whoM N np s = -9) ∧ ((whoM N np s < 0) ↔ whoX N np s = -1) ∧ (0 ≤ whoM N np s → whoM N np s = whoX N np s) := by
  rcases who_eq h hnp s with ⟨h1, h2, -⟩ | ⟨h1, h2, h3, -⟩ <;> omega
theorem l_x_steps {h : zH} {w : Nat} {p c v t y : Int} (hx : XI h w) (hp : 0 ≤ p ∧ p < h w 4) (hc : 0 ≤ c ∧ c ≤ 5) (hv : 1 ≤ v ∧ v ≤ 60) (ht : 0 ≤ t ∧ t ≤ 1) (hY : (if (spF (nw h) (gx h w) (h w 4) (h w 3) p c v (h w 3).toNat).1 < 0 ∨ t = 1 then (spF (nw h) (gx h w) (h w 4) (h w 3) p c v (h w 3).toNat).1 else (spF (nw h) (gx h w) (h w 4) (h w 3) p c v (h w 3).toNat).2) = y) : ∀ (k : Nat) (i : Int) (y1 y2 y3 : zV), (vlong y1 = false ∧ vlong y2 = false ∧ vlong y3 = false) → 0 ≤ i → i ≤ h w 3 → h w 3 - i < k → Z M_x_steps (pV (vI y) h) 60 [vR 0, vI p, vI c, vI v, vI t, vI (nw h (4 + p)), vI (if (spF (nw h) (gx h w) (h w 4) (h w 3) p c v i.toNat).1 < 0 then -9 else (spF (nw h) (gx h w) (h w 4) (h w 3) p c v i.toNat).2), vI (spF (nw h) (gx h w) (h w 4) (h w 3) p c v i.toNat).1, vI i, y1, y2, y3] [] h := by
  intro k
  induction k with
  | zero => intro i y1 y2 y3 hy h0 h1 h2; omega
  | succ k ih =>
    intro i y1 y2 y3 hy h0 h1 h2
    have hw := hx.2.1
    have hu := hx.2.2.1
    have hn := hx.2.2.2.hn
    have hnp := hx.2.2.2.hnp
    have ht0 := hx.2.2.2.row.ht
    have hh := hx.2.2.2.row.hh
    have hc0 := hx.2.2.2.row.hc
    have hsp := hx.2.2.2.row.hs hp.1 hp.2
    have hwho := who_in hx.2.2.2.row hnp.1 i
    have hg := gx_in hx i v
    have hway := fun q => wayF_eq (n := h w 3) (s := i) hsp ⟨h0, q⟩
    have hwin := fun q => wayF_in (n := h w 3) (s := i) hsp ⟨h0, q⟩
    have e := spF_1 (N := nw h) (g := gx h w) (np := h w 4) (n := h w 3) (p := p) (c := c) (v := v) h0
    have hr := spF_in (N := nw h) (g := gx h w) (np := h w 4) (c := c) (v := v) hn.2 hsp i.toNat (by omega)
    have q := fun y1 y2 y3 yy => ih (i + 1) y1 y2 y3 yy (by omega)
    rw [e] at q
    have hxt : i = h w 3 → spF (nw h) (gx h w) (h w 4) (h w 3) p c v i.toNat = spF (nw h) (gx h w) (h w 4) (h w 3) p c v (h w 3).toNat := fun e9 => by rw [e9]
    generalize spF (nw h) (gx h w) (h w 4) (h w 3) p c v i.toNat = S at q hr hxt ⊢
    obtain ⟨b, m⟩ := S
    dsimp only at hr hxt ⊢
    have hT : ((whoX (nw h) (h w 4) i = -1 ∨ whoX (nw h) (h w 4) i = p) ∧ gx h w i v = c ∧ (b < 0 ∨ wayF (h w 3) (nw h (4 + p)) i < m)) → stS (nw h) (gx h w) (h w 4) (h w 3) p c v i (b, m) = (i, wayF (h w 3) (nw h (4 + p)) i) := fun c9 => if_pos c9
    have hF : ¬ ((whoX (nw h) (h w 4) i = -1 ∨ whoX (nw h) (h w 4) i = p) ∧ gx h w i v = c ∧ (b < 0 ∨ wayF (h w 3) (nw h (4 + p)) i < m)) → stS (nw h) (gx h w) (h w 4) (h w 3) p c v i (b, m) = (b, m) := fun c9 => if_neg c9
    obtain ⟨fw, eb⟩ : ∃ fw : Int, fw = if b < 0 then -9 else m := ⟨_, rfl⟩
    rw [← eb]
    have hfw : (b < 0 ∧ fw = -9) ∨ (0 ≤ b ∧ fw = m) := by rw [eb]; split <;> omega
    refine z_iload D_x_steps_60 rfl ?_
    refine z_aload_n D_x_steps_62 rfl ?_
    refine z_getW fl_x_19 (by decide) hx.1 D_x_steps_63 ?_
    refine z_getI fl_x_155 (kw hw) rfl D_x_steps_66 ?_
    refine z_icmp_ge (tgt := 156) D_x_steps_69 (by decide) (by omega) (by omega) (fun q69 => ?_) (fun q69 => ?_)
    · refine z_iload D_x_steps_156 rfl ?_
      refine z_if_ne (tgt := 166) D_x_steps_158 (by decide) (by omega) (fun q158 => ?_) (fun q158 => ?_)
      · refine z_iload D_x_steps_166 rfl ?_
        exact z_ireturn rfl D_x_steps_168 (pvI (by rw [← hY, ← hxt (by omega)]; dsimp only; (repeat' split) <;> first | rfl | omega | (exfalso; omega)) rfl)
      · refine z_iload D_x_steps_161 rfl ?_
        refine z_goto (tgt := 168) D_x_steps_163 (by decide) ?_
        exact z_ireturn rfl D_x_steps_168 (pvI (by rw [← hY, ← hxt (by omega)]; dsimp only; (repeat' split) <;> first | rfl | omega | (exfalso; omega)) rfl)
    · refine z_aload_n D_x_steps_72 rfl ?_
      refine z_iload D_x_steps_73 rfl ?_
      refine z_V1 (c0 := 11) (c_x_whoIsOn hx (by omega)) G_x_whoIsOn I_x_whoIsOn lk_x_171 (rfl) ⟨by decide, rfl⟩ ⟨Nat.le_of_ble_eq_true rfl, Nat.le_of_ble_eq_true rfl⟩ (Nat.le_of_ble_eq_true rfl) D_x_steps_75 ?_
      refine z_istore_9 D_x_steps_78 (Nat.le_of_ble_eq_true rfl) rfl ?_
      refine z_iload D_x_steps_80 rfl ?_
      refine z_iconst D_x_steps_82 ?_
      refine z_icmp_eq (tgt := 92) D_x_steps_83 (by decide) (by omega) (by omega) (fun q83 => ?_) (fun q83 => ?_)
      · refine z_iconst D_x_steps_92 ?_
        refine z_goto (tgt := 97) D_x_steps_93 (by decide) ?_
        refine z_istore_10 D_x_steps_97 (Nat.le_of_ble_eq_true rfl) rfl ?_
        refine z_iload D_x_steps_99 rfl ?_
        refine z_if_eq (tgt := 150) D_x_steps_101 (by decide) (by decide) (fun q => absurd q (by decide)) (fun _ => ?_)
        refine z_aload_n D_x_steps_104 rfl ?_
        refine z_iload D_x_steps_105 rfl ?_
        refine z_iload_n D_x_steps_107 rfl ?_
        refine z_V2 (c0 := 11) (c_x_colourBehind hx (by omega) (by omega)) G_x_colourBehind I_x_colourBehind lk_x_196 (rfl) ⟨by decide, rfl⟩ ⟨Nat.le_of_ble_eq_true rfl, Nat.le_of_ble_eq_true rfl⟩ (Nat.le_of_ble_eq_true rfl) D_x_steps_108 ?_
        refine z_iload_n D_x_steps_111 rfl ?_
        refine z_icmp_ne (tgt := 150) D_x_steps_112 (by decide) (by omega) (by omega) (fun q112 => ?_) (fun q112 => ?_)
        · refine z_iinc_8 D_x_steps_150 (Nat.le_of_ble_eq_true rfl) rfl ?_
          refine z_goto (tgt := 60) D_x_steps_153 (by decide) ?_
          first
          | (rw [hT (by omega)] at q; dsimp only at q; rw [if_neg (by omega)] at q; exact q _ _ _ ⟨rfl, rfl, by first | rfl | exact hy.2.2⟩ (by omega) (by omega))
          | (rw [hF (by omega)] at q; dsimp only at q; rw [← eb] at q; exact q _ _ _ ⟨rfl, rfl, by first | rfl | exact hy.2.2⟩ (by omega) (by omega))
        · refine z_aload_n D_x_steps_115 rfl ?_
          refine z_getW fl_x_19 (by decide) hx.1 D_x_steps_116 ?_
          refine z_iload D_x_steps_119 rfl ?_
          refine z_iload D_x_steps_121 rfl ?_
          refine z_V2 (c0 := 10) (c_w_wayRound (s := nw h (4 + p)) (t := i) hw hn (by omega) (by omega)) G_w_wayRound I_w_wayRound lk_x_209 (kw hw) ⟨by decide, rfl⟩ ⟨Nat.le_of_ble_eq_true rfl, Nat.le_of_ble_eq_true rfl⟩ (Nat.le_of_ble_eq_true rfl) D_x_steps_123 ?_
          have hwin := hwin (by omega)
          show Z _ _ _ _ (vI (wayF (h w 3) (nw h (4 + p)) i) :: []) _
          refine z_istore_11 D_x_steps_126 (Nat.le_of_ble_eq_true rfl) rfl ?_
          refine z_iload D_x_steps_128 rfl ?_
          refine z_bipush (by decide) D_x_steps_130 ?_
          refine z_icmp_eq (tgt := 142) D_x_steps_132 (by decide) (by omega) (by omega) (fun q132 => ?_) (fun q132 => ?_)
          · refine z_iload D_x_steps_142 rfl ?_
            refine z_istore_6 D_x_steps_144 (Nat.le_of_ble_eq_true rfl) rfl ?_
            refine z_iload D_x_steps_146 rfl ?_
            refine z_istore_7 D_x_steps_148 (Nat.le_of_ble_eq_true rfl) rfl ?_
            refine z_iinc_8 D_x_steps_150 (Nat.le_of_ble_eq_true rfl) rfl ?_
            refine z_goto (tgt := 60) D_x_steps_153 (by decide) ?_
            first
            | (rw [hT (by omega)] at q; dsimp only at q; rw [if_neg (by omega)] at q; exact q _ _ _ ⟨rfl, rfl, by first | rfl | exact hy.2.2⟩ (by omega) (by omega))
            | (rw [hF (by omega)] at q; dsimp only at q; rw [← eb] at q; exact q _ _ _ ⟨rfl, rfl, by first | rfl | exact hy.2.2⟩ (by omega) (by omega))
          · refine z_iload D_x_steps_135 rfl ?_
            refine z_iload D_x_steps_137 rfl ?_
            refine z_icmp_ge (tgt := 150) D_x_steps_139 (by decide) (by omega) (by omega) (fun q139 => ?_) (fun q139 => ?_)
            · refine z_iinc_8 D_x_steps_150 (Nat.le_of_ble_eq_true rfl) rfl ?_
              refine z_goto (tgt := 60) D_x_steps_153 (by decide) ?_
              first
              | (rw [hT (by omega)] at q; dsimp only at q; rw [if_neg (by omega)] at q; exact q _ _ _ ⟨rfl, rfl, by first | rfl | exact hy.2.2⟩ (by omega) (by omega))
              | (rw [hF (by omega)] at q; dsimp only at q; rw [← eb] at q; exact q _ _ _ ⟨rfl, rfl, by first | rfl | exact hy.2.2⟩ (by omega) (by omega))
            · refine z_iload D_x_steps_142 rfl ?_
              refine z_istore_6 D_x_steps_144 (Nat.le_of_ble_eq_true rfl) rfl ?_
              refine z_iload D_x_steps_146 rfl ?_
              refine z_istore_7 D_x_steps_148 (Nat.le_of_ble_eq_true rfl) rfl ?_
              refine z_iinc_8 D_x_steps_150 (Nat.le_of_ble_eq_true rfl) rfl ?_
              refine z_goto (tgt := 60) D_x_steps_153 (by decide) ?_
              first
              | (rw [hT (by omega)] at q; dsimp only at q; rw [if_neg (by omega)] at q; exact q _ _ _ ⟨rfl, rfl, by first | rfl | exact hy.2.2⟩ (by omega) (by omega))
              | (rw [hF (by omega)] at q; dsimp only at q; rw [← eb] at q; exact q _ _ _ ⟨rfl, rfl, by first | rfl | exact hy.2.2⟩ (by omega) (by omega))
      · refine z_iload D_x_steps_86 rfl ?_
        refine z_iload_n D_x_steps_88 rfl ?_
        refine z_icmp_ne (tgt := 96) D_x_steps_89 (by decide) (by omega) (by omega) (fun q89 => ?_) (fun q89 => ?_)
        · refine z_iconst D_x_steps_96 ?_
          refine z_istore_10 D_x_steps_97 (Nat.le_of_ble_eq_true rfl) rfl ?_
          refine z_iload D_x_steps_99 rfl ?_
          refine z_if_eq (tgt := 150) D_x_steps_101 (by decide) (by decide) (fun _ => ?_) (fun q => absurd q (by decide))
          refine z_iinc_8 D_x_steps_150 (Nat.le_of_ble_eq_true rfl) rfl ?_
          refine z_goto (tgt := 60) D_x_steps_153 (by decide) ?_
          first
          | (rw [hT (by omega)] at q; dsimp only at q; rw [if_neg (by omega)] at q; exact q _ _ _ ⟨rfl, rfl, by first | rfl | exact hy.2.2⟩ (by omega) (by omega))
          | (rw [hF (by omega)] at q; dsimp only at q; rw [← eb] at q; exact q _ _ _ ⟨rfl, rfl, by first | rfl | exact hy.2.2⟩ (by omega) (by omega))
        · refine z_iconst D_x_steps_92 ?_
          refine z_goto (tgt := 97) D_x_steps_93 (by decide) ?_
          refine z_istore_10 D_x_steps_97 (Nat.le_of_ble_eq_true rfl) rfl ?_
          refine z_iload D_x_steps_99 rfl ?_
          refine z_if_eq (tgt := 150) D_x_steps_101 (by decide) (by decide) (fun q => absurd q (by decide)) (fun _ => ?_)
          refine z_aload_n D_x_steps_104 rfl ?_
          refine z_iload D_x_steps_105 rfl ?_
          refine z_iload_n D_x_steps_107 rfl ?_
          refine z_V2 (c0 := 11) (c_x_colourBehind hx (by omega) (by omega)) G_x_colourBehind I_x_colourBehind lk_x_196 (rfl) ⟨by decide, rfl⟩ ⟨Nat.le_of_ble_eq_true rfl, Nat.le_of_ble_eq_true rfl⟩ (Nat.le_of_ble_eq_true rfl) D_x_steps_108 ?_
          refine z_iload_n D_x_steps_111 rfl ?_
          refine z_icmp_ne (tgt := 150) D_x_steps_112 (by decide) (by omega) (by omega) (fun q112 => ?_) (fun q112 => ?_)
          · refine z_iinc_8 D_x_steps_150 (Nat.le_of_ble_eq_true rfl) rfl ?_
            refine z_goto (tgt := 60) D_x_steps_153 (by decide) ?_
            first
            | (rw [hT (by omega)] at q; dsimp only at q; rw [if_neg (by omega)] at q; exact q _ _ _ ⟨rfl, rfl, by first | rfl | exact hy.2.2⟩ (by omega) (by omega))
            | (rw [hF (by omega)] at q; dsimp only at q; rw [← eb] at q; exact q _ _ _ ⟨rfl, rfl, by first | rfl | exact hy.2.2⟩ (by omega) (by omega))
          · refine z_aload_n D_x_steps_115 rfl ?_
            refine z_getW fl_x_19 (by decide) hx.1 D_x_steps_116 ?_
            refine z_iload D_x_steps_119 rfl ?_
            refine z_iload D_x_steps_121 rfl ?_
            refine z_V2 (c0 := 10) (c_w_wayRound (s := nw h (4 + p)) (t := i) hw hn (by omega) (by omega)) G_w_wayRound I_w_wayRound lk_x_209 (kw hw) ⟨by decide, rfl⟩ ⟨Nat.le_of_ble_eq_true rfl, Nat.le_of_ble_eq_true rfl⟩ (Nat.le_of_ble_eq_true rfl) D_x_steps_123 ?_
            have hwin := hwin (by omega)
            show Z _ _ _ _ (vI (wayF (h w 3) (nw h (4 + p)) i) :: []) _
            refine z_istore_11 D_x_steps_126 (Nat.le_of_ble_eq_true rfl) rfl ?_
            refine z_iload D_x_steps_128 rfl ?_
            refine z_bipush (by decide) D_x_steps_130 ?_
            refine z_icmp_eq (tgt := 142) D_x_steps_132 (by decide) (by omega) (by omega) (fun q132 => ?_) (fun q132 => ?_)
            · refine z_iload D_x_steps_142 rfl ?_
              refine z_istore_6 D_x_steps_144 (Nat.le_of_ble_eq_true rfl) rfl ?_
              refine z_iload D_x_steps_146 rfl ?_
              refine z_istore_7 D_x_steps_148 (Nat.le_of_ble_eq_true rfl) rfl ?_
              refine z_iinc_8 D_x_steps_150 (Nat.le_of_ble_eq_true rfl) rfl ?_
              refine z_goto (tgt := 60) D_x_steps_153 (by decide) ?_
              first
              | (rw [hT (by omega)] at q; dsimp only at q; rw [if_neg (by omega)] at q; exact q _ _ _ ⟨rfl, rfl, by first | rfl | exact hy.2.2⟩ (by omega) (by omega))
              | (rw [hF (by omega)] at q; dsimp only at q; rw [← eb] at q; exact q _ _ _ ⟨rfl, rfl, by first | rfl | exact hy.2.2⟩ (by omega) (by omega))
            · refine z_iload D_x_steps_135 rfl ?_
              refine z_iload D_x_steps_137 rfl ?_
              refine z_icmp_ge (tgt := 150) D_x_steps_139 (by decide) (by omega) (by omega) (fun q139 => ?_) (fun q139 => ?_)
              · refine z_iinc_8 D_x_steps_150 (Nat.le_of_ble_eq_true rfl) rfl ?_
                refine z_goto (tgt := 60) D_x_steps_153 (by decide) ?_
                first
                | (rw [hT (by omega)] at q; dsimp only at q; rw [if_neg (by omega)] at q; exact q _ _ _ ⟨rfl, rfl, by first | rfl | exact hy.2.2⟩ (by omega) (by omega))
                | (rw [hF (by omega)] at q; dsimp only at q; rw [← eb] at q; exact q _ _ _ ⟨rfl, rfl, by first | rfl | exact hy.2.2⟩ (by omega) (by omega))
              · refine z_iload D_x_steps_142 rfl ?_
                refine z_istore_6 D_x_steps_144 (Nat.le_of_ble_eq_true rfl) rfl ?_
                refine z_iload D_x_steps_146 rfl ?_
                refine z_istore_7 D_x_steps_148 (Nat.le_of_ble_eq_true rfl) rfl ?_
                refine z_iinc_8 D_x_steps_150 (Nat.le_of_ble_eq_true rfl) rfl ?_
                refine z_goto (tgt := 60) D_x_steps_153 (by decide) ?_
                first
                | (rw [hT (by omega)] at q; dsimp only at q; rw [if_neg (by omega)] at q; exact q _ _ _ ⟨rfl, rfl, by first | rfl | exact hy.2.2⟩ (by omega) (by omega))
                | (rw [hF (by omega)] at q; dsimp only at q; rw [← eb] at q; exact q _ _ _ ⟨rfl, rfl, by first | rfl | exact hy.2.2⟩ (by omega) (by omega))
theorem c_x_steps {h : zH} {w : Nat} {p c v t : Int} (hx : XI h w) (r_p : -2147483648 ≤ p ∧ p ≤ 2147483647) (r_c : -2147483648 ≤ c ∧ c ≤ 2147483647) (r_v : -2147483648 ≤ v ∧ v ≤ 2147483647) (r_t : -2147483648 ≤ t ∧ t ≤ 2147483647) : zC M_x_steps [vR 0, vI p, vI c, vI v, vI t] h (pV (vI (if ((0 ≤ p ∧ p < h w 4) ∧ (0 ≤ c ∧ c ≤ 5) ∧ (1 ≤ v ∧ v ≤ 60) ∧ (0 ≤ t ∧ t ≤ 1)) then (if (spF (nw h) (gx h w) (h w 4) (h w 3) p c v (h w 3).toNat).1 < 0 ∨ t = 1 then (spF (nw h) (gx h w) (h w 4) (h w 3) p c v (h w 3).toNat).1 else (spF (nw h) (gx h w) (h w 4) (h w 3) p c v (h w 3).toNat).2) else -1)) h) := by
  refine zC.ofN 7 (by decide) (by first | decide | exact Nat.le_of_ble_eq_true rfl) ?_
  show Z M_x_steps _ 0 [vR 0, vI p, vI c, vI v, vI t, vU, vU, vU, vU, vU, vU, vU] [] h
  have hw := hx.2.1
  have hu := hx.2.2.1
  have hn := hx.2.2.2.hn
  have hnp := hx.2.2.2.hnp
  have ht := hx.2.2.2.row.ht
  have hh := hx.2.2.2.row.hh
  have hc := hx.2.2.2.row.hc
  refine z_aload_n D_x_steps_0 rfl ?_
  refine z_getW fl_x_19 (by decide) hx.1 D_x_steps_1 ?_
  refine z_iload_n D_x_steps_4 rfl ?_
  refine z_V1 (c0 := 10) (c_w_hasPerson hw hnp (by omega)) G_w_hasPerson I_w_hasPerson lk_x_128 (kw hw) ⟨by decide, rfl⟩ ⟨Nat.le_of_ble_eq_true rfl, Nat.le_of_ble_eq_true rfl⟩ (Nat.le_of_ble_eq_true rfl) D_x_steps_5 ?_
  refine z_ifeqB (tgt := 35) D_x_steps_8 (by decide) (fun q8 => ?_) (fun q8 => ?_)
  · refine z_iconst D_x_steps_35 ?_
    exact z_ireturn rfl D_x_steps_36 (pvI (by (repeat' split) <;> first | rfl | omega | (exfalso; omega)) rfl)
  · refine z_iload_n D_x_steps_11 rfl ?_
    refine z_S1 (c_x_isColour (by omega)) G_x_isColour S_x_isColour lk_x_199 ⟨Nat.le_of_ble_eq_true rfl, Nat.le_of_ble_eq_true rfl⟩ (Nat.le_of_ble_eq_true rfl) D_x_steps_12 ?_
    refine z_ifeqB (tgt := 35) D_x_steps_15 (by decide) (fun q15 => ?_) (fun q15 => ?_)
    · refine z_iconst D_x_steps_35 ?_
      exact z_ireturn rfl D_x_steps_36 (pvI (by (repeat' split) <;> first | rfl | omega | (exfalso; omega)) rfl)
    · refine z_iload_n D_x_steps_18 rfl ?_
      refine z_S1 (c_x_isSpeed (by omega)) G_x_isSpeed S_x_isSpeed lk_x_152 ⟨Nat.le_of_ble_eq_true rfl, Nat.le_of_ble_eq_true rfl⟩ (Nat.le_of_ble_eq_true rfl) D_x_steps_19 ?_
      refine z_ifeqB (tgt := 35) D_x_steps_22 (by decide) (fun q22 => ?_) (fun q22 => ?_)
      · refine z_iconst D_x_steps_35 ?_
        exact z_ireturn rfl D_x_steps_36 (pvI (by (repeat' split) <;> first | rfl | omega | (exfalso; omega)) rfl)
      · refine z_iload D_x_steps_25 rfl ?_
        refine z_iconst D_x_steps_27 ?_
        refine z_iconst D_x_steps_28 ?_
        refine z_S3 (c_x_isWithin (by omega) (by omega) (by omega)) G_x_isWithin S_x_isWithin lk_x_99 ⟨Nat.le_of_ble_eq_true rfl, Nat.le_of_ble_eq_true rfl⟩ (Nat.le_of_ble_eq_true rfl) D_x_steps_29 ?_
        refine z_ifneB (tgt := 37) D_x_steps_32 (by decide) (fun q32 => ?_) (fun q32 => ?_)
        · refine z_aload_n D_x_steps_37 rfl ?_
          refine z_getR (q := 11) fl_x_29 (rfl) rfl (rfl) D_x_steps_38 ?_
          refine z_iconst D_x_steps_41 ?_
          refine z_iload_n D_x_steps_42 rfl ?_
          refine z_iadd D_x_steps_43 ?_
          refine z_V1 (c0 := 5) (c_d_value hu (by omega)) G_d_value I_d_value lk_x_131 (rfl) ⟨by decide, rfl⟩ ⟨Nat.le_of_ble_eq_true rfl, Nat.le_of_ble_eq_true rfl⟩ (Nat.le_of_ble_eq_true rfl) D_x_steps_44 ?_
          refine z_istore_5 D_x_steps_47 (Nat.le_of_ble_eq_true rfl) rfl ?_
          refine z_bipush (by decide) D_x_steps_49 ?_
          refine z_istore_6 D_x_steps_51 (Nat.le_of_ble_eq_true rfl) rfl ?_
          refine z_bipush (by decide) D_x_steps_53 ?_
          refine z_istore_7 D_x_steps_55 (Nat.le_of_ble_eq_true rfl) rfl ?_
          refine z_iconst D_x_steps_57 ?_
          refine z_istore_8 D_x_steps_58 (Nat.le_of_ble_eq_true rfl) rfl ?_
          rw [if_pos (by omega)]
          exact l_x_steps hx (by omega) (by omega) (by omega) (by omega) rfl (13 : Nat) 0 vU vU vU ⟨rfl, rfl, rfl⟩ (by omega) (by omega) (by omega)
        · refine z_iconst D_x_steps_35 ?_
          exact z_ireturn rfl D_x_steps_36 (pvI (by (repeat' split) <;> first | rfl | omega | (exfalso; omega)) rfl)

theorem l_m_steps {h : zH} {p c v t y : Int} (hm : MI h) (hp : 0 ≤ p ∧ p < h 39 4) (hc : 0 ≤ c ∧ c ≤ 5) (hv : 1 ≤ v ∧ v ≤ 60) (ht : 0 ≤ t ∧ t ≤ 1) (hY : (if (spF (nm h) (gm h) (h 39 4) (h 39 0) p c v (h 39 0).toNat).1 < 0 ∨ t = 1 then (spF (nm h) (gm h) (h 39 4) (h 39 0) p c v (h 39 0).toNat).1 else (spF (nm h) (gm h) (h 39 4) (h 39 0) p c v (h 39 0).toNat).2) = y) : ∀ (k : Nat) (i : Int) (y1 y2 y3 y4 : zV), (vlong y1 = false ∧ vlong y2 = false ∧ vlong y3 = false) → 0 ≤ i → i ≤ h 39 0 → h 39 0 - i < k → Z M_m_steps (pV (vI y) h) 44 [vR 39, vI p, vI c, vI v, vI t, vI (spF (nm h) (gm h) (h 39 4) (h 39 0) p c v i.toNat).1, vI (spF (nm h) (gm h) (h 39 4) (h 39 0) p c v i.toNat).2, vI i, y1, y2, y3, y4] [] h := by
  intro k
  induction k with
  | zero => intro i y1 y2 y3 y4 hy h0 h1 h2; omega
  | succ k ih =>
    intro i y1 y2 y3 y4 hy h0 h1 h2
    have hn := hm.hn
    have hnp := hm.hnp
    have ht0 := hm.row.ht
    have hh := hm.row.hh
    have hc0 := hm.row.hc
    unfold nm at ht0 hh hc0
    have hsp := hm.row.hs hp.1 hp.2
    have hwho := who_in hm.row hnp.1 i
    have hg := gm_in hm i v
    have hway := fun q => wayF_eq (n := h 39 0) (s := i) hsp ⟨h0, q⟩
    have hwin := fun q => wayF_in (n := h 39 0) (s := i) hsp ⟨h0, q⟩
    have e := spF_1 (N := nm h) (g := gm h) (np := h 39 4) (n := h 39 0) (p := p) (c := c) (v := v) h0
    have hr := spF_in (N := nm h) (g := gm h) (np := h 39 4) (c := c) (v := v) hn.2 hsp i.toNat (by omega)
    have q := fun y1 y2 y3 y4 yy => ih (i + 1) y1 y2 y3 y4 yy (by omega)
    rw [e] at q
    have hxt : i = h 39 0 → spF (nm h) (gm h) (h 39 4) (h 39 0) p c v i.toNat = spF (nm h) (gm h) (h 39 4) (h 39 0) p c v (h 39 0).toNat := fun e9 => by rw [e9]
    generalize spF (nm h) (gm h) (h 39 4) (h 39 0) p c v i.toNat = S at q hr hxt ⊢
    obtain ⟨b, m⟩ := S
    dsimp only at hr hxt ⊢
    have hT : ((whoX (nm h) (h 39 4) i = -1 ∨ whoX (nm h) (h 39 4) i = p) ∧ gm h i v = c ∧ (b < 0 ∨ wayF (h 39 0) (nm h (4 + p)) i < m)) → stS (nm h) (gm h) (h 39 4) (h 39 0) p c v i (b, m) = (i, wayF (h 39 0) (nm h (4 + p)) i) := fun c9 => if_pos c9
    have hF : ¬ ((whoX (nm h) (h 39 4) i = -1 ∨ whoX (nm h) (h 39 4) i = p) ∧ gm h i v = c ∧ (b < 0 ∨ wayF (h 39 0) (nm h (4 + p)) i < m)) → stS (nm h) (gm h) (h 39 4) (h 39 0) p c v i (b, m) = (b, m) := fun c9 => if_neg c9
    unfold nm at hsp
    refine z_iload D_m_steps_44 rfl ?_
    refine z_aload_n D_m_steps_46 rfl ?_
    refine z_getI fl_m_73 (rfl) rfl D_m_steps_47 ?_
    refine z_icmp_ge (tgt := 185) D_m_steps_50 (by decide) (by omega) (by omega) (fun q50 => ?_) (fun q50 => ?_)
    · refine z_iload D_m_steps_185 rfl ?_
      refine z_if_lt (tgt := 196) D_m_steps_187 (by decide) (by omega) (fun q187 => ?_) (fun q187 => ?_)
      · refine z_iload D_m_steps_196 rfl ?_
        refine z_goto (tgt := 203) D_m_steps_198 (by decide) ?_
        exact z_ireturn rfl D_m_steps_203 (pvI (by rw [← hY, ← hxt (by omega)]; dsimp only; (repeat' split) <;> first | rfl | omega | (exfalso; omega)) rfl)
      · refine z_iload D_m_steps_190 rfl ?_
        refine z_iconst D_m_steps_192 ?_
        refine z_icmp_ne (tgt := 201) D_m_steps_193 (by decide) (by omega) (by omega) (fun q193 => ?_) (fun q193 => ?_)
        · refine z_iload D_m_steps_201 rfl ?_
          exact z_ireturn rfl D_m_steps_203 (pvI (by rw [← hY, ← hxt (by omega)]; dsimp only; (repeat' split) <;> first | rfl | omega | (exfalso; omega)) rfl)
        · refine z_iload D_m_steps_196 rfl ?_
          refine z_goto (tgt := 203) D_m_steps_198 (by decide) ?_
          exact z_ireturn rfl D_m_steps_203 (pvI (by rw [← hY, ← hxt (by omega)]; dsimp only; (repeat' split) <;> first | rfl | omega | (exfalso; omega)) rfl)
    · refine z_iload D_m_steps_53 rfl ?_
      refine z_aload_n D_m_steps_55 rfl ?_
      refine z_getR (q := 42) fl_m_23 (rfl) rfl (rfl) D_m_steps_56 ?_
      refine z_iconst D_m_steps_59 ?_
      refine z_iload_n D_m_steps_60 rfl ?_
      refine z_iadd D_m_steps_61 ?_
      refine z_iald (n := 573) (rfl) (by omega) D_m_steps_62 ?_
      refine z_isub D_m_steps_63 ?_
      refine z_aload_n D_m_steps_64 rfl ?_
      refine z_getI fl_m_73 (rfl) rfl D_m_steps_65 ?_
      refine z_iadd D_m_steps_68 ?_
      refine z_aload_n D_m_steps_69 rfl ?_
      refine z_getI fl_m_73 (rfl) rfl D_m_steps_70 ?_
      refine z_irem_p D_m_steps_73 (by omega) (by omega) ?_
      have hway := hway (by omega)
      have hwin := hwin (by omega)
      show Z _ _ _ _ (vI ((i - nm h (4 + p) + h 39 0) % h 39 0) :: []) _
      rw [hway.1]
      refine z_istore_8 D_m_steps_74 (Nat.le_of_ble_eq_true rfl) rfl ?_
      refine z_iload D_m_steps_76 rfl ?_
      refine z_aload_n D_m_steps_78 rfl ?_
      refine z_getI fl_m_73 (rfl) rfl D_m_steps_79 ?_
      refine z_iload D_m_steps_82 rfl ?_
      refine z_isub D_m_steps_84 ?_
      refine z_icmp_ge (tgt := 93) D_m_steps_85 (by decide) (by omega) (by omega) (fun q85 => ?_) (fun q85 => ?_)
      · refine z_aload_n D_m_steps_93 rfl ?_
        refine z_getI fl_m_73 (rfl) rfl D_m_steps_94 ?_
        refine z_iload D_m_steps_97 rfl ?_
        refine z_isub D_m_steps_99 ?_
        first
        | rw [← hway.2.2.2.trans (if_pos (by omega))]
        | rw [← hway.2.2.2.trans (if_neg (by omega))]
        refine z_istore_9 D_m_steps_100 (Nat.le_of_ble_eq_true rfl) rfl ?_
        refine z_aload_n D_m_steps_102 rfl ?_
        refine z_iload D_m_steps_103 rfl ?_
        refine z_V1 (c0 := 12) (c_m_whoHas hm (by omega)) G_m_whoHas I_m_whoHas lk_m_181 (rfl) ⟨by decide, rfl⟩ ⟨Nat.le_of_ble_eq_true rfl, Nat.le_of_ble_eq_true rfl⟩ (Nat.le_of_ble_eq_true rfl) D_m_steps_105 ?_
        refine z_istore_10 D_m_steps_108 (Nat.le_of_ble_eq_true rfl) rfl ?_
        refine z_iload D_m_steps_110 rfl ?_
        refine z_if_lt (tgt := 121) D_m_steps_112 (by decide) (by omega) (fun q112 => ?_) (fun q112 => ?_)
        · refine z_aload_n D_m_steps_121 rfl ?_
          refine z_iload D_m_steps_122 rfl ?_
          refine z_iload_n D_m_steps_124 rfl ?_
          refine z_V2 (c0 := 12) (c_m_shadeOf hm (by omega) (by omega)) G_m_shadeOf I_m_shadeOf lk_m_197 (rfl) ⟨by decide, rfl⟩ ⟨Nat.le_of_ble_eq_true rfl, Nat.le_of_ble_eq_true rfl⟩ (Nat.le_of_ble_eq_true rfl) D_m_steps_125 ?_
          refine z_iload_n D_m_steps_128 rfl ?_
          refine z_icmp_ne (tgt := 148) D_m_steps_129 (by decide) (by omega) (by omega) (fun q129 => ?_) (fun q129 => ?_)
          · refine z_iconst D_m_steps_148 ?_
            refine z_istore_11 D_m_steps_149 (Nat.le_of_ble_eq_true rfl) rfl ?_
            refine z_iload D_m_steps_151 rfl ?_
            refine z_if_eq (tgt := 161) D_m_steps_153 (by decide) (by decide) (fun _ => ?_) (fun q => absurd q (by decide))
            refine z_iload D_m_steps_161 rfl ?_
            refine z_istore_5 D_m_steps_163 (Nat.le_of_ble_eq_true rfl) rfl ?_
            refine z_iload D_m_steps_165 rfl ?_
            refine z_if_eq (tgt := 175) D_m_steps_167 (by decide) (by decide) (fun _ => ?_) (fun q => absurd q (by decide))
            refine z_iload D_m_steps_175 rfl ?_
            refine z_istore_6 D_m_steps_177 (Nat.le_of_ble_eq_true rfl) rfl ?_
            refine z_iinc_7 D_m_steps_179 (Nat.le_of_ble_eq_true rfl) rfl ?_
            refine z_goto (tgt := 44) D_m_steps_182 (by decide) ?_
            first
            | (rw [hT (by omega)] at q; exact q _ _ _ _ ⟨rfl, rfl, rfl⟩ (by omega) (by omega))
            | (rw [hF (by omega)] at q; exact q _ _ _ _ ⟨rfl, rfl, rfl⟩ (by omega) (by omega))
          · refine z_iload D_m_steps_132 rfl ?_
            refine z_if_lt (tgt := 144) D_m_steps_134 (by decide) (by omega) (fun q134 => ?_) (fun q134 => ?_)
            · refine z_iconst D_m_steps_144 ?_
              refine z_goto (tgt := 149) D_m_steps_145 (by decide) ?_
              refine z_istore_11 D_m_steps_149 (Nat.le_of_ble_eq_true rfl) rfl ?_
              refine z_iload D_m_steps_151 rfl ?_
              refine z_if_eq (tgt := 161) D_m_steps_153 (by decide) (by decide) (fun q => absurd q (by decide)) (fun _ => ?_)
              refine z_iload D_m_steps_156 rfl ?_
              refine z_goto (tgt := 163) D_m_steps_158 (by decide) ?_
              refine z_istore_5 D_m_steps_163 (Nat.le_of_ble_eq_true rfl) rfl ?_
              refine z_iload D_m_steps_165 rfl ?_
              refine z_if_eq (tgt := 175) D_m_steps_167 (by decide) (by decide) (fun q => absurd q (by decide)) (fun _ => ?_)
              refine z_iload D_m_steps_170 rfl ?_
              refine z_goto (tgt := 177) D_m_steps_172 (by decide) ?_
              refine z_istore_6 D_m_steps_177 (Nat.le_of_ble_eq_true rfl) rfl ?_
              refine z_iinc_7 D_m_steps_179 (Nat.le_of_ble_eq_true rfl) rfl ?_
              refine z_goto (tgt := 44) D_m_steps_182 (by decide) ?_
              first
              | (rw [hT (by omega)] at q; exact q _ _ _ _ ⟨rfl, rfl, rfl⟩ (by omega) (by omega))
              | (rw [hF (by omega)] at q; exact q _ _ _ _ ⟨rfl, rfl, rfl⟩ (by omega) (by omega))
            · refine z_iload D_m_steps_137 rfl ?_
              refine z_iload D_m_steps_139 rfl ?_
              refine z_icmp_ge (tgt := 148) D_m_steps_141 (by decide) (by omega) (by omega) (fun q141 => ?_) (fun q141 => ?_)
              · refine z_iconst D_m_steps_148 ?_
                refine z_istore_11 D_m_steps_149 (Nat.le_of_ble_eq_true rfl) rfl ?_
                refine z_iload D_m_steps_151 rfl ?_
                refine z_if_eq (tgt := 161) D_m_steps_153 (by decide) (by decide) (fun _ => ?_) (fun q => absurd q (by decide))
                refine z_iload D_m_steps_161 rfl ?_
                refine z_istore_5 D_m_steps_163 (Nat.le_of_ble_eq_true rfl) rfl ?_
                refine z_iload D_m_steps_165 rfl ?_
                refine z_if_eq (tgt := 175) D_m_steps_167 (by decide) (by decide) (fun _ => ?_) (fun q => absurd q (by decide))
                refine z_iload D_m_steps_175 rfl ?_
                refine z_istore_6 D_m_steps_177 (Nat.le_of_ble_eq_true rfl) rfl ?_
                refine z_iinc_7 D_m_steps_179 (Nat.le_of_ble_eq_true rfl) rfl ?_
                refine z_goto (tgt := 44) D_m_steps_182 (by decide) ?_
                first
                | (rw [hT (by omega)] at q; exact q _ _ _ _ ⟨rfl, rfl, rfl⟩ (by omega) (by omega))
                | (rw [hF (by omega)] at q; exact q _ _ _ _ ⟨rfl, rfl, rfl⟩ (by omega) (by omega))
              · refine z_iconst D_m_steps_144 ?_
                refine z_goto (tgt := 149) D_m_steps_145 (by decide) ?_
                refine z_istore_11 D_m_steps_149 (Nat.le_of_ble_eq_true rfl) rfl ?_
                refine z_iload D_m_steps_151 rfl ?_
                refine z_if_eq (tgt := 161) D_m_steps_153 (by decide) (by decide) (fun q => absurd q (by decide)) (fun _ => ?_)
                refine z_iload D_m_steps_156 rfl ?_
                refine z_goto (tgt := 163) D_m_steps_158 (by decide) ?_
                refine z_istore_5 D_m_steps_163 (Nat.le_of_ble_eq_true rfl) rfl ?_
                refine z_iload D_m_steps_165 rfl ?_
                refine z_if_eq (tgt := 175) D_m_steps_167 (by decide) (by decide) (fun q => absurd q (by decide)) (fun _ => ?_)
                refine z_iload D_m_steps_170 rfl ?_
                refine z_goto (tgt := 177) D_m_steps_172 (by decide) ?_
                refine z_istore_6 D_m_steps_177 (Nat.le_of_ble_eq_true rfl) rfl ?_
                refine z_iinc_7 D_m_steps_179 (Nat.le_of_ble_eq_true rfl) rfl ?_
                refine z_goto (tgt := 44) D_m_steps_182 (by decide) ?_
                first
                | (rw [hT (by omega)] at q; exact q _ _ _ _ ⟨rfl, rfl, rfl⟩ (by omega) (by omega))
                | (rw [hF (by omega)] at q; exact q _ _ _ _ ⟨rfl, rfl, rfl⟩ (by omega) (by omega))
        · refine z_iload D_m_steps_115 rfl ?_
          refine z_iload_n D_m_steps_117 rfl ?_
          refine z_icmp_ne (tgt := 148) D_m_steps_118 (by decide) (by omega) (by omega) (fun q118 => ?_) (fun q118 => ?_)
          · refine z_iconst D_m_steps_148 ?_
            refine z_istore_11 D_m_steps_149 (Nat.le_of_ble_eq_true rfl) rfl ?_
            refine z_iload D_m_steps_151 rfl ?_
            refine z_if_eq (tgt := 161) D_m_steps_153 (by decide) (by decide) (fun _ => ?_) (fun q => absurd q (by decide))
            refine z_iload D_m_steps_161 rfl ?_
            refine z_istore_5 D_m_steps_163 (Nat.le_of_ble_eq_true rfl) rfl ?_
            refine z_iload D_m_steps_165 rfl ?_
            refine z_if_eq (tgt := 175) D_m_steps_167 (by decide) (by decide) (fun _ => ?_) (fun q => absurd q (by decide))
            refine z_iload D_m_steps_175 rfl ?_
            refine z_istore_6 D_m_steps_177 (Nat.le_of_ble_eq_true rfl) rfl ?_
            refine z_iinc_7 D_m_steps_179 (Nat.le_of_ble_eq_true rfl) rfl ?_
            refine z_goto (tgt := 44) D_m_steps_182 (by decide) ?_
            first
            | (rw [hT (by omega)] at q; exact q _ _ _ _ ⟨rfl, rfl, rfl⟩ (by omega) (by omega))
            | (rw [hF (by omega)] at q; exact q _ _ _ _ ⟨rfl, rfl, rfl⟩ (by omega) (by omega))
          · refine z_aload_n D_m_steps_121 rfl ?_
            refine z_iload D_m_steps_122 rfl ?_
            refine z_iload_n D_m_steps_124 rfl ?_
            refine z_V2 (c0 := 12) (c_m_shadeOf hm (by omega) (by omega)) G_m_shadeOf I_m_shadeOf lk_m_197 (rfl) ⟨by decide, rfl⟩ ⟨Nat.le_of_ble_eq_true rfl, Nat.le_of_ble_eq_true rfl⟩ (Nat.le_of_ble_eq_true rfl) D_m_steps_125 ?_
            refine z_iload_n D_m_steps_128 rfl ?_
            refine z_icmp_ne (tgt := 148) D_m_steps_129 (by decide) (by omega) (by omega) (fun q129 => ?_) (fun q129 => ?_)
            · refine z_iconst D_m_steps_148 ?_
              refine z_istore_11 D_m_steps_149 (Nat.le_of_ble_eq_true rfl) rfl ?_
              refine z_iload D_m_steps_151 rfl ?_
              refine z_if_eq (tgt := 161) D_m_steps_153 (by decide) (by decide) (fun _ => ?_) (fun q => absurd q (by decide))
              refine z_iload D_m_steps_161 rfl ?_
              refine z_istore_5 D_m_steps_163 (Nat.le_of_ble_eq_true rfl) rfl ?_
              refine z_iload D_m_steps_165 rfl ?_
              refine z_if_eq (tgt := 175) D_m_steps_167 (by decide) (by decide) (fun _ => ?_) (fun q => absurd q (by decide))
              refine z_iload D_m_steps_175 rfl ?_
              refine z_istore_6 D_m_steps_177 (Nat.le_of_ble_eq_true rfl) rfl ?_
              refine z_iinc_7 D_m_steps_179 (Nat.le_of_ble_eq_true rfl) rfl ?_
              refine z_goto (tgt := 44) D_m_steps_182 (by decide) ?_
              first
              | (rw [hT (by omega)] at q; exact q _ _ _ _ ⟨rfl, rfl, rfl⟩ (by omega) (by omega))
              | (rw [hF (by omega)] at q; exact q _ _ _ _ ⟨rfl, rfl, rfl⟩ (by omega) (by omega))
            · refine z_iload D_m_steps_132 rfl ?_
              refine z_if_lt (tgt := 144) D_m_steps_134 (by decide) (by omega) (fun q134 => ?_) (fun q134 => ?_)
              · refine z_iconst D_m_steps_144 ?_
                refine z_goto (tgt := 149) D_m_steps_145 (by decide) ?_
                refine z_istore_11 D_m_steps_149 (Nat.le_of_ble_eq_true rfl) rfl ?_
                refine z_iload D_m_steps_151 rfl ?_
                refine z_if_eq (tgt := 161) D_m_steps_153 (by decide) (by decide) (fun q => absurd q (by decide)) (fun _ => ?_)
                refine z_iload D_m_steps_156 rfl ?_
                refine z_goto (tgt := 163) D_m_steps_158 (by decide) ?_
                refine z_istore_5 D_m_steps_163 (Nat.le_of_ble_eq_true rfl) rfl ?_
                refine z_iload D_m_steps_165 rfl ?_
                refine z_if_eq (tgt := 175) D_m_steps_167 (by decide) (by decide) (fun q => absurd q (by decide)) (fun _ => ?_)
                refine z_iload D_m_steps_170 rfl ?_
                refine z_goto (tgt := 177) D_m_steps_172 (by decide) ?_
                refine z_istore_6 D_m_steps_177 (Nat.le_of_ble_eq_true rfl) rfl ?_
                refine z_iinc_7 D_m_steps_179 (Nat.le_of_ble_eq_true rfl) rfl ?_
                refine z_goto (tgt := 44) D_m_steps_182 (by decide) ?_
                first
                | (rw [hT (by omega)] at q; exact q _ _ _ _ ⟨rfl, rfl, rfl⟩ (by omega) (by omega))
                | (rw [hF (by omega)] at q; exact q _ _ _ _ ⟨rfl, rfl, rfl⟩ (by omega) (by omega))
              · refine z_iload D_m_steps_137 rfl ?_
                refine z_iload D_m_steps_139 rfl ?_
                refine z_icmp_ge (tgt := 148) D_m_steps_141 (by decide) (by omega) (by omega) (fun q141 => ?_) (fun q141 => ?_)
                · refine z_iconst D_m_steps_148 ?_
                  refine z_istore_11 D_m_steps_149 (Nat.le_of_ble_eq_true rfl) rfl ?_
                  refine z_iload D_m_steps_151 rfl ?_
                  refine z_if_eq (tgt := 161) D_m_steps_153 (by decide) (by decide) (fun _ => ?_) (fun q => absurd q (by decide))
                  refine z_iload D_m_steps_161 rfl ?_
                  refine z_istore_5 D_m_steps_163 (Nat.le_of_ble_eq_true rfl) rfl ?_
                  refine z_iload D_m_steps_165 rfl ?_
                  refine z_if_eq (tgt := 175) D_m_steps_167 (by decide) (by decide) (fun _ => ?_) (fun q => absurd q (by decide))
                  refine z_iload D_m_steps_175 rfl ?_
                  refine z_istore_6 D_m_steps_177 (Nat.le_of_ble_eq_true rfl) rfl ?_
                  refine z_iinc_7 D_m_steps_179 (Nat.le_of_ble_eq_true rfl) rfl ?_
                  refine z_goto (tgt := 44) D_m_steps_182 (by decide) ?_
                  first
                  | (rw [hT (by omega)] at q; exact q _ _ _ _ ⟨rfl, rfl, rfl⟩ (by omega) (by omega))
                  | (rw [hF (by omega)] at q; exact q _ _ _ _ ⟨rfl, rfl, rfl⟩ (by omega) (by omega))
                · refine z_iconst D_m_steps_144 ?_
                  refine z_goto (tgt := 149) D_m_steps_145 (by decide) ?_
                  refine z_istore_11 D_m_steps_149 (Nat.le_of_ble_eq_true rfl) rfl ?_
                  refine z_iload D_m_steps_151 rfl ?_
                  refine z_if_eq (tgt := 161) D_m_steps_153 (by decide) (by decide) (fun q => absurd q (by decide)) (fun _ => ?_)
                  refine z_iload D_m_steps_156 rfl ?_
                  refine z_goto (tgt := 163) D_m_steps_158 (by decide) ?_
                  refine z_istore_5 D_m_steps_163 (Nat.le_of_ble_eq_true rfl) rfl ?_
                  refine z_iload D_m_steps_165 rfl ?_
                  refine z_if_eq (tgt := 175) D_m_steps_167 (by decide) (by decide) (fun q => absurd q (by decide)) (fun _ => ?_)
                  refine z_iload D_m_steps_170 rfl ?_
                  refine z_goto (tgt := 177) D_m_steps_172 (by decide) ?_
                  refine z_istore_6 D_m_steps_177 (Nat.le_of_ble_eq_true rfl) rfl ?_
                  refine z_iinc_7 D_m_steps_179 (Nat.le_of_ble_eq_true rfl) rfl ?_
                  refine z_goto (tgt := 44) D_m_steps_182 (by decide) ?_
                  first
                  | (rw [hT (by omega)] at q; exact q _ _ _ _ ⟨rfl, rfl, rfl⟩ (by omega) (by omega))
                  | (rw [hF (by omega)] at q; exact q _ _ _ _ ⟨rfl, rfl, rfl⟩ (by omega) (by omega))
      · refine z_iload D_m_steps_88 rfl ?_
        refine z_goto (tgt := 100) D_m_steps_90 (by decide) ?_
        first
        | rw [← hway.2.2.2.trans (if_pos (by omega))]
        | rw [← hway.2.2.2.trans (if_neg (by omega))]
        refine z_istore_9 D_m_steps_100 (Nat.le_of_ble_eq_true rfl) rfl ?_
        refine z_aload_n D_m_steps_102 rfl ?_
        refine z_iload D_m_steps_103 rfl ?_
        refine z_V1 (c0 := 12) (c_m_whoHas hm (by omega)) G_m_whoHas I_m_whoHas lk_m_181 (rfl) ⟨by decide, rfl⟩ ⟨Nat.le_of_ble_eq_true rfl, Nat.le_of_ble_eq_true rfl⟩ (Nat.le_of_ble_eq_true rfl) D_m_steps_105 ?_
        refine z_istore_10 D_m_steps_108 (Nat.le_of_ble_eq_true rfl) rfl ?_
        refine z_iload D_m_steps_110 rfl ?_
        refine z_if_lt (tgt := 121) D_m_steps_112 (by decide) (by omega) (fun q112 => ?_) (fun q112 => ?_)
        · refine z_aload_n D_m_steps_121 rfl ?_
          refine z_iload D_m_steps_122 rfl ?_
          refine z_iload_n D_m_steps_124 rfl ?_
          refine z_V2 (c0 := 12) (c_m_shadeOf hm (by omega) (by omega)) G_m_shadeOf I_m_shadeOf lk_m_197 (rfl) ⟨by decide, rfl⟩ ⟨Nat.le_of_ble_eq_true rfl, Nat.le_of_ble_eq_true rfl⟩ (Nat.le_of_ble_eq_true rfl) D_m_steps_125 ?_
          refine z_iload_n D_m_steps_128 rfl ?_
          refine z_icmp_ne (tgt := 148) D_m_steps_129 (by decide) (by omega) (by omega) (fun q129 => ?_) (fun q129 => ?_)
          · refine z_iconst D_m_steps_148 ?_
            refine z_istore_11 D_m_steps_149 (Nat.le_of_ble_eq_true rfl) rfl ?_
            refine z_iload D_m_steps_151 rfl ?_
            refine z_if_eq (tgt := 161) D_m_steps_153 (by decide) (by decide) (fun _ => ?_) (fun q => absurd q (by decide))
            refine z_iload D_m_steps_161 rfl ?_
            refine z_istore_5 D_m_steps_163 (Nat.le_of_ble_eq_true rfl) rfl ?_
            refine z_iload D_m_steps_165 rfl ?_
            refine z_if_eq (tgt := 175) D_m_steps_167 (by decide) (by decide) (fun _ => ?_) (fun q => absurd q (by decide))
            refine z_iload D_m_steps_175 rfl ?_
            refine z_istore_6 D_m_steps_177 (Nat.le_of_ble_eq_true rfl) rfl ?_
            refine z_iinc_7 D_m_steps_179 (Nat.le_of_ble_eq_true rfl) rfl ?_
            refine z_goto (tgt := 44) D_m_steps_182 (by decide) ?_
            first
            | (rw [hT (by omega)] at q; exact q _ _ _ _ ⟨rfl, rfl, rfl⟩ (by omega) (by omega))
            | (rw [hF (by omega)] at q; exact q _ _ _ _ ⟨rfl, rfl, rfl⟩ (by omega) (by omega))
          · refine z_iload D_m_steps_132 rfl ?_
            refine z_if_lt (tgt := 144) D_m_steps_134 (by decide) (by omega) (fun q134 => ?_) (fun q134 => ?_)
            · refine z_iconst D_m_steps_144 ?_
              refine z_goto (tgt := 149) D_m_steps_145 (by decide) ?_
              refine z_istore_11 D_m_steps_149 (Nat.le_of_ble_eq_true rfl) rfl ?_
              refine z_iload D_m_steps_151 rfl ?_
              refine z_if_eq (tgt := 161) D_m_steps_153 (by decide) (by decide) (fun q => absurd q (by decide)) (fun _ => ?_)
              refine z_iload D_m_steps_156 rfl ?_
              refine z_goto (tgt := 163) D_m_steps_158 (by decide) ?_
              refine z_istore_5 D_m_steps_163 (Nat.le_of_ble_eq_true rfl) rfl ?_
              refine z_iload D_m_steps_165 rfl ?_
              refine z_if_eq (tgt := 175) D_m_steps_167 (by decide) (by decide) (fun q => absurd q (by decide)) (fun _ => ?_)
              refine z_iload D_m_steps_170 rfl ?_
              refine z_goto (tgt := 177) D_m_steps_172 (by decide) ?_
              refine z_istore_6 D_m_steps_177 (Nat.le_of_ble_eq_true rfl) rfl ?_
              refine z_iinc_7 D_m_steps_179 (Nat.le_of_ble_eq_true rfl) rfl ?_
              refine z_goto (tgt := 44) D_m_steps_182 (by decide) ?_
              first
              | (rw [hT (by omega)] at q; exact q _ _ _ _ ⟨rfl, rfl, rfl⟩ (by omega) (by omega))
              | (rw [hF (by omega)] at q; exact q _ _ _ _ ⟨rfl, rfl, rfl⟩ (by omega) (by omega))
            · refine z_iload D_m_steps_137 rfl ?_
              refine z_iload D_m_steps_139 rfl ?_
              refine z_icmp_ge (tgt := 148) D_m_steps_141 (by decide) (by omega) (by omega) (fun q141 => ?_) (fun q141 => ?_)
              · refine z_iconst D_m_steps_148 ?_
                refine z_istore_11 D_m_steps_149 (Nat.le_of_ble_eq_true rfl) rfl ?_
                refine z_iload D_m_steps_151 rfl ?_
                refine z_if_eq (tgt := 161) D_m_steps_153 (by decide) (by decide) (fun _ => ?_) (fun q => absurd q (by decide))
                refine z_iload D_m_steps_161 rfl ?_
                refine z_istore_5 D_m_steps_163 (Nat.le_of_ble_eq_true rfl) rfl ?_
                refine z_iload D_m_steps_165 rfl ?_
                refine z_if_eq (tgt := 175) D_m_steps_167 (by decide) (by decide) (fun _ => ?_) (fun q => absurd q (by decide))
                refine z_iload D_m_steps_175 rfl ?_
                refine z_istore_6 D_m_steps_177 (Nat.le_of_ble_eq_true rfl) rfl ?_
                refine z_iinc_7 D_m_steps_179 (Nat.le_of_ble_eq_true rfl) rfl ?_
                refine z_goto (tgt := 44) D_m_steps_182 (by decide) ?_
                first
                | (rw [hT (by omega)] at q; exact q _ _ _ _ ⟨rfl, rfl, rfl⟩ (by omega) (by omega))
                | (rw [hF (by omega)] at q; exact q _ _ _ _ ⟨rfl, rfl, rfl⟩ (by omega) (by omega))
              · refine z_iconst D_m_steps_144 ?_
                refine z_goto (tgt := 149) D_m_steps_145 (by decide) ?_
                refine z_istore_11 D_m_steps_149 (Nat.le_of_ble_eq_true rfl) rfl ?_
                refine z_iload D_m_steps_151 rfl ?_
                refine z_if_eq (tgt := 161) D_m_steps_153 (by decide) (by decide) (fun q => absurd q (by decide)) (fun _ => ?_)
                refine z_iload D_m_steps_156 rfl ?_
                refine z_goto (tgt := 163) D_m_steps_158 (by decide) ?_
                refine z_istore_5 D_m_steps_163 (Nat.le_of_ble_eq_true rfl) rfl ?_
                refine z_iload D_m_steps_165 rfl ?_
                refine z_if_eq (tgt := 175) D_m_steps_167 (by decide) (by decide) (fun q => absurd q (by decide)) (fun _ => ?_)
                refine z_iload D_m_steps_170 rfl ?_
                refine z_goto (tgt := 177) D_m_steps_172 (by decide) ?_
                refine z_istore_6 D_m_steps_177 (Nat.le_of_ble_eq_true rfl) rfl ?_
                refine z_iinc_7 D_m_steps_179 (Nat.le_of_ble_eq_true rfl) rfl ?_
                refine z_goto (tgt := 44) D_m_steps_182 (by decide) ?_
                first
                | (rw [hT (by omega)] at q; exact q _ _ _ _ ⟨rfl, rfl, rfl⟩ (by omega) (by omega))
                | (rw [hF (by omega)] at q; exact q _ _ _ _ ⟨rfl, rfl, rfl⟩ (by omega) (by omega))
        · refine z_iload D_m_steps_115 rfl ?_
          refine z_iload_n D_m_steps_117 rfl ?_
          refine z_icmp_ne (tgt := 148) D_m_steps_118 (by decide) (by omega) (by omega) (fun q118 => ?_) (fun q118 => ?_)
          · refine z_iconst D_m_steps_148 ?_
            refine z_istore_11 D_m_steps_149 (Nat.le_of_ble_eq_true rfl) rfl ?_
            refine z_iload D_m_steps_151 rfl ?_
            refine z_if_eq (tgt := 161) D_m_steps_153 (by decide) (by decide) (fun _ => ?_) (fun q => absurd q (by decide))
            refine z_iload D_m_steps_161 rfl ?_
            refine z_istore_5 D_m_steps_163 (Nat.le_of_ble_eq_true rfl) rfl ?_
            refine z_iload D_m_steps_165 rfl ?_
            refine z_if_eq (tgt := 175) D_m_steps_167 (by decide) (by decide) (fun _ => ?_) (fun q => absurd q (by decide))
            refine z_iload D_m_steps_175 rfl ?_
            refine z_istore_6 D_m_steps_177 (Nat.le_of_ble_eq_true rfl) rfl ?_
            refine z_iinc_7 D_m_steps_179 (Nat.le_of_ble_eq_true rfl) rfl ?_
            refine z_goto (tgt := 44) D_m_steps_182 (by decide) ?_
            first
            | (rw [hT (by omega)] at q; exact q _ _ _ _ ⟨rfl, rfl, rfl⟩ (by omega) (by omega))
            | (rw [hF (by omega)] at q; exact q _ _ _ _ ⟨rfl, rfl, rfl⟩ (by omega) (by omega))
          · refine z_aload_n D_m_steps_121 rfl ?_
            refine z_iload D_m_steps_122 rfl ?_
            refine z_iload_n D_m_steps_124 rfl ?_
            refine z_V2 (c0 := 12) (c_m_shadeOf hm (by omega) (by omega)) G_m_shadeOf I_m_shadeOf lk_m_197 (rfl) ⟨by decide, rfl⟩ ⟨Nat.le_of_ble_eq_true rfl, Nat.le_of_ble_eq_true rfl⟩ (Nat.le_of_ble_eq_true rfl) D_m_steps_125 ?_
            refine z_iload_n D_m_steps_128 rfl ?_
            refine z_icmp_ne (tgt := 148) D_m_steps_129 (by decide) (by omega) (by omega) (fun q129 => ?_) (fun q129 => ?_)
            · refine z_iconst D_m_steps_148 ?_
              refine z_istore_11 D_m_steps_149 (Nat.le_of_ble_eq_true rfl) rfl ?_
              refine z_iload D_m_steps_151 rfl ?_
              refine z_if_eq (tgt := 161) D_m_steps_153 (by decide) (by decide) (fun _ => ?_) (fun q => absurd q (by decide))
              refine z_iload D_m_steps_161 rfl ?_
              refine z_istore_5 D_m_steps_163 (Nat.le_of_ble_eq_true rfl) rfl ?_
              refine z_iload D_m_steps_165 rfl ?_
              refine z_if_eq (tgt := 175) D_m_steps_167 (by decide) (by decide) (fun _ => ?_) (fun q => absurd q (by decide))
              refine z_iload D_m_steps_175 rfl ?_
              refine z_istore_6 D_m_steps_177 (Nat.le_of_ble_eq_true rfl) rfl ?_
              refine z_iinc_7 D_m_steps_179 (Nat.le_of_ble_eq_true rfl) rfl ?_
              refine z_goto (tgt := 44) D_m_steps_182 (by decide) ?_
              first
              | (rw [hT (by omega)] at q; exact q _ _ _ _ ⟨rfl, rfl, rfl⟩ (by omega) (by omega))
              | (rw [hF (by omega)] at q; exact q _ _ _ _ ⟨rfl, rfl, rfl⟩ (by omega) (by omega))
            · refine z_iload D_m_steps_132 rfl ?_
              refine z_if_lt (tgt := 144) D_m_steps_134 (by decide) (by omega) (fun q134 => ?_) (fun q134 => ?_)
              · refine z_iconst D_m_steps_144 ?_
                refine z_goto (tgt := 149) D_m_steps_145 (by decide) ?_
                refine z_istore_11 D_m_steps_149 (Nat.le_of_ble_eq_true rfl) rfl ?_
                refine z_iload D_m_steps_151 rfl ?_
                refine z_if_eq (tgt := 161) D_m_steps_153 (by decide) (by decide) (fun q => absurd q (by decide)) (fun _ => ?_)
                refine z_iload D_m_steps_156 rfl ?_
                refine z_goto (tgt := 163) D_m_steps_158 (by decide) ?_
                refine z_istore_5 D_m_steps_163 (Nat.le_of_ble_eq_true rfl) rfl ?_
                refine z_iload D_m_steps_165 rfl ?_
                refine z_if_eq (tgt := 175) D_m_steps_167 (by decide) (by decide) (fun q => absurd q (by decide)) (fun _ => ?_)
                refine z_iload D_m_steps_170 rfl ?_
                refine z_goto (tgt := 177) D_m_steps_172 (by decide) ?_
                refine z_istore_6 D_m_steps_177 (Nat.le_of_ble_eq_true rfl) rfl ?_
                refine z_iinc_7 D_m_steps_179 (Nat.le_of_ble_eq_true rfl) rfl ?_
                refine z_goto (tgt := 44) D_m_steps_182 (by decide) ?_
                first
                | (rw [hT (by omega)] at q; exact q _ _ _ _ ⟨rfl, rfl, rfl⟩ (by omega) (by omega))
                | (rw [hF (by omega)] at q; exact q _ _ _ _ ⟨rfl, rfl, rfl⟩ (by omega) (by omega))
              · refine z_iload D_m_steps_137 rfl ?_
                refine z_iload D_m_steps_139 rfl ?_
                refine z_icmp_ge (tgt := 148) D_m_steps_141 (by decide) (by omega) (by omega) (fun q141 => ?_) (fun q141 => ?_)
                · refine z_iconst D_m_steps_148 ?_
                  refine z_istore_11 D_m_steps_149 (Nat.le_of_ble_eq_true rfl) rfl ?_
                  refine z_iload D_m_steps_151 rfl ?_
                  refine z_if_eq (tgt := 161) D_m_steps_153 (by decide) (by decide) (fun _ => ?_) (fun q => absurd q (by decide))
                  refine z_iload D_m_steps_161 rfl ?_
                  refine z_istore_5 D_m_steps_163 (Nat.le_of_ble_eq_true rfl) rfl ?_
                  refine z_iload D_m_steps_165 rfl ?_
                  refine z_if_eq (tgt := 175) D_m_steps_167 (by decide) (by decide) (fun _ => ?_) (fun q => absurd q (by decide))
                  refine z_iload D_m_steps_175 rfl ?_
                  refine z_istore_6 D_m_steps_177 (Nat.le_of_ble_eq_true rfl) rfl ?_
                  refine z_iinc_7 D_m_steps_179 (Nat.le_of_ble_eq_true rfl) rfl ?_
                  refine z_goto (tgt := 44) D_m_steps_182 (by decide) ?_
                  first
                  | (rw [hT (by omega)] at q; exact q _ _ _ _ ⟨rfl, rfl, rfl⟩ (by omega) (by omega))
                  | (rw [hF (by omega)] at q; exact q _ _ _ _ ⟨rfl, rfl, rfl⟩ (by omega) (by omega))
                · refine z_iconst D_m_steps_144 ?_
                  refine z_goto (tgt := 149) D_m_steps_145 (by decide) ?_
                  refine z_istore_11 D_m_steps_149 (Nat.le_of_ble_eq_true rfl) rfl ?_
                  refine z_iload D_m_steps_151 rfl ?_
                  refine z_if_eq (tgt := 161) D_m_steps_153 (by decide) (by decide) (fun q => absurd q (by decide)) (fun _ => ?_)
                  refine z_iload D_m_steps_156 rfl ?_
                  refine z_goto (tgt := 163) D_m_steps_158 (by decide) ?_
                  refine z_istore_5 D_m_steps_163 (Nat.le_of_ble_eq_true rfl) rfl ?_
                  refine z_iload D_m_steps_165 rfl ?_
                  refine z_if_eq (tgt := 175) D_m_steps_167 (by decide) (by decide) (fun q => absurd q (by decide)) (fun _ => ?_)
                  refine z_iload D_m_steps_170 rfl ?_
                  refine z_goto (tgt := 177) D_m_steps_172 (by decide) ?_
                  refine z_istore_6 D_m_steps_177 (Nat.le_of_ble_eq_true rfl) rfl ?_
                  refine z_iinc_7 D_m_steps_179 (Nat.le_of_ble_eq_true rfl) rfl ?_
                  refine z_goto (tgt := 44) D_m_steps_182 (by decide) ?_
                  first
                  | (rw [hT (by omega)] at q; exact q _ _ _ _ ⟨rfl, rfl, rfl⟩ (by omega) (by omega))
                  | (rw [hF (by omega)] at q; exact q _ _ _ _ ⟨rfl, rfl, rfl⟩ (by omega) (by omega))
theorem c_m_steps {h : zH} {p c v t : Int} (hm : MI h) (r_p : -2147483648 ≤ p ∧ p ≤ 2147483647) (r_c : -2147483648 ≤ c ∧ c ≤ 2147483647) (r_v : -2147483648 ≤ v ∧ v ≤ 2147483647) (r_t : -2147483648 ≤ t ∧ t ≤ 2147483647) : zC M_m_steps [vR 39, vI p, vI c, vI v, vI t] h (pV (vI (if ((0 ≤ p ∧ p < h 39 4) ∧ (0 ≤ c ∧ c ≤ 5) ∧ (1 ≤ v ∧ v ≤ 60) ∧ (0 ≤ t ∧ t ≤ 1)) then (if (spF (nm h) (gm h) (h 39 4) (h 39 0) p c v (h 39 0).toNat).1 < 0 ∨ t = 1 then (spF (nm h) (gm h) (h 39 4) (h 39 0) p c v (h 39 0).toNat).1 else (spF (nm h) (gm h) (h 39 4) (h 39 0) p c v (h 39 0).toNat).2) else -1)) h) := by
  refine zC.ofN 7 (by decide) (by first | decide | exact Nat.le_of_ble_eq_true rfl) ?_
  show Z M_m_steps _ 0 [vR 39, vI p, vI c, vI v, vI t, vU, vU, vU, vU, vU, vU, vU] [] h
  have hn := hm.hn
  have hnp := hm.hnp
  have ht := hm.row.ht
  have hh := hm.row.hh
  have hc := hm.row.hc
  unfold nm at ht hh hc
  refine z_aload_n D_m_steps_0 rfl ?_
  refine z_iload_n D_m_steps_1 rfl ?_
  refine z_V1 (c0 := 12) (c_m_isOne (by omega) (by omega)) G_m_isOne I_m_isOne lk_m_152 (rfl) ⟨by decide, rfl⟩ ⟨Nat.le_of_ble_eq_true rfl, Nat.le_of_ble_eq_true rfl⟩ (Nat.le_of_ble_eq_true rfl) D_m_steps_2 ?_
  refine z_ifeqB (tgt := 32) D_m_steps_5 (by decide) (fun q5 => ?_) (fun q5 => ?_)
  · refine z_iconst D_m_steps_32 ?_
    exact z_ireturn rfl D_m_steps_33 (pvI (by (repeat' split) <;> first | rfl | omega | (exfalso; omega)) rfl)
  · refine z_iload_n D_m_steps_8 rfl ?_
    refine z_S1 (c_m_isColour (by omega)) G_m_isColour S_m_isColour lk_m_200 ⟨Nat.le_of_ble_eq_true rfl, Nat.le_of_ble_eq_true rfl⟩ (Nat.le_of_ble_eq_true rfl) D_m_steps_9 ?_
    refine z_ifeqB (tgt := 32) D_m_steps_12 (by decide) (fun q12 => ?_) (fun q12 => ?_)
    · refine z_iconst D_m_steps_32 ?_
      exact z_ireturn rfl D_m_steps_33 (pvI (by (repeat' split) <;> first | rfl | omega | (exfalso; omega)) rfl)
    · refine z_iload_n D_m_steps_15 rfl ?_
      refine z_S1 (c_m_isSpeed (by omega)) G_m_isSpeed S_m_isSpeed lk_m_169 ⟨Nat.le_of_ble_eq_true rfl, Nat.le_of_ble_eq_true rfl⟩ (Nat.le_of_ble_eq_true rfl) D_m_steps_16 ?_
      refine z_ifeqB (tgt := 32) D_m_steps_19 (by decide) (fun q19 => ?_) (fun q19 => ?_)
      · refine z_iconst D_m_steps_32 ?_
        exact z_ireturn rfl D_m_steps_33 (pvI (by (repeat' split) <;> first | rfl | omega | (exfalso; omega)) rfl)
      · refine z_iload D_m_steps_22 rfl ?_
        refine z_iconst D_m_steps_24 ?_
        refine z_iconst D_m_steps_25 ?_
        refine z_S3 (c_m_in (by omega) (by omega) (by omega)) G_m_in S_m_in lk_m_69 ⟨Nat.le_of_ble_eq_true rfl, Nat.le_of_ble_eq_true rfl⟩ (Nat.le_of_ble_eq_true rfl) D_m_steps_26 ?_
        refine z_ifneB (tgt := 34) D_m_steps_29 (by decide) (fun q29 => ?_) (fun q29 => ?_)
        · refine z_bipush (by decide) D_m_steps_34 ?_
          refine z_istore_5 D_m_steps_36 (Nat.le_of_ble_eq_true rfl) rfl ?_
          refine z_iconst D_m_steps_38 ?_
          refine z_istore_6 D_m_steps_39 (Nat.le_of_ble_eq_true rfl) rfl ?_
          refine z_iconst D_m_steps_41 ?_
          refine z_istore_7 D_m_steps_42 (Nat.le_of_ble_eq_true rfl) rfl ?_
          rw [if_pos (by omega)]
          exact l_m_steps hm (by omega) (by omega) (by omega) (by omega) rfl (13 : Nat) 0 vU vU vU vU ⟨rfl, rfl, rfl⟩ (by omega) (by omega) (by omega)
        · refine z_iconst D_m_steps_32 ?_
          exact z_ireturn rfl D_m_steps_33 (pvI (by (repeat' split) <;> first | rfl | omega | (exfalso; omega)) rfl)
end
section
/-! one, owed, alike, counts, what was seen and heard -/
theorem pvL {x y : Int} {h1 h2 : zH} (e : x = y) (eh : h1 = h2) : pV (vL y) h2 (some (vL x)) h1 := ⟨by rw [e], eh⟩
theorem c_x_one {h : zH} {w : Nat} {p : Int} {t : Int} (hx : XI h w) (r_p : -2147483648 ≤ p ∧ p ≤ 2147483647) (r_t : -2147483648 ≤ t ∧ t ≤ 2147483647) : zC M_x_one [vR 0, vI p, vI t] h (pV (vI (if 0 ≤ p ∧ p < h w 4 then (if t = 0 then nw h (4 + p) else if t = 1 then wx h w p else if t = 2 then col (px h w) (nw h) (h w 3) p else if t = 3 then nw h (10 + p) else if t = 4 then sumF (owF (nw h) p) (h w 4).toNat else -1) else -1)) h) := by
  refine zC.ofN 0 (by decide) (by first | decide | exact Nat.le_of_ble_eq_true rfl) ?_
  show Z M_x_one _ 0 [vR 0, vI p, vI t] [] h
  have hw := hx.2.1
  have hu := hx.2.2.1
  have hn := hx.2.2.2.hn
  have hnp := hx.2.2.2.hnp
  have ht := hx.2.2.2.row.ht
  have hh := hx.2.2.2.row.hh
  have hc := hx.2.2.2.row.hc
  refine z_aload_n D_x_one_0 rfl ?_
  refine z_getW fl_x_19 (by decide) hx.1 D_x_one_1 ?_
  refine z_iload_n D_x_one_4 rfl ?_
  refine z_V1 (c0 := 10) (c_w_hasPerson hw hnp (by omega)) G_w_hasPerson I_w_hasPerson lk_x_128 (kw hw) ⟨by decide, rfl⟩ ⟨Nat.le_of_ble_eq_true rfl, Nat.le_of_ble_eq_true rfl⟩ (Nat.le_of_ble_eq_true rfl) D_x_one_5 ?_
  refine z_ifneB (tgt := 13) D_x_one_8 (by decide) (fun q8 => ?_) (fun q8 => ?_)
  · refine z_iload_n D_x_one_13 rfl ?_
    by_cases s14_0 : t = 0
    · subst s14_0
      refine z_tabIn (tgt := 48) (off := 34) D_x_one_14 (by omega) (by omega) (by omega) rfl (by decide) ?_
      refine z_aload_n D_x_one_48 rfl ?_
      refine z_getR (q := 11) fl_x_29 (rfl) rfl (rfl) D_x_one_49 ?_
      refine z_iconst D_x_one_52 ?_
      refine z_iload_n D_x_one_53 rfl ?_
      refine z_iadd D_x_one_54 ?_
      refine z_V1 (c0 := 5) (c_d_value hu (by omega)) G_d_value I_d_value lk_x_131 (rfl) ⟨by decide, rfl⟩ ⟨Nat.le_of_ble_eq_true rfl, Nat.le_of_ble_eq_true rfl⟩ (Nat.le_of_ble_eq_true rfl) D_x_one_55 ?_
      exact z_ireturn rfl D_x_one_58 (pvI (by (repeat' split) <;> first | rfl | omega | (exfalso; omega)) rfl)
    by_cases s14_1 : t = 1
    · subst s14_1
      refine z_tabIn (tgt := 59) (off := 45) D_x_one_14 (by omega) (by omega) (by omega) rfl (by decide) ?_
      refine z_aload_n D_x_one_59 rfl ?_
      refine z_getW fl_x_19 (by decide) hx.1 D_x_one_60 ?_
      refine z_getR (q := (w + 3)) fl_x_135 (kw hw) rfl (kw2 hw) D_x_one_63 ?_
      refine z_iload_n D_x_one_66 rfl ?_
      refine z_iald (n := 6) (kwn hw) (by omega) D_x_one_67 ?_
      exact z_ireturn rfl D_x_one_68 (pvI (by (repeat' split) <;> first | rfl | omega | (exfalso; omega)) rfl)
    by_cases s14_2 : t = 2
    · subst s14_2
      refine z_tabIn (tgt := 69) (off := 55) D_x_one_14 (by omega) (by omega) (by omega) rfl (by decide) ?_
      refine z_aload_n D_x_one_69 rfl ?_
      refine z_iload_n D_x_one_70 rfl ?_
      refine z_V1 (c0 := 11) (c_x_colourOf hx (by omega)) G_x_colourOf I_x_colourOf lk_x_138 (rfl) ⟨by decide, rfl⟩ ⟨Nat.le_of_ble_eq_true rfl, Nat.le_of_ble_eq_true rfl⟩ (Nat.le_of_ble_eq_true rfl) D_x_one_71 ?_
      exact z_ireturn rfl D_x_one_74 (pvI (by (repeat' split) <;> first | rfl | omega | (exfalso; omega)) rfl)
    by_cases s14_3 : t = 3
    · subst s14_3
      refine z_tabIn (tgt := 75) (off := 61) D_x_one_14 (by omega) (by omega) (by omega) rfl (by decide) ?_
      refine z_aload_n D_x_one_75 rfl ?_
      refine z_getR (q := 11) fl_x_29 (rfl) rfl (rfl) D_x_one_76 ?_
      refine z_bipush (by decide) D_x_one_79 ?_
      refine z_iload_n D_x_one_81 rfl ?_
      refine z_iadd D_x_one_82 ?_
      refine z_V1 (c0 := 5) (c_d_value hu (by omega)) G_d_value I_d_value lk_x_131 (rfl) ⟨by decide, rfl⟩ ⟨Nat.le_of_ble_eq_true rfl, Nat.le_of_ble_eq_true rfl⟩ (Nat.le_of_ble_eq_true rfl) D_x_one_83 ?_
      exact z_ireturn rfl D_x_one_86 (pvI (by (repeat' split) <;> first | rfl | omega | (exfalso; omega)) rfl)
    by_cases s14_4 : t = 4
    · subst s14_4
      refine z_tabIn (tgt := 87) (off := 73) D_x_one_14 (by omega) (by omega) (by omega) rfl (by decide) ?_
      refine z_aload_n D_x_one_87 rfl ?_
      refine z_iload_n D_x_one_88 rfl ?_
      refine z_V1 (c0 := 11) (c_x_owedByAll hx (by omega)) G_x_owedByAll I_x_owedByAll lk_x_141 (rfl) ⟨by decide, rfl⟩ ⟨Nat.le_of_ble_eq_true rfl, Nat.le_of_ble_eq_true rfl⟩ (Nat.le_of_ble_eq_true rfl) D_x_one_89 ?_
      exact z_ireturn rfl D_x_one_92 (pvI (by (repeat' split) <;> first | rfl | omega | (exfalso; omega)) rfl)
    refine z_tabOut (tgt := 93) D_x_one_14 (by omega) (by omega) (by decide) ?_
    refine z_iconst D_x_one_93 ?_
    exact z_ireturn rfl D_x_one_94 (pvI (by (repeat' split) <;> first | rfl | omega | (exfalso; omega)) rfl)
  · refine z_iconst D_x_one_11 ?_
    exact z_ireturn rfl D_x_one_12 (pvI (by (repeat' split) <;> first | rfl | omega | (exfalso; omega)) rfl)

theorem c_m_one {h : zH} {p : Int} {t : Int} (hm : MI h) (r_p : -2147483648 ≤ p ∧ p ≤ 2147483647) (r_t : -2147483648 ≤ t ∧ t ≤ 2147483647) : zC M_m_one [vR 39, vI p, vI t] h (pV (vI (if 0 ≤ p ∧ p < h 39 4 then (if t = 0 then nm h (4 + p) else if t = 1 then wm h p else if t = 2 then col (pm h) (nm h) (h 39 0) p else if t = 3 then nm h (10 + p) else if t = 4 then sumF (owF (nm h) p) (h 39 4).toNat else -1) else -1)) h) := by
  refine zC.ofN 0 (by decide) (by first | decide | exact Nat.le_of_ble_eq_true rfl) ?_
  show Z M_m_one _ 0 [vR 39, vI p, vI t] [] h
  have hn := hm.hn
  have hnp := hm.hnp
  have ht := hm.row.ht
  have hh := hm.row.hh
  have hc := hm.row.hc
  unfold nm at ht hh hc
  refine z_aload_n D_m_one_0 rfl ?_
  refine z_iload_n D_m_one_1 rfl ?_
  refine z_V1 (c0 := 12) (c_m_isOne (by omega) (by omega)) G_m_isOne I_m_isOne lk_m_152 (rfl) ⟨by decide, rfl⟩ ⟨Nat.le_of_ble_eq_true rfl, Nat.le_of_ble_eq_true rfl⟩ (Nat.le_of_ble_eq_true rfl) D_m_one_2 ?_
  refine z_ifneB (tgt := 10) D_m_one_5 (by decide) (fun q5 => ?_) (fun q5 => ?_)
  · refine z_iload_n D_m_one_10 rfl ?_
    by_cases s11_0 : t = 0
    · subst s11_0
      refine z_tabIn (tgt := 44) (off := 33) D_m_one_11 (by omega) (by omega) (by omega) rfl (by decide) ?_
      refine z_aload_n D_m_one_44 rfl ?_
      refine z_getR (q := 42) fl_m_23 (rfl) rfl (rfl) D_m_one_45 ?_
      refine z_iconst D_m_one_48 ?_
      refine z_iload_n D_m_one_49 rfl ?_
      refine z_iadd D_m_one_50 ?_
      refine z_iald (n := 573) (rfl) (by omega) D_m_one_51 ?_
      exact z_ireturn rfl D_m_one_52 (pvI (by (repeat' split) <;> first | rfl | omega | (exfalso; omega)) rfl)
    by_cases s11_1 : t = 1
    · subst s11_1
      refine z_tabIn (tgt := 53) (off := 42) D_m_one_11 (by omega) (by omega) (by omega) rfl (by decide) ?_
      refine z_aload_n D_m_one_53 rfl ?_
      refine z_getR (q := 41) fl_m_20 (rfl) rfl (rfl) D_m_one_54 ?_
      refine z_iload_n D_m_one_57 rfl ?_
      refine z_iald (n := 6) (rfl) (by omega) D_m_one_58 ?_
      exact z_ireturn rfl D_m_one_59 (pvI (by (repeat' split) <;> first | rfl | omega | (exfalso; omega)) rfl)
    by_cases s11_2 : t = 2
    · subst s11_2
      refine z_tabIn (tgt := 60) (off := 49) D_m_one_11 (by omega) (by omega) (by omega) rfl (by decide) ?_
      refine z_aload_n D_m_one_60 rfl ?_
      refine z_iload_n D_m_one_61 rfl ?_
      refine z_V1 (c0 := 12) (c_m_standsIn hm (by omega)) G_m_standsIn I_m_standsIn lk_m_155 (rfl) ⟨by decide, rfl⟩ ⟨Nat.le_of_ble_eq_true rfl, Nat.le_of_ble_eq_true rfl⟩ (Nat.le_of_ble_eq_true rfl) D_m_one_62 ?_
      exact z_ireturn rfl D_m_one_65 (pvI (by (repeat' split) <;> first | rfl | omega | (exfalso; omega)) rfl)
    by_cases s11_3 : t = 3
    · subst s11_3
      refine z_tabIn (tgt := 66) (off := 55) D_m_one_11 (by omega) (by omega) (by omega) rfl (by decide) ?_
      refine z_aload_n D_m_one_66 rfl ?_
      refine z_getR (q := 42) fl_m_23 (rfl) rfl (rfl) D_m_one_67 ?_
      refine z_bipush (by decide) D_m_one_70 ?_
      refine z_iload_n D_m_one_72 rfl ?_
      refine z_iadd D_m_one_73 ?_
      refine z_iald (n := 573) (rfl) (by omega) D_m_one_74 ?_
      exact z_ireturn rfl D_m_one_75 (pvI (by (repeat' split) <;> first | rfl | omega | (exfalso; omega)) rfl)
    by_cases s11_4 : t = 4
    · subst s11_4
      refine z_tabIn (tgt := 76) (off := 65) D_m_one_11 (by omega) (by omega) (by omega) rfl (by decide) ?_
      refine z_aload_n D_m_one_76 rfl ?_
      refine z_iload_n D_m_one_77 rfl ?_
      refine z_V1 (c0 := 12) (c_m_owedAll hm (by omega)) G_m_owedAll I_m_owedAll lk_m_158 (rfl) ⟨by decide, rfl⟩ ⟨Nat.le_of_ble_eq_true rfl, Nat.le_of_ble_eq_true rfl⟩ (Nat.le_of_ble_eq_true rfl) D_m_one_78 ?_
      exact z_ireturn rfl D_m_one_81 (pvI (by (repeat' split) <;> first | rfl | omega | (exfalso; omega)) rfl)
    refine z_tabOut (tgt := 82) D_m_one_11 (by omega) (by omega) (by decide) ?_
    refine z_iconst D_m_one_82 ?_
    exact z_ireturn rfl D_m_one_83 (pvI (by (repeat' split) <;> first | rfl | omega | (exfalso; omega)) rfl)
  · refine z_iconst D_m_one_8 ?_
    exact z_ireturn rfl D_m_one_9 (pvI (by (repeat' split) <;> first | rfl | omega | (exfalso; omega)) rfl)

theorem c_x_owed {h : zH} {w : Nat} {p : Int} {q : Int} (hx : XI h w) (r_p : -2147483648 ≤ p ∧ p ≤ 2147483647) (r_q : -2147483648 ≤ q ∧ q ≤ 2147483647) : zC M_x_owed [vR 0, vI p, vI q] h (pV (vI (if p ≠ q ∧ (0 ≤ p ∧ p < h w 4) ∧ (0 ≤ q ∧ q < h w 4) then owF (nw h) p q else -1)) h) := by
  refine zC.ofN 0 (by decide) (by first | decide | exact Nat.le_of_ble_eq_true rfl) ?_
  show Z M_x_owed _ 0 [vR 0, vI p, vI q] [] h
  have hw := hx.2.1
  have hu := hx.2.2.1
  have hn := hx.2.2.2.hn
  have hnp := hx.2.2.2.hnp
  have ht := hx.2.2.2.row.ht
  have hh := hx.2.2.2.row.hh
  have hc := hx.2.2.2.row.hc
  refine z_aload_n D_x_owed_0 rfl ?_
  refine z_iload_n D_x_owed_1 rfl ?_
  refine z_iload_n D_x_owed_2 rfl ?_
  refine z_V2 (c0 := 11) (c_x_areTwo hx (by omega) (by omega)) G_x_areTwo I_x_areTwo lk_x_144 (rfl) ⟨by decide, rfl⟩ ⟨Nat.le_of_ble_eq_true rfl, Nat.le_of_ble_eq_true rfl⟩ (Nat.le_of_ble_eq_true rfl) D_x_owed_3 ?_
  refine z_ifeqB (tgt := 24) D_x_owed_6 (by decide) (fun q6 => ?_) (fun q6 => ?_)
  · refine z_iconst D_x_owed_24 ?_
    exact z_ireturn rfl D_x_owed_25 (pvI (by (repeat' split) <;> first | rfl | omega | (exfalso; omega)) rfl)
  · refine z_aload_n D_x_owed_9 rfl ?_
    refine z_getR (q := 11) fl_x_29 (rfl) rfl (rfl) D_x_owed_10 ?_
    refine z_iload_n D_x_owed_13 rfl ?_
    refine z_iload_n D_x_owed_14 rfl ?_
    refine z_S2 (c_d_debt) G_d_debt S_d_debt lk_x_148 ⟨Nat.le_of_ble_eq_true rfl, Nat.le_of_ble_eq_true rfl⟩ (Nat.le_of_ble_eq_true rfl) D_x_owed_15 ?_
    refine z_V1 (c0 := 5) (c_d_value hu (by omega)) G_d_value I_d_value lk_x_131 (rfl) ⟨by decide, rfl⟩ ⟨Nat.le_of_ble_eq_true rfl, Nat.le_of_ble_eq_true rfl⟩ (Nat.le_of_ble_eq_true rfl) D_x_owed_18 ?_
    refine z_goto (tgt := 25) D_x_owed_21 (by decide) ?_
    exact z_ireturn rfl D_x_owed_25 (pvI (by (repeat' split) <;> first | rfl | omega | (exfalso; omega)) rfl)

theorem c_m_owed {h : zH} {p : Int} {q : Int} (hm : MI h) (r_p : -2147483648 ≤ p ∧ p ≤ 2147483647) (r_q : -2147483648 ≤ q ∧ q ≤ 2147483647) : zC M_m_owed [vR 39, vI p, vI q] h (pV (vI (if p ≠ q ∧ (0 ≤ p ∧ p < h 39 4) ∧ (0 ≤ q ∧ q < h 39 4) then owF (nm h) p q else -1)) h) := by
  refine zC.ofN 0 (by decide) (by first | decide | exact Nat.le_of_ble_eq_true rfl) ?_
  show Z M_m_owed _ 0 [vR 39, vI p, vI q] [] h
  have hn := hm.hn
  have hnp := hm.hnp
  have ht := hm.row.ht
  have hh := hm.row.hh
  have hc := hm.row.hc
  unfold nm at ht hh hc
  refine z_aload_n D_m_owed_0 rfl ?_
  refine z_iload_n D_m_owed_1 rfl ?_
  refine z_iload_n D_m_owed_2 rfl ?_
  refine z_V2 (c0 := 12) (c_m_areTwo hm (by omega) (by omega)) G_m_areTwo I_m_areTwo lk_m_161 (rfl) ⟨by decide, rfl⟩ ⟨Nat.le_of_ble_eq_true rfl, Nat.le_of_ble_eq_true rfl⟩ (Nat.le_of_ble_eq_true rfl) D_m_owed_3 ?_
  refine z_ifeqB (tgt := 26) D_m_owed_6 (by decide) (fun q6 => ?_) (fun q6 => ?_)
  · refine z_iconst D_m_owed_26 ?_
    exact z_ireturn rfl D_m_owed_27 (pvI (by first | (rw [if_pos q6]; unfold owF nm; rw [Int.mul_comm]) | rw [if_neg q6]) rfl)
  · refine z_aload_n D_m_owed_9 rfl ?_
    refine z_getR (q := 42) fl_m_23 (rfl) rfl (rfl) D_m_owed_10 ?_
    refine z_bipush (by decide) D_m_owed_13 ?_
    refine z_bipush (by decide) D_m_owed_15 ?_
    refine z_iload_n D_m_owed_17 rfl ?_
    refine z_imul D_m_owed_18 ?_
    refine z_iadd D_m_owed_19 ?_
    refine z_iload_n D_m_owed_20 rfl ?_
    refine z_iadd D_m_owed_21 ?_
    refine z_iald (n := 573) (rfl) (by omega) D_m_owed_22 ?_
    refine z_goto (tgt := 27) D_m_owed_23 (by decide) ?_
    exact z_ireturn rfl D_m_owed_27 (pvI (by first | (rw [if_pos q6]; unfold owF nm; rw [Int.mul_comm]) | rw [if_neg q6]) rfl)

def alk (P : Int → Int) (n t j : Int) : Bool := P j == P (rnd n (j + t))
theorem l_w_isAlike {h : zH} {w : Nat} {t : Int} (hx : XI h w) (ht1 : 0 ≤ t ∧ t ≤ 12) : ∀ (k : Nat) (i : Int), 0 ≤ i → i ≤ h w 3 → h w 3 - i < k → allF (alk (px h w) (h w 3) t) i.toNat = true → Z M_w_isAlike (pV (vI (zb (allF (alk (px h w) (h w 3) t) (h w 3).toNat = true))) h) 2 [vR w, vI t, vI i] [] h := by
  intro k
  induction k with
  | zero => intro i h0 h1 h2; omega
  | succ k ih =>
    intro i h0 h1 h2 hA
    have hw := hx.2.1
    have hn := hx.2.2.2.hn
    have e := allF_1 (b := alk (px h w) (h w 3) t) h0
    rw [hA, Bool.true_and] at e
    have hj := fun q => hx.2.2.2.hP h0 q
    have hr := rnd_in (x := i + t) hn.1
    have hk := fun q => hx.2.2.2.hP hr.1 q
    have hxt : i = h w 3 → allF (alk (px h w) (h w 3) t) (h w 3).toNat = true := fun e9 => by rw [← e9]; rw [← e9] at hA; exact hA
    refine z_iload_n D_w_isAlike_2 rfl ?_
    refine z_aload_n D_w_isAlike_3 rfl ?_
    refine z_getI fl_w_21 (kw hw) rfl D_w_isAlike_4 ?_
    refine z_icmp_ge (tgt := 33) D_w_isAlike_7 (by decide) (by omega) (by omega) (fun q7 => ?_) (fun q7 => ?_)
    · refine z_iconst D_w_isAlike_33 ?_
      exact z_zreturn rfl (by first | exact Or.inl rfl | exact Or.inr rfl | exact zb_01 _) D_w_isAlike_34 (pvI (by rw [hxt (by omega)]; rfl) rfl)
    · refine z_aload_n D_w_isAlike_10 rfl ?_
      refine z_getR (q := (w + 1)) fl_w_9 (kw hw) rfl (kw0 hw) D_w_isAlike_11 ?_
      refine z_iload_n D_w_isAlike_14 rfl ?_
      refine z_iald (n := 12) (kwp hw) (by omega) D_w_isAlike_15 ?_
      refine z_aload_n D_w_isAlike_16 rfl ?_
      refine z_iload_n D_w_isAlike_17 rfl ?_
      refine z_iload_n D_w_isAlike_18 rfl ?_
      refine z_V2 (c0 := 10) (c_w_colourAt hw hn (by omega)) G_w_colourAt I_w_colourAt lk_w_51 (kw hw) ⟨by decide, rfl⟩ ⟨Nat.le_of_ble_eq_true rfl, Nat.le_of_ble_eq_true rfl⟩ (Nat.le_of_ble_eq_true rfl) D_w_isAlike_19 ?_
      refine z_icmp_eq (tgt := 27) D_w_isAlike_22 (by decide) (by have := hj (by omega); unfold px at this; omega) (by have := hk (by omega); unfold px at this; omega) (fun q22 => ?_) (fun q22 => ?_)
      · refine z_iinc_2 D_w_isAlike_27 (Nat.le_of_ble_eq_true rfl) rfl ?_
        refine z_goto (tgt := 2) D_w_isAlike_30 (by decide) ?_
        exact ih (i + 1) (by omega) (by omega) (by omega) (e.trans (by unfold alk px; simpa using q22))
      · refine z_iconst D_w_isAlike_25 ?_
        exact z_zreturn rfl (by first | exact Or.inl rfl | exact Or.inr rfl | exact zb_01 _) D_w_isAlike_26 (pvI (by rw [allF_f h0 (by omega) (by unfold alk px; simpa using q22)]; rfl) rfl)
theorem c_w_isAlike {h : zH} {w : Nat} {t : Int} (hx : XI h w) (ht1 : 0 ≤ t ∧ t ≤ 12) : zC M_w_isAlike [vR w, vI t] h (pV (vI (zb (allF (alk (px h w) (h w 3) t) (h w 3).toNat = true))) h) := by
  refine zC.ofN 1 (by decide) (by first | decide | exact Nat.le_of_ble_eq_true rfl) ?_
  show Z M_w_isAlike _ 0 [vR w, vI t, vU] [] h
  refine z_iconst D_w_isAlike_0 ?_
  refine z_istore_2 D_w_isAlike_1 (Nat.le_of_ble_eq_true rfl) rfl ?_
  have hn := hx.2.2.2.hn
  exact l_w_isAlike hx ht1 (13 : Nat) 0 (by omega) (by omega) (by omega) rfl

theorem l_w_leastLikeTurn {h : zH} {w : Nat} (hx : XI h w) : ∀ (k : Nat) (i : Int), 1 ≤ i → i + k = h w 3 + 1 → Z M_w_leastLikeTurn (pV (vI (lstU (fun t => allF (alk (px h w) (h w 3) t) (h w 3).toNat) (-9) k i)) h) 2 [vR w, vI i] [] h := by
  intro k
  induction k with
  | zero =>
    intro i h0 h1
    have hw := hx.2.1
    have hn := hx.2.2.2.hn
    refine z_iload_n D_w_leastLikeTurn_2 rfl ?_
    refine z_aload_n D_w_leastLikeTurn_3 rfl ?_
    refine z_getI fl_w_21 (kw hw) rfl D_w_leastLikeTurn_4 ?_
    refine z_icmp_gt (tgt := 26) D_w_leastLikeTurn_7 (by decide) (by omega) (by omega) (fun q7 => ?_) (fun q7 => ?_)
    · refine z_bipush (by decide) D_w_leastLikeTurn_26 ?_
      exact z_ireturn rfl D_w_leastLikeTurn_28 (pvI rfl rfl)
    · omega
  | succ k ih =>
    intro i h0 h1
    have hw := hx.2.1
    have hn := hx.2.2.2.hn
    refine z_iload_n D_w_leastLikeTurn_2 rfl ?_
    refine z_aload_n D_w_leastLikeTurn_3 rfl ?_
    refine z_getI fl_w_21 (kw hw) rfl D_w_leastLikeTurn_4 ?_
    refine z_icmp_gt (tgt := 26) D_w_leastLikeTurn_7 (by decide) (by omega) (by omega) (fun q7 => ?_) (fun q7 => ?_)
    · omega
    · refine z_aload_n D_w_leastLikeTurn_10 rfl ?_
      refine z_iload_n D_w_leastLikeTurn_11 rfl ?_
      refine z_V1 (c0 := 10) (c_w_isAlike hx (by omega)) G_w_isAlike I_w_isAlike lk_w_47 (kw hw) ⟨by decide, rfl⟩ ⟨Nat.le_of_ble_eq_true rfl, Nat.le_of_ble_eq_true rfl⟩ (Nat.le_of_ble_eq_true rfl) D_w_leastLikeTurn_12 ?_
      refine z_ifeqB (tgt := 20) D_w_leastLikeTurn_15 (by decide) (fun q15 => ?_) (fun q15 => ?_)
      · refine z_iinc_1 D_w_leastLikeTurn_20 (Nat.le_of_ble_eq_true rfl) rfl ?_
        refine z_goto (tgt := 2) D_w_leastLikeTurn_23 (by decide) ?_
        have q := ih (i + 1) (by omega) (by omega)
        rw [lstU, if_neg q15]
        exact q
      · refine z_iload_n D_w_leastLikeTurn_18 rfl ?_
        exact z_ireturn rfl D_w_leastLikeTurn_19 (pvI (by rw [lstU, if_pos q15]) rfl)
theorem c_w_leastLikeTurn {h : zH} {w : Nat} (hx : XI h w) : zC M_w_leastLikeTurn [vR w] h (pV (vI (lstU (fun t => allF (alk (px h w) (h w 3) t) (h w 3).toNat) (-9) (h w 3).toNat 1)) h) := by
  refine zC.ofN 1 (by decide) (by first | decide | exact Nat.le_of_ble_eq_true rfl) ?_
  show Z M_w_leastLikeTurn _ 0 [vR w, vU] [] h
  refine z_iconst D_w_leastLikeTurn_0 ?_
  refine z_istore_1 D_w_leastLikeTurn_1 (Nat.le_of_ble_eq_true rfl) rfl ?_
  have hn := hx.2.2.2.hn
  exact l_w_leastLikeTurn hx _ 1 (by omega) (by omega)

theorem l_m_isAlike {h : zH} {t : Int} (hm : MI h) (ht1 : 0 ≤ t ∧ t ≤ 12) : ∀ (k : Nat) (i : Int), 0 ≤ i → i ≤ h 39 0 → h 39 0 - i < k → Z M_m_isAlike (pV (vI (zb (allF (alk (pm h) (h 39 0) t) (h 39 0).toNat = true))) h) 4 [vR 39, vI t, vI (zb (allF (alk (pm h) (h 39 0) t) i.toNat = true)), vI i] [] h := by
  intro k
  induction k with
  | zero => intro i h0 h1 h2; omega
  | succ k ih =>
    intro i h0 h1 h2
    have hn := hm.hn
    have e := allF_1 (b := alk (pm h) (h 39 0) t) h0
    have hj := fun q => hm.hP h0 q
    have hr := fun q => emod_in (x := i + t) (n := h 39 0) q
    have hk := fun q => hm.hP (hr q).1 (hr q).2
    have hxt : i = h 39 0 → zb (allF (alk (pm h) (h 39 0) t) i.toNat = true) = zb (allF (alk (pm h) (h 39 0) t) (h 39 0).toNat = true) := fun e9 => by rw [e9]
    have q := ih (i + 1) (by omega)
    rw [e] at q
    refine z_iload_n D_m_isAlike_4 rfl ?_
    refine z_aload_n D_m_isAlike_5 rfl ?_
    refine z_getI fl_m_73 (rfl) rfl D_m_isAlike_6 ?_
    refine z_icmp_ge (tgt := 50) D_m_isAlike_9 (by decide) (by omega) (by omega) (fun q9 => ?_) (fun q9 => ?_)
    · refine z_iload_n D_m_isAlike_50 rfl ?_
      exact z_zreturn rfl (by first | exact Or.inl rfl | exact Or.inr rfl | exact zb_01 _) D_m_isAlike_51 (pvI (hxt (by omega)) rfl)
    · skip
      refine z_iload_n D_m_isAlike_12 rfl ?_
      refine z_ifeqB (tgt := 42) D_m_isAlike_13 (by decide) (fun q13 => ?_) (fun q13 => ?_)
      · refine z_iconst D_m_isAlike_42 ?_
        refine z_istore_2 D_m_isAlike_43 (Nat.le_of_ble_eq_true rfl) rfl ?_
        refine z_iinc_3 D_m_isAlike_44 (Nat.le_of_ble_eq_true rfl) rfl ?_
        refine z_goto (tgt := 4) D_m_isAlike_47 (by decide) ?_
        have e2 : (allF (alk (pm h) (h 39 0) t) i.toNat && alk (pm h) (h 39 0) t i) = false := by
          rw [Bool.and_eq_false_iff]; left; simpa using q13
        rw [e2] at q
        exact q (by omega) (by omega)
      · refine z_aload_n D_m_isAlike_16 rfl ?_
        refine z_getR (q := 40) fl_m_7 (rfl) rfl (rfl) D_m_isAlike_17 ?_
        refine z_iload_n D_m_isAlike_20 rfl ?_
        refine z_iald (n := 12) (rfl) (by omega) D_m_isAlike_21 ?_
        refine z_aload_n D_m_isAlike_22 rfl ?_
        refine z_getR (q := 40) fl_m_7 (rfl) rfl (rfl) D_m_isAlike_23 ?_
        refine z_iload_n D_m_isAlike_26 rfl ?_
        refine z_iload_n D_m_isAlike_27 rfl ?_
        refine z_iadd D_m_isAlike_28 ?_
        refine z_aload_n D_m_isAlike_29 rfl ?_
        refine z_getI fl_m_73 (rfl) rfl D_m_isAlike_30 ?_
        refine z_irem_p D_m_isAlike_33 (by omega) (by omega) ?_
        refine z_iald (n := 12) (rfl) (by have := hr (by omega); omega) D_m_isAlike_34 ?_
        refine z_icmp_ne (tgt := 42) D_m_isAlike_35 (by decide) (by have := hj (by omega); unfold pm at this; omega) (by have := hk (by omega); unfold pm at this; omega) (fun q35 => ?_) (fun q35 => ?_)
        · refine z_iconst D_m_isAlike_42 ?_
          refine z_istore_2 D_m_isAlike_43 (Nat.le_of_ble_eq_true rfl) rfl ?_
          refine z_iinc_3 D_m_isAlike_44 (Nat.le_of_ble_eq_true rfl) rfl ?_
          refine z_goto (tgt := 4) D_m_isAlike_47 (by decide) ?_
          have e2 : (allF (alk (pm h) (h 39 0) t) i.toNat && alk (pm h) (h 39 0) t i) = false := by
            rw [Bool.and_eq_false_iff]; right; unfold alk rnd; rw [if_pos (by omega)]; unfold pm; simpa using q35
          rw [e2] at q
          exact q (by omega) (by omega)
        · refine z_iconst D_m_isAlike_38 ?_
          refine z_goto (tgt := 43) D_m_isAlike_39 (by decide) ?_
          refine z_istore_2 D_m_isAlike_43 (Nat.le_of_ble_eq_true rfl) rfl ?_
          refine z_iinc_3 D_m_isAlike_44 (Nat.le_of_ble_eq_true rfl) rfl ?_
          refine z_goto (tgt := 4) D_m_isAlike_47 (by decide) ?_
          have e2 : (allF (alk (pm h) (h 39 0) t) i.toNat && alk (pm h) (h 39 0) t i) = true := by
            rw [q13, Bool.true_and]; unfold alk rnd; rw [if_pos (by omega)]; unfold pm; simpa using q35
          rw [e2] at q
          exact q (by omega) (by omega)
theorem c_m_isAlike {h : zH} {t : Int} (hm : MI h) (ht1 : 0 ≤ t ∧ t ≤ 12) : zC M_m_isAlike [vR 39, vI t] h (pV (vI (zb (allF (alk (pm h) (h 39 0) t) (h 39 0).toNat = true))) h) := by
  refine zC.ofN 2 (by decide) (by first | decide | exact Nat.le_of_ble_eq_true rfl) ?_
  show Z M_m_isAlike _ 0 [vR 39, vI t, vU, vU] [] h
  refine z_iconst D_m_isAlike_0 ?_
  refine z_istore_2 D_m_isAlike_1 (Nat.le_of_ble_eq_true rfl) rfl ?_
  refine z_iconst D_m_isAlike_2 ?_
  refine z_istore_3 D_m_isAlike_3 (Nat.le_of_ble_eq_true rfl) rfl ?_
  have hn := hm.hn
  exact l_m_isAlike hm ht1 (13 : Nat) 0 (by omega) (by omega) (by omega)

theorem l_m_alike {h : zH} {y : Int} (hm : MI h) : ∀ (k : Nat) (a : Int), k ≤ 12 → lstD (fun t => allF (alk (pm h) (h 39 0) t) (h 39 0).toNat) k a = y → Z M_m_alike (pV (vI y) h) 8 [vR 39, vI a, vI (k : Int)] [] h := by
  intro k
  induction k with
  | zero =>
    intro a h0 hy
    refine z_iload_n D_m_alike_8 rfl ?_
    refine z_if_le (tgt := 32) D_m_alike_9 (by decide) (by omega) (fun q9 => ?_) (fun q9 => ?_)
    · refine z_iload_n D_m_alike_32 rfl ?_
      exact z_ireturn rfl D_m_alike_33 (pvI hy rfl)
    · omega
  | succ k ih =>
    intro a h0 hy
    have e : ((k + 1 : Nat) : Int) + (-1) = (k : Int) := by omega
    simp only [lstD] at hy
    refine z_iload_n D_m_alike_8 rfl ?_
    refine z_if_le (tgt := 32) D_m_alike_9 (by decide) (by omega) (fun q9 => ?_) (fun q9 => ?_)
    · omega
    · refine z_aload_n D_m_alike_12 rfl ?_
      refine z_iload_n D_m_alike_13 rfl ?_
      refine z_V1 (c0 := 12) (c_m_isAlike hm (by omega)) G_m_isAlike I_m_isAlike lk_m_184 (rfl) ⟨by decide, rfl⟩ ⟨Nat.le_of_ble_eq_true rfl, Nat.le_of_ble_eq_true rfl⟩ (Nat.le_of_ble_eq_true rfl) D_m_alike_14 ?_
      refine z_ifeqB (tgt := 24) D_m_alike_17 (by decide) (fun q17 => ?_) (fun q17 => ?_)
      · refine z_iload_n D_m_alike_24 rfl ?_
        refine z_istore_1 D_m_alike_25 (Nat.le_of_ble_eq_true rfl) rfl ?_
        refine z_iinc_2 D_m_alike_26 (Nat.le_of_ble_eq_true rfl) rfl ?_
        refine z_goto (tgt := 8) D_m_alike_29 (by decide) ?_
        rw [e]
        rw [show ((k + 1 : Nat) : Int) = (k : Int) + 1 by omega] at q17
        first
        | (rw [if_pos q17] at hy; exact ih _ (by omega) hy)
        | (rw [if_neg q17] at hy; exact ih _ (by omega) hy)
      · refine z_iload_n D_m_alike_20 rfl ?_
        refine z_goto (tgt := 25) D_m_alike_21 (by decide) ?_
        refine z_istore_1 D_m_alike_25 (Nat.le_of_ble_eq_true rfl) rfl ?_
        refine z_iinc_2 D_m_alike_26 (Nat.le_of_ble_eq_true rfl) rfl ?_
        refine z_goto (tgt := 8) D_m_alike_29 (by decide) ?_
        rw [e]
        rw [show ((k + 1 : Nat) : Int) = (k : Int) + 1 by omega] at q17
        first
        | (rw [if_pos q17] at hy; exact ih _ (by omega) hy)
        | (rw [if_neg q17] at hy; exact ih _ (by omega) hy)
theorem c_m_alike {h : zH}  (hm : MI h) : zC M_m_alike [vR 39] h (pV (vI (lstU (fun t => allF (alk (pm h) (h 39 0) t) (h 39 0).toNat) (-9) (h 39 0).toNat 1)) h) := by
  refine zC.ofN 2 (by decide) (by first | decide | exact Nat.le_of_ble_eq_true rfl) ?_
  show Z M_m_alike _ 0 [vR 39, vU, vU] [] h
  refine z_bipush (by decide) D_m_alike_0 ?_
  refine z_istore_1 D_m_alike_2 (Nat.le_of_ble_eq_true rfl) rfl ?_
  refine z_aload_n D_m_alike_3 rfl ?_
  refine z_getI fl_m_73 (rfl) rfl D_m_alike_4 ?_
  refine z_istore_2 D_m_alike_7 (Nat.le_of_ble_eq_true rfl) rfl ?_
  have hn := hm.hn
  rw [← lstD_U]
  have q := l_m_alike (y := lstD (fun t => allF (alk (pm h) (h 39 0) t) (h 39 0).toNat) (h 39 0).toNat (-9)) hm (h 39 0).toNat (-9) (by omega) rfl
  rw [tn hn.1] at q
  exact q

theorem c_x_count {h : zH} {w : Nat} {t : Int} (h01 : h 0 1 = (w : Int)) (hw : w = 3 ∨ w = 7) (r_t : -2147483648 ≤ t ∧ t ≤ 2147483647) : zC M_x_count [vR 0, vI t] h (pV (vI (if t = 0 then h w 3 else if t = 1 then h w 5 else if t = 2 then h w 6 else if t = 3 then h w 4 else if t = 4 then h 19 2 else if t = 5 then h 22 2 else if t = 6 then h 11 1 else if t = 7 then h 1 1 else -1)) h) := by
  refine zC.ofN 0 (by decide) (by first | decide | exact Nat.le_of_ble_eq_true rfl) ?_
  show Z M_x_count _ 0 [vR 0, vI t] [] h
  refine z_iload_n D_x_count_0 rfl ?_
  by_cases s1_0 : t = 0
  · subst s1_0
    refine z_tabIn (tgt := 48) (off := 47) D_x_count_1 (by omega) (by omega) (by omega) rfl (by decide) ?_
    refine z_aload_n D_x_count_48 rfl ?_
    refine z_getW fl_x_19 (by decide) h01 D_x_count_49 ?_
    refine z_getI fl_x_155 (kw hw) rfl D_x_count_52 ?_
    exact z_ireturn rfl D_x_count_55 (pvI (by (repeat' split) <;> first | rfl | omega | (exfalso; omega)) rfl)
  by_cases s1_1 : t = 1
  · subst s1_1
    refine z_tabIn (tgt := 56) (off := 55) D_x_count_1 (by omega) (by omega) (by omega) rfl (by decide) ?_
    refine z_aload_n D_x_count_56 rfl ?_
    refine z_getW fl_x_19 (by decide) h01 D_x_count_57 ?_
    refine z_getI fl_x_261 (kw hw) rfl D_x_count_60 ?_
    exact z_ireturn rfl D_x_count_63 (pvI (by (repeat' split) <;> first | rfl | omega | (exfalso; omega)) rfl)
  by_cases s1_2 : t = 2
  · subst s1_2
    refine z_tabIn (tgt := 64) (off := 63) D_x_count_1 (by omega) (by omega) (by omega) rfl (by decide) ?_
    refine z_aload_n D_x_count_64 rfl ?_
    refine z_getW fl_x_19 (by decide) h01 D_x_count_65 ?_
    refine z_getI fl_x_264 (kw hw) rfl D_x_count_68 ?_
    exact z_ireturn rfl D_x_count_71 (pvI (by (repeat' split) <;> first | rfl | omega | (exfalso; omega)) rfl)
  by_cases s1_3 : t = 3
  · subst s1_3
    refine z_tabIn (tgt := 72) (off := 71) D_x_count_1 (by omega) (by omega) (by omega) rfl (by decide) ?_
    refine z_aload_n D_x_count_72 rfl ?_
    refine z_getW fl_x_19 (by decide) h01 D_x_count_73 ?_
    refine z_getI fl_x_177 (kw hw) rfl D_x_count_76 ?_
    exact z_ireturn rfl D_x_count_79 (pvI (by (repeat' split) <;> first | rfl | omega | (exfalso; omega)) rfl)
  by_cases s1_4 : t = 4
  · subst s1_4
    refine z_tabIn (tgt := 80) (off := 79) D_x_count_1 (by omega) (by omega) (by omega) rfl (by decide) ?_
    refine z_aload_n D_x_count_80 rfl ?_
    refine z_getR (q := 19) fl_x_44 (rfl) rfl (rfl) D_x_count_81 ?_
    refine z_getI fl_x_119 (rfl) rfl D_x_count_84 ?_
    exact z_ireturn rfl D_x_count_87 (pvI (by (repeat' split) <;> first | rfl | omega | (exfalso; omega)) rfl)
  by_cases s1_5 : t = 5
  · subst s1_5
    refine z_tabIn (tgt := 88) (off := 87) D_x_count_1 (by omega) (by omega) (by omega) rfl (by decide) ?_
    refine z_aload_n D_x_count_88 rfl ?_
    refine z_getR (q := 22) fl_x_48 (rfl) rfl (rfl) D_x_count_89 ?_
    refine z_getI fl_x_119 (rfl) rfl D_x_count_92 ?_
    exact z_ireturn rfl D_x_count_95 (pvI (by (repeat' split) <;> first | rfl | omega | (exfalso; omega)) rfl)
  by_cases s1_6 : t = 6
  · subst s1_6
    refine z_tabIn (tgt := 96) (off := 95) D_x_count_1 (by omega) (by omega) (by omega) rfl (by decide) ?_
    refine z_aload_n D_x_count_96 rfl ?_
    refine z_getR (q := 11) fl_x_29 (rfl) rfl (rfl) D_x_count_97 ?_
    refine z_getI fl_x_180 (rfl) rfl D_x_count_100 ?_
    exact z_ireturn rfl D_x_count_103 (pvI (by (repeat' split) <;> first | rfl | omega | (exfalso; omega)) rfl)
  by_cases s1_7 : t = 7
  · subst s1_7
    refine z_tabIn (tgt := 104) (off := 103) D_x_count_1 (by omega) (by omega) (by omega) rfl (by decide) ?_
    refine z_aload_n D_x_count_104 rfl ?_
    refine z_getR (q := 1) fl_x_10 (rfl) rfl (rfl) D_x_count_105 ?_
    refine z_getI fl_x_107 (rfl) rfl D_x_count_108 ?_
    exact z_ireturn rfl D_x_count_111 (pvI (by (repeat' split) <;> first | rfl | omega | (exfalso; omega)) rfl)
  refine z_tabOut (tgt := 112) D_x_count_1 (by omega) (by omega) (by decide) ?_
  refine z_iconst D_x_count_112 ?_
  exact z_ireturn rfl D_x_count_113 (pvI (by (repeat' split) <;> first | rfl | omega | (exfalso; omega)) rfl)

theorem c_m_count {h : zH} {t : Int} (r_t : -2147483648 ≤ t ∧ t ≤ 2147483647) : zC M_m_count [vR 39, vI t] h (pV (vI (if t = 0 then h 39 0 else if t = 1 then h 39 2 else if t = 2 then h 39 3 else if t = 3 then h 39 4 else if t = 4 then h 39 9 else if t = 5 then h 39 11 else if t = 6 then nm h 52 else if t = 7 then h 39 15 else -1)) h) := by
  refine zC.ofN 0 (by decide) (by first | decide | exact Nat.le_of_ble_eq_true rfl) ?_
  show Z M_m_count _ 0 [vR 39, vI t] [] h
  refine z_iload_n D_m_count_0 rfl ?_
  by_cases s1_0 : t = 0
  · subst s1_0
    refine z_tabIn (tgt := 48) (off := 47) D_m_count_1 (by omega) (by omega) (by omega) rfl (by decide) ?_
    refine z_aload_n D_m_count_48 rfl ?_
    refine z_getI fl_m_73 (rfl) rfl D_m_count_49 ?_
    exact z_ireturn rfl D_m_count_52 (pvI (by (repeat' split) <;> first | rfl | omega | (exfalso; omega)) rfl)
  by_cases s1_1 : t = 1
  · subst s1_1
    refine z_tabIn (tgt := 53) (off := 52) D_m_count_1 (by omega) (by omega) (by omega) rfl (by decide) ?_
    refine z_aload_n D_m_count_53 rfl ?_
    refine z_getI fl_m_13 (rfl) rfl D_m_count_54 ?_
    exact z_ireturn rfl D_m_count_57 (pvI (by (repeat' split) <;> first | rfl | omega | (exfalso; omega)) rfl)
  by_cases s1_2 : t = 2
  · subst s1_2
    refine z_tabIn (tgt := 58) (off := 57) D_m_count_1 (by omega) (by omega) (by omega) rfl (by decide) ?_
    refine z_aload_n D_m_count_58 rfl ?_
    refine z_getI fl_m_17 (rfl) rfl D_m_count_59 ?_
    exact z_ireturn rfl D_m_count_62 (pvI (by (repeat' split) <;> first | rfl | omega | (exfalso; omega)) rfl)
  by_cases s1_3 : t = 3
  · subst s1_3
    refine z_tabIn (tgt := 63) (off := 62) D_m_count_1 (by omega) (by omega) (by omega) rfl (by decide) ?_
    refine z_aload_n D_m_count_63 rfl ?_
    refine z_getI fl_m_66 (rfl) rfl D_m_count_64 ?_
    exact z_ireturn rfl D_m_count_67 (pvI (by (repeat' split) <;> first | rfl | omega | (exfalso; omega)) rfl)
  by_cases s1_4 : t = 4
  · subst s1_4
    refine z_tabIn (tgt := 68) (off := 67) D_m_count_1 (by omega) (by omega) (by omega) rfl (by decide) ?_
    refine z_aload_n D_m_count_68 rfl ?_
    refine z_getI fl_m_140 (rfl) rfl D_m_count_69 ?_
    exact z_ireturn rfl D_m_count_72 (pvI (by (repeat' split) <;> first | rfl | omega | (exfalso; omega)) rfl)
  by_cases s1_5 : t = 5
  · subst s1_5
    refine z_tabIn (tgt := 73) (off := 72) D_m_count_1 (by omega) (by omega) (by omega) rfl (by decide) ?_
    refine z_aload_n D_m_count_73 rfl ?_
    refine z_getI fl_m_143 (rfl) rfl D_m_count_74 ?_
    exact z_ireturn rfl D_m_count_77 (pvI (by (repeat' split) <;> first | rfl | omega | (exfalso; omega)) rfl)
  by_cases s1_6 : t = 6
  · subst s1_6
    refine z_tabIn (tgt := 78) (off := 77) D_m_count_1 (by omega) (by omega) (by omega) rfl (by decide) ?_
    refine z_aload_n D_m_count_78 rfl ?_
    refine z_getR (q := 42) fl_m_23 (rfl) rfl (rfl) D_m_count_79 ?_
    refine z_bipush (by decide) D_m_count_82 ?_
    refine z_iald (n := 573) (rfl) (by omega) D_m_count_84 ?_
    exact z_ireturn rfl D_m_count_85 (pvI (by (repeat' split) <;> first | rfl | omega | (exfalso; omega)) rfl)
  by_cases s1_7 : t = 7
  · subst s1_7
    refine z_tabIn (tgt := 86) (off := 85) D_m_count_1 (by omega) (by omega) (by omega) rfl (by decide) ?_
    refine z_aload_n D_m_count_86 rfl ?_
    refine z_getI fl_m_76 (rfl) rfl D_m_count_87 ?_
    exact z_ireturn rfl D_m_count_90 (pvI (by (repeat' split) <;> first | rfl | omega | (exfalso; omega)) rfl)
  refine z_tabOut (tgt := 91) D_m_count_1 (by omega) (by omega) (by decide) ?_
  refine z_iconst D_m_count_91 ?_
  exact z_ireturn rfl D_m_count_92 (pvI (by (repeat' split) <;> first | rfl | omega | (exfalso; omega)) rfl)

theorem c_x_trace {h : zH}   : zC M_x_trace [vR 0] h (pV (vL (h 25 5)) h) := by
  refine zC.ofN 0 (by decide) (by first | decide | exact Nat.le_of_ble_eq_true rfl) ?_
  show Z M_x_trace _ 0 [vR 0] [] h
  refine z_aload_n D_x_trace_0 rfl ?_
  refine z_getR (q := 25) fl_x_54 (rfl) rfl (rfl) D_x_trace_1 ?_
  refine z_getL fl_x_267 (rfl) rfl D_x_trace_4 ?_
  exact z_lreturn rfl D_x_trace_7 (pvL rfl rfl)

theorem c_m_trace {h : zH}   : zC M_m_trace [vR 39] h (pV (vL (h 39 13)) h) := by
  refine zC.ofN 0 (by decide) (by first | decide | exact Nat.le_of_ble_eq_true rfl) ?_
  show Z M_m_trace _ 0 [vR 39] [] h
  refine z_aload_n D_m_trace_0 rfl ?_
  refine z_getL fl_m_231 (rfl) rfl D_m_trace_1 ?_
  exact z_lreturn rfl D_m_trace_4 (pvL rfl rfl)

theorem c_x_forget {h : zH}   : zC M_x_forget [vR 0] h (pV (vI (h 19 2 + h 22 2)) (zup (zup h 19 2 0) 22 2 0)) := by
  refine zC.ofN 1 (by decide) (by first | decide | exact Nat.le_of_ble_eq_true rfl) ?_
  show Z M_x_forget _ 0 [vR 0, vU] [] h
  refine z_aload_n D_x_forget_0 rfl ?_
  refine z_getR (q := 19) fl_x_44 (rfl) rfl (rfl) D_x_forget_1 ?_
  refine z_getI fl_x_119 (rfl) rfl D_x_forget_4 ?_
  refine z_aload_n D_x_forget_7 rfl ?_
  refine z_getR (q := 22) fl_x_48 (rfl) rfl (rfl) D_x_forget_8 ?_
  refine z_getI fl_x_119 (rfl) rfl D_x_forget_11 ?_
  refine z_iadd D_x_forget_14 ?_
  refine z_istore_1 D_x_forget_15 (Nat.le_of_ble_eq_true rfl) rfl ?_
  refine z_aload_n D_x_forget_16 rfl ?_
  refine z_getR (q := 19) fl_x_44 (rfl) rfl (rfl) D_x_forget_17 ?_
  refine z_iconst D_x_forget_20 ?_
  refine z_putI fl_x_119 (rfl) rfl rfl D_x_forget_21 ?_
  refine z_aload_n D_x_forget_24 rfl ?_
  refine z_getR (q := 22) fl_x_48 (rfl) rfl (rfl) D_x_forget_25 ?_
  refine z_iconst D_x_forget_28 ?_
  refine z_putI fl_x_119 (rfl) rfl rfl D_x_forget_29 ?_
  refine z_iload_n D_x_forget_32 rfl ?_
  exact z_ireturn rfl D_x_forget_33 (pvI rfl rfl)

theorem c_m_forget {h : zH}   : zC M_m_forget [vR 39] h (pV (vI (h 39 9 + h 39 11)) (zup (zup h 39 9 0) 39 11 0)) := by
  refine zC.ofN 1 (by decide) (by first | decide | exact Nat.le_of_ble_eq_true rfl) ?_
  show Z M_m_forget _ 0 [vR 39, vU] [] h
  refine z_aload_n D_m_forget_0 rfl ?_
  refine z_getI fl_m_140 (rfl) rfl D_m_forget_1 ?_
  refine z_aload_n D_m_forget_4 rfl ?_
  refine z_getI fl_m_143 (rfl) rfl D_m_forget_5 ?_
  refine z_iadd D_m_forget_8 ?_
  refine z_istore_1 D_m_forget_9 (Nat.le_of_ble_eq_true rfl) rfl ?_
  refine z_aload_n D_m_forget_10 rfl ?_
  refine z_iconst D_m_forget_11 ?_
  refine z_putI fl_m_140 (rfl) rfl rfl D_m_forget_12 ?_
  refine z_aload_n D_m_forget_15 rfl ?_
  refine z_iconst D_m_forget_16 ?_
  refine z_putI fl_m_143 (rfl) rfl rfl D_m_forget_17 ?_
  refine z_iload_n D_m_forget_20 rfl ?_
  exact z_ireturn rfl D_m_forget_21 (pvI rfl rfl)

theorem c_n_add_19 {h : zH} {p q : Int} (hs : 0 ≤ h 19 2 ∧ h 19 2 ≤ 6) : zC M_n_add [vR 19, vI p, vI q] h (pV (vI (zb (h 19 2 < 6))) (if h 19 2 < 6 then zup (zup (zup h 20 (h 19 2).toNat p) 21 (h 19 2).toNat q) 19 2 (h 19 2 + 1) else h)) := by
  refine zC.ofN 0 (by decide) (by first | decide | exact Nat.le_of_ble_eq_true rfl) ?_
  show Z M_n_add _ 0 [vR 19, vI p, vI q] [] h
  refine z_aload_n D_n_add_0 rfl ?_
  refine z_getI fl_n_18 (rfl) rfl D_n_add_1 ?_
  refine z_aload_n D_n_add_4 rfl ?_
  refine z_getR (q := 20) fl_n_9 (rfl) rfl (rfl) D_n_add_5 ?_
  refine z_alen (n := 6) (rfl) (by decide) D_n_add_8 ?_
  refine z_icmp_lt (tgt := 14) D_n_add_9 (by decide) (by omega) (by omega) (fun q9 => ?_) (fun q9 => ?_)
  · refine z_aload_n D_n_add_14 rfl ?_
    refine z_getR (q := 20) fl_n_9 (rfl) rfl (rfl) D_n_add_15 ?_
    refine z_aload_n D_n_add_18 rfl ?_
    refine z_getI fl_n_18 (rfl) rfl D_n_add_19 ?_
    refine z_iload_n D_n_add_22 rfl ?_
    refine z_iast (n := 6) (rfl) (by omega) D_n_add_23 ?_
    refine z_aload_n D_n_add_24 rfl ?_
    refine z_getR (q := 21) fl_n_15 (rfl) rfl (rfl) D_n_add_25 ?_
    refine z_aload_n D_n_add_28 rfl ?_
    refine z_getI fl_n_18 (rfl) rfl D_n_add_29 ?_
    refine z_iload_n D_n_add_32 rfl ?_
    rw [zup_ne (show (19 : Nat) ≠ 20 by decide)]
    refine z_iast (n := 6) (rfl) (by omega) D_n_add_33 ?_
    refine z_aload_n D_n_add_34 rfl ?_
    refine z_dup rfl D_n_add_35 ?_
    refine z_getI fl_n_18 (rfl) rfl D_n_add_36 ?_
    refine z_iconst D_n_add_39 ?_
    refine z_iadd D_n_add_40 ?_
    rw [zup_ne (show (19 : Nat) ≠ 21 by decide), zup_ne (show (19 : Nat) ≠ 20 by decide)]
    refine z_putI fl_n_18 (rfl) rfl rfl D_n_add_41 ?_
    refine z_iconst D_n_add_44 ?_
    exact z_zreturn rfl (by first | exact Or.inl rfl | exact Or.inr rfl | exact zb_01 _) D_n_add_45 (pvI (zb_t (by omega)).symm (if_pos (by omega)).symm)
  · refine z_iconst D_n_add_12 ?_
    exact z_zreturn rfl (by first | exact Or.inl rfl | exact Or.inr rfl | exact zb_01 _) D_n_add_13 (pvI (zb_f (by omega)).symm (if_neg (by omega)).symm)

theorem c_n_add_22 {h : zH} {p q : Int} (hs : 0 ≤ h 22 2 ∧ h 22 2 ≤ 6) : zC M_n_add [vR 22, vI p, vI q] h (pV (vI (zb (h 22 2 < 6))) (if h 22 2 < 6 then zup (zup (zup h 23 (h 22 2).toNat p) 24 (h 22 2).toNat q) 22 2 (h 22 2 + 1) else h)) := by
  refine zC.ofN 0 (by decide) (by first | decide | exact Nat.le_of_ble_eq_true rfl) ?_
  show Z M_n_add _ 0 [vR 22, vI p, vI q] [] h
  refine z_aload_n D_n_add_0 rfl ?_
  refine z_getI fl_n_18 (rfl) rfl D_n_add_1 ?_
  refine z_aload_n D_n_add_4 rfl ?_
  refine z_getR (q := 23) fl_n_9 (rfl) rfl (rfl) D_n_add_5 ?_
  refine z_alen (n := 6) (rfl) (by decide) D_n_add_8 ?_
  refine z_icmp_lt (tgt := 14) D_n_add_9 (by decide) (by omega) (by omega) (fun q9 => ?_) (fun q9 => ?_)
  · refine z_aload_n D_n_add_14 rfl ?_
    refine z_getR (q := 23) fl_n_9 (rfl) rfl (rfl) D_n_add_15 ?_
    refine z_aload_n D_n_add_18 rfl ?_
    refine z_getI fl_n_18 (rfl) rfl D_n_add_19 ?_
    refine z_iload_n D_n_add_22 rfl ?_
    refine z_iast (n := 6) (rfl) (by omega) D_n_add_23 ?_
    refine z_aload_n D_n_add_24 rfl ?_
    refine z_getR (q := 24) fl_n_15 (rfl) rfl (rfl) D_n_add_25 ?_
    refine z_aload_n D_n_add_28 rfl ?_
    refine z_getI fl_n_18 (rfl) rfl D_n_add_29 ?_
    refine z_iload_n D_n_add_32 rfl ?_
    rw [zup_ne (show (22 : Nat) ≠ 23 by decide)]
    refine z_iast (n := 6) (rfl) (by omega) D_n_add_33 ?_
    refine z_aload_n D_n_add_34 rfl ?_
    refine z_dup rfl D_n_add_35 ?_
    refine z_getI fl_n_18 (rfl) rfl D_n_add_36 ?_
    refine z_iconst D_n_add_39 ?_
    refine z_iadd D_n_add_40 ?_
    rw [zup_ne (show (22 : Nat) ≠ 24 by decide), zup_ne (show (22 : Nat) ≠ 23 by decide)]
    refine z_putI fl_n_18 (rfl) rfl rfl D_n_add_41 ?_
    refine z_iconst D_n_add_44 ?_
    exact z_zreturn rfl (by first | exact Or.inl rfl | exact Or.inr rfl | exact zb_01 _) D_n_add_45 (pvI (zb_t (by omega)).symm (if_pos (by omega)).symm)
  · refine z_iconst D_n_add_12 ?_
    exact z_zreturn rfl (by first | exact Or.inl rfl | exact Or.inr rfl | exact zb_01 _) D_n_add_13 (pvI (zb_f (by omega)).symm (if_neg (by omega)).symm)

theorem c_x_saw {h : zH} {w : Nat} {p q : Int} (hx : XI h w) (hsz : 0 ≤ h 19 2 ∧ h 19 2 ≤ 6) (r_p : -2147483648 ≤ p ∧ p ≤ 2147483647) (r_q : -2147483648 ≤ q ∧ q ≤ 2147483647) : zC M_x_saw [vR 0, vI p, vI q] h (pV (vI (if (0 ≤ p ∧ p < h w 3) ∧ (0 ≤ q ∧ q ≤ 5) then (if h 19 2 < 6 then h 19 2 + 1 else -3) else -1)) (if ((0 ≤ p ∧ p < h w 3) ∧ (0 ≤ q ∧ q ≤ 5)) ∧ h 19 2 < 6 then zup (zup (zup h 20 (h 19 2).toNat p) 21 (h 19 2).toNat q) 19 2 (h 19 2 + 1) else h)) := by
  refine zC.ofN 0 (by decide) (by first | decide | exact Nat.le_of_ble_eq_true rfl) ?_
  show Z M_x_saw _ 0 [vR 0, vI p, vI q] [] h
  have hw := hx.2.1
  have hu := hx.2.2.1
  have hn := hx.2.2.2.hn
  have hnp := hx.2.2.2.hnp
  have ht := hx.2.2.2.row.ht
  have hh := hx.2.2.2.row.hh
  have hc := hx.2.2.2.row.hc
  refine z_aload_n D_x_saw_0 rfl ?_
  refine z_getW fl_x_19 (by decide) hx.1 D_x_saw_1 ?_
  refine z_iload_n D_x_saw_4 rfl ?_
  refine z_V1 (c0 := 10) (c_w_hasSpot hw hn (by omega)) G_w_hasSpot I_w_hasSpot lk_x_122 (kw hw) ⟨by decide, rfl⟩ ⟨Nat.le_of_ble_eq_true rfl, Nat.le_of_ble_eq_true rfl⟩ (Nat.le_of_ble_eq_true rfl) D_x_saw_5 ?_
  refine z_ifeqB (tgt := 18) D_x_saw_8 (by decide) (fun q8 => ?_) (fun q8 => ?_)
  · refine z_iconst D_x_saw_18 ?_
    exact z_ireturn rfl D_x_saw_19 (pvI (by (repeat' split) <;> first | rfl | omega | (exfalso; omega)) (by (repeat' split) <;> first | rfl | omega | (exfalso; omega)))
  · refine z_iload_n D_x_saw_11 rfl ?_
    refine z_S1 (c_x_isColour (by omega)) G_x_isColour S_x_isColour lk_x_199 ⟨Nat.le_of_ble_eq_true rfl, Nat.le_of_ble_eq_true rfl⟩ (Nat.le_of_ble_eq_true rfl) D_x_saw_12 ?_
    refine z_ifneB (tgt := 20) D_x_saw_15 (by decide) (fun q15 => ?_) (fun q15 => ?_)
    · refine z_aload_n D_x_saw_20 rfl ?_
      refine z_getR (q := 19) fl_x_44 (rfl) rfl (rfl) D_x_saw_21 ?_
      refine z_iload_n D_x_saw_24 rfl ?_
      refine z_iload_n D_x_saw_25 rfl ?_
      refine z_V2 (c0 := 7) (c_n_add_19 hsz) G_n_add I_n_add lk_x_218 (rfl) ⟨by decide, rfl⟩ ⟨Nat.le_of_ble_eq_true rfl, Nat.le_of_ble_eq_true rfl⟩ (Nat.le_of_ble_eq_true rfl) D_x_saw_26 ?_
      refine z_ifeqB (tgt := 42) D_x_saw_29 (by decide) (fun q29 => ?_) (fun q29 => ?_)
      · rw [if_neg q29]
        refine z_bipush (by decide) D_x_saw_42 ?_
        exact z_ireturn rfl D_x_saw_44 (pvI (by (try rw [zup_same]); (repeat' split) <;> first | rfl | omega | (exfalso; omega)) (by (repeat' split) <;> first | rfl | omega | (exfalso; omega)))
      · rw [if_pos q29]
        refine z_aload_n D_x_saw_32 rfl ?_
        refine z_getR (q := 19) fl_x_44 (rfl) rfl (rfl) D_x_saw_33 ?_
        refine z_getI fl_x_119 (rfl) rfl D_x_saw_36 ?_
        refine z_goto (tgt := 44) D_x_saw_39 (by decide) ?_
        exact z_ireturn rfl D_x_saw_44 (pvI (by (try rw [zup_same]); (repeat' split) <;> first | rfl | omega | (exfalso; omega)) (by (repeat' split) <;> first | rfl | omega | (exfalso; omega)))
    · refine z_iconst D_x_saw_18 ?_
      exact z_ireturn rfl D_x_saw_19 (pvI (by (repeat' split) <;> first | rfl | omega | (exfalso; omega)) (by (repeat' split) <;> first | rfl | omega | (exfalso; omega)))

theorem c_m_saw {h : zH} {p q : Int} (hm : MI h) (hsz : 0 ≤ h 39 9 ∧ h 39 9 ≤ 6) (r_p : -2147483648 ≤ p ∧ p ≤ 2147483647) (r_q : -2147483648 ≤ q ∧ q ≤ 2147483647) : zC M_m_saw [vR 39, vI p, vI q] h (pV (vI (if (0 ≤ p ∧ p < h 39 0) ∧ (0 ≤ q ∧ q ≤ 5) then (if h 39 9 < 6 then h 39 9 + 1 else -3) else -1)) (if ((0 ≤ p ∧ p < h 39 0) ∧ (0 ≤ q ∧ q ≤ 5)) ∧ h 39 9 < 6 then zup (zup (zup h 45 (2 * h 39 9).toNat p) 45 (2 * h 39 9 + 1).toNat q) 39 9 (h 39 9 + 1) else h)) := by
  refine zC.ofN 0 (by decide) (by first | decide | exact Nat.le_of_ble_eq_true rfl) ?_
  show Z M_m_saw _ 0 [vR 39, vI p, vI q] [] h
  have hn := hm.hn
  have hnp := hm.hnp
  have ht := hm.row.ht
  have hh := hm.row.hh
  have hc := hm.row.hc
  unfold nm at ht hh hc
  refine z_aload_n D_m_saw_0 rfl ?_
  refine z_iload_n D_m_saw_1 rfl ?_
  refine z_V1 (c0 := 12) (c_m_isSpot hn (by omega)) G_m_isSpot I_m_isSpot lk_m_146 (rfl) ⟨by decide, rfl⟩ ⟨Nat.le_of_ble_eq_true rfl, Nat.le_of_ble_eq_true rfl⟩ (Nat.le_of_ble_eq_true rfl) D_m_saw_2 ?_
  refine z_ifeqB (tgt := 15) D_m_saw_5 (by decide) (fun q5 => ?_) (fun q5 => ?_)
  · refine z_iconst D_m_saw_15 ?_
    exact z_ireturn rfl D_m_saw_16 (pvI (by (try rw [zup_same]); (repeat' split) <;> first | rfl | omega | (exfalso; omega)) (by (repeat' split) <;> first | rfl | omega | (exfalso; omega)))
  · refine z_iload_n D_m_saw_8 rfl ?_
    refine z_S1 (c_m_isColour (by omega)) G_m_isColour S_m_isColour lk_m_200 ⟨Nat.le_of_ble_eq_true rfl, Nat.le_of_ble_eq_true rfl⟩ (Nat.le_of_ble_eq_true rfl) D_m_saw_9 ?_
    refine z_ifneB (tgt := 17) D_m_saw_12 (by decide) (fun q12 => ?_) (fun q12 => ?_)
    · refine z_aload_n D_m_saw_17 rfl ?_
      refine z_getI fl_m_140 (rfl) rfl D_m_saw_18 ?_
      refine z_bipush (by decide) D_m_saw_21 ?_
      refine z_icmp_ne (tgt := 29) D_m_saw_23 (by decide) (by omega) (by omega) (fun q23 => ?_) (fun q23 => ?_)
      · refine z_aload_n D_m_saw_29 rfl ?_
        refine z_getR (q := 45) fl_m_33 (rfl) rfl (rfl) D_m_saw_30 ?_
        refine z_iconst D_m_saw_33 ?_
        refine z_aload_n D_m_saw_34 rfl ?_
        refine z_getI fl_m_140 (rfl) rfl D_m_saw_35 ?_
        refine z_imul D_m_saw_38 ?_
        refine z_iload_n D_m_saw_39 rfl ?_
        refine z_iast (n := 12) (rfl) (by omega) D_m_saw_40 ?_
        refine z_aload_n D_m_saw_41 rfl ?_
        refine z_getR (q := 45) fl_m_33 (rfl) rfl (rfl) D_m_saw_42 ?_
        refine z_iconst D_m_saw_45 ?_
        refine z_aload_n D_m_saw_46 rfl ?_
        refine z_getI fl_m_140 (rfl) rfl D_m_saw_47 ?_
        refine z_imul D_m_saw_50 ?_
        refine z_iconst D_m_saw_51 ?_
        refine z_iadd D_m_saw_52 ?_
        refine z_iload_n D_m_saw_53 rfl ?_
        rw [zup_ne (show (39 : Nat) ≠ 45 by decide)]
        refine z_iast (n := 12) (rfl) (by omega) D_m_saw_54 ?_
        refine z_aload_n D_m_saw_55 rfl ?_
        refine z_dup rfl D_m_saw_56 ?_
        refine z_getI fl_m_140 (rfl) rfl D_m_saw_57 ?_
        refine z_iconst D_m_saw_60 ?_
        refine z_iadd D_m_saw_61 ?_
        rw [zup_ne (show (39 : Nat) ≠ 45 by decide), zup_ne (show (39 : Nat) ≠ 45 by decide)]
        refine z_putI fl_m_140 (rfl) rfl rfl D_m_saw_62 ?_
        refine z_aload_n D_m_saw_65 rfl ?_
        refine z_getI fl_m_140 (rfl) rfl D_m_saw_66 ?_
        exact z_ireturn rfl D_m_saw_69 (pvI (by (try rw [zup_same]); (repeat' split) <;> first | rfl | omega | (exfalso; omega)) (by (repeat' split) <;> first | rfl | omega | (exfalso; omega)))
      · refine z_bipush (by decide) D_m_saw_26 ?_
        exact z_ireturn rfl D_m_saw_28 (pvI (by (try rw [zup_same]); (repeat' split) <;> first | rfl | omega | (exfalso; omega)) (by (repeat' split) <;> first | rfl | omega | (exfalso; omega)))
    · refine z_iconst D_m_saw_15 ?_
      exact z_ireturn rfl D_m_saw_16 (pvI (by (try rw [zup_same]); (repeat' split) <;> first | rfl | omega | (exfalso; omega)) (by (repeat' split) <;> first | rfl | omega | (exfalso; omega)))

theorem c_x_hears {h : zH} {w : Nat} {p q : Int} (hx : XI h w) (hsz : 0 ≤ h 22 2 ∧ h 22 2 ≤ 6) (r_p : -2147483648 ≤ p ∧ p ≤ 2147483647) (r_q : -2147483648 ≤ q ∧ q ≤ 2147483647) : zC M_x_hears [vR 0, vI p, vI q] h (pV (vI (if (1 ≤ p ∧ p ≤ 60) ∧ (0 ≤ q ∧ q ≤ 999) then (if h 22 2 < 6 then h 22 2 + 1 else -3) else -1)) (if ((1 ≤ p ∧ p ≤ 60) ∧ (0 ≤ q ∧ q ≤ 999)) ∧ h 22 2 < 6 then zup (zup (zup h 23 (h 22 2).toNat p) 24 (h 22 2).toNat q) 22 2 (h 22 2 + 1) else h)) := by
  refine zC.ofN 0 (by decide) (by first | decide | exact Nat.le_of_ble_eq_true rfl) ?_
  show Z M_x_hears _ 0 [vR 0, vI p, vI q] [] h
  have hw := hx.2.1
  have hu := hx.2.2.1
  have hn := hx.2.2.2.hn
  have hnp := hx.2.2.2.hnp
  have ht := hx.2.2.2.row.ht
  have hh := hx.2.2.2.row.hh
  have hc := hx.2.2.2.row.hc
  refine z_iload_n D_x_hears_0 rfl ?_
  refine z_S1 (c_x_isSpeed (by omega)) G_x_isSpeed S_x_isSpeed lk_x_152 ⟨Nat.le_of_ble_eq_true rfl, Nat.le_of_ble_eq_true rfl⟩ (Nat.le_of_ble_eq_true rfl) D_x_hears_1 ?_
  refine z_ifeqB (tgt := 18) D_x_hears_4 (by decide) (fun q4 => ?_) (fun q4 => ?_)
  · refine z_iconst D_x_hears_18 ?_
    exact z_ireturn rfl D_x_hears_19 (pvI (by (repeat' split) <;> first | rfl | omega | (exfalso; omega)) (by (repeat' split) <;> first | rfl | omega | (exfalso; omega)))
  · refine z_iload_n D_x_hears_7 rfl ?_
    refine z_iconst D_x_hears_8 ?_
    refine z_sipush (by decide) D_x_hears_9 ?_
    refine z_S3 (c_x_isWithin (by omega) (by omega) (by omega)) G_x_isWithin S_x_isWithin lk_x_99 ⟨Nat.le_of_ble_eq_true rfl, Nat.le_of_ble_eq_true rfl⟩ (Nat.le_of_ble_eq_true rfl) D_x_hears_12 ?_
    refine z_ifneB (tgt := 20) D_x_hears_15 (by decide) (fun q15 => ?_) (fun q15 => ?_)
    · refine z_aload_n D_x_hears_20 rfl ?_
      refine z_getR (q := 22) fl_x_48 (rfl) rfl (rfl) D_x_hears_21 ?_
      refine z_iload_n D_x_hears_24 rfl ?_
      refine z_iload_n D_x_hears_25 rfl ?_
      refine z_V2 (c0 := 7) (c_n_add_22 hsz) G_n_add I_n_add lk_x_218 (rfl) ⟨by decide, rfl⟩ ⟨Nat.le_of_ble_eq_true rfl, Nat.le_of_ble_eq_true rfl⟩ (Nat.le_of_ble_eq_true rfl) D_x_hears_26 ?_
      refine z_ifeqB (tgt := 42) D_x_hears_29 (by decide) (fun q29 => ?_) (fun q29 => ?_)
      · rw [if_neg q29]
        refine z_bipush (by decide) D_x_hears_42 ?_
        exact z_ireturn rfl D_x_hears_44 (pvI (by (try rw [zup_same]); (repeat' split) <;> first | rfl | omega | (exfalso; omega)) (by (repeat' split) <;> first | rfl | omega | (exfalso; omega)))
      · rw [if_pos q29]
        refine z_aload_n D_x_hears_32 rfl ?_
        refine z_getR (q := 22) fl_x_48 (rfl) rfl (rfl) D_x_hears_33 ?_
        refine z_getI fl_x_119 (rfl) rfl D_x_hears_36 ?_
        refine z_goto (tgt := 44) D_x_hears_39 (by decide) ?_
        exact z_ireturn rfl D_x_hears_44 (pvI (by (try rw [zup_same]); (repeat' split) <;> first | rfl | omega | (exfalso; omega)) (by (repeat' split) <;> first | rfl | omega | (exfalso; omega)))
    · refine z_iconst D_x_hears_18 ?_
      exact z_ireturn rfl D_x_hears_19 (pvI (by (repeat' split) <;> first | rfl | omega | (exfalso; omega)) (by (repeat' split) <;> first | rfl | omega | (exfalso; omega)))

theorem c_m_hears {h : zH} {p q : Int} (hm : MI h) (hsz : 0 ≤ h 39 11 ∧ h 39 11 ≤ 6) (r_p : -2147483648 ≤ p ∧ p ≤ 2147483647) (r_q : -2147483648 ≤ q ∧ q ≤ 2147483647) : zC M_m_hears [vR 39, vI p, vI q] h (pV (vI (if (1 ≤ p ∧ p ≤ 60) ∧ (0 ≤ q ∧ q ≤ 999) then (if h 39 11 < 6 then h 39 11 + 1 else -3) else -1)) (if ((1 ≤ p ∧ p ≤ 60) ∧ (0 ≤ q ∧ q ≤ 999)) ∧ h 39 11 < 6 then zup (zup (zup h 46 (2 * h 39 11).toNat p) 46 (2 * h 39 11 + 1).toNat q) 39 11 (h 39 11 + 1) else h)) := by
  refine zC.ofN 0 (by decide) (by first | decide | exact Nat.le_of_ble_eq_true rfl) ?_
  show Z M_m_hears _ 0 [vR 39, vI p, vI q] [] h
  have hn := hm.hn
  have hnp := hm.hnp
  have ht := hm.row.ht
  have hh := hm.row.hh
  have hc := hm.row.hc
  unfold nm at ht hh hc
  refine z_iload_n D_m_hears_0 rfl ?_
  refine z_S1 (c_m_isSpeed (by omega)) G_m_isSpeed S_m_isSpeed lk_m_169 ⟨Nat.le_of_ble_eq_true rfl, Nat.le_of_ble_eq_true rfl⟩ (Nat.le_of_ble_eq_true rfl) D_m_hears_1 ?_
  refine z_ifeqB (tgt := 18) D_m_hears_4 (by decide) (fun q4 => ?_) (fun q4 => ?_)
  · refine z_iconst D_m_hears_18 ?_
    exact z_ireturn rfl D_m_hears_19 (pvI (by (try rw [zup_same]); (repeat' split) <;> first | rfl | omega | (exfalso; omega)) (by (repeat' split) <;> first | rfl | omega | (exfalso; omega)))
  · refine z_iload_n D_m_hears_7 rfl ?_
    refine z_iconst D_m_hears_8 ?_
    refine z_sipush (by decide) D_m_hears_9 ?_
    refine z_S3 (c_m_in (by omega) (by omega) (by omega)) G_m_in S_m_in lk_m_69 ⟨Nat.le_of_ble_eq_true rfl, Nat.le_of_ble_eq_true rfl⟩ (Nat.le_of_ble_eq_true rfl) D_m_hears_12 ?_
    refine z_ifneB (tgt := 20) D_m_hears_15 (by decide) (fun q15 => ?_) (fun q15 => ?_)
    · refine z_aload_n D_m_hears_20 rfl ?_
      refine z_getI fl_m_143 (rfl) rfl D_m_hears_21 ?_
      refine z_bipush (by decide) D_m_hears_24 ?_
      refine z_icmp_ne (tgt := 32) D_m_hears_26 (by decide) (by omega) (by omega) (fun q26 => ?_) (fun q26 => ?_)
      · refine z_aload_n D_m_hears_32 rfl ?_
        refine z_getR (q := 46) fl_m_36 (rfl) rfl (rfl) D_m_hears_33 ?_
        refine z_iconst D_m_hears_36 ?_
        refine z_aload_n D_m_hears_37 rfl ?_
        refine z_getI fl_m_143 (rfl) rfl D_m_hears_38 ?_
        refine z_imul D_m_hears_41 ?_
        refine z_iload_n D_m_hears_42 rfl ?_
        refine z_iast (n := 12) (rfl) (by omega) D_m_hears_43 ?_
        refine z_aload_n D_m_hears_44 rfl ?_
        refine z_getR (q := 46) fl_m_36 (rfl) rfl (rfl) D_m_hears_45 ?_
        refine z_iconst D_m_hears_48 ?_
        refine z_aload_n D_m_hears_49 rfl ?_
        refine z_getI fl_m_143 (rfl) rfl D_m_hears_50 ?_
        refine z_imul D_m_hears_53 ?_
        refine z_iconst D_m_hears_54 ?_
        refine z_iadd D_m_hears_55 ?_
        refine z_iload_n D_m_hears_56 rfl ?_
        rw [zup_ne (show (39 : Nat) ≠ 46 by decide)]
        refine z_iast (n := 12) (rfl) (by omega) D_m_hears_57 ?_
        refine z_aload_n D_m_hears_58 rfl ?_
        refine z_dup rfl D_m_hears_59 ?_
        refine z_getI fl_m_143 (rfl) rfl D_m_hears_60 ?_
        refine z_iconst D_m_hears_63 ?_
        refine z_iadd D_m_hears_64 ?_
        rw [zup_ne (show (39 : Nat) ≠ 46 by decide), zup_ne (show (39 : Nat) ≠ 46 by decide)]
        refine z_putI fl_m_143 (rfl) rfl rfl D_m_hears_65 ?_
        refine z_aload_n D_m_hears_68 rfl ?_
        refine z_getI fl_m_143 (rfl) rfl D_m_hears_69 ?_
        exact z_ireturn rfl D_m_hears_72 (pvI (by (try rw [zup_same]); (repeat' split) <;> first | rfl | omega | (exfalso; omega)) (by (repeat' split) <;> first | rfl | omega | (exfalso; omega)))
      · refine z_bipush (by decide) D_m_hears_29 ?_
        exact z_ireturn rfl D_m_hears_31 (pvI (by (try rw [zup_same]); (repeat' split) <;> first | rfl | omega | (exfalso; omega)) (by (repeat' split) <;> first | rfl | omega | (exfalso; omega)))
    · refine z_iconst D_m_hears_18 ?_
      exact z_ireturn rfl D_m_hears_19 (pvI (by (try rw [zup_same]); (repeat' split) <;> first | rfl | omega | (exfalso; omega)) (by (repeat' split) <;> first | rfl | omega | (exfalso; omega)))
end
section
/-! bits -/
theorem i32_n (a : Nat) : Int32.ofInt (a : Int) = nI a := Int32.ofInt_eq_ofNat
theorem i64_n (a : Nat) : Int64.ofInt (a : Int) = lN a := Int64.ofInt_eq_ofNat
theorem bt_sh : ∀ n, n < 32 → ((nI n &&& 31).toBitVec.smod 32).toNat = n := by decide
theorem bt_shl : ∀ n, n < 63 → ((nI n).toInt64 &&& 63).toBitVec.smod 64 = BitVec.ofNat 64 n := by decide
theorem bt_or (a b : Nat) : nI a ||| nI b = nI (a ||| b) := Int32.toBitVec.inj (by
  show BitVec.ofNat 32 a ||| BitVec.ofNat 32 b = BitVec.ofNat 32 (a ||| b)
  rw [BitVec.ofNat_or])
theorem bl_or (a b : Nat) : lN a ||| lN b = lN (a ||| b) := Int64.toBitVec.inj (by
  show BitVec.ofNat 64 a ||| BitVec.ofNat 64 b = BitVec.ofNat 64 (a ||| b)
  rw [BitVec.ofNat_or])
theorem bl_and1 {a : Nat} (h : a < 2 ^ 63) : lN a &&& 1 = lN (a % 2) := by
  apply Int64.toBitVec_inj.mp
  apply BitVec.eq_of_toNat_eq
  rw [Int64.toBitVec_and, BitVec.toNat_and]
  show (BitVec.ofNat 64 a).toNat &&& 1 = (BitVec.ofNat 64 (a % 2)).toNat
  rw [BitVec.toNat_ofNat, BitVec.toNat_ofNat, Nat.and_one_is_mod]
  omega
theorem bl_shr {a k : Nat} (h : a < 2 ^ 63) (hk : k < 63) : lN a >>> ((nI k).toInt64 &&& 63) = lN (a / 2 ^ k) := by
  apply Int64.toInt_inj.mp
  have h2 : a / 2 ^ k ≤ a := Nat.div_le_self _ _
  have e : (lN a >>> ((nI k).toInt64 &&& 63)).toInt = (lN a).toInt >>> k := by
    show ((lN a).toBitVec.sshiftRight (((nI k).toInt64 &&& 63).toBitVec.smod 64).toNat).toInt = _
    rw [bt_shl k hk, BitVec.toInt_sshiftRight, BitVec.toNat_ofNat, Nat.mod_eq_of_lt (by omega)]
    rfl
  rw [e, pk_lT h, pk_lT (by omega), Int.shiftRight_eq_div_pow]
  rfl
theorem bl_shl1 : ∀ n, n < 63 → (1 : Int64) <<< ((nI n).toInt64 &&& 63) = lN (2 ^ n) := by decide
theorem tb_iff {a k : Nat} : ((a / 2 ^ k % 2 : Nat) : Int) = 1 ↔ a.testBit k = true := by
  rw [Nat.testBit_eq_decide_div_mod_eq, decide_eq_true_iff]
  omega
section ZT
variable {M : zM} {post : Option zV → zH → Prop} {pc : Nat} {lv st : List zV} {h : zH}
theorem z_ior {x y : Int} (hd : decode M.2.1 pc = .ok (.ior, 1)) (a b : Nat) (ha : x = a) (hb : y = b) (k : Z M post (pc + 1) lv (vI ((a ||| b : Nat) : Int) :: st) h) : Z M post pc lv (vI y :: vI x :: st) h := by
  intro p l e s m args below meth c D r ca B H locs ls P L
  have k := k p l e s m args below meth c D r ca B H locs ls P L
  subst ha; subst hb
  refine lv_ior B.1 B.2.1 hd ?_
  rw [i32_n, i32_n, bt_or, ← i32_n]
  exact k
theorem z_ishl {x y : Int} (hd : decode M.2.1 pc = .ok (.ishl, 1)) (i : Nat) (hx : x = 1) (hy : y = i) (hi : i < 31) (k : Z M post (pc + 1) lv (vI ((2 ^ i : Nat) : Int) :: st) h) : Z M post pc lv (vI y :: vI x :: st) h := by
  intro p l e s m args below meth c D r ca B H locs ls P L
  have k := k p l e s m args below meth c D r ca B H locs ls P L
  subst hx; subst hy
  refine lv_ishl B.1 B.2.1 hd ?_
  have e1 : (nI 1) <<< (nI i &&& 31) = nI (1 * 2 ^ i) := pk_shlN _ i (bt_sh i (by omega)) (by
    have : 2 ^ i ≤ 2 ^ 31 := Nat.pow_le_pow_right (by decide) (by omega)
    omega)
  rw [i32_n, show Int32.ofInt 1 = nI 1 from rfl, e1, Nat.one_mul, ← i32_n]
  exact k
theorem z_ishr {x y : Int} (hd : decode M.2.1 pc = .ok (.ishr, 1)) (a i : Nat) (hx : x = a) (hy : y = i) (ha : a < 2 ^ 31) (hi : i < 32) (k : Z M post (pc + 1) lv (vI ((a / 2 ^ i : Nat) : Int) :: st) h) : Z M post pc lv (vI y :: vI x :: st) h := by
  intro p l e s m args below meth c D r ca B H locs ls P L
  have k := k p l e s m args below meth c D r ca B H locs ls P L
  subst hx; subst hy
  refine lv_ishr B.1 B.2.1 hd ?_
  rw [i32_n, i32_n, pk_shrN ha _ i (bt_sh i hi), ← i32_n]
  exact k
theorem z_iand1 {a i : Nat} (hd : decode M.2.1 pc = .ok (.iand, 1)) (ha : a < 2 ^ 31) (k : Z M post (pc + 1) lv (vI ((a / 2 ^ i % 2 : Nat) : Int) :: st) h) : Z M post pc lv (vI 1 :: vI ((a / 2 ^ i : Nat) : Int) :: st) h := by
  intro p l e s m args below meth c D r ca B H locs ls P L
  have k := k p l e s m args below meth c D r ca B H locs ls P L
  refine lv_iand B.1 B.2.1 hd ?_
  have h2 : a / 2 ^ i ≤ a := Nat.div_le_self _ _
  have e1 : nI (a / 2 ^ i) &&& nI 1 = nI (a / 2 ^ i % 2 ^ 1) := pk_andN (by omega) 1 (by decide)
  rw [i32_n, show Int32.ofInt 1 = nI 1 from rfl, e1, show (2 : Nat) ^ 1 = 2 from rfl, ← i32_n]
  exact k
theorem z_lor {x y : Int} (hd : decode M.2.1 pc = .ok (.lor, 1)) (a b : Nat) (ha : x = a) (hb : y = b) (k : Z M post (pc + 1) lv (vL ((a ||| b : Nat) : Int) :: st) h) : Z M post pc lv (vL y :: vL x :: st) h := by
  intro p l e s m args below meth c D r ca B H locs ls P L
  have k := k p l e s m args below meth c D r ca B H locs ls P L
  subst ha; subst hb
  refine lv_lor B.1 B.2.1 hd ?_
  rw [i64_n, i64_n, bl_or, ← i64_n]
  exact k
theorem z_lshl {y : Int} (hd : decode M.2.1 pc = .ok (.lshl, 1)) (i : Nat) (hy : y = i) (hi : i < 63) (k : Z M post (pc + 1) lv (vL ((2 ^ i : Nat) : Int) :: st) h) : Z M post pc lv (vI y :: vL 1 :: st) h := by
  intro p l e s m args below meth c D r ca B H locs ls P L
  have k := k p l e s m args below meth c D r ca B H locs ls P L
  subst hy
  refine lv_lshl B.1 B.2.1 hd ?_ k
  rw [i32_n, show Int64.ofInt 1 = 1 from rfl, bl_shl1 i hi, ← i64_n]
theorem z_lshr {x y : Int} (hd : decode M.2.1 pc = .ok (.lshr, 1)) (a i : Nat) (hx : x = a) (hy : y = i) (ha : a < 2 ^ 63) (hi : i < 63) (k : Z M post (pc + 1) lv (vL ((a / 2 ^ i : Nat) : Int) :: st) h) : Z M post pc lv (vI y :: vL x :: st) h := by
  intro p l e s m args below meth c D r ca B H locs ls P L
  have k := k p l e s m args below meth c D r ca B H locs ls P L
  subst hx; subst hy
  refine lv_lshr B.1 B.2.1 hd ?_ k
  rw [i32_n, i64_n, bl_shr ha hi, ← i64_n]
theorem z_land1 {a i : Nat} (hd : decode M.2.1 pc = .ok (.land, 1)) (ha : a < 2 ^ 63) (k : Z M post (pc + 1) lv (vL ((a / 2 ^ i % 2 : Nat) : Int) :: st) h) : Z M post pc lv (vL 1 :: vL ((a / 2 ^ i : Nat) : Int) :: st) h := by
  intro p l e s m args below meth c D r ca B H locs ls P L
  have k := k p l e s m args below meth c D r ca B H locs ls P L
  refine lv_land B.1 B.2.1 hd ?_
  have h2 : a / 2 ^ i ≤ a := Nat.div_le_self _ _
  rw [i64_n, show Int64.ofInt 1 = 1 from rfl, bl_and1 (by omega), ← i64_n]
  exact k
theorem z_lcmp {x y : Int} (hd : decode M.2.1 pc = .ok (.lcmp, 1)) (a b : Nat) (hx : x = a) (hy : y = b) (ha : a < 2 ^ 63) (hb : b < 2 ^ 63) (k : ∀ z : Int, (-1 ≤ z ∧ z ≤ 1) → (z = 0 ↔ a = b) → Z M post (pc + 1) lv (vI z :: st) h) : Z M post pc lv (vL y :: vL x :: st) h := by
  intro p l e s m args below meth c D r ca B H locs ls P L
  subst hx; subst hy
  refine W.lcmp B.1 B.2.1 hd ?_
  unfold lg_cmp
  rw [i64_n, i64_n]
  by_cases h1 : lN a > lN b
  · rw [if_pos h1]
    have : b < a := (pk_lLT hb ha).mp h1
    exact k 1 (by omega) (by omega) p l e s m args below meth c D r ca B H locs ls P L
  · rw [if_neg h1]
    by_cases h2 : lN a = lN b
    · rw [if_pos h2]
      have : a = b := (pk_lEQ ha hb).mp h2
      exact k 0 (by omega) (by omega) p l e s m args below meth c D r ca B H locs ls P L
    · rw [if_neg h2]
      have : a ≠ b := fun q => h2 ((pk_lEQ ha hb).mpr q)
      exact k (-1) (by omega) (by omega) p l e s m args below meth c D r ca B H locs ls P L
end ZT
end
