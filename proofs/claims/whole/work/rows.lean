section
def lw_okq (q : MethodName × Nat) : Prop := (q.1.cls ≠ "java/lang/invoke/MethodHandle" ∧ q.1.cls ≠ "java/lang/invoke/VarHandle") ∧ Cond.instantiable q.1.cls q.2 ∈ tables_1 ∧ Cond.privateMethod q.1 ∈ tables_1 ∧ Cond.instanceMethod q.1 ∈ tables_1
theorem lw_p0 : lw_okq (⟨"RoseWheel", "colourOf", "(I)I"⟩, 16) := ⟨⟨by decide +kernel, by decide +kernel⟩, List.mem_of_getElem? (i := 18) (by decide +kernel), List.mem_of_getElem? (i := 381) (by decide +kernel), List.mem_of_getElem? (i := 382) (by decide +kernel)⟩
theorem lw_p1 : lw_okq (⟨"RoseWheel", "owedByAll", "(I)I"⟩, 16) := ⟨⟨by decide +kernel, by decide +kernel⟩, List.mem_of_getElem? (i := 18) (by decide +kernel), List.mem_of_getElem? (i := 396) (by decide +kernel), List.mem_of_getElem? (i := 397) (by decide +kernel)⟩
theorem lw_p2 : lw_okq (⟨"RoseWheel", "areTwo", "(II)Z"⟩, 16) := ⟨⟨by decide +kernel, by decide +kernel⟩, List.mem_of_getElem? (i := 18) (by decide +kernel), List.mem_of_getElem? (i := 407) (by decide +kernel), List.mem_of_getElem? (i := 408) (by decide +kernel)⟩
theorem lw_p3 : lw_okq (⟨"RoseWheel", "turnBehind", "(I)I"⟩, 16) := ⟨⟨by decide +kernel, by decide +kernel⟩, List.mem_of_getElem? (i := 18) (by decide +kernel), List.mem_of_getElem? (i := 425) (by decide +kernel), List.mem_of_getElem? (i := 426) (by decide +kernel)⟩
theorem lw_p4 : lw_okq (⟨"RoseWheel", "holdFeast", "()V"⟩, 16) := ⟨⟨by decide +kernel, by decide +kernel⟩, List.mem_of_getElem? (i := 18) (by decide +kernel), List.mem_of_getElem? (i := 438) (by decide +kernel), List.mem_of_getElem? (i := 439) (by decide +kernel)⟩
theorem lw_p5 : lw_okq (⟨"RoseWheel", "oweBlueTo", "(I)V"⟩, 16) := ⟨⟨by decide +kernel, by decide +kernel⟩, List.mem_of_getElem? (i := 18) (by decide +kernel), List.mem_of_getElem? (i := 442) (by decide +kernel), List.mem_of_getElem? (i := 443) (by decide +kernel)⟩
theorem lw_p6 : lw_okq (⟨"RoseWheel", "whoIsOn", "(I)I"⟩, 16) := ⟨⟨by decide +kernel, by decide +kernel⟩, List.mem_of_getElem? (i := 18) (by decide +kernel), List.mem_of_getElem? (i := 451) (by decide +kernel), List.mem_of_getElem? (i := 452) (by decide +kernel)⟩
theorem lw_p7 : lw_okq (⟨"RoseWheel", "owedInAll", "()I"⟩, 16) := ⟨⟨by decide +kernel, by decide +kernel⟩, List.mem_of_getElem? (i := 18) (by decide +kernel), List.mem_of_getElem? (i := 475) (by decide +kernel), List.mem_of_getElem? (i := 476) (by decide +kernel)⟩
theorem lw_p8 : lw_okq (⟨"RoseWheel", "ringOfDebts", "()I"⟩, 16) := ⟨⟨by decide +kernel, by decide +kernel⟩, List.mem_of_getElem? (i := 18) (by decide +kernel), List.mem_of_getElem? (i := 488) (by decide +kernel), List.mem_of_getElem? (i := 489) (by decide +kernel)⟩
theorem lw_p9 : lw_okq (⟨"RoseWheel", "debtorsBehind", "(I)I"⟩, 16) := ⟨⟨by decide +kernel, by decide +kernel⟩, List.mem_of_getElem? (i := 18) (by decide +kernel), List.mem_of_getElem? (i := 492) (by decide +kernel), List.mem_of_getElem? (i := 493) (by decide +kernel)⟩
theorem lw_p10 : lw_okq (⟨"RoseWheel", "debtorsOf", "(I)I"⟩, 16) := ⟨⟨by decide +kernel, by decide +kernel⟩, List.mem_of_getElem? (i := 18) (by decide +kernel), List.mem_of_getElem? (i := 496) (by decide +kernel), List.mem_of_getElem? (i := 497) (by decide +kernel)⟩
theorem lw_p11 : lw_okq (⟨"RoseWheel", "colourBehind", "(II)I"⟩, 16) := ⟨⟨by decide +kernel, by decide +kernel⟩, List.mem_of_getElem? (i := 18) (by decide +kernel), List.mem_of_getElem? (i := 512) (by decide +kernel), List.mem_of_getElem? (i := 513) (by decide +kernel)⟩
theorem lw_p12 : lw_okq (⟨"RoseWheel", "speedsFor", "(III)I"⟩, 16) := ⟨⟨by decide +kernel, by decide +kernel⟩, List.mem_of_getElem? (i := 18) (by decide +kernel), List.mem_of_getElem? (i := 523) (by decide +kernel), List.mem_of_getElem? (i := 524) (by decide +kernel)⟩
theorem lw_p13 : lw_okq (⟨"RoseWheel", "leastSpeedFor", "(II)I"⟩, 16) := ⟨⟨by decide +kernel, by decide +kernel⟩, List.mem_of_getElem? (i := 18) (by decide +kernel), List.mem_of_getElem? (i := 527) (by decide +kernel), List.mem_of_getElem? (i := 528) (by decide +kernel)⟩
theorem lw_p14 : lw_okq (⟨"RoseWheel", "seatAll", "(I)I"⟩, 16) := ⟨⟨by decide +kernel, by decide +kernel⟩, List.mem_of_getElem? (i := 18) (by decide +kernel), List.mem_of_getElem? (i := 548) (by decide +kernel), List.mem_of_getElem? (i := 549) (by decide +kernel)⟩
theorem lw_p15 : lw_okq (⟨"RoseWheel", "mostServed", "()I"⟩, 16) := ⟨⟨by decide +kernel, by decide +kernel⟩, List.mem_of_getElem? (i := 18) (by decide +kernel), List.mem_of_getElem? (i := 553) (by decide +kernel), List.mem_of_getElem? (i := 554) (by decide +kernel)⟩
def lw_privs_1 : List (MethodName × Nat) := [(⟨"RoseWheel", "colourOf", "(I)I"⟩, 16), (⟨"RoseWheel", "owedByAll", "(I)I"⟩, 16), (⟨"RoseWheel", "areTwo", "(II)Z"⟩, 16), (⟨"RoseWheel", "turnBehind", "(I)I"⟩, 16), (⟨"RoseWheel", "holdFeast", "()V"⟩, 16), (⟨"RoseWheel", "oweBlueTo", "(I)V"⟩, 16), (⟨"RoseWheel", "whoIsOn", "(I)I"⟩, 16), (⟨"RoseWheel", "owedInAll", "()I"⟩, 16), (⟨"RoseWheel", "ringOfDebts", "()I"⟩, 16), (⟨"RoseWheel", "debtorsBehind", "(I)I"⟩, 16), (⟨"RoseWheel", "debtorsOf", "(I)I"⟩, 16), (⟨"RoseWheel", "colourBehind", "(II)I"⟩, 16), (⟨"RoseWheel", "speedsFor", "(III)I"⟩, 16), (⟨"RoseWheel", "leastSpeedFor", "(II)I"⟩, 16), (⟨"RoseWheel", "seatAll", "(I)I"⟩, 16), (⟨"RoseWheel", "mostServed", "()I"⟩, 16)]
theorem lw_r1 : ∀ q ∈ lw_privs_1, lw_okq q := List.forall_mem_cons.mpr ⟨lw_p0, List.forall_mem_cons.mpr ⟨lw_p1, List.forall_mem_cons.mpr ⟨lw_p2, List.forall_mem_cons.mpr ⟨lw_p3, List.forall_mem_cons.mpr ⟨lw_p4, List.forall_mem_cons.mpr ⟨lw_p5, List.forall_mem_cons.mpr ⟨lw_p6, List.forall_mem_cons.mpr ⟨lw_p7, List.forall_mem_cons.mpr ⟨lw_p8, List.forall_mem_cons.mpr ⟨lw_p9, List.forall_mem_cons.mpr ⟨lw_p10, List.forall_mem_cons.mpr ⟨lw_p11, List.forall_mem_cons.mpr ⟨lw_p12, List.forall_mem_cons.mpr ⟨lw_p13, List.forall_mem_cons.mpr ⟨lw_p14, List.forall_mem_cons.mpr ⟨lw_p15, fun _ h => absurd h List.not_mem_nil⟩⟩⟩⟩⟩⟩⟩⟩⟩⟩⟩⟩⟩⟩⟩⟩
theorem lw_p16 : lw_okq (⟨"RoseWheel", "lowestSeat", "(IIII)I"⟩, 16) := ⟨⟨by decide +kernel, by decide +kernel⟩, List.mem_of_getElem? (i := 18) (by decide +kernel), List.mem_of_getElem? (i := 557) (by decide +kernel), List.mem_of_getElem? (i := 558) (by decide +kernel)⟩
theorem lw_p17 : lw_okq (⟨"RoseWheel", "isAsSeen", "(I)Z"⟩, 16) := ⟨⟨by decide +kernel, by decide +kernel⟩, List.mem_of_getElem? (i := 18) (by decide +kernel), List.mem_of_getElem? (i := 580) (by decide +kernel), List.mem_of_getElem? (i := 581) (by decide +kernel)⟩
theorem lw_p18 : lw_okq (⟨"RoseWheel", "speedsAsSeen", "()J"⟩, 16) := ⟨⟨by decide +kernel, by decide +kernel⟩, List.mem_of_getElem? (i := 18) (by decide +kernel), List.mem_of_getElem? (i := 588) (by decide +kernel), List.mem_of_getElem? (i := 589) (by decide +kernel)⟩
theorem lw_p19 : lw_okq (⟨"RoseWheel", "mostOfOneColour", "(IJ)I"⟩, 16) := ⟨⟨by decide +kernel, by decide +kernel⟩, List.mem_of_getElem? (i := 18) (by decide +kernel), List.mem_of_getElem? (i := 592) (by decide +kernel), List.mem_of_getElem? (i := 593) (by decide +kernel)⟩
theorem lw_p20 : lw_okq (⟨"RoseWheel", "findLaws", "()I"⟩, 16) := ⟨⟨by decide +kernel, by decide +kernel⟩, List.mem_of_getElem? (i := 18) (by decide +kernel), List.mem_of_getElem? (i := 607) (by decide +kernel), List.mem_of_getElem? (i := 608) (by decide +kernel)⟩
theorem lw_p21 : lw_okq (⟨"RoseWheel", "isAsHeard", "(II)Z"⟩, 16) := ⟨⟨by decide +kernel, by decide +kernel⟩, List.mem_of_getElem? (i := 18) (by decide +kernel), List.mem_of_getElem? (i := 611) (by decide +kernel), List.mem_of_getElem? (i := 612) (by decide +kernel)⟩
theorem lw_p22 : lw_okq (⟨"RoseWheel", "mostOfOneSound", "(II)I"⟩, 16) := ⟨⟨by decide +kernel, by decide +kernel⟩, List.mem_of_getElem? (i := 18) (by decide +kernel), List.mem_of_getElem? (i := 620) (by decide +kernel), List.mem_of_getElem? (i := 621) (by decide +kernel)⟩
theorem lw_p23 : lw_okq (⟨"RoseWheelModel", "next", "()V"⟩, 34) := ⟨⟨by decide +kernel, by decide +kernel⟩, List.mem_of_getElem? (i := 683) (by decide +kernel), List.mem_of_getElem? (i := 807) (by decide +kernel), List.mem_of_getElem? (i := 808) (by decide +kernel)⟩
theorem lw_p24 : lw_okq (⟨"RoseWheelModel", "letterAt", "(I)I"⟩, 34) := ⟨⟨by decide +kernel, by decide +kernel⟩, List.mem_of_getElem? (i := 683) (by decide +kernel), List.mem_of_getElem? (i := 811) (by decide +kernel), List.mem_of_getElem? (i := 812) (by decide +kernel)⟩
theorem lw_p25 : lw_okq (⟨"RoseWheelModel", "readItem", "()V"⟩, 34) := ⟨⟨by decide +kernel, by decide +kernel⟩, List.mem_of_getElem? (i := 683) (by decide +kernel), List.mem_of_getElem? (i := 821) (by decide +kernel), List.mem_of_getElem? (i := 822) (by decide +kernel)⟩
theorem lw_p26 : lw_okq (⟨"RoseWheelModel", "mayBegin", "(I)Z"⟩, 34) := ⟨⟨by decide +kernel, by decide +kernel⟩, List.mem_of_getElem? (i := 683) (by decide +kernel), List.mem_of_getElem? (i := 825) (by decide +kernel), List.mem_of_getElem? (i := 826) (by decide +kernel)⟩
theorem lw_p27 : lw_okq (⟨"RoseWheelModel", "takesNumber", "(II)I"⟩, 34) := ⟨⟨by decide +kernel, by decide +kernel⟩, List.mem_of_getElem? (i := 683) (by decide +kernel), List.mem_of_getElem? (i := 829) (by decide +kernel), List.mem_of_getElem? (i := 830) (by decide +kernel)⟩
theorem lw_p28 : lw_okq (⟨"RoseWheelModel", "readOne", "()V"⟩, 34) := ⟨⟨by decide +kernel, by decide +kernel⟩, List.mem_of_getElem? (i := 683) (by decide +kernel), List.mem_of_getElem? (i := 833) (by decide +kernel), List.mem_of_getElem? (i := 834) (by decide +kernel)⟩
theorem lw_p29 : lw_okq (⟨"RoseWheelModel", "settles", "()V"⟩, 34) := ⟨⟨by decide +kernel, by decide +kernel⟩, List.mem_of_getElem? (i := 683) (by decide +kernel), List.mem_of_getElem? (i := 837) (by decide +kernel), List.mem_of_getElem? (i := 838) (by decide +kernel)⟩
theorem lw_p30 : lw_okq (⟨"RoseWheelModel", "isSpot", "(I)Z"⟩, 34) := ⟨⟨by decide +kernel, by decide +kernel⟩, List.mem_of_getElem? (i := 683) (by decide +kernel), List.mem_of_getElem? (i := 845) (by decide +kernel), List.mem_of_getElem? (i := 846) (by decide +kernel)⟩
theorem lw_p31 : lw_okq (⟨"RoseWheelModel", "isOne", "(I)Z"⟩, 34) := ⟨⟨by decide +kernel, by decide +kernel⟩, List.mem_of_getElem? (i := 683) (by decide +kernel), List.mem_of_getElem? (i := 853) (by decide +kernel), List.mem_of_getElem? (i := 854) (by decide +kernel)⟩
def lw_privs_2 : List (MethodName × Nat) := [(⟨"RoseWheel", "lowestSeat", "(IIII)I"⟩, 16), (⟨"RoseWheel", "isAsSeen", "(I)Z"⟩, 16), (⟨"RoseWheel", "speedsAsSeen", "()J"⟩, 16), (⟨"RoseWheel", "mostOfOneColour", "(IJ)I"⟩, 16), (⟨"RoseWheel", "findLaws", "()I"⟩, 16), (⟨"RoseWheel", "isAsHeard", "(II)Z"⟩, 16), (⟨"RoseWheel", "mostOfOneSound", "(II)I"⟩, 16), (⟨"RoseWheelModel", "next", "()V"⟩, 34), (⟨"RoseWheelModel", "letterAt", "(I)I"⟩, 34), (⟨"RoseWheelModel", "readItem", "()V"⟩, 34), (⟨"RoseWheelModel", "mayBegin", "(I)Z"⟩, 34), (⟨"RoseWheelModel", "takesNumber", "(II)I"⟩, 34), (⟨"RoseWheelModel", "readOne", "()V"⟩, 34), (⟨"RoseWheelModel", "settles", "()V"⟩, 34), (⟨"RoseWheelModel", "isSpot", "(I)Z"⟩, 34), (⟨"RoseWheelModel", "isOne", "(I)Z"⟩, 34)]
theorem lw_r2 : ∀ q ∈ lw_privs_2, lw_okq q := List.forall_mem_cons.mpr ⟨lw_p16, List.forall_mem_cons.mpr ⟨lw_p17, List.forall_mem_cons.mpr ⟨lw_p18, List.forall_mem_cons.mpr ⟨lw_p19, List.forall_mem_cons.mpr ⟨lw_p20, List.forall_mem_cons.mpr ⟨lw_p21, List.forall_mem_cons.mpr ⟨lw_p22, List.forall_mem_cons.mpr ⟨lw_p23, List.forall_mem_cons.mpr ⟨lw_p24, List.forall_mem_cons.mpr ⟨lw_p25, List.forall_mem_cons.mpr ⟨lw_p26, List.forall_mem_cons.mpr ⟨lw_p27, List.forall_mem_cons.mpr ⟨lw_p28, List.forall_mem_cons.mpr ⟨lw_p29, List.forall_mem_cons.mpr ⟨lw_p30, List.forall_mem_cons.mpr ⟨lw_p31, fun _ h => absurd h List.not_mem_nil⟩⟩⟩⟩⟩⟩⟩⟩⟩⟩⟩⟩⟩⟩⟩⟩
theorem lw_p32 : lw_okq (⟨"RoseWheelModel", "standsIn", "(I)I"⟩, 34) := ⟨⟨by decide +kernel, by decide +kernel⟩, List.mem_of_getElem? (i := 683) (by decide +kernel), List.mem_of_getElem? (i := 857) (by decide +kernel), List.mem_of_getElem? (i := 858) (by decide +kernel)⟩
theorem lw_p33 : lw_okq (⟨"RoseWheelModel", "colourAt", "(II)I"⟩, 34) := ⟨⟨by decide +kernel, by decide +kernel⟩, List.mem_of_getElem? (i := 683) (by decide +kernel), List.mem_of_getElem? (i := 861) (by decide +kernel), List.mem_of_getElem? (i := 862) (by decide +kernel)⟩
theorem lw_p34 : lw_okq (⟨"RoseWheelModel", "owedAll", "(I)I"⟩, 34) := ⟨⟨by decide +kernel, by decide +kernel⟩, List.mem_of_getElem? (i := 683) (by decide +kernel), List.mem_of_getElem? (i := 865) (by decide +kernel), List.mem_of_getElem? (i := 866) (by decide +kernel)⟩
theorem lw_p35 : lw_okq (⟨"RoseWheelModel", "areTwo", "(II)Z"⟩, 34) := ⟨⟨by decide +kernel, by decide +kernel⟩, List.mem_of_getElem? (i := 683) (by decide +kernel), List.mem_of_getElem? (i := 873) (by decide +kernel), List.mem_of_getElem? (i := 874) (by decide +kernel)⟩
theorem lw_p36 : lw_okq (⟨"RoseWheelModel", "remembers", "()V"⟩, 34) := ⟨⟨by decide +kernel, by decide +kernel⟩, List.mem_of_getElem? (i := 683) (by decide +kernel), List.mem_of_getElem? (i := 884) (by decide +kernel), List.mem_of_getElem? (i := 885) (by decide +kernel)⟩
theorem lw_p37 : lw_okq (⟨"RoseWheelModel", "clicksOf", "(I)I"⟩, 34) := ⟨⟨by decide +kernel, by decide +kernel⟩, List.mem_of_getElem? (i := 683) (by decide +kernel), List.mem_of_getElem? (i := 888) (by decide +kernel), List.mem_of_getElem? (i := 889) (by decide +kernel)⟩
theorem lw_p38 : lw_okq (⟨"RoseWheelModel", "feasts", "()V"⟩, 34) := ⟨⟨by decide +kernel, by decide +kernel⟩, List.mem_of_getElem? (i := 683) (by decide +kernel), List.mem_of_getElem? (i := 895) (by decide +kernel), List.mem_of_getElem? (i := 896) (by decide +kernel)⟩
theorem lw_p39 : lw_okq (⟨"RoseWheelModel", "whoHas", "(I)I"⟩, 34) := ⟨⟨by decide +kernel, by decide +kernel⟩, List.mem_of_getElem? (i := 683) (by decide +kernel), List.mem_of_getElem? (i := 903) (by decide +kernel), List.mem_of_getElem? (i := 904) (by decide +kernel)⟩
theorem lw_p40 : lw_okq (⟨"RoseWheelModel", "alike", "()I"⟩, 34) := ⟨⟨by decide +kernel, by decide +kernel⟩, List.mem_of_getElem? (i := 683) (by decide +kernel), List.mem_of_getElem? (i := 927) (by decide +kernel), List.mem_of_getElem? (i := 928) (by decide +kernel)⟩
theorem lw_p41 : lw_okq (⟨"RoseWheelModel", "isAlike", "(I)Z"⟩, 34) := ⟨⟨by decide +kernel, by decide +kernel⟩, List.mem_of_getElem? (i := 683) (by decide +kernel), List.mem_of_getElem? (i := 931) (by decide +kernel), List.mem_of_getElem? (i := 932) (by decide +kernel)⟩
theorem lw_p42 : lw_okq (⟨"RoseWheelModel", "ring", "()I"⟩, 34) := ⟨⟨by decide +kernel, by decide +kernel⟩, List.mem_of_getElem? (i := 683) (by decide +kernel), List.mem_of_getElem? (i := 935) (by decide +kernel), List.mem_of_getElem? (i := 936) (by decide +kernel)⟩
theorem lw_p43 : lw_okq (⟨"RoseWheelModel", "shadeOf", "(II)I"⟩, 34) := ⟨⟨by decide +kernel, by decide +kernel⟩, List.mem_of_getElem? (i := 683) (by decide +kernel), List.mem_of_getElem? (i := 954) (by decide +kernel), List.mem_of_getElem? (i := 955) (by decide +kernel)⟩
theorem lw_p44 : lw_okq (⟨"RoseWheelModel", "speedsOf", "(III)I"⟩, 34) := ⟨⟨by decide +kernel, by decide +kernel⟩, List.mem_of_getElem? (i := 683) (by decide +kernel), List.mem_of_getElem? (i := 965) (by decide +kernel), List.mem_of_getElem? (i := 966) (by decide +kernel)⟩
theorem lw_p45 : lw_okq (⟨"RoseWheelModel", "sits", "(I)I"⟩, 34) := ⟨⟨by decide +kernel, by decide +kernel⟩, List.mem_of_getElem? (i := 683) (by decide +kernel), List.mem_of_getElem? (i := 981) (by decide +kernel), List.mem_of_getElem? (i := 982) (by decide +kernel)⟩
theorem lw_p46 : lw_okq (⟨"RoseWheelModel", "mostYet", "()I"⟩, 34) := ⟨⟨by decide +kernel, by decide +kernel⟩, List.mem_of_getElem? (i := 683) (by decide +kernel), List.mem_of_getElem? (i := 985) (by decide +kernel), List.mem_of_getElem? (i := 986) (by decide +kernel)⟩
theorem lw_p47 : lw_okq (⟨"RoseWheelModel", "isSeen", "(I)Z"⟩, 34) := ⟨⟨by decide +kernel, by decide +kernel⟩, List.mem_of_getElem? (i := 683) (by decide +kernel), List.mem_of_getElem? (i := 1004) (by decide +kernel), List.mem_of_getElem? (i := 1005) (by decide +kernel)⟩
def lw_privs_3 : List (MethodName × Nat) := [(⟨"RoseWheelModel", "standsIn", "(I)I"⟩, 34), (⟨"RoseWheelModel", "colourAt", "(II)I"⟩, 34), (⟨"RoseWheelModel", "owedAll", "(I)I"⟩, 34), (⟨"RoseWheelModel", "areTwo", "(II)Z"⟩, 34), (⟨"RoseWheelModel", "remembers", "()V"⟩, 34), (⟨"RoseWheelModel", "clicksOf", "(I)I"⟩, 34), (⟨"RoseWheelModel", "feasts", "()V"⟩, 34), (⟨"RoseWheelModel", "whoHas", "(I)I"⟩, 34), (⟨"RoseWheelModel", "alike", "()I"⟩, 34), (⟨"RoseWheelModel", "isAlike", "(I)Z"⟩, 34), (⟨"RoseWheelModel", "ring", "()I"⟩, 34), (⟨"RoseWheelModel", "shadeOf", "(II)I"⟩, 34), (⟨"RoseWheelModel", "speedsOf", "(III)I"⟩, 34), (⟨"RoseWheelModel", "sits", "(I)I"⟩, 34), (⟨"RoseWheelModel", "mostYet", "()I"⟩, 34), (⟨"RoseWheelModel", "isSeen", "(I)Z"⟩, 34)]
theorem lw_r3 : ∀ q ∈ lw_privs_3, lw_okq q := List.forall_mem_cons.mpr ⟨lw_p32, List.forall_mem_cons.mpr ⟨lw_p33, List.forall_mem_cons.mpr ⟨lw_p34, List.forall_mem_cons.mpr ⟨lw_p35, List.forall_mem_cons.mpr ⟨lw_p36, List.forall_mem_cons.mpr ⟨lw_p37, List.forall_mem_cons.mpr ⟨lw_p38, List.forall_mem_cons.mpr ⟨lw_p39, List.forall_mem_cons.mpr ⟨lw_p40, List.forall_mem_cons.mpr ⟨lw_p41, List.forall_mem_cons.mpr ⟨lw_p42, List.forall_mem_cons.mpr ⟨lw_p43, List.forall_mem_cons.mpr ⟨lw_p44, List.forall_mem_cons.mpr ⟨lw_p45, List.forall_mem_cons.mpr ⟨lw_p46, List.forall_mem_cons.mpr ⟨lw_p47, fun _ h => absurd h List.not_mem_nil⟩⟩⟩⟩⟩⟩⟩⟩⟩⟩⟩⟩⟩⟩⟩⟩
theorem lw_p48 : lw_okq (⟨"RoseWheelModel", "isHeard", "(II)Z"⟩, 34) := ⟨⟨by decide +kernel, by decide +kernel⟩, List.mem_of_getElem? (i := 683) (by decide +kernel), List.mem_of_getElem? (i := 1021) (by decide +kernel), List.mem_of_getElem? (i := 1022) (by decide +kernel)⟩
theorem lw_p49 : lw_okq (⟨"RoseWheelModel", "greatest", "(I)I"⟩, 34) := ⟨⟨by decide +kernel, by decide +kernel⟩, List.mem_of_getElem? (i := 683) (by decide +kernel), List.mem_of_getElem? (i := 1030) (by decide +kernel), List.mem_of_getElem? (i := 1031) (by decide +kernel)⟩
def lw_privs_4 : List (MethodName × Nat) := [(⟨"RoseWheelModel", "isHeard", "(II)Z"⟩, 34), (⟨"RoseWheelModel", "greatest", "(I)I"⟩, 34)]
theorem lw_r4 : ∀ q ∈ lw_privs_4, lw_okq q := List.forall_mem_cons.mpr ⟨lw_p48, List.forall_mem_cons.mpr ⟨lw_p49, fun _ h => absurd h List.not_mem_nil⟩⟩
def lw_privs : List (MethodName × Nat) := lw_privs_1 ++ (lw_privs_2 ++ (lw_privs_3 ++ (lw_privs_4)))
def lw_tbl : List Cond := k2_sels lw_privs ++ tables_1
theorem lw_privs_ok : ∀ q ∈ lw_privs, lw_okq q := by
  show ∀ q ∈ lw_privs_1 ++ (lw_privs_2 ++ (lw_privs_3 ++ (lw_privs_4))), lw_okq q
  exact List.forall_mem_append.mpr ⟨lw_r1, List.forall_mem_append.mpr ⟨lw_r2, List.forall_mem_append.mpr ⟨lw_r3, lw_r4⟩⟩⟩
end
section
/-! tables of names, fields, types (begun from the printed names) -/
def RX0 : String := "RoseWheel$Asked"
def TX0 : u_T := fun k => match k with
  | 0 => ("RoseWheel$Asked", "number", "I", false)
  | 1 => ("RoseWheel$Asked", "spot", "I", false)
  | 2 => ("RoseWheel$Asked", "colour", "I", false)
  | 3 => ("RoseWheel$Asked", "patience", "I", false)
  | 4 => ("RoseWheel$Asked", "feasts", "I", false)
  | _ => ("RoseWheel$Asked", "trace", "J", false)
def tyX0 : Nat → FieldType := fun k => match k with
  | 0 => .int
  | 1 => .int
  | 2 => .int
  | 3 => .int
  | 4 => .int
  | _ => .long
theorem nmX0 : ∀ a, a < 6 → ∀ b, b < 6 → a ≠ b → (TX0 a).2.1 ≠ (TX0 b).2.1 := by decide +kernel
theorem tyX0_ok : ∀ k, k < 6 → parseFieldDescriptor (TX0 k).2.2.1 = some (tyX0 k) := by decide +kernel
theorem inX0 : ∀ w ∈ u_ws RX0 TX0 6, w ∈ lw_tbl := by decide +kernel
def RX1 : String := "RoseWheel$Beadle"
def TX1 : u_T := fun k => match k with
  | _ => ("", "", "", false)
def tyX1 : Nat → FieldType := fun k => match k with
  | _ => .int
theorem nmX1 : ∀ a, a < 0 → ∀ b, b < 0 → a ≠ b → (TX1 a).2.1 ≠ (TX1 b).2.1 := by decide +kernel
theorem tyX1_ok : ∀ k, k < 0 → parseFieldDescriptor (TX1 k).2.2.1 = some (tyX1 k) := by decide +kernel
theorem inX1 : ∀ w ∈ u_ws RX1 TX1 0, w ∈ lw_tbl := by decide +kernel
def RX2 : String := "RoseWheel$Blind"
def TX2 : u_T := fun k => match k with
  | _ => ("", "", "", false)
def tyX2 : Nat → FieldType := fun k => match k with
  | _ => .int
theorem nmX2 : ∀ a, a < 0 → ∀ b, b < 0 → a ≠ b → (TX2 a).2.1 ≠ (TX2 b).2.1 := by decide +kernel
theorem tyX2_ok : ∀ k, k < 0 → parseFieldDescriptor (TX2 k).2.2.1 = some (tyX2 k) := by decide +kernel
theorem inX2 : ∀ w ∈ u_ws RX2 TX2 0, w ∈ lw_tbl := by decide +kernel
def RX3 : String := "RoseWheel$Cripple"
def TX3 : u_T := fun k => match k with
  | _ => ("", "", "", false)
def tyX3 : Nat → FieldType := fun k => match k with
  | _ => .int
theorem nmX3 : ∀ a, a < 0 → ∀ b, b < 0 → a ≠ b → (TX3 a).2.1 ≠ (TX3 b).2.1 := by decide +kernel
theorem tyX3_ok : ∀ k, k < 0 → parseFieldDescriptor (TX3 k).2.2.1 = some (tyX3 k) := by decide +kernel
theorem inX3 : ∀ w ∈ u_ws RX3 TX3 0, w ∈ lw_tbl := by decide +kernel
def RX4 : String := "RoseWheel$Daughter"
def TX4 : u_T := fun k => match k with
  | _ => ("", "", "", false)
def tyX4 : Nat → FieldType := fun k => match k with
  | _ => .int
theorem nmX4 : ∀ a, a < 0 → ∀ b, b < 0 → a ≠ b → (TX4 a).2.1 ≠ (TX4 b).2.1 := by decide +kernel
theorem tyX4_ok : ∀ k, k < 0 → parseFieldDescriptor (TX4 k).2.2.1 = some (tyX4 k) := by decide +kernel
theorem inX4 : ∀ w ∈ u_ws RX4 TX4 0, w ∈ lw_tbl := by decide +kernel
def RX5 : String := "RoseWheel$Days"
def TX5 : u_T := fun k => match k with
  | 0 => ("RoseWheel$Days", "cells", "[I", true)
  | _ => ("RoseWheel$Days", "undoable", "I", false)
def tyX5 : Nat → FieldType := fun k => match k with
  | 0 => .array .int
  | _ => .int
theorem nmX5 : ∀ a, a < 2 → ∀ b, b < 2 → a ≠ b → (TX5 a).2.1 ≠ (TX5 b).2.1 := by decide +kernel
theorem tyX5_ok : ∀ k, k < 2 → parseFieldDescriptor (TX5 k).2.2.1 = some (tyX5 k) := by decide +kernel
theorem inX5 : ∀ w ∈ u_ws RX5 TX5 2, w ∈ lw_tbl := by decide +kernel
def RX6 : String := "RoseWheel$Dog"
def TX6 : u_T := fun k => match k with
  | _ => ("", "", "", false)
def tyX6 : Nat → FieldType := fun k => match k with
  | _ => .int
theorem nmX6 : ∀ a, a < 0 → ∀ b, b < 0 → a ≠ b → (TX6 a).2.1 ≠ (TX6 b).2.1 := by decide +kernel
theorem tyX6_ok : ∀ k, k < 0 → parseFieldDescriptor (TX6 k).2.2.1 = some (tyX6 k) := by decide +kernel
theorem inX6 : ∀ w ∈ u_ws RX6 TX6 0, w ∈ lw_tbl := by decide +kernel
def RX7 : String := "RoseWheel$Notes"
def TX7 : u_T := fun k => match k with
  | 0 => ("RoseWheel$Notes", "first", "[I", true)
  | 1 => ("RoseWheel$Notes", "second", "[I", true)
  | _ => ("RoseWheel$Notes", "size", "I", false)
def tyX7 : Nat → FieldType := fun k => match k with
  | 0 => .array .int
  | 1 => .array .int
  | _ => .int
theorem nmX7 : ∀ a, a < 3 → ∀ b, b < 3 → a ≠ b → (TX7 a).2.1 ≠ (TX7 b).2.1 := by decide +kernel
theorem tyX7_ok : ∀ k, k < 3 → parseFieldDescriptor (TX7 k).2.2.1 = some (tyX7 k) := by decide +kernel
theorem inX7 : ∀ w ∈ u_ws RX7 TX7 3, w ∈ lw_tbl := by decide +kernel
def RX8 : String := "RoseWheel$One"
def TX8 : u_T := fun k => match k with
  | _ => ("", "", "", false)
def tyX8 : Nat → FieldType := fun k => match k with
  | _ => .int
theorem nmX8 : ∀ a, a < 0 → ∀ b, b < 0 → a ≠ b → (TX8 a).2.1 ≠ (TX8 b).2.1 := by decide +kernel
theorem tyX8_ok : ∀ k, k < 0 → parseFieldDescriptor (TX8 k).2.2.1 = some (tyX8 k) := by decide +kernel
theorem inX8 : ∀ w ∈ u_ws RX8 TX8 0, w ∈ lw_tbl := by decide +kernel
def RX9 : String := "RoseWheel$Text"
def TX9 : u_T := fun k => match k with
  | 0 => ("RoseWheel$Text", "bytes", "[I", true)
  | 1 => ("RoseWheel$Text", "length", "I", false)
  | 2 => ("RoseWheel$Text", "next", "I", false)
  | 3 => ("RoseWheel$Text", "start", "I", false)
  | 4 => ("RoseWheel$Text", "token", "I", false)
  | 5 => ("RoseWheel$Text", "value", "I", false)
  | 6 => ("RoseWheel$Text", "keepsTold", "Z", false)
  | _ => ("RoseWheel$Text", "dragTold", "Z", false)
def tyX9 : Nat → FieldType := fun k => match k with
  | 0 => .array .int
  | 1 => .int
  | 2 => .int
  | 3 => .int
  | 4 => .int
  | 5 => .int
  | 6 => .boolean
  | _ => .boolean
theorem nmX9 : ∀ a, a < 8 → ∀ b, b < 8 → a ≠ b → (TX9 a).2.1 ≠ (TX9 b).2.1 := by decide +kernel
theorem tyX9_ok : ∀ k, k < 8 → parseFieldDescriptor (TX9 k).2.2.1 = some (tyX9 k) := by decide +kernel
theorem inX9 : ∀ w ∈ u_ws RX9 TX9 8, w ∈ lw_tbl := by decide +kernel
def RX10 : String := "RoseWheel$Window"
def TX10 : u_T := fun k => match k with
  | 0 => ("RoseWheel$Window", "panes", "[I", true)
  | 1 => ("RoseWheel$Window", "places", "[I", true)
  | 2 => ("RoseWheel$Window", "wants", "[I", true)
  | 3 => ("RoseWheel$Window", "paneCount", "I", false)
  | 4 => ("RoseWheel$Window", "people", "I", false)
  | 5 => ("RoseWheel$Window", "keeps", "I", false)
  | _ => ("RoseWheel$Window", "drag", "I", false)
def tyX10 : Nat → FieldType := fun k => match k with
  | 0 => .array .int
  | 1 => .array .int
  | 2 => .array .int
  | 3 => .int
  | 4 => .int
  | 5 => .int
  | _ => .int
theorem nmX10 : ∀ a, a < 7 → ∀ b, b < 7 → a ≠ b → (TX10 a).2.1 ≠ (TX10 b).2.1 := by decide +kernel
theorem tyX10_ok : ∀ k, k < 7 → parseFieldDescriptor (TX10 k).2.2.1 = some (tyX10 k) := by decide +kernel
theorem inX10 : ∀ w ∈ u_ws RX10 TX10 7, w ∈ lw_tbl := by decide +kernel
def RX11 : String := "RoseWheel"
def TX11 : u_T := fun k => match k with
  | 0 => ("RoseWheel", "text", "LRoseWheel$Text;", true)
  | 1 => ("RoseWheel", "window", "LRoseWheel$Window;", false)
  | 2 => ("RoseWheel", "draft", "LRoseWheel$Window;", false)
  | 3 => ("RoseWheel", "days", "LRoseWheel$Days;", true)
  | 4 => ("RoseWheel", "images", "[LRoseWheel$Days;", true)
  | 5 => ("RoseWheel", "kept", "[Z", true)
  | 6 => ("RoseWheel", "seen", "LRoseWheel$Notes;", true)
  | 7 => ("RoseWheel", "heard", "LRoseWheel$Notes;", true)
  | 8 => ("RoseWheel", "asked", "LRoseWheel$Asked;", true)
  | 9 => ("RoseWheel", "kinds", "[LRoseWheel$One;", true)
  | 10 => ("RoseWheel", "lawsThatFit", "[I", true)
  | 11 => ("RoseWheel", "lawsByClicks", "[I", true)
  | 12 => ("RoseWheel", "speedsByColour", "[I", true)
  | 13 => ("RoseWheel", "freeByColour", "[I", true)
  | 14 => ("RoseWheel", "wantedByColour", "[I", true)
  | _ => ("RoseWheel", "seatOf", "[I", true)
def tyX11 : Nat → FieldType := fun k => match k with
  | 0 => .object "RoseWheel$Text"
  | 1 => .object "RoseWheel$Window"
  | 2 => .object "RoseWheel$Window"
  | 3 => .object "RoseWheel$Days"
  | 4 => .array (.object "RoseWheel$Days")
  | 5 => .array .boolean
  | 6 => .object "RoseWheel$Notes"
  | 7 => .object "RoseWheel$Notes"
  | 8 => .object "RoseWheel$Asked"
  | 9 => .array (.object "RoseWheel$One")
  | 10 => .array .int
  | 11 => .array .int
  | 12 => .array .int
  | 13 => .array .int
  | 14 => .array .int
  | _ => .array .int
theorem nmX11 : ∀ a, a < 16 → ∀ b, b < 16 → a ≠ b → (TX11 a).2.1 ≠ (TX11 b).2.1 := by decide +kernel
theorem tyX11_ok : ∀ k, k < 16 → parseFieldDescriptor (TX11 k).2.2.1 = some (tyX11 k) := by decide +kernel
theorem inX11 : ∀ w ∈ u_ws RX11 TX11 16, w ∈ lw_tbl := by decide +kernel
def RX12 : String := "RoseWheelModel"
def TX12 : u_T := fun k => match k with
  | 0 => ("RoseWheelModel", "panes", "I", false)
  | 1 => ("RoseWheelModel", "pane", "[I", true)
  | 2 => ("RoseWheelModel", "keeps", "I", false)
  | 3 => ("RoseWheelModel", "drag", "I", false)
  | 4 => ("RoseWheelModel", "people", "I", false)
  | 5 => ("RoseWheelModel", "wants", "[I", true)
  | 6 => ("RoseWheelModel", "st", "[I", true)
  | 7 => ("RoseWheelModel", "images", "[I", true)
  | 8 => ("RoseWheelModel", "isKept", "[Z", true)
  | 9 => ("RoseWheelModel", "seenMany", "I", false)
  | 10 => ("RoseWheelModel", "seen", "[I", true)
  | 11 => ("RoseWheelModel", "heardMany", "I", false)
  | 12 => ("RoseWheelModel", "heard", "[I", true)
  | 13 => ("RoseWheelModel", "trace", "J", false)
  | 14 => ("RoseWheelModel", "text", "[I", true)
  | 15 => ("RoseWheelModel", "texted", "I", false)
  | 16 => ("RoseWheelModel", "cursor", "I", false)
  | 17 => ("RoseWheelModel", "start", "I", false)
  | 18 => ("RoseWheelModel", "token", "I", false)
  | 19 => ("RoseWheelModel", "number", "I", false)
  | 20 => ("RoseWheelModel", "isWrong", "Z", false)
  | 21 => ("RoseWheelModel", "items", "I", false)
  | 22 => ("RoseWheelModel", "saidPanes", "I", false)
  | 23 => ("RoseWheelModel", "saidPane", "[I", true)
  | 24 => ("RoseWheelModel", "saidKeeps", "I", false)
  | 25 => ("RoseWheelModel", "saidDrag", "I", false)
  | 26 => ("RoseWheelModel", "saidPeople", "I", false)
  | 27 => ("RoseWheelModel", "saidSpot", "[I", true)
  | 28 => ("RoseWheelModel", "saidWant", "[I", true)
  | 29 => ("RoseWheelModel", "by", "[I", true)
  | 30 => ("RoseWheelModel", "wanted", "[I", true)
  | 31 => ("RoseWheelModel", "free", "[I", true)
  | 32 => ("RoseWheelModel", "stands", "[I", true)
  | _ => ("RoseWheelModel", "parts", "[I", true)
def tyX12 : Nat → FieldType := fun k => match k with
  | 0 => .int
  | 1 => .array .int
  | 2 => .int
  | 3 => .int
  | 4 => .int
  | 5 => .array .int
  | 6 => .array .int
  | 7 => .array .int
  | 8 => .array .boolean
  | 9 => .int
  | 10 => .array .int
  | 11 => .int
  | 12 => .array .int
  | 13 => .long
  | 14 => .array .int
  | 15 => .int
  | 16 => .int
  | 17 => .int
  | 18 => .int
  | 19 => .int
  | 20 => .boolean
  | 21 => .int
  | 22 => .int
  | 23 => .array .int
  | 24 => .int
  | 25 => .int
  | 26 => .int
  | 27 => .array .int
  | 28 => .array .int
  | 29 => .array .int
  | 30 => .array .int
  | 31 => .array .int
  | 32 => .array .int
  | _ => .array .int
theorem nmX12 : ∀ a, a < 34 → ∀ b, b < 34 → a ≠ b → (TX12 a).2.1 ≠ (TX12 b).2.1 := by decide +kernel
theorem tyX12_ok : ∀ k, k < 34 → parseFieldDescriptor (TX12 k).2.2.1 = some (tyX12 k) := by decide +kernel
theorem inX12 : ∀ w ∈ u_ws RX12 TX12 34, w ∈ lw_tbl := by decide +kernel
def zNN (c : Nat) : Nat := ([6, 0, 0, 0, 0, 2, 0, 3, 0, 8, 7, 16, 34] : List Nat).getD c 0
def zTT (c : Nat) : u_T := match c with
  | 0 => TX0
  | 1 => TX1
  | 2 => TX2
  | 3 => TX3
  | 4 => TX4
  | 5 => TX5
  | 6 => TX6
  | 7 => TX7
  | 8 => TX8
  | 9 => TX9
  | 10 => TX10
  | 11 => TX11
  | _ => TX12
def zRR (c : Nat) : String := match c with
  | 0 => RX0
  | 1 => RX1
  | 2 => RX2
  | 3 => RX3
  | 4 => RX4
  | 5 => RX5
  | 6 => RX6
  | 7 => RX7
  | 8 => RX8
  | 9 => RX9
  | 10 => RX10
  | 11 => RX11
  | _ => RX12
def zty (c : Nat) : Nat → FieldType := match c with
  | 0 => tyX0
  | 1 => tyX1
  | 2 => tyX2
  | 3 => tyX3
  | 4 => tyX4
  | 5 => tyX5
  | 6 => tyX6
  | 7 => tyX7
  | 8 => tyX8
  | 9 => tyX9
  | 10 => tyX10
  | 11 => tyX11
  | _ => tyX12
def zcl : List vw_C := [(RX0, TX0, 6), (RX1, TX1, 0), (RX2, TX2, 0), (RX3, TX3, 0), (RX4, TX4, 0), (RX5, TX5, 2), (RX6, TX6, 0), (RX7, TX7, 3), (RX8, TX8, 0), (RX9, TX9, 8), (RX10, TX10, 7), (RX11, TX11, 16), (RX12, TX12, 34)]
theorem zcl_at : ∀ c, c < 13 → zcl[c]? = some (zRR c, zTT c, zNN c) := by
  intro c hc
  match c, hc with
  | 0, _ => exact rfl
  | 1, _ => exact rfl
  | 2, _ => exact rfl
  | 3, _ => exact rfl
  | 4, _ => exact rfl
  | 5, _ => exact rfl
  | 6, _ => exact rfl
  | 7, _ => exact rfl
  | 8, _ => exact rfl
  | 9, _ => exact rfl
  | 10, _ => exact rfl
  | 11, _ => exact rfl
  | 12, _ => exact rfl
theorem zcl_in : ∀ c, c < 13 → ∀ w ∈ u_ws (zRR c) (zTT c) (zNN c), w ∈ lw_tbl := by
  intro c hc
  match c, hc with
  | 0, _ => exact inX0
  | 1, _ => exact inX1
  | 2, _ => exact inX2
  | 3, _ => exact inX3
  | 4, _ => exact inX4
  | 5, _ => exact inX5
  | 6, _ => exact inX6
  | 7, _ => exact inX7
  | 8, _ => exact inX8
  | 9, _ => exact inX9
  | 10, _ => exact inX10
  | 11, _ => exact inX11
  | 12, _ => exact inX12
theorem zcl_ty : ∀ c, c < 13 → ∀ k, k < zNN c → parseFieldDescriptor (zTT c k).2.2.1 = some (zty c k) := by
  intro c hc
  match c, hc with
  | 0, _ => exact tyX0_ok
  | 1, _ => exact tyX1_ok
  | 2, _ => exact tyX2_ok
  | 3, _ => exact tyX3_ok
  | 4, _ => exact tyX4_ok
  | 5, _ => exact tyX5_ok
  | 6, _ => exact tyX6_ok
  | 7, _ => exact tyX7_ok
  | 8, _ => exact tyX8_ok
  | 9, _ => exact tyX9_ok
  | 10, _ => exact tyX10_ok
  | 11, _ => exact tyX11_ok
  | 12, _ => exact tyX12_ok
theorem zcl_nm : ∀ c, c < 13 → ∀ a, a < zNN c → ∀ b, b < zNN c → a ≠ b → (zTT c a).2.1 ≠ (zTT c b).2.1 := by
  intro c hc
  match c, hc with
  | 0, _ => exact nmX0
  | 1, _ => exact nmX1
  | 2, _ => exact nmX2
  | 3, _ => exact nmX3
  | 4, _ => exact nmX4
  | 5, _ => exact nmX5
  | 6, _ => exact nmX6
  | 7, _ => exact nmX7
  | 8, _ => exact nmX8
  | 9, _ => exact nmX9
  | 10, _ => exact nmX10
  | 11, _ => exact nmX11
  | 12, _ => exact nmX12
/-- of each cell its sort (below 13: an object; 100 int, 101 boolean, 102, 103 rows of references) and its length -/
def zks (a : Nat) : Nat × Nat := ([(11, 0), (9, 0), (100, 150), (10, 0), (100, 12), (100, 6), (100, 6), (10, 0), (100, 12), (100, 6), (100, 6), (5, 0), (100, 572), (102, 2), (5, 0), (100, 572), (5, 0), (100, 572), (101, 2), (7, 0), (100, 6), (100, 6), (7, 0), (100, 6), (100, 6), (0, 0), (103, 6), (8, 0), (2, 0), (1, 0), (3, 0), (4, 0), (6, 0), (100, 90), (100, 383), (100, 6), (100, 6), (100, 6), (100, 6), (12, 0), (100, 12), (100, 6), (100, 573), (100, 1146), (101, 2), (100, 12), (100, 12), (100, 150), (100, 12), (100, 6), (100, 6), (100, 6), (100, 6), (100, 6), (100, 6), (100, 1000)] : List (Nat × Nat)).getD a (99, 0)
end
section
/-! the small machine: values, cells, the world as a function of two numbers -/
abbrev zV : Type := Int ⊕ (Int ⊕ (Nat ⊕ Unit))
def vI (x : Int) : zV := .inl x
def vL (x : Int) : zV := .inr (.inl x)
def vR (a : Nat) : zV := .inr (.inr (.inl a))
def vU : zV := .inr (.inr (.inr ()))
abbrev zH : Type := Nat → Nat → Int
def tv (r : Nat → Nat) (v : zV) : Value := match v with
  | .inl x => .int (Int32.ofInt x)
  | .inr (.inl x) => .long (Int64.ofInt x)
  | .inr (.inr (.inl a)) => .ref (r a)
  | .inr (.inr (.inr _)) => .null
def vuse (v : zV) : Bool := match v with
  | .inr (.inr (.inr _)) => false
  | _ => true
def vlong (v : zV) : Bool := match v with
  | .inr (.inl _) => true
  | _ => false
def vw (v : zV) : Nat := if vlong v then 2 else 1
theorem tv_cat (r : Nat → Nat) (v : zV) : (tv r v).category = vw v := by
  rcases v with x | x | x | x <;> rfl
theorem tv_cats (r : Nat → Nat) (st : List zV) : ((st.map (tv r)).map fun v => v.category).sum = (st.map vw).sum := by
  induction st with
  | nil => rfl
  | cons v l ih => simp only [List.map_cons, List.sum_cons, tv_cat]; rw [ih]
/-- a field's value by its type -/
def fv (r : Nat → Nat) (ty : FieldType) (x : Int) : Value := match ty with
  | .int => .int (Int32.ofInt x)
  | .boolean => .int (Int32.ofInt x)
  | .long => .long (Int64.ofInt x)
  | _ => .ref (r x.toNat)
def zcell (r : Nat → Nat) (ca : Nat → ClassId) (h : zH) (a : Nat) : va_E :=
  if (zks a).1 < 13 then .inr ((zks a).1, (List.range (zNN (zks a).1)).map (fun k => fv r (zty (zks a).1 k) (h a k)))
  else if (zks a).1 < 102 then .inl (ca ((zks a).1 - 100), (zks a).2, .inl (fun j => Int32.ofInt (h a j)))
  else .inl (ca ((zks a).1 - 100), (zks a).2, .inr (.inr (.inr (.inr (fun j => some (r (h a j).toNat))))))
def wd (r : Nat → Nat) (ca : Nat → ClassId) (h : zH) : va_W := (List.range 56).map (fun a => (r a, zcell r ca h a))
theorem wd_at {r : Nat → Nat} {ca : Nat → ClassId} {h : zH} {a : Nat} (ha : a < 56) : (wd r ca h)[a]? = some (r a, zcell r ca h a) := by
  simp [wd, ha]
theorem wd_len {r : Nat → Nat} {ca : Nat → ClassId} {h : zH} : (wd r ca h).length = 56 := by simp [wd]
theorem zks_lt {a k : Nat} (h : (zks a).1 = k) (hk : k ≠ 99) : a < 56 := by
  by_cases ha : a < 56
  · exact ha
  · exfalso
    apply hk
    rw [← h]
    unfold zks
    rw [List.getD_eq_getElem?_getD, List.getElem?_eq_none (Nat.le_of_not_lt ha)]
    rfl
def zup (h : zH) (a k : Nat) (x : Int) : zH := fun b j => if b = a ∧ j = k then x else h b j
theorem zup_same {h : zH} {a k : Nat} {x : Int} : zup h a k x a k = x := by simp [zup]
theorem zup_other {h : zH} {a k b j : Nat} {x : Int} (hn : ¬ (b = a ∧ j = k)) : zup h a k x b j = h b j := by simp [zup, hn]
theorem zcell_other {r : Nat → Nat} {ca : Nat → ClassId} {h h' : zH} {b : Nat} (he : ∀ j, h' b j = h b j) : zcell r ca h' b = zcell r ca h b := by
  have : h' b = h b := funext he
  simp only [zcell, this]
theorem wd_set {r : Nat → Nat} {ca : Nat → ClassId} {h h' : zH} {a : Nat} (ho : ∀ b, b ≠ a → ∀ j, h' b j = h b j) : wd r ca h' = (wd r ca h).set a (r a, zcell r ca h' a) := by
  apply List.ext_getElem?
  intro b
  by_cases hb : b < 56
  · rw [wd_at hb]
    by_cases hba : b = a
    · subst hba
      rw [List.getElem?_set_self (by rw [wd_len]; exact hb)]
    · rw [List.getElem?_set_ne (Ne.symm hba), wd_at hb, zcell_other (ho b hba)]
  · rw [List.getElem?_eq_none (by rw [wd_len]; omega), List.getElem?_eq_none (by rw [List.length_set, wd_len]; omega)]
theorem zcell_obj {r : Nat → Nat} {ca : Nat → ClassId} {h : zH} {a c : Nat} (hc : (zks a).1 = c) (hl : c < 13) : zcell r ca h a = .inr (c, (List.range (zNN c)).map (fun k => fv r (zty c k) (h a k))) := by
  subst hc
  simp only [zcell, hl, if_true]
theorem zcell_int {r : Nat → Nat} {ca : Nat → ClassId} {h : zH} {a n : Nat} (hc : zks a = (100, n)) : zcell r ca h a = .inl (ca 0, n, .inl (fun j => Int32.ofInt (h a j))) := by
  simp [zcell, hc]
theorem zcell_bool {r : Nat → Nat} {ca : Nat → ClassId} {h : zH} {a n : Nat} (hc : zks a = (101, n)) : zcell r ca h a = .inl (ca 1, n, .inl (fun j => Int32.ofInt (h a j))) := by
  simp [zcell, hc]
theorem zcell_refs {r : Nat → Nat} {ca : Nat → ClassId} {h : zH} {a k n : Nat} (hc : zks a = (k, n)) (hk : 102 ≤ k) : zcell r ca h a = .inl (ca (k - 100), n, .inr (.inr (.inr (.inr (fun j => some (r (h a j).toNat)))))) := by
  have h1 : ¬ k < 13 := by omega
  have h2 : ¬ k < 102 := by omega
  simp [zcell, hc, h1, h2]
/-- the cells' addresses are apart -/
def zD (r : Nat → Nat) : Prop := ∀ i j, i < 56 → j < 56 → r i = r j → i = j
/-- the cells of the world -/
def zA (r : Nat → Nat) : Nat → Prop := fun q => ∃ i, i < 56 ∧ q = r i
theorem zD.va {r : Nat → Nat} (h : zD r) (ca : Nat → ClassId) (hh : zH) : va_D (zA r) (wd r ca hh) := by
  have key : ∀ (k : Nat) (q : Nat × va_E), (wd r ca hh)[k]? = some q → k < 56 ∧ q.1 = r k := by
    intro k q hk
    by_cases hl : k < 56
    · rw [wd_at hl] at hk
      cases hk
      exact ⟨hl, rfl⟩
    · rw [List.getElem?_eq_none (by rw [wd_len]; omega)] at hk
      cases hk
  refine ⟨fun i j p q hi hj hpq => ?_, fun k q hk => ?_⟩
  · obtain ⟨a1, a2⟩ := key i p hi
    obtain ⟨b1, b2⟩ := key j q hj
    exact h i j a1 b1 (by rw [← a2, ← b2]; exact hpq)
  · obtain ⟨a1, a2⟩ := key k q hk
    exact ⟨k, a1, a2⟩
def ztys (ca : Nat → ClassId) : List (ClassId × FieldType) := [(ca 0, .int), (ca 1, .boolean), (ca 2, .object "RoseWheel$Days"), (ca 3, .object "RoseWheel$One")]
/-- words that a callee may take over -/
def zt : List Cond := lw_tbl.filter goodWord
theorem zt_tbl {w : Cond} (h : w ∈ zt) : w ∈ lw_tbl := (List.mem_filter.mp h).1
theorem zt_of {w : Cond} (h : w ∈ lw_tbl) (hg : goodWord w = true) : w ∈ zt := List.mem_filter.mpr ⟨h, hg⟩
theorem zt_t1 {w : Cond} (i : Nat) (h : tables_1[i]? = some w) (hg : goodWord w = true) : w ∈ zt := zt_of (List.mem_append_right _ (List.mem_of_getElem? h)) hg
theorem zt_sel {w : Cond} (i : Nat) (h : (k2_sels lw_privs)[i]? = some w) (hg : goodWord w = true) : w ∈ zt := zt_of (List.mem_append_left _ (List.mem_of_getElem? h)) hg
theorem zt_good : ∀ w ∈ zt, goodWord w = true := fun w h => (List.mem_filter.mp h).2
theorem zcl_zt {c : Nat} (hc : c < 13) : ∀ w ∈ u_ws (zRR c) (zTT c) (zNN c), w ∈ zt := by
  intro w hw
  refine zt_of (zcl_in c hc w hw) ?_
  obtain ⟨k, -, rfl⟩ := List.mem_map.mp hw
  unfold u_lay
  split <;> rfl
/-- a method: its name, its bytes, how many locals, what it returns, its room -/
abbrev zM : Type := MethodName × ByteArray × Nat × Option FieldType × Nat × Nat
abbrev zM.rm (M : zM) : Room := { frames := M.2.2.2.2.1, cells := 0, slots := 0, locals := M.2.2.2.2.2 }
abbrev zM.code (M : zM) : Cond := .code M.1 M.2.1 M.2.2.1 M.2.2.2.1
def zws (M : zM) : List Cond := M.code :: zt
def zB (M : zM) (p : Program) (s : State) (m : MethodId) (args : Array Value) (meth : Method) (c : Code) (D : va_G) (r : Nat → Nat) (ca : Nat → ClassId) : Prop :=
  p.tables.exec = Jvm.exec ∧ c.code = M.2.1 ∧ c.maxLocals = M.2.2.1 ∧ s.vm.findClass M.1.cls = some m.cls ∧ (∀ w ∈ zt, w.before args s = true) ∧ meth.sig.returnType = M.2.2.2.1 ∧ meth.locks = false ∧ va_K D zcl (ztys ca) s ∧ zD r
def zP (D : va_G) (r : Nat → Nat) (ca : Nat → ClassId) (s : State) (h : zH) (H : Heap) (locs : List Loc) : Prop := va_P D zcl (wd r ca h) H ∧ va_S (zA r) s.heap H locs
def zl (r : Nat → Nat) (ls : Array Slot) (nL : Nat) (lv : List zV) : Prop := ls.size = nL ∧ lv_wf ls ∧ ∀ (i : Nat) (v : zV), lv[i]? = some v → vuse v = true → ls[i]? = some (.val (tv r v))
def zQ (D : va_G) (r : Nat → Nat) (ca : Nat → ClassId) (post : Option zV → zH → Prop) : Array Value → State → Outcome → State → Prop := fun _ st o t =>
  ∃ (v : Option zV) (h : zH), post v h ∧ o = .returned (v.map (tv r)) ∧ va_P D zcl (wd r ca h) t.heap ∧ va_F (zA r) st t
/-- from here the method comes to an end with post -/
def Z (M : zM) (post : Option zV → zH → Prop) (pc : Nat) (lv st : List zV) (h : zH) : Prop :=
  ∀ (p : Program) (l : Launch) (e : Env) (s : State) (m : MethodId) (args : Array Value) (below : List Frame) (meth : Method) (c : Code) (D : va_G) (r : Nat → Nat) (ca : Nat → ClassId), zB M p s m args meth c D r ca →
    ∀ (H : Heap) (locs : List Loc) (ls : Array Slot), zP D r ca s h H locs → zl r ls M.2.2.1 lv →
      W p l e M.rm s m args below meth c H locs 0 0 (MQ below (zQ D r ca post) args s 0 0 (zA r)) (F0 m pc ls (st.map (tv r)))
def zPc (D : va_G) (r : Nat → Nat) (ca : Nat → ClassId) (av : List zV) (h : zH) : Array Value → State → Prop := fun v U => v = (av.map (tv r)).toArray ∧ va_P D zcl (wd r ca h) U.heap ∧ va_K D zcl (ztys ca) U ∧ zD r
/-- a method's contract -/
def zC (M : zM) (av : List zV) (h : zH) (post : Option zV → zH → Prop) : Prop :=
  ∀ (l : Launch) (D : va_G) (r : Nat → Nat) (ca : Nat → ClassId), Met l M.1 (zws M) M.rm (zPc D r ca av h) (zQ D r ca post) 0 0 (zA r)
theorem zPc_blind {D : va_G} {r : Nat → Nat} {ca : Nat → ClassId} {av : List zV} {h : zH} : FrameBlind (zPc D r ca av h) := by
  intro a U g mk q
  obtain ⟨q0, q1, q2, q3⟩ := q
  exact ⟨q0, q1, va_K.moved (u := U) (U := U.calling g mk a) (Vm.Alike.refl U.vm) q2, q3⟩
/-- the locals with which a method begins -/
def zent : List zV → List zV
  | [] => []
  | v :: l => if vlong v then v :: vU :: zent l else v :: zent l
theorem zent_args (r : Nat → Nat) : ∀ (av : List zV) (b i : Nat) (v : zV), (zent av)[i]? = some v → vuse v = true → (b + i, tv r v) ∈ lv_args b (av.map (tv r))
  | [], b, i, v, h, _ => by simp [zent] at h
  | w :: l, b, i, v, h, hv => by
    have hc := tv_cat r w
    simp only [List.map_cons, lv_args, hc]
    by_cases hw : vlong w = true
    · simp only [zent, hw, if_true] at h
      simp only [vw, hw, if_true]
      match i, h with
      | 0, h =>
        simp only [List.getElem?_cons_zero, Option.some.injEq] at h
        subst h
        exact List.mem_cons_self
      | 1, h =>
        simp only [List.getElem?_cons_succ, List.getElem?_cons_zero, Option.some.injEq] at h
        subst h
        cases hv
      | j + 2, h =>
        simp only [List.getElem?_cons_succ] at h
        refine List.mem_cons_of_mem _ ?_
        have := zent_args r l (b + 2) j v h hv
        rwa [show b + (j + 2) = b + 2 + j by omega]
    · simp only [zent, hw] at h
      simp only [vw, hw]
      match i, h with
      | 0, h =>
        simp at h
        subst h
        exact List.mem_cons_self
      | j + 1, h =>
        simp only [Bool.false_eq_true, if_false, List.getElem?_cons_succ] at h
        refine List.mem_cons_of_mem _ ?_
        have := zent_args r l (b + 1) j v h hv
        rw [show b + (j + 1) = b + 1 + j by omega]
        simpa using this
theorem zent_len (r : Nat → Nat) : ∀ (av : List zV), (lg_sl (av.map (tv r))).length = (av.map vw).sum
  | [] => rfl
  | w :: l => by
    have hc := tv_cat r w
    have ih := zent_len r l
    simp only [List.map_cons, List.sum_cons]
    rw [← ih, ← hc]
    rcases w with x | x | x | x <;> simp [lg_sl, tv, Value.category] <;> omega
theorem zC.of {M : zM} {av : List zV} {h : zH} {post : Option zV → zH → Prop} (hp : plainName M.1.cls = true) (hn : (av.map vw).sum ≤ M.2.2.1) (k : Z M post 0 (zent av) [] h) : zC M av h post := by
  intro l D r ca
  refine Met.ofW (cc := M.2.1) (maxL := M.2.2.1) (ret := M.2.2.2.1) hp rfl ?_
  intro p e s m args below meth c s₁ B hml hv
  obtain ⟨rfl, hP, hK, hD⟩ := hv
  have hts := atoms_spec (ws := zws M) B.pre
  have hown : s.vm.findClass M.1.cls = some m.cls := findClass_of_methodNamed B.named
  have hl := lv_entry (av.map (tv r)) (n := M.2.2.1) (by rw [zent_len]; exact hn)
  rw [lg_entry_eq]
  refine k p l e s m _ below meth c D r ca ⟨B.exec, B.bytes, hml, hown, fun w hw => hts w (List.mem_cons_of_mem _ hw), B.returns, B.notSynchronized, hK, hD⟩ s.heap [] _ ⟨hP, va_S.rf⟩ ⟨hl.1, hl.2.1, fun i v hi hu => ?_⟩
  have hm := zent_args r av 0 i v hi hu
  rw [Nat.zero_add] at hm
  exact hl.2.2 _ hm
end
section
theorem i32_add (x y : Int) : Int32.ofInt (x + y) = Int32.ofInt x + Int32.ofInt y := Int32.toBitVec.inj (by simp [BitVec.ofInt_add])
theorem i32_sub (x y : Int) : Int32.ofInt (x - y) = Int32.ofInt x - Int32.ofInt y := by
  rw [Int.sub_eq_add_neg, i32_add, ← Int32.neg_ofInt, Int32.sub_eq_add_neg]
theorem i32_mul (x y : Int) : Int32.ofInt (x * y) = Int32.ofInt x * Int32.ofInt y := Int32.toBitVec.inj (by simp [BitVec.ofInt_mul])
theorem i64_add (x y : Int) : Int64.ofInt (x + y) = Int64.ofInt x + Int64.ofInt y := Int64.toBitVec.inj (by simp [BitVec.ofInt_add])
theorem i32_to {x : Int} (h : -2147483648 ≤ x ∧ x ≤ 2147483647) : (Int32.ofInt x).toInt = x := Int32.toInt_ofInt_of_le (by omega) (by omega)
theorem i32_lt {x y : Int} (hx : -2147483648 ≤ x ∧ x ≤ 2147483647) (hy : -2147483648 ≤ y ∧ y ≤ 2147483647) : Int32.ofInt x < Int32.ofInt y ↔ x < y := by
  rw [Int32.lt_iff_toInt_lt, i32_to hx, i32_to hy]
theorem i32_le {x y : Int} (hx : -2147483648 ≤ x ∧ x ≤ 2147483647) (hy : -2147483648 ≤ y ∧ y ≤ 2147483647) : Int32.ofInt x ≤ Int32.ofInt y ↔ x ≤ y := by
  rw [Int32.le_iff_toInt_le, i32_to hx, i32_to hy]
theorem i32_eq {x y : Int} (hx : -2147483648 ≤ x ∧ x ≤ 2147483647) (hy : -2147483648 ≤ y ∧ y ≤ 2147483647) : Int32.ofInt x = Int32.ofInt y ↔ x = y := by
  rw [← Int32.toInt_inj, i32_to hx, i32_to hy]
theorem i32_0 : (0 : Int32) = Int32.ofInt 0 := rfl
theorem i32_clamp {x : Int} (h : 0 ≤ x ∧ x ≤ 2147483647) : (Int32.ofInt x).toNatClampNeg = x.toNat := Int32.toNatClampNeg_ofInt_of_le (by omega) (by omega)
theorem i32_in {x : Int} {n : Nat} (h : 0 ≤ x ∧ x < n) (hn : n ≤ 2147483647) : vp_in (Int32.ofInt x) n := by
  rw [vp_in_iff, i32_to (by omega)]
  exact h
theorem i32_rem {x y : Int} (hx : -2147483648 ≤ x ∧ x ≤ 2147483647) (hy : -2147483648 ≤ y ∧ y ≤ 2147483647) : Int32.ofInt x - Int32.ofInt x / Int32.ofInt y * Int32.ofInt y = Int32.ofInt (x.tmod y) := by
  rw [← Int32.toInt_inj, rem_toInt, i32_to hx, i32_to hy, i32_to]
  have h1 := Int.natAbs_tmod x y
  have h2 : x.natAbs % y.natAbs ≤ x.natAbs := Nat.mod_le _ _
  have h3 : (x.tmod y).natAbs ≤ x.natAbs := by omega
  by_cases h : 0 ≤ x
  · have := Int.tmod_nonneg y h
    omega
  · have h4 : (-x).tmod y = -(x.tmod y) := Int.neg_tmod x y
    have h5 := Int.tmod_nonneg y (show 0 ≤ -x by omega)
    omega
theorem i32_div {x y : Int} (hx : 0 ≤ x ∧ x ≤ 2147483647) (hy : 0 < y ∧ y ≤ 2147483647) : Int32.ofInt x / Int32.ofInt y = Int32.ofInt (x / y) := by
  have e : x / y = x.tdiv y := (Int.tdiv_eq_ediv_of_nonneg hx.1).symm
  have h1 : 0 ≤ x / y := Int.ediv_nonneg hx.1 (by omega)
  have h2 : x / y ≤ x := Int.ediv_le_self y hx.1
  rw [← Int32.toInt_inj, Int32.toInt_div, i32_to (by omega), i32_to (by omega), i32_to (by omega), ← e, Int.bmod_eq_of_le (by omega) (by omega)]
def zb (c : Prop) [Decidable c] : Int := if c then 1 else 0
theorem zb_01 (c : Prop) [Decidable c] : zb c = 0 ∨ zb c = 1 := by unfold zb; split <;> simp
theorem zb_t {c : Prop} [Decidable c] (h : c) : zb c = 1 := if_pos h
theorem zb_f {c : Prop} [Decidable c] (h : ¬ c) : zb c = 0 := if_neg h
theorem tv_zb {x : Int} (h : x = 0 ∨ x = 1) : narrow .boolean (.int (Int32.ofInt x)) = .int (Int32.ofInt x) ∧ fits .boolean (.int (Int32.ofInt x)) = true := by
  rcases h with rfl | rfl <;> exact ⟨by decide, by decide⟩
theorem zks_small (a : Nat) : (zks a).2 ≤ 1146 := by
  by_cases h : a < 56
  · have : ∀ b, b < 56 → (zks b).2 ≤ 1146 := by decide
    exact this a h
  · unfold zks
    rw [List.getD_eq_getElem?_getD, List.getElem?_eq_none (Nat.le_of_not_lt h)]
    decide
def zls (r : Nat → Nat) (lv : List zV) : List (Nat × Value) := (List.range lv.length).filterMap (fun j => if vuse (lv.getD j vU) then some (j, tv r (lv.getD j vU)) else none)
theorem zls_mem {r : Nat → Nat} {lv : List zV} {q : Nat × Value} : q ∈ zls r lv ↔ ∃ v, lv[q.1]? = some v ∧ vuse v = true ∧ q.2 = tv r v := by
  constructor
  · intro h
    obtain ⟨j, hj, he⟩ := List.mem_filterMap.mp h
    have hj := List.mem_range.mp hj
    by_cases hu : vuse (lv.getD j vU) = true
    · rw [if_pos hu] at he
      cases he
      refine ⟨lv.getD j vU, ?_, hu, rfl⟩
      simp [List.getD_eq_getElem?_getD, hj]
    · rw [if_neg hu] at he
      cases he
  · rintro ⟨v, h1, h2, h3⟩
    have hj : q.1 < lv.length := (List.getElem?_eq_some_iff.mp h1).1
    have e : lv.getD q.1 vU = v := by rw [List.getD_eq_getElem?_getD, h1]; rfl
    refine List.mem_filterMap.mpr ⟨q.1, List.mem_range.mpr hj, ?_⟩
    rw [e, if_pos h2, ← h3]
theorem zl_has {r : Nat → Nat} {ls : Array Slot} {nL : Nat} {lv : List zV} (h : zl r ls nL lv) : lv_has ls nL (zls r lv) := by
  refine ⟨h.1, h.2.1, fun q hq => ?_⟩
  obtain ⟨v, h1, h2, h3⟩ := zls_mem.mp hq
  rw [h3]
  exact h.2.2 q.1 v h1 h2
theorem zl_one {r : Nat → Nat} {ls : Array Slot} {nL : Nat} {lv : List zV} {i : Nat} {v : zV} (h : zl r ls nL lv) (hi : lv[i]? = some v) (hu : vuse v = true) : ls[i]? = some (.val (tv r v)) := h.2.2 i v hi hu
theorem zl_back {r : Nat → Nat} {ls : Array Slot} {nL : Nat} {lv : List zV} {i : Nat} {v : zV} (h : lv_has ls nL ((i, tv r v) :: (zls r lv).filter (fun q => !(q.1 == i) && !(q.1 + 1 == i && q.2.category == 2)))) (hp : ∀ w, 0 < i → lv[i - 1]? = some w → vlong w = false) : zl r ls nL (lv.set i v) := by
  refine ⟨h.1, h.2.1, fun j w hj hu => ?_⟩
  by_cases hji : j = i
  · subst hji
    have hl : j < lv.length := by
      have := (List.getElem?_eq_some_iff.mp hj).1
      simpa using this
    rw [List.getElem?_set_self hl] at hj
    cases hj
    exact h.2.2 (j, tv r v) List.mem_cons_self
  · rw [List.getElem?_set_ne (Ne.symm hji)] at hj
    refine h.2.2 (j, tv r w) (List.mem_cons_of_mem _ (List.mem_filter.mpr ⟨zls_mem.mpr ⟨w, hj, hu, rfl⟩, ?_⟩))
    by_cases hji2 : j + 1 = i
    · have h2 := hp w (by omega) (by rw [← hji2]; exact hj)
      have h3 : (tv r w).category = 1 := by rw [tv_cat]; simp [vw, h2]
      simp [hji, h3]
    · simp [hji, hji2]
theorem zl_back2 {r : Nat → Nat} {ls : Array Slot} {nL : Nat} {lv : List zV} {i : Nat} {v : zV} (h : lv_has ls nL ((i, tv r v) :: (zls r lv).filter (fun q => !(q.1 == i) && (!(q.1 == i + 1) && !(q.1 + 1 == i && q.2.category == 2))))) (hp : ∀ w, 0 < i → lv[i - 1]? = some w → vlong w = false) : zl r ls nL ((lv.set i v).set (i + 1) vU) := by
  refine ⟨h.1, h.2.1, fun j w hj hu => ?_⟩
  by_cases hj1 : j = i + 1
  · subst hj1
    have hl : i + 1 < (lv.set i v).length := by
      have := (List.getElem?_eq_some_iff.mp hj).1
      simpa using this
    rw [List.getElem?_set_self hl] at hj
    cases hj
    cases hu
  · rw [List.getElem?_set_ne (Ne.symm hj1)] at hj
    by_cases hji : j = i
    · subst hji
      have hl : j < lv.length := by
        have := (List.getElem?_eq_some_iff.mp hj).1
        simpa using this
      rw [List.getElem?_set_self hl] at hj
      cases hj
      exact h.2.2 (j, tv r v) List.mem_cons_self
    · rw [List.getElem?_set_ne (Ne.symm hji)] at hj
      refine h.2.2 (j, tv r w) (List.mem_cons_of_mem _ (List.mem_filter.mpr ⟨zls_mem.mpr ⟨w, hj, hu, rfl⟩, ?_⟩))
      by_cases hji2 : j + 1 = i
      · have h2 := hp w (by omega) (by rw [← hji2]; exact hj)
        have h3 : (tv r w).category = 1 := by rw [tv_cat]; simp [vw, h2]
        simp [hji, hj1, h3]
      · simp [hji, hj1, hji2]
section ZR
variable {M : zM} {post : Option zV → zH → Prop} {pc : Nat} {lv st : List zV} {h : zH}
theorem z_iconst {n : Int} (hd : decode M.2.1 pc = .ok (.iconst n, 1)) (k : Z M post (pc + 1) lv (vI n :: st) h) : Z M post pc lv (st) h := by
  intro p l e s m args below meth c D r ca B H locs ls P L
  have k := k p l e s m args below meth c D r ca B H locs ls P L
  exact lv_iconst B.1 B.2.1 hd rfl k
theorem z_bipush {n : Int} (hn : (Int8.ofInt n).toInt32 = Int32.ofInt n) (hd : decode M.2.1 pc = .ok (.bipush n, 2)) (k : Z M post (pc + 2) lv (vI n :: st) h) : Z M post pc lv st h := by
  intro p l e s m args below meth c D r ca B H locs ls P L
  have k := k p l e s m args below meth c D r ca B H locs ls P L
  exact lv_bipush B.1 B.2.1 hd hn k
theorem z_sipush {n : Int} (hn : (Int16.ofInt n).toInt32 = Int32.ofInt n) (hd : decode M.2.1 pc = .ok (.sipush n, 3)) (k : Z M post (pc + 3) lv (vI n :: st) h) : Z M post pc lv st h := by
  intro p l e s m args below meth c D r ca B H locs ls P L
  have k := k p l e s m args below meth c D r ca B H locs ls P L
  exact lv_sipush B.1 B.2.1 hd hn k
theorem z_lconst0 (hd : decode M.2.1 pc = .ok (.lconst 0, 1)) (k : Z M post (pc + 1) lv (vL 0 :: st) h) : Z M post pc lv st h := by
  intro p l e s m args below meth c D r ca B H locs ls P L
  have k := k p l e s m args below meth c D r ca B H locs ls P L
  exact lv_lconst B.1 B.2.1 hd (by decide) k
theorem z_lconst1 (hd : decode M.2.1 pc = .ok (.lconst 1, 1)) (k : Z M post (pc + 1) lv (vL 1 :: st) h) : Z M post pc lv st h := by
  intro p l e s m args below meth c D r ca B H locs ls P L
  have k := k p l e s m args below meth c D r ca B H locs ls P L
  exact lv_lconst B.1 B.2.1 hd (by decide) k
theorem z_ldc {idx : Nat} (n : Int) (hw : Cond.constant M.1.cls idx (Int32.ofInt n) ∈ zt) (hd : decode M.2.1 pc = .ok (.ldc idx, 2)) (k : Z M post (pc + 2) lv (vI n :: st) h) : Z M post pc lv st h := by
  intro p l e s m args below meth c D r ca B H locs ls P L
  have k := k p l e s m args below meth c D r ca B H locs ls P L
  exact lv_ldc B.1 B.2.1 B.2.2.2.1 (B.2.2.2.2.1 _ hw) hd k
theorem z_ldc2 {idx : Nat} (n : Int) (hw : Cond.constantLong M.1.cls idx (Int64.ofInt n) ∈ zt) (hd : decode M.2.1 pc = .ok (.ldc2_w idx, 3)) (k : Z M post (pc + 3) lv (vL n :: st) h) : Z M post pc lv st h := by
  intro p l e s m args below meth c D r ca B H locs ls P L
  have k := k p l e s m args below meth c D r ca B H locs ls P L
  exact lv_ldc2 B.1 B.2.1 B.2.2.2.1 (B.2.2.2.2.1 _ hw) hd k
theorem z_iload_n {i : Fin 4} {x : Int} (hd : decode M.2.1 pc = .ok (.iload_n i, 1)) (hl : lv[(i : Nat)]? = some (vI x)) (k : Z M post (pc + 1) lv (vI x :: st) h) : Z M post pc lv st h := by
  intro p l e s m args below meth c D r ca B H locs ls P L
  have k := k p l e s m args below meth c D r ca B H locs ls P L
  exact lv_iload_n B.1 B.2.1 hd rfl (zl_one L hl rfl) k
theorem z_iload {i : Nat} {x : Int} (hd : decode M.2.1 pc = .ok (.iload i, 2)) (hl : lv[i]? = some (vI x)) (k : Z M post (pc + 2) lv (vI x :: st) h) : Z M post pc lv st h := by
  intro p l e s m args below meth c D r ca B H locs ls P L
  have k := k p l e s m args below meth c D r ca B H locs ls P L
  exact lv_iload B.1 B.2.1 hd (zl_one L hl rfl) k
theorem z_lload_n {i : Fin 4} {x : Int} (hd : decode M.2.1 pc = .ok (.lload_n i, 1)) (hl : lv[(i : Nat)]? = some (vL x)) (k : Z M post (pc + 1) lv (vL x :: st) h) : Z M post pc lv st h := by
  intro p l e s m args below meth c D r ca B H locs ls P L
  have k := k p l e s m args below meth c D r ca B H locs ls P L
  exact lv_lload_n B.1 B.2.1 hd rfl (zl_one L hl rfl) k
theorem z_lload {i : Nat} {x : Int} (hd : decode M.2.1 pc = .ok (.lload i, 2)) (hl : lv[i]? = some (vL x)) (k : Z M post (pc + 2) lv (vL x :: st) h) : Z M post pc lv st h := by
  intro p l e s m args below meth c D r ca B H locs ls P L
  have k := k p l e s m args below meth c D r ca B H locs ls P L
  exact lv_lload B.1 B.2.1 hd (zl_one L hl rfl) k
theorem z_aload_n {i : Fin 4} {x : Nat} (hd : decode M.2.1 pc = .ok (.aload_n i, 1)) (hl : lv[(i : Nat)]? = some (vR x)) (k : Z M post (pc + 1) lv (vR x :: st) h) : Z M post pc lv st h := by
  intro p l e s m args below meth c D r ca B H locs ls P L
  have k := k p l e s m args below meth c D r ca B H locs ls P L
  exact lv_aload_n B.1 B.2.1 hd rfl (zl_one L hl rfl) k
theorem z_aload {i : Nat} {x : Nat} (hd : decode M.2.1 pc = .ok (.aload i, 2)) (hl : lv[i]? = some (vR x)) (k : Z M post (pc + 2) lv (vR x :: st) h) : Z M post pc lv st h := by
  intro p l e s m args below meth c D r ca B H locs ls P L
  have k := k p l e s m args below meth c D r ca B H locs ls P L
  exact lv_aload B.1 B.2.1 hd (zl_one L hl rfl) k
theorem zg_istore_n {i : Fin 4} {x : Int} (hd : decode M.2.1 pc = .ok (.istore_n i, 1)) (hn : (i : Nat) < M.2.2.1) (hp : ∀ w, 0 < (i : Nat) → lv[(i : Nat) - 1]? = some w → vlong w = false) (k : Z M post (pc + 1) (lv.set i (vI x)) st h) : Z M post pc lv (vI x :: st) h := by
  intro p l e s m args below meth c D r ca B H locs ls P L
  exact lv_istore_n B.1 B.2.1 hd rfl (zl_has L) hn rfl (fun ls2 L2 => k p l e s m args below meth c D r ca B H locs ls2 P (zl_back (v := vI x) L2 hp))
theorem zg_istore {i : Nat} {x : Int} (hd : decode M.2.1 pc = .ok (.istore i, 2)) (hn : i < M.2.2.1) (hp : ∀ w, 0 < i → lv[i - 1]? = some w → vlong w = false) (k : Z M post (pc + 2) (lv.set i (vI x)) st h) : Z M post pc lv (vI x :: st) h := by
  intro p l e s m args below meth c D r ca B H locs ls P L
  exact lv_istore B.1 B.2.1 hd (zl_has L) hn rfl (fun ls2 L2 => k p l e s m args below meth c D r ca B H locs ls2 P (zl_back (v := vI x) L2 hp))
theorem zg_astore_n {i : Fin 4} {x : Nat} (hd : decode M.2.1 pc = .ok (.astore_n i, 1)) (hn : (i : Nat) < M.2.2.1) (hp : ∀ w, 0 < (i : Nat) → lv[(i : Nat) - 1]? = some w → vlong w = false) (k : Z M post (pc + 1) (lv.set i (vR x)) st h) : Z M post pc lv (vR x :: st) h := by
  intro p l e s m args below meth c D r ca B H locs ls P L
  exact lv_astore_n B.1 B.2.1 hd rfl (zl_has L) hn rfl (fun ls2 L2 => k p l e s m args below meth c D r ca B H locs ls2 P (zl_back (v := vR x) L2 hp))
theorem zg_astore {i : Nat} {x : Nat} (hd : decode M.2.1 pc = .ok (.astore i, 2)) (hn : i < M.2.2.1) (hp : ∀ w, 0 < i → lv[i - 1]? = some w → vlong w = false) (k : Z M post (pc + 2) (lv.set i (vR x)) st h) : Z M post pc lv (vR x :: st) h := by
  intro p l e s m args below meth c D r ca B H locs ls P L
  exact lv_astore B.1 B.2.1 hd (zl_has L) hn rfl (fun ls2 L2 => k p l e s m args below meth c D r ca B H locs ls2 P (zl_back (v := vR x) L2 hp))
theorem zg_lstore_n {i : Fin 4} {x : Int} (hd : decode M.2.1 pc = .ok (.lstore_n i, 1)) (hn : (i : Nat) + 1 < M.2.2.1) (hp : ∀ w, 0 < (i : Nat) → lv[(i : Nat) - 1]? = some w → vlong w = false) (k : Z M post (pc + 1) ((lv.set i (vL x)).set (i + 1) vU) st h) : Z M post pc lv (vL x :: st) h := by
  intro p l e s m args below meth c D r ca B H locs ls P L
  exact lv_lstore_n B.1 B.2.1 hd rfl (zl_has L) hn rfl (fun ls2 L2 => k p l e s m args below meth c D r ca B H locs ls2 P (zl_back2 (v := vL x) L2 hp))
theorem zg_iinc {i : Nat} {n x : Int} (hd : decode M.2.1 pc = .ok (.iinc i n, 3)) (hl : lv[i]? = some (vI x)) (hn : i < M.2.2.1) (hp : ∀ w, 0 < i → lv[i - 1]? = some w → vlong w = false) (k : Z M post (pc + 3) (lv.set i (vI (x + n))) st h) : Z M post pc lv st h := by
  intro p l e s m args below meth c D r ca B H locs ls P L
  have hm : (i, Value.int (Int32.ofInt x)) ∈ zls r lv := zls_mem.mpr ⟨vI x, hl, rfl, rfl⟩
  obtain ⟨j, hj⟩ := List.getElem?_of_mem hm
  exact lv_iinc B.1 B.2.1 hd (zl_has L) hj (i32_add x n).symm hn rfl (fun ls2 L2 => k p l e s m args below meth c D r ca B H locs ls2 P (zl_back (v := vI (x + n)) L2 hp))
theorem z_istore_0 {a0 : zV} {x : Int} (hd : decode M.2.1 pc = .ok (.istore_n 0, 1)) (hn : 0 < M.2.2.1) (k : Z M post (pc + 1) (vI x :: lv) st h) : Z M post pc (a0 :: lv) (vI x :: st) h := zg_istore_n hd hn (fun w h0 _ => absurd h0 (Nat.lt_irrefl 0)) k
theorem z_astore_0 {a0 : zV} {x : Nat} (hd : decode M.2.1 pc = .ok (.astore_n 0, 1)) (hn : 0 < M.2.2.1) (k : Z M post (pc + 1) (vR x :: lv) st h) : Z M post pc (a0 :: lv) (vR x :: st) h := zg_astore_n hd hn (fun w h0 _ => absurd h0 (Nat.lt_irrefl 0)) k
theorem z_iinc_0 {n x : Int} (hd : decode M.2.1 pc = .ok (.iinc 0 n, 3)) (hn : 0 < M.2.2.1) (k : Z M post (pc + 3) (vI (x + n) :: lv) st h) : Z M post pc (vI x :: lv) st h := zg_iinc hd rfl hn (fun w h0 _ => absurd h0 (Nat.lt_irrefl 0)) k
theorem z_istore_1 {a0 a1 : zV} {x : Int} (hd : decode M.2.1 pc = .ok (.istore_n 1, 1)) (hn : 1 < M.2.2.1) (hp : vlong a0 = false) (k : Z M post (pc + 1) (a0 :: vI x :: lv) st h) : Z M post pc (a0 :: a1 :: lv) (vI x :: st) h := zg_istore_n hd hn (fun w _ hw => by cases hw; exact hp) k
theorem z_astore_1 {a0 a1 : zV} {x : Nat} (hd : decode M.2.1 pc = .ok (.astore_n 1, 1)) (hn : 1 < M.2.2.1) (hp : vlong a0 = false) (k : Z M post (pc + 1) (a0 :: vR x :: lv) st h) : Z M post pc (a0 :: a1 :: lv) (vR x :: st) h := zg_astore_n hd hn (fun w _ hw => by cases hw; exact hp) k
theorem z_iinc_1 {a0 : zV} {n x : Int} (hd : decode M.2.1 pc = .ok (.iinc 1 n, 3)) (hn : 1 < M.2.2.1) (hp : vlong a0 = false) (k : Z M post (pc + 3) (a0 :: vI (x + n) :: lv) st h) : Z M post pc (a0 :: vI x :: lv) st h := zg_iinc hd rfl hn (fun w _ hw => by cases hw; exact hp) k
theorem z_istore_2 {a0 a1 a2 : zV} {x : Int} (hd : decode M.2.1 pc = .ok (.istore_n 2, 1)) (hn : 2 < M.2.2.1) (hp : vlong a1 = false) (k : Z M post (pc + 1) (a0 :: a1 :: vI x :: lv) st h) : Z M post pc (a0 :: a1 :: a2 :: lv) (vI x :: st) h := zg_istore_n hd hn (fun w _ hw => by cases hw; exact hp) k
theorem z_astore_2 {a0 a1 a2 : zV} {x : Nat} (hd : decode M.2.1 pc = .ok (.astore_n 2, 1)) (hn : 2 < M.2.2.1) (hp : vlong a1 = false) (k : Z M post (pc + 1) (a0 :: a1 :: vR x :: lv) st h) : Z M post pc (a0 :: a1 :: a2 :: lv) (vR x :: st) h := zg_astore_n hd hn (fun w _ hw => by cases hw; exact hp) k
theorem z_iinc_2 {a0 a1 : zV} {n x : Int} (hd : decode M.2.1 pc = .ok (.iinc 2 n, 3)) (hn : 2 < M.2.2.1) (hp : vlong a1 = false) (k : Z M post (pc + 3) (a0 :: a1 :: vI (x + n) :: lv) st h) : Z M post pc (a0 :: a1 :: vI x :: lv) st h := zg_iinc hd rfl hn (fun w _ hw => by cases hw; exact hp) k
theorem z_istore_3 {a0 a1 a2 a3 : zV} {x : Int} (hd : decode M.2.1 pc = .ok (.istore_n 3, 1)) (hn : 3 < M.2.2.1) (hp : vlong a2 = false) (k : Z M post (pc + 1) (a0 :: a1 :: a2 :: vI x :: lv) st h) : Z M post pc (a0 :: a1 :: a2 :: a3 :: lv) (vI x :: st) h := zg_istore_n hd hn (fun w _ hw => by cases hw; exact hp) k
theorem z_astore_3 {a0 a1 a2 a3 : zV} {x : Nat} (hd : decode M.2.1 pc = .ok (.astore_n 3, 1)) (hn : 3 < M.2.2.1) (hp : vlong a2 = false) (k : Z M post (pc + 1) (a0 :: a1 :: a2 :: vR x :: lv) st h) : Z M post pc (a0 :: a1 :: a2 :: a3 :: lv) (vR x :: st) h := zg_astore_n hd hn (fun w _ hw => by cases hw; exact hp) k
theorem z_iinc_3 {a0 a1 a2 : zV} {n x : Int} (hd : decode M.2.1 pc = .ok (.iinc 3 n, 3)) (hn : 3 < M.2.2.1) (hp : vlong a2 = false) (k : Z M post (pc + 3) (a0 :: a1 :: a2 :: vI (x + n) :: lv) st h) : Z M post pc (a0 :: a1 :: a2 :: vI x :: lv) st h := zg_iinc hd rfl hn (fun w _ hw => by cases hw; exact hp) k
theorem z_istore_4 {a0 a1 a2 a3 a4 : zV} {x : Int} (hd : decode M.2.1 pc = .ok (.istore 4, 2)) (hn : 4 < M.2.2.1) (hp : vlong a3 = false) (k : Z M post (pc + 2) (a0 :: a1 :: a2 :: a3 :: vI x :: lv) st h) : Z M post pc (a0 :: a1 :: a2 :: a3 :: a4 :: lv) (vI x :: st) h := zg_istore hd hn (fun w _ hw => by cases hw; exact hp) k
theorem z_astore_4 {a0 a1 a2 a3 a4 : zV} {x : Nat} (hd : decode M.2.1 pc = .ok (.astore 4, 2)) (hn : 4 < M.2.2.1) (hp : vlong a3 = false) (k : Z M post (pc + 2) (a0 :: a1 :: a2 :: a3 :: vR x :: lv) st h) : Z M post pc (a0 :: a1 :: a2 :: a3 :: a4 :: lv) (vR x :: st) h := zg_astore hd hn (fun w _ hw => by cases hw; exact hp) k
theorem z_iinc_4 {a0 a1 a2 a3 : zV} {n x : Int} (hd : decode M.2.1 pc = .ok (.iinc 4 n, 3)) (hn : 4 < M.2.2.1) (hp : vlong a3 = false) (k : Z M post (pc + 3) (a0 :: a1 :: a2 :: a3 :: vI (x + n) :: lv) st h) : Z M post pc (a0 :: a1 :: a2 :: a3 :: vI x :: lv) st h := zg_iinc hd rfl hn (fun w _ hw => by cases hw; exact hp) k
theorem z_istore_5 {a0 a1 a2 a3 a4 a5 : zV} {x : Int} (hd : decode M.2.1 pc = .ok (.istore 5, 2)) (hn : 5 < M.2.2.1) (hp : vlong a4 = false) (k : Z M post (pc + 2) (a0 :: a1 :: a2 :: a3 :: a4 :: vI x :: lv) st h) : Z M post pc (a0 :: a1 :: a2 :: a3 :: a4 :: a5 :: lv) (vI x :: st) h := zg_istore hd hn (fun w _ hw => by cases hw; exact hp) k
theorem z_astore_5 {a0 a1 a2 a3 a4 a5 : zV} {x : Nat} (hd : decode M.2.1 pc = .ok (.astore 5, 2)) (hn : 5 < M.2.2.1) (hp : vlong a4 = false) (k : Z M post (pc + 2) (a0 :: a1 :: a2 :: a3 :: a4 :: vR x :: lv) st h) : Z M post pc (a0 :: a1 :: a2 :: a3 :: a4 :: a5 :: lv) (vR x :: st) h := zg_astore hd hn (fun w _ hw => by cases hw; exact hp) k
theorem z_iinc_5 {a0 a1 a2 a3 a4 : zV} {n x : Int} (hd : decode M.2.1 pc = .ok (.iinc 5 n, 3)) (hn : 5 < M.2.2.1) (hp : vlong a4 = false) (k : Z M post (pc + 3) (a0 :: a1 :: a2 :: a3 :: a4 :: vI (x + n) :: lv) st h) : Z M post pc (a0 :: a1 :: a2 :: a3 :: a4 :: vI x :: lv) st h := zg_iinc hd rfl hn (fun w _ hw => by cases hw; exact hp) k
theorem z_istore_6 {a0 a1 a2 a3 a4 a5 a6 : zV} {x : Int} (hd : decode M.2.1 pc = .ok (.istore 6, 2)) (hn : 6 < M.2.2.1) (hp : vlong a5 = false) (k : Z M post (pc + 2) (a0 :: a1 :: a2 :: a3 :: a4 :: a5 :: vI x :: lv) st h) : Z M post pc (a0 :: a1 :: a2 :: a3 :: a4 :: a5 :: a6 :: lv) (vI x :: st) h := zg_istore hd hn (fun w _ hw => by cases hw; exact hp) k
theorem z_astore_6 {a0 a1 a2 a3 a4 a5 a6 : zV} {x : Nat} (hd : decode M.2.1 pc = .ok (.astore 6, 2)) (hn : 6 < M.2.2.1) (hp : vlong a5 = false) (k : Z M post (pc + 2) (a0 :: a1 :: a2 :: a3 :: a4 :: a5 :: vR x :: lv) st h) : Z M post pc (a0 :: a1 :: a2 :: a3 :: a4 :: a5 :: a6 :: lv) (vR x :: st) h := zg_astore hd hn (fun w _ hw => by cases hw; exact hp) k
theorem z_iinc_6 {a0 a1 a2 a3 a4 a5 : zV} {n x : Int} (hd : decode M.2.1 pc = .ok (.iinc 6 n, 3)) (hn : 6 < M.2.2.1) (hp : vlong a5 = false) (k : Z M post (pc + 3) (a0 :: a1 :: a2 :: a3 :: a4 :: a5 :: vI (x + n) :: lv) st h) : Z M post pc (a0 :: a1 :: a2 :: a3 :: a4 :: a5 :: vI x :: lv) st h := zg_iinc hd rfl hn (fun w _ hw => by cases hw; exact hp) k
theorem z_istore_7 {a0 a1 a2 a3 a4 a5 a6 a7 : zV} {x : Int} (hd : decode M.2.1 pc = .ok (.istore 7, 2)) (hn : 7 < M.2.2.1) (hp : vlong a6 = false) (k : Z M post (pc + 2) (a0 :: a1 :: a2 :: a3 :: a4 :: a5 :: a6 :: vI x :: lv) st h) : Z M post pc (a0 :: a1 :: a2 :: a3 :: a4 :: a5 :: a6 :: a7 :: lv) (vI x :: st) h := zg_istore hd hn (fun w _ hw => by cases hw; exact hp) k
theorem z_astore_7 {a0 a1 a2 a3 a4 a5 a6 a7 : zV} {x : Nat} (hd : decode M.2.1 pc = .ok (.astore 7, 2)) (hn : 7 < M.2.2.1) (hp : vlong a6 = false) (k : Z M post (pc + 2) (a0 :: a1 :: a2 :: a3 :: a4 :: a5 :: a6 :: vR x :: lv) st h) : Z M post pc (a0 :: a1 :: a2 :: a3 :: a4 :: a5 :: a6 :: a7 :: lv) (vR x :: st) h := zg_astore hd hn (fun w _ hw => by cases hw; exact hp) k
theorem z_iinc_7 {a0 a1 a2 a3 a4 a5 a6 : zV} {n x : Int} (hd : decode M.2.1 pc = .ok (.iinc 7 n, 3)) (hn : 7 < M.2.2.1) (hp : vlong a6 = false) (k : Z M post (pc + 3) (a0 :: a1 :: a2 :: a3 :: a4 :: a5 :: a6 :: vI (x + n) :: lv) st h) : Z M post pc (a0 :: a1 :: a2 :: a3 :: a4 :: a5 :: a6 :: vI x :: lv) st h := zg_iinc hd rfl hn (fun w _ hw => by cases hw; exact hp) k
theorem z_istore_8 {a0 a1 a2 a3 a4 a5 a6 a7 a8 : zV} {x : Int} (hd : decode M.2.1 pc = .ok (.istore 8, 2)) (hn : 8 < M.2.2.1) (hp : vlong a7 = false) (k : Z M post (pc + 2) (a0 :: a1 :: a2 :: a3 :: a4 :: a5 :: a6 :: a7 :: vI x :: lv) st h) : Z M post pc (a0 :: a1 :: a2 :: a3 :: a4 :: a5 :: a6 :: a7 :: a8 :: lv) (vI x :: st) h := zg_istore hd hn (fun w _ hw => by cases hw; exact hp) k
theorem z_astore_8 {a0 a1 a2 a3 a4 a5 a6 a7 a8 : zV} {x : Nat} (hd : decode M.2.1 pc = .ok (.astore 8, 2)) (hn : 8 < M.2.2.1) (hp : vlong a7 = false) (k : Z M post (pc + 2) (a0 :: a1 :: a2 :: a3 :: a4 :: a5 :: a6 :: a7 :: vR x :: lv) st h) : Z M post pc (a0 :: a1 :: a2 :: a3 :: a4 :: a5 :: a6 :: a7 :: a8 :: lv) (vR x :: st) h := zg_astore hd hn (fun w _ hw => by cases hw; exact hp) k
theorem z_iinc_8 {a0 a1 a2 a3 a4 a5 a6 a7 : zV} {n x : Int} (hd : decode M.2.1 pc = .ok (.iinc 8 n, 3)) (hn : 8 < M.2.2.1) (hp : vlong a7 = false) (k : Z M post (pc + 3) (a0 :: a1 :: a2 :: a3 :: a4 :: a5 :: a6 :: a7 :: vI (x + n) :: lv) st h) : Z M post pc (a0 :: a1 :: a2 :: a3 :: a4 :: a5 :: a6 :: a7 :: vI x :: lv) st h := zg_iinc hd rfl hn (fun w _ hw => by cases hw; exact hp) k
theorem z_istore_9 {a0 a1 a2 a3 a4 a5 a6 a7 a8 a9 : zV} {x : Int} (hd : decode M.2.1 pc = .ok (.istore 9, 2)) (hn : 9 < M.2.2.1) (hp : vlong a8 = false) (k : Z M post (pc + 2) (a0 :: a1 :: a2 :: a3 :: a4 :: a5 :: a6 :: a7 :: a8 :: vI x :: lv) st h) : Z M post pc (a0 :: a1 :: a2 :: a3 :: a4 :: a5 :: a6 :: a7 :: a8 :: a9 :: lv) (vI x :: st) h := zg_istore hd hn (fun w _ hw => by cases hw; exact hp) k
theorem z_astore_9 {a0 a1 a2 a3 a4 a5 a6 a7 a8 a9 : zV} {x : Nat} (hd : decode M.2.1 pc = .ok (.astore 9, 2)) (hn : 9 < M.2.2.1) (hp : vlong a8 = false) (k : Z M post (pc + 2) (a0 :: a1 :: a2 :: a3 :: a4 :: a5 :: a6 :: a7 :: a8 :: vR x :: lv) st h) : Z M post pc (a0 :: a1 :: a2 :: a3 :: a4 :: a5 :: a6 :: a7 :: a8 :: a9 :: lv) (vR x :: st) h := zg_astore hd hn (fun w _ hw => by cases hw; exact hp) k
theorem z_iinc_9 {a0 a1 a2 a3 a4 a5 a6 a7 a8 : zV} {n x : Int} (hd : decode M.2.1 pc = .ok (.iinc 9 n, 3)) (hn : 9 < M.2.2.1) (hp : vlong a8 = false) (k : Z M post (pc + 3) (a0 :: a1 :: a2 :: a3 :: a4 :: a5 :: a6 :: a7 :: a8 :: vI (x + n) :: lv) st h) : Z M post pc (a0 :: a1 :: a2 :: a3 :: a4 :: a5 :: a6 :: a7 :: a8 :: vI x :: lv) st h := zg_iinc hd rfl hn (fun w _ hw => by cases hw; exact hp) k
theorem z_istore_10 {a0 a1 a2 a3 a4 a5 a6 a7 a8 a9 a10 : zV} {x : Int} (hd : decode M.2.1 pc = .ok (.istore 10, 2)) (hn : 10 < M.2.2.1) (hp : vlong a9 = false) (k : Z M post (pc + 2) (a0 :: a1 :: a2 :: a3 :: a4 :: a5 :: a6 :: a7 :: a8 :: a9 :: vI x :: lv) st h) : Z M post pc (a0 :: a1 :: a2 :: a3 :: a4 :: a5 :: a6 :: a7 :: a8 :: a9 :: a10 :: lv) (vI x :: st) h := zg_istore hd hn (fun w _ hw => by cases hw; exact hp) k
theorem z_astore_10 {a0 a1 a2 a3 a4 a5 a6 a7 a8 a9 a10 : zV} {x : Nat} (hd : decode M.2.1 pc = .ok (.astore 10, 2)) (hn : 10 < M.2.2.1) (hp : vlong a9 = false) (k : Z M post (pc + 2) (a0 :: a1 :: a2 :: a3 :: a4 :: a5 :: a6 :: a7 :: a8 :: a9 :: vR x :: lv) st h) : Z M post pc (a0 :: a1 :: a2 :: a3 :: a4 :: a5 :: a6 :: a7 :: a8 :: a9 :: a10 :: lv) (vR x :: st) h := zg_astore hd hn (fun w _ hw => by cases hw; exact hp) k
theorem z_iinc_10 {a0 a1 a2 a3 a4 a5 a6 a7 a8 a9 : zV} {n x : Int} (hd : decode M.2.1 pc = .ok (.iinc 10 n, 3)) (hn : 10 < M.2.2.1) (hp : vlong a9 = false) (k : Z M post (pc + 3) (a0 :: a1 :: a2 :: a3 :: a4 :: a5 :: a6 :: a7 :: a8 :: a9 :: vI (x + n) :: lv) st h) : Z M post pc (a0 :: a1 :: a2 :: a3 :: a4 :: a5 :: a6 :: a7 :: a8 :: a9 :: vI x :: lv) st h := zg_iinc hd rfl hn (fun w _ hw => by cases hw; exact hp) k
theorem z_istore_11 {a0 a1 a2 a3 a4 a5 a6 a7 a8 a9 a10 a11 : zV} {x : Int} (hd : decode M.2.1 pc = .ok (.istore 11, 2)) (hn : 11 < M.2.2.1) (hp : vlong a10 = false) (k : Z M post (pc + 2) (a0 :: a1 :: a2 :: a3 :: a4 :: a5 :: a6 :: a7 :: a8 :: a9 :: a10 :: vI x :: lv) st h) : Z M post pc (a0 :: a1 :: a2 :: a3 :: a4 :: a5 :: a6 :: a7 :: a8 :: a9 :: a10 :: a11 :: lv) (vI x :: st) h := zg_istore hd hn (fun w _ hw => by cases hw; exact hp) k
theorem z_astore_11 {a0 a1 a2 a3 a4 a5 a6 a7 a8 a9 a10 a11 : zV} {x : Nat} (hd : decode M.2.1 pc = .ok (.astore 11, 2)) (hn : 11 < M.2.2.1) (hp : vlong a10 = false) (k : Z M post (pc + 2) (a0 :: a1 :: a2 :: a3 :: a4 :: a5 :: a6 :: a7 :: a8 :: a9 :: a10 :: vR x :: lv) st h) : Z M post pc (a0 :: a1 :: a2 :: a3 :: a4 :: a5 :: a6 :: a7 :: a8 :: a9 :: a10 :: a11 :: lv) (vR x :: st) h := zg_astore hd hn (fun w _ hw => by cases hw; exact hp) k
theorem z_iinc_11 {a0 a1 a2 a3 a4 a5 a6 a7 a8 a9 a10 : zV} {n x : Int} (hd : decode M.2.1 pc = .ok (.iinc 11 n, 3)) (hn : 11 < M.2.2.1) (hp : vlong a10 = false) (k : Z M post (pc + 3) (a0 :: a1 :: a2 :: a3 :: a4 :: a5 :: a6 :: a7 :: a8 :: a9 :: a10 :: vI (x + n) :: lv) st h) : Z M post pc (a0 :: a1 :: a2 :: a3 :: a4 :: a5 :: a6 :: a7 :: a8 :: a9 :: a10 :: vI x :: lv) st h := zg_iinc hd rfl hn (fun w _ hw => by cases hw; exact hp) k
theorem z_lstore_1 {a0 a1 a2 : zV} {x : Int} (hd : decode M.2.1 pc = .ok (.lstore_n 1, 1)) (hn : 2 < M.2.2.1) (hp : vlong a0 = false) (k : Z M post (pc + 1) (a0 :: vL x :: vU :: lv) st h) : Z M post pc (a0 :: a1 :: a2 :: lv) (vL x :: st) h := zg_lstore_n hd hn (fun w _ hw => by cases hw; exact hp) k
theorem z_iadd {x y : Int} (hd : decode M.2.1 pc = .ok (.iadd, 1)) (k : Z M post (pc + 1) lv (vI (x + y) :: st) h) : Z M post pc lv (vI y :: vI x :: st) h := by
  intro p l e s m args below meth c D r ca B H locs ls P L
  have k := k p l e s m args below meth c D r ca B H locs ls P L
  refine lv_iadd B.1 B.2.1 hd ?_
  rw [← i32_add]
  exact k
theorem z_isub {x y : Int} (hd : decode M.2.1 pc = .ok (.isub, 1)) (k : Z M post (pc + 1) lv (vI (x - y) :: st) h) : Z M post pc lv (vI y :: vI x :: st) h := by
  intro p l e s m args below meth c D r ca B H locs ls P L
  have k := k p l e s m args below meth c D r ca B H locs ls P L
  refine lv_isub B.1 B.2.1 hd ?_
  rw [← i32_sub]
  exact k
theorem z_imul {x y : Int} (hd : decode M.2.1 pc = .ok (.imul, 1)) (k : Z M post (pc + 1) lv (vI (x * y) :: st) h) : Z M post pc lv (vI y :: vI x :: st) h := by
  intro p l e s m args below meth c D r ca B H locs ls P L
  have k := k p l e s m args below meth c D r ca B H locs ls P L
  refine lv_imul B.1 B.2.1 hd ?_
  rw [← i32_mul]
  exact k
theorem z_ladd {x y : Int} (hd : decode M.2.1 pc = .ok (.ladd, 1)) (k : Z M post (pc + 1) lv (vL (x + y) :: st) h) : Z M post pc lv (vL y :: vL x :: st) h := by
  intro p l e s m args below meth c D r ca B H locs ls P L
  have k := k p l e s m args below meth c D r ca B H locs ls P L
  refine lv_ladd B.1 B.2.1 hd ?_
  rw [← i64_add]
  exact k
theorem z_irem {x y : Int} (hd : decode M.2.1 pc = .ok (.irem, 1)) (hx : -2147483648 ≤ x ∧ x ≤ 2147483647) (hy : -2147483648 ≤ y ∧ y ≤ 2147483647) (h0 : y ≠ 0) (k : Z M post (pc + 1) lv (vI (x.tmod y) :: st) h) : Z M post pc lv (vI y :: vI x :: st) h := by
  intro p l e s m args below meth c D r ca B H locs ls P L
  have k := k p l e s m args below meth c D r ca B H locs ls P L
  refine lv_irem B.1 B.2.1 hd (by rw [i32_0, i32_eq hy (by omega)]; exact h0) ?_
  rw [i32_rem hx hy]
  exact k
theorem z_irem_p {x y : Int} (hd : decode M.2.1 pc = .ok (.irem, 1)) (hx : 0 ≤ x ∧ x ≤ 2147483647) (hy : 0 < y ∧ y ≤ 2147483647) (k : Z M post (pc + 1) lv (vI (x % y) :: st) h) : Z M post pc lv (vI y :: vI x :: st) h := by
  refine z_irem hd (by omega) (by omega) (by omega) ?_
  rw [Int.tmod_eq_emod_of_nonneg hx.1]
  exact k
theorem z_idiv {x y : Int} (hd : decode M.2.1 pc = .ok (.idiv, 1)) (hx : 0 ≤ x ∧ x ≤ 2147483647) (hy : 0 < y ∧ y ≤ 2147483647) (k : Z M post (pc + 1) lv (vI (x / y) :: st) h) : Z M post pc lv (vI y :: vI x :: st) h := by
  intro p l e s m args below meth c D r ca B H locs ls P L
  have k := k p l e s m args below meth c D r ca B H locs ls P L
  refine lv_idiv B.1 B.2.1 hd (by rw [i32_0, i32_eq (by omega) (by omega)]; omega) ?_
  rw [i32_div hx hy]
  exact k
theorem z_dup {v : zV} (hv : vw v = 1) (hd : decode M.2.1 pc = .ok (.dup, 1)) (k : Z M post (pc + 1) lv (v :: v :: st) h) : Z M post pc lv (v :: st) h := by
  intro p l e s m args below meth c D r ca B H locs ls P L
  have k := k p l e s m args below meth c D r ca B H locs ls P L
  exact lv_dup B.1 B.2.1 hd (by rw [tv_cat]; exact hv) k
theorem z_pop {v : zV} (hv : vw v = 1) (hd : decode M.2.1 pc = .ok (.pop, 1)) (k : Z M post (pc + 1) lv st h) : Z M post pc lv (v :: st) h := by
  intro p l e s m args below meth c D r ca B H locs ls P L
  have k := k p l e s m args below meth c D r ca B H locs ls P L
  exact lv_pop B.1 B.2.1 hd (by rw [tv_cat]; exact hv) k
theorem z_dup_x1 {v w : zV} (hv : vw v = 1) (hw : vw w = 1) (hd : decode M.2.1 pc = .ok (.dup_x1, 1)) (k : Z M post (pc + 1) lv (v :: w :: v :: st) h) : Z M post pc lv (v :: w :: st) h := by
  intro p l e s m args below meth c D r ca B H locs ls P L
  have k := k p l e s m args below meth c D r ca B H locs ls P L
  exact lv_dup_x1 B.1 B.2.1 hd (by rw [tv_cat]; exact hv) (by rw [tv_cat]; exact hw) k
theorem z_dup2 {v w : zV} (hv : vw v = 1) (hw : vw w = 1) (hd : decode M.2.1 pc = .ok (.dup2, 1)) (k : Z M post (pc + 1) lv (v :: w :: v :: w :: st) h) : Z M post pc lv (v :: w :: st) h := by
  intro p l e s m args below meth c D r ca B H locs ls P L
  have k := k p l e s m args below meth c D r ca B H locs ls P L
  exact lv_dup2_11 B.1 B.2.1 hd (by rw [tv_cat]; exact hv) (by rw [tv_cat]; exact hw) k
theorem z_icmp_eq {x y off : Int} {tgt : Nat} (hd : decode M.2.1 pc = .ok (.if_icmp .eq off, 3)) (ht : (pc : Int) + off = (tgt : Int)) (hx : -2147483648 ≤ x ∧ x ≤ 2147483647) (hy : -2147483648 ≤ y ∧ y ≤ 2147483647) (kt : x = y → Z M post tgt lv st h) (kf : ¬ x = y → Z M post (pc + 3) lv st h) : Z M post pc lv (vI y :: vI x :: st) h := by
  intro p l e s m args below meth c D r ca B H locs ls P L
  exact lv_icmp_eq B.1 B.2.1 hd ht (fun q => kt (by exact (i32_eq hx hy).mp q) p l e s m args below meth c D r ca B H locs ls P L) (fun q => kf (by exact fun z => q ((i32_eq hx hy).mpr z)) p l e s m args below meth c D r ca B H locs ls P L)
theorem z_icmp_ne {x y off : Int} {tgt : Nat} (hd : decode M.2.1 pc = .ok (.if_icmp .ne off, 3)) (ht : (pc : Int) + off = (tgt : Int)) (hx : -2147483648 ≤ x ∧ x ≤ 2147483647) (hy : -2147483648 ≤ y ∧ y ≤ 2147483647) (kt : ¬ x = y → Z M post tgt lv st h) (kf : x = y → Z M post (pc + 3) lv st h) : Z M post pc lv (vI y :: vI x :: st) h := by
  intro p l e s m args below meth c D r ca B H locs ls P L
  exact lv_icmp_ne B.1 B.2.1 hd ht (fun q => kt (by exact fun z => q ((i32_eq hx hy).mpr z)) p l e s m args below meth c D r ca B H locs ls P L) (fun q => kf (by exact (i32_eq hx hy).mp q) p l e s m args below meth c D r ca B H locs ls P L)
theorem z_icmp_lt {x y off : Int} {tgt : Nat} (hd : decode M.2.1 pc = .ok (.if_icmp .lt off, 3)) (ht : (pc : Int) + off = (tgt : Int)) (hx : -2147483648 ≤ x ∧ x ≤ 2147483647) (hy : -2147483648 ≤ y ∧ y ≤ 2147483647) (kt : x < y → Z M post tgt lv st h) (kf : y ≤ x → Z M post (pc + 3) lv st h) : Z M post pc lv (vI y :: vI x :: st) h := by
  intro p l e s m args below meth c D r ca B H locs ls P L
  exact lv_icmp_lt B.1 B.2.1 hd ht (fun q => kt (by exact (i32_lt hx hy).mp q) p l e s m args below meth c D r ca B H locs ls P L) (fun q => kf (by exact Int.not_lt.mp (fun z => q ((i32_lt hx hy).mpr z))) p l e s m args below meth c D r ca B H locs ls P L)
theorem z_icmp_ge {x y off : Int} {tgt : Nat} (hd : decode M.2.1 pc = .ok (.if_icmp .ge off, 3)) (ht : (pc : Int) + off = (tgt : Int)) (hx : -2147483648 ≤ x ∧ x ≤ 2147483647) (hy : -2147483648 ≤ y ∧ y ≤ 2147483647) (kt : y ≤ x → Z M post tgt lv st h) (kf : x < y → Z M post (pc + 3) lv st h) : Z M post pc lv (vI y :: vI x :: st) h := by
  intro p l e s m args below meth c D r ca B H locs ls P L
  exact lv_icmp_ge B.1 B.2.1 hd ht (fun q => kt (by exact (i32_le hy hx).mp q) p l e s m args below meth c D r ca B H locs ls P L) (fun q => kf (by exact Int.not_le.mp (fun z => q ((i32_le hy hx).mpr z))) p l e s m args below meth c D r ca B H locs ls P L)
theorem z_icmp_gt {x y off : Int} {tgt : Nat} (hd : decode M.2.1 pc = .ok (.if_icmp .gt off, 3)) (ht : (pc : Int) + off = (tgt : Int)) (hx : -2147483648 ≤ x ∧ x ≤ 2147483647) (hy : -2147483648 ≤ y ∧ y ≤ 2147483647) (kt : y < x → Z M post tgt lv st h) (kf : x ≤ y → Z M post (pc + 3) lv st h) : Z M post pc lv (vI y :: vI x :: st) h := by
  intro p l e s m args below meth c D r ca B H locs ls P L
  exact lv_icmp_gt B.1 B.2.1 hd ht (fun q => kt (by exact (i32_lt hy hx).mp q) p l e s m args below meth c D r ca B H locs ls P L) (fun q => kf (by exact Int.not_lt.mp (fun z => q ((i32_lt hy hx).mpr z))) p l e s m args below meth c D r ca B H locs ls P L)
theorem z_icmp_le {x y off : Int} {tgt : Nat} (hd : decode M.2.1 pc = .ok (.if_icmp .le off, 3)) (ht : (pc : Int) + off = (tgt : Int)) (hx : -2147483648 ≤ x ∧ x ≤ 2147483647) (hy : -2147483648 ≤ y ∧ y ≤ 2147483647) (kt : x ≤ y → Z M post tgt lv st h) (kf : y < x → Z M post (pc + 3) lv st h) : Z M post pc lv (vI y :: vI x :: st) h := by
  intro p l e s m args below meth c D r ca B H locs ls P L
  exact lv_icmp_le B.1 B.2.1 hd ht (fun q => kt (by exact (i32_le hx hy).mp q) p l e s m args below meth c D r ca B H locs ls P L) (fun q => kf (by exact Int.not_le.mp (fun z => q ((i32_le hx hy).mpr z))) p l e s m args below meth c D r ca B H locs ls P L)
theorem z_if_eq {x off : Int} {tgt : Nat} (hd : decode M.2.1 pc = .ok (.ifCond .eq off, 3)) (ht : (pc : Int) + off = (tgt : Int)) (hx : -2147483648 ≤ x ∧ x ≤ 2147483647) (kt : x = 0 → Z M post tgt lv st h) (kf : ¬ x = 0 → Z M post (pc + 3) lv st h) : Z M post pc lv (vI x :: st) h := by
  intro p l e s m args below meth c D r ca B H locs ls P L
  have hy : -2147483648 ≤ (0 : Int) ∧ (0 : Int) ≤ 2147483647 := by omega
  exact lv_if_eq B.1 B.2.1 hd ht (fun q => kt (by rw [i32_0] at q; exact (i32_eq hx hy).mp q) p l e s m args below meth c D r ca B H locs ls P L) (fun q => kf (by rw [i32_0] at q; exact fun z => q ((i32_eq hx hy).mpr z)) p l e s m args below meth c D r ca B H locs ls P L)
theorem z_if_ne {x off : Int} {tgt : Nat} (hd : decode M.2.1 pc = .ok (.ifCond .ne off, 3)) (ht : (pc : Int) + off = (tgt : Int)) (hx : -2147483648 ≤ x ∧ x ≤ 2147483647) (kt : ¬ x = 0 → Z M post tgt lv st h) (kf : x = 0 → Z M post (pc + 3) lv st h) : Z M post pc lv (vI x :: st) h := by
  intro p l e s m args below meth c D r ca B H locs ls P L
  have hy : -2147483648 ≤ (0 : Int) ∧ (0 : Int) ≤ 2147483647 := by omega
  exact lv_if_ne B.1 B.2.1 hd ht (fun q => kt (by rw [i32_0] at q; exact fun z => q ((i32_eq hx hy).mpr z)) p l e s m args below meth c D r ca B H locs ls P L) (fun q => kf (by rw [i32_0] at q; exact (i32_eq hx hy).mp q) p l e s m args below meth c D r ca B H locs ls P L)
theorem z_if_lt {x off : Int} {tgt : Nat} (hd : decode M.2.1 pc = .ok (.ifCond .lt off, 3)) (ht : (pc : Int) + off = (tgt : Int)) (hx : -2147483648 ≤ x ∧ x ≤ 2147483647) (kt : x < 0 → Z M post tgt lv st h) (kf : 0 ≤ x → Z M post (pc + 3) lv st h) : Z M post pc lv (vI x :: st) h := by
  intro p l e s m args below meth c D r ca B H locs ls P L
  have hy : -2147483648 ≤ (0 : Int) ∧ (0 : Int) ≤ 2147483647 := by omega
  exact lv_if_lt B.1 B.2.1 hd ht (fun q => kt (by rw [i32_0] at q; exact (i32_lt hx hy).mp q) p l e s m args below meth c D r ca B H locs ls P L) (fun q => kf (by rw [i32_0] at q; exact Int.not_lt.mp (fun z => q ((i32_lt hx hy).mpr z))) p l e s m args below meth c D r ca B H locs ls P L)
theorem z_if_ge {x off : Int} {tgt : Nat} (hd : decode M.2.1 pc = .ok (.ifCond .ge off, 3)) (ht : (pc : Int) + off = (tgt : Int)) (hx : -2147483648 ≤ x ∧ x ≤ 2147483647) (kt : 0 ≤ x → Z M post tgt lv st h) (kf : x < 0 → Z M post (pc + 3) lv st h) : Z M post pc lv (vI x :: st) h := by
  intro p l e s m args below meth c D r ca B H locs ls P L
  have hy : -2147483648 ≤ (0 : Int) ∧ (0 : Int) ≤ 2147483647 := by omega
  exact lv_if_ge B.1 B.2.1 hd ht (fun q => kt (by rw [i32_0] at q; exact (i32_le hy hx).mp q) p l e s m args below meth c D r ca B H locs ls P L) (fun q => kf (by rw [i32_0] at q; exact Int.not_le.mp (fun z => q ((i32_le hy hx).mpr z))) p l e s m args below meth c D r ca B H locs ls P L)
theorem z_if_gt {x off : Int} {tgt : Nat} (hd : decode M.2.1 pc = .ok (.ifCond .gt off, 3)) (ht : (pc : Int) + off = (tgt : Int)) (hx : -2147483648 ≤ x ∧ x ≤ 2147483647) (kt : 0 < x → Z M post tgt lv st h) (kf : x ≤ 0 → Z M post (pc + 3) lv st h) : Z M post pc lv (vI x :: st) h := by
  intro p l e s m args below meth c D r ca B H locs ls P L
  have hy : -2147483648 ≤ (0 : Int) ∧ (0 : Int) ≤ 2147483647 := by omega
  exact lv_if_gt B.1 B.2.1 hd ht (fun q => kt (by rw [i32_0] at q; exact (i32_lt hy hx).mp q) p l e s m args below meth c D r ca B H locs ls P L) (fun q => kf (by rw [i32_0] at q; exact Int.not_lt.mp (fun z => q ((i32_lt hy hx).mpr z))) p l e s m args below meth c D r ca B H locs ls P L)
theorem z_if_le {x off : Int} {tgt : Nat} (hd : decode M.2.1 pc = .ok (.ifCond .le off, 3)) (ht : (pc : Int) + off = (tgt : Int)) (hx : -2147483648 ≤ x ∧ x ≤ 2147483647) (kt : x ≤ 0 → Z M post tgt lv st h) (kf : 0 < x → Z M post (pc + 3) lv st h) : Z M post pc lv (vI x :: st) h := by
  intro p l e s m args below meth c D r ca B H locs ls P L
  have hy : -2147483648 ≤ (0 : Int) ∧ (0 : Int) ≤ 2147483647 := by omega
  exact lv_if_le B.1 B.2.1 hd ht (fun q => kt (by rw [i32_0] at q; exact (i32_le hx hy).mp q) p l e s m args below meth c D r ca B H locs ls P L) (fun q => kf (by rw [i32_0] at q; exact Int.not_le.mp (fun z => q ((i32_le hx hy).mpr z))) p l e s m args below meth c D r ca B H locs ls P L)
theorem z_ifeqB {b : Prop} [Decidable b] {off : Int} {tgt : Nat} (hd : decode M.2.1 pc = .ok (.ifCond .eq off, 3)) (ht : (pc : Int) + off = (tgt : Int)) (kt : ¬ b → Z M post tgt lv st h) (kf : b → Z M post (pc + 3) lv st h) : Z M post pc lv (vI (zb b) :: st) h := by
  refine z_if_eq hd ht (by rcases zb_01 b with q | q <;> rw [q] <;> decide) (fun q => kt fun z => ?_) (fun q => kf (Classical.byContradiction fun z => ?_))
  · rw [zb_t z] at q; cases q
  · rw [zb_f z] at q; exact q rfl
theorem z_ifneB {b : Prop} [Decidable b] {off : Int} {tgt : Nat} (hd : decode M.2.1 pc = .ok (.ifCond .ne off, 3)) (ht : (pc : Int) + off = (tgt : Int)) (kt : b → Z M post tgt lv st h) (kf : ¬ b → Z M post (pc + 3) lv st h) : Z M post pc lv (vI (zb b) :: st) h := by
  refine z_if_ne hd ht (by rcases zb_01 b with q | q <;> rw [q] <;> decide) (fun q => kt (Classical.byContradiction fun z => ?_)) (fun q => kf fun z => ?_)
  · rw [zb_f z] at q; exact q rfl
  · rw [zb_t z] at q; cases q
theorem z_goto {off : Int} {tgt : Nat} (hd : decode M.2.1 pc = .ok (.goto off, 3)) (ht : (pc : Int) + off = (tgt : Int)) (k : Z M post tgt lv st h) : Z M post pc lv st h := by
  intro p l e s m args below meth c D r ca B H locs ls P L
  have k := k p l e s m args below meth c D r ca B H locs ls P L
  exact lv_goto B.1 B.2.1 hd ht k
theorem z_tabOut {dflt lo hi : Int} {offs : Array Int} {len : Nat} {x : Int} {tgt : Nat} (hd : decode M.2.1 pc = .ok (.tableswitch dflt lo hi offs, len)) (hx : -2147483648 ≤ x ∧ x ≤ 2147483647) (hq : x < lo ∨ hi < x) (ht : (pc : Int) + dflt = (tgt : Int)) (k : Z M post tgt lv st h) : Z M post pc lv (vI x :: st) h := by
  intro p l e s m args below meth c D r ca B H locs ls P L
  have k := k p l e s m args below meth c D r ca B H locs ls P L
  exact lv_tableOut B.1 B.2.1 hd (by rw [i32_to hx]; exact hq) ht k
theorem z_tabIn {dflt lo hi : Int} {offs : Array Int} {len : Nat} {x off : Int} {tgt : Nat} (hd : decode M.2.1 pc = .ok (.tableswitch dflt lo hi offs, len)) (hx : -2147483648 ≤ x ∧ x ≤ 2147483647) (h1 : lo ≤ x) (h2 : x ≤ hi) (ho : offs[(x - lo).toNat]? = some off) (ht : (pc : Int) + off = (tgt : Int)) (k : Z M post tgt lv st h) : Z M post pc lv (vI x :: st) h := by
  intro p l e s m args below meth c D r ca B H locs ls P L
  have k := k p l e s m args below meth c D r ca B H locs ls P L
  exact lv_tableIn B.1 B.2.1 hd (by rw [i32_to hx]; omega) (by rw [i32_to hx]; omega) (by rw [i32_to hx]; exact ho) ht k
theorem z_look {dflt : Int} {ps : Array (Int × Int)} {len : Nat} {x off : Int} {tgt : Nat} (hd : decode M.2.1 pc = .ok (.lookupswitch dflt ps, len)) (hp : (ps.toList.zip (ps.toList.drop 1)).all (fun (a, next) => a.1 < next.1) = true) (hx : -2147483648 ≤ x ∧ x ≤ 2147483647) (ho : Op.lookupswitch.offset ps.toList dflt x = off) (ht : (pc : Int) + off = (tgt : Int)) (k : Z M post tgt lv st h) : Z M post pc lv (vI x :: st) h := by
  intro p l e s m args below meth c D r ca B H locs ls P L
  have k := k p l e s m args below meth c D r ca B H locs ls P L
  exact lv_lookup B.1 B.2.1 hd hp (by rw [i32_to hx]; exact ho) ht k
theorem z_ireturn {x : Int} (hr : M.2.2.2.1 = some .int) (hd : decode M.2.1 pc = .ok (.ireturn, 1)) (hq : post (some (vI x)) h) : Z M post pc lv [vI x] h := by
  intro p l e s m args below meth c D r ca B H locs ls P L
  exact W.iret B.1 B.2.1 (B.2.2.2.2.2.1.trans hr) (fun t ht hW => ⟨some (vI x), h, hq, rfl, by rw [ht]; exact P.1, P.2.F ht⟩) P.2.2.2 hd B.2.2.2.2.2.2.1
theorem z_zreturn {x : Int} (hr : M.2.2.2.1 = some .boolean) (hx : x = 0 ∨ x = 1) (hd : decode M.2.1 pc = .ok (.ireturn, 1)) (hq : post (some (vI x)) h) : Z M post pc lv [vI x] h := by
  intro p l e s m args below meth c D r ca B H locs ls P L
  exact W.zret B.1 B.2.1 (B.2.2.2.2.2.1.trans hr) (tv_zb hx).1 (fun t ht hW => ⟨some (vI x), h, hq, rfl, by rw [ht]; exact P.1, P.2.F ht⟩) P.2.2.2 hd B.2.2.2.2.2.2.1
theorem z_lreturn {x : Int} (hr : M.2.2.2.1 = some .long) (hd : decode M.2.1 pc = .ok (.lreturn, 1)) (hq : post (some (vL x)) h) : Z M post pc lv [vL x] h := by
  intro p l e s m args below meth c D r ca B H locs ls P L
  exact W.lret B.1 B.2.1 (B.2.2.2.2.2.1.trans hr) (fun t ht hW => ⟨some (vL x), h, hq, rfl, by rw [ht]; exact P.1, P.2.F ht⟩) P.2.2.2 hd B.2.2.2.2.2.2.1
theorem z_return (hr : M.2.2.2.1 = none) (hd : decode M.2.1 pc = .ok (.return_, 1)) (hq : post none h) : Z M post pc lv [] h := by
  intro p l e s m args below meth c D r ca B H locs ls P L
  exact W.vret B.1 B.2.1 (B.2.2.2.2.2.1.trans hr) (fun t ht hW => ⟨none, h, hq, rfl, by rw [ht]; exact P.1, P.2.F ht⟩) P.2.2.2 hd B.2.2.2.2.2.2.1
end ZR
end
section
/-- a field's link: the number of the object's sort, the place of the field -/
def zF (own : String) (idx c k : Nat) : Prop := c < 13 ∧ k < zNN c ∧ Cond.fieldLink own idx (zTT c k).1 (zTT c k).2.1 (zTT c k).2.2.1 ∈ zt
def zisI (t : FieldType) : Bool := match t with
  | .int => true
  | .boolean => true
  | _ => false
def zisL (t : FieldType) : Bool := match t with
  | .long => true
  | _ => false
def zisR (t : FieldType) : Bool := match t with
  | .object _ => true
  | .array _ => true
  | _ => false
theorem fvI {r : Nat → Nat} {t : FieldType} {x : Int} (h : zisI t = true) : fv r t x = tv r (vI x) := by
  cases t <;> first | rfl | cases h
theorem fvL {r : Nat → Nat} {t : FieldType} {x : Int} (h : zisL t = true) : fv r t x = tv r (vL x) := by
  cases t <;> first | rfl | cases h
theorem fvR {r : Nat → Nat} {t : FieldType} {x : Int} (h : zisR t = true) : fv r t x = tv r (vR x.toNat) := by
  cases t <;> first | rfl | cases h
theorem zfs_at {r : Nat → Nat} {h : zH} {a c k : Nat} (hk : k < zNN c) : ((List.range (zNN c)).map (fun k => fv r (zty c k) (h a k)))[k]? = some (fv r (zty c k) (h a k)) := by
  simp [hk]
theorem zfs_set {r : Nat → Nat} {h : zH} {a c k : Nat} {x : Int} : (List.range (zNN c)).map (fun j => fv r (zty c j) (zup h a k x a j)) = ((List.range (zNN c)).map (fun j => fv r (zty c j) (h a j))).set k (fv r (zty c k) x) := by
  apply List.ext_getElem?
  intro j
  by_cases hj : j < zNN c
  · by_cases hjk : j = k
    · subst hjk
      rw [List.getElem?_set_self (by simpa using hj)]
      simp [hj, zup_same]
    · rw [List.getElem?_set_ne (Ne.symm hjk)]
      simp [hj, zup, hjk]
  · rw [List.getElem?_eq_none (by simpa using hj), List.getElem?_eq_none (by simpa using hj)]
theorem zup_off {h : zH} {a k : Nat} {x : Int} : ∀ b, b ≠ a → ∀ j, zup h a k x b j = h b j := fun b hb j => zup_other (fun q => hb q.1)
section ZH
variable {M : zM} {post : Option zV → zH → Prop} {pc : Nat} {lv st : List zV} {h : zH}
theorem zg_get {a c k idx : Nat} {v : zV} (hc : (zks a).1 = c) (hf : zF M.1.cls idx c k) (hv : ∀ r, fv r (zty c k) (h a k) = tv r v) (hd : decode M.2.1 pc = .ok (.getfield idx, 3)) (kk : Z M post (pc + 3) lv (v :: st) h) : Z M post pc lv (vR a :: st) h := by
  intro p l e s m args below meth c9 D r ca B H locs ls P L
  have k9 := kk p l e s m args below meth c9 D r ca B H locs ls P L
  have ha : a < 56 := zks_lt hc (by have := hf.1; omega)
  have he : (wd r ca h)[a]? = some (r a, .inr (c, (List.range (zNN c)).map (fun k => fv r (zty c k) (h a k)))) := by rw [wd_at ha, zcell_obj hc hf.1]
  exact va_get (D := D) (C := zRR c) (T := zTT c) (N := zNN c) B.1 B.2.1 B.2.2.2.2.1 (zcl_zt hf.1) B.2.2.2.1 B.2.2.2.2.2.2.2.1 P.1 a he (zcl_at c hf.1) k hf.2.1 (B.2.2.2.2.1 _ hf.2.2) (fun _ q => q) (by rw [zfs_at hf.2.1, hv r]) hd k9
theorem z_getI {a c k idx : Nat} (hf : zF M.1.cls idx c k) (hc : (zks a).1 = c) (ht : zisI (zty c k) = true) (hd : decode M.2.1 pc = .ok (.getfield idx, 3)) (kk : Z M post (pc + 3) lv (vI (h a k) :: st) h) : Z M post pc lv (vR a :: st) h := zg_get hc hf (fun _ => fvI ht) hd kk
theorem z_getL {a c k idx : Nat} (hf : zF M.1.cls idx c k) (hc : (zks a).1 = c) (ht : zisL (zty c k) = true) (hd : decode M.2.1 pc = .ok (.getfield idx, 3)) (kk : Z M post (pc + 3) lv (vL (h a k) :: st) h) : Z M post pc lv (vR a :: st) h := zg_get hc hf (fun _ => fvL ht) hd kk
theorem z_getR {a c k idx q : Nat} (hf : zF M.1.cls idx c k) (hc : (zks a).1 = c) (ht : zisR (zty c k) = true) (hd : decode M.2.1 pc = .ok (.getfield idx, 3)) (hq : h a k = (q : Int)) (kk : Z M post (pc + 3) lv (vR q :: st) h) : Z M post pc lv (vR a :: st) h := zg_get hc hf (fun r => by rw [fvR ht, hq]; rfl) hd kk
theorem zg_put {a c k idx : Nat} {v : zV} {x : Int} (hc : (zks a).1 = c) (hf : zF M.1.cls idx c k) (hfin : (zTT c k).2.2.2 = false) (hv : ∀ r, fv r (zty c k) x = tv r v) (hn : ∀ r, narrow (zty c k) (tv r v) = tv r v ∧ fits (zty c k) (tv r v) = true) (hd : decode M.2.1 pc = .ok (.putfield idx, 3)) (kk : Z M post (pc + 3) lv st (zup h a k x)) : Z M post pc lv (v :: vR a :: st) h := by
  intro p l e s m args below meth c9 D r ca B H locs ls P L
  have ha : a < 56 := zks_lt hc (by have := hf.1; omega)
  have he : (wd r ca h)[a]? = some (r a, .inr (c, (List.range (zNN c)).map (fun k => fv r (zty c k) (h a k)))) := by rw [wd_at ha, zcell_obj hc hf.1]
  have hw : wd r ca (zup h a k x) = (wd r ca h).set a (r a, .inr (c, ((List.range (zNN c)).map (fun k => fv r (zty c k) (h a k))).set k (tv r v))) := by
    rw [wd_set (h := h) (a := a) zup_off, zcell_obj hc hf.1, zfs_set, hv r]
  refine va_put (D := D) (C := zRR c) (T := zTT c) (N := zNN c) B.1 B.2.1 B.2.2.2.2.1 (zcl_zt hf.1) (zty c) (zcl_ty c hf.1) (zcl_nm c hf.1) B.2.2.2.1 B.2.2.2.2.2.2.2.1 P.1 (B.2.2.2.2.2.2.2.2.va ca h) P.2 a he (zcl_at c hf.1) k hf.2.1 (B.2.2.2.2.1 _ hf.2.2) (fun _ q => q) hfin (zcl_ty c hf.1 k hf.2.1) (hn r).1 (hn r).2 (by simpa using hf.2.1) hd (fun H1 locs1 hP1 _ hS1 => ?_)
  rw [← hw] at hP1
  exact kk p l e s m args below meth c9 D r ca B H1 locs1 ls ⟨hP1, hS1⟩ L
theorem z_putI {a c k idx : Nat} {x : Int} (hf : zF M.1.cls idx c k) (hc : (zks a).1 = c) (ht : zty c k = .int) (hfin : (zTT c k).2.2.2 = false) (hd : decode M.2.1 pc = .ok (.putfield idx, 3)) (kk : Z M post (pc + 3) lv st (zup h a k x)) : Z M post pc lv (vI x :: vR a :: st) h := zg_put hc hf hfin (fun _ => fvI (by rw [ht]; rfl)) (fun _ => by rw [ht]; exact ⟨rfl, rfl⟩) hd kk
theorem z_putB {a c k idx : Nat} {x : Int} (hf : zF M.1.cls idx c k) (hc : (zks a).1 = c) (ht : zty c k = .boolean) (hfin : (zTT c k).2.2.2 = false) (hx : x = 0 ∨ x = 1) (hd : decode M.2.1 pc = .ok (.putfield idx, 3)) (kk : Z M post (pc + 3) lv st (zup h a k x)) : Z M post pc lv (vI x :: vR a :: st) h := zg_put hc hf hfin (fun _ => fvI (by rw [ht]; rfl)) (fun _ => by rw [ht]; exact tv_zb hx) hd kk
theorem z_putL {a c k idx : Nat} {x : Int} (hf : zF M.1.cls idx c k) (hc : (zks a).1 = c) (ht : zty c k = .long) (hfin : (zTT c k).2.2.2 = false) (hd : decode M.2.1 pc = .ok (.putfield idx, 3)) (kk : Z M post (pc + 3) lv st (zup h a k x)) : Z M post pc lv (vL x :: vR a :: st) h := zg_put hc hf hfin (fun _ => fvL (by rw [ht]; rfl)) (fun _ => by rw [ht]; exact ⟨rfl, rfl⟩) hd kk
theorem z_putR {a c k idx q : Nat} (hf : zF M.1.cls idx c k) (hc : (zks a).1 = c) (ht : zisR (zty c k) = true) (hfin : (zTT c k).2.2.2 = false) (hd : decode M.2.1 pc = .ok (.putfield idx, 3)) (kk : Z M post (pc + 3) lv st (zup h a k (q : Int))) : Z M post pc lv (vR q :: vR a :: st) h := zg_put hc hf hfin (fun r => by rw [fvR ht]; rfl) (fun r => by
  revert ht
  generalize zty c k = t
  intro ht
  cases t <;> first | exact ⟨rfl, rfl⟩ | cases ht) hd kk
-- arrays
theorem z_iald {a n : Nat} {i : Int} (hk : zks a = (100, n)) (hi : 0 ≤ i ∧ i < n) (hd : decode M.2.1 pc = .ok (.iaload, 1)) (kk : Z M post (pc + 1) lv (vI (h a i.toNat) :: st) h) : Z M post pc lv (vI i :: vR a :: st) h := by
  intro p l e s m args below meth c9 D r ca B H locs ls P L
  have k9 := kk p l e s m args below meth c9 D r ca B H locs ls P L
  have ha : a < 56 := zks_lt (k := 100) (by rw [hk]) (by omega)
  have hs := zks_small a
  rw [hk] at hs
  have hs : n ≤ 1146 := hs
  have he : (wd r ca h)[a]? = some (r a, .inl (ca 0, n, .inl (fun j => Int32.ofInt (h a j)))) := by rw [wd_at ha, zcell_int hk]
  refine va_iald (D := D) B.1 B.2.1 B.2.2.2.2.2.2.2.1 P.1 a 0 he rfl (i32_in hi (by omega)) hd ?_
  rw [i32_clamp (by omega)]
  exact k9
theorem z_bald {a n : Nat} {i : Int} (hk : zks a = (101, n)) (hi : 0 ≤ i ∧ i < n) (hd : decode M.2.1 pc = .ok (.baload, 1)) (kk : Z M post (pc + 1) lv (vI (h a i.toNat) :: st) h) : Z M post pc lv (vI i :: vR a :: st) h := by
  intro p l e s m args below meth c9 D r ca B H locs ls P L
  have k9 := kk p l e s m args below meth c9 D r ca B H locs ls P L
  have ha : a < 56 := zks_lt (k := 101) (by rw [hk]) (by omega)
  have hs := zks_small a
  rw [hk] at hs
  have hs : n ≤ 1146 := hs
  have he : (wd r ca h)[a]? = some (r a, .inl (ca 1, n, .inl (fun j => Int32.ofInt (h a j)))) := by rw [wd_at ha, zcell_bool hk]
  refine va_zald (D := D) B.1 B.2.1 B.2.2.2.2.2.2.2.1 P.1 a 1 he rfl (i32_in hi (by omega)) hd ?_
  rw [i32_clamp (by omega)]
  exact k9
theorem z_aald {a n q t : Nat} {i : Int} (hk : zks a = (t, n)) (ht : t = 102 ∨ t = 103) (hi : 0 ≤ i ∧ i < n) (hq : h a i.toNat = (q : Int)) (hd : decode M.2.1 pc = .ok (.aaload, 1)) (kk : Z M post (pc + 1) lv (vR q :: st) h) : Z M post pc lv (vI i :: vR a :: st) h := by
  intro p l e s m args below meth c9 D r ca B H locs ls P L
  have k9 := kk p l e s m args below meth c9 D r ca B H locs ls P L
  have ha : a < 56 := zks_lt (k := t) (by rw [hk]) (by omega)
  have hs := zks_small a
  rw [hk] at hs
  have hs : n ≤ 1146 := hs
  have he : (wd r ca h)[a]? = some (r a, .inl (ca (t - 100), n, .inr (.inr (.inr (.inr (fun j => some (r (h a j).toNat))))))) := by rw [wd_at ha, zcell_refs hk (by omega)]
  rcases ht with rfl | rfl
  · refine va_aldq (D := D) (C := "RoseWheel$Days") B.1 B.2.1 B.2.2.2.2.2.2.2.1 P.1 a 2 he rfl (i32_in hi (by omega)) hd ?_
    rw [i32_clamp (by omega), hq]
    exact k9
  · refine va_aldq (D := D) (C := "RoseWheel$One") B.1 B.2.1 B.2.2.2.2.2.2.2.1 P.1 a 3 he rfl (i32_in hi (by omega)) hd ?_
    rw [i32_clamp (by omega), hq]
    exact k9
theorem zarr_set {h : zH} {a i : Nat} {x : Int} : (fun j => Int32.ofInt (zup h a i x a j)) = upd (fun j => Int32.ofInt (h a j)) i (Int32.ofInt x) := by
  funext j
  by_cases hj : j = i
  · subst hj; simp [upd, zup_same]
  · simp [upd, hj, zup]
theorem z_iast {a n : Nat} {i x : Int} (hk : zks a = (100, n)) (hi : 0 ≤ i ∧ i < n) (hd : decode M.2.1 pc = .ok (.iastore, 1)) (kk : Z M post (pc + 1) lv st (zup h a i.toNat x)) : Z M post pc lv (vI x :: vI i :: vR a :: st) h := by
  intro p l e s m args below meth c9 D r ca B H locs ls P L
  have ha : a < 56 := zks_lt (k := 100) (by rw [hk]) (by omega)
  have hs := zks_small a
  rw [hk] at hs
  have hs : n ≤ 1146 := hs
  have he : (wd r ca h)[a]? = some (r a, .inl (ca 0, n, .inl (fun j => Int32.ofInt (h a j)))) := by rw [wd_at ha, zcell_int hk]
  have hw : wd r ca (zup h a i.toNat x) = (wd r ca h).set a (r a, .inl (ca 0, n, .inl (upd (fun j => Int32.ofInt (h a j)) i.toNat (Int32.ofInt x)))) := by
    rw [wd_set (h := h) (a := a) zup_off, zcell_int hk, zarr_set]
  refine va_iast (D := D) B.1 B.2.1 B.2.2.2.2.2.2.2.1 P.1 (B.2.2.2.2.2.2.2.2.va ca h) P.2 a 0 he rfl (i32_in hi (by omega)) hd (fun H1 locs1 hP1 _ hS1 => ?_)
  rw [i32_clamp (by omega), ← hw] at hP1
  exact kk p l e s m args below meth c9 D r ca B H1 locs1 ls ⟨hP1, hS1⟩ L
theorem z_bast {a n : Nat} {i x : Int} (hk : zks a = (101, n)) (hi : 0 ≤ i ∧ i < n) (hx : x = 0 ∨ x = 1) (hd : decode M.2.1 pc = .ok (.bastore, 1)) (kk : Z M post (pc + 1) lv st (zup h a i.toNat x)) : Z M post pc lv (vI x :: vI i :: vR a :: st) h := by
  intro p l e s m args below meth c9 D r ca B H locs ls P L
  have ha : a < 56 := zks_lt (k := 101) (by rw [hk]) (by omega)
  have hs := zks_small a
  rw [hk] at hs
  have hs : n ≤ 1146 := hs
  have he : (wd r ca h)[a]? = some (r a, .inl (ca 1, n, .inl (fun j => Int32.ofInt (h a j)))) := by rw [wd_at ha, zcell_bool hk]
  have hw : wd r ca (zup h a i.toNat x) = (wd r ca h).set a (r a, .inl (ca 1, n, .inl (upd (fun j => Int32.ofInt (h a j)) i.toNat (Int32.ofInt x)))) := by
    rw [wd_set (h := h) (a := a) zup_off, zcell_bool hk, zarr_set]
  have hnx : vp_nar .boolean (Int32.ofInt x) = Int32.ofInt x := by
    rcases hx with rfl | rfl <;> decide
  refine va_zast (D := D) B.1 B.2.1 B.2.2.2.2.2.2.2.1 P.1 (B.2.2.2.2.2.2.2.2.va ca h) P.2 a 1 he rfl (i32_in hi (by omega)) hd (fun H1 locs1 hP1 _ hS1 => ?_)
  rw [i32_clamp (by omega), hnx, ← hw] at hP1
  exact kk p l e s m args below meth c9 D r ca B H1 locs1 ls ⟨hP1, hS1⟩ L
theorem z_alen {a t n : Nat} (hk : zks a = (t, n)) (ht : t = 100 ∨ t = 101 ∨ t = 102 ∨ t = 103) (hd : decode M.2.1 pc = .ok (.arraylength, 1)) (kk : Z M post (pc + 1) lv (vI (n : Int) :: st) h) : Z M post pc lv (vR a :: st) h := by
  intro p l e s m args below meth c9 D r ca B H locs ls P L
  have k9 := kk p l e s m args below meth c9 D r ca B H locs ls P L
  have ha : a < 56 := zks_lt (k := t) (by rw [hk]) (by omega)
  have e1 : Int32.ofNat n = Int32.ofInt (n : Int) := Int32.ofInt_eq_ofNat.symm
  rcases ht with rfl | rfl | rfl | rfl
  · exact va_alen (D := D) B.1 B.2.1 B.2.2.2.2.2.2.2.1 P.1 a 0 (by rw [wd_at ha, zcell_int hk]) rfl e1 hd k9
  · exact va_alen (D := D) B.1 B.2.1 B.2.2.2.2.2.2.2.1 P.1 a 1 (by rw [wd_at ha, zcell_bool hk]) rfl e1 hd k9
  · exact va_alen (D := D) B.1 B.2.1 B.2.2.2.2.2.2.2.1 P.1 a 2 (by rw [wd_at ha, zcell_refs hk (by omega)]) rfl e1 hd k9
  · exact va_alen (D := D) B.1 B.2.1 B.2.2.2.2.2.2.2.1 P.1 a 3 (by rw [wd_at ha, zcell_refs hk (by omega)]) rfl e1 hd k9
/-- System.arraycopy between rows of ints -/
def zcp (h : zH) (a0 a sp dp n : Nat) : zH := fun b j => if b = a ∧ dp ≤ j ∧ j < dp + n then h a0 (sp + (j - dp)) else h b j
theorem z_copy {a0 a n0 n1 idx : Nat} {sp dp n : Int} (hk0 : zks a0 = (100, n0)) (hk : zks a = (100, n1)) (h1 : 0 ≤ sp) (h2 : 0 ≤ dp) (h3 : 0 ≤ n) (h4 : sp + n ≤ n0) (h5 : dp + n ≤ n1)
    (hl : Cond.methodLink M.1.cls idx arraycopyName ∈ zt) (hnat : Cond.native arraycopyName ∈ zt) (hst : Cond.static arraycopyName ∈ zt) (hini : Cond.initialized "java/lang/System" ∈ zt) (hfr : 1 ≤ M.rm.frames) (hlo : (st.map vw).sum + (nativeFrameWords "java/lang/System" "arraycopy" 5 + 11) ≤ M.rm.locals)
    (hd : decode M.2.1 pc = .ok (.invokestatic idx, 3)) (kk : Z M post (pc + 3) lv st (zcp h a0 a sp.toNat dp.toNat n.toNat)) : Z M post pc lv (vI n :: vI dp :: vR a :: vI sp :: vR a0 :: st) h := by
  intro p l e s m args below meth c9 D r ca B H locs ls P L
  have ha : a < 56 := zks_lt (k := 100) (by rw [hk]) (by omega)
  have ha0 : a0 < 56 := zks_lt (k := 100) (by rw [hk0]) (by omega)
  have hs0 := zks_small a0
  rw [hk0] at hs0
  have hs0 : n0 ≤ 1146 := hs0
  have hs1 := zks_small a
  rw [hk] at hs1
  have hs1 : n1 ≤ 1146 := hs1
  have he0 : (wd r ca h)[a0]? = some (r a0, .inl (ca 0, n0, .inl (fun j => Int32.ofInt (h a0 j)))) := by rw [wd_at ha0, zcell_int hk0]
  have he : (wd r ca h)[a]? = some (r a, .inl (ca 0, n1, .inl (fun j => Int32.ofInt (h a j)))) := by rw [wd_at ha, zcell_int hk]
  have hf : (fun j => Int32.ofInt (zcp h a0 a sp.toNat dp.toNat n.toNat a j)) = va_cpy (fun j => Int32.ofInt (h a0 j)) (fun j => Int32.ofInt (h a j)) sp.toNat dp.toNat n.toNat := by
    funext j
    unfold zcp va_cpy
    by_cases hj : dp.toNat ≤ j ∧ j < dp.toNat + n.toNat
    · rw [if_pos ⟨rfl, hj⟩, if_pos hj]
    · rw [if_neg (fun q => hj q.2), if_neg hj]
  have hw : wd r ca (zcp h a0 a sp.toNat dp.toNat n.toNat) = (wd r ca h).set a (r a, .inl (ca 0, n1, .inl (va_cpy (fun j => Int32.ofInt (h a0 j)) (fun j => Int32.ofInt (h a j)) sp.toNat dp.toNat n.toNat))) := by
    rw [wd_set (h := h) (a := a) (fun b hb j => by simp [zcp, hb]), zcell_int hk, hf]
  have hlt : ∀ z : Int, 0 ≤ z → z ≤ 1146 → ¬ Int32.ofInt z < 0 := fun z hz hz2 => by
    rw [i32_0, i32_lt (by omega) (by omega)]; omega
  refine va_copyi (D := D) B.1 B.2.1 (B.2.2.1.trans L.1.symm) B.2.2.2.1 (B.2.2.2.2.1 _ hl) (B.2.2.2.2.1 _ hnat) (B.2.2.2.2.1 _ hst) (B.2.2.2.2.1 _ hini) B.2.2.2.2.2.2.2.1 P.1 (B.2.2.2.2.2.2.2.2.va ca h) P.2 a0 a 0 0 he0 he rfl rfl rfl (hlt _ h1 (by omega)) (hlt _ h2 (by omega)) (hlt _ h3 (by omega))
    (by rw [i32_clamp (by omega), i32_clamp (by omega)]; omega) (by rw [i32_clamp (by omega), i32_clamp (by omega)]; omega) (fun _ _ => rfl) hfr (by rw [tv_cats]; exact hlo) hd (fun H1 locs1 hP1 _ hS1 => ?_)
  rw [i32_clamp (by omega), i32_clamp (by omega), i32_clamp (by omega), ← hw] at hP1
  exact kk p l e s m args below meth c9 D r ca B H1 locs1 ls ⟨hP1, hS1⟩ L
end ZH
end
section
/-- what a callee brings along -/
def zG (N : zM) (n : Nat) : Prop := N.code ∈ zt ∧ Cond.initialized N.1.cls ∈ zt ∧ N.1.cls ≠ "java/lang/invoke/MethodHandle" ∧ N.1.cls ≠ "java/lang/invoke/VarHandle" ∧ (parseMethodDescriptor N.1.desc).map (fun d => d.parameters.length) = some n
/-- the callee's room within the caller's -/
def zRm (M N : zM) : Prop := N.rm.frames + 1 ≤ M.rm.frames ∧ 8 + (N.2.2.1 + 11) + N.rm.locals ≤ M.rm.locals
theorem zGood {ws : List Cond} (h : ∀ w ∈ ws, w ∈ zt) : GoodIn zt ws := fun w hw => ⟨h w hw, good_of_word (zt_good w (h w hw))⟩
theorem zws_in {N : zM} {n : Nat} (hg : zG N n) : ∀ w ∈ zws N, w ∈ zt := by
  intro w hw
  rcases List.mem_cons.mp hw with rfl | hw
  · exact hg.1
  · exact hw
section ZK
variable {M N : zM} {post postN : Option zV → zH → Prop} {pc idx n : Nat} {lv st av : List zV} {h : zH}
theorem z_after {p : Program} {l : Launch} {e : Env} {R : Room} {s : State} {m : MethodId} {args : Array Value} {below : List Frame} {meth : Method} {c : Code} {H : Heap} {locs : List Loc} {Q : State → Prop} {D : va_G} {r : Nat → Nat} {ca : Nat → ClassId} {ls : Array Slot} {st0 rest : List Value} {a : Array Value}
    (hr : va_Run p l e R s m args below meth c H locs 0 0 0 0 (F0 m pc ls st0) rest (zQ D r ca postN a) (zA r)) (hS : va_S (zA r) s.heap H locs)
    (kk : ∀ (v : Option zV) (h1 : zH) (H1 : Heap) (locs1 : List Loc), postN v h1 → va_P D zcl (wd r ca h1) H1 → va_S (zA r) s.heap H1 locs1 → W p l e R s m args below meth c H1 locs1 0 0 Q (F0 m (pc + 3) ls ((v.map (tv r)).toList ++ rest))) : W p l e R s m args below meth c H locs 0 0 Q (F0 m pc ls st0) := by
  intro T hT X
  obtain ⟨v, st₀, t, T', L, h0, X', hL, e1, e2, ⟨w, h1, hp, hv, hP, hz, hk⟩, st⟩ := hr T hT X
  have hv : v = w.map (tv r) := Outcome.returned.inj hv
  rw [h0] at hz hk
  obtain ⟨t2, a1, b1⟩ := kk w h1 T'.heap (locs ++ L) hp (by rw [e1]; exact hP)
    ⟨Nat.le_trans hS.1 (by rw [e1]; exact hz), fun q g1 g2 => by rw [e1, hk q (Nat.lt_of_lt_of_le g1 hS.1) g2]; exact hS.2.1 q g1 g2, fun q hq => by
      rcases List.mem_append.mp hq with g | g
      · exact hS.2.2 q g
      · exact hL q g⟩ T' rfl X'
  rw [← hv] at a1
  exact ⟨t2, st t2 a1, b1⟩
theorem zst_map {r : Nat → Nat} {v : Option zV} {st : List zV} : (v.map (tv r)).toList ++ st.map (tv r) = (v.toList ++ st).map (tv r) := by
  cases v <;> simp
theorem zg_callS (hC : zC N av h postN) (hg : zG N n) (hl : Cond.methodLink M.1.cls idx N.1 ∈ zt) (hst : Cond.static N.1 ∈ zt) (hrm : zRm M N) (hn : av.length = n) (hw : (st.map vw).sum ≤ 8) (hd : decode M.2.1 pc = .ok (.invokestatic idx, 3))
    (k : ∀ v h1, postN v h1 → Z M post (pc + 3) lv (v.toList ++ st) h1) : Z M post pc lv (av.reverse ++ st) h := by
  intro p l e s m args below meth c D r ca B H locs ls P L
  have hT : GoodIn zt (va_wsS M.1.cls idx N.1 (zws N)) := zGood (fun w hw => by
    unfold va_wsS at hw
    rcases List.mem_append.mp hw with q | q
    · simp only [List.mem_cons, List.not_mem_nil, or_false] at q
      rcases q with rfl | rfl | rfl
      · exact hl
      · exact hst
      · exact hg.2.1
    · exact zws_in hg w q)
  refine z_after (va_runS (As := av.map (tv r)) (rest := st.map (tv r)) ⟨B.1, B.2.1, B.2.2.1, B.2.2.2.1, B.2.2.2.2.1⟩ (hC l D r ca) (va_cwS n B.2.2.2.2.1 hT rfl rfl rfl hg.2.2 hrm) ⟨zPc_blind, fun U hU hW => ⟨rfl, by rw [hU]; exact P.1, va_K.moved hW.alike B.2.2.2.2.2.2.2.1, B.2.2.2.2.2.2.2.2⟩⟩ rfl (by rw [List.length_map]; exact hn) L.1 (by simp [List.map_reverse]) (lv_room (by rw [tv_cats]; exact hw)) hd ⟨Nat.le_refl _, Nat.le_refl _⟩) P.2 (fun v h1 H1 locs1 hp hP1 hS1 => ?_)
  rw [zst_map]
  exact k v h1 hp p l e s m args below meth c D r ca B H1 locs1 ls ⟨hP1, hS1⟩ L
theorem zg_callV {a : Nat} (hC : zC N (vR a :: av) h postN) (hg : zG N n) (hl : Cond.methodLink M.1.cls idx N.1 ∈ zt) (hi : Cond.instanceMethod N.1 ∈ zt) (hs : Cond.selects N.1.cls N.1 N.1 ∈ zt) {c0 : Nat} (hc0 : c0 < 13) (hca : (zks a).1 = c0) (hcn : zRR c0 = N.1.cls) (hrm : zRm M N) (hn : av.length = n) (hw : (st.map vw).sum ≤ 8) (hd : decode M.2.1 pc = .ok (.invokevirtual idx, 3))
    (k : ∀ v h1, postN v h1 → Z M post (pc + 3) lv (v.toList ++ st) h1) : Z M post pc lv (av.reverse ++ vR a :: st) h := by
  intro p l e s m args below meth c D r ca B H locs ls P L
  have hT : GoodIn zt (wsV M.1.cls idx N.1.cls N.1 (zws N)) := zGood (fun w hw => by
    unfold wsV at hw
    rcases List.mem_append.mp hw with q | q
    · simp only [List.mem_cons, List.not_mem_nil, or_false] at q
      rcases q with rfl | rfl | rfl | rfl
      · exact hl
      · exact hi
      · exact hs
      · exact hg.2.1
    · exact zws_in hg w q)
  have ha : a < 56 := zks_lt hca (by omega)
  have hrec := va_recv (s := s) (D := D) (ci := c0) (q0 := a) B.2.2.2.2.2.2.2.1 P.1 (zcl_at c0 hc0) (by rw [wd_at ha, zcell_obj hca hc0])
  rw [hcn] at hrec
  refine z_after (va_runV (C := N.1.cls) (b := r a) (As := av.map (tv r)) (rest := st.map (tv r)) ⟨B.1, B.2.1, B.2.2.1, B.2.2.2.1, B.2.2.2.2.1⟩ (hC l D r ca) (cwV n B.2.2.2.2.1 hT rfl rfl rfl ⟨rfl, hg.2.2⟩ hrm) ⟨zPc_blind, hrec, fun U hU hW => ⟨rfl, by rw [hU]; exact P.1, va_K.moved hW.alike B.2.2.2.2.2.2.2.1, B.2.2.2.2.2.2.2.2⟩⟩ rfl (by rw [List.length_map]; exact hn) L.1 (by simp [List.map_reverse]; rfl) (lv_room (by rw [tv_cats]; exact hw)) hd ⟨Nat.le_refl _, Nat.le_refl _⟩) P.2 (fun v h1 H1 locs1 hp hP1 hS1 => ?_)
  rw [zst_map]
  exact k v h1 hp p l e s m args below meth c D r ca B H1 locs1 ls ⟨hP1, hS1⟩ L
end ZK
/-- an exact end: a value and a world; nothing and a world -/
def pV (x : zV) (h0 : zH) : Option zV → zH → Prop := fun v h1 => v = some x ∧ h1 = h0
def p0 (h0 : zH) : Option zV → zH → Prop := fun v h1 => v = none ∧ h1 = h0
section ZC
variable {M N : zM} {post : Option zV → zH → Prop} {pc idx n : Nat} {lv st : List zV} {h h2 : zH}
theorem z_S0 {x : zV} (hC : zC N [] h (pV x h2)) (hg : zG N 0) (hs : Cond.static N.1 ∈ zt) (hl : Cond.methodLink M.1.cls idx N.1 ∈ zt) (hrm : zRm M N) (hw : (st.map vw).sum ≤ 8) (hd : decode M.2.1 pc = .ok (.invokestatic idx, 3)) (k : Z M post (pc + 3) lv (x :: st) h2) : Z M post pc lv (st) h := zg_callS hC hg hl hs hrm rfl hw hd (fun v h1 q => by obtain ⟨rfl, rfl⟩ := q; exact k)
theorem z_S0v (hC : zC N [] h (p0 h2)) (hg : zG N 0) (hs : Cond.static N.1 ∈ zt) (hl : Cond.methodLink M.1.cls idx N.1 ∈ zt) (hrm : zRm M N) (hw : (st.map vw).sum ≤ 8) (hd : decode M.2.1 pc = .ok (.invokestatic idx, 3)) (k : Z M post (pc + 3) lv st h2) : Z M post pc lv (st) h := zg_callS hC hg hl hs hrm rfl hw hd (fun v h1 q => by obtain ⟨rfl, rfl⟩ := q; exact k)
theorem z_V0 {a c0 : Nat} {x : zV} (hC : zC N [vR a] h (pV x h2)) (hg : zG N 0) (hi : Cond.instanceMethod N.1 ∈ zt ∧ Cond.selects N.1.cls N.1 N.1 ∈ zt) (hl : Cond.methodLink M.1.cls idx N.1 ∈ zt) (hca : (zks a).1 = c0) (hc0 : c0 < 13 ∧ zRR c0 = N.1.cls) (hrm : zRm M N) (hw : (st.map vw).sum ≤ 8) (hd : decode M.2.1 pc = .ok (.invokevirtual idx, 3)) (k : Z M post (pc + 3) lv (x :: st) h2) : Z M post pc lv (vR a :: st) h := zg_callV hC hg hl hi.1 hi.2 hc0.1 hca hc0.2 hrm rfl hw hd (fun v h1 q => by obtain ⟨rfl, rfl⟩ := q; exact k)
theorem z_V0v {a c0 : Nat} (hC : zC N [vR a] h (p0 h2)) (hg : zG N 0) (hi : Cond.instanceMethod N.1 ∈ zt ∧ Cond.selects N.1.cls N.1 N.1 ∈ zt) (hl : Cond.methodLink M.1.cls idx N.1 ∈ zt) (hca : (zks a).1 = c0) (hc0 : c0 < 13 ∧ zRR c0 = N.1.cls) (hrm : zRm M N) (hw : (st.map vw).sum ≤ 8) (hd : decode M.2.1 pc = .ok (.invokevirtual idx, 3)) (k : Z M post (pc + 3) lv st h2) : Z M post pc lv (vR a :: st) h := zg_callV hC hg hl hi.1 hi.2 hc0.1 hca hc0.2 hrm rfl hw hd (fun v h1 q => by obtain ⟨rfl, rfl⟩ := q; exact k)
theorem z_V0q {a c0 : Nat} {postN : Option zV → zH → Prop} (hC : zC N [vR a] h postN) (hg : zG N 0) (hi : Cond.instanceMethod N.1 ∈ zt ∧ Cond.selects N.1.cls N.1 N.1 ∈ zt) (hl : Cond.methodLink M.1.cls idx N.1 ∈ zt) (hca : (zks a).1 = c0) (hc0 : c0 < 13 ∧ zRR c0 = N.1.cls) (hrm : zRm M N) (hw : (st.map vw).sum ≤ 8) (hd : decode M.2.1 pc = .ok (.invokevirtual idx, 3)) (k : ∀ v h1, postN v h1 → Z M post (pc + 3) lv (v.toList ++ st) h1) : Z M post pc lv (vR a :: st) h := zg_callV hC hg hl hi.1 hi.2 hc0.1 hca hc0.2 hrm rfl hw hd k
theorem z_S1 {b0 : zV} {x : zV} (hC : zC N [b0] h (pV x h2)) (hg : zG N 1) (hs : Cond.static N.1 ∈ zt) (hl : Cond.methodLink M.1.cls idx N.1 ∈ zt) (hrm : zRm M N) (hw : (st.map vw).sum ≤ 8) (hd : decode M.2.1 pc = .ok (.invokestatic idx, 3)) (k : Z M post (pc + 3) lv (x :: st) h2) : Z M post pc lv (b0 :: st) h := zg_callS hC hg hl hs hrm rfl hw hd (fun v h1 q => by obtain ⟨rfl, rfl⟩ := q; exact k)
theorem z_S1v {b0 : zV} (hC : zC N [b0] h (p0 h2)) (hg : zG N 1) (hs : Cond.static N.1 ∈ zt) (hl : Cond.methodLink M.1.cls idx N.1 ∈ zt) (hrm : zRm M N) (hw : (st.map vw).sum ≤ 8) (hd : decode M.2.1 pc = .ok (.invokestatic idx, 3)) (k : Z M post (pc + 3) lv st h2) : Z M post pc lv (b0 :: st) h := zg_callS hC hg hl hs hrm rfl hw hd (fun v h1 q => by obtain ⟨rfl, rfl⟩ := q; exact k)
theorem z_V1 {b0 : zV} {a c0 : Nat} {x : zV} (hC : zC N [vR a, b0] h (pV x h2)) (hg : zG N 1) (hi : Cond.instanceMethod N.1 ∈ zt ∧ Cond.selects N.1.cls N.1 N.1 ∈ zt) (hl : Cond.methodLink M.1.cls idx N.1 ∈ zt) (hca : (zks a).1 = c0) (hc0 : c0 < 13 ∧ zRR c0 = N.1.cls) (hrm : zRm M N) (hw : (st.map vw).sum ≤ 8) (hd : decode M.2.1 pc = .ok (.invokevirtual idx, 3)) (k : Z M post (pc + 3) lv (x :: st) h2) : Z M post pc lv (b0 :: vR a :: st) h := zg_callV hC hg hl hi.1 hi.2 hc0.1 hca hc0.2 hrm rfl hw hd (fun v h1 q => by obtain ⟨rfl, rfl⟩ := q; exact k)
theorem z_V1v {b0 : zV} {a c0 : Nat} (hC : zC N [vR a, b0] h (p0 h2)) (hg : zG N 1) (hi : Cond.instanceMethod N.1 ∈ zt ∧ Cond.selects N.1.cls N.1 N.1 ∈ zt) (hl : Cond.methodLink M.1.cls idx N.1 ∈ zt) (hca : (zks a).1 = c0) (hc0 : c0 < 13 ∧ zRR c0 = N.1.cls) (hrm : zRm M N) (hw : (st.map vw).sum ≤ 8) (hd : decode M.2.1 pc = .ok (.invokevirtual idx, 3)) (k : Z M post (pc + 3) lv st h2) : Z M post pc lv (b0 :: vR a :: st) h := zg_callV hC hg hl hi.1 hi.2 hc0.1 hca hc0.2 hrm rfl hw hd (fun v h1 q => by obtain ⟨rfl, rfl⟩ := q; exact k)
theorem z_V1q {b0 : zV} {a c0 : Nat} {postN : Option zV → zH → Prop} (hC : zC N [vR a, b0] h postN) (hg : zG N 1) (hi : Cond.instanceMethod N.1 ∈ zt ∧ Cond.selects N.1.cls N.1 N.1 ∈ zt) (hl : Cond.methodLink M.1.cls idx N.1 ∈ zt) (hca : (zks a).1 = c0) (hc0 : c0 < 13 ∧ zRR c0 = N.1.cls) (hrm : zRm M N) (hw : (st.map vw).sum ≤ 8) (hd : decode M.2.1 pc = .ok (.invokevirtual idx, 3)) (k : ∀ v h1, postN v h1 → Z M post (pc + 3) lv (v.toList ++ st) h1) : Z M post pc lv (b0 :: vR a :: st) h := zg_callV hC hg hl hi.1 hi.2 hc0.1 hca hc0.2 hrm rfl hw hd k
theorem z_S2 {b0 b1 : zV} {x : zV} (hC : zC N [b0, b1] h (pV x h2)) (hg : zG N 2) (hs : Cond.static N.1 ∈ zt) (hl : Cond.methodLink M.1.cls idx N.1 ∈ zt) (hrm : zRm M N) (hw : (st.map vw).sum ≤ 8) (hd : decode M.2.1 pc = .ok (.invokestatic idx, 3)) (k : Z M post (pc + 3) lv (x :: st) h2) : Z M post pc lv (b1 :: b0 :: st) h := zg_callS hC hg hl hs hrm rfl hw hd (fun v h1 q => by obtain ⟨rfl, rfl⟩ := q; exact k)
theorem z_S2v {b0 b1 : zV} (hC : zC N [b0, b1] h (p0 h2)) (hg : zG N 2) (hs : Cond.static N.1 ∈ zt) (hl : Cond.methodLink M.1.cls idx N.1 ∈ zt) (hrm : zRm M N) (hw : (st.map vw).sum ≤ 8) (hd : decode M.2.1 pc = .ok (.invokestatic idx, 3)) (k : Z M post (pc + 3) lv st h2) : Z M post pc lv (b1 :: b0 :: st) h := zg_callS hC hg hl hs hrm rfl hw hd (fun v h1 q => by obtain ⟨rfl, rfl⟩ := q; exact k)
theorem z_V2 {b0 b1 : zV} {a c0 : Nat} {x : zV} (hC : zC N [vR a, b0, b1] h (pV x h2)) (hg : zG N 2) (hi : Cond.instanceMethod N.1 ∈ zt ∧ Cond.selects N.1.cls N.1 N.1 ∈ zt) (hl : Cond.methodLink M.1.cls idx N.1 ∈ zt) (hca : (zks a).1 = c0) (hc0 : c0 < 13 ∧ zRR c0 = N.1.cls) (hrm : zRm M N) (hw : (st.map vw).sum ≤ 8) (hd : decode M.2.1 pc = .ok (.invokevirtual idx, 3)) (k : Z M post (pc + 3) lv (x :: st) h2) : Z M post pc lv (b1 :: b0 :: vR a :: st) h := zg_callV hC hg hl hi.1 hi.2 hc0.1 hca hc0.2 hrm rfl hw hd (fun v h1 q => by obtain ⟨rfl, rfl⟩ := q; exact k)
theorem z_V2v {b0 b1 : zV} {a c0 : Nat} (hC : zC N [vR a, b0, b1] h (p0 h2)) (hg : zG N 2) (hi : Cond.instanceMethod N.1 ∈ zt ∧ Cond.selects N.1.cls N.1 N.1 ∈ zt) (hl : Cond.methodLink M.1.cls idx N.1 ∈ zt) (hca : (zks a).1 = c0) (hc0 : c0 < 13 ∧ zRR c0 = N.1.cls) (hrm : zRm M N) (hw : (st.map vw).sum ≤ 8) (hd : decode M.2.1 pc = .ok (.invokevirtual idx, 3)) (k : Z M post (pc + 3) lv st h2) : Z M post pc lv (b1 :: b0 :: vR a :: st) h := zg_callV hC hg hl hi.1 hi.2 hc0.1 hca hc0.2 hrm rfl hw hd (fun v h1 q => by obtain ⟨rfl, rfl⟩ := q; exact k)
theorem z_V2q {b0 b1 : zV} {a c0 : Nat} {postN : Option zV → zH → Prop} (hC : zC N [vR a, b0, b1] h postN) (hg : zG N 2) (hi : Cond.instanceMethod N.1 ∈ zt ∧ Cond.selects N.1.cls N.1 N.1 ∈ zt) (hl : Cond.methodLink M.1.cls idx N.1 ∈ zt) (hca : (zks a).1 = c0) (hc0 : c0 < 13 ∧ zRR c0 = N.1.cls) (hrm : zRm M N) (hw : (st.map vw).sum ≤ 8) (hd : decode M.2.1 pc = .ok (.invokevirtual idx, 3)) (k : ∀ v h1, postN v h1 → Z M post (pc + 3) lv (v.toList ++ st) h1) : Z M post pc lv (b1 :: b0 :: vR a :: st) h := zg_callV hC hg hl hi.1 hi.2 hc0.1 hca hc0.2 hrm rfl hw hd k
theorem z_S3 {b0 b1 b2 : zV} {x : zV} (hC : zC N [b0, b1, b2] h (pV x h2)) (hg : zG N 3) (hs : Cond.static N.1 ∈ zt) (hl : Cond.methodLink M.1.cls idx N.1 ∈ zt) (hrm : zRm M N) (hw : (st.map vw).sum ≤ 8) (hd : decode M.2.1 pc = .ok (.invokestatic idx, 3)) (k : Z M post (pc + 3) lv (x :: st) h2) : Z M post pc lv (b2 :: b1 :: b0 :: st) h := zg_callS hC hg hl hs hrm rfl hw hd (fun v h1 q => by obtain ⟨rfl, rfl⟩ := q; exact k)
theorem z_S3v {b0 b1 b2 : zV} (hC : zC N [b0, b1, b2] h (p0 h2)) (hg : zG N 3) (hs : Cond.static N.1 ∈ zt) (hl : Cond.methodLink M.1.cls idx N.1 ∈ zt) (hrm : zRm M N) (hw : (st.map vw).sum ≤ 8) (hd : decode M.2.1 pc = .ok (.invokestatic idx, 3)) (k : Z M post (pc + 3) lv st h2) : Z M post pc lv (b2 :: b1 :: b0 :: st) h := zg_callS hC hg hl hs hrm rfl hw hd (fun v h1 q => by obtain ⟨rfl, rfl⟩ := q; exact k)
theorem z_V3 {b0 b1 b2 : zV} {a c0 : Nat} {x : zV} (hC : zC N [vR a, b0, b1, b2] h (pV x h2)) (hg : zG N 3) (hi : Cond.instanceMethod N.1 ∈ zt ∧ Cond.selects N.1.cls N.1 N.1 ∈ zt) (hl : Cond.methodLink M.1.cls idx N.1 ∈ zt) (hca : (zks a).1 = c0) (hc0 : c0 < 13 ∧ zRR c0 = N.1.cls) (hrm : zRm M N) (hw : (st.map vw).sum ≤ 8) (hd : decode M.2.1 pc = .ok (.invokevirtual idx, 3)) (k : Z M post (pc + 3) lv (x :: st) h2) : Z M post pc lv (b2 :: b1 :: b0 :: vR a :: st) h := zg_callV hC hg hl hi.1 hi.2 hc0.1 hca hc0.2 hrm rfl hw hd (fun v h1 q => by obtain ⟨rfl, rfl⟩ := q; exact k)
theorem z_V3v {b0 b1 b2 : zV} {a c0 : Nat} (hC : zC N [vR a, b0, b1, b2] h (p0 h2)) (hg : zG N 3) (hi : Cond.instanceMethod N.1 ∈ zt ∧ Cond.selects N.1.cls N.1 N.1 ∈ zt) (hl : Cond.methodLink M.1.cls idx N.1 ∈ zt) (hca : (zks a).1 = c0) (hc0 : c0 < 13 ∧ zRR c0 = N.1.cls) (hrm : zRm M N) (hw : (st.map vw).sum ≤ 8) (hd : decode M.2.1 pc = .ok (.invokevirtual idx, 3)) (k : Z M post (pc + 3) lv st h2) : Z M post pc lv (b2 :: b1 :: b0 :: vR a :: st) h := zg_callV hC hg hl hi.1 hi.2 hc0.1 hca hc0.2 hrm rfl hw hd (fun v h1 q => by obtain ⟨rfl, rfl⟩ := q; exact k)
theorem z_V3q {b0 b1 b2 : zV} {a c0 : Nat} {postN : Option zV → zH → Prop} (hC : zC N [vR a, b0, b1, b2] h postN) (hg : zG N 3) (hi : Cond.instanceMethod N.1 ∈ zt ∧ Cond.selects N.1.cls N.1 N.1 ∈ zt) (hl : Cond.methodLink M.1.cls idx N.1 ∈ zt) (hca : (zks a).1 = c0) (hc0 : c0 < 13 ∧ zRR c0 = N.1.cls) (hrm : zRm M N) (hw : (st.map vw).sum ≤ 8) (hd : decode M.2.1 pc = .ok (.invokevirtual idx, 3)) (k : ∀ v h1, postN v h1 → Z M post (pc + 3) lv (v.toList ++ st) h1) : Z M post pc lv (b2 :: b1 :: b0 :: vR a :: st) h := zg_callV hC hg hl hi.1 hi.2 hc0.1 hca hc0.2 hrm rfl hw hd k
theorem z_S4 {b0 b1 b2 b3 : zV} {x : zV} (hC : zC N [b0, b1, b2, b3] h (pV x h2)) (hg : zG N 4) (hs : Cond.static N.1 ∈ zt) (hl : Cond.methodLink M.1.cls idx N.1 ∈ zt) (hrm : zRm M N) (hw : (st.map vw).sum ≤ 8) (hd : decode M.2.1 pc = .ok (.invokestatic idx, 3)) (k : Z M post (pc + 3) lv (x :: st) h2) : Z M post pc lv (b3 :: b2 :: b1 :: b0 :: st) h := zg_callS hC hg hl hs hrm rfl hw hd (fun v h1 q => by obtain ⟨rfl, rfl⟩ := q; exact k)
theorem z_S4v {b0 b1 b2 b3 : zV} (hC : zC N [b0, b1, b2, b3] h (p0 h2)) (hg : zG N 4) (hs : Cond.static N.1 ∈ zt) (hl : Cond.methodLink M.1.cls idx N.1 ∈ zt) (hrm : zRm M N) (hw : (st.map vw).sum ≤ 8) (hd : decode M.2.1 pc = .ok (.invokestatic idx, 3)) (k : Z M post (pc + 3) lv st h2) : Z M post pc lv (b3 :: b2 :: b1 :: b0 :: st) h := zg_callS hC hg hl hs hrm rfl hw hd (fun v h1 q => by obtain ⟨rfl, rfl⟩ := q; exact k)
theorem z_V4 {b0 b1 b2 b3 : zV} {a c0 : Nat} {x : zV} (hC : zC N [vR a, b0, b1, b2, b3] h (pV x h2)) (hg : zG N 4) (hi : Cond.instanceMethod N.1 ∈ zt ∧ Cond.selects N.1.cls N.1 N.1 ∈ zt) (hl : Cond.methodLink M.1.cls idx N.1 ∈ zt) (hca : (zks a).1 = c0) (hc0 : c0 < 13 ∧ zRR c0 = N.1.cls) (hrm : zRm M N) (hw : (st.map vw).sum ≤ 8) (hd : decode M.2.1 pc = .ok (.invokevirtual idx, 3)) (k : Z M post (pc + 3) lv (x :: st) h2) : Z M post pc lv (b3 :: b2 :: b1 :: b0 :: vR a :: st) h := zg_callV hC hg hl hi.1 hi.2 hc0.1 hca hc0.2 hrm rfl hw hd (fun v h1 q => by obtain ⟨rfl, rfl⟩ := q; exact k)
theorem z_V4v {b0 b1 b2 b3 : zV} {a c0 : Nat} (hC : zC N [vR a, b0, b1, b2, b3] h (p0 h2)) (hg : zG N 4) (hi : Cond.instanceMethod N.1 ∈ zt ∧ Cond.selects N.1.cls N.1 N.1 ∈ zt) (hl : Cond.methodLink M.1.cls idx N.1 ∈ zt) (hca : (zks a).1 = c0) (hc0 : c0 < 13 ∧ zRR c0 = N.1.cls) (hrm : zRm M N) (hw : (st.map vw).sum ≤ 8) (hd : decode M.2.1 pc = .ok (.invokevirtual idx, 3)) (k : Z M post (pc + 3) lv st h2) : Z M post pc lv (b3 :: b2 :: b1 :: b0 :: vR a :: st) h := zg_callV hC hg hl hi.1 hi.2 hc0.1 hca hc0.2 hrm rfl hw hd (fun v h1 q => by obtain ⟨rfl, rfl⟩ := q; exact k)
theorem z_V4q {b0 b1 b2 b3 : zV} {a c0 : Nat} {postN : Option zV → zH → Prop} (hC : zC N [vR a, b0, b1, b2, b3] h postN) (hg : zG N 4) (hi : Cond.instanceMethod N.1 ∈ zt ∧ Cond.selects N.1.cls N.1 N.1 ∈ zt) (hl : Cond.methodLink M.1.cls idx N.1 ∈ zt) (hca : (zks a).1 = c0) (hc0 : c0 < 13 ∧ zRR c0 = N.1.cls) (hrm : zRm M N) (hw : (st.map vw).sum ≤ 8) (hd : decode M.2.1 pc = .ok (.invokevirtual idx, 3)) (k : ∀ v h1, postN v h1 → Z M post (pc + 3) lv (v.toList ++ st) h1) : Z M post pc lv (b3 :: b2 :: b1 :: b0 :: vR a :: st) h := zg_callV hC hg hl hi.1 hi.2 hc0.1 hca hc0.2 hrm rfl hw hd k
theorem z_S5 {b0 b1 b2 b3 b4 : zV} {x : zV} (hC : zC N [b0, b1, b2, b3, b4] h (pV x h2)) (hg : zG N 5) (hs : Cond.static N.1 ∈ zt) (hl : Cond.methodLink M.1.cls idx N.1 ∈ zt) (hrm : zRm M N) (hw : (st.map vw).sum ≤ 8) (hd : decode M.2.1 pc = .ok (.invokestatic idx, 3)) (k : Z M post (pc + 3) lv (x :: st) h2) : Z M post pc lv (b4 :: b3 :: b2 :: b1 :: b0 :: st) h := zg_callS hC hg hl hs hrm rfl hw hd (fun v h1 q => by obtain ⟨rfl, rfl⟩ := q; exact k)
theorem z_S5v {b0 b1 b2 b3 b4 : zV} (hC : zC N [b0, b1, b2, b3, b4] h (p0 h2)) (hg : zG N 5) (hs : Cond.static N.1 ∈ zt) (hl : Cond.methodLink M.1.cls idx N.1 ∈ zt) (hrm : zRm M N) (hw : (st.map vw).sum ≤ 8) (hd : decode M.2.1 pc = .ok (.invokestatic idx, 3)) (k : Z M post (pc + 3) lv st h2) : Z M post pc lv (b4 :: b3 :: b2 :: b1 :: b0 :: st) h := zg_callS hC hg hl hs hrm rfl hw hd (fun v h1 q => by obtain ⟨rfl, rfl⟩ := q; exact k)
theorem z_V5 {b0 b1 b2 b3 b4 : zV} {a c0 : Nat} {x : zV} (hC : zC N [vR a, b0, b1, b2, b3, b4] h (pV x h2)) (hg : zG N 5) (hi : Cond.instanceMethod N.1 ∈ zt ∧ Cond.selects N.1.cls N.1 N.1 ∈ zt) (hl : Cond.methodLink M.1.cls idx N.1 ∈ zt) (hca : (zks a).1 = c0) (hc0 : c0 < 13 ∧ zRR c0 = N.1.cls) (hrm : zRm M N) (hw : (st.map vw).sum ≤ 8) (hd : decode M.2.1 pc = .ok (.invokevirtual idx, 3)) (k : Z M post (pc + 3) lv (x :: st) h2) : Z M post pc lv (b4 :: b3 :: b2 :: b1 :: b0 :: vR a :: st) h := zg_callV hC hg hl hi.1 hi.2 hc0.1 hca hc0.2 hrm rfl hw hd (fun v h1 q => by obtain ⟨rfl, rfl⟩ := q; exact k)
theorem z_V5v {b0 b1 b2 b3 b4 : zV} {a c0 : Nat} (hC : zC N [vR a, b0, b1, b2, b3, b4] h (p0 h2)) (hg : zG N 5) (hi : Cond.instanceMethod N.1 ∈ zt ∧ Cond.selects N.1.cls N.1 N.1 ∈ zt) (hl : Cond.methodLink M.1.cls idx N.1 ∈ zt) (hca : (zks a).1 = c0) (hc0 : c0 < 13 ∧ zRR c0 = N.1.cls) (hrm : zRm M N) (hw : (st.map vw).sum ≤ 8) (hd : decode M.2.1 pc = .ok (.invokevirtual idx, 3)) (k : Z M post (pc + 3) lv st h2) : Z M post pc lv (b4 :: b3 :: b2 :: b1 :: b0 :: vR a :: st) h := zg_callV hC hg hl hi.1 hi.2 hc0.1 hca hc0.2 hrm rfl hw hd (fun v h1 q => by obtain ⟨rfl, rfl⟩ := q; exact k)
theorem z_V5q {b0 b1 b2 b3 b4 : zV} {a c0 : Nat} {postN : Option zV → zH → Prop} (hC : zC N [vR a, b0, b1, b2, b3, b4] h postN) (hg : zG N 5) (hi : Cond.instanceMethod N.1 ∈ zt ∧ Cond.selects N.1.cls N.1 N.1 ∈ zt) (hl : Cond.methodLink M.1.cls idx N.1 ∈ zt) (hca : (zks a).1 = c0) (hc0 : c0 < 13 ∧ zRR c0 = N.1.cls) (hrm : zRm M N) (hw : (st.map vw).sum ≤ 8) (hd : decode M.2.1 pc = .ok (.invokevirtual idx, 3)) (k : ∀ v h1, postN v h1 → Z M post (pc + 3) lv (v.toList ++ st) h1) : Z M post pc lv (b4 :: b3 :: b2 :: b1 :: b0 :: vR a :: st) h := zg_callV hC hg hl hi.1 hi.2 hc0.1 hca hc0.2 hrm rfl hw hd k
end ZC
end
