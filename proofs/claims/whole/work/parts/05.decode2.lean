theorem D_w_empty_0 : decode M_w_empty.2.1 0 = .ok (.aload_n 0, 1) := by decide +kernel
theorem D_w_empty_1 : decode M_w_empty.2.1 1 = .ok (.iconst 0, 1) := by decide +kernel
theorem D_w_empty_2 : decode M_w_empty.2.1 2 = .ok (.putfield 21, 3) := by decide +kernel
theorem D_w_empty_5 : decode M_w_empty.2.1 5 = .ok (.aload_n 0, 1) := by decide +kernel
theorem D_w_empty_6 : decode M_w_empty.2.1 6 = .ok (.iconst 0, 1) := by decide +kernel
theorem D_w_empty_7 : decode M_w_empty.2.1 7 = .ok (.putfield 25, 3) := by decide +kernel
theorem D_w_empty_10 : decode M_w_empty.2.1 10 = .ok (.aload_n 0, 1) := by decide +kernel
theorem D_w_empty_11 : decode M_w_empty.2.1 11 = .ok (.bipush 8, 2) := by decide +kernel
theorem D_w_empty_13 : decode M_w_empty.2.1 13 = .ok (.putfield 28, 3) := by decide +kernel
theorem D_w_empty_16 : decode M_w_empty.2.1 16 = .ok (.aload_n 0, 1) := by decide +kernel
theorem D_w_empty_17 : decode M_w_empty.2.1 17 = .ok (.iconst 1, 1) := by decide +kernel
theorem D_w_empty_18 : decode M_w_empty.2.1 18 = .ok (.putfield 31, 3) := by decide +kernel
theorem D_w_empty_21 : decode M_w_empty.2.1 21 = .ok (.return_, 1) := by decide +kernel
theorem D_w_hasSpot_0 : decode M_w_hasSpot.2.1 0 = .ok (.iload_n 1, 1) := by decide +kernel
theorem D_w_hasSpot_1 : decode M_w_hasSpot.2.1 1 = .ok (.ifCond .lt 24, 3) := by decide +kernel
theorem D_w_hasSpot_4 : decode M_w_hasSpot.2.1 4 = .ok (.iload_n 1, 1) := by decide +kernel
theorem D_w_hasSpot_5 : decode M_w_hasSpot.2.1 5 = .ok (.aload_n 0, 1) := by decide +kernel
theorem D_w_hasSpot_6 : decode M_w_hasSpot.2.1 6 = .ok (.getfield 21, 3) := by decide +kernel
theorem D_w_hasSpot_9 : decode M_w_hasSpot.2.1 9 = .ok (.if_icmp .ge 16, 3) := by decide +kernel
theorem D_w_hasSpot_12 : decode M_w_hasSpot.2.1 12 = .ok (.iload_n 1, 1) := by decide +kernel
theorem D_w_hasSpot_13 : decode M_w_hasSpot.2.1 13 = .ok (.aload_n 0, 1) := by decide +kernel
theorem D_w_hasSpot_14 : decode M_w_hasSpot.2.1 14 = .ok (.getfield 9, 3) := by decide +kernel
theorem D_w_hasSpot_17 : decode M_w_hasSpot.2.1 17 = .ok (.arraylength, 1) := by decide +kernel
theorem D_w_hasSpot_18 : decode M_w_hasSpot.2.1 18 = .ok (.if_icmp .ge 7, 3) := by decide +kernel
theorem D_w_hasSpot_21 : decode M_w_hasSpot.2.1 21 = .ok (.iconst 1, 1) := by decide +kernel
theorem D_w_hasSpot_22 : decode M_w_hasSpot.2.1 22 = .ok (.goto 4, 3) := by decide +kernel
theorem D_w_hasSpot_25 : decode M_w_hasSpot.2.1 25 = .ok (.iconst 0, 1) := by decide +kernel
theorem D_w_hasSpot_26 : decode M_w_hasSpot.2.1 26 = .ok (.ireturn, 1) := by decide +kernel
theorem D_w_hasPerson_0 : decode M_w_hasPerson.2.1 0 = .ok (.iload_n 1, 1) := by decide +kernel
theorem D_w_hasPerson_1 : decode M_w_hasPerson.2.1 1 = .ok (.ifCond .lt 24, 3) := by decide +kernel
theorem D_w_hasPerson_4 : decode M_w_hasPerson.2.1 4 = .ok (.iload_n 1, 1) := by decide +kernel
theorem D_w_hasPerson_5 : decode M_w_hasPerson.2.1 5 = .ok (.aload_n 0, 1) := by decide +kernel
theorem D_w_hasPerson_6 : decode M_w_hasPerson.2.1 6 = .ok (.getfield 25, 3) := by decide +kernel
theorem D_w_hasPerson_9 : decode M_w_hasPerson.2.1 9 = .ok (.if_icmp .ge 16, 3) := by decide +kernel
theorem D_w_hasPerson_12 : decode M_w_hasPerson.2.1 12 = .ok (.iload_n 1, 1) := by decide +kernel
theorem D_w_hasPerson_13 : decode M_w_hasPerson.2.1 13 = .ok (.aload_n 0, 1) := by decide +kernel
theorem D_w_hasPerson_14 : decode M_w_hasPerson.2.1 14 = .ok (.getfield 18, 3) := by decide +kernel
theorem D_w_hasPerson_17 : decode M_w_hasPerson.2.1 17 = .ok (.arraylength, 1) := by decide +kernel
theorem D_w_hasPerson_18 : decode M_w_hasPerson.2.1 18 = .ok (.if_icmp .ge 7, 3) := by decide +kernel
theorem D_w_hasPerson_21 : decode M_w_hasPerson.2.1 21 = .ok (.iconst 1, 1) := by decide +kernel
theorem D_w_hasPerson_22 : decode M_w_hasPerson.2.1 22 = .ok (.goto 4, 3) := by decide +kernel
theorem D_w_hasPerson_25 : decode M_w_hasPerson.2.1 25 = .ok (.iconst 0, 1) := by decide +kernel
theorem D_w_hasPerson_26 : decode M_w_hasPerson.2.1 26 = .ok (.ireturn, 1) := by decide +kernel
theorem D_w_isPlaceTold_0 : decode M_w_isPlaceTold.2.1 0 = .ok (.iconst 0, 1) := by decide +kernel
theorem D_w_isPlaceTold_1 : decode M_w_isPlaceTold.2.1 1 = .ok (.istore_n 2, 1) := by decide +kernel
theorem D_w_isPlaceTold_2 : decode M_w_isPlaceTold.2.1 2 = .ok (.iload_n 2, 1) := by decide +kernel
theorem D_w_isPlaceTold_3 : decode M_w_isPlaceTold.2.1 3 = .ok (.aload_n 0, 1) := by decide +kernel
theorem D_w_isPlaceTold_4 : decode M_w_isPlaceTold.2.1 4 = .ok (.getfield 25, 3) := by decide +kernel
theorem D_w_isPlaceTold_7 : decode M_w_isPlaceTold.2.1 7 = .ok (.if_icmp .ge 21, 3) := by decide +kernel
theorem D_w_isPlaceTold_10 : decode M_w_isPlaceTold.2.1 10 = .ok (.aload_n 0, 1) := by decide +kernel
theorem D_w_isPlaceTold_11 : decode M_w_isPlaceTold.2.1 11 = .ok (.getfield 15, 3) := by decide +kernel
theorem D_w_isPlaceTold_14 : decode M_w_isPlaceTold.2.1 14 = .ok (.iload_n 2, 1) := by decide +kernel
theorem D_w_isPlaceTold_15 : decode M_w_isPlaceTold.2.1 15 = .ok (.iaload, 1) := by decide +kernel
theorem D_w_isPlaceTold_16 : decode M_w_isPlaceTold.2.1 16 = .ok (.iload_n 1, 1) := by decide +kernel
theorem D_w_isPlaceTold_17 : decode M_w_isPlaceTold.2.1 17 = .ok (.if_icmp .ne 5, 3) := by decide +kernel
theorem D_w_isPlaceTold_20 : decode M_w_isPlaceTold.2.1 20 = .ok (.iconst 1, 1) := by decide +kernel
theorem D_w_isPlaceTold_21 : decode M_w_isPlaceTold.2.1 21 = .ok (.ireturn, 1) := by decide +kernel
theorem D_w_isPlaceTold_22 : decode M_w_isPlaceTold.2.1 22 = .ok (.iinc 2 1, 3) := by decide +kernel
theorem D_w_isPlaceTold_25 : decode M_w_isPlaceTold.2.1 25 = .ok (.goto (-23), 3) := by decide +kernel
theorem D_w_isPlaceTold_28 : decode M_w_isPlaceTold.2.1 28 = .ok (.iconst 0, 1) := by decide +kernel
theorem D_w_isPlaceTold_29 : decode M_w_isPlaceTold.2.1 29 = .ok (.ireturn, 1) := by decide +kernel
theorem D_w_roundThe_0 : decode M_w_roundThe.2.1 0 = .ok (.aload_n 0, 1) := by decide +kernel
theorem D_w_roundThe_1 : decode M_w_roundThe.2.1 1 = .ok (.getfield 21, 3) := by decide +kernel
theorem D_w_roundThe_4 : decode M_w_roundThe.2.1 4 = .ok (.ifCond .le 14, 3) := by decide +kernel
theorem D_w_roundThe_7 : decode M_w_roundThe.2.1 7 = .ok (.iload_n 1, 1) := by decide +kernel
theorem D_w_roundThe_8 : decode M_w_roundThe.2.1 8 = .ok (.aload_n 0, 1) := by decide +kernel
theorem D_w_roundThe_9 : decode M_w_roundThe.2.1 9 = .ok (.getfield 21, 3) := by decide +kernel
theorem D_w_roundThe_12 : decode M_w_roundThe.2.1 12 = .ok (.invokestatic 34, 3) := by decide +kernel
theorem D_w_roundThe_15 : decode M_w_roundThe.2.1 15 = .ok (.goto 4, 3) := by decide +kernel
theorem D_w_roundThe_18 : decode M_w_roundThe.2.1 18 = .ok (.iconst 0, 1) := by decide +kernel
theorem D_w_roundThe_19 : decode M_w_roundThe.2.1 19 = .ok (.ireturn, 1) := by decide +kernel
theorem D_w_wayRound_0 : decode M_w_wayRound.2.1 0 = .ok (.aload_n 0, 1) := by decide +kernel
theorem D_w_wayRound_1 : decode M_w_wayRound.2.1 1 = .ok (.iload_n 2, 1) := by decide +kernel
theorem D_w_wayRound_2 : decode M_w_wayRound.2.1 2 = .ok (.iload_n 1, 1) := by decide +kernel
theorem D_w_wayRound_3 : decode M_w_wayRound.2.1 3 = .ok (.isub, 1) := by decide +kernel
theorem D_w_wayRound_4 : decode M_w_wayRound.2.1 4 = .ok (.invokevirtual 40, 3) := by decide +kernel
theorem D_w_wayRound_7 : decode M_w_wayRound.2.1 7 = .ok (.aload_n 0, 1) := by decide +kernel
theorem D_w_wayRound_8 : decode M_w_wayRound.2.1 8 = .ok (.iload_n 1, 1) := by decide +kernel
theorem D_w_wayRound_9 : decode M_w_wayRound.2.1 9 = .ok (.iload_n 2, 1) := by decide +kernel
theorem D_w_wayRound_10 : decode M_w_wayRound.2.1 10 = .ok (.isub, 1) := by decide +kernel
theorem D_w_wayRound_11 : decode M_w_wayRound.2.1 11 = .ok (.invokevirtual 40, 3) := by decide +kernel
theorem D_w_wayRound_14 : decode M_w_wayRound.2.1 14 = .ok (.invokestatic 44, 3) := by decide +kernel
theorem D_w_wayRound_17 : decode M_w_wayRound.2.1 17 = .ok (.ireturn, 1) := by decide +kernel
theorem D_w_colourAt_0 : decode M_w_colourAt.2.1 0 = .ok (.aload_n 0, 1) := by decide +kernel
theorem D_w_colourAt_1 : decode M_w_colourAt.2.1 1 = .ok (.getfield 9, 3) := by decide +kernel
theorem D_w_colourAt_4 : decode M_w_colourAt.2.1 4 = .ok (.aload_n 0, 1) := by decide +kernel
theorem D_w_colourAt_5 : decode M_w_colourAt.2.1 5 = .ok (.iload_n 1, 1) := by decide +kernel
theorem D_w_colourAt_6 : decode M_w_colourAt.2.1 6 = .ok (.iload_n 2, 1) := by decide +kernel
theorem D_w_colourAt_7 : decode M_w_colourAt.2.1 7 = .ok (.iadd, 1) := by decide +kernel
theorem D_w_colourAt_8 : decode M_w_colourAt.2.1 8 = .ok (.invokevirtual 40, 3) := by decide +kernel
theorem D_w_colourAt_11 : decode M_w_colourAt.2.1 11 = .ok (.iaload, 1) := by decide +kernel
theorem D_w_colourAt_12 : decode M_w_colourAt.2.1 12 = .ok (.ireturn, 1) := by decide +kernel
theorem D_w_leastLikeTurn_0 : decode M_w_leastLikeTurn.2.1 0 = .ok (.iconst 1, 1) := by decide +kernel
theorem D_w_leastLikeTurn_1 : decode M_w_leastLikeTurn.2.1 1 = .ok (.istore_n 1, 1) := by decide +kernel
theorem D_w_leastLikeTurn_2 : decode M_w_leastLikeTurn.2.1 2 = .ok (.iload_n 1, 1) := by decide +kernel
theorem D_w_leastLikeTurn_3 : decode M_w_leastLikeTurn.2.1 3 = .ok (.aload_n 0, 1) := by decide +kernel
theorem D_w_leastLikeTurn_4 : decode M_w_leastLikeTurn.2.1 4 = .ok (.getfield 21, 3) := by decide +kernel
theorem D_w_leastLikeTurn_7 : decode M_w_leastLikeTurn.2.1 7 = .ok (.if_icmp .gt 19, 3) := by decide +kernel
theorem D_w_leastLikeTurn_10 : decode M_w_leastLikeTurn.2.1 10 = .ok (.aload_n 0, 1) := by decide +kernel
theorem D_w_leastLikeTurn_11 : decode M_w_leastLikeTurn.2.1 11 = .ok (.iload_n 1, 1) := by decide +kernel
theorem D_w_leastLikeTurn_12 : decode M_w_leastLikeTurn.2.1 12 = .ok (.invokevirtual 47, 3) := by decide +kernel
theorem D_w_leastLikeTurn_15 : decode M_w_leastLikeTurn.2.1 15 = .ok (.ifCond .eq 5, 3) := by decide +kernel
theorem D_w_leastLikeTurn_18 : decode M_w_leastLikeTurn.2.1 18 = .ok (.iload_n 1, 1) := by decide +kernel
theorem D_w_leastLikeTurn_19 : decode M_w_leastLikeTurn.2.1 19 = .ok (.ireturn, 1) := by decide +kernel
theorem D_w_leastLikeTurn_20 : decode M_w_leastLikeTurn.2.1 20 = .ok (.iinc 1 1, 3) := by decide +kernel
theorem D_w_leastLikeTurn_23 : decode M_w_leastLikeTurn.2.1 23 = .ok (.goto (-21), 3) := by decide +kernel
theorem D_w_leastLikeTurn_26 : decode M_w_leastLikeTurn.2.1 26 = .ok (.bipush (-9), 2) := by decide +kernel
theorem D_w_leastLikeTurn_28 : decode M_w_leastLikeTurn.2.1 28 = .ok (.ireturn, 1) := by decide +kernel
theorem D_w_isAlike_0 : decode M_w_isAlike.2.1 0 = .ok (.iconst 0, 1) := by decide +kernel
theorem D_w_isAlike_1 : decode M_w_isAlike.2.1 1 = .ok (.istore_n 2, 1) := by decide +kernel
theorem D_w_isAlike_2 : decode M_w_isAlike.2.1 2 = .ok (.iload_n 2, 1) := by decide +kernel
theorem D_w_isAlike_3 : decode M_w_isAlike.2.1 3 = .ok (.aload_n 0, 1) := by decide +kernel
theorem D_w_isAlike_4 : decode M_w_isAlike.2.1 4 = .ok (.getfield 21, 3) := by decide +kernel
theorem D_w_isAlike_7 : decode M_w_isAlike.2.1 7 = .ok (.if_icmp .ge 26, 3) := by decide +kernel
theorem D_w_isAlike_10 : decode M_w_isAlike.2.1 10 = .ok (.aload_n 0, 1) := by decide +kernel
theorem D_w_isAlike_11 : decode M_w_isAlike.2.1 11 = .ok (.getfield 9, 3) := by decide +kernel
theorem D_w_isAlike_14 : decode M_w_isAlike.2.1 14 = .ok (.iload_n 2, 1) := by decide +kernel
theorem D_w_isAlike_15 : decode M_w_isAlike.2.1 15 = .ok (.iaload, 1) := by decide +kernel
theorem D_w_isAlike_16 : decode M_w_isAlike.2.1 16 = .ok (.aload_n 0, 1) := by decide +kernel
theorem D_w_isAlike_17 : decode M_w_isAlike.2.1 17 = .ok (.iload_n 2, 1) := by decide +kernel
theorem D_w_isAlike_18 : decode M_w_isAlike.2.1 18 = .ok (.iload_n 1, 1) := by decide +kernel
theorem D_w_isAlike_19 : decode M_w_isAlike.2.1 19 = .ok (.invokevirtual 51, 3) := by decide +kernel
theorem D_w_isAlike_22 : decode M_w_isAlike.2.1 22 = .ok (.if_icmp .eq 5, 3) := by decide +kernel
theorem D_w_isAlike_25 : decode M_w_isAlike.2.1 25 = .ok (.iconst 0, 1) := by decide +kernel
theorem D_w_isAlike_26 : decode M_w_isAlike.2.1 26 = .ok (.ireturn, 1) := by decide +kernel
theorem D_w_isAlike_27 : decode M_w_isAlike.2.1 27 = .ok (.iinc 2 1, 3) := by decide +kernel
theorem D_w_isAlike_30 : decode M_w_isAlike.2.1 30 = .ok (.goto (-28), 3) := by decide +kernel
theorem D_w_isAlike_33 : decode M_w_isAlike.2.1 33 = .ok (.iconst 1, 1) := by decide +kernel
theorem D_w_isAlike_34 : decode M_w_isAlike.2.1 34 = .ok (.ireturn, 1) := by decide +kernel
theorem D_w_clicksOf_0 : decode M_w_clicksOf.2.1 0 = .ok (.iload_n 1, 1) := by decide +kernel
theorem D_w_clicksOf_1 : decode M_w_clicksOf.2.1 1 = .ok (.aload_n 0, 1) := by decide +kernel
theorem D_w_clicksOf_2 : decode M_w_clicksOf.2.1 2 = .ok (.getfield 28, 3) := by decide +kernel
theorem D_w_clicksOf_5 : decode M_w_clicksOf.2.1 5 = .ok (.aload_n 0, 1) := by decide +kernel
theorem D_w_clicksOf_6 : decode M_w_clicksOf.2.1 6 = .ok (.getfield 31, 3) := by decide +kernel
theorem D_w_clicksOf_9 : decode M_w_clicksOf.2.1 9 = .ok (.invokestatic 54, 3) := by decide +kernel
theorem D_w_clicksOf_12 : decode M_w_clicksOf.2.1 12 = .ok (.ireturn, 1) := by decide +kernel
theorem D_w_clicksBy_0 : decode M_w_clicksBy.2.1 0 = .ok (.iconst 0, 1) := by decide +kernel
theorem D_w_clicksBy_1 : decode M_w_clicksBy.2.1 1 = .ok (.istore_n 3, 1) := by decide +kernel
theorem D_w_clicksBy_2 : decode M_w_clicksBy.2.1 2 = .ok (.iload_n 0, 1) := by decide +kernel
theorem D_w_clicksBy_3 : decode M_w_clicksBy.2.1 3 = .ok (.istore 4, 2) := by decide +kernel
theorem D_w_clicksBy_5 : decode M_w_clicksBy.2.1 5 = .ok (.iconst 0, 1) := by decide +kernel
theorem D_w_clicksBy_6 : decode M_w_clicksBy.2.1 6 = .ok (.istore 5, 2) := by decide +kernel
theorem D_w_clicksBy_8 : decode M_w_clicksBy.2.1 8 = .ok (.iload 5, 2) := by decide +kernel
theorem D_w_clicksBy_10 : decode M_w_clicksBy.2.1 10 = .ok (.bipush 60, 2) := by decide +kernel
theorem D_w_clicksBy_12 : decode M_w_clicksBy.2.1 12 = .ok (.if_icmp .ge 30, 3) := by decide +kernel
theorem D_w_clicksBy_15 : decode M_w_clicksBy.2.1 15 = .ok (.iload 4, 2) := by decide +kernel
theorem D_w_clicksBy_17 : decode M_w_clicksBy.2.1 17 = .ok (.ifCond .le 25, 3) := by decide +kernel
theorem D_w_clicksBy_20 : decode M_w_clicksBy.2.1 20 = .ok (.iload_n 3, 1) := by decide +kernel
theorem D_w_clicksBy_21 : decode M_w_clicksBy.2.1 21 = .ok (.iload 4, 2) := by decide +kernel
theorem D_w_clicksBy_23 : decode M_w_clicksBy.2.1 23 = .ok (.iadd, 1) := by decide +kernel
theorem D_w_clicksBy_24 : decode M_w_clicksBy.2.1 24 = .ok (.istore_n 3, 1) := by decide +kernel
theorem D_w_clicksBy_25 : decode M_w_clicksBy.2.1 25 = .ok (.iload 4, 2) := by decide +kernel
theorem D_w_clicksBy_27 : decode M_w_clicksBy.2.1 27 = .ok (.iload_n 1, 1) := by decide +kernel
theorem D_w_clicksBy_28 : decode M_w_clicksBy.2.1 28 = .ok (.imul, 1) := by decide +kernel
theorem D_w_clicksBy_29 : decode M_w_clicksBy.2.1 29 = .ok (.bipush 10, 2) := by decide +kernel
theorem D_w_clicksBy_31 : decode M_w_clicksBy.2.1 31 = .ok (.idiv, 1) := by decide +kernel
theorem D_w_clicksBy_32 : decode M_w_clicksBy.2.1 32 = .ok (.iload_n 2, 1) := by decide +kernel
theorem D_w_clicksBy_33 : decode M_w_clicksBy.2.1 33 = .ok (.isub, 1) := by decide +kernel
theorem D_w_clicksBy_34 : decode M_w_clicksBy.2.1 34 = .ok (.istore 4, 2) := by decide +kernel
theorem D_w_clicksBy_36 : decode M_w_clicksBy.2.1 36 = .ok (.iinc 5 1, 3) := by decide +kernel
theorem D_w_clicksBy_39 : decode M_w_clicksBy.2.1 39 = .ok (.goto (-31), 3) := by decide +kernel
theorem D_w_clicksBy_42 : decode M_w_clicksBy.2.1 42 = .ok (.iload_n 3, 1) := by decide +kernel
theorem D_w_clicksBy_43 : decode M_w_clicksBy.2.1 43 = .ok (.ireturn, 1) := by decide +kernel
theorem D_x_type_0 : decode M_x_type.2.1 0 = .ok (.iload_n 1, 1) := by decide +kernel
theorem D_x_type_1 : decode M_x_type.2.1 1 = .ok (.iconst 0, 1) := by decide +kernel
theorem D_x_type_2 : decode M_x_type.2.1 2 = .ok (.sipush 255, 3) := by decide +kernel
theorem D_x_type_5 : decode M_x_type.2.1 5 = .ok (.invokestatic 99, 3) := by decide +kernel
theorem D_x_type_8 : decode M_x_type.2.1 8 = .ok (.ifCond .ne 5, 3) := by decide +kernel
theorem D_x_type_11 : decode M_x_type.2.1 11 = .ok (.iconst (-1), 1) := by decide +kernel
theorem D_x_type_12 : decode M_x_type.2.1 12 = .ok (.ireturn, 1) := by decide +kernel
theorem D_x_type_13 : decode M_x_type.2.1 13 = .ok (.aload_n 0, 1) := by decide +kernel
theorem D_x_type_14 : decode M_x_type.2.1 14 = .ok (.getfield 10, 3) := by decide +kernel
theorem D_x_type_17 : decode M_x_type.2.1 17 = .ok (.iload_n 1, 1) := by decide +kernel
theorem D_x_type_18 : decode M_x_type.2.1 18 = .ok (.invokevirtual 103, 3) := by decide +kernel
theorem D_x_type_21 : decode M_x_type.2.1 21 = .ok (.ifCond .eq 13, 3) := by decide +kernel
theorem D_x_type_24 : decode M_x_type.2.1 24 = .ok (.aload_n 0, 1) := by decide +kernel
theorem D_x_type_25 : decode M_x_type.2.1 25 = .ok (.getfield 10, 3) := by decide +kernel
theorem D_x_type_28 : decode M_x_type.2.1 28 = .ok (.getfield 107, 3) := by decide +kernel
theorem D_x_type_31 : decode M_x_type.2.1 31 = .ok (.goto 5, 3) := by decide +kernel
theorem D_x_type_34 : decode M_x_type.2.1 34 = .ok (.bipush (-3), 2) := by decide +kernel
theorem D_x_type_36 : decode M_x_type.2.1 36 = .ok (.ireturn, 1) := by decide +kernel
theorem D_x_clear_0 : decode M_x_clear.2.1 0 = .ok (.aload_n 0, 1) := by decide +kernel
theorem D_x_clear_1 : decode M_x_clear.2.1 1 = .ok (.getfield 10, 3) := by decide +kernel
theorem D_x_clear_4 : decode M_x_clear.2.1 4 = .ok (.getfield 107, 3) := by decide +kernel
theorem D_x_clear_7 : decode M_x_clear.2.1 7 = .ok (.istore_n 1, 1) := by decide +kernel
theorem D_x_clear_8 : decode M_x_clear.2.1 8 = .ok (.aload_n 0, 1) := by decide +kernel
theorem D_x_clear_9 : decode M_x_clear.2.1 9 = .ok (.getfield 10, 3) := by decide +kernel
theorem D_x_clear_12 : decode M_x_clear.2.1 12 = .ok (.iconst 0, 1) := by decide +kernel
theorem D_x_clear_13 : decode M_x_clear.2.1 13 = .ok (.putfield 107, 3) := by decide +kernel
theorem D_x_clear_16 : decode M_x_clear.2.1 16 = .ok (.iload_n 1, 1) := by decide +kernel
theorem D_x_clear_17 : decode M_x_clear.2.1 17 = .ok (.ireturn, 1) := by decide +kernel
theorem D_x_rose_0 : decode M_x_rose.2.1 0 = .ok (.aload_n 0, 1) := by decide +kernel
theorem D_x_rose_1 : decode M_x_rose.2.1 1 = .ok (.getfield 10, 3) := by decide +kernel
theorem D_x_rose_4 : decode M_x_rose.2.1 4 = .ok (.aload_n 0, 1) := by decide +kernel
theorem D_x_rose_5 : decode M_x_rose.2.1 5 = .ok (.getfield 23, 3) := by decide +kernel
theorem D_x_rose_8 : decode M_x_rose.2.1 8 = .ok (.invokevirtual 111, 3) := by decide +kernel
theorem D_x_rose_11 : decode M_x_rose.2.1 11 = .ok (.istore_n 1, 1) := by decide +kernel
theorem D_x_rose_12 : decode M_x_rose.2.1 12 = .ok (.iload_n 1, 1) := by decide +kernel
theorem D_x_rose_13 : decode M_x_rose.2.1 13 = .ok (.ifCond .ge 5, 3) := by decide +kernel
theorem D_x_rose_16 : decode M_x_rose.2.1 16 = .ok (.iload_n 1, 1) := by decide +kernel
theorem D_x_rose_17 : decode M_x_rose.2.1 17 = .ok (.ireturn, 1) := by decide +kernel
theorem D_x_rose_18 : decode M_x_rose.2.1 18 = .ok (.aload_n 0, 1) := by decide +kernel
theorem D_x_rose_19 : decode M_x_rose.2.1 19 = .ok (.getfield 23, 3) := by decide +kernel
theorem D_x_rose_22 : decode M_x_rose.2.1 22 = .ok (.astore_n 2, 1) := by decide +kernel
theorem D_x_rose_23 : decode M_x_rose.2.1 23 = .ok (.aload_n 0, 1) := by decide +kernel
theorem D_x_rose_24 : decode M_x_rose.2.1 24 = .ok (.aload_n 0, 1) := by decide +kernel
theorem D_x_rose_25 : decode M_x_rose.2.1 25 = .ok (.getfield 19, 3) := by decide +kernel
theorem D_x_rose_28 : decode M_x_rose.2.1 28 = .ok (.putfield 23, 3) := by decide +kernel
theorem D_x_rose_31 : decode M_x_rose.2.1 31 = .ok (.aload_n 0, 1) := by decide +kernel
theorem D_x_rose_32 : decode M_x_rose.2.1 32 = .ok (.aload_n 2, 1) := by decide +kernel
theorem D_x_rose_33 : decode M_x_rose.2.1 33 = .ok (.putfield 19, 3) := by decide +kernel
theorem D_x_rose_36 : decode M_x_rose.2.1 36 = .ok (.aload_n 0, 1) := by decide +kernel
theorem D_x_rose_37 : decode M_x_rose.2.1 37 = .ok (.getfield 10, 3) := by decide +kernel
theorem D_x_rose_40 : decode M_x_rose.2.1 40 = .ok (.iconst 0, 1) := by decide +kernel
theorem D_x_rose_41 : decode M_x_rose.2.1 41 = .ok (.putfield 107, 3) := by decide +kernel
theorem D_x_rose_44 : decode M_x_rose.2.1 44 = .ok (.aload_n 0, 1) := by decide +kernel
theorem D_x_rose_45 : decode M_x_rose.2.1 45 = .ok (.getfield 29, 3) := by decide +kernel
theorem D_x_rose_48 : decode M_x_rose.2.1 48 = .ok (.aload_n 0, 1) := by decide +kernel
theorem D_x_rose_49 : decode M_x_rose.2.1 49 = .ok (.getfield 19, 3) := by decide +kernel
theorem D_x_rose_52 : decode M_x_rose.2.1 52 = .ok (.invokevirtual 115, 3) := by decide +kernel
theorem D_x_rose_55 : decode M_x_rose.2.1 55 = .ok (.aload_n 0, 1) := by decide +kernel
theorem D_x_rose_56 : decode M_x_rose.2.1 56 = .ok (.getfield 44, 3) := by decide +kernel
theorem D_x_rose_59 : decode M_x_rose.2.1 59 = .ok (.iconst 0, 1) := by decide +kernel
theorem D_x_rose_60 : decode M_x_rose.2.1 60 = .ok (.putfield 119, 3) := by decide +kernel
theorem D_x_rose_63 : decode M_x_rose.2.1 63 = .ok (.aload_n 0, 1) := by decide +kernel
theorem D_x_rose_64 : decode M_x_rose.2.1 64 = .ok (.getfield 48, 3) := by decide +kernel
theorem D_x_rose_67 : decode M_x_rose.2.1 67 = .ok (.iconst 0, 1) := by decide +kernel
theorem D_x_rose_68 : decode M_x_rose.2.1 68 = .ok (.putfield 119, 3) := by decide +kernel
theorem D_x_rose_71 : decode M_x_rose.2.1 71 = .ok (.iconst 0, 1) := by decide +kernel
theorem D_x_rose_72 : decode M_x_rose.2.1 72 = .ok (.istore_n 3, 1) := by decide +kernel
theorem D_x_rose_73 : decode M_x_rose.2.1 73 = .ok (.iload_n 3, 1) := by decide +kernel
theorem D_x_rose_74 : decode M_x_rose.2.1 74 = .ok (.aload_n 0, 1) := by decide +kernel
theorem D_x_rose_75 : decode M_x_rose.2.1 75 = .ok (.getfield 37, 3) := by decide +kernel
theorem D_x_rose_78 : decode M_x_rose.2.1 78 = .ok (.arraylength, 1) := by decide +kernel
theorem D_x_rose_79 : decode M_x_rose.2.1 79 = .ok (.if_icmp .ge 16, 3) := by decide +kernel
theorem D_x_rose_82 : decode M_x_rose.2.1 82 = .ok (.aload_n 0, 1) := by decide +kernel
theorem D_x_rose_83 : decode M_x_rose.2.1 83 = .ok (.getfield 37, 3) := by decide +kernel
theorem D_x_rose_86 : decode M_x_rose.2.1 86 = .ok (.iload_n 3, 1) := by decide +kernel
theorem D_x_rose_87 : decode M_x_rose.2.1 87 = .ok (.iconst 0, 1) := by decide +kernel
theorem D_x_rose_88 : decode M_x_rose.2.1 88 = .ok (.bastore, 1) := by decide +kernel
theorem D_x_rose_89 : decode M_x_rose.2.1 89 = .ok (.iinc 3 1, 3) := by decide +kernel
theorem D_x_rose_92 : decode M_x_rose.2.1 92 = .ok (.goto (-19), 3) := by decide +kernel
theorem D_x_rose_95 : decode M_x_rose.2.1 95 = .ok (.iload_n 1, 1) := by decide +kernel
theorem D_x_rose_96 : decode M_x_rose.2.1 96 = .ok (.ireturn, 1) := by decide +kernel
theorem D_x_pane_0 : decode M_x_pane.2.1 0 = .ok (.aload_n 0, 1) := by decide +kernel
theorem D_x_pane_1 : decode M_x_pane.2.1 1 = .ok (.getfield 19, 3) := by decide +kernel
theorem D_x_pane_4 : decode M_x_pane.2.1 4 = .ok (.iload_n 1, 1) := by decide +kernel
theorem D_x_pane_5 : decode M_x_pane.2.1 5 = .ok (.invokevirtual 122, 3) := by decide +kernel
theorem D_x_pane_8 : decode M_x_pane.2.1 8 = .ok (.ifCond .eq 15, 3) := by decide +kernel
theorem D_x_pane_11 : decode M_x_pane.2.1 11 = .ok (.aload_n 0, 1) := by decide +kernel
theorem D_x_pane_12 : decode M_x_pane.2.1 12 = .ok (.getfield 19, 3) := by decide +kernel
theorem D_x_pane_15 : decode M_x_pane.2.1 15 = .ok (.getfield 125, 3) := by decide +kernel
theorem D_x_pane_18 : decode M_x_pane.2.1 18 = .ok (.iload_n 1, 1) := by decide +kernel
theorem D_x_pane_19 : decode M_x_pane.2.1 19 = .ok (.iaload, 1) := by decide +kernel
theorem D_x_pane_20 : decode M_x_pane.2.1 20 = .ok (.goto 4, 3) := by decide +kernel
theorem D_x_pane_23 : decode M_x_pane.2.1 23 = .ok (.iconst (-1), 1) := by decide +kernel
theorem D_x_pane_24 : decode M_x_pane.2.1 24 = .ok (.ireturn, 1) := by decide +kernel
theorem D_x_one_0 : decode M_x_one.2.1 0 = .ok (.aload_n 0, 1) := by decide +kernel
theorem D_x_one_1 : decode M_x_one.2.1 1 = .ok (.getfield 19, 3) := by decide +kernel
theorem D_x_one_4 : decode M_x_one.2.1 4 = .ok (.iload_n 1, 1) := by decide +kernel
theorem D_x_one_5 : decode M_x_one.2.1 5 = .ok (.invokevirtual 128, 3) := by decide +kernel
theorem D_x_one_8 : decode M_x_one.2.1 8 = .ok (.ifCond .ne 5, 3) := by decide +kernel
theorem D_x_one_11 : decode M_x_one.2.1 11 = .ok (.iconst (-1), 1) := by decide +kernel
theorem D_x_one_12 : decode M_x_one.2.1 12 = .ok (.ireturn, 1) := by decide +kernel
theorem D_x_one_13 : decode M_x_one.2.1 13 = .ok (.iload_n 2, 1) := by decide +kernel
theorem D_x_one_14 : decode M_x_one.2.1 14 = .ok (.tableswitch 79 0 4 #[34, 45, 55, 61, 73], 34) := by decide +kernel
theorem D_x_one_48 : decode M_x_one.2.1 48 = .ok (.aload_n 0, 1) := by decide +kernel
theorem D_x_one_49 : decode M_x_one.2.1 49 = .ok (.getfield 29, 3) := by decide +kernel
theorem D_x_one_52 : decode M_x_one.2.1 52 = .ok (.iconst 4, 1) := by decide +kernel
theorem D_x_one_53 : decode M_x_one.2.1 53 = .ok (.iload_n 1, 1) := by decide +kernel
theorem D_x_one_54 : decode M_x_one.2.1 54 = .ok (.iadd, 1) := by decide +kernel
theorem D_x_one_55 : decode M_x_one.2.1 55 = .ok (.invokevirtual 131, 3) := by decide +kernel
theorem D_x_one_58 : decode M_x_one.2.1 58 = .ok (.ireturn, 1) := by decide +kernel
theorem D_x_one_59 : decode M_x_one.2.1 59 = .ok (.aload_n 0, 1) := by decide +kernel
theorem D_x_one_60 : decode M_x_one.2.1 60 = .ok (.getfield 19, 3) := by decide +kernel
theorem D_x_one_63 : decode M_x_one.2.1 63 = .ok (.getfield 135, 3) := by decide +kernel
theorem D_x_one_66 : decode M_x_one.2.1 66 = .ok (.iload_n 1, 1) := by decide +kernel
theorem D_x_one_67 : decode M_x_one.2.1 67 = .ok (.iaload, 1) := by decide +kernel
theorem D_x_one_68 : decode M_x_one.2.1 68 = .ok (.ireturn, 1) := by decide +kernel
theorem D_x_one_69 : decode M_x_one.2.1 69 = .ok (.aload_n 0, 1) := by decide +kernel
theorem D_x_one_70 : decode M_x_one.2.1 70 = .ok (.iload_n 1, 1) := by decide +kernel
theorem D_x_one_71 : decode M_x_one.2.1 71 = .ok (.invokevirtual 138, 3) := by decide +kernel
theorem D_x_one_74 : decode M_x_one.2.1 74 = .ok (.ireturn, 1) := by decide +kernel
theorem D_x_one_75 : decode M_x_one.2.1 75 = .ok (.aload_n 0, 1) := by decide +kernel
theorem D_x_one_76 : decode M_x_one.2.1 76 = .ok (.getfield 29, 3) := by decide +kernel
theorem D_x_one_79 : decode M_x_one.2.1 79 = .ok (.bipush 10, 2) := by decide +kernel
theorem D_x_one_81 : decode M_x_one.2.1 81 = .ok (.iload_n 1, 1) := by decide +kernel
theorem D_x_one_82 : decode M_x_one.2.1 82 = .ok (.iadd, 1) := by decide +kernel
theorem D_x_one_83 : decode M_x_one.2.1 83 = .ok (.invokevirtual 131, 3) := by decide +kernel
theorem D_x_one_86 : decode M_x_one.2.1 86 = .ok (.ireturn, 1) := by decide +kernel
theorem D_x_one_87 : decode M_x_one.2.1 87 = .ok (.aload_n 0, 1) := by decide +kernel
theorem D_x_one_88 : decode M_x_one.2.1 88 = .ok (.iload_n 1, 1) := by decide +kernel
theorem D_x_one_89 : decode M_x_one.2.1 89 = .ok (.invokevirtual 141, 3) := by decide +kernel
theorem D_x_one_92 : decode M_x_one.2.1 92 = .ok (.ireturn, 1) := by decide +kernel
theorem D_x_one_93 : decode M_x_one.2.1 93 = .ok (.iconst (-1), 1) := by decide +kernel
theorem D_x_one_94 : decode M_x_one.2.1 94 = .ok (.ireturn, 1) := by decide +kernel
theorem D_x_owed_0 : decode M_x_owed.2.1 0 = .ok (.aload_n 0, 1) := by decide +kernel
theorem D_x_owed_1 : decode M_x_owed.2.1 1 = .ok (.iload_n 1, 1) := by decide +kernel
theorem D_x_owed_2 : decode M_x_owed.2.1 2 = .ok (.iload_n 2, 1) := by decide +kernel
theorem D_x_owed_3 : decode M_x_owed.2.1 3 = .ok (.invokevirtual 144, 3) := by decide +kernel
theorem D_x_owed_6 : decode M_x_owed.2.1 6 = .ok (.ifCond .eq 18, 3) := by decide +kernel
theorem D_x_owed_9 : decode M_x_owed.2.1 9 = .ok (.aload_n 0, 1) := by decide +kernel
theorem D_x_owed_10 : decode M_x_owed.2.1 10 = .ok (.getfield 29, 3) := by decide +kernel
theorem D_x_owed_13 : decode M_x_owed.2.1 13 = .ok (.iload_n 1, 1) := by decide +kernel
theorem D_x_owed_14 : decode M_x_owed.2.1 14 = .ok (.iload_n 2, 1) := by decide +kernel
theorem D_x_owed_15 : decode M_x_owed.2.1 15 = .ok (.invokestatic 148, 3) := by decide +kernel
theorem D_x_owed_18 : decode M_x_owed.2.1 18 = .ok (.invokevirtual 131, 3) := by decide +kernel
theorem D_x_owed_21 : decode M_x_owed.2.1 21 = .ok (.goto 4, 3) := by decide +kernel
theorem D_x_owed_24 : decode M_x_owed.2.1 24 = .ok (.iconst (-1), 1) := by decide +kernel
theorem D_x_owed_25 : decode M_x_owed.2.1 25 = .ok (.ireturn, 1) := by decide +kernel
theorem D_x_spins_0 : decode M_x_spins.2.1 0 = .ok (.iload_n 1, 1) := by decide +kernel
theorem D_x_spins_1 : decode M_x_spins.2.1 1 = .ok (.invokestatic 152, 3) := by decide +kernel
theorem D_x_spins_4 : decode M_x_spins.2.1 4 = .ok (.ifCond .ne 5, 3) := by decide +kernel
theorem D_x_spins_7 : decode M_x_spins.2.1 7 = .ok (.iconst (-1), 1) := by decide +kernel
theorem D_x_spins_8 : decode M_x_spins.2.1 8 = .ok (.ireturn, 1) := by decide +kernel
theorem D_x_spins_9 : decode M_x_spins.2.1 9 = .ok (.aload_n 0, 1) := by decide +kernel
theorem D_x_spins_10 : decode M_x_spins.2.1 10 = .ok (.getfield 19, 3) := by decide +kernel
theorem D_x_spins_13 : decode M_x_spins.2.1 13 = .ok (.getfield 155, 3) := by decide +kernel
theorem D_x_spins_16 : decode M_x_spins.2.1 16 = .ok (.ifCond .ne 6, 3) := by decide +kernel
theorem D_x_spins_19 : decode M_x_spins.2.1 19 = .ok (.bipush (-2), 2) := by decide +kernel
theorem D_x_spins_21 : decode M_x_spins.2.1 21 = .ok (.ireturn, 1) := by decide +kernel
theorem D_x_spins_22 : decode M_x_spins.2.1 22 = .ok (.aload_n 0, 1) := by decide +kernel
theorem D_x_spins_23 : decode M_x_spins.2.1 23 = .ok (.getfield 29, 3) := by decide +kernel
theorem D_x_spins_26 : decode M_x_spins.2.1 26 = .ok (.iconst 3, 1) := by decide +kernel
theorem D_x_spins_27 : decode M_x_spins.2.1 27 = .ok (.invokevirtual 131, 3) := by decide +kernel
theorem D_x_spins_30 : decode M_x_spins.2.1 30 = .ok (.sipush 999, 3) := by decide +kernel
theorem D_x_spins_33 : decode M_x_spins.2.1 33 = .ok (.if_icmp .lt 6, 3) := by decide +kernel
theorem D_x_spins_36 : decode M_x_spins.2.1 36 = .ok (.bipush (-3), 2) := by decide +kernel
theorem D_x_spins_38 : decode M_x_spins.2.1 38 = .ok (.ireturn, 1) := by decide +kernel
theorem D_x_spins_39 : decode M_x_spins.2.1 39 = .ok (.aload_n 0, 1) := by decide +kernel
theorem D_x_spins_40 : decode M_x_spins.2.1 40 = .ok (.getfield 29, 3) := by decide +kernel
theorem D_x_spins_43 : decode M_x_spins.2.1 43 = .ok (.invokevirtual 158, 3) := by decide +kernel
theorem D_x_spins_46 : decode M_x_spins.2.1 46 = .ok (.aload_n 0, 1) := by decide +kernel
theorem D_x_spins_47 : decode M_x_spins.2.1 47 = .ok (.getfield 29, 3) := by decide +kernel
theorem D_x_spins_50 : decode M_x_spins.2.1 50 = .ok (.iconst 0, 1) := by decide +kernel
theorem D_x_spins_51 : decode M_x_spins.2.1 51 = .ok (.aload_n 0, 1) := by decide +kernel
theorem D_x_spins_52 : decode M_x_spins.2.1 52 = .ok (.iload_n 1, 1) := by decide +kernel
theorem D_x_spins_53 : decode M_x_spins.2.1 53 = .ok (.invokevirtual 161, 3) := by decide +kernel
theorem D_x_spins_56 : decode M_x_spins.2.1 56 = .ok (.invokevirtual 164, 3) := by decide +kernel
theorem D_x_spins_59 : decode M_x_spins.2.1 59 = .ok (.aload_n 0, 1) := by decide +kernel
theorem D_x_spins_60 : decode M_x_spins.2.1 60 = .ok (.invokevirtual 168, 3) := by decide +kernel
theorem D_x_spins_63 : decode M_x_spins.2.1 63 = .ok (.aload_n 0, 1) := by decide +kernel
theorem D_x_spins_64 : decode M_x_spins.2.1 64 = .ok (.getfield 29, 3) := by decide +kernel
theorem D_x_spins_67 : decode M_x_spins.2.1 67 = .ok (.iconst 0, 1) := by decide +kernel
theorem D_x_spins_68 : decode M_x_spins.2.1 68 = .ok (.invokevirtual 131, 3) := by decide +kernel
theorem D_x_spins_71 : decode M_x_spins.2.1 71 = .ok (.ireturn, 1) := by decide +kernel
theorem D_x_goes_0 : decode M_x_goes.2.1 0 = .ok (.aload_n 0, 1) := by decide +kernel
theorem D_x_goes_1 : decode M_x_goes.2.1 1 = .ok (.getfield 19, 3) := by decide +kernel
theorem D_x_goes_4 : decode M_x_goes.2.1 4 = .ok (.iload_n 1, 1) := by decide +kernel
theorem D_x_goes_5 : decode M_x_goes.2.1 5 = .ok (.invokevirtual 128, 3) := by decide +kernel
theorem D_x_goes_8 : decode M_x_goes.2.1 8 = .ok (.ifCond .eq 14, 3) := by decide +kernel
theorem D_x_goes_11 : decode M_x_goes.2.1 11 = .ok (.aload_n 0, 1) := by decide +kernel
theorem D_x_goes_12 : decode M_x_goes.2.1 12 = .ok (.getfield 19, 3) := by decide +kernel
theorem D_x_goes_15 : decode M_x_goes.2.1 15 = .ok (.iload_n 2, 1) := by decide +kernel
theorem D_x_goes_16 : decode M_x_goes.2.1 16 = .ok (.invokevirtual 122, 3) := by decide +kernel
theorem D_x_goes_19 : decode M_x_goes.2.1 19 = .ok (.ifCond .ne 5, 3) := by decide +kernel
theorem D_x_goes_22 : decode M_x_goes.2.1 22 = .ok (.iconst (-1), 1) := by decide +kernel
theorem D_x_goes_23 : decode M_x_goes.2.1 23 = .ok (.ireturn, 1) := by decide +kernel
theorem D_x_goes_24 : decode M_x_goes.2.1 24 = .ok (.aload_n 0, 1) := by decide +kernel
theorem D_x_goes_25 : decode M_x_goes.2.1 25 = .ok (.iload_n 2, 1) := by decide +kernel
theorem D_x_goes_26 : decode M_x_goes.2.1 26 = .ok (.invokevirtual 171, 3) := by decide +kernel
theorem D_x_goes_29 : decode M_x_goes.2.1 29 = .ok (.iconst (-1), 1) := by decide +kernel
theorem D_x_goes_30 : decode M_x_goes.2.1 30 = .ok (.if_icmp .eq 6, 3) := by decide +kernel
theorem D_x_goes_33 : decode M_x_goes.2.1 33 = .ok (.bipush (-2), 2) := by decide +kernel
theorem D_x_goes_35 : decode M_x_goes.2.1 35 = .ok (.ireturn, 1) := by decide +kernel
theorem D_x_goes_36 : decode M_x_goes.2.1 36 = .ok (.aload_n 0, 1) := by decide +kernel
theorem D_x_goes_37 : decode M_x_goes.2.1 37 = .ok (.getfield 29, 3) := by decide +kernel
theorem D_x_goes_40 : decode M_x_goes.2.1 40 = .ok (.iconst 4, 1) := by decide +kernel
theorem D_x_goes_41 : decode M_x_goes.2.1 41 = .ok (.iload_n 1, 1) := by decide +kernel
theorem D_x_goes_42 : decode M_x_goes.2.1 42 = .ok (.iadd, 1) := by decide +kernel
theorem D_x_goes_43 : decode M_x_goes.2.1 43 = .ok (.invokevirtual 131, 3) := by decide +kernel
theorem D_x_goes_46 : decode M_x_goes.2.1 46 = .ok (.istore_n 3, 1) := by decide +kernel
theorem D_x_goes_47 : decode M_x_goes.2.1 47 = .ok (.aload_n 0, 1) := by decide +kernel
theorem D_x_goes_48 : decode M_x_goes.2.1 48 = .ok (.getfield 29, 3) := by decide +kernel
theorem D_x_goes_51 : decode M_x_goes.2.1 51 = .ok (.invokevirtual 158, 3) := by decide +kernel
theorem D_x_goes_54 : decode M_x_goes.2.1 54 = .ok (.aload_n 0, 1) := by decide +kernel
theorem D_x_goes_55 : decode M_x_goes.2.1 55 = .ok (.getfield 29, 3) := by decide +kernel
theorem D_x_goes_58 : decode M_x_goes.2.1 58 = .ok (.iconst 4, 1) := by decide +kernel
theorem D_x_goes_59 : decode M_x_goes.2.1 59 = .ok (.iload_n 1, 1) := by decide +kernel
theorem D_x_goes_60 : decode M_x_goes.2.1 60 = .ok (.iadd, 1) := by decide +kernel
theorem D_x_goes_61 : decode M_x_goes.2.1 61 = .ok (.iload_n 2, 1) := by decide +kernel
theorem D_x_goes_62 : decode M_x_goes.2.1 62 = .ok (.invokevirtual 164, 3) := by decide +kernel
theorem D_x_goes_65 : decode M_x_goes.2.1 65 = .ok (.iload_n 3, 1) := by decide +kernel
theorem D_x_goes_66 : decode M_x_goes.2.1 66 = .ok (.ireturn, 1) := by decide +kernel
theorem D_x_passes_0 : decode M_x_passes.2.1 0 = .ok (.iload_n 1, 1) := by decide +kernel
theorem D_x_passes_1 : decode M_x_passes.2.1 1 = .ok (.iconst 1, 1) := by decide +kernel
theorem D_x_passes_2 : decode M_x_passes.2.1 2 = .ok (.bipush 11, 2) := by decide +kernel
theorem D_x_passes_4 : decode M_x_passes.2.1 4 = .ok (.invokestatic 99, 3) := by decide +kernel
theorem D_x_passes_7 : decode M_x_passes.2.1 7 = .ok (.ifCond .ne 5, 3) := by decide +kernel
theorem D_x_passes_10 : decode M_x_passes.2.1 10 = .ok (.iconst (-1), 1) := by decide +kernel
theorem D_x_passes_11 : decode M_x_passes.2.1 11 = .ok (.ireturn, 1) := by decide +kernel
theorem D_x_passes_12 : decode M_x_passes.2.1 12 = .ok (.aload_n 0, 1) := by decide +kernel
theorem D_x_passes_13 : decode M_x_passes.2.1 13 = .ok (.getfield 19, 3) := by decide +kernel
theorem D_x_passes_16 : decode M_x_passes.2.1 16 = .ok (.getfield 155, 3) := by decide +kernel
theorem D_x_passes_19 : decode M_x_passes.2.1 19 = .ok (.ifCond .ne 6, 3) := by decide +kernel
theorem D_x_passes_22 : decode M_x_passes.2.1 22 = .ok (.bipush (-2), 2) := by decide +kernel
theorem D_x_passes_24 : decode M_x_passes.2.1 24 = .ok (.ireturn, 1) := by decide +kernel
theorem D_x_passes_25 : decode M_x_passes.2.1 25 = .ok (.aload_n 0, 1) := by decide +kernel
theorem D_x_passes_26 : decode M_x_passes.2.1 26 = .ok (.getfield 29, 3) := by decide +kernel
theorem D_x_passes_29 : decode M_x_passes.2.1 29 = .ok (.invokevirtual 158, 3) := by decide +kernel
theorem D_x_passes_32 : decode M_x_passes.2.1 32 = .ok (.aload_n 0, 1) := by decide +kernel
theorem D_x_passes_33 : decode M_x_passes.2.1 33 = .ok (.getfield 29, 3) := by decide +kernel
theorem D_x_passes_36 : decode M_x_passes.2.1 36 = .ok (.iconst 1, 1) := by decide +kernel
theorem D_x_passes_37 : decode M_x_passes.2.1 37 = .ok (.aload_n 0, 1) := by decide +kernel
theorem D_x_passes_38 : decode M_x_passes.2.1 38 = .ok (.getfield 19, 3) := by decide +kernel
theorem D_x_passes_41 : decode M_x_passes.2.1 41 = .ok (.aload_n 0, 1) := by decide +kernel
theorem D_x_passes_42 : decode M_x_passes.2.1 42 = .ok (.getfield 29, 3) := by decide +kernel
theorem D_x_passes_45 : decode M_x_passes.2.1 45 = .ok (.iconst 1, 1) := by decide +kernel
theorem D_x_passes_46 : decode M_x_passes.2.1 46 = .ok (.invokevirtual 131, 3) := by decide +kernel
theorem D_x_passes_49 : decode M_x_passes.2.1 49 = .ok (.iload_n 1, 1) := by decide +kernel
theorem D_x_passes_50 : decode M_x_passes.2.1 50 = .ok (.iadd, 1) := by decide +kernel
theorem D_x_passes_51 : decode M_x_passes.2.1 51 = .ok (.invokevirtual 174, 3) := by decide +kernel
theorem D_x_passes_54 : decode M_x_passes.2.1 54 = .ok (.invokevirtual 164, 3) := by decide +kernel
theorem D_x_passes_57 : decode M_x_passes.2.1 57 = .ok (.aload_n 0, 1) := by decide +kernel
theorem D_x_passes_58 : decode M_x_passes.2.1 58 = .ok (.getfield 29, 3) := by decide +kernel
theorem D_x_passes_61 : decode M_x_passes.2.1 61 = .ok (.iconst 1, 1) := by decide +kernel
theorem D_x_passes_62 : decode M_x_passes.2.1 62 = .ok (.invokevirtual 131, 3) := by decide +kernel
theorem D_x_passes_65 : decode M_x_passes.2.1 65 = .ok (.ireturn, 1) := by decide +kernel
theorem D_x_covers_0 : decode M_x_covers.2.1 0 = .ok (.iload_n 1, 1) := by decide +kernel
theorem D_x_covers_1 : decode M_x_covers.2.1 1 = .ok (.iconst 0, 1) := by decide +kernel
theorem D_x_covers_2 : decode M_x_covers.2.1 2 = .ok (.iconst 1, 1) := by decide +kernel
theorem D_x_covers_3 : decode M_x_covers.2.1 3 = .ok (.invokestatic 99, 3) := by decide +kernel
theorem D_x_covers_6 : decode M_x_covers.2.1 6 = .ok (.ifCond .ne 5, 3) := by decide +kernel
theorem D_x_covers_9 : decode M_x_covers.2.1 9 = .ok (.iconst (-1), 1) := by decide +kernel
theorem D_x_covers_10 : decode M_x_covers.2.1 10 = .ok (.ireturn, 1) := by decide +kernel
theorem D_x_covers_11 : decode M_x_covers.2.1 11 = .ok (.aload_n 0, 1) := by decide +kernel
theorem D_x_covers_12 : decode M_x_covers.2.1 12 = .ok (.getfield 29, 3) := by decide +kernel
theorem D_x_covers_15 : decode M_x_covers.2.1 15 = .ok (.iconst 2, 1) := by decide +kernel
theorem D_x_covers_16 : decode M_x_covers.2.1 16 = .ok (.invokevirtual 131, 3) := by decide +kernel
theorem D_x_covers_19 : decode M_x_covers.2.1 19 = .ok (.iload_n 1, 1) := by decide +kernel
theorem D_x_covers_20 : decode M_x_covers.2.1 20 = .ok (.if_icmp .ne 6, 3) := by decide +kernel
theorem D_x_covers_23 : decode M_x_covers.2.1 23 = .ok (.bipush (-2), 2) := by decide +kernel
theorem D_x_covers_25 : decode M_x_covers.2.1 25 = .ok (.ireturn, 1) := by decide +kernel
theorem D_x_covers_26 : decode M_x_covers.2.1 26 = .ok (.aload_n 0, 1) := by decide +kernel
theorem D_x_covers_27 : decode M_x_covers.2.1 27 = .ok (.getfield 29, 3) := by decide +kernel
theorem D_x_covers_30 : decode M_x_covers.2.1 30 = .ok (.invokevirtual 158, 3) := by decide +kernel
theorem D_x_covers_33 : decode M_x_covers.2.1 33 = .ok (.aload_n 0, 1) := by decide +kernel
theorem D_x_covers_34 : decode M_x_covers.2.1 34 = .ok (.getfield 29, 3) := by decide +kernel
theorem D_x_covers_37 : decode M_x_covers.2.1 37 = .ok (.iconst 2, 1) := by decide +kernel
theorem D_x_covers_38 : decode M_x_covers.2.1 38 = .ok (.iload_n 1, 1) := by decide +kernel
theorem D_x_covers_39 : decode M_x_covers.2.1 39 = .ok (.invokevirtual 164, 3) := by decide +kernel
theorem D_x_covers_42 : decode M_x_covers.2.1 42 = .ok (.iconst 0, 1) := by decide +kernel
theorem D_x_covers_43 : decode M_x_covers.2.1 43 = .ok (.istore_n 2, 1) := by decide +kernel
theorem D_x_covers_44 : decode M_x_covers.2.1 44 = .ok (.iconst 0, 1) := by decide +kernel
theorem D_x_covers_45 : decode M_x_covers.2.1 45 = .ok (.istore_n 3, 1) := by decide +kernel
theorem D_x_covers_46 : decode M_x_covers.2.1 46 = .ok (.iload_n 3, 1) := by decide +kernel
theorem D_x_covers_47 : decode M_x_covers.2.1 47 = .ok (.aload_n 0, 1) := by decide +kernel
theorem D_x_covers_48 : decode M_x_covers.2.1 48 = .ok (.getfield 19, 3) := by decide +kernel
theorem D_x_covers_51 : decode M_x_covers.2.1 51 = .ok (.getfield 177, 3) := by decide +kernel
theorem D_x_covers_54 : decode M_x_covers.2.1 54 = .ok (.if_icmp .ge 20, 3) := by decide +kernel
theorem D_x_covers_57 : decode M_x_covers.2.1 57 = .ok (.aload_n 0, 1) := by decide +kernel
theorem D_x_covers_58 : decode M_x_covers.2.1 58 = .ok (.iload_n 3, 1) := by decide +kernel
theorem D_x_covers_59 : decode M_x_covers.2.1 59 = .ok (.invokevirtual 138, 3) := by decide +kernel
theorem D_x_covers_62 : decode M_x_covers.2.1 62 = .ok (.ifCond .ne 6, 3) := by decide +kernel
theorem D_x_covers_65 : decode M_x_covers.2.1 65 = .ok (.iinc 2 1, 3) := by decide +kernel
theorem D_x_covers_68 : decode M_x_covers.2.1 68 = .ok (.iinc 3 1, 3) := by decide +kernel
theorem D_x_covers_71 : decode M_x_covers.2.1 71 = .ok (.goto (-25), 3) := by decide +kernel
theorem D_x_covers_74 : decode M_x_covers.2.1 74 = .ok (.iload_n 2, 1) := by decide +kernel
theorem D_x_covers_75 : decode M_x_covers.2.1 75 = .ok (.ireturn, 1) := by decide +kernel
theorem D_x_forgives_0 : decode M_x_forgives.2.1 0 = .ok (.aload_n 0, 1) := by decide +kernel
theorem D_x_forgives_1 : decode M_x_forgives.2.1 1 = .ok (.iload_n 1, 1) := by decide +kernel
theorem D_x_forgives_2 : decode M_x_forgives.2.1 2 = .ok (.iload_n 2, 1) := by decide +kernel
theorem D_x_forgives_3 : decode M_x_forgives.2.1 3 = .ok (.invokevirtual 144, 3) := by decide +kernel
theorem D_x_forgives_6 : decode M_x_forgives.2.1 6 = .ok (.ifCond .ne 5, 3) := by decide +kernel
theorem D_x_forgives_9 : decode M_x_forgives.2.1 9 = .ok (.iconst (-1), 1) := by decide +kernel
theorem D_x_forgives_10 : decode M_x_forgives.2.1 10 = .ok (.ireturn, 1) := by decide +kernel
theorem D_x_forgives_11 : decode M_x_forgives.2.1 11 = .ok (.aload_n 0, 1) := by decide +kernel
theorem D_x_forgives_12 : decode M_x_forgives.2.1 12 = .ok (.getfield 29, 3) := by decide +kernel
theorem D_x_forgives_15 : decode M_x_forgives.2.1 15 = .ok (.iload_n 1, 1) := by decide +kernel
theorem D_x_forgives_16 : decode M_x_forgives.2.1 16 = .ok (.iload_n 2, 1) := by decide +kernel
theorem D_x_forgives_17 : decode M_x_forgives.2.1 17 = .ok (.invokestatic 148, 3) := by decide +kernel
theorem D_x_forgives_20 : decode M_x_forgives.2.1 20 = .ok (.invokevirtual 131, 3) := by decide +kernel
theorem D_x_forgives_23 : decode M_x_forgives.2.1 23 = .ok (.istore_n 3, 1) := by decide +kernel
theorem D_x_forgives_24 : decode M_x_forgives.2.1 24 = .ok (.iload_n 3, 1) := by decide +kernel
theorem D_x_forgives_25 : decode M_x_forgives.2.1 25 = .ok (.ifCond .ne 6, 3) := by decide +kernel
theorem D_x_forgives_28 : decode M_x_forgives.2.1 28 = .ok (.bipush (-2), 2) := by decide +kernel
theorem D_x_forgives_30 : decode M_x_forgives.2.1 30 = .ok (.ireturn, 1) := by decide +kernel
theorem D_x_forgives_31 : decode M_x_forgives.2.1 31 = .ok (.aload_n 0, 1) := by decide +kernel
theorem D_x_forgives_32 : decode M_x_forgives.2.1 32 = .ok (.getfield 29, 3) := by decide +kernel
theorem D_x_forgives_35 : decode M_x_forgives.2.1 35 = .ok (.invokevirtual 158, 3) := by decide +kernel
theorem D_x_forgives_38 : decode M_x_forgives.2.1 38 = .ok (.aload_n 0, 1) := by decide +kernel
theorem D_x_forgives_39 : decode M_x_forgives.2.1 39 = .ok (.getfield 29, 3) := by decide +kernel
theorem D_x_forgives_42 : decode M_x_forgives.2.1 42 = .ok (.iload_n 1, 1) := by decide +kernel
theorem D_x_forgives_43 : decode M_x_forgives.2.1 43 = .ok (.iload_n 2, 1) := by decide +kernel
theorem D_x_forgives_44 : decode M_x_forgives.2.1 44 = .ok (.invokestatic 148, 3) := by decide +kernel
theorem D_x_forgives_47 : decode M_x_forgives.2.1 47 = .ok (.iconst 0, 1) := by decide +kernel
theorem D_x_forgives_48 : decode M_x_forgives.2.1 48 = .ok (.invokevirtual 164, 3) := by decide +kernel
theorem D_x_forgives_51 : decode M_x_forgives.2.1 51 = .ok (.iload_n 3, 1) := by decide +kernel
theorem D_x_forgives_52 : decode M_x_forgives.2.1 52 = .ok (.ireturn, 1) := by decide +kernel
theorem D_x_undo_0 : decode M_x_undo.2.1 0 = .ok (.aload_n 0, 1) := by decide +kernel
theorem D_x_undo_1 : decode M_x_undo.2.1 1 = .ok (.getfield 29, 3) := by decide +kernel
theorem D_x_undo_4 : decode M_x_undo.2.1 4 = .ok (.getfield 180, 3) := by decide +kernel
theorem D_x_undo_7 : decode M_x_undo.2.1 7 = .ok (.ifCond .ne 6, 3) := by decide +kernel
theorem D_x_undo_10 : decode M_x_undo.2.1 10 = .ok (.bipush (-2), 2) := by decide +kernel
theorem D_x_undo_12 : decode M_x_undo.2.1 12 = .ok (.ireturn, 1) := by decide +kernel
theorem D_x_undo_13 : decode M_x_undo.2.1 13 = .ok (.aload_n 0, 1) := by decide +kernel
theorem D_x_undo_14 : decode M_x_undo.2.1 14 = .ok (.getfield 29, 3) := by decide +kernel
theorem D_x_undo_17 : decode M_x_undo.2.1 17 = .ok (.dup, 1) := by decide +kernel
theorem D_x_undo_18 : decode M_x_undo.2.1 18 = .ok (.getfield 180, 3) := by decide +kernel
theorem D_x_undo_21 : decode M_x_undo.2.1 21 = .ok (.iconst 1, 1) := by decide +kernel
theorem D_x_undo_22 : decode M_x_undo.2.1 22 = .ok (.isub, 1) := by decide +kernel
theorem D_x_undo_23 : decode M_x_undo.2.1 23 = .ok (.putfield 180, 3) := by decide +kernel
theorem D_x_undo_26 : decode M_x_undo.2.1 26 = .ok (.aload_n 0, 1) := by decide +kernel
theorem D_x_undo_27 : decode M_x_undo.2.1 27 = .ok (.getfield 29, 3) := by decide +kernel
theorem D_x_undo_30 : decode M_x_undo.2.1 30 = .ok (.getfield 180, 3) := by decide +kernel
theorem D_x_undo_33 : decode M_x_undo.2.1 33 = .ok (.ireturn, 1) := by decide +kernel
theorem D_x_now_0 : decode M_x_now.2.1 0 = .ok (.iload_n 1, 1) := by decide +kernel
theorem D_x_now_1 : decode M_x_now.2.1 1 = .ok (.tableswitch 97 0 6 #[43, 52, 61, 70, 79, 84, 92], 43) := by decide +kernel
theorem D_x_now_44 : decode M_x_now.2.1 44 = .ok (.aload_n 0, 1) := by decide +kernel
theorem D_x_now_45 : decode M_x_now.2.1 45 = .ok (.getfield 29, 3) := by decide +kernel
theorem D_x_now_48 : decode M_x_now.2.1 48 = .ok (.iconst 0, 1) := by decide +kernel
theorem D_x_now_49 : decode M_x_now.2.1 49 = .ok (.invokevirtual 131, 3) := by decide +kernel
theorem D_x_now_52 : decode M_x_now.2.1 52 = .ok (.ireturn, 1) := by decide +kernel
theorem D_x_now_53 : decode M_x_now.2.1 53 = .ok (.aload_n 0, 1) := by decide +kernel
theorem D_x_now_54 : decode M_x_now.2.1 54 = .ok (.getfield 29, 3) := by decide +kernel
theorem D_x_now_57 : decode M_x_now.2.1 57 = .ok (.iconst 1, 1) := by decide +kernel
theorem D_x_now_58 : decode M_x_now.2.1 58 = .ok (.invokevirtual 131, 3) := by decide +kernel
theorem D_x_now_61 : decode M_x_now.2.1 61 = .ok (.ireturn, 1) := by decide +kernel
theorem D_x_now_62 : decode M_x_now.2.1 62 = .ok (.aload_n 0, 1) := by decide +kernel
theorem D_x_now_63 : decode M_x_now.2.1 63 = .ok (.getfield 29, 3) := by decide +kernel
theorem D_x_now_66 : decode M_x_now.2.1 66 = .ok (.iconst 2, 1) := by decide +kernel
theorem D_x_now_67 : decode M_x_now.2.1 67 = .ok (.invokevirtual 131, 3) := by decide +kernel
theorem D_x_now_70 : decode M_x_now.2.1 70 = .ok (.ireturn, 1) := by decide +kernel
theorem D_x_now_71 : decode M_x_now.2.1 71 = .ok (.aload_n 0, 1) := by decide +kernel
theorem D_x_now_72 : decode M_x_now.2.1 72 = .ok (.getfield 29, 3) := by decide +kernel
theorem D_x_now_75 : decode M_x_now.2.1 75 = .ok (.iconst 3, 1) := by decide +kernel
theorem D_x_now_76 : decode M_x_now.2.1 76 = .ok (.invokevirtual 131, 3) := by decide +kernel
theorem D_x_now_79 : decode M_x_now.2.1 79 = .ok (.ireturn, 1) := by decide +kernel
theorem D_x_now_80 : decode M_x_now.2.1 80 = .ok (.aload_n 0, 1) := by decide +kernel
theorem D_x_now_81 : decode M_x_now.2.1 81 = .ok (.invokevirtual 183, 3) := by decide +kernel
theorem D_x_now_84 : decode M_x_now.2.1 84 = .ok (.ireturn, 1) := by decide +kernel
theorem D_x_now_85 : decode M_x_now.2.1 85 = .ok (.aload_n 0, 1) := by decide +kernel
theorem D_x_now_86 : decode M_x_now.2.1 86 = .ok (.getfield 19, 3) := by decide +kernel
theorem D_x_now_89 : decode M_x_now.2.1 89 = .ok (.invokevirtual 187, 3) := by decide +kernel
theorem D_x_now_92 : decode M_x_now.2.1 92 = .ok (.ireturn, 1) := by decide +kernel
theorem D_x_now_93 : decode M_x_now.2.1 93 = .ok (.aload_n 0, 1) := by decide +kernel
theorem D_x_now_94 : decode M_x_now.2.1 94 = .ok (.invokevirtual 190, 3) := by decide +kernel
theorem D_x_now_97 : decode M_x_now.2.1 97 = .ok (.ireturn, 1) := by decide +kernel
theorem D_x_now_98 : decode M_x_now.2.1 98 = .ok (.iconst (-1), 1) := by decide +kernel
theorem D_x_now_99 : decode M_x_now.2.1 99 = .ok (.ireturn, 1) := by decide +kernel
theorem D_x_clicks_0 : decode M_x_clicks.2.1 0 = .ok (.iload_n 1, 1) := by decide +kernel
theorem D_x_clicks_1 : decode M_x_clicks.2.1 1 = .ok (.invokestatic 152, 3) := by decide +kernel
theorem D_x_clicks_4 : decode M_x_clicks.2.1 4 = .ok (.ifCond .eq 14, 3) := by decide +kernel
theorem D_x_clicks_7 : decode M_x_clicks.2.1 7 = .ok (.aload_n 0, 1) := by decide +kernel
theorem D_x_clicks_8 : decode M_x_clicks.2.1 8 = .ok (.getfield 19, 3) := by decide +kernel
theorem D_x_clicks_11 : decode M_x_clicks.2.1 11 = .ok (.iload_n 1, 1) := by decide +kernel
theorem D_x_clicks_12 : decode M_x_clicks.2.1 12 = .ok (.invokevirtual 193, 3) := by decide +kernel
theorem D_x_clicks_15 : decode M_x_clicks.2.1 15 = .ok (.goto 4, 3) := by decide +kernel
theorem D_x_clicks_18 : decode M_x_clicks.2.1 18 = .ok (.iconst (-1), 1) := by decide +kernel
theorem D_x_clicks_19 : decode M_x_clicks.2.1 19 = .ok (.ireturn, 1) := by decide +kernel
theorem D_x_stops_0 : decode M_x_stops.2.1 0 = .ok (.iload_n 1, 1) := by decide +kernel
theorem D_x_stops_1 : decode M_x_stops.2.1 1 = .ok (.invokestatic 152, 3) := by decide +kernel
theorem D_x_stops_4 : decode M_x_stops.2.1 4 = .ok (.ifCond .ne 5, 3) := by decide +kernel
theorem D_x_stops_7 : decode M_x_stops.2.1 7 = .ok (.iconst (-1), 1) := by decide +kernel
theorem D_x_stops_8 : decode M_x_stops.2.1 8 = .ok (.ireturn, 1) := by decide +kernel
theorem D_x_stops_9 : decode M_x_stops.2.1 9 = .ok (.aload_n 0, 1) := by decide +kernel
theorem D_x_stops_10 : decode M_x_stops.2.1 10 = .ok (.getfield 19, 3) := by decide +kernel
theorem D_x_stops_13 : decode M_x_stops.2.1 13 = .ok (.getfield 155, 3) := by decide +kernel
theorem D_x_stops_16 : decode M_x_stops.2.1 16 = .ok (.ifCond .ne 8, 3) := by decide +kernel
theorem D_x_stops_19 : decode M_x_stops.2.1 19 = .ok (.bipush (-2), 2) := by decide +kernel
theorem D_x_stops_21 : decode M_x_stops.2.1 21 = .ok (.goto 8, 3) := by decide +kernel
theorem D_x_stops_24 : decode M_x_stops.2.1 24 = .ok (.aload_n 0, 1) := by decide +kernel
theorem D_x_stops_25 : decode M_x_stops.2.1 25 = .ok (.iload_n 1, 1) := by decide +kernel
theorem D_x_stops_26 : decode M_x_stops.2.1 26 = .ok (.invokevirtual 161, 3) := by decide +kernel
theorem D_x_stops_29 : decode M_x_stops.2.1 29 = .ok (.ireturn, 1) := by decide +kernel
theorem D_x_shade_0 : decode M_x_shade.2.1 0 = .ok (.aload_n 0, 1) := by decide +kernel
theorem D_x_shade_1 : decode M_x_shade.2.1 1 = .ok (.getfield 19, 3) := by decide +kernel
theorem D_x_shade_4 : decode M_x_shade.2.1 4 = .ok (.iload_n 1, 1) := by decide +kernel
theorem D_x_shade_5 : decode M_x_shade.2.1 5 = .ok (.invokevirtual 122, 3) := by decide +kernel
theorem D_x_shade_8 : decode M_x_shade.2.1 8 = .ok (.ifCond .eq 19, 3) := by decide +kernel
theorem D_x_shade_11 : decode M_x_shade.2.1 11 = .ok (.iload_n 2, 1) := by decide +kernel
theorem D_x_shade_12 : decode M_x_shade.2.1 12 = .ok (.invokestatic 152, 3) := by decide +kernel
theorem D_x_shade_15 : decode M_x_shade.2.1 15 = .ok (.ifCond .eq 12, 3) := by decide +kernel
theorem D_x_shade_18 : decode M_x_shade.2.1 18 = .ok (.aload_n 0, 1) := by decide +kernel
theorem D_x_shade_19 : decode M_x_shade.2.1 19 = .ok (.iload_n 1, 1) := by decide +kernel
theorem D_x_shade_20 : decode M_x_shade.2.1 20 = .ok (.iload_n 2, 1) := by decide +kernel
theorem D_x_shade_21 : decode M_x_shade.2.1 21 = .ok (.invokevirtual 196, 3) := by decide +kernel
theorem D_x_shade_24 : decode M_x_shade.2.1 24 = .ok (.goto 4, 3) := by decide +kernel
theorem D_x_shade_27 : decode M_x_shade.2.1 27 = .ok (.iconst (-1), 1) := by decide +kernel
theorem D_x_shade_28 : decode M_x_shade.2.1 28 = .ok (.ireturn, 1) := by decide +kernel
theorem D_x_speeds_0 : decode M_x_speeds.2.1 0 = .ok (.aload_n 0, 1) := by decide +kernel
theorem D_x_speeds_1 : decode M_x_speeds.2.1 1 = .ok (.getfield 19, 3) := by decide +kernel
theorem D_x_speeds_4 : decode M_x_speeds.2.1 4 = .ok (.iload_n 1, 1) := by decide +kernel
theorem D_x_speeds_5 : decode M_x_speeds.2.1 5 = .ok (.invokevirtual 122, 3) := by decide +kernel
theorem D_x_speeds_8 : decode M_x_speeds.2.1 8 = .ok (.ifCond .eq 19, 3) := by decide +kernel
theorem D_x_speeds_11 : decode M_x_speeds.2.1 11 = .ok (.iload_n 2, 1) := by decide +kernel
theorem D_x_speeds_12 : decode M_x_speeds.2.1 12 = .ok (.invokestatic 199, 3) := by decide +kernel
theorem D_x_speeds_15 : decode M_x_speeds.2.1 15 = .ok (.ifCond .eq 12, 3) := by decide +kernel
theorem D_x_speeds_18 : decode M_x_speeds.2.1 18 = .ok (.iload_n 3, 1) := by decide +kernel
theorem D_x_speeds_19 : decode M_x_speeds.2.1 19 = .ok (.iconst 0, 1) := by decide +kernel
theorem D_x_speeds_20 : decode M_x_speeds.2.1 20 = .ok (.iconst 1, 1) := by decide +kernel
theorem D_x_speeds_21 : decode M_x_speeds.2.1 21 = .ok (.invokestatic 99, 3) := by decide +kernel
theorem D_x_speeds_24 : decode M_x_speeds.2.1 24 = .ok (.ifCond .ne 5, 3) := by decide +kernel
theorem D_x_speeds_27 : decode M_x_speeds.2.1 27 = .ok (.iconst (-1), 1) := by decide +kernel
theorem D_x_speeds_28 : decode M_x_speeds.2.1 28 = .ok (.ireturn, 1) := by decide +kernel
theorem D_x_speeds_29 : decode M_x_speeds.2.1 29 = .ok (.iload_n 3, 1) := by decide +kernel
theorem D_x_speeds_30 : decode M_x_speeds.2.1 30 = .ok (.ifCond .ne 14, 3) := by decide +kernel
theorem D_x_speeds_33 : decode M_x_speeds.2.1 33 = .ok (.aload_n 0, 1) := by decide +kernel
theorem D_x_speeds_34 : decode M_x_speeds.2.1 34 = .ok (.iload_n 1, 1) := by decide +kernel
theorem D_x_speeds_35 : decode M_x_speeds.2.1 35 = .ok (.iload_n 2, 1) := by decide +kernel
theorem D_x_speeds_36 : decode M_x_speeds.2.1 36 = .ok (.bipush 60, 2) := by decide +kernel
theorem D_x_speeds_38 : decode M_x_speeds.2.1 38 = .ok (.invokevirtual 202, 3) := by decide +kernel
theorem D_x_speeds_41 : decode M_x_speeds.2.1 41 = .ok (.goto 9, 3) := by decide +kernel
theorem D_x_speeds_44 : decode M_x_speeds.2.1 44 = .ok (.aload_n 0, 1) := by decide +kernel
theorem D_x_speeds_45 : decode M_x_speeds.2.1 45 = .ok (.iload_n 1, 1) := by decide +kernel
theorem D_x_speeds_46 : decode M_x_speeds.2.1 46 = .ok (.iload_n 2, 1) := by decide +kernel
theorem D_x_speeds_47 : decode M_x_speeds.2.1 47 = .ok (.invokevirtual 206, 3) := by decide +kernel
theorem D_x_speeds_50 : decode M_x_speeds.2.1 50 = .ok (.ireturn, 1) := by decide +kernel
theorem D_x_steps_0 : decode M_x_steps.2.1 0 = .ok (.aload_n 0, 1) := by decide +kernel
theorem D_x_steps_1 : decode M_x_steps.2.1 1 = .ok (.getfield 19, 3) := by decide +kernel
theorem D_x_steps_4 : decode M_x_steps.2.1 4 = .ok (.iload_n 1, 1) := by decide +kernel
theorem D_x_steps_5 : decode M_x_steps.2.1 5 = .ok (.invokevirtual 128, 3) := by decide +kernel
theorem D_x_steps_8 : decode M_x_steps.2.1 8 = .ok (.ifCond .eq 27, 3) := by decide +kernel
theorem D_x_steps_11 : decode M_x_steps.2.1 11 = .ok (.iload_n 2, 1) := by decide +kernel
theorem D_x_steps_12 : decode M_x_steps.2.1 12 = .ok (.invokestatic 199, 3) := by decide +kernel
theorem D_x_steps_15 : decode M_x_steps.2.1 15 = .ok (.ifCond .eq 20, 3) := by decide +kernel
theorem D_x_steps_18 : decode M_x_steps.2.1 18 = .ok (.iload_n 3, 1) := by decide +kernel
theorem D_x_steps_19 : decode M_x_steps.2.1 19 = .ok (.invokestatic 152, 3) := by decide +kernel
theorem D_x_steps_22 : decode M_x_steps.2.1 22 = .ok (.ifCond .eq 13, 3) := by decide +kernel
theorem D_x_steps_25 : decode M_x_steps.2.1 25 = .ok (.iload 4, 2) := by decide +kernel
theorem D_x_steps_27 : decode M_x_steps.2.1 27 = .ok (.iconst 0, 1) := by decide +kernel
theorem D_x_steps_28 : decode M_x_steps.2.1 28 = .ok (.iconst 1, 1) := by decide +kernel
theorem D_x_steps_29 : decode M_x_steps.2.1 29 = .ok (.invokestatic 99, 3) := by decide +kernel
theorem D_x_steps_32 : decode M_x_steps.2.1 32 = .ok (.ifCond .ne 5, 3) := by decide +kernel
theorem D_x_steps_35 : decode M_x_steps.2.1 35 = .ok (.iconst (-1), 1) := by decide +kernel
theorem D_x_steps_36 : decode M_x_steps.2.1 36 = .ok (.ireturn, 1) := by decide +kernel
theorem D_x_steps_37 : decode M_x_steps.2.1 37 = .ok (.aload_n 0, 1) := by decide +kernel
theorem D_x_steps_38 : decode M_x_steps.2.1 38 = .ok (.getfield 29, 3) := by decide +kernel
theorem D_x_steps_41 : decode M_x_steps.2.1 41 = .ok (.iconst 4, 1) := by decide +kernel
theorem D_x_steps_42 : decode M_x_steps.2.1 42 = .ok (.iload_n 1, 1) := by decide +kernel
theorem D_x_steps_43 : decode M_x_steps.2.1 43 = .ok (.iadd, 1) := by decide +kernel
theorem D_x_steps_44 : decode M_x_steps.2.1 44 = .ok (.invokevirtual 131, 3) := by decide +kernel
theorem D_x_steps_47 : decode M_x_steps.2.1 47 = .ok (.istore 5, 2) := by decide +kernel
theorem D_x_steps_49 : decode M_x_steps.2.1 49 = .ok (.bipush (-9), 2) := by decide +kernel
theorem D_x_steps_51 : decode M_x_steps.2.1 51 = .ok (.istore 6, 2) := by decide +kernel
theorem D_x_steps_53 : decode M_x_steps.2.1 53 = .ok (.bipush (-9), 2) := by decide +kernel
theorem D_x_steps_55 : decode M_x_steps.2.1 55 = .ok (.istore 7, 2) := by decide +kernel
theorem D_x_steps_57 : decode M_x_steps.2.1 57 = .ok (.iconst 0, 1) := by decide +kernel
theorem D_x_steps_58 : decode M_x_steps.2.1 58 = .ok (.istore 8, 2) := by decide +kernel
theorem D_x_steps_60 : decode M_x_steps.2.1 60 = .ok (.iload 8, 2) := by decide +kernel
theorem D_x_steps_62 : decode M_x_steps.2.1 62 = .ok (.aload_n 0, 1) := by decide +kernel
theorem D_x_steps_63 : decode M_x_steps.2.1 63 = .ok (.getfield 19, 3) := by decide +kernel
theorem D_x_steps_66 : decode M_x_steps.2.1 66 = .ok (.getfield 155, 3) := by decide +kernel
theorem D_x_steps_69 : decode M_x_steps.2.1 69 = .ok (.if_icmp .ge 87, 3) := by decide +kernel
theorem D_x_steps_72 : decode M_x_steps.2.1 72 = .ok (.aload_n 0, 1) := by decide +kernel
theorem D_x_steps_73 : decode M_x_steps.2.1 73 = .ok (.iload 8, 2) := by decide +kernel
theorem D_x_steps_75 : decode M_x_steps.2.1 75 = .ok (.invokevirtual 171, 3) := by decide +kernel
theorem D_x_steps_78 : decode M_x_steps.2.1 78 = .ok (.istore 9, 2) := by decide +kernel
theorem D_x_steps_80 : decode M_x_steps.2.1 80 = .ok (.iload 9, 2) := by decide +kernel
theorem D_x_steps_82 : decode M_x_steps.2.1 82 = .ok (.iconst (-1), 1) := by decide +kernel
theorem D_x_steps_83 : decode M_x_steps.2.1 83 = .ok (.if_icmp .eq 9, 3) := by decide +kernel
theorem D_x_steps_86 : decode M_x_steps.2.1 86 = .ok (.iload 9, 2) := by decide +kernel
theorem D_x_steps_88 : decode M_x_steps.2.1 88 = .ok (.iload_n 1, 1) := by decide +kernel
theorem D_x_steps_89 : decode M_x_steps.2.1 89 = .ok (.if_icmp .ne 7, 3) := by decide +kernel
theorem D_x_steps_92 : decode M_x_steps.2.1 92 = .ok (.iconst 1, 1) := by decide +kernel
theorem D_x_steps_93 : decode M_x_steps.2.1 93 = .ok (.goto 4, 3) := by decide +kernel
theorem D_x_steps_96 : decode M_x_steps.2.1 96 = .ok (.iconst 0, 1) := by decide +kernel
theorem D_x_steps_97 : decode M_x_steps.2.1 97 = .ok (.istore 10, 2) := by decide +kernel
theorem D_x_steps_99 : decode M_x_steps.2.1 99 = .ok (.iload 10, 2) := by decide +kernel
theorem D_x_steps_101 : decode M_x_steps.2.1 101 = .ok (.ifCond .eq 49, 3) := by decide +kernel
theorem D_x_steps_104 : decode M_x_steps.2.1 104 = .ok (.aload_n 0, 1) := by decide +kernel
theorem D_x_steps_105 : decode M_x_steps.2.1 105 = .ok (.iload 8, 2) := by decide +kernel
theorem D_x_steps_107 : decode M_x_steps.2.1 107 = .ok (.iload_n 3, 1) := by decide +kernel
theorem D_x_steps_108 : decode M_x_steps.2.1 108 = .ok (.invokevirtual 196, 3) := by decide +kernel
theorem D_x_steps_111 : decode M_x_steps.2.1 111 = .ok (.iload_n 2, 1) := by decide +kernel
theorem D_x_steps_112 : decode M_x_steps.2.1 112 = .ok (.if_icmp .ne 38, 3) := by decide +kernel
theorem D_x_steps_115 : decode M_x_steps.2.1 115 = .ok (.aload_n 0, 1) := by decide +kernel
theorem D_x_steps_116 : decode M_x_steps.2.1 116 = .ok (.getfield 19, 3) := by decide +kernel
theorem D_x_steps_119 : decode M_x_steps.2.1 119 = .ok (.iload 5, 2) := by decide +kernel
theorem D_x_steps_121 : decode M_x_steps.2.1 121 = .ok (.iload 8, 2) := by decide +kernel
theorem D_x_steps_123 : decode M_x_steps.2.1 123 = .ok (.invokevirtual 209, 3) := by decide +kernel
theorem D_x_steps_126 : decode M_x_steps.2.1 126 = .ok (.istore 11, 2) := by decide +kernel
theorem D_x_steps_128 : decode M_x_steps.2.1 128 = .ok (.iload 6, 2) := by decide +kernel
theorem D_x_steps_130 : decode M_x_steps.2.1 130 = .ok (.bipush (-9), 2) := by decide +kernel
theorem D_x_steps_132 : decode M_x_steps.2.1 132 = .ok (.if_icmp .eq 10, 3) := by decide +kernel
theorem D_x_steps_135 : decode M_x_steps.2.1 135 = .ok (.iload 11, 2) := by decide +kernel
theorem D_x_steps_137 : decode M_x_steps.2.1 137 = .ok (.iload 6, 2) := by decide +kernel
theorem D_x_steps_139 : decode M_x_steps.2.1 139 = .ok (.if_icmp .ge 11, 3) := by decide +kernel
theorem D_x_steps_142 : decode M_x_steps.2.1 142 = .ok (.iload 11, 2) := by decide +kernel
theorem D_x_steps_144 : decode M_x_steps.2.1 144 = .ok (.istore 6, 2) := by decide +kernel
theorem D_x_steps_146 : decode M_x_steps.2.1 146 = .ok (.iload 8, 2) := by decide +kernel
theorem D_x_steps_148 : decode M_x_steps.2.1 148 = .ok (.istore 7, 2) := by decide +kernel
theorem D_x_steps_150 : decode M_x_steps.2.1 150 = .ok (.iinc 8 1, 3) := by decide +kernel
theorem D_x_steps_153 : decode M_x_steps.2.1 153 = .ok (.goto (-93), 3) := by decide +kernel
theorem D_x_steps_156 : decode M_x_steps.2.1 156 = .ok (.iload 4, 2) := by decide +kernel
theorem D_x_steps_158 : decode M_x_steps.2.1 158 = .ok (.ifCond .ne 8, 3) := by decide +kernel
theorem D_x_steps_161 : decode M_x_steps.2.1 161 = .ok (.iload 6, 2) := by decide +kernel
theorem D_x_steps_163 : decode M_x_steps.2.1 163 = .ok (.goto 5, 3) := by decide +kernel
theorem D_x_steps_166 : decode M_x_steps.2.1 166 = .ok (.iload 7, 2) := by decide +kernel
theorem D_x_steps_168 : decode M_x_steps.2.1 168 = .ok (.ireturn, 1) := by decide +kernel
theorem D_x_chair_0 : decode M_x_chair.2.1 0 = .ok (.iload_n 1, 1) := by decide +kernel
theorem D_x_chair_1 : decode M_x_chair.2.1 1 = .ok (.invokestatic 199, 3) := by decide +kernel
theorem D_x_chair_4 : decode M_x_chair.2.1 4 = .ok (.ifCond .eq 12, 3) := by decide +kernel
theorem D_x_chair_7 : decode M_x_chair.2.1 7 = .ok (.iload_n 2, 1) := by decide +kernel
theorem D_x_chair_8 : decode M_x_chair.2.1 8 = .ok (.iconst 0, 1) := by decide +kernel
theorem D_x_chair_9 : decode M_x_chair.2.1 9 = .ok (.iconst 1, 1) := by decide +kernel
theorem D_x_chair_10 : decode M_x_chair.2.1 10 = .ok (.invokestatic 99, 3) := by decide +kernel
theorem D_x_chair_13 : decode M_x_chair.2.1 13 = .ok (.ifCond .ne 5, 3) := by decide +kernel
theorem D_x_chair_16 : decode M_x_chair.2.1 16 = .ok (.iconst (-1), 1) := by decide +kernel
theorem D_x_chair_17 : decode M_x_chair.2.1 17 = .ok (.ireturn, 1) := by decide +kernel
theorem D_x_chair_18 : decode M_x_chair.2.1 18 = .ok (.bipush (-9), 2) := by decide +kernel
theorem D_x_chair_20 : decode M_x_chair.2.1 20 = .ok (.istore_n 3, 1) := by decide +kernel
theorem D_x_chair_21 : decode M_x_chair.2.1 21 = .ok (.bipush (-9), 2) := by decide +kernel
theorem D_x_chair_23 : decode M_x_chair.2.1 23 = .ok (.istore 4, 2) := by decide +kernel
theorem D_x_chair_25 : decode M_x_chair.2.1 25 = .ok (.iconst 0, 1) := by decide +kernel
theorem D_x_chair_26 : decode M_x_chair.2.1 26 = .ok (.istore 5, 2) := by decide +kernel
theorem D_x_chair_28 : decode M_x_chair.2.1 28 = .ok (.iload 5, 2) := by decide +kernel
theorem D_x_chair_30 : decode M_x_chair.2.1 30 = .ok (.aload_n 0, 1) := by decide +kernel
theorem D_x_chair_31 : decode M_x_chair.2.1 31 = .ok (.getfield 19, 3) := by decide +kernel
theorem D_x_chair_34 : decode M_x_chair.2.1 34 = .ok (.getfield 155, 3) := by decide +kernel
theorem D_x_chair_37 : decode M_x_chair.2.1 37 = .ok (.if_icmp .ge 40, 3) := by decide +kernel
theorem D_x_chair_40 : decode M_x_chair.2.1 40 = .ok (.aload_n 0, 1) := by decide +kernel
theorem D_x_chair_41 : decode M_x_chair.2.1 41 = .ok (.iload 5, 2) := by decide +kernel
theorem D_x_chair_43 : decode M_x_chair.2.1 43 = .ok (.iload_n 1, 1) := by decide +kernel
theorem D_x_chair_44 : decode M_x_chair.2.1 44 = .ok (.bipush 60, 2) := by decide +kernel
theorem D_x_chair_46 : decode M_x_chair.2.1 46 = .ok (.invokevirtual 202, 3) := by decide +kernel
theorem D_x_chair_49 : decode M_x_chair.2.1 49 = .ok (.istore 6, 2) := by decide +kernel
theorem D_x_chair_51 : decode M_x_chair.2.1 51 = .ok (.iload_n 3, 1) := by decide +kernel
theorem D_x_chair_52 : decode M_x_chair.2.1 52 = .ok (.bipush (-9), 2) := by decide +kernel
theorem D_x_chair_54 : decode M_x_chair.2.1 54 = .ok (.if_icmp .eq 10, 3) := by decide +kernel
theorem D_x_chair_57 : decode M_x_chair.2.1 57 = .ok (.iload 6, 2) := by decide +kernel
theorem D_x_chair_59 : decode M_x_chair.2.1 59 = .ok (.iload 4, 2) := by decide +kernel
theorem D_x_chair_61 : decode M_x_chair.2.1 61 = .ok (.if_icmp .le 10, 3) := by decide +kernel
theorem D_x_chair_64 : decode M_x_chair.2.1 64 = .ok (.iload 5, 2) := by decide +kernel
theorem D_x_chair_66 : decode M_x_chair.2.1 66 = .ok (.istore_n 3, 1) := by decide +kernel
theorem D_x_chair_67 : decode M_x_chair.2.1 67 = .ok (.iload 6, 2) := by decide +kernel
theorem D_x_chair_69 : decode M_x_chair.2.1 69 = .ok (.istore 4, 2) := by decide +kernel
theorem D_x_chair_71 : decode M_x_chair.2.1 71 = .ok (.iinc 5 1, 3) := by decide +kernel
theorem D_x_chair_74 : decode M_x_chair.2.1 74 = .ok (.goto (-46), 3) := by decide +kernel
theorem D_x_chair_77 : decode M_x_chair.2.1 77 = .ok (.iload_n 2, 1) := by decide +kernel
theorem D_x_chair_78 : decode M_x_chair.2.1 78 = .ok (.ifCond .ne 7, 3) := by decide +kernel
theorem D_x_chair_81 : decode M_x_chair.2.1 81 = .ok (.iload_n 3, 1) := by decide +kernel
theorem D_x_chair_82 : decode M_x_chair.2.1 82 = .ok (.goto 5, 3) := by decide +kernel
theorem D_x_chair_85 : decode M_x_chair.2.1 85 = .ok (.iload 4, 2) := by decide +kernel
theorem D_x_chair_87 : decode M_x_chair.2.1 87 = .ok (.ireturn, 1) := by decide +kernel
theorem D_x_seats_0 : decode M_x_seats.2.1 0 = .ok (.iload_n 1, 1) := by decide +kernel
theorem D_x_seats_1 : decode M_x_seats.2.1 1 = .ok (.invokestatic 152, 3) := by decide +kernel
theorem D_x_seats_4 : decode M_x_seats.2.1 4 = .ok (.ifCond .eq 19, 3) := by decide +kernel
theorem D_x_seats_7 : decode M_x_seats.2.1 7 = .ok (.iload_n 2, 1) := by decide +kernel
theorem D_x_seats_8 : decode M_x_seats.2.1 8 = .ok (.iconst (-1), 1) := by decide +kernel
theorem D_x_seats_9 : decode M_x_seats.2.1 9 = .ok (.if_icmp .eq 16, 3) := by decide +kernel
theorem D_x_seats_12 : decode M_x_seats.2.1 12 = .ok (.aload_n 0, 1) := by decide +kernel
theorem D_x_seats_13 : decode M_x_seats.2.1 13 = .ok (.getfield 19, 3) := by decide +kernel
theorem D_x_seats_16 : decode M_x_seats.2.1 16 = .ok (.iload_n 2, 1) := by decide +kernel
theorem D_x_seats_17 : decode M_x_seats.2.1 17 = .ok (.invokevirtual 128, 3) := by decide +kernel
theorem D_x_seats_20 : decode M_x_seats.2.1 20 = .ok (.ifCond .ne 5, 3) := by decide +kernel
theorem D_x_seats_23 : decode M_x_seats.2.1 23 = .ok (.iconst (-1), 1) := by decide +kernel
theorem D_x_seats_24 : decode M_x_seats.2.1 24 = .ok (.ireturn, 1) := by decide +kernel
theorem D_x_seats_25 : decode M_x_seats.2.1 25 = .ok (.aload_n 0, 1) := by decide +kernel
theorem D_x_seats_26 : decode M_x_seats.2.1 26 = .ok (.getfield 19, 3) := by decide +kernel
theorem D_x_seats_29 : decode M_x_seats.2.1 29 = .ok (.getfield 155, 3) := by decide +kernel
theorem D_x_seats_32 : decode M_x_seats.2.1 32 = .ok (.ifCond .ne 6, 3) := by decide +kernel
theorem D_x_seats_35 : decode M_x_seats.2.1 35 = .ok (.bipush (-2), 2) := by decide +kernel
theorem D_x_seats_37 : decode M_x_seats.2.1 37 = .ok (.ireturn, 1) := by decide +kernel
theorem D_x_seats_38 : decode M_x_seats.2.1 38 = .ok (.aload_n 0, 1) := by decide +kernel
theorem D_x_seats_39 : decode M_x_seats.2.1 39 = .ok (.iload_n 1, 1) := by decide +kernel
theorem D_x_seats_40 : decode M_x_seats.2.1 40 = .ok (.invokevirtual 212, 3) := by decide +kernel
theorem D_x_seats_43 : decode M_x_seats.2.1 43 = .ok (.istore_n 3, 1) := by decide +kernel
theorem D_x_seats_44 : decode M_x_seats.2.1 44 = .ok (.iload_n 2, 1) := by decide +kernel
theorem D_x_seats_45 : decode M_x_seats.2.1 45 = .ok (.iconst (-1), 1) := by decide +kernel
theorem D_x_seats_46 : decode M_x_seats.2.1 46 = .ok (.if_icmp .ne 7, 3) := by decide +kernel
theorem D_x_seats_49 : decode M_x_seats.2.1 49 = .ok (.iload_n 3, 1) := by decide +kernel
theorem D_x_seats_50 : decode M_x_seats.2.1 50 = .ok (.goto 9, 3) := by decide +kernel
theorem D_x_seats_53 : decode M_x_seats.2.1 53 = .ok (.aload_n 0, 1) := by decide +kernel
theorem D_x_seats_54 : decode M_x_seats.2.1 54 = .ok (.getfield 96, 3) := by decide +kernel
theorem D_x_seats_57 : decode M_x_seats.2.1 57 = .ok (.iload_n 2, 1) := by decide +kernel
theorem D_x_seats_58 : decode M_x_seats.2.1 58 = .ok (.iaload, 1) := by decide +kernel
theorem D_x_seats_59 : decode M_x_seats.2.1 59 = .ok (.ireturn, 1) := by decide +kernel
theorem D_x_odds_0 : decode M_x_odds.2.1 0 = .ok (.aload_n 0, 1) := by decide +kernel
theorem D_x_odds_1 : decode M_x_odds.2.1 1 = .ok (.getfield 19, 3) := by decide +kernel
theorem D_x_odds_4 : decode M_x_odds.2.1 4 = .ok (.iload_n 1, 1) := by decide +kernel
theorem D_x_odds_5 : decode M_x_odds.2.1 5 = .ok (.invokevirtual 122, 3) := by decide +kernel
theorem D_x_odds_8 : decode M_x_odds.2.1 8 = .ok (.ifCond .eq 38, 3) := by decide +kernel
theorem D_x_odds_11 : decode M_x_odds.2.1 11 = .ok (.iload_n 2, 1) := by decide +kernel
theorem D_x_odds_12 : decode M_x_odds.2.1 12 = .ok (.invokestatic 199, 3) := by decide +kernel
theorem D_x_odds_15 : decode M_x_odds.2.1 15 = .ok (.ifCond .eq 31, 3) := by decide +kernel
theorem D_x_odds_18 : decode M_x_odds.2.1 18 = .ok (.iload_n 3, 1) := by decide +kernel
theorem D_x_odds_19 : decode M_x_odds.2.1 19 = .ok (.invokestatic 152, 3) := by decide +kernel
theorem D_x_odds_22 : decode M_x_odds.2.1 22 = .ok (.ifCond .eq 24, 3) := by decide +kernel
theorem D_x_odds_25 : decode M_x_odds.2.1 25 = .ok (.iload 4, 2) := by decide +kernel
theorem D_x_odds_27 : decode M_x_odds.2.1 27 = .ok (.iconst 0, 1) := by decide +kernel
theorem D_x_odds_28 : decode M_x_odds.2.1 28 = .ok (.bipush 10, 2) := by decide +kernel
theorem D_x_odds_30 : decode M_x_odds.2.1 30 = .ok (.invokestatic 99, 3) := by decide +kernel
theorem D_x_odds_33 : decode M_x_odds.2.1 33 = .ok (.ifCond .eq 13, 3) := by decide +kernel
theorem D_x_odds_36 : decode M_x_odds.2.1 36 = .ok (.iload 5, 2) := by decide +kernel
theorem D_x_odds_38 : decode M_x_odds.2.1 38 = .ok (.iconst 0, 1) := by decide +kernel
theorem D_x_odds_39 : decode M_x_odds.2.1 39 = .ok (.iconst 1, 1) := by decide +kernel
theorem D_x_odds_40 : decode M_x_odds.2.1 40 = .ok (.invokestatic 99, 3) := by decide +kernel
theorem D_x_odds_43 : decode M_x_odds.2.1 43 = .ok (.ifCond .ne 5, 3) := by decide +kernel
theorem D_x_odds_46 : decode M_x_odds.2.1 46 = .ok (.iconst (-1), 1) := by decide +kernel
theorem D_x_odds_47 : decode M_x_odds.2.1 47 = .ok (.ireturn, 1) := by decide +kernel
theorem D_x_odds_48 : decode M_x_odds.2.1 48 = .ok (.bipush 10, 2) := by decide +kernel
theorem D_x_odds_50 : decode M_x_odds.2.1 50 = .ok (.iload 4, 2) := by decide +kernel
theorem D_x_odds_52 : decode M_x_odds.2.1 52 = .ok (.isub, 1) := by decide +kernel
theorem D_x_odds_53 : decode M_x_odds.2.1 53 = .ok (.aload_n 0, 1) := by decide +kernel
theorem D_x_odds_54 : decode M_x_odds.2.1 54 = .ok (.iload_n 1, 1) := by decide +kernel
theorem D_x_odds_55 : decode M_x_odds.2.1 55 = .ok (.iload_n 2, 1) := by decide +kernel
theorem D_x_odds_56 : decode M_x_odds.2.1 56 = .ok (.iload_n 3, 1) := by decide +kernel
theorem D_x_odds_57 : decode M_x_odds.2.1 57 = .ok (.invokevirtual 202, 3) := by decide +kernel
theorem D_x_odds_60 : decode M_x_odds.2.1 60 = .ok (.imul, 1) := by decide +kernel
theorem D_x_odds_61 : decode M_x_odds.2.1 61 = .ok (.istore 6, 2) := by decide +kernel
theorem D_x_odds_63 : decode M_x_odds.2.1 63 = .ok (.iload_n 2, 1) := by decide +kernel
theorem D_x_odds_64 : decode M_x_odds.2.1 64 = .ok (.ifCond .ne 10, 3) := by decide +kernel
theorem D_x_odds_67 : decode M_x_odds.2.1 67 = .ok (.iload 4, 2) := by decide +kernel
theorem D_x_odds_69 : decode M_x_odds.2.1 69 = .ok (.iload_n 3, 1) := by decide +kernel
theorem D_x_odds_70 : decode M_x_odds.2.1 70 = .ok (.imul, 1) := by decide +kernel
theorem D_x_odds_71 : decode M_x_odds.2.1 71 = .ok (.goto 4, 3) := by decide +kernel
theorem D_x_odds_74 : decode M_x_odds.2.1 74 = .ok (.iconst 0, 1) := by decide +kernel
theorem D_x_odds_75 : decode M_x_odds.2.1 75 = .ok (.istore 7, 2) := by decide +kernel
theorem D_x_odds_77 : decode M_x_odds.2.1 77 = .ok (.iload 6, 2) := by decide +kernel
theorem D_x_odds_79 : decode M_x_odds.2.1 79 = .ok (.iload 7, 2) := by decide +kernel
theorem D_x_odds_81 : decode M_x_odds.2.1 81 = .ok (.iadd, 1) := by decide +kernel
theorem D_x_odds_82 : decode M_x_odds.2.1 82 = .ok (.istore 8, 2) := by decide +kernel
theorem D_x_odds_84 : decode M_x_odds.2.1 84 = .ok (.bipush 10, 2) := by decide +kernel
theorem D_x_odds_86 : decode M_x_odds.2.1 86 = .ok (.iload_n 3, 1) := by decide +kernel
theorem D_x_odds_87 : decode M_x_odds.2.1 87 = .ok (.imul, 1) := by decide +kernel
theorem D_x_odds_88 : decode M_x_odds.2.1 88 = .ok (.istore 9, 2) := by decide +kernel
theorem D_x_odds_90 : decode M_x_odds.2.1 90 = .ok (.iload 9, 2) := by decide +kernel
theorem D_x_odds_92 : decode M_x_odds.2.1 92 = .ok (.iload 8, 2) := by decide +kernel
theorem D_x_odds_94 : decode M_x_odds.2.1 94 = .ok (.invokestatic 215, 3) := by decide +kernel
theorem D_x_odds_97 : decode M_x_odds.2.1 97 = .ok (.istore 10, 2) := by decide +kernel
theorem D_x_odds_99 : decode M_x_odds.2.1 99 = .ok (.iload 10, 2) := by decide +kernel
theorem D_x_odds_101 : decode M_x_odds.2.1 101 = .ok (.ifCond .ne 5, 3) := by decide +kernel
theorem D_x_odds_104 : decode M_x_odds.2.1 104 = .ok (.iconst (-1), 1) := by decide +kernel
theorem D_x_odds_105 : decode M_x_odds.2.1 105 = .ok (.ireturn, 1) := by decide +kernel
theorem D_x_odds_106 : decode M_x_odds.2.1 106 = .ok (.iload 5, 2) := by decide +kernel
theorem D_x_odds_108 : decode M_x_odds.2.1 108 = .ok (.ifCond .ne 11, 3) := by decide +kernel
theorem D_x_odds_111 : decode M_x_odds.2.1 111 = .ok (.iload 8, 2) := by decide +kernel
theorem D_x_odds_113 : decode M_x_odds.2.1 113 = .ok (.iload 10, 2) := by decide +kernel
theorem D_x_odds_115 : decode M_x_odds.2.1 115 = .ok (.idiv, 1) := by decide +kernel
theorem D_x_odds_116 : decode M_x_odds.2.1 116 = .ok (.goto 8, 3) := by decide +kernel
theorem D_x_odds_119 : decode M_x_odds.2.1 119 = .ok (.iload 9, 2) := by decide +kernel
theorem D_x_odds_121 : decode M_x_odds.2.1 121 = .ok (.iload 10, 2) := by decide +kernel
theorem D_x_odds_123 : decode M_x_odds.2.1 123 = .ok (.idiv, 1) := by decide +kernel
theorem D_x_odds_124 : decode M_x_odds.2.1 124 = .ok (.ireturn, 1) := by decide +kernel
theorem D_x_saw_0 : decode M_x_saw.2.1 0 = .ok (.aload_n 0, 1) := by decide +kernel
theorem D_x_saw_1 : decode M_x_saw.2.1 1 = .ok (.getfield 19, 3) := by decide +kernel
theorem D_x_saw_4 : decode M_x_saw.2.1 4 = .ok (.iload_n 1, 1) := by decide +kernel
theorem D_x_saw_5 : decode M_x_saw.2.1 5 = .ok (.invokevirtual 122, 3) := by decide +kernel
theorem D_x_saw_8 : decode M_x_saw.2.1 8 = .ok (.ifCond .eq 10, 3) := by decide +kernel
theorem D_x_saw_11 : decode M_x_saw.2.1 11 = .ok (.iload_n 2, 1) := by decide +kernel
theorem D_x_saw_12 : decode M_x_saw.2.1 12 = .ok (.invokestatic 199, 3) := by decide +kernel
theorem D_x_saw_15 : decode M_x_saw.2.1 15 = .ok (.ifCond .ne 5, 3) := by decide +kernel
theorem D_x_saw_18 : decode M_x_saw.2.1 18 = .ok (.iconst (-1), 1) := by decide +kernel
theorem D_x_saw_19 : decode M_x_saw.2.1 19 = .ok (.ireturn, 1) := by decide +kernel
theorem D_x_saw_20 : decode M_x_saw.2.1 20 = .ok (.aload_n 0, 1) := by decide +kernel
theorem D_x_saw_21 : decode M_x_saw.2.1 21 = .ok (.getfield 44, 3) := by decide +kernel
theorem D_x_saw_24 : decode M_x_saw.2.1 24 = .ok (.iload_n 1, 1) := by decide +kernel
theorem D_x_saw_25 : decode M_x_saw.2.1 25 = .ok (.iload_n 2, 1) := by decide +kernel
theorem D_x_saw_26 : decode M_x_saw.2.1 26 = .ok (.invokevirtual 218, 3) := by decide +kernel
theorem D_x_saw_29 : decode M_x_saw.2.1 29 = .ok (.ifCond .eq 13, 3) := by decide +kernel
theorem D_x_saw_32 : decode M_x_saw.2.1 32 = .ok (.aload_n 0, 1) := by decide +kernel
theorem D_x_saw_33 : decode M_x_saw.2.1 33 = .ok (.getfield 44, 3) := by decide +kernel
theorem D_x_saw_36 : decode M_x_saw.2.1 36 = .ok (.getfield 119, 3) := by decide +kernel
theorem D_x_saw_39 : decode M_x_saw.2.1 39 = .ok (.goto 5, 3) := by decide +kernel
theorem D_x_saw_42 : decode M_x_saw.2.1 42 = .ok (.bipush (-3), 2) := by decide +kernel
theorem D_x_saw_44 : decode M_x_saw.2.1 44 = .ok (.ireturn, 1) := by decide +kernel
theorem D_x_spun_0 : decode M_x_spun.2.1 0 = .ok (.iload_n 1, 1) := by decide +kernel
theorem D_x_spun_1 : decode M_x_spun.2.1 1 = .ok (.iconst 0, 1) := by decide +kernel
theorem D_x_spun_2 : decode M_x_spun.2.1 2 = .ok (.iconst 2, 1) := by decide +kernel
theorem D_x_spun_3 : decode M_x_spun.2.1 3 = .ok (.invokestatic 99, 3) := by decide +kernel
theorem D_x_spun_6 : decode M_x_spun.2.1 6 = .ok (.ifCond .ne 5, 3) := by decide +kernel
theorem D_x_spun_9 : decode M_x_spun.2.1 9 = .ok (.iconst (-1), 1) := by decide +kernel
theorem D_x_spun_10 : decode M_x_spun.2.1 10 = .ok (.ireturn, 1) := by decide +kernel
theorem D_x_spun_11 : decode M_x_spun.2.1 11 = .ok (.iconst 0, 1) := by decide +kernel
theorem D_x_spun_12 : decode M_x_spun.2.1 12 = .ok (.istore_n 2, 1) := by decide +kernel
theorem D_x_spun_13 : decode M_x_spun.2.1 13 = .ok (.bipush (-9), 2) := by decide +kernel
theorem D_x_spun_15 : decode M_x_spun.2.1 15 = .ok (.istore_n 3, 1) := by decide +kernel
theorem D_x_spun_16 : decode M_x_spun.2.1 16 = .ok (.bipush (-9), 2) := by decide +kernel
theorem D_x_spun_18 : decode M_x_spun.2.1 18 = .ok (.istore 4, 2) := by decide +kernel
theorem D_x_spun_20 : decode M_x_spun.2.1 20 = .ok (.iconst 1, 1) := by decide +kernel
theorem D_x_spun_21 : decode M_x_spun.2.1 21 = .ok (.istore 5, 2) := by decide +kernel
theorem D_x_spun_23 : decode M_x_spun.2.1 23 = .ok (.iload 5, 2) := by decide +kernel
theorem D_x_spun_25 : decode M_x_spun.2.1 25 = .ok (.bipush 60, 2) := by decide +kernel
theorem D_x_spun_27 : decode M_x_spun.2.1 27 = .ok (.if_icmp .gt 38, 3) := by decide +kernel
theorem D_x_spun_30 : decode M_x_spun.2.1 30 = .ok (.aload_n 0, 1) := by decide +kernel
theorem D_x_spun_31 : decode M_x_spun.2.1 31 = .ok (.iload 5, 2) := by decide +kernel
theorem D_x_spun_33 : decode M_x_spun.2.1 33 = .ok (.invokevirtual 220, 3) := by decide +kernel
theorem D_x_spun_36 : decode M_x_spun.2.1 36 = .ok (.ifCond .eq 23, 3) := by decide +kernel
theorem D_x_spun_39 : decode M_x_spun.2.1 39 = .ok (.iinc 2 1, 3) := by decide +kernel
theorem D_x_spun_42 : decode M_x_spun.2.1 42 = .ok (.iload_n 3, 1) := by decide +kernel
theorem D_x_spun_43 : decode M_x_spun.2.1 43 = .ok (.bipush (-9), 2) := by decide +kernel
theorem D_x_spun_45 : decode M_x_spun.2.1 45 = .ok (.if_icmp .ne 8, 3) := by decide +kernel
theorem D_x_spun_48 : decode M_x_spun.2.1 48 = .ok (.iload 5, 2) := by decide +kernel
theorem D_x_spun_50 : decode M_x_spun.2.1 50 = .ok (.goto 4, 3) := by decide +kernel
theorem D_x_spun_53 : decode M_x_spun.2.1 53 = .ok (.iload_n 3, 1) := by decide +kernel
theorem D_x_spun_54 : decode M_x_spun.2.1 54 = .ok (.istore_n 3, 1) := by decide +kernel
theorem D_x_spun_55 : decode M_x_spun.2.1 55 = .ok (.iload 5, 2) := by decide +kernel
theorem D_x_spun_57 : decode M_x_spun.2.1 57 = .ok (.istore 4, 2) := by decide +kernel
theorem D_x_spun_59 : decode M_x_spun.2.1 59 = .ok (.iinc 5 1, 3) := by decide +kernel
theorem D_x_spun_62 : decode M_x_spun.2.1 62 = .ok (.goto (-39), 3) := by decide +kernel
theorem D_x_spun_65 : decode M_x_spun.2.1 65 = .ok (.iload_n 1, 1) := by decide +kernel
theorem D_x_spun_66 : decode M_x_spun.2.1 66 = .ok (.ifCond .ne 5, 3) := by decide +kernel
theorem D_x_spun_69 : decode M_x_spun.2.1 69 = .ok (.iload_n 2, 1) := by decide +kernel
theorem D_x_spun_70 : decode M_x_spun.2.1 70 = .ok (.ireturn, 1) := by decide +kernel
theorem D_x_spun_71 : decode M_x_spun.2.1 71 = .ok (.iload_n 1, 1) := by decide +kernel
theorem D_x_spun_72 : decode M_x_spun.2.1 72 = .ok (.iconst 1, 1) := by decide +kernel
theorem D_x_spun_73 : decode M_x_spun.2.1 73 = .ok (.if_icmp .ne 7, 3) := by decide +kernel
theorem D_x_spun_76 : decode M_x_spun.2.1 76 = .ok (.iload_n 3, 1) := by decide +kernel
theorem D_x_spun_77 : decode M_x_spun.2.1 77 = .ok (.goto 5, 3) := by decide +kernel
theorem D_x_spun_80 : decode M_x_spun.2.1 80 = .ok (.iload 4, 2) := by decide +kernel
theorem D_x_spun_82 : decode M_x_spun.2.1 82 = .ok (.ireturn, 1) := by decide +kernel
theorem D_x_look_0 : decode M_x_look.2.1 0 = .ok (.aload_n 0, 1) := by decide +kernel
theorem D_x_look_1 : decode M_x_look.2.1 1 = .ok (.invokevirtual 223, 3) := by decide +kernel
theorem D_x_look_4 : decode M_x_look.2.1 4 = .ok (.lstore_n 1, 1) := by decide +kernel
theorem D_x_look_5 : decode M_x_look.2.1 5 = .ok (.lload_n 1, 1) := by decide +kernel
theorem D_x_look_6 : decode M_x_look.2.1 6 = .ok (.lconst 0, 1) := by decide +kernel
theorem D_x_look_7 : decode M_x_look.2.1 7 = .ok (.lcmp, 1) := by decide +kernel
theorem D_x_look_8 : decode M_x_look.2.1 8 = .ok (.ifCond .ne 6, 3) := by decide +kernel
theorem D_x_look_11 : decode M_x_look.2.1 11 = .ok (.bipush (-9), 2) := by decide +kernel
theorem D_x_look_13 : decode M_x_look.2.1 13 = .ok (.ireturn, 1) := by decide +kernel
theorem D_x_look_14 : decode M_x_look.2.1 14 = .ok (.bipush (-9), 2) := by decide +kernel
theorem D_x_look_16 : decode M_x_look.2.1 16 = .ok (.istore_n 3, 1) := by decide +kernel
theorem D_x_look_17 : decode M_x_look.2.1 17 = .ok (.bipush (-9), 2) := by decide +kernel
theorem D_x_look_19 : decode M_x_look.2.1 19 = .ok (.istore 4, 2) := by decide +kernel
theorem D_x_look_21 : decode M_x_look.2.1 21 = .ok (.iconst 0, 1) := by decide +kernel
theorem D_x_look_22 : decode M_x_look.2.1 22 = .ok (.istore 5, 2) := by decide +kernel
theorem D_x_look_24 : decode M_x_look.2.1 24 = .ok (.iload 5, 2) := by decide +kernel
theorem D_x_look_26 : decode M_x_look.2.1 26 = .ok (.aload_n 0, 1) := by decide +kernel
theorem D_x_look_27 : decode M_x_look.2.1 27 = .ok (.getfield 19, 3) := by decide +kernel
theorem D_x_look_30 : decode M_x_look.2.1 30 = .ok (.getfield 155, 3) := by decide +kernel
theorem D_x_look_33 : decode M_x_look.2.1 33 = .ok (.if_icmp .ge 38, 3) := by decide +kernel
theorem D_x_look_36 : decode M_x_look.2.1 36 = .ok (.aload_n 0, 1) := by decide +kernel
theorem D_x_look_37 : decode M_x_look.2.1 37 = .ok (.iload 5, 2) := by decide +kernel
theorem D_x_look_39 : decode M_x_look.2.1 39 = .ok (.lload_n 1, 1) := by decide +kernel
theorem D_x_look_40 : decode M_x_look.2.1 40 = .ok (.invokevirtual 227, 3) := by decide +kernel
theorem D_x_look_43 : decode M_x_look.2.1 43 = .ok (.istore 6, 2) := by decide +kernel
theorem D_x_look_45 : decode M_x_look.2.1 45 = .ok (.iload_n 3, 1) := by decide +kernel
theorem D_x_look_46 : decode M_x_look.2.1 46 = .ok (.bipush (-9), 2) := by decide +kernel
theorem D_x_look_48 : decode M_x_look.2.1 48 = .ok (.if_icmp .eq 10, 3) := by decide +kernel
theorem D_x_look_51 : decode M_x_look.2.1 51 = .ok (.iload 6, 2) := by decide +kernel
theorem D_x_look_53 : decode M_x_look.2.1 53 = .ok (.iload 4, 2) := by decide +kernel
theorem D_x_look_55 : decode M_x_look.2.1 55 = .ok (.if_icmp .ge 10, 3) := by decide +kernel
theorem D_x_look_58 : decode M_x_look.2.1 58 = .ok (.iload 5, 2) := by decide +kernel
theorem D_x_look_60 : decode M_x_look.2.1 60 = .ok (.istore_n 3, 1) := by decide +kernel
theorem D_x_look_61 : decode M_x_look.2.1 61 = .ok (.iload 6, 2) := by decide +kernel
theorem D_x_look_63 : decode M_x_look.2.1 63 = .ok (.istore 4, 2) := by decide +kernel
theorem D_x_look_65 : decode M_x_look.2.1 65 = .ok (.iinc 5 1, 3) := by decide +kernel
theorem D_x_look_68 : decode M_x_look.2.1 68 = .ok (.goto (-44), 3) := by decide +kernel
theorem D_x_look_71 : decode M_x_look.2.1 71 = .ok (.iload_n 3, 1) := by decide +kernel
theorem D_x_look_72 : decode M_x_look.2.1 72 = .ok (.ireturn, 1) := by decide +kernel
theorem D_x_hears_0 : decode M_x_hears.2.1 0 = .ok (.iload_n 1, 1) := by decide +kernel
theorem D_x_hears_1 : decode M_x_hears.2.1 1 = .ok (.invokestatic 152, 3) := by decide +kernel
theorem D_x_hears_4 : decode M_x_hears.2.1 4 = .ok (.ifCond .eq 14, 3) := by decide +kernel
theorem D_x_hears_7 : decode M_x_hears.2.1 7 = .ok (.iload_n 2, 1) := by decide +kernel
theorem D_x_hears_8 : decode M_x_hears.2.1 8 = .ok (.iconst 0, 1) := by decide +kernel
theorem D_x_hears_9 : decode M_x_hears.2.1 9 = .ok (.sipush 999, 3) := by decide +kernel
theorem D_x_hears_12 : decode M_x_hears.2.1 12 = .ok (.invokestatic 99, 3) := by decide +kernel
theorem D_x_hears_15 : decode M_x_hears.2.1 15 = .ok (.ifCond .ne 5, 3) := by decide +kernel
theorem D_x_hears_18 : decode M_x_hears.2.1 18 = .ok (.iconst (-1), 1) := by decide +kernel
theorem D_x_hears_19 : decode M_x_hears.2.1 19 = .ok (.ireturn, 1) := by decide +kernel
theorem D_x_hears_20 : decode M_x_hears.2.1 20 = .ok (.aload_n 0, 1) := by decide +kernel
theorem D_x_hears_21 : decode M_x_hears.2.1 21 = .ok (.getfield 48, 3) := by decide +kernel
theorem D_x_hears_24 : decode M_x_hears.2.1 24 = .ok (.iload_n 1, 1) := by decide +kernel
theorem D_x_hears_25 : decode M_x_hears.2.1 25 = .ok (.iload_n 2, 1) := by decide +kernel
theorem D_x_hears_26 : decode M_x_hears.2.1 26 = .ok (.invokevirtual 218, 3) := by decide +kernel
theorem D_x_hears_29 : decode M_x_hears.2.1 29 = .ok (.ifCond .eq 13, 3) := by decide +kernel
theorem D_x_hears_32 : decode M_x_hears.2.1 32 = .ok (.aload_n 0, 1) := by decide +kernel
theorem D_x_hears_33 : decode M_x_hears.2.1 33 = .ok (.getfield 48, 3) := by decide +kernel
theorem D_x_hears_36 : decode M_x_hears.2.1 36 = .ok (.getfield 119, 3) := by decide +kernel
theorem D_x_hears_39 : decode M_x_hears.2.1 39 = .ok (.goto 5, 3) := by decide +kernel
theorem D_x_hears_42 : decode M_x_hears.2.1 42 = .ok (.bipush (-3), 2) := by decide +kernel
theorem D_x_hears_44 : decode M_x_hears.2.1 44 = .ok (.ireturn, 1) := by decide +kernel
theorem D_x_laws_0 : decode M_x_laws.2.1 0 = .ok (.iload_n 1, 1) := by decide +kernel
theorem D_x_laws_1 : decode M_x_laws.2.1 1 = .ok (.iconst 0, 1) := by decide +kernel
theorem D_x_laws_2 : decode M_x_laws.2.1 2 = .ok (.iconst 1, 1) := by decide +kernel
theorem D_x_laws_3 : decode M_x_laws.2.1 3 = .ok (.invokestatic 99, 3) := by decide +kernel
theorem D_x_laws_6 : decode M_x_laws.2.1 6 = .ok (.ifCond .ne 5, 3) := by decide +kernel
theorem D_x_laws_9 : decode M_x_laws.2.1 9 = .ok (.iconst (-1), 1) := by decide +kernel
theorem D_x_laws_10 : decode M_x_laws.2.1 10 = .ok (.ireturn, 1) := by decide +kernel
theorem D_x_laws_11 : decode M_x_laws.2.1 11 = .ok (.aload_n 0, 1) := by decide +kernel
theorem D_x_laws_12 : decode M_x_laws.2.1 12 = .ok (.invokevirtual 231, 3) := by decide +kernel
theorem D_x_laws_15 : decode M_x_laws.2.1 15 = .ok (.istore_n 2, 1) := by decide +kernel
theorem D_x_laws_16 : decode M_x_laws.2.1 16 = .ok (.iload_n 1, 1) := by decide +kernel
theorem D_x_laws_17 : decode M_x_laws.2.1 17 = .ok (.ifCond .ne 5, 3) := by decide +kernel
theorem D_x_laws_20 : decode M_x_laws.2.1 20 = .ok (.iload_n 2, 1) := by decide +kernel
theorem D_x_laws_21 : decode M_x_laws.2.1 21 = .ok (.ireturn, 1) := by decide +kernel
theorem D_x_laws_22 : decode M_x_laws.2.1 22 = .ok (.iload_n 2, 1) := by decide +kernel
theorem D_x_laws_23 : decode M_x_laws.2.1 23 = .ok (.ifCond .ne 8, 3) := by decide +kernel
theorem D_x_laws_26 : decode M_x_laws.2.1 26 = .ok (.bipush (-9), 2) := by decide +kernel
theorem D_x_laws_28 : decode M_x_laws.2.1 28 = .ok (.goto 9, 3) := by decide +kernel
theorem D_x_laws_31 : decode M_x_laws.2.1 31 = .ok (.aload_n 0, 1) := by decide +kernel
theorem D_x_laws_32 : decode M_x_laws.2.1 32 = .ok (.getfield 80, 3) := by decide +kernel
theorem D_x_laws_35 : decode M_x_laws.2.1 35 = .ok (.iconst 0, 1) := by decide +kernel
theorem D_x_laws_36 : decode M_x_laws.2.1 36 = .ok (.iaload, 1) := by decide +kernel
theorem D_x_laws_37 : decode M_x_laws.2.1 37 = .ok (.ireturn, 1) := by decide +kernel
theorem D_x_tryNext_0 : decode M_x_tryNext.2.1 0 = .ok (.aload_n 0, 1) := by decide +kernel
theorem D_x_tryNext_1 : decode M_x_tryNext.2.1 1 = .ok (.invokevirtual 231, 3) := by decide +kernel
theorem D_x_tryNext_4 : decode M_x_tryNext.2.1 4 = .ok (.istore_n 1, 1) := by decide +kernel
theorem D_x_tryNext_5 : decode M_x_tryNext.2.1 5 = .ok (.iload_n 1, 1) := by decide +kernel
theorem D_x_tryNext_6 : decode M_x_tryNext.2.1 6 = .ok (.ifCond .ne 6, 3) := by decide +kernel
theorem D_x_tryNext_9 : decode M_x_tryNext.2.1 9 = .ok (.bipush (-9), 2) := by decide +kernel
theorem D_x_tryNext_11 : decode M_x_tryNext.2.1 11 = .ok (.ireturn, 1) := by decide +kernel
theorem D_x_tryNext_12 : decode M_x_tryNext.2.1 12 = .ok (.bipush (-9), 2) := by decide +kernel
theorem D_x_tryNext_14 : decode M_x_tryNext.2.1 14 = .ok (.istore_n 2, 1) := by decide +kernel
theorem D_x_tryNext_15 : decode M_x_tryNext.2.1 15 = .ok (.bipush (-9), 2) := by decide +kernel
theorem D_x_tryNext_17 : decode M_x_tryNext.2.1 17 = .ok (.istore_n 3, 1) := by decide +kernel
theorem D_x_tryNext_18 : decode M_x_tryNext.2.1 18 = .ok (.iconst 1, 1) := by decide +kernel
theorem D_x_tryNext_19 : decode M_x_tryNext.2.1 19 = .ok (.istore 4, 2) := by decide +kernel
theorem D_x_tryNext_21 : decode M_x_tryNext.2.1 21 = .ok (.iload 4, 2) := by decide +kernel
theorem D_x_tryNext_23 : decode M_x_tryNext.2.1 23 = .ok (.bipush 60, 2) := by decide +kernel
theorem D_x_tryNext_25 : decode M_x_tryNext.2.1 25 = .ok (.if_icmp .gt 36, 3) := by decide +kernel
theorem D_x_tryNext_28 : decode M_x_tryNext.2.1 28 = .ok (.aload_n 0, 1) := by decide +kernel
theorem D_x_tryNext_29 : decode M_x_tryNext.2.1 29 = .ok (.iload 4, 2) := by decide +kernel
theorem D_x_tryNext_31 : decode M_x_tryNext.2.1 31 = .ok (.iload_n 1, 1) := by decide +kernel
theorem D_x_tryNext_32 : decode M_x_tryNext.2.1 32 = .ok (.invokevirtual 234, 3) := by decide +kernel
theorem D_x_tryNext_35 : decode M_x_tryNext.2.1 35 = .ok (.istore 5, 2) := by decide +kernel
theorem D_x_tryNext_37 : decode M_x_tryNext.2.1 37 = .ok (.iload_n 2, 1) := by decide +kernel
theorem D_x_tryNext_38 : decode M_x_tryNext.2.1 38 = .ok (.bipush (-9), 2) := by decide +kernel
theorem D_x_tryNext_40 : decode M_x_tryNext.2.1 40 = .ok (.if_icmp .eq 9, 3) := by decide +kernel
theorem D_x_tryNext_43 : decode M_x_tryNext.2.1 43 = .ok (.iload 5, 2) := by decide +kernel
theorem D_x_tryNext_45 : decode M_x_tryNext.2.1 45 = .ok (.iload_n 3, 1) := by decide +kernel
theorem D_x_tryNext_46 : decode M_x_tryNext.2.1 46 = .ok (.if_icmp .ge 9, 3) := by decide +kernel
theorem D_x_tryNext_49 : decode M_x_tryNext.2.1 49 = .ok (.iload 4, 2) := by decide +kernel
theorem D_x_tryNext_51 : decode M_x_tryNext.2.1 51 = .ok (.istore_n 2, 1) := by decide +kernel
theorem D_x_tryNext_52 : decode M_x_tryNext.2.1 52 = .ok (.iload 5, 2) := by decide +kernel
theorem D_x_tryNext_54 : decode M_x_tryNext.2.1 54 = .ok (.istore_n 3, 1) := by decide +kernel
theorem D_x_tryNext_55 : decode M_x_tryNext.2.1 55 = .ok (.iinc 4 1, 3) := by decide +kernel
theorem D_x_tryNext_58 : decode M_x_tryNext.2.1 58 = .ok (.goto (-37), 3) := by decide +kernel
theorem D_x_tryNext_61 : decode M_x_tryNext.2.1 61 = .ok (.iload_n 2, 1) := by decide +kernel
theorem D_x_tryNext_62 : decode M_x_tryNext.2.1 62 = .ok (.ireturn, 1) := by decide +kernel
theorem D_x_forget_0 : decode M_x_forget.2.1 0 = .ok (.aload_n 0, 1) := by decide +kernel
theorem D_x_forget_1 : decode M_x_forget.2.1 1 = .ok (.getfield 44, 3) := by decide +kernel
theorem D_x_forget_4 : decode M_x_forget.2.1 4 = .ok (.getfield 119, 3) := by decide +kernel
theorem D_x_forget_7 : decode M_x_forget.2.1 7 = .ok (.aload_n 0, 1) := by decide +kernel
theorem D_x_forget_8 : decode M_x_forget.2.1 8 = .ok (.getfield 48, 3) := by decide +kernel
theorem D_x_forget_11 : decode M_x_forget.2.1 11 = .ok (.getfield 119, 3) := by decide +kernel
theorem D_x_forget_14 : decode M_x_forget.2.1 14 = .ok (.iadd, 1) := by decide +kernel
theorem D_x_forget_15 : decode M_x_forget.2.1 15 = .ok (.istore_n 1, 1) := by decide +kernel
theorem D_x_forget_16 : decode M_x_forget.2.1 16 = .ok (.aload_n 0, 1) := by decide +kernel
theorem D_x_forget_17 : decode M_x_forget.2.1 17 = .ok (.getfield 44, 3) := by decide +kernel
theorem D_x_forget_20 : decode M_x_forget.2.1 20 = .ok (.iconst 0, 1) := by decide +kernel
theorem D_x_forget_21 : decode M_x_forget.2.1 21 = .ok (.putfield 119, 3) := by decide +kernel
theorem D_x_forget_24 : decode M_x_forget.2.1 24 = .ok (.aload_n 0, 1) := by decide +kernel
theorem D_x_forget_25 : decode M_x_forget.2.1 25 = .ok (.getfield 48, 3) := by decide +kernel
theorem D_x_forget_28 : decode M_x_forget.2.1 28 = .ok (.iconst 0, 1) := by decide +kernel
theorem D_x_forget_29 : decode M_x_forget.2.1 29 = .ok (.putfield 119, 3) := by decide +kernel
theorem D_x_forget_32 : decode M_x_forget.2.1 32 = .ok (.iload_n 1, 1) := by decide +kernel
theorem D_x_forget_33 : decode M_x_forget.2.1 33 = .ok (.ireturn, 1) := by decide +kernel
theorem D_x_mark_0 : decode M_x_mark.2.1 0 = .ok (.iload_n 1, 1) := by decide +kernel
theorem D_x_mark_1 : decode M_x_mark.2.1 1 = .ok (.iconst 0, 1) := by decide +kernel
theorem D_x_mark_2 : decode M_x_mark.2.1 2 = .ok (.aload_n 0, 1) := by decide +kernel
theorem D_x_mark_3 : decode M_x_mark.2.1 3 = .ok (.getfield 76, 3) := by decide +kernel
theorem D_x_mark_6 : decode M_x_mark.2.1 6 = .ok (.arraylength, 1) := by decide +kernel
theorem D_x_mark_7 : decode M_x_mark.2.1 7 = .ok (.iconst 1, 1) := by decide +kernel
theorem D_x_mark_8 : decode M_x_mark.2.1 8 = .ok (.isub, 1) := by decide +kernel
theorem D_x_mark_9 : decode M_x_mark.2.1 9 = .ok (.invokestatic 99, 3) := by decide +kernel
theorem D_x_mark_12 : decode M_x_mark.2.1 12 = .ok (.ifCond .eq 14, 3) := by decide +kernel
theorem D_x_mark_15 : decode M_x_mark.2.1 15 = .ok (.aload_n 0, 1) := by decide +kernel
theorem D_x_mark_16 : decode M_x_mark.2.1 16 = .ok (.getfield 19, 3) := by decide +kernel
theorem D_x_mark_19 : decode M_x_mark.2.1 19 = .ok (.iload_n 2, 1) := by decide +kernel
theorem D_x_mark_20 : decode M_x_mark.2.1 20 = .ok (.invokevirtual 128, 3) := by decide +kernel
theorem D_x_mark_23 : decode M_x_mark.2.1 23 = .ok (.ifCond .ne 6, 3) := by decide +kernel
theorem D_x_mark_26 : decode M_x_mark.2.1 26 = .ok (.ldc 237, 2) := by decide +kernel
theorem D_x_mark_28 : decode M_x_mark.2.1 28 = .ok (.ireturn, 1) := by decide +kernel
theorem D_x_mark_29 : decode M_x_mark.2.1 29 = .ok (.aload_n 0, 1) := by decide +kernel
theorem D_x_mark_30 : decode M_x_mark.2.1 30 = .ok (.getfield 54, 3) := by decide +kernel
theorem D_x_mark_33 : decode M_x_mark.2.1 33 = .ok (.iload_n 2, 1) := by decide +kernel
theorem D_x_mark_34 : decode M_x_mark.2.1 34 = .ok (.putfield 238, 3) := by decide +kernel
theorem D_x_mark_37 : decode M_x_mark.2.1 37 = .ok (.aload_n 0, 1) := by decide +kernel
theorem D_x_mark_38 : decode M_x_mark.2.1 38 = .ok (.getfield 54, 3) := by decide +kernel
theorem D_x_mark_41 : decode M_x_mark.2.1 41 = .ok (.aload_n 0, 1) := by decide +kernel
theorem D_x_mark_42 : decode M_x_mark.2.1 42 = .ok (.getfield 29, 3) := by decide +kernel
theorem D_x_mark_45 : decode M_x_mark.2.1 45 = .ok (.iconst 4, 1) := by decide +kernel
theorem D_x_mark_46 : decode M_x_mark.2.1 46 = .ok (.iload_n 2, 1) := by decide +kernel
theorem D_x_mark_47 : decode M_x_mark.2.1 47 = .ok (.iadd, 1) := by decide +kernel
theorem D_x_mark_48 : decode M_x_mark.2.1 48 = .ok (.invokevirtual 131, 3) := by decide +kernel
theorem D_x_mark_51 : decode M_x_mark.2.1 51 = .ok (.putfield 241, 3) := by decide +kernel
theorem D_x_mark_54 : decode M_x_mark.2.1 54 = .ok (.aload_n 0, 1) := by decide +kernel
theorem D_x_mark_55 : decode M_x_mark.2.1 55 = .ok (.getfield 54, 3) := by decide +kernel
theorem D_x_mark_58 : decode M_x_mark.2.1 58 = .ok (.aload_n 0, 1) := by decide +kernel
theorem D_x_mark_59 : decode M_x_mark.2.1 59 = .ok (.iload_n 2, 1) := by decide +kernel
theorem D_x_mark_60 : decode M_x_mark.2.1 60 = .ok (.invokevirtual 138, 3) := by decide +kernel
theorem D_x_mark_63 : decode M_x_mark.2.1 63 = .ok (.putfield 244, 3) := by decide +kernel
theorem D_x_mark_66 : decode M_x_mark.2.1 66 = .ok (.aload_n 0, 1) := by decide +kernel
theorem D_x_mark_67 : decode M_x_mark.2.1 67 = .ok (.getfield 54, 3) := by decide +kernel
theorem D_x_mark_70 : decode M_x_mark.2.1 70 = .ok (.aload_n 0, 1) := by decide +kernel
theorem D_x_mark_71 : decode M_x_mark.2.1 71 = .ok (.getfield 29, 3) := by decide +kernel
theorem D_x_mark_74 : decode M_x_mark.2.1 74 = .ok (.bipush 10, 2) := by decide +kernel
theorem D_x_mark_76 : decode M_x_mark.2.1 76 = .ok (.iload_n 2, 1) := by decide +kernel
theorem D_x_mark_77 : decode M_x_mark.2.1 77 = .ok (.iadd, 1) := by decide +kernel
theorem D_x_mark_78 : decode M_x_mark.2.1 78 = .ok (.invokevirtual 131, 3) := by decide +kernel
theorem D_x_mark_81 : decode M_x_mark.2.1 81 = .ok (.putfield 247, 3) := by decide +kernel
theorem D_x_mark_84 : decode M_x_mark.2.1 84 = .ok (.aload_n 0, 1) := by decide +kernel
theorem D_x_mark_85 : decode M_x_mark.2.1 85 = .ok (.getfield 54, 3) := by decide +kernel
theorem D_x_mark_88 : decode M_x_mark.2.1 88 = .ok (.aload_n 0, 1) := by decide +kernel
theorem D_x_mark_89 : decode M_x_mark.2.1 89 = .ok (.getfield 29, 3) := by decide +kernel
theorem D_x_mark_92 : decode M_x_mark.2.1 92 = .ok (.iconst 3, 1) := by decide +kernel
theorem D_x_mark_93 : decode M_x_mark.2.1 93 = .ok (.invokevirtual 131, 3) := by decide +kernel
theorem D_x_mark_96 : decode M_x_mark.2.1 96 = .ok (.putfield 250, 3) := by decide +kernel
theorem D_x_mark_99 : decode M_x_mark.2.1 99 = .ok (.aload_n 0, 1) := by decide +kernel
theorem D_x_mark_100 : decode M_x_mark.2.1 100 = .ok (.getfield 76, 3) := by decide +kernel
theorem D_x_mark_103 : decode M_x_mark.2.1 103 = .ok (.iload_n 1, 1) := by decide +kernel
theorem D_x_mark_104 : decode M_x_mark.2.1 104 = .ok (.aaload, 1) := by decide +kernel
theorem D_x_mark_105 : decode M_x_mark.2.1 105 = .ok (.aload_n 0, 1) := by decide +kernel
theorem D_x_mark_106 : decode M_x_mark.2.1 106 = .ok (.getfield 54, 3) := by decide +kernel
theorem D_x_mark_109 : decode M_x_mark.2.1 109 = .ok (.invokevirtual 253, 3) := by decide +kernel
theorem D_x_mark_112 : decode M_x_mark.2.1 112 = .ok (.ireturn, 1) := by decide +kernel
theorem D_x_keep_0 : decode M_x_keep.2.1 0 = .ok (.iload_n 1, 1) := by decide +kernel
theorem D_x_keep_1 : decode M_x_keep.2.1 1 = .ok (.iconst 0, 1) := by decide +kernel
theorem D_x_keep_2 : decode M_x_keep.2.1 2 = .ok (.iconst 1, 1) := by decide +kernel
theorem D_x_keep_3 : decode M_x_keep.2.1 3 = .ok (.invokestatic 99, 3) := by decide +kernel
theorem D_x_keep_6 : decode M_x_keep.2.1 6 = .ok (.ifCond .ne 5, 3) := by decide +kernel
theorem D_x_keep_9 : decode M_x_keep.2.1 9 = .ok (.iconst (-1), 1) := by decide +kernel
theorem D_x_keep_10 : decode M_x_keep.2.1 10 = .ok (.ireturn, 1) := by decide +kernel
theorem D_x_keep_11 : decode M_x_keep.2.1 11 = .ok (.aload_n 0, 1) := by decide +kernel
theorem D_x_keep_12 : decode M_x_keep.2.1 12 = .ok (.getfield 33, 3) := by decide +kernel
theorem D_x_keep_15 : decode M_x_keep.2.1 15 = .ok (.iload_n 1, 1) := by decide +kernel
theorem D_x_keep_16 : decode M_x_keep.2.1 16 = .ok (.aaload, 1) := by decide +kernel
theorem D_x_keep_17 : decode M_x_keep.2.1 17 = .ok (.aload_n 0, 1) := by decide +kernel
theorem D_x_keep_18 : decode M_x_keep.2.1 18 = .ok (.getfield 29, 3) := by decide +kernel
theorem D_x_keep_21 : decode M_x_keep.2.1 21 = .ok (.invokevirtual 257, 3) := by decide +kernel
theorem D_x_keep_24 : decode M_x_keep.2.1 24 = .ok (.aload_n 0, 1) := by decide +kernel
theorem D_x_keep_25 : decode M_x_keep.2.1 25 = .ok (.getfield 37, 3) := by decide +kernel
theorem D_x_keep_28 : decode M_x_keep.2.1 28 = .ok (.iload_n 1, 1) := by decide +kernel
theorem D_x_keep_29 : decode M_x_keep.2.1 29 = .ok (.iconst 1, 1) := by decide +kernel
theorem D_x_keep_30 : decode M_x_keep.2.1 30 = .ok (.bastore, 1) := by decide +kernel
theorem D_x_keep_31 : decode M_x_keep.2.1 31 = .ok (.aload_n 0, 1) := by decide +kernel
theorem D_x_keep_32 : decode M_x_keep.2.1 32 = .ok (.getfield 29, 3) := by decide +kernel
theorem D_x_keep_35 : decode M_x_keep.2.1 35 = .ok (.iconst 3, 1) := by decide +kernel
theorem D_x_keep_36 : decode M_x_keep.2.1 36 = .ok (.invokevirtual 131, 3) := by decide +kernel
theorem D_x_keep_39 : decode M_x_keep.2.1 39 = .ok (.ireturn, 1) := by decide +kernel
theorem D_x_back_0 : decode M_x_back.2.1 0 = .ok (.iload_n 1, 1) := by decide +kernel
theorem D_x_back_1 : decode M_x_back.2.1 1 = .ok (.iconst 0, 1) := by decide +kernel
theorem D_x_back_2 : decode M_x_back.2.1 2 = .ok (.iconst 1, 1) := by decide +kernel
theorem D_x_back_3 : decode M_x_back.2.1 3 = .ok (.invokestatic 99, 3) := by decide +kernel
theorem D_x_back_6 : decode M_x_back.2.1 6 = .ok (.ifCond .ne 5, 3) := by decide +kernel
theorem D_x_back_9 : decode M_x_back.2.1 9 = .ok (.iconst (-1), 1) := by decide +kernel
theorem D_x_back_10 : decode M_x_back.2.1 10 = .ok (.ireturn, 1) := by decide +kernel
theorem D_x_back_11 : decode M_x_back.2.1 11 = .ok (.aload_n 0, 1) := by decide +kernel
theorem D_x_back_12 : decode M_x_back.2.1 12 = .ok (.getfield 37, 3) := by decide +kernel
theorem D_x_back_15 : decode M_x_back.2.1 15 = .ok (.iload_n 1, 1) := by decide +kernel
theorem D_x_back_16 : decode M_x_back.2.1 16 = .ok (.baload, 1) := by decide +kernel
theorem D_x_back_17 : decode M_x_back.2.1 17 = .ok (.ifCond .ne 6, 3) := by decide +kernel
theorem D_x_back_20 : decode M_x_back.2.1 20 = .ok (.bipush (-2), 2) := by decide +kernel
theorem D_x_back_22 : decode M_x_back.2.1 22 = .ok (.ireturn, 1) := by decide +kernel
theorem D_x_back_23 : decode M_x_back.2.1 23 = .ok (.aload_n 0, 1) := by decide +kernel
theorem D_x_back_24 : decode M_x_back.2.1 24 = .ok (.getfield 29, 3) := by decide +kernel
theorem D_x_back_27 : decode M_x_back.2.1 27 = .ok (.aload_n 0, 1) := by decide +kernel
theorem D_x_back_28 : decode M_x_back.2.1 28 = .ok (.getfield 33, 3) := by decide +kernel
theorem D_x_back_31 : decode M_x_back.2.1 31 = .ok (.iload_n 1, 1) := by decide +kernel
theorem D_x_back_32 : decode M_x_back.2.1 32 = .ok (.aaload, 1) := by decide +kernel
theorem D_x_back_33 : decode M_x_back.2.1 33 = .ok (.invokevirtual 257, 3) := by decide +kernel
theorem D_x_back_36 : decode M_x_back.2.1 36 = .ok (.aload_n 0, 1) := by decide +kernel
theorem D_x_back_37 : decode M_x_back.2.1 37 = .ok (.getfield 29, 3) := by decide +kernel
theorem D_x_back_40 : decode M_x_back.2.1 40 = .ok (.iconst 3, 1) := by decide +kernel
theorem D_x_back_41 : decode M_x_back.2.1 41 = .ok (.invokevirtual 131, 3) := by decide +kernel
theorem D_x_back_44 : decode M_x_back.2.1 44 = .ok (.ireturn, 1) := by decide +kernel
theorem D_x_count_0 : decode M_x_count.2.1 0 = .ok (.iload_n 1, 1) := by decide +kernel
theorem D_x_count_1 : decode M_x_count.2.1 1 = .ok (.tableswitch 111 0 7 #[47, 55, 63, 71, 79, 87, 95, 103], 47) := by decide +kernel
theorem D_x_count_48 : decode M_x_count.2.1 48 = .ok (.aload_n 0, 1) := by decide +kernel
theorem D_x_count_49 : decode M_x_count.2.1 49 = .ok (.getfield 19, 3) := by decide +kernel
theorem D_x_count_52 : decode M_x_count.2.1 52 = .ok (.getfield 155, 3) := by decide +kernel
theorem D_x_count_55 : decode M_x_count.2.1 55 = .ok (.ireturn, 1) := by decide +kernel
theorem D_x_count_56 : decode M_x_count.2.1 56 = .ok (.aload_n 0, 1) := by decide +kernel
theorem D_x_count_57 : decode M_x_count.2.1 57 = .ok (.getfield 19, 3) := by decide +kernel
theorem D_x_count_60 : decode M_x_count.2.1 60 = .ok (.getfield 261, 3) := by decide +kernel
theorem D_x_count_63 : decode M_x_count.2.1 63 = .ok (.ireturn, 1) := by decide +kernel
theorem D_x_count_64 : decode M_x_count.2.1 64 = .ok (.aload_n 0, 1) := by decide +kernel
theorem D_x_count_65 : decode M_x_count.2.1 65 = .ok (.getfield 19, 3) := by decide +kernel
theorem D_x_count_68 : decode M_x_count.2.1 68 = .ok (.getfield 264, 3) := by decide +kernel
theorem D_x_count_71 : decode M_x_count.2.1 71 = .ok (.ireturn, 1) := by decide +kernel
theorem D_x_count_72 : decode M_x_count.2.1 72 = .ok (.aload_n 0, 1) := by decide +kernel
theorem D_x_count_73 : decode M_x_count.2.1 73 = .ok (.getfield 19, 3) := by decide +kernel
theorem D_x_count_76 : decode M_x_count.2.1 76 = .ok (.getfield 177, 3) := by decide +kernel
theorem D_x_count_79 : decode M_x_count.2.1 79 = .ok (.ireturn, 1) := by decide +kernel
theorem D_x_count_80 : decode M_x_count.2.1 80 = .ok (.aload_n 0, 1) := by decide +kernel
theorem D_x_count_81 : decode M_x_count.2.1 81 = .ok (.getfield 44, 3) := by decide +kernel
theorem D_x_count_84 : decode M_x_count.2.1 84 = .ok (.getfield 119, 3) := by decide +kernel
theorem D_x_count_87 : decode M_x_count.2.1 87 = .ok (.ireturn, 1) := by decide +kernel
theorem D_x_count_88 : decode M_x_count.2.1 88 = .ok (.aload_n 0, 1) := by decide +kernel
theorem D_x_count_89 : decode M_x_count.2.1 89 = .ok (.getfield 48, 3) := by decide +kernel
theorem D_x_count_92 : decode M_x_count.2.1 92 = .ok (.getfield 119, 3) := by decide +kernel
theorem D_x_count_95 : decode M_x_count.2.1 95 = .ok (.ireturn, 1) := by decide +kernel
theorem D_x_count_96 : decode M_x_count.2.1 96 = .ok (.aload_n 0, 1) := by decide +kernel
theorem D_x_count_97 : decode M_x_count.2.1 97 = .ok (.getfield 29, 3) := by decide +kernel
theorem D_x_count_100 : decode M_x_count.2.1 100 = .ok (.getfield 180, 3) := by decide +kernel
theorem D_x_count_103 : decode M_x_count.2.1 103 = .ok (.ireturn, 1) := by decide +kernel
theorem D_x_count_104 : decode M_x_count.2.1 104 = .ok (.aload_n 0, 1) := by decide +kernel
theorem D_x_count_105 : decode M_x_count.2.1 105 = .ok (.getfield 10, 3) := by decide +kernel
theorem D_x_count_108 : decode M_x_count.2.1 108 = .ok (.getfield 107, 3) := by decide +kernel
theorem D_x_count_111 : decode M_x_count.2.1 111 = .ok (.ireturn, 1) := by decide +kernel
theorem D_x_count_112 : decode M_x_count.2.1 112 = .ok (.iconst (-1), 1) := by decide +kernel
theorem D_x_count_113 : decode M_x_count.2.1 113 = .ok (.ireturn, 1) := by decide +kernel
theorem D_x_trace_0 : decode M_x_trace.2.1 0 = .ok (.aload_n 0, 1) := by decide +kernel
theorem D_x_trace_1 : decode M_x_trace.2.1 1 = .ok (.getfield 54, 3) := by decide +kernel
theorem D_x_trace_4 : decode M_x_trace.2.1 4 = .ok (.getfield 267, 3) := by decide +kernel
theorem D_x_trace_7 : decode M_x_trace.2.1 7 = .ok (.lreturn, 1) := by decide +kernel
theorem D_x_isWithin_0 : decode M_x_isWithin.2.1 0 = .ok (.iload_n 0, 1) := by decide +kernel
theorem D_x_isWithin_1 : decode M_x_isWithin.2.1 1 = .ok (.iload_n 1, 1) := by decide +kernel
theorem D_x_isWithin_2 : decode M_x_isWithin.2.1 2 = .ok (.if_icmp .lt 12, 3) := by decide +kernel
theorem D_x_isWithin_5 : decode M_x_isWithin.2.1 5 = .ok (.iload_n 0, 1) := by decide +kernel
theorem D_x_isWithin_6 : decode M_x_isWithin.2.1 6 = .ok (.iload_n 2, 1) := by decide +kernel
theorem D_x_isWithin_7 : decode M_x_isWithin.2.1 7 = .ok (.if_icmp .gt 7, 3) := by decide +kernel
theorem D_x_isWithin_10 : decode M_x_isWithin.2.1 10 = .ok (.iconst 1, 1) := by decide +kernel
theorem D_x_isWithin_11 : decode M_x_isWithin.2.1 11 = .ok (.goto 4, 3) := by decide +kernel
theorem D_x_isWithin_14 : decode M_x_isWithin.2.1 14 = .ok (.iconst 0, 1) := by decide +kernel
theorem D_x_isWithin_15 : decode M_x_isWithin.2.1 15 = .ok (.ireturn, 1) := by decide +kernel
theorem D_x_isSpeed_0 : decode M_x_isSpeed.2.1 0 = .ok (.iload_n 0, 1) := by decide +kernel
theorem D_x_isSpeed_1 : decode M_x_isSpeed.2.1 1 = .ok (.iconst 1, 1) := by decide +kernel
theorem D_x_isSpeed_2 : decode M_x_isSpeed.2.1 2 = .ok (.bipush 60, 2) := by decide +kernel
theorem D_x_isSpeed_4 : decode M_x_isSpeed.2.1 4 = .ok (.invokestatic 99, 3) := by decide +kernel
theorem D_x_isSpeed_7 : decode M_x_isSpeed.2.1 7 = .ok (.ireturn, 1) := by decide +kernel
theorem D_x_isColour_0 : decode M_x_isColour.2.1 0 = .ok (.iload_n 0, 1) := by decide +kernel
theorem D_x_isColour_1 : decode M_x_isColour.2.1 1 = .ok (.iconst 0, 1) := by decide +kernel
theorem D_x_isColour_2 : decode M_x_isColour.2.1 2 = .ok (.iconst 5, 1) := by decide +kernel
theorem D_x_isColour_3 : decode M_x_isColour.2.1 3 = .ok (.invokestatic 99, 3) := by decide +kernel
theorem D_x_isColour_6 : decode M_x_isColour.2.1 6 = .ok (.ireturn, 1) := by decide +kernel
theorem D_x_areTwo_0 : decode M_x_areTwo.2.1 0 = .ok (.iload_n 1, 1) := by decide +kernel
theorem D_x_areTwo_1 : decode M_x_areTwo.2.1 1 = .ok (.iload_n 2, 1) := by decide +kernel
theorem D_x_areTwo_2 : decode M_x_areTwo.2.1 2 = .ok (.if_icmp .eq 29, 3) := by decide +kernel
theorem D_x_areTwo_5 : decode M_x_areTwo.2.1 5 = .ok (.aload_n 0, 1) := by decide +kernel
theorem D_x_areTwo_6 : decode M_x_areTwo.2.1 6 = .ok (.getfield 19, 3) := by decide +kernel
theorem D_x_areTwo_9 : decode M_x_areTwo.2.1 9 = .ok (.iload_n 1, 1) := by decide +kernel
theorem D_x_areTwo_10 : decode M_x_areTwo.2.1 10 = .ok (.invokevirtual 128, 3) := by decide +kernel
theorem D_x_areTwo_13 : decode M_x_areTwo.2.1 13 = .ok (.ifCond .eq 18, 3) := by decide +kernel
theorem D_x_areTwo_16 : decode M_x_areTwo.2.1 16 = .ok (.aload_n 0, 1) := by decide +kernel
theorem D_x_areTwo_17 : decode M_x_areTwo.2.1 17 = .ok (.getfield 19, 3) := by decide +kernel
theorem D_x_areTwo_20 : decode M_x_areTwo.2.1 20 = .ok (.iload_n 2, 1) := by decide +kernel
theorem D_x_areTwo_21 : decode M_x_areTwo.2.1 21 = .ok (.invokevirtual 128, 3) := by decide +kernel
theorem D_x_areTwo_24 : decode M_x_areTwo.2.1 24 = .ok (.ifCond .eq 7, 3) := by decide +kernel
theorem D_x_areTwo_27 : decode M_x_areTwo.2.1 27 = .ok (.iconst 1, 1) := by decide +kernel
theorem D_x_areTwo_28 : decode M_x_areTwo.2.1 28 = .ok (.goto 4, 3) := by decide +kernel
theorem D_x_areTwo_31 : decode M_x_areTwo.2.1 31 = .ok (.iconst 0, 1) := by decide +kernel
theorem D_x_areTwo_32 : decode M_x_areTwo.2.1 32 = .ok (.ireturn, 1) := by decide +kernel
theorem D_x_colourOf_0 : decode M_x_colourOf.2.1 0 = .ok (.aload_n 0, 1) := by decide +kernel
theorem D_x_colourOf_1 : decode M_x_colourOf.2.1 1 = .ok (.getfield 29, 3) := by decide +kernel
theorem D_x_colourOf_4 : decode M_x_colourOf.2.1 4 = .ok (.iconst 2, 1) := by decide +kernel
theorem D_x_colourOf_5 : decode M_x_colourOf.2.1 5 = .ok (.invokevirtual 131, 3) := by decide +kernel
theorem D_x_colourOf_8 : decode M_x_colourOf.2.1 8 = .ok (.iconst 1, 1) := by decide +kernel
theorem D_x_colourOf_9 : decode M_x_colourOf.2.1 9 = .ok (.if_icmp .ne 5, 3) := by decide +kernel
theorem D_x_colourOf_12 : decode M_x_colourOf.2.1 12 = .ok (.iconst 0, 1) := by decide +kernel
theorem D_x_colourOf_13 : decode M_x_colourOf.2.1 13 = .ok (.ireturn, 1) := by decide +kernel
theorem D_x_colourOf_14 : decode M_x_colourOf.2.1 14 = .ok (.aload_n 0, 1) := by decide +kernel
theorem D_x_colourOf_15 : decode M_x_colourOf.2.1 15 = .ok (.getfield 19, 3) := by decide +kernel
theorem D_x_colourOf_18 : decode M_x_colourOf.2.1 18 = .ok (.aload_n 0, 1) := by decide +kernel
theorem D_x_colourOf_19 : decode M_x_colourOf.2.1 19 = .ok (.getfield 29, 3) := by decide +kernel
theorem D_x_colourOf_22 : decode M_x_colourOf.2.1 22 = .ok (.iconst 4, 1) := by decide +kernel
theorem D_x_colourOf_23 : decode M_x_colourOf.2.1 23 = .ok (.iload_n 1, 1) := by decide +kernel
theorem D_x_colourOf_24 : decode M_x_colourOf.2.1 24 = .ok (.iadd, 1) := by decide +kernel
theorem D_x_colourOf_25 : decode M_x_colourOf.2.1 25 = .ok (.invokevirtual 131, 3) := by decide +kernel
theorem D_x_colourOf_28 : decode M_x_colourOf.2.1 28 = .ok (.aload_n 0, 1) := by decide +kernel
theorem D_x_colourOf_29 : decode M_x_colourOf.2.1 29 = .ok (.getfield 29, 3) := by decide +kernel
theorem D_x_colourOf_32 : decode M_x_colourOf.2.1 32 = .ok (.iconst 0, 1) := by decide +kernel
theorem D_x_colourOf_33 : decode M_x_colourOf.2.1 33 = .ok (.invokevirtual 131, 3) := by decide +kernel
theorem D_x_colourOf_36 : decode M_x_colourOf.2.1 36 = .ok (.aload_n 0, 1) := by decide +kernel
theorem D_x_colourOf_37 : decode M_x_colourOf.2.1 37 = .ok (.getfield 29, 3) := by decide +kernel
theorem D_x_colourOf_40 : decode M_x_colourOf.2.1 40 = .ok (.iconst 1, 1) := by decide +kernel
theorem D_x_colourOf_41 : decode M_x_colourOf.2.1 41 = .ok (.invokevirtual 131, 3) := by decide +kernel
theorem D_x_colourOf_44 : decode M_x_colourOf.2.1 44 = .ok (.iadd, 1) := by decide +kernel
theorem D_x_colourOf_45 : decode M_x_colourOf.2.1 45 = .ok (.invokevirtual 271, 3) := by decide +kernel
theorem D_x_colourOf_48 : decode M_x_colourOf.2.1 48 = .ok (.ireturn, 1) := by decide +kernel
theorem D_x_whoIsOn_0 : decode M_x_whoIsOn.2.1 0 = .ok (.iconst 0, 1) := by decide +kernel
theorem D_x_whoIsOn_1 : decode M_x_whoIsOn.2.1 1 = .ok (.istore_n 2, 1) := by decide +kernel
theorem D_x_whoIsOn_2 : decode M_x_whoIsOn.2.1 2 = .ok (.iload_n 2, 1) := by decide +kernel
theorem D_x_whoIsOn_3 : decode M_x_whoIsOn.2.1 3 = .ok (.aload_n 0, 1) := by decide +kernel
theorem D_x_whoIsOn_4 : decode M_x_whoIsOn.2.1 4 = .ok (.getfield 19, 3) := by decide +kernel
theorem D_x_whoIsOn_7 : decode M_x_whoIsOn.2.1 7 = .ok (.getfield 177, 3) := by decide +kernel
theorem D_x_whoIsOn_10 : decode M_x_whoIsOn.2.1 10 = .ok (.if_icmp .ge 25, 3) := by decide +kernel
theorem D_x_whoIsOn_13 : decode M_x_whoIsOn.2.1 13 = .ok (.aload_n 0, 1) := by decide +kernel
theorem D_x_whoIsOn_14 : decode M_x_whoIsOn.2.1 14 = .ok (.getfield 29, 3) := by decide +kernel
theorem D_x_whoIsOn_17 : decode M_x_whoIsOn.2.1 17 = .ok (.iconst 4, 1) := by decide +kernel
theorem D_x_whoIsOn_18 : decode M_x_whoIsOn.2.1 18 = .ok (.iload_n 2, 1) := by decide +kernel
theorem D_x_whoIsOn_19 : decode M_x_whoIsOn.2.1 19 = .ok (.iadd, 1) := by decide +kernel
theorem D_x_whoIsOn_20 : decode M_x_whoIsOn.2.1 20 = .ok (.invokevirtual 131, 3) := by decide +kernel
theorem D_x_whoIsOn_23 : decode M_x_whoIsOn.2.1 23 = .ok (.iload_n 1, 1) := by decide +kernel
theorem D_x_whoIsOn_24 : decode M_x_whoIsOn.2.1 24 = .ok (.if_icmp .ne 5, 3) := by decide +kernel
theorem D_x_whoIsOn_27 : decode M_x_whoIsOn.2.1 27 = .ok (.iload_n 2, 1) := by decide +kernel
theorem D_x_whoIsOn_28 : decode M_x_whoIsOn.2.1 28 = .ok (.ireturn, 1) := by decide +kernel
theorem D_x_whoIsOn_29 : decode M_x_whoIsOn.2.1 29 = .ok (.iinc 2 1, 3) := by decide +kernel
theorem D_x_whoIsOn_32 : decode M_x_whoIsOn.2.1 32 = .ok (.goto (-30), 3) := by decide +kernel
theorem D_x_whoIsOn_35 : decode M_x_whoIsOn.2.1 35 = .ok (.iconst (-1), 1) := by decide +kernel
theorem D_x_whoIsOn_36 : decode M_x_whoIsOn.2.1 36 = .ok (.ireturn, 1) := by decide +kernel
theorem D_x_holdFeast_0 : decode M_x_holdFeast.2.1 0 = .ok (.aload_n 0, 1) := by decide +kernel
theorem D_x_holdFeast_1 : decode M_x_holdFeast.2.1 1 = .ok (.getfield 29, 3) := by decide +kernel
theorem D_x_holdFeast_4 : decode M_x_holdFeast.2.1 4 = .ok (.iconst 3, 1) := by decide +kernel
theorem D_x_holdFeast_5 : decode M_x_holdFeast.2.1 5 = .ok (.aload_n 0, 1) := by decide +kernel
theorem D_x_holdFeast_6 : decode M_x_holdFeast.2.1 6 = .ok (.getfield 29, 3) := by decide +kernel
theorem D_x_holdFeast_9 : decode M_x_holdFeast.2.1 9 = .ok (.iconst 3, 1) := by decide +kernel
theorem D_x_holdFeast_10 : decode M_x_holdFeast.2.1 10 = .ok (.invokevirtual 131, 3) := by decide +kernel
theorem D_x_holdFeast_13 : decode M_x_holdFeast.2.1 13 = .ok (.iconst 1, 1) := by decide +kernel
theorem D_x_holdFeast_14 : decode M_x_holdFeast.2.1 14 = .ok (.iadd, 1) := by decide +kernel
theorem D_x_holdFeast_15 : decode M_x_holdFeast.2.1 15 = .ok (.invokevirtual 164, 3) := by decide +kernel
theorem D_x_holdFeast_18 : decode M_x_holdFeast.2.1 18 = .ok (.iconst 0, 1) := by decide +kernel
theorem D_x_holdFeast_19 : decode M_x_holdFeast.2.1 19 = .ok (.istore_n 1, 1) := by decide +kernel
theorem D_x_holdFeast_20 : decode M_x_holdFeast.2.1 20 = .ok (.iload_n 1, 1) := by decide +kernel
theorem D_x_holdFeast_21 : decode M_x_holdFeast.2.1 21 = .ok (.aload_n 0, 1) := by decide +kernel
theorem D_x_holdFeast_22 : decode M_x_holdFeast.2.1 22 = .ok (.getfield 19, 3) := by decide +kernel
theorem D_x_holdFeast_25 : decode M_x_holdFeast.2.1 25 = .ok (.getfield 177, 3) := by decide +kernel
theorem D_x_holdFeast_28 : decode M_x_holdFeast.2.1 28 = .ok (.if_icmp .ge 65, 3) := by decide +kernel
theorem D_x_holdFeast_31 : decode M_x_holdFeast.2.1 31 = .ok (.aload_n 0, 1) := by decide +kernel
theorem D_x_holdFeast_32 : decode M_x_holdFeast.2.1 32 = .ok (.iload_n 1, 1) := by decide +kernel
theorem D_x_holdFeast_33 : decode M_x_holdFeast.2.1 33 = .ok (.invokevirtual 138, 3) := by decide +kernel
theorem D_x_holdFeast_36 : decode M_x_holdFeast.2.1 36 = .ok (.istore_n 2, 1) := by decide +kernel
theorem D_x_holdFeast_37 : decode M_x_holdFeast.2.1 37 = .ok (.iload_n 2, 1) := by decide +kernel
theorem D_x_holdFeast_38 : decode M_x_holdFeast.2.1 38 = .ok (.iconst 1, 1) := by decide +kernel
theorem D_x_holdFeast_39 : decode M_x_holdFeast.2.1 39 = .ok (.if_icmp .ne 8, 3) := by decide +kernel
theorem D_x_holdFeast_42 : decode M_x_holdFeast.2.1 42 = .ok (.aload_n 0, 1) := by decide +kernel
theorem D_x_holdFeast_43 : decode M_x_holdFeast.2.1 43 = .ok (.iload_n 1, 1) := by decide +kernel
theorem D_x_holdFeast_44 : decode M_x_holdFeast.2.1 44 = .ok (.invokevirtual 274, 3) := by decide +kernel
theorem D_x_holdFeast_47 : decode M_x_holdFeast.2.1 47 = .ok (.aload_n 0, 1) := by decide +kernel
theorem D_x_holdFeast_48 : decode M_x_holdFeast.2.1 48 = .ok (.getfield 29, 3) := by decide +kernel
theorem D_x_holdFeast_51 : decode M_x_holdFeast.2.1 51 = .ok (.bipush 10, 2) := by decide +kernel
theorem D_x_holdFeast_53 : decode M_x_holdFeast.2.1 53 = .ok (.iload_n 1, 1) := by decide +kernel
theorem D_x_holdFeast_54 : decode M_x_holdFeast.2.1 54 = .ok (.iadd, 1) := by decide +kernel
theorem D_x_holdFeast_55 : decode M_x_holdFeast.2.1 55 = .ok (.invokevirtual 131, 3) := by decide +kernel
theorem D_x_holdFeast_58 : decode M_x_holdFeast.2.1 58 = .ok (.iconst 1, 1) := by decide +kernel
theorem D_x_holdFeast_59 : decode M_x_holdFeast.2.1 59 = .ok (.iadd, 1) := by decide +kernel
theorem D_x_holdFeast_60 : decode M_x_holdFeast.2.1 60 = .ok (.bipush 99, 2) := by decide +kernel
theorem D_x_holdFeast_62 : decode M_x_holdFeast.2.1 62 = .ok (.invokestatic 278, 3) := by decide +kernel
theorem D_x_holdFeast_65 : decode M_x_holdFeast.2.1 65 = .ok (.istore_n 3, 1) := by decide +kernel
theorem D_x_holdFeast_66 : decode M_x_holdFeast.2.1 66 = .ok (.aload_n 0, 1) := by decide +kernel
theorem D_x_holdFeast_67 : decode M_x_holdFeast.2.1 67 = .ok (.getfield 29, 3) := by decide +kernel
theorem D_x_holdFeast_70 : decode M_x_holdFeast.2.1 70 = .ok (.bipush 10, 2) := by decide +kernel
theorem D_x_holdFeast_72 : decode M_x_holdFeast.2.1 72 = .ok (.iload_n 1, 1) := by decide +kernel
theorem D_x_holdFeast_73 : decode M_x_holdFeast.2.1 73 = .ok (.iadd, 1) := by decide +kernel
theorem D_x_holdFeast_74 : decode M_x_holdFeast.2.1 74 = .ok (.iload_n 2, 1) := by decide +kernel
theorem D_x_holdFeast_75 : decode M_x_holdFeast.2.1 75 = .ok (.iconst 3, 1) := by decide +kernel
theorem D_x_holdFeast_76 : decode M_x_holdFeast.2.1 76 = .ok (.if_icmp .ne 7, 3) := by decide +kernel
theorem D_x_holdFeast_79 : decode M_x_holdFeast.2.1 79 = .ok (.iload_n 3, 1) := by decide +kernel
theorem D_x_holdFeast_80 : decode M_x_holdFeast.2.1 80 = .ok (.goto 4, 3) := by decide +kernel
theorem D_x_holdFeast_83 : decode M_x_holdFeast.2.1 83 = .ok (.iconst 0, 1) := by decide +kernel
theorem D_x_holdFeast_84 : decode M_x_holdFeast.2.1 84 = .ok (.invokevirtual 164, 3) := by decide +kernel
theorem D_x_holdFeast_87 : decode M_x_holdFeast.2.1 87 = .ok (.iinc 1 1, 3) := by decide +kernel
theorem D_x_holdFeast_90 : decode M_x_holdFeast.2.1 90 = .ok (.goto (-70), 3) := by decide +kernel
theorem D_x_holdFeast_93 : decode M_x_holdFeast.2.1 93 = .ok (.return_, 1) := by decide +kernel
theorem D_x_oweBlueTo_0 : decode M_x_oweBlueTo.2.1 0 = .ok (.iconst 0, 1) := by decide +kernel
theorem D_x_oweBlueTo_1 : decode M_x_oweBlueTo.2.1 1 = .ok (.istore_n 2, 1) := by decide +kernel
theorem D_x_oweBlueTo_2 : decode M_x_oweBlueTo.2.1 2 = .ok (.iload_n 2, 1) := by decide +kernel
theorem D_x_oweBlueTo_3 : decode M_x_oweBlueTo.2.1 3 = .ok (.aload_n 0, 1) := by decide +kernel
theorem D_x_oweBlueTo_4 : decode M_x_oweBlueTo.2.1 4 = .ok (.getfield 19, 3) := by decide +kernel
theorem D_x_oweBlueTo_7 : decode M_x_oweBlueTo.2.1 7 = .ok (.getfield 177, 3) := by decide +kernel
theorem D_x_oweBlueTo_10 : decode M_x_oweBlueTo.2.1 10 = .ok (.if_icmp .ge 49, 3) := by decide +kernel
theorem D_x_oweBlueTo_13 : decode M_x_oweBlueTo.2.1 13 = .ok (.aload_n 0, 1) := by decide +kernel
theorem D_x_oweBlueTo_14 : decode M_x_oweBlueTo.2.1 14 = .ok (.iload_n 2, 1) := by decide +kernel
theorem D_x_oweBlueTo_15 : decode M_x_oweBlueTo.2.1 15 = .ok (.invokevirtual 138, 3) := by decide +kernel
theorem D_x_oweBlueTo_18 : decode M_x_oweBlueTo.2.1 18 = .ok (.iconst 2, 1) := by decide +kernel
theorem D_x_oweBlueTo_19 : decode M_x_oweBlueTo.2.1 19 = .ok (.if_icmp .ne 34, 3) := by decide +kernel
theorem D_x_oweBlueTo_22 : decode M_x_oweBlueTo.2.1 22 = .ok (.aload_n 0, 1) := by decide +kernel
theorem D_x_oweBlueTo_23 : decode M_x_oweBlueTo.2.1 23 = .ok (.getfield 29, 3) := by decide +kernel
theorem D_x_oweBlueTo_26 : decode M_x_oweBlueTo.2.1 26 = .ok (.iload_n 1, 1) := by decide +kernel
theorem D_x_oweBlueTo_27 : decode M_x_oweBlueTo.2.1 27 = .ok (.iload_n 2, 1) := by decide +kernel
theorem D_x_oweBlueTo_28 : decode M_x_oweBlueTo.2.1 28 = .ok (.invokestatic 148, 3) := by decide +kernel
theorem D_x_oweBlueTo_31 : decode M_x_oweBlueTo.2.1 31 = .ok (.aload_n 0, 1) := by decide +kernel
theorem D_x_oweBlueTo_32 : decode M_x_oweBlueTo.2.1 32 = .ok (.getfield 29, 3) := by decide +kernel
theorem D_x_oweBlueTo_35 : decode M_x_oweBlueTo.2.1 35 = .ok (.iload_n 1, 1) := by decide +kernel
theorem D_x_oweBlueTo_36 : decode M_x_oweBlueTo.2.1 36 = .ok (.iload_n 2, 1) := by decide +kernel
theorem D_x_oweBlueTo_37 : decode M_x_oweBlueTo.2.1 37 = .ok (.invokestatic 148, 3) := by decide +kernel
theorem D_x_oweBlueTo_40 : decode M_x_oweBlueTo.2.1 40 = .ok (.invokevirtual 131, 3) := by decide +kernel
theorem D_x_oweBlueTo_43 : decode M_x_oweBlueTo.2.1 43 = .ok (.iconst 1, 1) := by decide +kernel
theorem D_x_oweBlueTo_44 : decode M_x_oweBlueTo.2.1 44 = .ok (.iadd, 1) := by decide +kernel
theorem D_x_oweBlueTo_45 : decode M_x_oweBlueTo.2.1 45 = .ok (.bipush 99, 2) := by decide +kernel
theorem D_x_oweBlueTo_47 : decode M_x_oweBlueTo.2.1 47 = .ok (.invokestatic 278, 3) := by decide +kernel
theorem D_x_oweBlueTo_50 : decode M_x_oweBlueTo.2.1 50 = .ok (.invokevirtual 164, 3) := by decide +kernel
theorem D_x_oweBlueTo_53 : decode M_x_oweBlueTo.2.1 53 = .ok (.iinc 2 1, 3) := by decide +kernel
theorem D_x_oweBlueTo_56 : decode M_x_oweBlueTo.2.1 56 = .ok (.goto (-54), 3) := by decide +kernel
theorem D_x_oweBlueTo_59 : decode M_x_oweBlueTo.2.1 59 = .ok (.return_, 1) := by decide +kernel
theorem D_x_owedByAll_0 : decode M_x_owedByAll.2.1 0 = .ok (.iconst 0, 1) := by decide +kernel
theorem D_x_owedByAll_1 : decode M_x_owedByAll.2.1 1 = .ok (.istore_n 2, 1) := by decide +kernel
theorem D_x_owedByAll_2 : decode M_x_owedByAll.2.1 2 = .ok (.iconst 0, 1) := by decide +kernel
theorem D_x_owedByAll_3 : decode M_x_owedByAll.2.1 3 = .ok (.istore_n 3, 1) := by decide +kernel
theorem D_x_owedByAll_4 : decode M_x_owedByAll.2.1 4 = .ok (.iload_n 3, 1) := by decide +kernel
theorem D_x_owedByAll_5 : decode M_x_owedByAll.2.1 5 = .ok (.aload_n 0, 1) := by decide +kernel
theorem D_x_owedByAll_6 : decode M_x_owedByAll.2.1 6 = .ok (.getfield 19, 3) := by decide +kernel
theorem D_x_owedByAll_9 : decode M_x_owedByAll.2.1 9 = .ok (.getfield 177, 3) := by decide +kernel
theorem D_x_owedByAll_12 : decode M_x_owedByAll.2.1 12 = .ok (.if_icmp .ge 24, 3) := by decide +kernel
theorem D_x_owedByAll_15 : decode M_x_owedByAll.2.1 15 = .ok (.iload_n 2, 1) := by decide +kernel
theorem D_x_owedByAll_16 : decode M_x_owedByAll.2.1 16 = .ok (.aload_n 0, 1) := by decide +kernel
theorem D_x_owedByAll_17 : decode M_x_owedByAll.2.1 17 = .ok (.getfield 29, 3) := by decide +kernel
theorem D_x_owedByAll_20 : decode M_x_owedByAll.2.1 20 = .ok (.iload_n 1, 1) := by decide +kernel
theorem D_x_owedByAll_21 : decode M_x_owedByAll.2.1 21 = .ok (.iload_n 3, 1) := by decide +kernel
theorem D_x_owedByAll_22 : decode M_x_owedByAll.2.1 22 = .ok (.invokestatic 148, 3) := by decide +kernel
theorem D_x_owedByAll_25 : decode M_x_owedByAll.2.1 25 = .ok (.invokevirtual 131, 3) := by decide +kernel
theorem D_x_owedByAll_28 : decode M_x_owedByAll.2.1 28 = .ok (.iadd, 1) := by decide +kernel
theorem D_x_owedByAll_29 : decode M_x_owedByAll.2.1 29 = .ok (.istore_n 2, 1) := by decide +kernel
theorem D_x_owedByAll_30 : decode M_x_owedByAll.2.1 30 = .ok (.iinc 3 1, 3) := by decide +kernel
theorem D_x_owedByAll_33 : decode M_x_owedByAll.2.1 33 = .ok (.goto (-29), 3) := by decide +kernel
theorem D_x_owedByAll_36 : decode M_x_owedByAll.2.1 36 = .ok (.iload_n 2, 1) := by decide +kernel
theorem D_x_owedByAll_37 : decode M_x_owedByAll.2.1 37 = .ok (.ireturn, 1) := by decide +kernel
theorem D_x_owedInAll_0 : decode M_x_owedInAll.2.1 0 = .ok (.iconst 0, 1) := by decide +kernel
theorem D_x_owedInAll_1 : decode M_x_owedInAll.2.1 1 = .ok (.istore_n 1, 1) := by decide +kernel
theorem D_x_owedInAll_2 : decode M_x_owedInAll.2.1 2 = .ok (.iconst 0, 1) := by decide +kernel
theorem D_x_owedInAll_3 : decode M_x_owedInAll.2.1 3 = .ok (.istore_n 2, 1) := by decide +kernel
theorem D_x_owedInAll_4 : decode M_x_owedInAll.2.1 4 = .ok (.iload_n 2, 1) := by decide +kernel
theorem D_x_owedInAll_5 : decode M_x_owedInAll.2.1 5 = .ok (.aload_n 0, 1) := by decide +kernel
theorem D_x_owedInAll_6 : decode M_x_owedInAll.2.1 6 = .ok (.getfield 19, 3) := by decide +kernel
theorem D_x_owedInAll_9 : decode M_x_owedInAll.2.1 9 = .ok (.getfield 177, 3) := by decide +kernel
theorem D_x_owedInAll_12 : decode M_x_owedInAll.2.1 12 = .ok (.if_icmp .ge 17, 3) := by decide +kernel
theorem D_x_owedInAll_15 : decode M_x_owedInAll.2.1 15 = .ok (.iload_n 1, 1) := by decide +kernel
theorem D_x_owedInAll_16 : decode M_x_owedInAll.2.1 16 = .ok (.aload_n 0, 1) := by decide +kernel
theorem D_x_owedInAll_17 : decode M_x_owedInAll.2.1 17 = .ok (.iload_n 2, 1) := by decide +kernel
theorem D_x_owedInAll_18 : decode M_x_owedInAll.2.1 18 = .ok (.invokevirtual 141, 3) := by decide +kernel
theorem D_x_owedInAll_21 : decode M_x_owedInAll.2.1 21 = .ok (.iadd, 1) := by decide +kernel
theorem D_x_owedInAll_22 : decode M_x_owedInAll.2.1 22 = .ok (.istore_n 1, 1) := by decide +kernel
theorem D_x_owedInAll_23 : decode M_x_owedInAll.2.1 23 = .ok (.iinc 2 1, 3) := by decide +kernel
theorem D_x_owedInAll_26 : decode M_x_owedInAll.2.1 26 = .ok (.goto (-22), 3) := by decide +kernel
theorem D_x_owedInAll_29 : decode M_x_owedInAll.2.1 29 = .ok (.iload_n 1, 1) := by decide +kernel
theorem D_x_owedInAll_30 : decode M_x_owedInAll.2.1 30 = .ok (.ireturn, 1) := by decide +kernel
theorem D_x_ringOfDebts_0 : decode M_x_ringOfDebts.2.1 0 = .ok (.iconst 0, 1) := by decide +kernel
theorem D_x_ringOfDebts_1 : decode M_x_ringOfDebts.2.1 1 = .ok (.istore_n 1, 1) := by decide +kernel
theorem D_x_ringOfDebts_2 : decode M_x_ringOfDebts.2.1 2 = .ok (.iconst 0, 1) := by decide +kernel
theorem D_x_ringOfDebts_3 : decode M_x_ringOfDebts.2.1 3 = .ok (.istore_n 2, 1) := by decide +kernel
theorem D_x_ringOfDebts_4 : decode M_x_ringOfDebts.2.1 4 = .ok (.iload_n 2, 1) := by decide +kernel
theorem D_x_ringOfDebts_5 : decode M_x_ringOfDebts.2.1 5 = .ok (.aload_n 0, 1) := by decide +kernel
theorem D_x_ringOfDebts_6 : decode M_x_ringOfDebts.2.1 6 = .ok (.getfield 19, 3) := by decide +kernel
theorem D_x_ringOfDebts_9 : decode M_x_ringOfDebts.2.1 9 = .ok (.getfield 177, 3) := by decide +kernel
theorem D_x_ringOfDebts_12 : decode M_x_ringOfDebts.2.1 12 = .ok (.if_icmp .ge 28, 3) := by decide +kernel
theorem D_x_ringOfDebts_15 : decode M_x_ringOfDebts.2.1 15 = .ok (.aload_n 0, 1) := by decide +kernel
theorem D_x_ringOfDebts_16 : decode M_x_ringOfDebts.2.1 16 = .ok (.iload_n 2, 1) := by decide +kernel
theorem D_x_ringOfDebts_17 : decode M_x_ringOfDebts.2.1 17 = .ok (.invokevirtual 283, 3) := by decide +kernel
theorem D_x_ringOfDebts_20 : decode M_x_ringOfDebts.2.1 20 = .ok (.iload_n 2, 1) := by decide +kernel
theorem D_x_ringOfDebts_21 : decode M_x_ringOfDebts.2.1 21 = .ok (.ishr, 1) := by decide +kernel
theorem D_x_ringOfDebts_22 : decode M_x_ringOfDebts.2.1 22 = .ok (.iconst 1, 1) := by decide +kernel
theorem D_x_ringOfDebts_23 : decode M_x_ringOfDebts.2.1 23 = .ok (.iand, 1) := by decide +kernel
theorem D_x_ringOfDebts_24 : decode M_x_ringOfDebts.2.1 24 = .ok (.iconst 1, 1) := by decide +kernel
theorem D_x_ringOfDebts_25 : decode M_x_ringOfDebts.2.1 25 = .ok (.if_icmp .ne 9, 3) := by decide +kernel
theorem D_x_ringOfDebts_28 : decode M_x_ringOfDebts.2.1 28 = .ok (.iload_n 1, 1) := by decide +kernel
theorem D_x_ringOfDebts_29 : decode M_x_ringOfDebts.2.1 29 = .ok (.iconst 1, 1) := by decide +kernel
theorem D_x_ringOfDebts_30 : decode M_x_ringOfDebts.2.1 30 = .ok (.iload_n 2, 1) := by decide +kernel
theorem D_x_ringOfDebts_31 : decode M_x_ringOfDebts.2.1 31 = .ok (.ishl, 1) := by decide +kernel
theorem D_x_ringOfDebts_32 : decode M_x_ringOfDebts.2.1 32 = .ok (.ior, 1) := by decide +kernel
theorem D_x_ringOfDebts_33 : decode M_x_ringOfDebts.2.1 33 = .ok (.istore_n 1, 1) := by decide +kernel
theorem D_x_ringOfDebts_34 : decode M_x_ringOfDebts.2.1 34 = .ok (.iinc 2 1, 3) := by decide +kernel
theorem D_x_ringOfDebts_37 : decode M_x_ringOfDebts.2.1 37 = .ok (.goto (-33), 3) := by decide +kernel
theorem D_x_ringOfDebts_40 : decode M_x_ringOfDebts.2.1 40 = .ok (.iload_n 1, 1) := by decide +kernel
theorem D_x_ringOfDebts_41 : decode M_x_ringOfDebts.2.1 41 = .ok (.ireturn, 1) := by decide +kernel
theorem D_x_debtorsBehind_0 : decode M_x_debtorsBehind.2.1 0 = .ok (.aload_n 0, 1) := by decide +kernel
theorem D_x_debtorsBehind_1 : decode M_x_debtorsBehind.2.1 1 = .ok (.iload_n 1, 1) := by decide +kernel
theorem D_x_debtorsBehind_2 : decode M_x_debtorsBehind.2.1 2 = .ok (.invokevirtual 286, 3) := by decide +kernel
theorem D_x_debtorsBehind_5 : decode M_x_debtorsBehind.2.1 5 = .ok (.istore_n 2, 1) := by decide +kernel
theorem D_x_debtorsBehind_6 : decode M_x_debtorsBehind.2.1 6 = .ok (.iconst 1, 1) := by decide +kernel
theorem D_x_debtorsBehind_7 : decode M_x_debtorsBehind.2.1 7 = .ok (.istore_n 3, 1) := by decide +kernel
theorem D_x_debtorsBehind_8 : decode M_x_debtorsBehind.2.1 8 = .ok (.iload_n 3, 1) := by decide +kernel
theorem D_x_debtorsBehind_9 : decode M_x_debtorsBehind.2.1 9 = .ok (.aload_n 0, 1) := by decide +kernel
theorem D_x_debtorsBehind_10 : decode M_x_debtorsBehind.2.1 10 = .ok (.getfield 19, 3) := by decide +kernel
theorem D_x_debtorsBehind_13 : decode M_x_debtorsBehind.2.1 13 = .ok (.getfield 177, 3) := by decide +kernel
theorem D_x_debtorsBehind_16 : decode M_x_debtorsBehind.2.1 16 = .ok (.if_icmp .ge 53, 3) := by decide +kernel
theorem D_x_debtorsBehind_19 : decode M_x_debtorsBehind.2.1 19 = .ok (.iload_n 2, 1) := by decide +kernel
theorem D_x_debtorsBehind_20 : decode M_x_debtorsBehind.2.1 20 = .ok (.istore 4, 2) := by decide +kernel
theorem D_x_debtorsBehind_22 : decode M_x_debtorsBehind.2.1 22 = .ok (.iconst 0, 1) := by decide +kernel
theorem D_x_debtorsBehind_23 : decode M_x_debtorsBehind.2.1 23 = .ok (.istore 5, 2) := by decide +kernel
theorem D_x_debtorsBehind_25 : decode M_x_debtorsBehind.2.1 25 = .ok (.iload 5, 2) := by decide +kernel
theorem D_x_debtorsBehind_27 : decode M_x_debtorsBehind.2.1 27 = .ok (.aload_n 0, 1) := by decide +kernel
theorem D_x_debtorsBehind_28 : decode M_x_debtorsBehind.2.1 28 = .ok (.getfield 19, 3) := by decide +kernel
theorem D_x_debtorsBehind_31 : decode M_x_debtorsBehind.2.1 31 = .ok (.getfield 177, 3) := by decide +kernel
theorem D_x_debtorsBehind_34 : decode M_x_debtorsBehind.2.1 34 = .ok (.if_icmp .ge 29, 3) := by decide +kernel
theorem D_x_debtorsBehind_37 : decode M_x_debtorsBehind.2.1 37 = .ok (.iload 4, 2) := by decide +kernel
theorem D_x_debtorsBehind_39 : decode M_x_debtorsBehind.2.1 39 = .ok (.iload 5, 2) := by decide +kernel
theorem D_x_debtorsBehind_41 : decode M_x_debtorsBehind.2.1 41 = .ok (.ishr, 1) := by decide +kernel
theorem D_x_debtorsBehind_42 : decode M_x_debtorsBehind.2.1 42 = .ok (.iconst 1, 1) := by decide +kernel
theorem D_x_debtorsBehind_43 : decode M_x_debtorsBehind.2.1 43 = .ok (.iand, 1) := by decide +kernel
theorem D_x_debtorsBehind_44 : decode M_x_debtorsBehind.2.1 44 = .ok (.iconst 1, 1) := by decide +kernel
theorem D_x_debtorsBehind_45 : decode M_x_debtorsBehind.2.1 45 = .ok (.if_icmp .ne 12, 3) := by decide +kernel
theorem D_x_debtorsBehind_48 : decode M_x_debtorsBehind.2.1 48 = .ok (.iload_n 2, 1) := by decide +kernel
theorem D_x_debtorsBehind_49 : decode M_x_debtorsBehind.2.1 49 = .ok (.aload_n 0, 1) := by decide +kernel
theorem D_x_debtorsBehind_50 : decode M_x_debtorsBehind.2.1 50 = .ok (.iload 5, 2) := by decide +kernel
theorem D_x_debtorsBehind_52 : decode M_x_debtorsBehind.2.1 52 = .ok (.invokevirtual 286, 3) := by decide +kernel
theorem D_x_debtorsBehind_55 : decode M_x_debtorsBehind.2.1 55 = .ok (.ior, 1) := by decide +kernel
theorem D_x_debtorsBehind_56 : decode M_x_debtorsBehind.2.1 56 = .ok (.istore_n 2, 1) := by decide +kernel
theorem D_x_debtorsBehind_57 : decode M_x_debtorsBehind.2.1 57 = .ok (.iinc 5 1, 3) := by decide +kernel
theorem D_x_debtorsBehind_60 : decode M_x_debtorsBehind.2.1 60 = .ok (.goto (-35), 3) := by decide +kernel
theorem D_x_debtorsBehind_63 : decode M_x_debtorsBehind.2.1 63 = .ok (.iinc 3 1, 3) := by decide +kernel
theorem D_x_debtorsBehind_66 : decode M_x_debtorsBehind.2.1 66 = .ok (.goto (-58), 3) := by decide +kernel
theorem D_x_debtorsBehind_69 : decode M_x_debtorsBehind.2.1 69 = .ok (.iload_n 2, 1) := by decide +kernel
theorem D_x_debtorsBehind_70 : decode M_x_debtorsBehind.2.1 70 = .ok (.ireturn, 1) := by decide +kernel
theorem D_x_debtorsOf_0 : decode M_x_debtorsOf.2.1 0 = .ok (.iconst 0, 1) := by decide +kernel
theorem D_x_debtorsOf_1 : decode M_x_debtorsOf.2.1 1 = .ok (.istore_n 2, 1) := by decide +kernel
theorem D_x_debtorsOf_2 : decode M_x_debtorsOf.2.1 2 = .ok (.iconst 0, 1) := by decide +kernel
theorem D_x_debtorsOf_3 : decode M_x_debtorsOf.2.1 3 = .ok (.istore_n 3, 1) := by decide +kernel
theorem D_x_debtorsOf_4 : decode M_x_debtorsOf.2.1 4 = .ok (.iload_n 3, 1) := by decide +kernel
theorem D_x_debtorsOf_5 : decode M_x_debtorsOf.2.1 5 = .ok (.aload_n 0, 1) := by decide +kernel
theorem D_x_debtorsOf_6 : decode M_x_debtorsOf.2.1 6 = .ok (.getfield 19, 3) := by decide +kernel
theorem D_x_debtorsOf_9 : decode M_x_debtorsOf.2.1 9 = .ok (.getfield 177, 3) := by decide +kernel
theorem D_x_debtorsOf_12 : decode M_x_debtorsOf.2.1 12 = .ok (.if_icmp .ge 30, 3) := by decide +kernel
theorem D_x_debtorsOf_15 : decode M_x_debtorsOf.2.1 15 = .ok (.aload_n 0, 1) := by decide +kernel
theorem D_x_debtorsOf_16 : decode M_x_debtorsOf.2.1 16 = .ok (.getfield 29, 3) := by decide +kernel
theorem D_x_debtorsOf_19 : decode M_x_debtorsOf.2.1 19 = .ok (.iload_n 1, 1) := by decide +kernel
theorem D_x_debtorsOf_20 : decode M_x_debtorsOf.2.1 20 = .ok (.iload_n 3, 1) := by decide +kernel
theorem D_x_debtorsOf_21 : decode M_x_debtorsOf.2.1 21 = .ok (.invokestatic 148, 3) := by decide +kernel
theorem D_x_debtorsOf_24 : decode M_x_debtorsOf.2.1 24 = .ok (.invokevirtual 131, 3) := by decide +kernel
theorem D_x_debtorsOf_27 : decode M_x_debtorsOf.2.1 27 = .ok (.ifCond .le 9, 3) := by decide +kernel
theorem D_x_debtorsOf_30 : decode M_x_debtorsOf.2.1 30 = .ok (.iload_n 2, 1) := by decide +kernel
theorem D_x_debtorsOf_31 : decode M_x_debtorsOf.2.1 31 = .ok (.iconst 1, 1) := by decide +kernel
theorem D_x_debtorsOf_32 : decode M_x_debtorsOf.2.1 32 = .ok (.iload_n 3, 1) := by decide +kernel
theorem D_x_debtorsOf_33 : decode M_x_debtorsOf.2.1 33 = .ok (.ishl, 1) := by decide +kernel
theorem D_x_debtorsOf_34 : decode M_x_debtorsOf.2.1 34 = .ok (.ior, 1) := by decide +kernel
theorem D_x_debtorsOf_35 : decode M_x_debtorsOf.2.1 35 = .ok (.istore_n 2, 1) := by decide +kernel
theorem D_x_debtorsOf_36 : decode M_x_debtorsOf.2.1 36 = .ok (.iinc 3 1, 3) := by decide +kernel
theorem D_x_debtorsOf_39 : decode M_x_debtorsOf.2.1 39 = .ok (.goto (-35), 3) := by decide +kernel
theorem D_x_debtorsOf_42 : decode M_x_debtorsOf.2.1 42 = .ok (.iload_n 2, 1) := by decide +kernel
theorem D_x_debtorsOf_43 : decode M_x_debtorsOf.2.1 43 = .ok (.ireturn, 1) := by decide +kernel
theorem D_x_turnBehind_0 : decode M_x_turnBehind.2.1 0 = .ok (.aload_n 0, 1) := by decide +kernel
theorem D_x_turnBehind_1 : decode M_x_turnBehind.2.1 1 = .ok (.getfield 19, 3) := by decide +kernel
theorem D_x_turnBehind_4 : decode M_x_turnBehind.2.1 4 = .ok (.aload_n 0, 1) := by decide +kernel
theorem D_x_turnBehind_5 : decode M_x_turnBehind.2.1 5 = .ok (.getfield 29, 3) := by decide +kernel
theorem D_x_turnBehind_8 : decode M_x_turnBehind.2.1 8 = .ok (.iconst 0, 1) := by decide +kernel
theorem D_x_turnBehind_9 : decode M_x_turnBehind.2.1 9 = .ok (.invokevirtual 131, 3) := by decide +kernel
theorem D_x_turnBehind_12 : decode M_x_turnBehind.2.1 12 = .ok (.aload_n 0, 1) := by decide +kernel
theorem D_x_turnBehind_13 : decode M_x_turnBehind.2.1 13 = .ok (.getfield 19, 3) := by decide +kernel
theorem D_x_turnBehind_16 : decode M_x_turnBehind.2.1 16 = .ok (.iload_n 1, 1) := by decide +kernel
theorem D_x_turnBehind_17 : decode M_x_turnBehind.2.1 17 = .ok (.invokevirtual 193, 3) := by decide +kernel
theorem D_x_turnBehind_20 : decode M_x_turnBehind.2.1 20 = .ok (.iadd, 1) := by decide +kernel
theorem D_x_turnBehind_21 : decode M_x_turnBehind.2.1 21 = .ok (.invokevirtual 174, 3) := by decide +kernel
theorem D_x_turnBehind_24 : decode M_x_turnBehind.2.1 24 = .ok (.ireturn, 1) := by decide +kernel
theorem D_x_colourBehind_0 : decode M_x_colourBehind.2.1 0 = .ok (.aload_n 0, 1) := by decide +kernel
theorem D_x_colourBehind_1 : decode M_x_colourBehind.2.1 1 = .ok (.getfield 19, 3) := by decide +kernel
theorem D_x_colourBehind_4 : decode M_x_colourBehind.2.1 4 = .ok (.iload_n 1, 1) := by decide +kernel
theorem D_x_colourBehind_5 : decode M_x_colourBehind.2.1 5 = .ok (.aload_n 0, 1) := by decide +kernel
theorem D_x_colourBehind_6 : decode M_x_colourBehind.2.1 6 = .ok (.iload_n 2, 1) := by decide +kernel
theorem D_x_colourBehind_7 : decode M_x_colourBehind.2.1 7 = .ok (.invokevirtual 161, 3) := by decide +kernel
theorem D_x_colourBehind_10 : decode M_x_colourBehind.2.1 10 = .ok (.aload_n 0, 1) := by decide +kernel
theorem D_x_colourBehind_11 : decode M_x_colourBehind.2.1 11 = .ok (.getfield 29, 3) := by decide +kernel
theorem D_x_colourBehind_14 : decode M_x_colourBehind.2.1 14 = .ok (.iconst 1, 1) := by decide +kernel
theorem D_x_colourBehind_15 : decode M_x_colourBehind.2.1 15 = .ok (.invokevirtual 131, 3) := by decide +kernel
theorem D_x_colourBehind_18 : decode M_x_colourBehind.2.1 18 = .ok (.iadd, 1) := by decide +kernel
theorem D_x_colourBehind_19 : decode M_x_colourBehind.2.1 19 = .ok (.invokevirtual 271, 3) := by decide +kernel
theorem D_x_colourBehind_22 : decode M_x_colourBehind.2.1 22 = .ok (.ireturn, 1) := by decide +kernel
theorem D_x_speedsFor_0 : decode M_x_speedsFor.2.1 0 = .ok (.iconst 0, 1) := by decide +kernel
theorem D_x_speedsFor_1 : decode M_x_speedsFor.2.1 1 = .ok (.istore 4, 2) := by decide +kernel
theorem D_x_speedsFor_3 : decode M_x_speedsFor.2.1 3 = .ok (.iconst 1, 1) := by decide +kernel
theorem D_x_speedsFor_4 : decode M_x_speedsFor.2.1 4 = .ok (.istore 5, 2) := by decide +kernel
theorem D_x_speedsFor_6 : decode M_x_speedsFor.2.1 6 = .ok (.iload 5, 2) := by decide +kernel
theorem D_x_speedsFor_8 : decode M_x_speedsFor.2.1 8 = .ok (.iload_n 3, 1) := by decide +kernel
theorem D_x_speedsFor_9 : decode M_x_speedsFor.2.1 9 = .ok (.if_icmp .gt 23, 3) := by decide +kernel
theorem D_x_speedsFor_12 : decode M_x_speedsFor.2.1 12 = .ok (.aload_n 0, 1) := by decide +kernel
theorem D_x_speedsFor_13 : decode M_x_speedsFor.2.1 13 = .ok (.iload_n 1, 1) := by decide +kernel
theorem D_x_speedsFor_14 : decode M_x_speedsFor.2.1 14 = .ok (.iload 5, 2) := by decide +kernel
theorem D_x_speedsFor_16 : decode M_x_speedsFor.2.1 16 = .ok (.invokevirtual 196, 3) := by decide +kernel
theorem D_x_speedsFor_19 : decode M_x_speedsFor.2.1 19 = .ok (.iload_n 2, 1) := by decide +kernel
theorem D_x_speedsFor_20 : decode M_x_speedsFor.2.1 20 = .ok (.if_icmp .ne 6, 3) := by decide +kernel
theorem D_x_speedsFor_23 : decode M_x_speedsFor.2.1 23 = .ok (.iinc 4 1, 3) := by decide +kernel
theorem D_x_speedsFor_26 : decode M_x_speedsFor.2.1 26 = .ok (.iinc 5 1, 3) := by decide +kernel
theorem D_x_speedsFor_29 : decode M_x_speedsFor.2.1 29 = .ok (.goto (-23), 3) := by decide +kernel
theorem D_x_speedsFor_32 : decode M_x_speedsFor.2.1 32 = .ok (.iload 4, 2) := by decide +kernel
theorem D_x_speedsFor_34 : decode M_x_speedsFor.2.1 34 = .ok (.ireturn, 1) := by decide +kernel
theorem D_x_leastSpeedFor_0 : decode M_x_leastSpeedFor.2.1 0 = .ok (.iconst 1, 1) := by decide +kernel
theorem D_x_leastSpeedFor_1 : decode M_x_leastSpeedFor.2.1 1 = .ok (.istore_n 3, 1) := by decide +kernel
theorem D_x_leastSpeedFor_2 : decode M_x_leastSpeedFor.2.1 2 = .ok (.iload_n 3, 1) := by decide +kernel
theorem D_x_leastSpeedFor_3 : decode M_x_leastSpeedFor.2.1 3 = .ok (.bipush 60, 2) := by decide +kernel
theorem D_x_leastSpeedFor_5 : decode M_x_leastSpeedFor.2.1 5 = .ok (.if_icmp .gt 21, 3) := by decide +kernel
theorem D_x_leastSpeedFor_8 : decode M_x_leastSpeedFor.2.1 8 = .ok (.aload_n 0, 1) := by decide +kernel
theorem D_x_leastSpeedFor_9 : decode M_x_leastSpeedFor.2.1 9 = .ok (.iload_n 1, 1) := by decide +kernel
theorem D_x_leastSpeedFor_10 : decode M_x_leastSpeedFor.2.1 10 = .ok (.iload_n 3, 1) := by decide +kernel
theorem D_x_leastSpeedFor_11 : decode M_x_leastSpeedFor.2.1 11 = .ok (.invokevirtual 196, 3) := by decide +kernel
theorem D_x_leastSpeedFor_14 : decode M_x_leastSpeedFor.2.1 14 = .ok (.iload_n 2, 1) := by decide +kernel
theorem D_x_leastSpeedFor_15 : decode M_x_leastSpeedFor.2.1 15 = .ok (.if_icmp .ne 5, 3) := by decide +kernel
theorem D_x_leastSpeedFor_18 : decode M_x_leastSpeedFor.2.1 18 = .ok (.iload_n 3, 1) := by decide +kernel
theorem D_x_leastSpeedFor_19 : decode M_x_leastSpeedFor.2.1 19 = .ok (.ireturn, 1) := by decide +kernel
theorem D_x_leastSpeedFor_20 : decode M_x_leastSpeedFor.2.1 20 = .ok (.iinc 3 1, 3) := by decide +kernel
theorem D_x_leastSpeedFor_23 : decode M_x_leastSpeedFor.2.1 23 = .ok (.goto (-21), 3) := by decide +kernel
theorem D_x_leastSpeedFor_26 : decode M_x_leastSpeedFor.2.1 26 = .ok (.bipush (-9), 2) := by decide +kernel
theorem D_x_leastSpeedFor_28 : decode M_x_leastSpeedFor.2.1 28 = .ok (.ireturn, 1) := by decide +kernel
theorem D_x_commonDivisor_0 : decode M_x_commonDivisor.2.1 0 = .ok (.iload_n 0, 1) := by decide +kernel
theorem D_x_commonDivisor_1 : decode M_x_commonDivisor.2.1 1 = .ok (.istore_n 2, 1) := by decide +kernel
theorem D_x_commonDivisor_2 : decode M_x_commonDivisor.2.1 2 = .ok (.iload_n 1, 1) := by decide +kernel
theorem D_x_commonDivisor_3 : decode M_x_commonDivisor.2.1 3 = .ok (.istore_n 3, 1) := by decide +kernel
theorem D_x_commonDivisor_4 : decode M_x_commonDivisor.2.1 4 = .ok (.iconst 0, 1) := by decide +kernel
theorem D_x_commonDivisor_5 : decode M_x_commonDivisor.2.1 5 = .ok (.istore 4, 2) := by decide +kernel
theorem D_x_commonDivisor_7 : decode M_x_commonDivisor.2.1 7 = .ok (.iload 4, 2) := by decide +kernel
theorem D_x_commonDivisor_9 : decode M_x_commonDivisor.2.1 9 = .ok (.bipush 64, 2) := by decide +kernel
theorem D_x_commonDivisor_11 : decode M_x_commonDivisor.2.1 11 = .ok (.if_icmp .ge 23, 3) := by decide +kernel
theorem D_x_commonDivisor_14 : decode M_x_commonDivisor.2.1 14 = .ok (.iload_n 3, 1) := by decide +kernel
theorem D_x_commonDivisor_15 : decode M_x_commonDivisor.2.1 15 = .ok (.ifCond .le 19, 3) := by decide +kernel
theorem D_x_commonDivisor_18 : decode M_x_commonDivisor.2.1 18 = .ok (.iload_n 2, 1) := by decide +kernel
theorem D_x_commonDivisor_19 : decode M_x_commonDivisor.2.1 19 = .ok (.iload_n 3, 1) := by decide +kernel
theorem D_x_commonDivisor_20 : decode M_x_commonDivisor.2.1 20 = .ok (.irem, 1) := by decide +kernel
theorem D_x_commonDivisor_21 : decode M_x_commonDivisor.2.1 21 = .ok (.istore 5, 2) := by decide +kernel
theorem D_x_commonDivisor_23 : decode M_x_commonDivisor.2.1 23 = .ok (.iload_n 3, 1) := by decide +kernel
theorem D_x_commonDivisor_24 : decode M_x_commonDivisor.2.1 24 = .ok (.istore_n 2, 1) := by decide +kernel
theorem D_x_commonDivisor_25 : decode M_x_commonDivisor.2.1 25 = .ok (.iload 5, 2) := by decide +kernel
theorem D_x_commonDivisor_27 : decode M_x_commonDivisor.2.1 27 = .ok (.istore_n 3, 1) := by decide +kernel
theorem D_x_commonDivisor_28 : decode M_x_commonDivisor.2.1 28 = .ok (.iinc 4 1, 3) := by decide +kernel
theorem D_x_commonDivisor_31 : decode M_x_commonDivisor.2.1 31 = .ok (.goto (-24), 3) := by decide +kernel
theorem D_x_commonDivisor_34 : decode M_x_commonDivisor.2.1 34 = .ok (.iload_n 2, 1) := by decide +kernel
theorem D_x_commonDivisor_35 : decode M_x_commonDivisor.2.1 35 = .ok (.ireturn, 1) := by decide +kernel
theorem D_x_seatAll_0 : decode M_x_seatAll.2.1 0 = .ok (.aload_n 0, 1) := by decide +kernel
theorem D_x_seatAll_1 : decode M_x_seatAll.2.1 1 = .ok (.getfield 90, 3) := by decide +kernel
theorem D_x_seatAll_4 : decode M_x_seatAll.2.1 4 = .ok (.iconst 0, 1) := by decide +kernel
theorem D_x_seatAll_5 : decode M_x_seatAll.2.1 5 = .ok (.invokestatic 289, 3) := by decide +kernel
theorem D_x_seatAll_8 : decode M_x_seatAll.2.1 8 = .ok (.aload_n 0, 1) := by decide +kernel
theorem D_x_seatAll_9 : decode M_x_seatAll.2.1 9 = .ok (.getfield 93, 3) := by decide +kernel
theorem D_x_seatAll_12 : decode M_x_seatAll.2.1 12 = .ok (.iconst 0, 1) := by decide +kernel
theorem D_x_seatAll_13 : decode M_x_seatAll.2.1 13 = .ok (.invokestatic 289, 3) := by decide +kernel
theorem D_x_seatAll_16 : decode M_x_seatAll.2.1 16 = .ok (.iconst 0, 1) := by decide +kernel
theorem D_x_seatAll_17 : decode M_x_seatAll.2.1 17 = .ok (.istore_n 2, 1) := by decide +kernel
theorem D_x_seatAll_18 : decode M_x_seatAll.2.1 18 = .ok (.iload_n 2, 1) := by decide +kernel
theorem D_x_seatAll_19 : decode M_x_seatAll.2.1 19 = .ok (.aload_n 0, 1) := by decide +kernel
theorem D_x_seatAll_20 : decode M_x_seatAll.2.1 20 = .ok (.getfield 19, 3) := by decide +kernel
theorem D_x_seatAll_23 : decode M_x_seatAll.2.1 23 = .ok (.getfield 155, 3) := by decide +kernel
theorem D_x_seatAll_26 : decode M_x_seatAll.2.1 26 = .ok (.if_icmp .ge 24, 3) := by decide +kernel
theorem D_x_seatAll_29 : decode M_x_seatAll.2.1 29 = .ok (.aload_n 0, 1) := by decide +kernel
theorem D_x_seatAll_30 : decode M_x_seatAll.2.1 30 = .ok (.getfield 90, 3) := by decide +kernel
theorem D_x_seatAll_33 : decode M_x_seatAll.2.1 33 = .ok (.aload_n 0, 1) := by decide +kernel
theorem D_x_seatAll_34 : decode M_x_seatAll.2.1 34 = .ok (.iload_n 2, 1) := by decide +kernel
theorem D_x_seatAll_35 : decode M_x_seatAll.2.1 35 = .ok (.iload_n 1, 1) := by decide +kernel
theorem D_x_seatAll_36 : decode M_x_seatAll.2.1 36 = .ok (.invokevirtual 196, 3) := by decide +kernel
theorem D_x_seatAll_39 : decode M_x_seatAll.2.1 39 = .ok (.dup2, 1) := by decide +kernel
theorem D_x_seatAll_40 : decode M_x_seatAll.2.1 40 = .ok (.iaload, 1) := by decide +kernel
theorem D_x_seatAll_41 : decode M_x_seatAll.2.1 41 = .ok (.iconst 1, 1) := by decide +kernel
theorem D_x_seatAll_42 : decode M_x_seatAll.2.1 42 = .ok (.iadd, 1) := by decide +kernel
theorem D_x_seatAll_43 : decode M_x_seatAll.2.1 43 = .ok (.iastore, 1) := by decide +kernel
theorem D_x_seatAll_44 : decode M_x_seatAll.2.1 44 = .ok (.iinc 2 1, 3) := by decide +kernel
theorem D_x_seatAll_47 : decode M_x_seatAll.2.1 47 = .ok (.goto (-29), 3) := by decide +kernel
theorem D_x_seatAll_50 : decode M_x_seatAll.2.1 50 = .ok (.iconst 0, 1) := by decide +kernel
theorem D_x_seatAll_51 : decode M_x_seatAll.2.1 51 = .ok (.istore_n 2, 1) := by decide +kernel
theorem D_x_seatAll_52 : decode M_x_seatAll.2.1 52 = .ok (.iload_n 2, 1) := by decide +kernel
theorem D_x_seatAll_53 : decode M_x_seatAll.2.1 53 = .ok (.aload_n 0, 1) := by decide +kernel
theorem D_x_seatAll_54 : decode M_x_seatAll.2.1 54 = .ok (.getfield 19, 3) := by decide +kernel
theorem D_x_seatAll_57 : decode M_x_seatAll.2.1 57 = .ok (.getfield 177, 3) := by decide +kernel
theorem D_x_seatAll_60 : decode M_x_seatAll.2.1 60 = .ok (.if_icmp .ge 27, 3) := by decide +kernel
theorem D_x_seatAll_63 : decode M_x_seatAll.2.1 63 = .ok (.aload_n 0, 1) := by decide +kernel
theorem D_x_seatAll_64 : decode M_x_seatAll.2.1 64 = .ok (.getfield 93, 3) := by decide +kernel
theorem D_x_seatAll_67 : decode M_x_seatAll.2.1 67 = .ok (.aload_n 0, 1) := by decide +kernel
theorem D_x_seatAll_68 : decode M_x_seatAll.2.1 68 = .ok (.getfield 19, 3) := by decide +kernel
theorem D_x_seatAll_71 : decode M_x_seatAll.2.1 71 = .ok (.getfield 135, 3) := by decide +kernel
theorem D_x_seatAll_74 : decode M_x_seatAll.2.1 74 = .ok (.iload_n 2, 1) := by decide +kernel
theorem D_x_seatAll_75 : decode M_x_seatAll.2.1 75 = .ok (.iaload, 1) := by decide +kernel
theorem D_x_seatAll_76 : decode M_x_seatAll.2.1 76 = .ok (.dup2, 1) := by decide +kernel
theorem D_x_seatAll_77 : decode M_x_seatAll.2.1 77 = .ok (.iaload, 1) := by decide +kernel
theorem D_x_seatAll_78 : decode M_x_seatAll.2.1 78 = .ok (.iconst 1, 1) := by decide +kernel
theorem D_x_seatAll_79 : decode M_x_seatAll.2.1 79 = .ok (.iadd, 1) := by decide +kernel
theorem D_x_seatAll_80 : decode M_x_seatAll.2.1 80 = .ok (.iastore, 1) := by decide +kernel
theorem D_x_seatAll_81 : decode M_x_seatAll.2.1 81 = .ok (.iinc 2 1, 3) := by decide +kernel
theorem D_x_seatAll_84 : decode M_x_seatAll.2.1 84 = .ok (.goto (-32), 3) := by decide +kernel
theorem D_x_seatAll_87 : decode M_x_seatAll.2.1 87 = .ok (.aload_n 0, 1) := by decide +kernel
theorem D_x_seatAll_88 : decode M_x_seatAll.2.1 88 = .ok (.invokevirtual 295, 3) := by decide +kernel
theorem D_x_seatAll_91 : decode M_x_seatAll.2.1 91 = .ok (.istore_n 2, 1) := by decide +kernel
theorem D_x_seatAll_92 : decode M_x_seatAll.2.1 92 = .ok (.iload_n 2, 1) := by decide +kernel
theorem D_x_seatAll_93 : decode M_x_seatAll.2.1 93 = .ok (.istore_n 3, 1) := by decide +kernel
theorem D_x_seatAll_94 : decode M_x_seatAll.2.1 94 = .ok (.iconst 0, 1) := by decide +kernel
theorem D_x_seatAll_95 : decode M_x_seatAll.2.1 95 = .ok (.istore 4, 2) := by decide +kernel
theorem D_x_seatAll_97 : decode M_x_seatAll.2.1 97 = .ok (.iconst 0, 1) := by decide +kernel
theorem D_x_seatAll_98 : decode M_x_seatAll.2.1 98 = .ok (.istore 5, 2) := by decide +kernel
theorem D_x_seatAll_100 : decode M_x_seatAll.2.1 100 = .ok (.iload 5, 2) := by decide +kernel
theorem D_x_seatAll_102 : decode M_x_seatAll.2.1 102 = .ok (.aload_n 0, 1) := by decide +kernel
theorem D_x_seatAll_103 : decode M_x_seatAll.2.1 103 = .ok (.getfield 19, 3) := by decide +kernel
theorem D_x_seatAll_106 : decode M_x_seatAll.2.1 106 = .ok (.getfield 177, 3) := by decide +kernel
theorem D_x_seatAll_109 : decode M_x_seatAll.2.1 109 = .ok (.if_icmp .ge 81, 3) := by decide +kernel
theorem D_x_seatAll_112 : decode M_x_seatAll.2.1 112 = .ok (.aload_n 0, 1) := by decide +kernel
theorem D_x_seatAll_113 : decode M_x_seatAll.2.1 113 = .ok (.getfield 93, 3) := by decide +kernel
theorem D_x_seatAll_116 : decode M_x_seatAll.2.1 116 = .ok (.aload_n 0, 1) := by decide +kernel
theorem D_x_seatAll_117 : decode M_x_seatAll.2.1 117 = .ok (.getfield 19, 3) := by decide +kernel
theorem D_x_seatAll_120 : decode M_x_seatAll.2.1 120 = .ok (.getfield 135, 3) := by decide +kernel
theorem D_x_seatAll_123 : decode M_x_seatAll.2.1 123 = .ok (.iload 5, 2) := by decide +kernel
theorem D_x_seatAll_125 : decode M_x_seatAll.2.1 125 = .ok (.iaload, 1) := by decide +kernel
theorem D_x_seatAll_126 : decode M_x_seatAll.2.1 126 = .ok (.dup2, 1) := by decide +kernel
theorem D_x_seatAll_127 : decode M_x_seatAll.2.1 127 = .ok (.iaload, 1) := by decide +kernel
theorem D_x_seatAll_128 : decode M_x_seatAll.2.1 128 = .ok (.iconst 1, 1) := by decide +kernel
theorem D_x_seatAll_129 : decode M_x_seatAll.2.1 129 = .ok (.isub, 1) := by decide +kernel
theorem D_x_seatAll_130 : decode M_x_seatAll.2.1 130 = .ok (.iastore, 1) := by decide +kernel
theorem D_x_seatAll_131 : decode M_x_seatAll.2.1 131 = .ok (.aload_n 0, 1) := by decide +kernel
theorem D_x_seatAll_132 : decode M_x_seatAll.2.1 132 = .ok (.iload 5, 2) := by decide +kernel
theorem D_x_seatAll_134 : decode M_x_seatAll.2.1 134 = .ok (.iload_n 1, 1) := by decide +kernel
theorem D_x_seatAll_135 : decode M_x_seatAll.2.1 135 = .ok (.iload 4, 2) := by decide +kernel
theorem D_x_seatAll_137 : decode M_x_seatAll.2.1 137 = .ok (.iload_n 3, 1) := by decide +kernel
theorem D_x_seatAll_138 : decode M_x_seatAll.2.1 138 = .ok (.invokevirtual 298, 3) := by decide +kernel
theorem D_x_seatAll_141 : decode M_x_seatAll.2.1 141 = .ok (.istore 6, 2) := by decide +kernel
theorem D_x_seatAll_143 : decode M_x_seatAll.2.1 143 = .ok (.aload_n 0, 1) := by decide +kernel
theorem D_x_seatAll_144 : decode M_x_seatAll.2.1 144 = .ok (.getfield 96, 3) := by decide +kernel
theorem D_x_seatAll_147 : decode M_x_seatAll.2.1 147 = .ok (.iload 5, 2) := by decide +kernel
theorem D_x_seatAll_149 : decode M_x_seatAll.2.1 149 = .ok (.iload 6, 2) := by decide +kernel
theorem D_x_seatAll_151 : decode M_x_seatAll.2.1 151 = .ok (.iastore, 1) := by decide +kernel
theorem D_x_seatAll_152 : decode M_x_seatAll.2.1 152 = .ok (.iload 4, 2) := by decide +kernel
theorem D_x_seatAll_154 : decode M_x_seatAll.2.1 154 = .ok (.iconst 1, 1) := by decide +kernel
theorem D_x_seatAll_155 : decode M_x_seatAll.2.1 155 = .ok (.iload 6, 2) := by decide +kernel
theorem D_x_seatAll_157 : decode M_x_seatAll.2.1 157 = .ok (.ishl, 1) := by decide +kernel
theorem D_x_seatAll_158 : decode M_x_seatAll.2.1 158 = .ok (.ior, 1) := by decide +kernel
theorem D_x_seatAll_159 : decode M_x_seatAll.2.1 159 = .ok (.istore 4, 2) := by decide +kernel
theorem D_x_seatAll_161 : decode M_x_seatAll.2.1 161 = .ok (.aload_n 0, 1) := by decide +kernel
theorem D_x_seatAll_162 : decode M_x_seatAll.2.1 162 = .ok (.iload 6, 2) := by decide +kernel
theorem D_x_seatAll_164 : decode M_x_seatAll.2.1 164 = .ok (.iload_n 1, 1) := by decide +kernel
theorem D_x_seatAll_165 : decode M_x_seatAll.2.1 165 = .ok (.invokevirtual 196, 3) := by decide +kernel
theorem D_x_seatAll_168 : decode M_x_seatAll.2.1 168 = .ok (.aload_n 0, 1) := by decide +kernel
theorem D_x_seatAll_169 : decode M_x_seatAll.2.1 169 = .ok (.getfield 19, 3) := by decide +kernel
theorem D_x_seatAll_172 : decode M_x_seatAll.2.1 172 = .ok (.getfield 135, 3) := by decide +kernel
theorem D_x_seatAll_175 : decode M_x_seatAll.2.1 175 = .ok (.iload 5, 2) := by decide +kernel
theorem D_x_seatAll_177 : decode M_x_seatAll.2.1 177 = .ok (.iaload, 1) := by decide +kernel
theorem D_x_seatAll_178 : decode M_x_seatAll.2.1 178 = .ok (.if_icmp .ne 6, 3) := by decide +kernel
theorem D_x_seatAll_181 : decode M_x_seatAll.2.1 181 = .ok (.iinc 3 (-1), 3) := by decide +kernel
theorem D_x_seatAll_184 : decode M_x_seatAll.2.1 184 = .ok (.iinc 5 1, 3) := by decide +kernel
theorem D_x_seatAll_187 : decode M_x_seatAll.2.1 187 = .ok (.goto (-87), 3) := by decide +kernel
theorem D_x_seatAll_190 : decode M_x_seatAll.2.1 190 = .ok (.iload_n 2, 1) := by decide +kernel
theorem D_x_seatAll_191 : decode M_x_seatAll.2.1 191 = .ok (.ireturn, 1) := by decide +kernel
theorem D_x_lowestSeat_0 : decode M_x_lowestSeat.2.1 0 = .ok (.iconst 0, 1) := by decide +kernel
theorem D_x_lowestSeat_1 : decode M_x_lowestSeat.2.1 1 = .ok (.istore 5, 2) := by decide +kernel
theorem D_x_lowestSeat_3 : decode M_x_lowestSeat.2.1 3 = .ok (.iload 5, 2) := by decide +kernel
theorem D_x_lowestSeat_5 : decode M_x_lowestSeat.2.1 5 = .ok (.aload_n 0, 1) := by decide +kernel
theorem D_x_lowestSeat_6 : decode M_x_lowestSeat.2.1 6 = .ok (.getfield 19, 3) := by decide +kernel
theorem D_x_lowestSeat_9 : decode M_x_lowestSeat.2.1 9 = .ok (.getfield 155, 3) := by decide +kernel
theorem D_x_lowestSeat_12 : decode M_x_lowestSeat.2.1 12 = .ok (.if_icmp .ge 85, 3) := by decide +kernel
theorem D_x_lowestSeat_15 : decode M_x_lowestSeat.2.1 15 = .ok (.iload_n 3, 1) := by decide +kernel
theorem D_x_lowestSeat_16 : decode M_x_lowestSeat.2.1 16 = .ok (.iload 5, 2) := by decide +kernel
theorem D_x_lowestSeat_18 : decode M_x_lowestSeat.2.1 18 = .ok (.ishr, 1) := by decide +kernel
theorem D_x_lowestSeat_19 : decode M_x_lowestSeat.2.1 19 = .ok (.iconst 1, 1) := by decide +kernel
theorem D_x_lowestSeat_20 : decode M_x_lowestSeat.2.1 20 = .ok (.iand, 1) := by decide +kernel
theorem D_x_lowestSeat_21 : decode M_x_lowestSeat.2.1 21 = .ok (.ifCond .ne 70, 3) := by decide +kernel
theorem D_x_lowestSeat_24 : decode M_x_lowestSeat.2.1 24 = .ok (.aload_n 0, 1) := by decide +kernel
theorem D_x_lowestSeat_25 : decode M_x_lowestSeat.2.1 25 = .ok (.iload 5, 2) := by decide +kernel
theorem D_x_lowestSeat_27 : decode M_x_lowestSeat.2.1 27 = .ok (.iload_n 2, 1) := by decide +kernel
theorem D_x_lowestSeat_28 : decode M_x_lowestSeat.2.1 28 = .ok (.invokevirtual 196, 3) := by decide +kernel
theorem D_x_lowestSeat_31 : decode M_x_lowestSeat.2.1 31 = .ok (.istore 6, 2) := by decide +kernel
theorem D_x_lowestSeat_33 : decode M_x_lowestSeat.2.1 33 = .ok (.iload 6, 2) := by decide +kernel
theorem D_x_lowestSeat_35 : decode M_x_lowestSeat.2.1 35 = .ok (.aload_n 0, 1) := by decide +kernel
theorem D_x_lowestSeat_36 : decode M_x_lowestSeat.2.1 36 = .ok (.getfield 19, 3) := by decide +kernel
theorem D_x_lowestSeat_39 : decode M_x_lowestSeat.2.1 39 = .ok (.getfield 135, 3) := by decide +kernel
theorem D_x_lowestSeat_42 : decode M_x_lowestSeat.2.1 42 = .ok (.iload_n 1, 1) := by decide +kernel
theorem D_x_lowestSeat_43 : decode M_x_lowestSeat.2.1 43 = .ok (.iaload, 1) := by decide +kernel
theorem D_x_lowestSeat_44 : decode M_x_lowestSeat.2.1 44 = .ok (.if_icmp .ne 7, 3) := by decide +kernel
theorem D_x_lowestSeat_47 : decode M_x_lowestSeat.2.1 47 = .ok (.iconst 1, 1) := by decide +kernel
theorem D_x_lowestSeat_48 : decode M_x_lowestSeat.2.1 48 = .ok (.goto 4, 3) := by decide +kernel
theorem D_x_lowestSeat_51 : decode M_x_lowestSeat.2.1 51 = .ok (.iconst 0, 1) := by decide +kernel
theorem D_x_lowestSeat_52 : decode M_x_lowestSeat.2.1 52 = .ok (.istore 7, 2) := by decide +kernel
theorem D_x_lowestSeat_54 : decode M_x_lowestSeat.2.1 54 = .ok (.aload_n 0, 1) := by decide +kernel
theorem D_x_lowestSeat_55 : decode M_x_lowestSeat.2.1 55 = .ok (.getfield 90, 3) := by decide +kernel
theorem D_x_lowestSeat_58 : decode M_x_lowestSeat.2.1 58 = .ok (.iload 6, 2) := by decide +kernel
theorem D_x_lowestSeat_60 : decode M_x_lowestSeat.2.1 60 = .ok (.dup2, 1) := by decide +kernel
theorem D_x_lowestSeat_61 : decode M_x_lowestSeat.2.1 61 = .ok (.iaload, 1) := by decide +kernel
theorem D_x_lowestSeat_62 : decode M_x_lowestSeat.2.1 62 = .ok (.iconst 1, 1) := by decide +kernel
theorem D_x_lowestSeat_63 : decode M_x_lowestSeat.2.1 63 = .ok (.isub, 1) := by decide +kernel
theorem D_x_lowestSeat_64 : decode M_x_lowestSeat.2.1 64 = .ok (.iastore, 1) := by decide +kernel
theorem D_x_lowestSeat_65 : decode M_x_lowestSeat.2.1 65 = .ok (.iload 7, 2) := by decide +kernel
theorem D_x_lowestSeat_67 : decode M_x_lowestSeat.2.1 67 = .ok (.aload_n 0, 1) := by decide +kernel
theorem D_x_lowestSeat_68 : decode M_x_lowestSeat.2.1 68 = .ok (.invokevirtual 295, 3) := by decide +kernel
theorem D_x_lowestSeat_71 : decode M_x_lowestSeat.2.1 71 = .ok (.iadd, 1) := by decide +kernel
theorem D_x_lowestSeat_72 : decode M_x_lowestSeat.2.1 72 = .ok (.iload 4, 2) := by decide +kernel
theorem D_x_lowestSeat_74 : decode M_x_lowestSeat.2.1 74 = .ok (.if_icmp .ne 6, 3) := by decide +kernel
theorem D_x_lowestSeat_77 : decode M_x_lowestSeat.2.1 77 = .ok (.iload 5, 2) := by decide +kernel
theorem D_x_lowestSeat_79 : decode M_x_lowestSeat.2.1 79 = .ok (.ireturn, 1) := by decide +kernel
theorem D_x_lowestSeat_80 : decode M_x_lowestSeat.2.1 80 = .ok (.aload_n 0, 1) := by decide +kernel
theorem D_x_lowestSeat_81 : decode M_x_lowestSeat.2.1 81 = .ok (.getfield 90, 3) := by decide +kernel
theorem D_x_lowestSeat_84 : decode M_x_lowestSeat.2.1 84 = .ok (.iload 6, 2) := by decide +kernel
theorem D_x_lowestSeat_86 : decode M_x_lowestSeat.2.1 86 = .ok (.dup2, 1) := by decide +kernel
theorem D_x_lowestSeat_87 : decode M_x_lowestSeat.2.1 87 = .ok (.iaload, 1) := by decide +kernel
theorem D_x_lowestSeat_88 : decode M_x_lowestSeat.2.1 88 = .ok (.iconst 1, 1) := by decide +kernel
theorem D_x_lowestSeat_89 : decode M_x_lowestSeat.2.1 89 = .ok (.iadd, 1) := by decide +kernel
theorem D_x_lowestSeat_90 : decode M_x_lowestSeat.2.1 90 = .ok (.iastore, 1) := by decide +kernel
theorem D_x_lowestSeat_91 : decode M_x_lowestSeat.2.1 91 = .ok (.iinc 5 1, 3) := by decide +kernel
theorem D_x_lowestSeat_94 : decode M_x_lowestSeat.2.1 94 = .ok (.goto (-91), 3) := by decide +kernel
theorem D_x_lowestSeat_97 : decode M_x_lowestSeat.2.1 97 = .ok (.iconst 0, 1) := by decide +kernel
theorem D_x_lowestSeat_98 : decode M_x_lowestSeat.2.1 98 = .ok (.ireturn, 1) := by decide +kernel
theorem D_x_mostServed_0 : decode M_x_mostServed.2.1 0 = .ok (.iconst 0, 1) := by decide +kernel
theorem D_x_mostServed_1 : decode M_x_mostServed.2.1 1 = .ok (.istore_n 1, 1) := by decide +kernel
theorem D_x_mostServed_2 : decode M_x_mostServed.2.1 2 = .ok (.iconst 0, 1) := by decide +kernel
theorem D_x_mostServed_3 : decode M_x_mostServed.2.1 3 = .ok (.istore_n 2, 1) := by decide +kernel
theorem D_x_mostServed_4 : decode M_x_mostServed.2.1 4 = .ok (.iload_n 2, 1) := by decide +kernel
theorem D_x_mostServed_5 : decode M_x_mostServed.2.1 5 = .ok (.bipush 6, 2) := by decide +kernel
theorem D_x_mostServed_7 : decode M_x_mostServed.2.1 7 = .ok (.if_icmp .ge 27, 3) := by decide +kernel
theorem D_x_mostServed_10 : decode M_x_mostServed.2.1 10 = .ok (.iload_n 1, 1) := by decide +kernel
theorem D_x_mostServed_11 : decode M_x_mostServed.2.1 11 = .ok (.aload_n 0, 1) := by decide +kernel
theorem D_x_mostServed_12 : decode M_x_mostServed.2.1 12 = .ok (.getfield 90, 3) := by decide +kernel
theorem D_x_mostServed_15 : decode M_x_mostServed.2.1 15 = .ok (.iload_n 2, 1) := by decide +kernel
theorem D_x_mostServed_16 : decode M_x_mostServed.2.1 16 = .ok (.iaload, 1) := by decide +kernel
theorem D_x_mostServed_17 : decode M_x_mostServed.2.1 17 = .ok (.aload_n 0, 1) := by decide +kernel
theorem D_x_mostServed_18 : decode M_x_mostServed.2.1 18 = .ok (.getfield 93, 3) := by decide +kernel
theorem D_x_mostServed_21 : decode M_x_mostServed.2.1 21 = .ok (.iload_n 2, 1) := by decide +kernel
theorem D_x_mostServed_22 : decode M_x_mostServed.2.1 22 = .ok (.iaload, 1) := by decide +kernel
theorem D_x_mostServed_23 : decode M_x_mostServed.2.1 23 = .ok (.invokestatic 278, 3) := by decide +kernel
theorem D_x_mostServed_26 : decode M_x_mostServed.2.1 26 = .ok (.iadd, 1) := by decide +kernel
theorem D_x_mostServed_27 : decode M_x_mostServed.2.1 27 = .ok (.istore_n 1, 1) := by decide +kernel
theorem D_x_mostServed_28 : decode M_x_mostServed.2.1 28 = .ok (.iinc 2 1, 3) := by decide +kernel
theorem D_x_mostServed_31 : decode M_x_mostServed.2.1 31 = .ok (.goto (-27), 3) := by decide +kernel
theorem D_x_mostServed_34 : decode M_x_mostServed.2.1 34 = .ok (.iload_n 1, 1) := by decide +kernel
theorem D_x_mostServed_35 : decode M_x_mostServed.2.1 35 = .ok (.ireturn, 1) := by decide +kernel
theorem D_x_isAsSeen_0 : decode M_x_isAsSeen.2.1 0 = .ok (.iconst 0, 1) := by decide +kernel
theorem D_x_isAsSeen_1 : decode M_x_isAsSeen.2.1 1 = .ok (.istore_n 2, 1) := by decide +kernel
theorem D_x_isAsSeen_2 : decode M_x_isAsSeen.2.1 2 = .ok (.iload_n 2, 1) := by decide +kernel
theorem D_x_isAsSeen_3 : decode M_x_isAsSeen.2.1 3 = .ok (.aload_n 0, 1) := by decide +kernel
theorem D_x_isAsSeen_4 : decode M_x_isAsSeen.2.1 4 = .ok (.getfield 44, 3) := by decide +kernel
theorem D_x_isAsSeen_7 : decode M_x_isAsSeen.2.1 7 = .ok (.getfield 119, 3) := by decide +kernel
theorem D_x_isAsSeen_10 : decode M_x_isAsSeen.2.1 10 = .ok (.if_icmp .ge 37, 3) := by decide +kernel
theorem D_x_isAsSeen_13 : decode M_x_isAsSeen.2.1 13 = .ok (.aload_n 0, 1) := by decide +kernel
theorem D_x_isAsSeen_14 : decode M_x_isAsSeen.2.1 14 = .ok (.aload_n 0, 1) := by decide +kernel
theorem D_x_isAsSeen_15 : decode M_x_isAsSeen.2.1 15 = .ok (.getfield 44, 3) := by decide +kernel
theorem D_x_isAsSeen_18 : decode M_x_isAsSeen.2.1 18 = .ok (.getfield 302, 3) := by decide +kernel
theorem D_x_isAsSeen_21 : decode M_x_isAsSeen.2.1 21 = .ok (.iload_n 2, 1) := by decide +kernel
theorem D_x_isAsSeen_22 : decode M_x_isAsSeen.2.1 22 = .ok (.iaload, 1) := by decide +kernel
theorem D_x_isAsSeen_23 : decode M_x_isAsSeen.2.1 23 = .ok (.iload_n 1, 1) := by decide +kernel
theorem D_x_isAsSeen_24 : decode M_x_isAsSeen.2.1 24 = .ok (.invokevirtual 196, 3) := by decide +kernel
theorem D_x_isAsSeen_27 : decode M_x_isAsSeen.2.1 27 = .ok (.aload_n 0, 1) := by decide +kernel
theorem D_x_isAsSeen_28 : decode M_x_isAsSeen.2.1 28 = .ok (.getfield 44, 3) := by decide +kernel
theorem D_x_isAsSeen_31 : decode M_x_isAsSeen.2.1 31 = .ok (.getfield 305, 3) := by decide +kernel
theorem D_x_isAsSeen_34 : decode M_x_isAsSeen.2.1 34 = .ok (.iload_n 2, 1) := by decide +kernel
theorem D_x_isAsSeen_35 : decode M_x_isAsSeen.2.1 35 = .ok (.iaload, 1) := by decide +kernel
theorem D_x_isAsSeen_36 : decode M_x_isAsSeen.2.1 36 = .ok (.if_icmp .eq 5, 3) := by decide +kernel
theorem D_x_isAsSeen_39 : decode M_x_isAsSeen.2.1 39 = .ok (.iconst 0, 1) := by decide +kernel
theorem D_x_isAsSeen_40 : decode M_x_isAsSeen.2.1 40 = .ok (.ireturn, 1) := by decide +kernel
theorem D_x_isAsSeen_41 : decode M_x_isAsSeen.2.1 41 = .ok (.iinc 2 1, 3) := by decide +kernel
theorem D_x_isAsSeen_44 : decode M_x_isAsSeen.2.1 44 = .ok (.goto (-42), 3) := by decide +kernel
theorem D_x_isAsSeen_47 : decode M_x_isAsSeen.2.1 47 = .ok (.iconst 1, 1) := by decide +kernel
theorem D_x_isAsSeen_48 : decode M_x_isAsSeen.2.1 48 = .ok (.ireturn, 1) := by decide +kernel
theorem D_x_speedsAsSeen_0 : decode M_x_speedsAsSeen.2.1 0 = .ok (.lconst 0, 1) := by decide +kernel
theorem D_x_speedsAsSeen_1 : decode M_x_speedsAsSeen.2.1 1 = .ok (.lstore_n 1, 1) := by decide +kernel
theorem D_x_speedsAsSeen_2 : decode M_x_speedsAsSeen.2.1 2 = .ok (.iconst 1, 1) := by decide +kernel
theorem D_x_speedsAsSeen_3 : decode M_x_speedsAsSeen.2.1 3 = .ok (.istore_n 3, 1) := by decide +kernel
theorem D_x_speedsAsSeen_4 : decode M_x_speedsAsSeen.2.1 4 = .ok (.iload_n 3, 1) := by decide +kernel
theorem D_x_speedsAsSeen_5 : decode M_x_speedsAsSeen.2.1 5 = .ok (.bipush 60, 2) := by decide +kernel
theorem D_x_speedsAsSeen_7 : decode M_x_speedsAsSeen.2.1 7 = .ok (.if_icmp .gt 23, 3) := by decide +kernel
theorem D_x_speedsAsSeen_10 : decode M_x_speedsAsSeen.2.1 10 = .ok (.aload_n 0, 1) := by decide +kernel
theorem D_x_speedsAsSeen_11 : decode M_x_speedsAsSeen.2.1 11 = .ok (.iload_n 3, 1) := by decide +kernel
theorem D_x_speedsAsSeen_12 : decode M_x_speedsAsSeen.2.1 12 = .ok (.invokevirtual 220, 3) := by decide +kernel
theorem D_x_speedsAsSeen_15 : decode M_x_speedsAsSeen.2.1 15 = .ok (.ifCond .eq 9, 3) := by decide +kernel
theorem D_x_speedsAsSeen_18 : decode M_x_speedsAsSeen.2.1 18 = .ok (.lload_n 1, 1) := by decide +kernel
theorem D_x_speedsAsSeen_19 : decode M_x_speedsAsSeen.2.1 19 = .ok (.lconst 1, 1) := by decide +kernel
theorem D_x_speedsAsSeen_20 : decode M_x_speedsAsSeen.2.1 20 = .ok (.iload_n 3, 1) := by decide +kernel
theorem D_x_speedsAsSeen_21 : decode M_x_speedsAsSeen.2.1 21 = .ok (.lshl, 1) := by decide +kernel
theorem D_x_speedsAsSeen_22 : decode M_x_speedsAsSeen.2.1 22 = .ok (.lor, 1) := by decide +kernel
theorem D_x_speedsAsSeen_23 : decode M_x_speedsAsSeen.2.1 23 = .ok (.lstore_n 1, 1) := by decide +kernel
theorem D_x_speedsAsSeen_24 : decode M_x_speedsAsSeen.2.1 24 = .ok (.iinc 3 1, 3) := by decide +kernel
theorem D_x_speedsAsSeen_27 : decode M_x_speedsAsSeen.2.1 27 = .ok (.goto (-23), 3) := by decide +kernel
theorem D_x_speedsAsSeen_30 : decode M_x_speedsAsSeen.2.1 30 = .ok (.lload_n 1, 1) := by decide +kernel
theorem D_x_speedsAsSeen_31 : decode M_x_speedsAsSeen.2.1 31 = .ok (.lreturn, 1) := by decide +kernel
theorem D_x_mostOfOneColour_0 : decode M_x_mostOfOneColour.2.1 0 = .ok (.aload_n 0, 1) := by decide +kernel
theorem D_x_mostOfOneColour_1 : decode M_x_mostOfOneColour.2.1 1 = .ok (.getfield 87, 3) := by decide +kernel
theorem D_x_mostOfOneColour_4 : decode M_x_mostOfOneColour.2.1 4 = .ok (.iconst 0, 1) := by decide +kernel
theorem D_x_mostOfOneColour_5 : decode M_x_mostOfOneColour.2.1 5 = .ok (.invokestatic 289, 3) := by decide +kernel
theorem D_x_mostOfOneColour_8 : decode M_x_mostOfOneColour.2.1 8 = .ok (.iconst 0, 1) := by decide +kernel
theorem D_x_mostOfOneColour_9 : decode M_x_mostOfOneColour.2.1 9 = .ok (.istore 4, 2) := by decide +kernel
theorem D_x_mostOfOneColour_11 : decode M_x_mostOfOneColour.2.1 11 = .ok (.iconst 1, 1) := by decide +kernel
theorem D_x_mostOfOneColour_12 : decode M_x_mostOfOneColour.2.1 12 = .ok (.istore 5, 2) := by decide +kernel
theorem D_x_mostOfOneColour_14 : decode M_x_mostOfOneColour.2.1 14 = .ok (.iload 5, 2) := by decide +kernel
theorem D_x_mostOfOneColour_16 : decode M_x_mostOfOneColour.2.1 16 = .ok (.bipush 60, 2) := by decide +kernel
theorem D_x_mostOfOneColour_18 : decode M_x_mostOfOneColour.2.1 18 = .ok (.if_icmp .gt 54, 3) := by decide +kernel
theorem D_x_mostOfOneColour_21 : decode M_x_mostOfOneColour.2.1 21 = .ok (.lload_n 2, 1) := by decide +kernel
theorem D_x_mostOfOneColour_22 : decode M_x_mostOfOneColour.2.1 22 = .ok (.iload 5, 2) := by decide +kernel
theorem D_x_mostOfOneColour_24 : decode M_x_mostOfOneColour.2.1 24 = .ok (.lshr, 1) := by decide +kernel
theorem D_x_mostOfOneColour_25 : decode M_x_mostOfOneColour.2.1 25 = .ok (.lconst 1, 1) := by decide +kernel
theorem D_x_mostOfOneColour_26 : decode M_x_mostOfOneColour.2.1 26 = .ok (.land, 1) := by decide +kernel
theorem D_x_mostOfOneColour_27 : decode M_x_mostOfOneColour.2.1 27 = .ok (.lconst 1, 1) := by decide +kernel
theorem D_x_mostOfOneColour_28 : decode M_x_mostOfOneColour.2.1 28 = .ok (.lcmp, 1) := by decide +kernel
theorem D_x_mostOfOneColour_29 : decode M_x_mostOfOneColour.2.1 29 = .ok (.ifCond .ne 37, 3) := by decide +kernel
theorem D_x_mostOfOneColour_32 : decode M_x_mostOfOneColour.2.1 32 = .ok (.aload_n 0, 1) := by decide +kernel
theorem D_x_mostOfOneColour_33 : decode M_x_mostOfOneColour.2.1 33 = .ok (.iload_n 1, 1) := by decide +kernel
theorem D_x_mostOfOneColour_34 : decode M_x_mostOfOneColour.2.1 34 = .ok (.iload 5, 2) := by decide +kernel
theorem D_x_mostOfOneColour_36 : decode M_x_mostOfOneColour.2.1 36 = .ok (.invokevirtual 196, 3) := by decide +kernel
theorem D_x_mostOfOneColour_39 : decode M_x_mostOfOneColour.2.1 39 = .ok (.istore 6, 2) := by decide +kernel
theorem D_x_mostOfOneColour_41 : decode M_x_mostOfOneColour.2.1 41 = .ok (.aload_n 0, 1) := by decide +kernel
theorem D_x_mostOfOneColour_42 : decode M_x_mostOfOneColour.2.1 42 = .ok (.getfield 87, 3) := by decide +kernel
theorem D_x_mostOfOneColour_45 : decode M_x_mostOfOneColour.2.1 45 = .ok (.iload 6, 2) := by decide +kernel
theorem D_x_mostOfOneColour_47 : decode M_x_mostOfOneColour.2.1 47 = .ok (.dup2, 1) := by decide +kernel
theorem D_x_mostOfOneColour_48 : decode M_x_mostOfOneColour.2.1 48 = .ok (.iaload, 1) := by decide +kernel
theorem D_x_mostOfOneColour_49 : decode M_x_mostOfOneColour.2.1 49 = .ok (.iconst 1, 1) := by decide +kernel
theorem D_x_mostOfOneColour_50 : decode M_x_mostOfOneColour.2.1 50 = .ok (.iadd, 1) := by decide +kernel
theorem D_x_mostOfOneColour_51 : decode M_x_mostOfOneColour.2.1 51 = .ok (.iastore, 1) := by decide +kernel
theorem D_x_mostOfOneColour_52 : decode M_x_mostOfOneColour.2.1 52 = .ok (.iload 4, 2) := by decide +kernel
theorem D_x_mostOfOneColour_54 : decode M_x_mostOfOneColour.2.1 54 = .ok (.aload_n 0, 1) := by decide +kernel
theorem D_x_mostOfOneColour_55 : decode M_x_mostOfOneColour.2.1 55 = .ok (.getfield 87, 3) := by decide +kernel
theorem D_x_mostOfOneColour_58 : decode M_x_mostOfOneColour.2.1 58 = .ok (.iload 6, 2) := by decide +kernel
theorem D_x_mostOfOneColour_60 : decode M_x_mostOfOneColour.2.1 60 = .ok (.iaload, 1) := by decide +kernel
theorem D_x_mostOfOneColour_61 : decode M_x_mostOfOneColour.2.1 61 = .ok (.invokestatic 308, 3) := by decide +kernel
theorem D_x_mostOfOneColour_64 : decode M_x_mostOfOneColour.2.1 64 = .ok (.istore 4, 2) := by decide +kernel
theorem D_x_mostOfOneColour_66 : decode M_x_mostOfOneColour.2.1 66 = .ok (.iinc 5 1, 3) := by decide +kernel
theorem D_x_mostOfOneColour_69 : decode M_x_mostOfOneColour.2.1 69 = .ok (.goto (-55), 3) := by decide +kernel
theorem D_x_mostOfOneColour_72 : decode M_x_mostOfOneColour.2.1 72 = .ok (.iload 4, 2) := by decide +kernel
theorem D_x_mostOfOneColour_74 : decode M_x_mostOfOneColour.2.1 74 = .ok (.ireturn, 1) := by decide +kernel
theorem D_x_findLaws_0 : decode M_x_findLaws.2.1 0 = .ok (.iconst 0, 1) := by decide +kernel
theorem D_x_findLaws_1 : decode M_x_findLaws.2.1 1 = .ok (.istore_n 1, 1) := by decide +kernel
theorem D_x_findLaws_2 : decode M_x_findLaws.2.1 2 = .ok (.iconst 0, 1) := by decide +kernel
theorem D_x_findLaws_3 : decode M_x_findLaws.2.1 3 = .ok (.istore_n 2, 1) := by decide +kernel
theorem D_x_findLaws_4 : decode M_x_findLaws.2.1 4 = .ok (.iload_n 2, 1) := by decide +kernel
theorem D_x_findLaws_5 : decode M_x_findLaws.2.1 5 = .ok (.bipush 9, 2) := by decide +kernel
theorem D_x_findLaws_7 : decode M_x_findLaws.2.1 7 = .ok (.if_icmp .gt 56, 3) := by decide +kernel
theorem D_x_findLaws_10 : decode M_x_findLaws.2.1 10 = .ok (.iconst 1, 1) := by decide +kernel
theorem D_x_findLaws_11 : decode M_x_findLaws.2.1 11 = .ok (.istore_n 3, 1) := by decide +kernel
theorem D_x_findLaws_12 : decode M_x_findLaws.2.1 12 = .ok (.iload_n 3, 1) := by decide +kernel
theorem D_x_findLaws_13 : decode M_x_findLaws.2.1 13 = .ok (.bipush 9, 2) := by decide +kernel
theorem D_x_findLaws_15 : decode M_x_findLaws.2.1 15 = .ok (.if_icmp .gt 42, 3) := by decide +kernel
theorem D_x_findLaws_18 : decode M_x_findLaws.2.1 18 = .ok (.aload_n 0, 1) := by decide +kernel
theorem D_x_findLaws_19 : decode M_x_findLaws.2.1 19 = .ok (.iload_n 2, 1) := by decide +kernel
theorem D_x_findLaws_20 : decode M_x_findLaws.2.1 20 = .ok (.iload_n 3, 1) := by decide +kernel
theorem D_x_findLaws_21 : decode M_x_findLaws.2.1 21 = .ok (.invokevirtual 311, 3) := by decide +kernel
theorem D_x_findLaws_24 : decode M_x_findLaws.2.1 24 = .ok (.ifCond .eq 27, 3) := by decide +kernel
theorem D_x_findLaws_27 : decode M_x_findLaws.2.1 27 = .ok (.iload_n 1, 1) := by decide +kernel
theorem D_x_findLaws_28 : decode M_x_findLaws.2.1 28 = .ok (.aload_n 0, 1) := by decide +kernel
theorem D_x_findLaws_29 : decode M_x_findLaws.2.1 29 = .ok (.getfield 80, 3) := by decide +kernel
theorem D_x_findLaws_32 : decode M_x_findLaws.2.1 32 = .ok (.arraylength, 1) := by decide +kernel
theorem D_x_findLaws_33 : decode M_x_findLaws.2.1 33 = .ok (.if_icmp .ge 18, 3) := by decide +kernel
theorem D_x_findLaws_36 : decode M_x_findLaws.2.1 36 = .ok (.aload_n 0, 1) := by decide +kernel
theorem D_x_findLaws_37 : decode M_x_findLaws.2.1 37 = .ok (.getfield 80, 3) := by decide +kernel
theorem D_x_findLaws_40 : decode M_x_findLaws.2.1 40 = .ok (.iload_n 1, 1) := by decide +kernel
theorem D_x_findLaws_41 : decode M_x_findLaws.2.1 41 = .ok (.bipush 10, 2) := by decide +kernel
theorem D_x_findLaws_43 : decode M_x_findLaws.2.1 43 = .ok (.iload_n 2, 1) := by decide +kernel
theorem D_x_findLaws_44 : decode M_x_findLaws.2.1 44 = .ok (.imul, 1) := by decide +kernel
theorem D_x_findLaws_45 : decode M_x_findLaws.2.1 45 = .ok (.iload_n 3, 1) := by decide +kernel
theorem D_x_findLaws_46 : decode M_x_findLaws.2.1 46 = .ok (.iadd, 1) := by decide +kernel
theorem D_x_findLaws_47 : decode M_x_findLaws.2.1 47 = .ok (.iastore, 1) := by decide +kernel
theorem D_x_findLaws_48 : decode M_x_findLaws.2.1 48 = .ok (.iinc 1 1, 3) := by decide +kernel
theorem D_x_findLaws_51 : decode M_x_findLaws.2.1 51 = .ok (.iinc 3 1, 3) := by decide +kernel
theorem D_x_findLaws_54 : decode M_x_findLaws.2.1 54 = .ok (.goto (-42), 3) := by decide +kernel
theorem D_x_findLaws_57 : decode M_x_findLaws.2.1 57 = .ok (.iinc 2 1, 3) := by decide +kernel
theorem D_x_findLaws_60 : decode M_x_findLaws.2.1 60 = .ok (.goto (-56), 3) := by decide +kernel
theorem D_x_findLaws_63 : decode M_x_findLaws.2.1 63 = .ok (.iload_n 1, 1) := by decide +kernel
theorem D_x_findLaws_64 : decode M_x_findLaws.2.1 64 = .ok (.ireturn, 1) := by decide +kernel
theorem D_x_isAsHeard_0 : decode M_x_isAsHeard.2.1 0 = .ok (.iconst 0, 1) := by decide +kernel
theorem D_x_isAsHeard_1 : decode M_x_isAsHeard.2.1 1 = .ok (.istore_n 3, 1) := by decide +kernel
theorem D_x_isAsHeard_2 : decode M_x_isAsHeard.2.1 2 = .ok (.iload_n 3, 1) := by decide +kernel
theorem D_x_isAsHeard_3 : decode M_x_isAsHeard.2.1 3 = .ok (.aload_n 0, 1) := by decide +kernel
theorem D_x_isAsHeard_4 : decode M_x_isAsHeard.2.1 4 = .ok (.getfield 48, 3) := by decide +kernel
theorem D_x_isAsHeard_7 : decode M_x_isAsHeard.2.1 7 = .ok (.getfield 119, 3) := by decide +kernel
theorem D_x_isAsHeard_10 : decode M_x_isAsHeard.2.1 10 = .ok (.if_icmp .ge 37, 3) := by decide +kernel
theorem D_x_isAsHeard_13 : decode M_x_isAsHeard.2.1 13 = .ok (.aload_n 0, 1) := by decide +kernel
theorem D_x_isAsHeard_14 : decode M_x_isAsHeard.2.1 14 = .ok (.getfield 48, 3) := by decide +kernel
theorem D_x_isAsHeard_17 : decode M_x_isAsHeard.2.1 17 = .ok (.getfield 302, 3) := by decide +kernel
theorem D_x_isAsHeard_20 : decode M_x_isAsHeard.2.1 20 = .ok (.iload_n 3, 1) := by decide +kernel
theorem D_x_isAsHeard_21 : decode M_x_isAsHeard.2.1 21 = .ok (.iaload, 1) := by decide +kernel
theorem D_x_isAsHeard_22 : decode M_x_isAsHeard.2.1 22 = .ok (.iload_n 1, 1) := by decide +kernel
theorem D_x_isAsHeard_23 : decode M_x_isAsHeard.2.1 23 = .ok (.iload_n 2, 1) := by decide +kernel
theorem D_x_isAsHeard_24 : decode M_x_isAsHeard.2.1 24 = .ok (.invokestatic 314, 3) := by decide +kernel
theorem D_x_isAsHeard_27 : decode M_x_isAsHeard.2.1 27 = .ok (.aload_n 0, 1) := by decide +kernel
theorem D_x_isAsHeard_28 : decode M_x_isAsHeard.2.1 28 = .ok (.getfield 48, 3) := by decide +kernel
theorem D_x_isAsHeard_31 : decode M_x_isAsHeard.2.1 31 = .ok (.getfield 305, 3) := by decide +kernel
theorem D_x_isAsHeard_34 : decode M_x_isAsHeard.2.1 34 = .ok (.iload_n 3, 1) := by decide +kernel
theorem D_x_isAsHeard_35 : decode M_x_isAsHeard.2.1 35 = .ok (.iaload, 1) := by decide +kernel
theorem D_x_isAsHeard_36 : decode M_x_isAsHeard.2.1 36 = .ok (.if_icmp .eq 5, 3) := by decide +kernel
theorem D_x_isAsHeard_39 : decode M_x_isAsHeard.2.1 39 = .ok (.iconst 0, 1) := by decide +kernel
theorem D_x_isAsHeard_40 : decode M_x_isAsHeard.2.1 40 = .ok (.ireturn, 1) := by decide +kernel
theorem D_x_isAsHeard_41 : decode M_x_isAsHeard.2.1 41 = .ok (.iinc 3 1, 3) := by decide +kernel
theorem D_x_isAsHeard_44 : decode M_x_isAsHeard.2.1 44 = .ok (.goto (-42), 3) := by decide +kernel
theorem D_x_isAsHeard_47 : decode M_x_isAsHeard.2.1 47 = .ok (.iconst 1, 1) := by decide +kernel
theorem D_x_isAsHeard_48 : decode M_x_isAsHeard.2.1 48 = .ok (.ireturn, 1) := by decide +kernel
theorem D_x_mostOfOneSound_0 : decode M_x_mostOfOneSound.2.1 0 = .ok (.aload_n 0, 1) := by decide +kernel
theorem D_x_mostOfOneSound_1 : decode M_x_mostOfOneSound.2.1 1 = .ok (.getfield 84, 3) := by decide +kernel
theorem D_x_mostOfOneSound_4 : decode M_x_mostOfOneSound.2.1 4 = .ok (.iconst 0, 1) := by decide +kernel
theorem D_x_mostOfOneSound_5 : decode M_x_mostOfOneSound.2.1 5 = .ok (.invokestatic 289, 3) := by decide +kernel
theorem D_x_mostOfOneSound_8 : decode M_x_mostOfOneSound.2.1 8 = .ok (.iconst 0, 1) := by decide +kernel
theorem D_x_mostOfOneSound_9 : decode M_x_mostOfOneSound.2.1 9 = .ok (.istore_n 3, 1) := by decide +kernel
theorem D_x_mostOfOneSound_10 : decode M_x_mostOfOneSound.2.1 10 = .ok (.iconst 0, 1) := by decide +kernel
theorem D_x_mostOfOneSound_11 : decode M_x_mostOfOneSound.2.1 11 = .ok (.istore 4, 2) := by decide +kernel
theorem D_x_mostOfOneSound_13 : decode M_x_mostOfOneSound.2.1 13 = .ok (.iload 4, 2) := by decide +kernel
theorem D_x_mostOfOneSound_15 : decode M_x_mostOfOneSound.2.1 15 = .ok (.iload_n 2, 1) := by decide +kernel
theorem D_x_mostOfOneSound_16 : decode M_x_mostOfOneSound.2.1 16 = .ok (.if_icmp .ge 80, 3) := by decide +kernel
theorem D_x_mostOfOneSound_19 : decode M_x_mostOfOneSound.2.1 19 = .ok (.iload 4, 2) := by decide +kernel
theorem D_x_mostOfOneSound_21 : decode M_x_mostOfOneSound.2.1 21 = .ok (.aload_n 0, 1) := by decide +kernel
theorem D_x_mostOfOneSound_22 : decode M_x_mostOfOneSound.2.1 22 = .ok (.getfield 80, 3) := by decide +kernel
theorem D_x_mostOfOneSound_25 : decode M_x_mostOfOneSound.2.1 25 = .ok (.arraylength, 1) := by decide +kernel
theorem D_x_mostOfOneSound_26 : decode M_x_mostOfOneSound.2.1 26 = .ok (.if_icmp .ge 70, 3) := by decide +kernel
theorem D_x_mostOfOneSound_29 : decode M_x_mostOfOneSound.2.1 29 = .ok (.iload_n 1, 1) := by decide +kernel
theorem D_x_mostOfOneSound_30 : decode M_x_mostOfOneSound.2.1 30 = .ok (.aload_n 0, 1) := by decide +kernel
theorem D_x_mostOfOneSound_31 : decode M_x_mostOfOneSound.2.1 31 = .ok (.getfield 80, 3) := by decide +kernel
theorem D_x_mostOfOneSound_34 : decode M_x_mostOfOneSound.2.1 34 = .ok (.iload 4, 2) := by decide +kernel
theorem D_x_mostOfOneSound_36 : decode M_x_mostOfOneSound.2.1 36 = .ok (.iaload, 1) := by decide +kernel
theorem D_x_mostOfOneSound_37 : decode M_x_mostOfOneSound.2.1 37 = .ok (.bipush 10, 2) := by decide +kernel
theorem D_x_mostOfOneSound_39 : decode M_x_mostOfOneSound.2.1 39 = .ok (.idiv, 1) := by decide +kernel
theorem D_x_mostOfOneSound_40 : decode M_x_mostOfOneSound.2.1 40 = .ok (.aload_n 0, 1) := by decide +kernel
theorem D_x_mostOfOneSound_41 : decode M_x_mostOfOneSound.2.1 41 = .ok (.getfield 80, 3) := by decide +kernel
theorem D_x_mostOfOneSound_44 : decode M_x_mostOfOneSound.2.1 44 = .ok (.iload 4, 2) := by decide +kernel
theorem D_x_mostOfOneSound_46 : decode M_x_mostOfOneSound.2.1 46 = .ok (.iaload, 1) := by decide +kernel
theorem D_x_mostOfOneSound_47 : decode M_x_mostOfOneSound.2.1 47 = .ok (.bipush 10, 2) := by decide +kernel
theorem D_x_mostOfOneSound_49 : decode M_x_mostOfOneSound.2.1 49 = .ok (.irem, 1) := by decide +kernel
theorem D_x_mostOfOneSound_50 : decode M_x_mostOfOneSound.2.1 50 = .ok (.invokestatic 314, 3) := by decide +kernel
theorem D_x_mostOfOneSound_53 : decode M_x_mostOfOneSound.2.1 53 = .ok (.istore 5, 2) := by decide +kernel
theorem D_x_mostOfOneSound_55 : decode M_x_mostOfOneSound.2.1 55 = .ok (.iload 5, 2) := by decide +kernel
theorem D_x_mostOfOneSound_57 : decode M_x_mostOfOneSound.2.1 57 = .ok (.iconst 0, 1) := by decide +kernel
theorem D_x_mostOfOneSound_58 : decode M_x_mostOfOneSound.2.1 58 = .ok (.sipush 382, 3) := by decide +kernel
theorem D_x_mostOfOneSound_61 : decode M_x_mostOfOneSound.2.1 61 = .ok (.invokestatic 99, 3) := by decide +kernel
theorem D_x_mostOfOneSound_64 : decode M_x_mostOfOneSound.2.1 64 = .ok (.ifCond .eq 26, 3) := by decide +kernel
theorem D_x_mostOfOneSound_67 : decode M_x_mostOfOneSound.2.1 67 = .ok (.aload_n 0, 1) := by decide +kernel
theorem D_x_mostOfOneSound_68 : decode M_x_mostOfOneSound.2.1 68 = .ok (.getfield 84, 3) := by decide +kernel
theorem D_x_mostOfOneSound_71 : decode M_x_mostOfOneSound.2.1 71 = .ok (.iload 5, 2) := by decide +kernel
theorem D_x_mostOfOneSound_73 : decode M_x_mostOfOneSound.2.1 73 = .ok (.dup2, 1) := by decide +kernel
theorem D_x_mostOfOneSound_74 : decode M_x_mostOfOneSound.2.1 74 = .ok (.iaload, 1) := by decide +kernel
theorem D_x_mostOfOneSound_75 : decode M_x_mostOfOneSound.2.1 75 = .ok (.iconst 1, 1) := by decide +kernel
theorem D_x_mostOfOneSound_76 : decode M_x_mostOfOneSound.2.1 76 = .ok (.iadd, 1) := by decide +kernel
theorem D_x_mostOfOneSound_77 : decode M_x_mostOfOneSound.2.1 77 = .ok (.iastore, 1) := by decide +kernel
theorem D_x_mostOfOneSound_78 : decode M_x_mostOfOneSound.2.1 78 = .ok (.iload_n 3, 1) := by decide +kernel
theorem D_x_mostOfOneSound_79 : decode M_x_mostOfOneSound.2.1 79 = .ok (.aload_n 0, 1) := by decide +kernel
theorem D_x_mostOfOneSound_80 : decode M_x_mostOfOneSound.2.1 80 = .ok (.getfield 84, 3) := by decide +kernel
theorem D_x_mostOfOneSound_83 : decode M_x_mostOfOneSound.2.1 83 = .ok (.iload 5, 2) := by decide +kernel
theorem D_x_mostOfOneSound_85 : decode M_x_mostOfOneSound.2.1 85 = .ok (.iaload, 1) := by decide +kernel
theorem D_x_mostOfOneSound_86 : decode M_x_mostOfOneSound.2.1 86 = .ok (.invokestatic 308, 3) := by decide +kernel
theorem D_x_mostOfOneSound_89 : decode M_x_mostOfOneSound.2.1 89 = .ok (.istore_n 3, 1) := by decide +kernel
theorem D_x_mostOfOneSound_90 : decode M_x_mostOfOneSound.2.1 90 = .ok (.iinc 4 1, 3) := by decide +kernel
theorem D_x_mostOfOneSound_93 : decode M_x_mostOfOneSound.2.1 93 = .ok (.goto (-80), 3) := by decide +kernel
theorem D_x_mostOfOneSound_96 : decode M_x_mostOfOneSound.2.1 96 = .ok (.iload_n 3, 1) := by decide +kernel
theorem D_x_mostOfOneSound_97 : decode M_x_mostOfOneSound.2.1 97 = .ok (.ireturn, 1) := by decide +kernel
