theorem D_kE_worth_0 : decode M_kE_worth.2.1 0 = .ok (.aload_n 1, 1) := by decide +kernel
theorem D_kE_worth_1 : decode M_kE_worth.2.1 1 = .ok (.dup, 1) := by decide +kernel
theorem D_kE_worth_2 : decode M_kE_worth.2.1 2 = .ok (.getfield 7, 3) := by decide +kernel
theorem D_kE_worth_5 : decode M_kE_worth.2.1 5 = .ok (.ldc2_w 13, 3) := by decide +kernel
theorem D_kE_worth_8 : decode M_kE_worth.2.1 8 = .ok (.ladd, 1) := by decide +kernel
theorem D_kE_worth_9 : decode M_kE_worth.2.1 9 = .ok (.putfield 7, 3) := by decide +kernel
theorem D_kE_worth_12 : decode M_kE_worth.2.1 12 = .ok (.aload_n 0, 1) := by decide +kernel
theorem D_kE_worth_13 : decode M_kE_worth.2.1 13 = .ok (.aload_n 1, 1) := by decide +kernel
theorem D_kE_worth_14 : decode M_kE_worth.2.1 14 = .ok (.invokespecial 15, 3) := by decide +kernel
theorem D_kE_worth_17 : decode M_kE_worth.2.1 17 = .ok (.aload_n 1, 1) := by decide +kernel
theorem D_kE_worth_18 : decode M_kE_worth.2.1 18 = .ok (.getfield 19, 3) := by decide +kernel
theorem D_kE_worth_21 : decode M_kE_worth.2.1 21 = .ok (.isub, 1) := by decide +kernel
theorem D_kE_worth_22 : decode M_kE_worth.2.1 22 = .ok (.ireturn, 1) := by decide +kernel
theorem D_kB_worth_0 : decode M_kB_worth.2.1 0 = .ok (.aload_n 1, 1) := by decide +kernel
theorem D_kB_worth_1 : decode M_kB_worth.2.1 1 = .ok (.dup, 1) := by decide +kernel
theorem D_kB_worth_2 : decode M_kB_worth.2.1 2 = .ok (.getfield 7, 3) := by decide +kernel
theorem D_kB_worth_5 : decode M_kB_worth.2.1 5 = .ok (.ldc2_w 13, 3) := by decide +kernel
theorem D_kB_worth_8 : decode M_kB_worth.2.1 8 = .ok (.ladd, 1) := by decide +kernel
theorem D_kB_worth_9 : decode M_kB_worth.2.1 9 = .ok (.putfield 7, 3) := by decide +kernel
theorem D_kB_worth_12 : decode M_kB_worth.2.1 12 = .ok (.aload_n 0, 1) := by decide +kernel
theorem D_kB_worth_13 : decode M_kB_worth.2.1 13 = .ok (.aload_n 1, 1) := by decide +kernel
theorem D_kB_worth_14 : decode M_kB_worth.2.1 14 = .ok (.invokespecial 15, 3) := by decide +kernel
theorem D_kB_worth_17 : decode M_kB_worth.2.1 17 = .ok (.aload_n 1, 1) := by decide +kernel
theorem D_kB_worth_18 : decode M_kB_worth.2.1 18 = .ok (.getfield 19, 3) := by decide +kernel
theorem D_kB_worth_21 : decode M_kB_worth.2.1 21 = .ok (.iadd, 1) := by decide +kernel
theorem D_kB_worth_22 : decode M_kB_worth.2.1 22 = .ok (.ireturn, 1) := by decide +kernel
theorem D_kC_worth_0 : decode M_kC_worth.2.1 0 = .ok (.aload_n 1, 1) := by decide +kernel
theorem D_kC_worth_1 : decode M_kC_worth.2.1 1 = .ok (.dup, 1) := by decide +kernel
theorem D_kC_worth_2 : decode M_kC_worth.2.1 2 = .ok (.getfield 7, 3) := by decide +kernel
theorem D_kC_worth_5 : decode M_kC_worth.2.1 5 = .ok (.ldc2_w 13, 3) := by decide +kernel
theorem D_kC_worth_8 : decode M_kC_worth.2.1 8 = .ok (.ladd, 1) := by decide +kernel
theorem D_kC_worth_9 : decode M_kC_worth.2.1 9 = .ok (.putfield 7, 3) := by decide +kernel
theorem D_kC_worth_12 : decode M_kC_worth.2.1 12 = .ok (.aload_n 0, 1) := by decide +kernel
theorem D_kC_worth_13 : decode M_kC_worth.2.1 13 = .ok (.aload_n 1, 1) := by decide +kernel
theorem D_kC_worth_14 : decode M_kC_worth.2.1 14 = .ok (.invokespecial 15, 3) := by decide +kernel
theorem D_kC_worth_17 : decode M_kC_worth.2.1 17 = .ok (.iconst 2, 1) := by decide +kernel
theorem D_kC_worth_18 : decode M_kC_worth.2.1 18 = .ok (.imul, 1) := by decide +kernel
theorem D_kC_worth_19 : decode M_kC_worth.2.1 19 = .ok (.ireturn, 1) := by decide +kernel
theorem D_kD_worth_0 : decode M_kD_worth.2.1 0 = .ok (.aload_n 1, 1) := by decide +kernel
theorem D_kD_worth_1 : decode M_kD_worth.2.1 1 = .ok (.dup, 1) := by decide +kernel
theorem D_kD_worth_2 : decode M_kD_worth.2.1 2 = .ok (.getfield 7, 3) := by decide +kernel
theorem D_kD_worth_5 : decode M_kD_worth.2.1 5 = .ok (.ldc2_w 13, 3) := by decide +kernel
theorem D_kD_worth_8 : decode M_kD_worth.2.1 8 = .ok (.ladd, 1) := by decide +kernel
theorem D_kD_worth_9 : decode M_kD_worth.2.1 9 = .ok (.putfield 7, 3) := by decide +kernel
theorem D_kD_worth_12 : decode M_kD_worth.2.1 12 = .ok (.aload_n 0, 1) := by decide +kernel
theorem D_kD_worth_13 : decode M_kD_worth.2.1 13 = .ok (.aload_n 1, 1) := by decide +kernel
theorem D_kD_worth_14 : decode M_kD_worth.2.1 14 = .ok (.invokespecial 15, 3) := by decide +kernel
theorem D_kD_worth_17 : decode M_kD_worth.2.1 17 = .ok (.aload_n 1, 1) := by decide +kernel
theorem D_kD_worth_18 : decode M_kD_worth.2.1 18 = .ok (.getfield 19, 3) := by decide +kernel
theorem D_kD_worth_21 : decode M_kD_worth.2.1 21 = .ok (.iadd, 1) := by decide +kernel
theorem D_kD_worth_22 : decode M_kD_worth.2.1 22 = .ok (.ireturn, 1) := by decide +kernel
theorem D_d_debt_0 : decode M_d_debt.2.1 0 = .ok (.bipush 16, 2) := by decide +kernel
theorem D_d_debt_2 : decode M_d_debt.2.1 2 = .ok (.iload_n 0, 1) := by decide +kernel
theorem D_d_debt_3 : decode M_d_debt.2.1 3 = .ok (.bipush 6, 2) := by decide +kernel
theorem D_d_debt_5 : decode M_d_debt.2.1 5 = .ok (.imul, 1) := by decide +kernel
theorem D_d_debt_6 : decode M_d_debt.2.1 6 = .ok (.iadd, 1) := by decide +kernel
theorem D_d_debt_7 : decode M_d_debt.2.1 7 = .ok (.iload_n 1, 1) := by decide +kernel
theorem D_d_debt_8 : decode M_d_debt.2.1 8 = .ok (.iadd, 1) := by decide +kernel
theorem D_d_debt_9 : decode M_d_debt.2.1 9 = .ok (.ireturn, 1) := by decide +kernel
theorem D_d_value_0 : decode M_d_value.2.1 0 = .ok (.aload_n 0, 1) := by decide +kernel
theorem D_d_value_1 : decode M_d_value.2.1 1 = .ok (.getfield 15, 3) := by decide +kernel
theorem D_d_value_4 : decode M_d_value.2.1 4 = .ok (.bipush 52, 2) := by decide +kernel
theorem D_d_value_6 : decode M_d_value.2.1 6 = .ok (.imul, 1) := by decide +kernel
theorem D_d_value_7 : decode M_d_value.2.1 7 = .ok (.iload_n 1, 1) := by decide +kernel
theorem D_d_value_8 : decode M_d_value.2.1 8 = .ok (.iadd, 1) := by decide +kernel
theorem D_d_value_9 : decode M_d_value.2.1 9 = .ok (.istore_n 2, 1) := by decide +kernel
theorem D_d_value_10 : decode M_d_value.2.1 10 = .ok (.iload_n 2, 1) := by decide +kernel
theorem D_d_value_11 : decode M_d_value.2.1 11 = .ok (.ifCond .lt 21, 3) := by decide +kernel
theorem D_d_value_14 : decode M_d_value.2.1 14 = .ok (.iload_n 2, 1) := by decide +kernel
theorem D_d_value_15 : decode M_d_value.2.1 15 = .ok (.aload_n 0, 1) := by decide +kernel
theorem D_d_value_16 : decode M_d_value.2.1 16 = .ok (.getfield 11, 3) := by decide +kernel
theorem D_d_value_19 : decode M_d_value.2.1 19 = .ok (.arraylength, 1) := by decide +kernel
theorem D_d_value_20 : decode M_d_value.2.1 20 = .ok (.if_icmp .ge 12, 3) := by decide +kernel
theorem D_d_value_23 : decode M_d_value.2.1 23 = .ok (.aload_n 0, 1) := by decide +kernel
theorem D_d_value_24 : decode M_d_value.2.1 24 = .ok (.getfield 11, 3) := by decide +kernel
theorem D_d_value_27 : decode M_d_value.2.1 27 = .ok (.iload_n 2, 1) := by decide +kernel
theorem D_d_value_28 : decode M_d_value.2.1 28 = .ok (.iaload, 1) := by decide +kernel
theorem D_d_value_29 : decode M_d_value.2.1 29 = .ok (.goto 4, 3) := by decide +kernel
theorem D_d_value_32 : decode M_d_value.2.1 32 = .ok (.iconst 0, 1) := by decide +kernel
theorem D_d_value_33 : decode M_d_value.2.1 33 = .ok (.ireturn, 1) := by decide +kernel
theorem D_d_put_0 : decode M_d_put.2.1 0 = .ok (.aload_n 0, 1) := by decide +kernel
theorem D_d_put_1 : decode M_d_put.2.1 1 = .ok (.getfield 15, 3) := by decide +kernel
theorem D_d_put_4 : decode M_d_put.2.1 4 = .ok (.bipush 52, 2) := by decide +kernel
theorem D_d_put_6 : decode M_d_put.2.1 6 = .ok (.imul, 1) := by decide +kernel
theorem D_d_put_7 : decode M_d_put.2.1 7 = .ok (.iload_n 1, 1) := by decide +kernel
theorem D_d_put_8 : decode M_d_put.2.1 8 = .ok (.iadd, 1) := by decide +kernel
theorem D_d_put_9 : decode M_d_put.2.1 9 = .ok (.istore_n 3, 1) := by decide +kernel
theorem D_d_put_10 : decode M_d_put.2.1 10 = .ok (.iload_n 3, 1) := by decide +kernel
theorem D_d_put_11 : decode M_d_put.2.1 11 = .ok (.ifCond .lt 19, 3) := by decide +kernel
theorem D_d_put_14 : decode M_d_put.2.1 14 = .ok (.iload_n 3, 1) := by decide +kernel
theorem D_d_put_15 : decode M_d_put.2.1 15 = .ok (.aload_n 0, 1) := by decide +kernel
theorem D_d_put_16 : decode M_d_put.2.1 16 = .ok (.getfield 11, 3) := by decide +kernel
theorem D_d_put_19 : decode M_d_put.2.1 19 = .ok (.arraylength, 1) := by decide +kernel
theorem D_d_put_20 : decode M_d_put.2.1 20 = .ok (.if_icmp .ge 10, 3) := by decide +kernel
theorem D_d_put_23 : decode M_d_put.2.1 23 = .ok (.aload_n 0, 1) := by decide +kernel
theorem D_d_put_24 : decode M_d_put.2.1 24 = .ok (.getfield 11, 3) := by decide +kernel
theorem D_d_put_27 : decode M_d_put.2.1 27 = .ok (.iload_n 3, 1) := by decide +kernel
theorem D_d_put_28 : decode M_d_put.2.1 28 = .ok (.iload_n 2, 1) := by decide +kernel
theorem D_d_put_29 : decode M_d_put.2.1 29 = .ok (.iastore, 1) := by decide +kernel
theorem D_d_put_30 : decode M_d_put.2.1 30 = .ok (.return_, 1) := by decide +kernel
theorem D_d_begin_0 : decode M_d_begin.2.1 0 = .ok (.aload_n 0, 1) := by decide +kernel
theorem D_d_begin_1 : decode M_d_begin.2.1 1 = .ok (.getfield 11, 3) := by decide +kernel
theorem D_d_begin_4 : decode M_d_begin.2.1 4 = .ok (.iconst 0, 1) := by decide +kernel
theorem D_d_begin_5 : decode M_d_begin.2.1 5 = .ok (.invokestatic 19, 3) := by decide +kernel
theorem D_d_begin_8 : decode M_d_begin.2.1 8 = .ok (.aload_n 0, 1) := by decide +kernel
theorem D_d_begin_9 : decode M_d_begin.2.1 9 = .ok (.iconst 0, 1) := by decide +kernel
theorem D_d_begin_10 : decode M_d_begin.2.1 10 = .ok (.putfield 15, 3) := by decide +kernel
theorem D_d_begin_13 : decode M_d_begin.2.1 13 = .ok (.iconst 0, 1) := by decide +kernel
theorem D_d_begin_14 : decode M_d_begin.2.1 14 = .ok (.istore_n 2, 1) := by decide +kernel
theorem D_d_begin_15 : decode M_d_begin.2.1 15 = .ok (.iload_n 2, 1) := by decide +kernel
theorem D_d_begin_16 : decode M_d_begin.2.1 16 = .ok (.aload_n 1, 1) := by decide +kernel
theorem D_d_begin_17 : decode M_d_begin.2.1 17 = .ok (.getfield 25, 3) := by decide +kernel
theorem D_d_begin_20 : decode M_d_begin.2.1 20 = .ok (.if_icmp .ge 22, 3) := by decide +kernel
theorem D_d_begin_23 : decode M_d_begin.2.1 23 = .ok (.aload_n 0, 1) := by decide +kernel
theorem D_d_begin_24 : decode M_d_begin.2.1 24 = .ok (.iconst 4, 1) := by decide +kernel
theorem D_d_begin_25 : decode M_d_begin.2.1 25 = .ok (.iload_n 2, 1) := by decide +kernel
theorem D_d_begin_26 : decode M_d_begin.2.1 26 = .ok (.iadd, 1) := by decide +kernel
theorem D_d_begin_27 : decode M_d_begin.2.1 27 = .ok (.aload_n 1, 1) := by decide +kernel
theorem D_d_begin_28 : decode M_d_begin.2.1 28 = .ok (.getfield 30, 3) := by decide +kernel
theorem D_d_begin_31 : decode M_d_begin.2.1 31 = .ok (.iload_n 2, 1) := by decide +kernel
theorem D_d_begin_32 : decode M_d_begin.2.1 32 = .ok (.iaload, 1) := by decide +kernel
theorem D_d_begin_33 : decode M_d_begin.2.1 33 = .ok (.invokevirtual 33, 3) := by decide +kernel
theorem D_d_begin_36 : decode M_d_begin.2.1 36 = .ok (.iinc 2 1, 3) := by decide +kernel
theorem D_d_begin_39 : decode M_d_begin.2.1 39 = .ok (.goto (-24), 3) := by decide +kernel
theorem D_d_begin_42 : decode M_d_begin.2.1 42 = .ok (.return_, 1) := by decide +kernel
theorem D_d_remember_0 : decode M_d_remember.2.1 0 = .ok (.aload_n 0, 1) := by decide +kernel
theorem D_d_remember_1 : decode M_d_remember.2.1 1 = .ok (.getfield 15, 3) := by decide +kernel
theorem D_d_remember_4 : decode M_d_remember.2.1 4 = .ok (.bipush 10, 2) := by decide +kernel
theorem D_d_remember_6 : decode M_d_remember.2.1 6 = .ok (.if_icmp .ge 45, 3) := by decide +kernel
theorem D_d_remember_9 : decode M_d_remember.2.1 9 = .ok (.aload_n 0, 1) := by decide +kernel
theorem D_d_remember_10 : decode M_d_remember.2.1 10 = .ok (.getfield 11, 3) := by decide +kernel
theorem D_d_remember_13 : decode M_d_remember.2.1 13 = .ok (.aload_n 0, 1) := by decide +kernel
theorem D_d_remember_14 : decode M_d_remember.2.1 14 = .ok (.getfield 15, 3) := by decide +kernel
theorem D_d_remember_17 : decode M_d_remember.2.1 17 = .ok (.bipush 52, 2) := by decide +kernel
theorem D_d_remember_19 : decode M_d_remember.2.1 19 = .ok (.imul, 1) := by decide +kernel
theorem D_d_remember_20 : decode M_d_remember.2.1 20 = .ok (.aload_n 0, 1) := by decide +kernel
theorem D_d_remember_21 : decode M_d_remember.2.1 21 = .ok (.getfield 11, 3) := by decide +kernel
theorem D_d_remember_24 : decode M_d_remember.2.1 24 = .ok (.aload_n 0, 1) := by decide +kernel
theorem D_d_remember_25 : decode M_d_remember.2.1 25 = .ok (.getfield 15, 3) := by decide +kernel
theorem D_d_remember_28 : decode M_d_remember.2.1 28 = .ok (.iconst 1, 1) := by decide +kernel
theorem D_d_remember_29 : decode M_d_remember.2.1 29 = .ok (.iadd, 1) := by decide +kernel
theorem D_d_remember_30 : decode M_d_remember.2.1 30 = .ok (.bipush 52, 2) := by decide +kernel
theorem D_d_remember_32 : decode M_d_remember.2.1 32 = .ok (.imul, 1) := by decide +kernel
theorem D_d_remember_33 : decode M_d_remember.2.1 33 = .ok (.bipush 52, 2) := by decide +kernel
theorem D_d_remember_35 : decode M_d_remember.2.1 35 = .ok (.invokestatic 37, 3) := by decide +kernel
theorem D_d_remember_38 : decode M_d_remember.2.1 38 = .ok (.aload_n 0, 1) := by decide +kernel
theorem D_d_remember_39 : decode M_d_remember.2.1 39 = .ok (.dup, 1) := by decide +kernel
theorem D_d_remember_40 : decode M_d_remember.2.1 40 = .ok (.getfield 15, 3) := by decide +kernel
theorem D_d_remember_43 : decode M_d_remember.2.1 43 = .ok (.iconst 1, 1) := by decide +kernel
theorem D_d_remember_44 : decode M_d_remember.2.1 44 = .ok (.iadd, 1) := by decide +kernel
theorem D_d_remember_45 : decode M_d_remember.2.1 45 = .ok (.putfield 15, 3) := by decide +kernel
theorem D_d_remember_48 : decode M_d_remember.2.1 48 = .ok (.goto 20, 3) := by decide +kernel
theorem D_d_remember_51 : decode M_d_remember.2.1 51 = .ok (.aload_n 0, 1) := by decide +kernel
theorem D_d_remember_52 : decode M_d_remember.2.1 52 = .ok (.getfield 11, 3) := by decide +kernel
theorem D_d_remember_55 : decode M_d_remember.2.1 55 = .ok (.bipush 52, 2) := by decide +kernel
theorem D_d_remember_57 : decode M_d_remember.2.1 57 = .ok (.aload_n 0, 1) := by decide +kernel
theorem D_d_remember_58 : decode M_d_remember.2.1 58 = .ok (.getfield 11, 3) := by decide +kernel
theorem D_d_remember_61 : decode M_d_remember.2.1 61 = .ok (.iconst 0, 1) := by decide +kernel
theorem D_d_remember_62 : decode M_d_remember.2.1 62 = .ok (.sipush 520, 3) := by decide +kernel
theorem D_d_remember_65 : decode M_d_remember.2.1 65 = .ok (.invokestatic 37, 3) := by decide +kernel
theorem D_d_remember_68 : decode M_d_remember.2.1 68 = .ok (.return_, 1) := by decide +kernel
theorem D_d_become_0 : decode M_d_become.2.1 0 = .ok (.aload_n 1, 1) := by decide +kernel
theorem D_d_become_1 : decode M_d_become.2.1 1 = .ok (.getfield 11, 3) := by decide +kernel
theorem D_d_become_4 : decode M_d_become.2.1 4 = .ok (.iconst 0, 1) := by decide +kernel
theorem D_d_become_5 : decode M_d_become.2.1 5 = .ok (.aload_n 0, 1) := by decide +kernel
theorem D_d_become_6 : decode M_d_become.2.1 6 = .ok (.getfield 11, 3) := by decide +kernel
theorem D_d_become_9 : decode M_d_become.2.1 9 = .ok (.iconst 0, 1) := by decide +kernel
theorem D_d_become_10 : decode M_d_become.2.1 10 = .ok (.aload_n 0, 1) := by decide +kernel
theorem D_d_become_11 : decode M_d_become.2.1 11 = .ok (.getfield 11, 3) := by decide +kernel
theorem D_d_become_14 : decode M_d_become.2.1 14 = .ok (.arraylength, 1) := by decide +kernel
theorem D_d_become_15 : decode M_d_become.2.1 15 = .ok (.invokestatic 37, 3) := by decide +kernel
theorem D_d_become_18 : decode M_d_become.2.1 18 = .ok (.aload_n 0, 1) := by decide +kernel
theorem D_d_become_19 : decode M_d_become.2.1 19 = .ok (.aload_n 1, 1) := by decide +kernel
theorem D_d_become_20 : decode M_d_become.2.1 20 = .ok (.getfield 15, 3) := by decide +kernel
theorem D_d_become_23 : decode M_d_become.2.1 23 = .ok (.putfield 15, 3) := by decide +kernel
theorem D_d_become_26 : decode M_d_become.2.1 26 = .ok (.return_, 1) := by decide +kernel
theorem D_kG_worth_0 : decode M_kG_worth.2.1 0 = .ok (.aload_n 1, 1) := by decide +kernel
theorem D_kG_worth_1 : decode M_kG_worth.2.1 1 = .ok (.dup, 1) := by decide +kernel
theorem D_kG_worth_2 : decode M_kG_worth.2.1 2 = .ok (.getfield 7, 3) := by decide +kernel
theorem D_kG_worth_5 : decode M_kG_worth.2.1 5 = .ok (.ldc2_w 13, 3) := by decide +kernel
theorem D_kG_worth_8 : decode M_kG_worth.2.1 8 = .ok (.ladd, 1) := by decide +kernel
theorem D_kG_worth_9 : decode M_kG_worth.2.1 9 = .ok (.putfield 7, 3) := by decide +kernel
theorem D_kG_worth_12 : decode M_kG_worth.2.1 12 = .ok (.aload_n 0, 1) := by decide +kernel
theorem D_kG_worth_13 : decode M_kG_worth.2.1 13 = .ok (.aload_n 1, 1) := by decide +kernel
theorem D_kG_worth_14 : decode M_kG_worth.2.1 14 = .ok (.invokespecial 15, 3) := by decide +kernel
theorem D_kG_worth_17 : decode M_kG_worth.2.1 17 = .ok (.aload_n 1, 1) := by decide +kernel
theorem D_kG_worth_18 : decode M_kG_worth.2.1 18 = .ok (.getfield 19, 3) := by decide +kernel
theorem D_kG_worth_21 : decode M_kG_worth.2.1 21 = .ok (.iadd, 1) := by decide +kernel
theorem D_kG_worth_22 : decode M_kG_worth.2.1 22 = .ok (.ireturn, 1) := by decide +kernel
theorem D_n_add_0 : decode M_n_add.2.1 0 = .ok (.aload_n 0, 1) := by decide +kernel
theorem D_n_add_1 : decode M_n_add.2.1 1 = .ok (.getfield 18, 3) := by decide +kernel
theorem D_n_add_4 : decode M_n_add.2.1 4 = .ok (.aload_n 0, 1) := by decide +kernel
theorem D_n_add_5 : decode M_n_add.2.1 5 = .ok (.getfield 9, 3) := by decide +kernel
theorem D_n_add_8 : decode M_n_add.2.1 8 = .ok (.arraylength, 1) := by decide +kernel
theorem D_n_add_9 : decode M_n_add.2.1 9 = .ok (.if_icmp .lt 5, 3) := by decide +kernel
theorem D_n_add_12 : decode M_n_add.2.1 12 = .ok (.iconst 0, 1) := by decide +kernel
theorem D_n_add_13 : decode M_n_add.2.1 13 = .ok (.ireturn, 1) := by decide +kernel
theorem D_n_add_14 : decode M_n_add.2.1 14 = .ok (.aload_n 0, 1) := by decide +kernel
theorem D_n_add_15 : decode M_n_add.2.1 15 = .ok (.getfield 9, 3) := by decide +kernel
theorem D_n_add_18 : decode M_n_add.2.1 18 = .ok (.aload_n 0, 1) := by decide +kernel
theorem D_n_add_19 : decode M_n_add.2.1 19 = .ok (.getfield 18, 3) := by decide +kernel
theorem D_n_add_22 : decode M_n_add.2.1 22 = .ok (.iload_n 1, 1) := by decide +kernel
theorem D_n_add_23 : decode M_n_add.2.1 23 = .ok (.iastore, 1) := by decide +kernel
theorem D_n_add_24 : decode M_n_add.2.1 24 = .ok (.aload_n 0, 1) := by decide +kernel
theorem D_n_add_25 : decode M_n_add.2.1 25 = .ok (.getfield 15, 3) := by decide +kernel
theorem D_n_add_28 : decode M_n_add.2.1 28 = .ok (.aload_n 0, 1) := by decide +kernel
theorem D_n_add_29 : decode M_n_add.2.1 29 = .ok (.getfield 18, 3) := by decide +kernel
theorem D_n_add_32 : decode M_n_add.2.1 32 = .ok (.iload_n 2, 1) := by decide +kernel
theorem D_n_add_33 : decode M_n_add.2.1 33 = .ok (.iastore, 1) := by decide +kernel
theorem D_n_add_34 : decode M_n_add.2.1 34 = .ok (.aload_n 0, 1) := by decide +kernel
theorem D_n_add_35 : decode M_n_add.2.1 35 = .ok (.dup, 1) := by decide +kernel
theorem D_n_add_36 : decode M_n_add.2.1 36 = .ok (.getfield 18, 3) := by decide +kernel
theorem D_n_add_39 : decode M_n_add.2.1 39 = .ok (.iconst 1, 1) := by decide +kernel
theorem D_n_add_40 : decode M_n_add.2.1 40 = .ok (.iadd, 1) := by decide +kernel
theorem D_n_add_41 : decode M_n_add.2.1 41 = .ok (.putfield 18, 3) := by decide +kernel
theorem D_n_add_44 : decode M_n_add.2.1 44 = .ok (.iconst 1, 1) := by decide +kernel
theorem D_n_add_45 : decode M_n_add.2.1 45 = .ok (.ireturn, 1) := by decide +kernel
theorem D_kO_worth_0 : decode M_kO_worth.2.1 0 = .ok (.aload_n 1, 1) := by decide +kernel
theorem D_kO_worth_1 : decode M_kO_worth.2.1 1 = .ok (.dup, 1) := by decide +kernel
theorem D_kO_worth_2 : decode M_kO_worth.2.1 2 = .ok (.getfield 7, 3) := by decide +kernel
theorem D_kO_worth_5 : decode M_kO_worth.2.1 5 = .ok (.lconst 1, 1) := by decide +kernel
theorem D_kO_worth_6 : decode M_kO_worth.2.1 6 = .ok (.ladd, 1) := by decide +kernel
theorem D_kO_worth_7 : decode M_kO_worth.2.1 7 = .ok (.putfield 7, 3) := by decide +kernel
theorem D_kO_worth_10 : decode M_kO_worth.2.1 10 = .ok (.aload_n 1, 1) := by decide +kernel
theorem D_kO_worth_11 : decode M_kO_worth.2.1 11 = .ok (.getfield 13, 3) := by decide +kernel
theorem D_kO_worth_14 : decode M_kO_worth.2.1 14 = .ok (.ireturn, 1) := by decide +kernel
theorem D_t_add_0 : decode M_t_add.2.1 0 = .ok (.aload_n 0, 1) := by decide +kernel
theorem D_t_add_1 : decode M_t_add.2.1 1 = .ok (.getfield 15, 3) := by decide +kernel
theorem D_t_add_4 : decode M_t_add.2.1 4 = .ok (.aload_n 0, 1) := by decide +kernel
theorem D_t_add_5 : decode M_t_add.2.1 5 = .ok (.getfield 9, 3) := by decide +kernel
theorem D_t_add_8 : decode M_t_add.2.1 8 = .ok (.arraylength, 1) := by decide +kernel
theorem D_t_add_9 : decode M_t_add.2.1 9 = .ok (.if_icmp .lt 5, 3) := by decide +kernel
theorem D_t_add_12 : decode M_t_add.2.1 12 = .ok (.iconst 0, 1) := by decide +kernel
theorem D_t_add_13 : decode M_t_add.2.1 13 = .ok (.ireturn, 1) := by decide +kernel
theorem D_t_add_14 : decode M_t_add.2.1 14 = .ok (.aload_n 0, 1) := by decide +kernel
theorem D_t_add_15 : decode M_t_add.2.1 15 = .ok (.getfield 9, 3) := by decide +kernel
theorem D_t_add_18 : decode M_t_add.2.1 18 = .ok (.aload_n 0, 1) := by decide +kernel
theorem D_t_add_19 : decode M_t_add.2.1 19 = .ok (.getfield 15, 3) := by decide +kernel
theorem D_t_add_22 : decode M_t_add.2.1 22 = .ok (.iload_n 1, 1) := by decide +kernel
theorem D_t_add_23 : decode M_t_add.2.1 23 = .ok (.iastore, 1) := by decide +kernel
theorem D_t_add_24 : decode M_t_add.2.1 24 = .ok (.aload_n 0, 1) := by decide +kernel
theorem D_t_add_25 : decode M_t_add.2.1 25 = .ok (.dup, 1) := by decide +kernel
theorem D_t_add_26 : decode M_t_add.2.1 26 = .ok (.getfield 15, 3) := by decide +kernel
theorem D_t_add_29 : decode M_t_add.2.1 29 = .ok (.iconst 1, 1) := by decide +kernel
theorem D_t_add_30 : decode M_t_add.2.1 30 = .ok (.iadd, 1) := by decide +kernel
theorem D_t_add_31 : decode M_t_add.2.1 31 = .ok (.putfield 15, 3) := by decide +kernel
theorem D_t_add_34 : decode M_t_add.2.1 34 = .ok (.iconst 1, 1) := by decide +kernel
theorem D_t_add_35 : decode M_t_add.2.1 35 = .ok (.ireturn, 1) := by decide +kernel
theorem D_t_readInto_0 : decode M_t_readInto.2.1 0 = .ok (.aload_n 1, 1) := by decide +kernel
theorem D_t_readInto_1 : decode M_t_readInto.2.1 1 = .ok (.invokevirtual 19, 3) := by decide +kernel
theorem D_t_readInto_4 : decode M_t_readInto.2.1 4 = .ok (.aload_n 0, 1) := by decide +kernel
theorem D_t_readInto_5 : decode M_t_readInto.2.1 5 = .ok (.iconst 0, 1) := by decide +kernel
theorem D_t_readInto_6 : decode M_t_readInto.2.1 6 = .ok (.putfield 24, 3) := by decide +kernel
theorem D_t_readInto_9 : decode M_t_readInto.2.1 9 = .ok (.aload_n 0, 1) := by decide +kernel
theorem D_t_readInto_10 : decode M_t_readInto.2.1 10 = .ok (.iconst 0, 1) := by decide +kernel
theorem D_t_readInto_11 : decode M_t_readInto.2.1 11 = .ok (.putfield 27, 3) := by decide +kernel
theorem D_t_readInto_14 : decode M_t_readInto.2.1 14 = .ok (.aload_n 0, 1) := by decide +kernel
theorem D_t_readInto_15 : decode M_t_readInto.2.1 15 = .ok (.iconst 0, 1) := by decide +kernel
theorem D_t_readInto_16 : decode M_t_readInto.2.1 16 = .ok (.putfield 31, 3) := by decide +kernel
theorem D_t_readInto_19 : decode M_t_readInto.2.1 19 = .ok (.iconst 0, 1) := by decide +kernel
theorem D_t_readInto_20 : decode M_t_readInto.2.1 20 = .ok (.istore_n 2, 1) := by decide +kernel
theorem D_t_readInto_21 : decode M_t_readInto.2.1 21 = .ok (.iload_n 2, 1) := by decide +kernel
theorem D_t_readInto_22 : decode M_t_readInto.2.1 22 = .ok (.sipush 150, 3) := by decide +kernel
theorem D_t_readInto_25 : decode M_t_readInto.2.1 25 = .ok (.if_icmp .gt 33, 3) := by decide +kernel
theorem D_t_readInto_28 : decode M_t_readInto.2.1 28 = .ok (.aload_n 0, 1) := by decide +kernel
theorem D_t_readInto_29 : decode M_t_readInto.2.1 29 = .ok (.invokevirtual 34, 3) := by decide +kernel
theorem D_t_readInto_32 : decode M_t_readInto.2.1 32 = .ok (.aload_n 0, 1) := by decide +kernel
theorem D_t_readInto_33 : decode M_t_readInto.2.1 33 = .ok (.getfield 37, 3) := by decide +kernel
theorem D_t_readInto_36 : decode M_t_readInto.2.1 36 = .ok (.ifCond .ne 5, 3) := by decide +kernel
theorem D_t_readInto_39 : decode M_t_readInto.2.1 39 = .ok (.iload_n 2, 1) := by decide +kernel
theorem D_t_readInto_40 : decode M_t_readInto.2.1 40 = .ok (.ireturn, 1) := by decide +kernel
theorem D_t_readInto_41 : decode M_t_readInto.2.1 41 = .ok (.aload_n 0, 1) := by decide +kernel
theorem D_t_readInto_42 : decode M_t_readInto.2.1 42 = .ok (.aload_n 1, 1) := by decide +kernel
theorem D_t_readInto_43 : decode M_t_readInto.2.1 43 = .ok (.invokevirtual 40, 3) := by decide +kernel
theorem D_t_readInto_46 : decode M_t_readInto.2.1 46 = .ok (.ifCond .ne 6, 3) := by decide +kernel
theorem D_t_readInto_49 : decode M_t_readInto.2.1 49 = .ok (.goto 9, 3) := by decide +kernel
theorem D_t_readInto_52 : decode M_t_readInto.2.1 52 = .ok (.iinc 2 1, 3) := by decide +kernel
theorem D_t_readInto_55 : decode M_t_readInto.2.1 55 = .ok (.goto (-34), 3) := by decide +kernel
theorem D_t_readInto_58 : decode M_t_readInto.2.1 58 = .ok (.bipush (-10), 2) := by decide +kernel
theorem D_t_readInto_60 : decode M_t_readInto.2.1 60 = .ok (.aload_n 0, 1) := by decide +kernel
theorem D_t_readInto_61 : decode M_t_readInto.2.1 61 = .ok (.getfield 44, 3) := by decide +kernel
theorem D_t_readInto_64 : decode M_t_readInto.2.1 64 = .ok (.isub, 1) := by decide +kernel
theorem D_t_readInto_65 : decode M_t_readInto.2.1 65 = .ok (.ireturn, 1) := by decide +kernel
theorem D_t_readItem_0 : decode M_t_readItem.2.1 0 = .ok (.aload_n 0, 1) := by decide +kernel
theorem D_t_readItem_1 : decode M_t_readItem.2.1 1 = .ok (.getfield 37, 3) := by decide +kernel
theorem D_t_readItem_4 : decode M_t_readItem.2.1 4 = .ok (.iconst 1, 1) := by decide +kernel
theorem D_t_readItem_5 : decode M_t_readItem.2.1 5 = .ok (.if_icmp .eq 5, 3) := by decide +kernel
theorem D_t_readItem_8 : decode M_t_readItem.2.1 8 = .ok (.iconst 0, 1) := by decide +kernel
theorem D_t_readItem_9 : decode M_t_readItem.2.1 9 = .ok (.ireturn, 1) := by decide +kernel
theorem D_t_readItem_10 : decode M_t_readItem.2.1 10 = .ok (.aload_n 0, 1) := by decide +kernel
theorem D_t_readItem_11 : decode M_t_readItem.2.1 11 = .ok (.getfield 47, 3) := by decide +kernel
theorem D_t_readItem_14 : decode M_t_readItem.2.1 14 = .ok (.lookupswitch 66 #[(99, 42), (100, 54), (107, 48), (112, 60)], 42) := by decide +kernel
theorem D_t_readItem_56 : decode M_t_readItem.2.1 56 = .ok (.aload_n 0, 1) := by decide +kernel
theorem D_t_readItem_57 : decode M_t_readItem.2.1 57 = .ok (.aload_n 1, 1) := by decide +kernel
theorem D_t_readItem_58 : decode M_t_readItem.2.1 58 = .ok (.invokevirtual 50, 3) := by decide +kernel
theorem D_t_readItem_61 : decode M_t_readItem.2.1 61 = .ok (.ireturn, 1) := by decide +kernel
theorem D_t_readItem_62 : decode M_t_readItem.2.1 62 = .ok (.aload_n 0, 1) := by decide +kernel
theorem D_t_readItem_63 : decode M_t_readItem.2.1 63 = .ok (.aload_n 1, 1) := by decide +kernel
theorem D_t_readItem_64 : decode M_t_readItem.2.1 64 = .ok (.invokevirtual 53, 3) := by decide +kernel
theorem D_t_readItem_67 : decode M_t_readItem.2.1 67 = .ok (.ireturn, 1) := by decide +kernel
theorem D_t_readItem_68 : decode M_t_readItem.2.1 68 = .ok (.aload_n 0, 1) := by decide +kernel
theorem D_t_readItem_69 : decode M_t_readItem.2.1 69 = .ok (.aload_n 1, 1) := by decide +kernel
theorem D_t_readItem_70 : decode M_t_readItem.2.1 70 = .ok (.invokevirtual 56, 3) := by decide +kernel
theorem D_t_readItem_73 : decode M_t_readItem.2.1 73 = .ok (.ireturn, 1) := by decide +kernel
theorem D_t_readItem_74 : decode M_t_readItem.2.1 74 = .ok (.aload_n 0, 1) := by decide +kernel
theorem D_t_readItem_75 : decode M_t_readItem.2.1 75 = .ok (.aload_n 1, 1) := by decide +kernel
theorem D_t_readItem_76 : decode M_t_readItem.2.1 76 = .ok (.invokevirtual 59, 3) := by decide +kernel
theorem D_t_readItem_79 : decode M_t_readItem.2.1 79 = .ok (.ireturn, 1) := by decide +kernel
theorem D_t_readItem_80 : decode M_t_readItem.2.1 80 = .ok (.iconst 0, 1) := by decide +kernel
theorem D_t_readItem_81 : decode M_t_readItem.2.1 81 = .ok (.ireturn, 1) := by decide +kernel
theorem D_t_readPane_0 : decode M_t_readPane.2.1 0 = .ok (.aload_n 1, 1) := by decide +kernel
theorem D_t_readPane_1 : decode M_t_readPane.2.1 1 = .ok (.getfield 62, 3) := by decide +kernel
theorem D_t_readPane_4 : decode M_t_readPane.2.1 4 = .ok (.bipush 12, 2) := by decide +kernel
theorem D_t_readPane_6 : decode M_t_readPane.2.1 6 = .ok (.if_icmp .ge 12, 3) := by decide +kernel
theorem D_t_readPane_9 : decode M_t_readPane.2.1 9 = .ok (.aload_n 0, 1) := by decide +kernel
theorem D_t_readPane_10 : decode M_t_readPane.2.1 10 = .ok (.iconst 0, 1) := by decide +kernel
theorem D_t_readPane_11 : decode M_t_readPane.2.1 11 = .ok (.iconst 5, 1) := by decide +kernel
theorem D_t_readPane_12 : decode M_t_readPane.2.1 12 = .ok (.invokevirtual 65, 3) := by decide +kernel
theorem D_t_readPane_15 : decode M_t_readPane.2.1 15 = .ok (.ifCond .ne 5, 3) := by decide +kernel
theorem D_t_readPane_18 : decode M_t_readPane.2.1 18 = .ok (.iconst 0, 1) := by decide +kernel
theorem D_t_readPane_19 : decode M_t_readPane.2.1 19 = .ok (.ireturn, 1) := by decide +kernel
theorem D_t_readPane_20 : decode M_t_readPane.2.1 20 = .ok (.aload_n 1, 1) := by decide +kernel
theorem D_t_readPane_21 : decode M_t_readPane.2.1 21 = .ok (.getfield 69, 3) := by decide +kernel
theorem D_t_readPane_24 : decode M_t_readPane.2.1 24 = .ok (.aload_n 1, 1) := by decide +kernel
theorem D_t_readPane_25 : decode M_t_readPane.2.1 25 = .ok (.getfield 62, 3) := by decide +kernel
theorem D_t_readPane_28 : decode M_t_readPane.2.1 28 = .ok (.aload_n 0, 1) := by decide +kernel
theorem D_t_readPane_29 : decode M_t_readPane.2.1 29 = .ok (.getfield 47, 3) := by decide +kernel
theorem D_t_readPane_32 : decode M_t_readPane.2.1 32 = .ok (.iastore, 1) := by decide +kernel
theorem D_t_readPane_33 : decode M_t_readPane.2.1 33 = .ok (.aload_n 1, 1) := by decide +kernel
theorem D_t_readPane_34 : decode M_t_readPane.2.1 34 = .ok (.dup, 1) := by decide +kernel
theorem D_t_readPane_35 : decode M_t_readPane.2.1 35 = .ok (.getfield 62, 3) := by decide +kernel
theorem D_t_readPane_38 : decode M_t_readPane.2.1 38 = .ok (.iconst 1, 1) := by decide +kernel
theorem D_t_readPane_39 : decode M_t_readPane.2.1 39 = .ok (.iadd, 1) := by decide +kernel
theorem D_t_readPane_40 : decode M_t_readPane.2.1 40 = .ok (.putfield 62, 3) := by decide +kernel
theorem D_t_readPane_43 : decode M_t_readPane.2.1 43 = .ok (.aload_n 0, 1) := by decide +kernel
theorem D_t_readPane_44 : decode M_t_readPane.2.1 44 = .ok (.invokevirtual 72, 3) := by decide +kernel
theorem D_t_readPane_47 : decode M_t_readPane.2.1 47 = .ok (.ireturn, 1) := by decide +kernel
theorem D_t_readKeeps_0 : decode M_t_readKeeps.2.1 0 = .ok (.aload_n 0, 1) := by decide +kernel
theorem D_t_readKeeps_1 : decode M_t_readKeeps.2.1 1 = .ok (.getfield 27, 3) := by decide +kernel
theorem D_t_readKeeps_4 : decode M_t_readKeeps.2.1 4 = .ok (.ifCond .ne 13, 3) := by decide +kernel
theorem D_t_readKeeps_7 : decode M_t_readKeeps.2.1 7 = .ok (.aload_n 0, 1) := by decide +kernel
theorem D_t_readKeeps_8 : decode M_t_readKeeps.2.1 8 = .ok (.iconst 0, 1) := by decide +kernel
theorem D_t_readKeeps_9 : decode M_t_readKeeps.2.1 9 = .ok (.bipush 9, 2) := by decide +kernel
theorem D_t_readKeeps_11 : decode M_t_readKeeps.2.1 11 = .ok (.invokevirtual 65, 3) := by decide +kernel
theorem D_t_readKeeps_14 : decode M_t_readKeeps.2.1 14 = .ok (.ifCond .ne 5, 3) := by decide +kernel
theorem D_t_readKeeps_17 : decode M_t_readKeeps.2.1 17 = .ok (.iconst 0, 1) := by decide +kernel
theorem D_t_readKeeps_18 : decode M_t_readKeeps.2.1 18 = .ok (.ireturn, 1) := by decide +kernel
theorem D_t_readKeeps_19 : decode M_t_readKeeps.2.1 19 = .ok (.aload_n 0, 1) := by decide +kernel
theorem D_t_readKeeps_20 : decode M_t_readKeeps.2.1 20 = .ok (.iconst 1, 1) := by decide +kernel
theorem D_t_readKeeps_21 : decode M_t_readKeeps.2.1 21 = .ok (.putfield 27, 3) := by decide +kernel
theorem D_t_readKeeps_24 : decode M_t_readKeeps.2.1 24 = .ok (.aload_n 1, 1) := by decide +kernel
theorem D_t_readKeeps_25 : decode M_t_readKeeps.2.1 25 = .ok (.aload_n 0, 1) := by decide +kernel
theorem D_t_readKeeps_26 : decode M_t_readKeeps.2.1 26 = .ok (.getfield 47, 3) := by decide +kernel
theorem D_t_readKeeps_29 : decode M_t_readKeeps.2.1 29 = .ok (.putfield 76, 3) := by decide +kernel
theorem D_t_readKeeps_32 : decode M_t_readKeeps.2.1 32 = .ok (.aload_n 0, 1) := by decide +kernel
theorem D_t_readKeeps_33 : decode M_t_readKeeps.2.1 33 = .ok (.invokevirtual 72, 3) := by decide +kernel
theorem D_t_readKeeps_36 : decode M_t_readKeeps.2.1 36 = .ok (.ireturn, 1) := by decide +kernel
theorem D_t_readDrag_0 : decode M_t_readDrag.2.1 0 = .ok (.aload_n 0, 1) := by decide +kernel
theorem D_t_readDrag_1 : decode M_t_readDrag.2.1 1 = .ok (.getfield 31, 3) := by decide +kernel
theorem D_t_readDrag_4 : decode M_t_readDrag.2.1 4 = .ok (.ifCond .ne 13, 3) := by decide +kernel
theorem D_t_readDrag_7 : decode M_t_readDrag.2.1 7 = .ok (.aload_n 0, 1) := by decide +kernel
theorem D_t_readDrag_8 : decode M_t_readDrag.2.1 8 = .ok (.iconst 1, 1) := by decide +kernel
theorem D_t_readDrag_9 : decode M_t_readDrag.2.1 9 = .ok (.bipush 9, 2) := by decide +kernel
theorem D_t_readDrag_11 : decode M_t_readDrag.2.1 11 = .ok (.invokevirtual 65, 3) := by decide +kernel
theorem D_t_readDrag_14 : decode M_t_readDrag.2.1 14 = .ok (.ifCond .ne 5, 3) := by decide +kernel
theorem D_t_readDrag_17 : decode M_t_readDrag.2.1 17 = .ok (.iconst 0, 1) := by decide +kernel
theorem D_t_readDrag_18 : decode M_t_readDrag.2.1 18 = .ok (.ireturn, 1) := by decide +kernel
theorem D_t_readDrag_19 : decode M_t_readDrag.2.1 19 = .ok (.aload_n 0, 1) := by decide +kernel
theorem D_t_readDrag_20 : decode M_t_readDrag.2.1 20 = .ok (.iconst 1, 1) := by decide +kernel
theorem D_t_readDrag_21 : decode M_t_readDrag.2.1 21 = .ok (.putfield 31, 3) := by decide +kernel
theorem D_t_readDrag_24 : decode M_t_readDrag.2.1 24 = .ok (.aload_n 1, 1) := by decide +kernel
theorem D_t_readDrag_25 : decode M_t_readDrag.2.1 25 = .ok (.aload_n 0, 1) := by decide +kernel
theorem D_t_readDrag_26 : decode M_t_readDrag.2.1 26 = .ok (.getfield 47, 3) := by decide +kernel
theorem D_t_readDrag_29 : decode M_t_readDrag.2.1 29 = .ok (.putfield 79, 3) := by decide +kernel
theorem D_t_readDrag_32 : decode M_t_readDrag.2.1 32 = .ok (.aload_n 0, 1) := by decide +kernel
theorem D_t_readDrag_33 : decode M_t_readDrag.2.1 33 = .ok (.invokevirtual 72, 3) := by decide +kernel
theorem D_t_readDrag_36 : decode M_t_readDrag.2.1 36 = .ok (.ireturn, 1) := by decide +kernel
theorem D_t_readPerson_0 : decode M_t_readPerson.2.1 0 = .ok (.aload_n 1, 1) := by decide +kernel
theorem D_t_readPerson_1 : decode M_t_readPerson.2.1 1 = .ok (.getfield 82, 3) := by decide +kernel
theorem D_t_readPerson_4 : decode M_t_readPerson.2.1 4 = .ok (.bipush 6, 2) := by decide +kernel
theorem D_t_readPerson_6 : decode M_t_readPerson.2.1 6 = .ok (.if_icmp .ge 28, 3) := by decide +kernel
theorem D_t_readPerson_9 : decode M_t_readPerson.2.1 9 = .ok (.aload_n 0, 1) := by decide +kernel
theorem D_t_readPerson_10 : decode M_t_readPerson.2.1 10 = .ok (.iconst 0, 1) := by decide +kernel
theorem D_t_readPerson_11 : decode M_t_readPerson.2.1 11 = .ok (.aload_n 1, 1) := by decide +kernel
theorem D_t_readPerson_12 : decode M_t_readPerson.2.1 12 = .ok (.getfield 62, 3) := by decide +kernel
theorem D_t_readPerson_15 : decode M_t_readPerson.2.1 15 = .ok (.iconst 1, 1) := by decide +kernel
theorem D_t_readPerson_16 : decode M_t_readPerson.2.1 16 = .ok (.isub, 1) := by decide +kernel
theorem D_t_readPerson_17 : decode M_t_readPerson.2.1 17 = .ok (.invokevirtual 65, 3) := by decide +kernel
theorem D_t_readPerson_20 : decode M_t_readPerson.2.1 20 = .ok (.ifCond .eq 14, 3) := by decide +kernel
theorem D_t_readPerson_23 : decode M_t_readPerson.2.1 23 = .ok (.aload_n 1, 1) := by decide +kernel
theorem D_t_readPerson_24 : decode M_t_readPerson.2.1 24 = .ok (.aload_n 0, 1) := by decide +kernel
theorem D_t_readPerson_25 : decode M_t_readPerson.2.1 25 = .ok (.getfield 47, 3) := by decide +kernel
theorem D_t_readPerson_28 : decode M_t_readPerson.2.1 28 = .ok (.invokevirtual 85, 3) := by decide +kernel
theorem D_t_readPerson_31 : decode M_t_readPerson.2.1 31 = .ok (.ifCond .eq 5, 3) := by decide +kernel
theorem D_t_readPerson_34 : decode M_t_readPerson.2.1 34 = .ok (.iconst 0, 1) := by decide +kernel
theorem D_t_readPerson_35 : decode M_t_readPerson.2.1 35 = .ok (.ireturn, 1) := by decide +kernel
theorem D_t_readPerson_36 : decode M_t_readPerson.2.1 36 = .ok (.aload_n 1, 1) := by decide +kernel
theorem D_t_readPerson_37 : decode M_t_readPerson.2.1 37 = .ok (.getfield 89, 3) := by decide +kernel
theorem D_t_readPerson_40 : decode M_t_readPerson.2.1 40 = .ok (.aload_n 1, 1) := by decide +kernel
theorem D_t_readPerson_41 : decode M_t_readPerson.2.1 41 = .ok (.getfield 82, 3) := by decide +kernel
theorem D_t_readPerson_44 : decode M_t_readPerson.2.1 44 = .ok (.aload_n 0, 1) := by decide +kernel
theorem D_t_readPerson_45 : decode M_t_readPerson.2.1 45 = .ok (.getfield 47, 3) := by decide +kernel
theorem D_t_readPerson_48 : decode M_t_readPerson.2.1 48 = .ok (.iastore, 1) := by decide +kernel
theorem D_t_readPerson_49 : decode M_t_readPerson.2.1 49 = .ok (.aload_n 0, 1) := by decide +kernel
theorem D_t_readPerson_50 : decode M_t_readPerson.2.1 50 = .ok (.iconst 1, 1) := by decide +kernel
theorem D_t_readPerson_51 : decode M_t_readPerson.2.1 51 = .ok (.iconst 5, 1) := by decide +kernel
theorem D_t_readPerson_52 : decode M_t_readPerson.2.1 52 = .ok (.invokevirtual 65, 3) := by decide +kernel
theorem D_t_readPerson_55 : decode M_t_readPerson.2.1 55 = .ok (.ifCond .ne 5, 3) := by decide +kernel
theorem D_t_readPerson_58 : decode M_t_readPerson.2.1 58 = .ok (.iconst 0, 1) := by decide +kernel
theorem D_t_readPerson_59 : decode M_t_readPerson.2.1 59 = .ok (.ireturn, 1) := by decide +kernel
theorem D_t_readPerson_60 : decode M_t_readPerson.2.1 60 = .ok (.aload_n 1, 1) := by decide +kernel
theorem D_t_readPerson_61 : decode M_t_readPerson.2.1 61 = .ok (.getfield 92, 3) := by decide +kernel
theorem D_t_readPerson_64 : decode M_t_readPerson.2.1 64 = .ok (.aload_n 1, 1) := by decide +kernel
theorem D_t_readPerson_65 : decode M_t_readPerson.2.1 65 = .ok (.getfield 82, 3) := by decide +kernel
theorem D_t_readPerson_68 : decode M_t_readPerson.2.1 68 = .ok (.aload_n 0, 1) := by decide +kernel
theorem D_t_readPerson_69 : decode M_t_readPerson.2.1 69 = .ok (.getfield 47, 3) := by decide +kernel
theorem D_t_readPerson_72 : decode M_t_readPerson.2.1 72 = .ok (.iastore, 1) := by decide +kernel
theorem D_t_readPerson_73 : decode M_t_readPerson.2.1 73 = .ok (.aload_n 1, 1) := by decide +kernel
theorem D_t_readPerson_74 : decode M_t_readPerson.2.1 74 = .ok (.dup, 1) := by decide +kernel
theorem D_t_readPerson_75 : decode M_t_readPerson.2.1 75 = .ok (.getfield 82, 3) := by decide +kernel
theorem D_t_readPerson_78 : decode M_t_readPerson.2.1 78 = .ok (.iconst 1, 1) := by decide +kernel
theorem D_t_readPerson_79 : decode M_t_readPerson.2.1 79 = .ok (.iadd, 1) := by decide +kernel
theorem D_t_readPerson_80 : decode M_t_readPerson.2.1 80 = .ok (.putfield 82, 3) := by decide +kernel
theorem D_t_readPerson_83 : decode M_t_readPerson.2.1 83 = .ok (.aload_n 0, 1) := by decide +kernel
theorem D_t_readPerson_84 : decode M_t_readPerson.2.1 84 = .ok (.invokevirtual 72, 3) := by decide +kernel
theorem D_t_readPerson_87 : decode M_t_readPerson.2.1 87 = .ok (.ireturn, 1) := by decide +kernel
theorem D_t_readNumber_0 : decode M_t_readNumber.2.1 0 = .ok (.aload_n 0, 1) := by decide +kernel
theorem D_t_readNumber_1 : decode M_t_readNumber.2.1 1 = .ok (.invokevirtual 34, 3) := by decide +kernel
theorem D_t_readNumber_4 : decode M_t_readNumber.2.1 4 = .ok (.aload_n 0, 1) := by decide +kernel
theorem D_t_readNumber_5 : decode M_t_readNumber.2.1 5 = .ok (.getfield 37, 3) := by decide +kernel
theorem D_t_readNumber_8 : decode M_t_readNumber.2.1 8 = .ok (.iconst 2, 1) := by decide +kernel
theorem D_t_readNumber_9 : decode M_t_readNumber.2.1 9 = .ok (.if_icmp .ne 23, 3) := by decide +kernel
theorem D_t_readNumber_12 : decode M_t_readNumber.2.1 12 = .ok (.aload_n 0, 1) := by decide +kernel
theorem D_t_readNumber_13 : decode M_t_readNumber.2.1 13 = .ok (.getfield 47, 3) := by decide +kernel
theorem D_t_readNumber_16 : decode M_t_readNumber.2.1 16 = .ok (.iload_n 1, 1) := by decide +kernel
theorem D_t_readNumber_17 : decode M_t_readNumber.2.1 17 = .ok (.if_icmp .lt 15, 3) := by decide +kernel
theorem D_t_readNumber_20 : decode M_t_readNumber.2.1 20 = .ok (.aload_n 0, 1) := by decide +kernel
theorem D_t_readNumber_21 : decode M_t_readNumber.2.1 21 = .ok (.getfield 47, 3) := by decide +kernel
theorem D_t_readNumber_24 : decode M_t_readNumber.2.1 24 = .ok (.iload_n 2, 1) := by decide +kernel
theorem D_t_readNumber_25 : decode M_t_readNumber.2.1 25 = .ok (.if_icmp .gt 7, 3) := by decide +kernel
theorem D_t_readNumber_28 : decode M_t_readNumber.2.1 28 = .ok (.iconst 1, 1) := by decide +kernel
theorem D_t_readNumber_29 : decode M_t_readNumber.2.1 29 = .ok (.goto 4, 3) := by decide +kernel
theorem D_t_readNumber_32 : decode M_t_readNumber.2.1 32 = .ok (.iconst 0, 1) := by decide +kernel
theorem D_t_readNumber_33 : decode M_t_readNumber.2.1 33 = .ok (.ireturn, 1) := by decide +kernel
theorem D_t_readSemicolon_0 : decode M_t_readSemicolon.2.1 0 = .ok (.aload_n 0, 1) := by decide +kernel
theorem D_t_readSemicolon_1 : decode M_t_readSemicolon.2.1 1 = .ok (.invokevirtual 34, 3) := by decide +kernel
theorem D_t_readSemicolon_4 : decode M_t_readSemicolon.2.1 4 = .ok (.aload_n 0, 1) := by decide +kernel
theorem D_t_readSemicolon_5 : decode M_t_readSemicolon.2.1 5 = .ok (.getfield 37, 3) := by decide +kernel
theorem D_t_readSemicolon_8 : decode M_t_readSemicolon.2.1 8 = .ok (.iconst 3, 1) := by decide +kernel
theorem D_t_readSemicolon_9 : decode M_t_readSemicolon.2.1 9 = .ok (.if_icmp .ne 7, 3) := by decide +kernel
theorem D_t_readSemicolon_12 : decode M_t_readSemicolon.2.1 12 = .ok (.iconst 1, 1) := by decide +kernel
theorem D_t_readSemicolon_13 : decode M_t_readSemicolon.2.1 13 = .ok (.goto 4, 3) := by decide +kernel
theorem D_t_readSemicolon_16 : decode M_t_readSemicolon.2.1 16 = .ok (.iconst 0, 1) := by decide +kernel
theorem D_t_readSemicolon_17 : decode M_t_readSemicolon.2.1 17 = .ok (.ireturn, 1) := by decide +kernel
theorem D_t_readToken_0 : decode M_t_readToken.2.1 0 = .ok (.aload_n 0, 1) := by decide +kernel
theorem D_t_readToken_1 : decode M_t_readToken.2.1 1 = .ok (.getfield 24, 3) := by decide +kernel
theorem D_t_readToken_4 : decode M_t_readToken.2.1 4 = .ok (.aload_n 0, 1) := by decide +kernel
theorem D_t_readToken_5 : decode M_t_readToken.2.1 5 = .ok (.getfield 15, 3) := by decide +kernel
theorem D_t_readToken_8 : decode M_t_readToken.2.1 8 = .ok (.if_icmp .ge 29, 3) := by decide +kernel
theorem D_t_readToken_11 : decode M_t_readToken.2.1 11 = .ok (.aload_n 0, 1) := by decide +kernel
theorem D_t_readToken_12 : decode M_t_readToken.2.1 12 = .ok (.aload_n 0, 1) := by decide +kernel
theorem D_t_readToken_13 : decode M_t_readToken.2.1 13 = .ok (.getfield 24, 3) := by decide +kernel
theorem D_t_readToken_16 : decode M_t_readToken.2.1 16 = .ok (.invokevirtual 95, 3) := by decide +kernel
theorem D_t_readToken_19 : decode M_t_readToken.2.1 19 = .ok (.bipush 32, 2) := by decide +kernel
theorem D_t_readToken_21 : decode M_t_readToken.2.1 21 = .ok (.if_icmp .ne 16, 3) := by decide +kernel
theorem D_t_readToken_24 : decode M_t_readToken.2.1 24 = .ok (.aload_n 0, 1) := by decide +kernel
theorem D_t_readToken_25 : decode M_t_readToken.2.1 25 = .ok (.dup, 1) := by decide +kernel
theorem D_t_readToken_26 : decode M_t_readToken.2.1 26 = .ok (.getfield 24, 3) := by decide +kernel
theorem D_t_readToken_29 : decode M_t_readToken.2.1 29 = .ok (.iconst 1, 1) := by decide +kernel
theorem D_t_readToken_30 : decode M_t_readToken.2.1 30 = .ok (.iadd, 1) := by decide +kernel
theorem D_t_readToken_31 : decode M_t_readToken.2.1 31 = .ok (.putfield 24, 3) := by decide +kernel
theorem D_t_readToken_34 : decode M_t_readToken.2.1 34 = .ok (.goto (-34), 3) := by decide +kernel
theorem D_t_readToken_37 : decode M_t_readToken.2.1 37 = .ok (.aload_n 0, 1) := by decide +kernel
theorem D_t_readToken_38 : decode M_t_readToken.2.1 38 = .ok (.aload_n 0, 1) := by decide +kernel
theorem D_t_readToken_39 : decode M_t_readToken.2.1 39 = .ok (.getfield 24, 3) := by decide +kernel
theorem D_t_readToken_42 : decode M_t_readToken.2.1 42 = .ok (.putfield 44, 3) := by decide +kernel
theorem D_t_readToken_45 : decode M_t_readToken.2.1 45 = .ok (.aload_n 0, 1) := by decide +kernel
theorem D_t_readToken_46 : decode M_t_readToken.2.1 46 = .ok (.iconst 0, 1) := by decide +kernel
theorem D_t_readToken_47 : decode M_t_readToken.2.1 47 = .ok (.putfield 47, 3) := by decide +kernel
theorem D_t_readToken_50 : decode M_t_readToken.2.1 50 = .ok (.aload_n 0, 1) := by decide +kernel
theorem D_t_readToken_51 : decode M_t_readToken.2.1 51 = .ok (.aload_n 0, 1) := by decide +kernel
theorem D_t_readToken_52 : decode M_t_readToken.2.1 52 = .ok (.getfield 44, 3) := by decide +kernel
theorem D_t_readToken_55 : decode M_t_readToken.2.1 55 = .ok (.invokevirtual 95, 3) := by decide +kernel
theorem D_t_readToken_58 : decode M_t_readToken.2.1 58 = .ok (.istore_n 1, 1) := by decide +kernel
theorem D_t_readToken_59 : decode M_t_readToken.2.1 59 = .ok (.aload_n 0, 1) := by decide +kernel
theorem D_t_readToken_60 : decode M_t_readToken.2.1 60 = .ok (.getfield 44, 3) := by decide +kernel
theorem D_t_readToken_63 : decode M_t_readToken.2.1 63 = .ok (.aload_n 0, 1) := by decide +kernel
theorem D_t_readToken_64 : decode M_t_readToken.2.1 64 = .ok (.getfield 15, 3) := by decide +kernel
theorem D_t_readToken_67 : decode M_t_readToken.2.1 67 = .ok (.if_icmp .lt 11, 3) := by decide +kernel
theorem D_t_readToken_70 : decode M_t_readToken.2.1 70 = .ok (.aload_n 0, 1) := by decide +kernel
theorem D_t_readToken_71 : decode M_t_readToken.2.1 71 = .ok (.iconst 0, 1) := by decide +kernel
theorem D_t_readToken_72 : decode M_t_readToken.2.1 72 = .ok (.putfield 37, 3) := by decide +kernel
theorem D_t_readToken_75 : decode M_t_readToken.2.1 75 = .ok (.goto 56, 3) := by decide +kernel
theorem D_t_readToken_78 : decode M_t_readToken.2.1 78 = .ok (.iload_n 1, 1) := by decide +kernel
theorem D_t_readToken_79 : decode M_t_readToken.2.1 79 = .ok (.invokestatic 99, 3) := by decide +kernel
theorem D_t_readToken_82 : decode M_t_readToken.2.1 82 = .ok (.ifCond .eq 10, 3) := by decide +kernel
theorem D_t_readToken_85 : decode M_t_readToken.2.1 85 = .ok (.aload_n 0, 1) := by decide +kernel
theorem D_t_readToken_86 : decode M_t_readToken.2.1 86 = .ok (.invokevirtual 102, 3) := by decide +kernel
theorem D_t_readToken_89 : decode M_t_readToken.2.1 89 = .ok (.goto 42, 3) := by decide +kernel
theorem D_t_readToken_92 : decode M_t_readToken.2.1 92 = .ok (.iload_n 1, 1) := by decide +kernel
theorem D_t_readToken_93 : decode M_t_readToken.2.1 93 = .ok (.invokestatic 105, 3) := by decide +kernel
theorem D_t_readToken_96 : decode M_t_readToken.2.1 96 = .ok (.ifCond .eq 10, 3) := by decide +kernel
theorem D_t_readToken_99 : decode M_t_readToken.2.1 99 = .ok (.aload_n 0, 1) := by decide +kernel
theorem D_t_readToken_100 : decode M_t_readToken.2.1 100 = .ok (.invokevirtual 108, 3) := by decide +kernel
theorem D_t_readToken_103 : decode M_t_readToken.2.1 103 = .ok (.goto 28, 3) := by decide +kernel
theorem D_t_readToken_106 : decode M_t_readToken.2.1 106 = .ok (.aload_n 0, 1) := by decide +kernel
theorem D_t_readToken_107 : decode M_t_readToken.2.1 107 = .ok (.iload_n 1, 1) := by decide +kernel
theorem D_t_readToken_108 : decode M_t_readToken.2.1 108 = .ok (.bipush 59, 2) := by decide +kernel
theorem D_t_readToken_110 : decode M_t_readToken.2.1 110 = .ok (.if_icmp .ne 7, 3) := by decide +kernel
theorem D_t_readToken_113 : decode M_t_readToken.2.1 113 = .ok (.iconst 3, 1) := by decide +kernel
theorem D_t_readToken_114 : decode M_t_readToken.2.1 114 = .ok (.goto 4, 3) := by decide +kernel
theorem D_t_readToken_117 : decode M_t_readToken.2.1 117 = .ok (.iconst 4, 1) := by decide +kernel
theorem D_t_readToken_118 : decode M_t_readToken.2.1 118 = .ok (.putfield 37, 3) := by decide +kernel
theorem D_t_readToken_121 : decode M_t_readToken.2.1 121 = .ok (.aload_n 0, 1) := by decide +kernel
theorem D_t_readToken_122 : decode M_t_readToken.2.1 122 = .ok (.dup, 1) := by decide +kernel
theorem D_t_readToken_123 : decode M_t_readToken.2.1 123 = .ok (.getfield 24, 3) := by decide +kernel
theorem D_t_readToken_126 : decode M_t_readToken.2.1 126 = .ok (.iconst 1, 1) := by decide +kernel
theorem D_t_readToken_127 : decode M_t_readToken.2.1 127 = .ok (.iadd, 1) := by decide +kernel
theorem D_t_readToken_128 : decode M_t_readToken.2.1 128 = .ok (.putfield 24, 3) := by decide +kernel
theorem D_t_readToken_131 : decode M_t_readToken.2.1 131 = .ok (.return_, 1) := by decide +kernel
theorem D_t_readLetters_0 : decode M_t_readLetters.2.1 0 = .ok (.aload_n 0, 1) := by decide +kernel
theorem D_t_readLetters_1 : decode M_t_readLetters.2.1 1 = .ok (.iconst 1, 1) := by decide +kernel
theorem D_t_readLetters_2 : decode M_t_readLetters.2.1 2 = .ok (.putfield 37, 3) := by decide +kernel
theorem D_t_readLetters_5 : decode M_t_readLetters.2.1 5 = .ok (.aload_n 0, 1) := by decide +kernel
theorem D_t_readLetters_6 : decode M_t_readLetters.2.1 6 = .ok (.getfield 24, 3) := by decide +kernel
theorem D_t_readLetters_9 : decode M_t_readLetters.2.1 9 = .ok (.aload_n 0, 1) := by decide +kernel
theorem D_t_readLetters_10 : decode M_t_readLetters.2.1 10 = .ok (.getfield 15, 3) := by decide +kernel
theorem D_t_readLetters_13 : decode M_t_readLetters.2.1 13 = .ok (.if_icmp .ge 30, 3) := by decide +kernel
theorem D_t_readLetters_16 : decode M_t_readLetters.2.1 16 = .ok (.aload_n 0, 1) := by decide +kernel
theorem D_t_readLetters_17 : decode M_t_readLetters.2.1 17 = .ok (.aload_n 0, 1) := by decide +kernel
theorem D_t_readLetters_18 : decode M_t_readLetters.2.1 18 = .ok (.getfield 24, 3) := by decide +kernel
theorem D_t_readLetters_21 : decode M_t_readLetters.2.1 21 = .ok (.invokevirtual 95, 3) := by decide +kernel
theorem D_t_readLetters_24 : decode M_t_readLetters.2.1 24 = .ok (.invokestatic 99, 3) := by decide +kernel
theorem D_t_readLetters_27 : decode M_t_readLetters.2.1 27 = .ok (.ifCond .eq 16, 3) := by decide +kernel
theorem D_t_readLetters_30 : decode M_t_readLetters.2.1 30 = .ok (.aload_n 0, 1) := by decide +kernel
theorem D_t_readLetters_31 : decode M_t_readLetters.2.1 31 = .ok (.dup, 1) := by decide +kernel
theorem D_t_readLetters_32 : decode M_t_readLetters.2.1 32 = .ok (.getfield 24, 3) := by decide +kernel
theorem D_t_readLetters_35 : decode M_t_readLetters.2.1 35 = .ok (.iconst 1, 1) := by decide +kernel
theorem D_t_readLetters_36 : decode M_t_readLetters.2.1 36 = .ok (.iadd, 1) := by decide +kernel
theorem D_t_readLetters_37 : decode M_t_readLetters.2.1 37 = .ok (.putfield 24, 3) := by decide +kernel
theorem D_t_readLetters_40 : decode M_t_readLetters.2.1 40 = .ok (.goto (-35), 3) := by decide +kernel
theorem D_t_readLetters_43 : decode M_t_readLetters.2.1 43 = .ok (.aload_n 0, 1) := by decide +kernel
theorem D_t_readLetters_44 : decode M_t_readLetters.2.1 44 = .ok (.aload_n 0, 1) := by decide +kernel
theorem D_t_readLetters_45 : decode M_t_readLetters.2.1 45 = .ok (.getfield 24, 3) := by decide +kernel
theorem D_t_readLetters_48 : decode M_t_readLetters.2.1 48 = .ok (.aload_n 0, 1) := by decide +kernel
theorem D_t_readLetters_49 : decode M_t_readLetters.2.1 49 = .ok (.getfield 44, 3) := by decide +kernel
theorem D_t_readLetters_52 : decode M_t_readLetters.2.1 52 = .ok (.isub, 1) := by decide +kernel
theorem D_t_readLetters_53 : decode M_t_readLetters.2.1 53 = .ok (.iconst 1, 1) := by decide +kernel
theorem D_t_readLetters_54 : decode M_t_readLetters.2.1 54 = .ok (.if_icmp .ne 14, 3) := by decide +kernel
theorem D_t_readLetters_57 : decode M_t_readLetters.2.1 57 = .ok (.aload_n 0, 1) := by decide +kernel
theorem D_t_readLetters_58 : decode M_t_readLetters.2.1 58 = .ok (.aload_n 0, 1) := by decide +kernel
theorem D_t_readLetters_59 : decode M_t_readLetters.2.1 59 = .ok (.getfield 44, 3) := by decide +kernel
theorem D_t_readLetters_62 : decode M_t_readLetters.2.1 62 = .ok (.invokevirtual 95, 3) := by decide +kernel
theorem D_t_readLetters_65 : decode M_t_readLetters.2.1 65 = .ok (.goto 4, 3) := by decide +kernel
theorem D_t_readLetters_68 : decode M_t_readLetters.2.1 68 = .ok (.iconst 0, 1) := by decide +kernel
theorem D_t_readLetters_69 : decode M_t_readLetters.2.1 69 = .ok (.putfield 47, 3) := by decide +kernel
theorem D_t_readLetters_72 : decode M_t_readLetters.2.1 72 = .ok (.return_, 1) := by decide +kernel
theorem D_t_readDigits_0 : decode M_t_readDigits.2.1 0 = .ok (.aload_n 0, 1) := by decide +kernel
theorem D_t_readDigits_1 : decode M_t_readDigits.2.1 1 = .ok (.getfield 24, 3) := by decide +kernel
theorem D_t_readDigits_4 : decode M_t_readDigits.2.1 4 = .ok (.aload_n 0, 1) := by decide +kernel
theorem D_t_readDigits_5 : decode M_t_readDigits.2.1 5 = .ok (.getfield 15, 3) := by decide +kernel
theorem D_t_readDigits_8 : decode M_t_readDigits.2.1 8 = .ok (.if_icmp .ge 58, 3) := by decide +kernel
theorem D_t_readDigits_11 : decode M_t_readDigits.2.1 11 = .ok (.aload_n 0, 1) := by decide +kernel
theorem D_t_readDigits_12 : decode M_t_readDigits.2.1 12 = .ok (.aload_n 0, 1) := by decide +kernel
theorem D_t_readDigits_13 : decode M_t_readDigits.2.1 13 = .ok (.getfield 24, 3) := by decide +kernel
theorem D_t_readDigits_16 : decode M_t_readDigits.2.1 16 = .ok (.invokevirtual 95, 3) := by decide +kernel
theorem D_t_readDigits_19 : decode M_t_readDigits.2.1 19 = .ok (.invokestatic 105, 3) := by decide +kernel
theorem D_t_readDigits_22 : decode M_t_readDigits.2.1 22 = .ok (.ifCond .eq 44, 3) := by decide +kernel
theorem D_t_readDigits_25 : decode M_t_readDigits.2.1 25 = .ok (.aload_n 0, 1) := by decide +kernel
theorem D_t_readDigits_26 : decode M_t_readDigits.2.1 26 = .ok (.aload_n 0, 1) := by decide +kernel
theorem D_t_readDigits_27 : decode M_t_readDigits.2.1 27 = .ok (.getfield 47, 3) := by decide +kernel
theorem D_t_readDigits_30 : decode M_t_readDigits.2.1 30 = .ok (.bipush 10, 2) := by decide +kernel
theorem D_t_readDigits_32 : decode M_t_readDigits.2.1 32 = .ok (.imul, 1) := by decide +kernel
theorem D_t_readDigits_33 : decode M_t_readDigits.2.1 33 = .ok (.aload_n 0, 1) := by decide +kernel
theorem D_t_readDigits_34 : decode M_t_readDigits.2.1 34 = .ok (.aload_n 0, 1) := by decide +kernel
theorem D_t_readDigits_35 : decode M_t_readDigits.2.1 35 = .ok (.getfield 24, 3) := by decide +kernel
theorem D_t_readDigits_38 : decode M_t_readDigits.2.1 38 = .ok (.invokevirtual 95, 3) := by decide +kernel
theorem D_t_readDigits_41 : decode M_t_readDigits.2.1 41 = .ok (.iadd, 1) := by decide +kernel
theorem D_t_readDigits_42 : decode M_t_readDigits.2.1 42 = .ok (.bipush 48, 2) := by decide +kernel
theorem D_t_readDigits_44 : decode M_t_readDigits.2.1 44 = .ok (.isub, 1) := by decide +kernel
theorem D_t_readDigits_45 : decode M_t_readDigits.2.1 45 = .ok (.bipush 100, 2) := by decide +kernel
theorem D_t_readDigits_47 : decode M_t_readDigits.2.1 47 = .ok (.invokestatic 111, 3) := by decide +kernel
theorem D_t_readDigits_50 : decode M_t_readDigits.2.1 50 = .ok (.putfield 47, 3) := by decide +kernel
theorem D_t_readDigits_53 : decode M_t_readDigits.2.1 53 = .ok (.aload_n 0, 1) := by decide +kernel
theorem D_t_readDigits_54 : decode M_t_readDigits.2.1 54 = .ok (.dup, 1) := by decide +kernel
theorem D_t_readDigits_55 : decode M_t_readDigits.2.1 55 = .ok (.getfield 24, 3) := by decide +kernel
theorem D_t_readDigits_58 : decode M_t_readDigits.2.1 58 = .ok (.iconst 1, 1) := by decide +kernel
theorem D_t_readDigits_59 : decode M_t_readDigits.2.1 59 = .ok (.iadd, 1) := by decide +kernel
theorem D_t_readDigits_60 : decode M_t_readDigits.2.1 60 = .ok (.putfield 24, 3) := by decide +kernel
theorem D_t_readDigits_63 : decode M_t_readDigits.2.1 63 = .ok (.goto (-63), 3) := by decide +kernel
theorem D_t_readDigits_66 : decode M_t_readDigits.2.1 66 = .ok (.aload_n 0, 1) := by decide +kernel
theorem D_t_readDigits_67 : decode M_t_readDigits.2.1 67 = .ok (.aload_n 0, 1) := by decide +kernel
theorem D_t_readDigits_68 : decode M_t_readDigits.2.1 68 = .ok (.getfield 44, 3) := by decide +kernel
theorem D_t_readDigits_71 : decode M_t_readDigits.2.1 71 = .ok (.invokevirtual 95, 3) := by decide +kernel
theorem D_t_readDigits_74 : decode M_t_readDigits.2.1 74 = .ok (.bipush 48, 2) := by decide +kernel
theorem D_t_readDigits_76 : decode M_t_readDigits.2.1 76 = .ok (.if_icmp .ne 20, 3) := by decide +kernel
theorem D_t_readDigits_79 : decode M_t_readDigits.2.1 79 = .ok (.aload_n 0, 1) := by decide +kernel
theorem D_t_readDigits_80 : decode M_t_readDigits.2.1 80 = .ok (.getfield 24, 3) := by decide +kernel
theorem D_t_readDigits_83 : decode M_t_readDigits.2.1 83 = .ok (.aload_n 0, 1) := by decide +kernel
theorem D_t_readDigits_84 : decode M_t_readDigits.2.1 84 = .ok (.getfield 44, 3) := by decide +kernel
theorem D_t_readDigits_87 : decode M_t_readDigits.2.1 87 = .ok (.isub, 1) := by decide +kernel
theorem D_t_readDigits_88 : decode M_t_readDigits.2.1 88 = .ok (.iconst 1, 1) := by decide +kernel
theorem D_t_readDigits_89 : decode M_t_readDigits.2.1 89 = .ok (.if_icmp .le 7, 3) := by decide +kernel
theorem D_t_readDigits_92 : decode M_t_readDigits.2.1 92 = .ok (.iconst 1, 1) := by decide +kernel
theorem D_t_readDigits_93 : decode M_t_readDigits.2.1 93 = .ok (.goto 4, 3) := by decide +kernel
theorem D_t_readDigits_96 : decode M_t_readDigits.2.1 96 = .ok (.iconst 0, 1) := by decide +kernel
theorem D_t_readDigits_97 : decode M_t_readDigits.2.1 97 = .ok (.istore_n 1, 1) := by decide +kernel
theorem D_t_readDigits_98 : decode M_t_readDigits.2.1 98 = .ok (.aload_n 0, 1) := by decide +kernel
theorem D_t_readDigits_99 : decode M_t_readDigits.2.1 99 = .ok (.iload_n 1, 1) := by decide +kernel
theorem D_t_readDigits_100 : decode M_t_readDigits.2.1 100 = .ok (.ifCond .ne 12, 3) := by decide +kernel
theorem D_t_readDigits_103 : decode M_t_readDigits.2.1 103 = .ok (.aload_n 0, 1) := by decide +kernel
theorem D_t_readDigits_104 : decode M_t_readDigits.2.1 104 = .ok (.getfield 47, 3) := by decide +kernel
theorem D_t_readDigits_107 : decode M_t_readDigits.2.1 107 = .ok (.bipush 99, 2) := by decide +kernel
theorem D_t_readDigits_109 : decode M_t_readDigits.2.1 109 = .ok (.if_icmp .le 7, 3) := by decide +kernel
theorem D_t_readDigits_112 : decode M_t_readDigits.2.1 112 = .ok (.iconst 4, 1) := by decide +kernel
theorem D_t_readDigits_113 : decode M_t_readDigits.2.1 113 = .ok (.goto 4, 3) := by decide +kernel
theorem D_t_readDigits_116 : decode M_t_readDigits.2.1 116 = .ok (.iconst 2, 1) := by decide +kernel
theorem D_t_readDigits_117 : decode M_t_readDigits.2.1 117 = .ok (.putfield 37, 3) := by decide +kernel
theorem D_t_readDigits_120 : decode M_t_readDigits.2.1 120 = .ok (.return_, 1) := by decide +kernel
theorem D_t_byteAt_0 : decode M_t_byteAt.2.1 0 = .ok (.iload_n 1, 1) := by decide +kernel
theorem D_t_byteAt_1 : decode M_t_byteAt.2.1 1 = .ok (.ifCond .lt 29, 3) := by decide +kernel
theorem D_t_byteAt_4 : decode M_t_byteAt.2.1 4 = .ok (.iload_n 1, 1) := by decide +kernel
theorem D_t_byteAt_5 : decode M_t_byteAt.2.1 5 = .ok (.aload_n 0, 1) := by decide +kernel
theorem D_t_byteAt_6 : decode M_t_byteAt.2.1 6 = .ok (.getfield 15, 3) := by decide +kernel
theorem D_t_byteAt_9 : decode M_t_byteAt.2.1 9 = .ok (.if_icmp .ge 21, 3) := by decide +kernel
theorem D_t_byteAt_12 : decode M_t_byteAt.2.1 12 = .ok (.iload_n 1, 1) := by decide +kernel
theorem D_t_byteAt_13 : decode M_t_byteAt.2.1 13 = .ok (.aload_n 0, 1) := by decide +kernel
theorem D_t_byteAt_14 : decode M_t_byteAt.2.1 14 = .ok (.getfield 9, 3) := by decide +kernel
theorem D_t_byteAt_17 : decode M_t_byteAt.2.1 17 = .ok (.arraylength, 1) := by decide +kernel
theorem D_t_byteAt_18 : decode M_t_byteAt.2.1 18 = .ok (.if_icmp .ge 12, 3) := by decide +kernel
theorem D_t_byteAt_21 : decode M_t_byteAt.2.1 21 = .ok (.aload_n 0, 1) := by decide +kernel
theorem D_t_byteAt_22 : decode M_t_byteAt.2.1 22 = .ok (.getfield 9, 3) := by decide +kernel
theorem D_t_byteAt_25 : decode M_t_byteAt.2.1 25 = .ok (.iload_n 1, 1) := by decide +kernel
theorem D_t_byteAt_26 : decode M_t_byteAt.2.1 26 = .ok (.iaload, 1) := by decide +kernel
theorem D_t_byteAt_27 : decode M_t_byteAt.2.1 27 = .ok (.goto 4, 3) := by decide +kernel
theorem D_t_byteAt_30 : decode M_t_byteAt.2.1 30 = .ok (.iconst 0, 1) := by decide +kernel
theorem D_t_byteAt_31 : decode M_t_byteAt.2.1 31 = .ok (.ireturn, 1) := by decide +kernel
theorem D_t_isLetter_0 : decode M_t_isLetter.2.1 0 = .ok (.iload_n 0, 1) := by decide +kernel
theorem D_t_isLetter_1 : decode M_t_isLetter.2.1 1 = .ok (.bipush 97, 2) := by decide +kernel
theorem D_t_isLetter_3 : decode M_t_isLetter.2.1 3 = .ok (.if_icmp .lt 13, 3) := by decide +kernel
theorem D_t_isLetter_6 : decode M_t_isLetter.2.1 6 = .ok (.iload_n 0, 1) := by decide +kernel
theorem D_t_isLetter_7 : decode M_t_isLetter.2.1 7 = .ok (.bipush 122, 2) := by decide +kernel
theorem D_t_isLetter_9 : decode M_t_isLetter.2.1 9 = .ok (.if_icmp .gt 7, 3) := by decide +kernel
theorem D_t_isLetter_12 : decode M_t_isLetter.2.1 12 = .ok (.iconst 1, 1) := by decide +kernel
theorem D_t_isLetter_13 : decode M_t_isLetter.2.1 13 = .ok (.goto 4, 3) := by decide +kernel
theorem D_t_isLetter_16 : decode M_t_isLetter.2.1 16 = .ok (.iconst 0, 1) := by decide +kernel
theorem D_t_isLetter_17 : decode M_t_isLetter.2.1 17 = .ok (.ireturn, 1) := by decide +kernel
theorem D_t_isDigit_0 : decode M_t_isDigit.2.1 0 = .ok (.iload_n 0, 1) := by decide +kernel
theorem D_t_isDigit_1 : decode M_t_isDigit.2.1 1 = .ok (.bipush 48, 2) := by decide +kernel
theorem D_t_isDigit_3 : decode M_t_isDigit.2.1 3 = .ok (.if_icmp .lt 13, 3) := by decide +kernel
theorem D_t_isDigit_6 : decode M_t_isDigit.2.1 6 = .ok (.iload_n 0, 1) := by decide +kernel
theorem D_t_isDigit_7 : decode M_t_isDigit.2.1 7 = .ok (.bipush 57, 2) := by decide +kernel
theorem D_t_isDigit_9 : decode M_t_isDigit.2.1 9 = .ok (.if_icmp .gt 7, 3) := by decide +kernel
theorem D_t_isDigit_12 : decode M_t_isDigit.2.1 12 = .ok (.iconst 1, 1) := by decide +kernel
theorem D_t_isDigit_13 : decode M_t_isDigit.2.1 13 = .ok (.goto 4, 3) := by decide +kernel
theorem D_t_isDigit_16 : decode M_t_isDigit.2.1 16 = .ok (.iconst 0, 1) := by decide +kernel
theorem D_t_isDigit_17 : decode M_t_isDigit.2.1 17 = .ok (.ireturn, 1) := by decide +kernel
theorem D_j_floorMod_0 : decode M_j_floorMod.2.1 0 = .ok (.iload_n 0, 1) := by decide +kernel
theorem D_j_floorMod_1 : decode M_j_floorMod.2.1 1 = .ok (.iload_n 1, 1) := by decide +kernel
theorem D_j_floorMod_2 : decode M_j_floorMod.2.1 2 = .ok (.irem, 1) := by decide +kernel
theorem D_j_floorMod_3 : decode M_j_floorMod.2.1 3 = .ok (.istore_n 2, 1) := by decide +kernel
theorem D_j_floorMod_4 : decode M_j_floorMod.2.1 4 = .ok (.iload_n 0, 1) := by decide +kernel
theorem D_j_floorMod_5 : decode M_j_floorMod.2.1 5 = .ok (.iload_n 1, 1) := by decide +kernel
theorem D_j_floorMod_6 : decode M_j_floorMod.2.1 6 = .ok (.ixor, 1) := by decide +kernel
theorem D_j_floorMod_7 : decode M_j_floorMod.2.1 7 = .ok (.ifCond .ge 11, 3) := by decide +kernel
theorem D_j_floorMod_10 : decode M_j_floorMod.2.1 10 = .ok (.iload_n 2, 1) := by decide +kernel
theorem D_j_floorMod_11 : decode M_j_floorMod.2.1 11 = .ok (.ifCond .eq 7, 3) := by decide +kernel
theorem D_j_floorMod_14 : decode M_j_floorMod.2.1 14 = .ok (.iload_n 2, 1) := by decide +kernel
theorem D_j_floorMod_15 : decode M_j_floorMod.2.1 15 = .ok (.iload_n 1, 1) := by decide +kernel
theorem D_j_floorMod_16 : decode M_j_floorMod.2.1 16 = .ok (.iadd, 1) := by decide +kernel
theorem D_j_floorMod_17 : decode M_j_floorMod.2.1 17 = .ok (.ireturn, 1) := by decide +kernel
theorem D_j_floorMod_18 : decode M_j_floorMod.2.1 18 = .ok (.iload_n 2, 1) := by decide +kernel
theorem D_j_floorMod_19 : decode M_j_floorMod.2.1 19 = .ok (.ireturn, 1) := by decide +kernel
theorem D_j_max_0 : decode M_j_max.2.1 0 = .ok (.iload_n 0, 1) := by decide +kernel
theorem D_j_max_1 : decode M_j_max.2.1 1 = .ok (.iload_n 1, 1) := by decide +kernel
theorem D_j_max_2 : decode M_j_max.2.1 2 = .ok (.if_icmp .lt 7, 3) := by decide +kernel
theorem D_j_max_5 : decode M_j_max.2.1 5 = .ok (.iload_n 0, 1) := by decide +kernel
theorem D_j_max_6 : decode M_j_max.2.1 6 = .ok (.goto 4, 3) := by decide +kernel
theorem D_j_max_9 : decode M_j_max.2.1 9 = .ok (.iload_n 1, 1) := by decide +kernel
theorem D_j_max_10 : decode M_j_max.2.1 10 = .ok (.ireturn, 1) := by decide +kernel
theorem D_j_min_0 : decode M_j_min.2.1 0 = .ok (.iload_n 0, 1) := by decide +kernel
theorem D_j_min_1 : decode M_j_min.2.1 1 = .ok (.iload_n 1, 1) := by decide +kernel
theorem D_j_min_2 : decode M_j_min.2.1 2 = .ok (.if_icmp .gt 7, 3) := by decide +kernel
theorem D_j_min_5 : decode M_j_min.2.1 5 = .ok (.iload_n 0, 1) := by decide +kernel
theorem D_j_min_6 : decode M_j_min.2.1 6 = .ok (.goto 4, 3) := by decide +kernel
theorem D_j_min_9 : decode M_j_min.2.1 9 = .ok (.iload_n 1, 1) := by decide +kernel
theorem D_j_min_10 : decode M_j_min.2.1 10 = .ok (.ireturn, 1) := by decide +kernel
theorem D_j_fill_0 : decode M_j_fill.2.1 0 = .ok (.iconst 0, 1) := by decide +kernel
theorem D_j_fill_1 : decode M_j_fill.2.1 1 = .ok (.istore_n 2, 1) := by decide +kernel
theorem D_j_fill_2 : decode M_j_fill.2.1 2 = .ok (.aload_n 0, 1) := by decide +kernel
theorem D_j_fill_3 : decode M_j_fill.2.1 3 = .ok (.arraylength, 1) := by decide +kernel
theorem D_j_fill_4 : decode M_j_fill.2.1 4 = .ok (.istore_n 3, 1) := by decide +kernel
theorem D_j_fill_5 : decode M_j_fill.2.1 5 = .ok (.iload_n 2, 1) := by decide +kernel
theorem D_j_fill_6 : decode M_j_fill.2.1 6 = .ok (.iload_n 3, 1) := by decide +kernel
theorem D_j_fill_7 : decode M_j_fill.2.1 7 = .ok (.if_icmp .ge 13, 3) := by decide +kernel
theorem D_j_fill_10 : decode M_j_fill.2.1 10 = .ok (.aload_n 0, 1) := by decide +kernel
theorem D_j_fill_11 : decode M_j_fill.2.1 11 = .ok (.iload_n 2, 1) := by decide +kernel
theorem D_j_fill_12 : decode M_j_fill.2.1 12 = .ok (.iload_n 1, 1) := by decide +kernel
theorem D_j_fill_13 : decode M_j_fill.2.1 13 = .ok (.iastore, 1) := by decide +kernel
theorem D_j_fill_14 : decode M_j_fill.2.1 14 = .ok (.iinc 2 1, 3) := by decide +kernel
theorem D_j_fill_17 : decode M_j_fill.2.1 17 = .ok (.goto (-12), 3) := by decide +kernel
theorem D_j_fill_20 : decode M_j_fill.2.1 20 = .ok (.return_, 1) := by decide +kernel
