theorem D_m_in_0 : decode M_m_in.2.1 0 = .ok (.iload_n 0, 1) := by decide +kernel
theorem D_m_in_1 : decode M_m_in.2.1 1 = .ok (.iload_n 1, 1) := by decide +kernel
theorem D_m_in_2 : decode M_m_in.2.1 2 = .ok (.if_icmp .lt 12, 3) := by decide +kernel
theorem D_m_in_5 : decode M_m_in.2.1 5 = .ok (.iload_n 0, 1) := by decide +kernel
theorem D_m_in_6 : decode M_m_in.2.1 6 = .ok (.iload_n 2, 1) := by decide +kernel
theorem D_m_in_7 : decode M_m_in.2.1 7 = .ok (.if_icmp .gt 7, 3) := by decide +kernel
theorem D_m_in_10 : decode M_m_in.2.1 10 = .ok (.iconst 1, 1) := by decide +kernel
theorem D_m_in_11 : decode M_m_in.2.1 11 = .ok (.goto 4, 3) := by decide +kernel
theorem D_m_in_14 : decode M_m_in.2.1 14 = .ok (.iconst 0, 1) := by decide +kernel
theorem D_m_in_15 : decode M_m_in.2.1 15 = .ok (.ireturn, 1) := by decide +kernel
theorem D_m_has_0 : decode M_m_has.2.1 0 = .ok (.iload_n 0, 1) := by decide +kernel
theorem D_m_has_1 : decode M_m_has.2.1 1 = .ok (.iload_n 1, 1) := by decide +kernel
theorem D_m_has_2 : decode M_m_has.2.1 2 = .ok (.ishr, 1) := by decide +kernel
theorem D_m_has_3 : decode M_m_has.2.1 3 = .ok (.iconst 1, 1) := by decide +kernel
theorem D_m_has_4 : decode M_m_has.2.1 4 = .ok (.iand, 1) := by decide +kernel
theorem D_m_has_5 : decode M_m_has.2.1 5 = .ok (.iconst 1, 1) := by decide +kernel
theorem D_m_has_6 : decode M_m_has.2.1 6 = .ok (.if_icmp .ne 7, 3) := by decide +kernel
theorem D_m_has_9 : decode M_m_has.2.1 9 = .ok (.iconst 1, 1) := by decide +kernel
theorem D_m_has_10 : decode M_m_has.2.1 10 = .ok (.goto 4, 3) := by decide +kernel
theorem D_m_has_13 : decode M_m_has.2.1 13 = .ok (.iconst 0, 1) := by decide +kernel
theorem D_m_has_14 : decode M_m_has.2.1 14 = .ok (.ireturn, 1) := by decide +kernel
theorem D_m_isOne_0 : decode M_m_isOne.2.1 0 = .ok (.iload_n 1, 1) := by decide +kernel
theorem D_m_isOne_1 : decode M_m_isOne.2.1 1 = .ok (.iconst 0, 1) := by decide +kernel
theorem D_m_isOne_2 : decode M_m_isOne.2.1 2 = .ok (.aload_n 0, 1) := by decide +kernel
theorem D_m_isOne_3 : decode M_m_isOne.2.1 3 = .ok (.getfield 66, 3) := by decide +kernel
theorem D_m_isOne_6 : decode M_m_isOne.2.1 6 = .ok (.iconst 1, 1) := by decide +kernel
theorem D_m_isOne_7 : decode M_m_isOne.2.1 7 = .ok (.isub, 1) := by decide +kernel
theorem D_m_isOne_8 : decode M_m_isOne.2.1 8 = .ok (.invokestatic 69, 3) := by decide +kernel
theorem D_m_isOne_11 : decode M_m_isOne.2.1 11 = .ok (.ireturn, 1) := by decide +kernel
theorem D_m_isSpot_0 : decode M_m_isSpot.2.1 0 = .ok (.iload_n 1, 1) := by decide +kernel
theorem D_m_isSpot_1 : decode M_m_isSpot.2.1 1 = .ok (.iconst 0, 1) := by decide +kernel
theorem D_m_isSpot_2 : decode M_m_isSpot.2.1 2 = .ok (.aload_n 0, 1) := by decide +kernel
theorem D_m_isSpot_3 : decode M_m_isSpot.2.1 3 = .ok (.getfield 73, 3) := by decide +kernel
theorem D_m_isSpot_6 : decode M_m_isSpot.2.1 6 = .ok (.iconst 1, 1) := by decide +kernel
theorem D_m_isSpot_7 : decode M_m_isSpot.2.1 7 = .ok (.isub, 1) := by decide +kernel
theorem D_m_isSpot_8 : decode M_m_isSpot.2.1 8 = .ok (.invokestatic 69, 3) := by decide +kernel
theorem D_m_isSpot_11 : decode M_m_isSpot.2.1 11 = .ok (.ireturn, 1) := by decide +kernel
theorem D_m_isColour_0 : decode M_m_isColour.2.1 0 = .ok (.iload_n 0, 1) := by decide +kernel
theorem D_m_isColour_1 : decode M_m_isColour.2.1 1 = .ok (.iconst 0, 1) := by decide +kernel
theorem D_m_isColour_2 : decode M_m_isColour.2.1 2 = .ok (.iconst 5, 1) := by decide +kernel
theorem D_m_isColour_3 : decode M_m_isColour.2.1 3 = .ok (.invokestatic 69, 3) := by decide +kernel
theorem D_m_isColour_6 : decode M_m_isColour.2.1 6 = .ok (.ireturn, 1) := by decide +kernel
theorem D_m_isSpeed_0 : decode M_m_isSpeed.2.1 0 = .ok (.iload_n 0, 1) := by decide +kernel
theorem D_m_isSpeed_1 : decode M_m_isSpeed.2.1 1 = .ok (.iconst 1, 1) := by decide +kernel
theorem D_m_isSpeed_2 : decode M_m_isSpeed.2.1 2 = .ok (.bipush 60, 2) := by decide +kernel
theorem D_m_isSpeed_4 : decode M_m_isSpeed.2.1 4 = .ok (.invokestatic 69, 3) := by decide +kernel
theorem D_m_isSpeed_7 : decode M_m_isSpeed.2.1 7 = .ok (.ireturn, 1) := by decide +kernel
theorem D_m_type_0 : decode M_m_type.2.1 0 = .ok (.iload_n 1, 1) := by decide +kernel
theorem D_m_type_1 : decode M_m_type.2.1 1 = .ok (.iconst 0, 1) := by decide +kernel
theorem D_m_type_2 : decode M_m_type.2.1 2 = .ok (.sipush 255, 3) := by decide +kernel
theorem D_m_type_5 : decode M_m_type.2.1 5 = .ok (.invokestatic 69, 3) := by decide +kernel
theorem D_m_type_8 : decode M_m_type.2.1 8 = .ok (.ifCond .ne 5, 3) := by decide +kernel
theorem D_m_type_11 : decode M_m_type.2.1 11 = .ok (.iconst (-1), 1) := by decide +kernel
theorem D_m_type_12 : decode M_m_type.2.1 12 = .ok (.ireturn, 1) := by decide +kernel
theorem D_m_type_13 : decode M_m_type.2.1 13 = .ok (.aload_n 0, 1) := by decide +kernel
theorem D_m_type_14 : decode M_m_type.2.1 14 = .ok (.getfield 76, 3) := by decide +kernel
theorem D_m_type_17 : decode M_m_type.2.1 17 = .ok (.sipush 150, 3) := by decide +kernel
theorem D_m_type_20 : decode M_m_type.2.1 20 = .ok (.if_icmp .ne 6, 3) := by decide +kernel
theorem D_m_type_23 : decode M_m_type.2.1 23 = .ok (.bipush (-3), 2) := by decide +kernel
theorem D_m_type_25 : decode M_m_type.2.1 25 = .ok (.ireturn, 1) := by decide +kernel
theorem D_m_type_26 : decode M_m_type.2.1 26 = .ok (.aload_n 0, 1) := by decide +kernel
theorem D_m_type_27 : decode M_m_type.2.1 27 = .ok (.getfield 39, 3) := by decide +kernel
theorem D_m_type_30 : decode M_m_type.2.1 30 = .ok (.aload_n 0, 1) := by decide +kernel
theorem D_m_type_31 : decode M_m_type.2.1 31 = .ok (.getfield 76, 3) := by decide +kernel
theorem D_m_type_34 : decode M_m_type.2.1 34 = .ok (.iload_n 1, 1) := by decide +kernel
theorem D_m_type_35 : decode M_m_type.2.1 35 = .ok (.iastore, 1) := by decide +kernel
theorem D_m_type_36 : decode M_m_type.2.1 36 = .ok (.aload_n 0, 1) := by decide +kernel
theorem D_m_type_37 : decode M_m_type.2.1 37 = .ok (.dup, 1) := by decide +kernel
theorem D_m_type_38 : decode M_m_type.2.1 38 = .ok (.getfield 76, 3) := by decide +kernel
theorem D_m_type_41 : decode M_m_type.2.1 41 = .ok (.iconst 1, 1) := by decide +kernel
theorem D_m_type_42 : decode M_m_type.2.1 42 = .ok (.iadd, 1) := by decide +kernel
theorem D_m_type_43 : decode M_m_type.2.1 43 = .ok (.putfield 76, 3) := by decide +kernel
theorem D_m_type_46 : decode M_m_type.2.1 46 = .ok (.aload_n 0, 1) := by decide +kernel
theorem D_m_type_47 : decode M_m_type.2.1 47 = .ok (.getfield 76, 3) := by decide +kernel
theorem D_m_type_50 : decode M_m_type.2.1 50 = .ok (.ireturn, 1) := by decide +kernel
theorem D_m_clear_0 : decode M_m_clear.2.1 0 = .ok (.aload_n 0, 1) := by decide +kernel
theorem D_m_clear_1 : decode M_m_clear.2.1 1 = .ok (.getfield 76, 3) := by decide +kernel
theorem D_m_clear_4 : decode M_m_clear.2.1 4 = .ok (.istore_n 1, 1) := by decide +kernel
theorem D_m_clear_5 : decode M_m_clear.2.1 5 = .ok (.aload_n 0, 1) := by decide +kernel
theorem D_m_clear_6 : decode M_m_clear.2.1 6 = .ok (.iconst 0, 1) := by decide +kernel
theorem D_m_clear_7 : decode M_m_clear.2.1 7 = .ok (.putfield 76, 3) := by decide +kernel
theorem D_m_clear_10 : decode M_m_clear.2.1 10 = .ok (.iload_n 1, 1) := by decide +kernel
theorem D_m_clear_11 : decode M_m_clear.2.1 11 = .ok (.ireturn, 1) := by decide +kernel
theorem D_m_letterAt_0 : decode M_m_letterAt.2.1 0 = .ok (.iload_n 1, 1) := by decide +kernel
theorem D_m_letterAt_1 : decode M_m_letterAt.2.1 1 = .ok (.aload_n 0, 1) := by decide +kernel
theorem D_m_letterAt_2 : decode M_m_letterAt.2.1 2 = .ok (.getfield 76, 3) := by decide +kernel
theorem D_m_letterAt_5 : decode M_m_letterAt.2.1 5 = .ok (.if_icmp .ge 12, 3) := by decide +kernel
theorem D_m_letterAt_8 : decode M_m_letterAt.2.1 8 = .ok (.aload_n 0, 1) := by decide +kernel
theorem D_m_letterAt_9 : decode M_m_letterAt.2.1 9 = .ok (.getfield 39, 3) := by decide +kernel
theorem D_m_letterAt_12 : decode M_m_letterAt.2.1 12 = .ok (.iload_n 1, 1) := by decide +kernel
theorem D_m_letterAt_13 : decode M_m_letterAt.2.1 13 = .ok (.iaload, 1) := by decide +kernel
theorem D_m_letterAt_14 : decode M_m_letterAt.2.1 14 = .ok (.goto 4, 3) := by decide +kernel
theorem D_m_letterAt_17 : decode M_m_letterAt.2.1 17 = .ok (.iconst (-1), 1) := by decide +kernel
theorem D_m_letterAt_18 : decode M_m_letterAt.2.1 18 = .ok (.ireturn, 1) := by decide +kernel
theorem D_m_isFigure_0 : decode M_m_isFigure.2.1 0 = .ok (.iload_n 0, 1) := by decide +kernel
theorem D_m_isFigure_1 : decode M_m_isFigure.2.1 1 = .ok (.bipush 48, 2) := by decide +kernel
theorem D_m_isFigure_3 : decode M_m_isFigure.2.1 3 = .ok (.bipush 57, 2) := by decide +kernel
theorem D_m_isFigure_5 : decode M_m_isFigure.2.1 5 = .ok (.invokestatic 69, 3) := by decide +kernel
theorem D_m_isFigure_8 : decode M_m_isFigure.2.1 8 = .ok (.ireturn, 1) := by decide +kernel
theorem D_m_isLetter_0 : decode M_m_isLetter.2.1 0 = .ok (.iload_n 0, 1) := by decide +kernel
theorem D_m_isLetter_1 : decode M_m_isLetter.2.1 1 = .ok (.bipush 97, 2) := by decide +kernel
theorem D_m_isLetter_3 : decode M_m_isLetter.2.1 3 = .ok (.bipush 122, 2) := by decide +kernel
theorem D_m_isLetter_5 : decode M_m_isLetter.2.1 5 = .ok (.invokestatic 69, 3) := by decide +kernel
theorem D_m_isLetter_8 : decode M_m_isLetter.2.1 8 = .ok (.ireturn, 1) := by decide +kernel
theorem D_m_next_0 : decode M_m_next.2.1 0 = .ok (.aload_n 0, 1) := by decide +kernel
theorem D_m_next_1 : decode M_m_next.2.1 1 = .ok (.aload_n 0, 1) := by decide +kernel
theorem D_m_next_2 : decode M_m_next.2.1 2 = .ok (.getfield 79, 3) := by decide +kernel
theorem D_m_next_5 : decode M_m_next.2.1 5 = .ok (.invokevirtual 82, 3) := by decide +kernel
theorem D_m_next_8 : decode M_m_next.2.1 8 = .ok (.bipush 32, 2) := by decide +kernel
theorem D_m_next_10 : decode M_m_next.2.1 10 = .ok (.if_icmp .ne 16, 3) := by decide +kernel
theorem D_m_next_13 : decode M_m_next.2.1 13 = .ok (.aload_n 0, 1) := by decide +kernel
theorem D_m_next_14 : decode M_m_next.2.1 14 = .ok (.dup, 1) := by decide +kernel
theorem D_m_next_15 : decode M_m_next.2.1 15 = .ok (.getfield 79, 3) := by decide +kernel
theorem D_m_next_18 : decode M_m_next.2.1 18 = .ok (.iconst 1, 1) := by decide +kernel
theorem D_m_next_19 : decode M_m_next.2.1 19 = .ok (.iadd, 1) := by decide +kernel
theorem D_m_next_20 : decode M_m_next.2.1 20 = .ok (.putfield 79, 3) := by decide +kernel
theorem D_m_next_23 : decode M_m_next.2.1 23 = .ok (.goto (-23), 3) := by decide +kernel
theorem D_m_next_26 : decode M_m_next.2.1 26 = .ok (.aload_n 0, 1) := by decide +kernel
theorem D_m_next_27 : decode M_m_next.2.1 27 = .ok (.aload_n 0, 1) := by decide +kernel
theorem D_m_next_28 : decode M_m_next.2.1 28 = .ok (.getfield 79, 3) := by decide +kernel
theorem D_m_next_31 : decode M_m_next.2.1 31 = .ok (.putfield 86, 3) := by decide +kernel
theorem D_m_next_34 : decode M_m_next.2.1 34 = .ok (.aload_n 0, 1) := by decide +kernel
theorem D_m_next_35 : decode M_m_next.2.1 35 = .ok (.aload_n 0, 1) := by decide +kernel
theorem D_m_next_36 : decode M_m_next.2.1 36 = .ok (.getfield 79, 3) := by decide +kernel
theorem D_m_next_39 : decode M_m_next.2.1 39 = .ok (.invokevirtual 82, 3) := by decide +kernel
theorem D_m_next_42 : decode M_m_next.2.1 42 = .ok (.istore_n 1, 1) := by decide +kernel
theorem D_m_next_43 : decode M_m_next.2.1 43 = .ok (.aload_n 0, 1) := by decide +kernel
theorem D_m_next_44 : decode M_m_next.2.1 44 = .ok (.iconst 0, 1) := by decide +kernel
theorem D_m_next_45 : decode M_m_next.2.1 45 = .ok (.putfield 89, 3) := by decide +kernel
theorem D_m_next_48 : decode M_m_next.2.1 48 = .ok (.iload_n 1, 1) := by decide +kernel
theorem D_m_next_49 : decode M_m_next.2.1 49 = .ok (.ifCond .ge 11, 3) := by decide +kernel
theorem D_m_next_52 : decode M_m_next.2.1 52 = .ok (.aload_n 0, 1) := by decide +kernel
theorem D_m_next_53 : decode M_m_next.2.1 53 = .ok (.iconst 0, 1) := by decide +kernel
theorem D_m_next_54 : decode M_m_next.2.1 54 = .ok (.putfield 92, 3) := by decide +kernel
theorem D_m_next_57 : decode M_m_next.2.1 57 = .ok (.goto 205, 3) := by decide +kernel
theorem D_m_next_60 : decode M_m_next.2.1 60 = .ok (.iload_n 1, 1) := by decide +kernel
theorem D_m_next_61 : decode M_m_next.2.1 61 = .ok (.invokestatic 95, 3) := by decide +kernel
theorem D_m_next_64 : decode M_m_next.2.1 64 = .ok (.ifCond .eq 109, 3) := by decide +kernel
theorem D_m_next_67 : decode M_m_next.2.1 67 = .ok (.aload_n 0, 1) := by decide +kernel
theorem D_m_next_68 : decode M_m_next.2.1 68 = .ok (.aload_n 0, 1) := by decide +kernel
theorem D_m_next_69 : decode M_m_next.2.1 69 = .ok (.getfield 79, 3) := by decide +kernel
theorem D_m_next_72 : decode M_m_next.2.1 72 = .ok (.invokevirtual 82, 3) := by decide +kernel
theorem D_m_next_75 : decode M_m_next.2.1 75 = .ok (.invokestatic 95, 3) := by decide +kernel
theorem D_m_next_78 : decode M_m_next.2.1 78 = .ok (.ifCond .eq 55, 3) := by decide +kernel
theorem D_m_next_81 : decode M_m_next.2.1 81 = .ok (.aload_n 0, 1) := by decide +kernel
theorem D_m_next_82 : decode M_m_next.2.1 82 = .ok (.aload_n 0, 1) := by decide +kernel
theorem D_m_next_83 : decode M_m_next.2.1 83 = .ok (.getfield 89, 3) := by decide +kernel
theorem D_m_next_86 : decode M_m_next.2.1 86 = .ok (.bipush 99, 2) := by decide +kernel
theorem D_m_next_88 : decode M_m_next.2.1 88 = .ok (.if_icmp .le 10, 3) := by decide +kernel
theorem D_m_next_91 : decode M_m_next.2.1 91 = .ok (.aload_n 0, 1) := by decide +kernel
theorem D_m_next_92 : decode M_m_next.2.1 92 = .ok (.getfield 89, 3) := by decide +kernel
theorem D_m_next_95 : decode M_m_next.2.1 95 = .ok (.goto 22, 3) := by decide +kernel
theorem D_m_next_98 : decode M_m_next.2.1 98 = .ok (.bipush 10, 2) := by decide +kernel
theorem D_m_next_100 : decode M_m_next.2.1 100 = .ok (.aload_n 0, 1) := by decide +kernel
theorem D_m_next_101 : decode M_m_next.2.1 101 = .ok (.getfield 89, 3) := by decide +kernel
theorem D_m_next_104 : decode M_m_next.2.1 104 = .ok (.imul, 1) := by decide +kernel
theorem D_m_next_105 : decode M_m_next.2.1 105 = .ok (.aload_n 0, 1) := by decide +kernel
theorem D_m_next_106 : decode M_m_next.2.1 106 = .ok (.aload_n 0, 1) := by decide +kernel
theorem D_m_next_107 : decode M_m_next.2.1 107 = .ok (.getfield 79, 3) := by decide +kernel
theorem D_m_next_110 : decode M_m_next.2.1 110 = .ok (.invokevirtual 82, 3) := by decide +kernel
theorem D_m_next_113 : decode M_m_next.2.1 113 = .ok (.iadd, 1) := by decide +kernel
theorem D_m_next_114 : decode M_m_next.2.1 114 = .ok (.bipush 48, 2) := by decide +kernel
theorem D_m_next_116 : decode M_m_next.2.1 116 = .ok (.isub, 1) := by decide +kernel
theorem D_m_next_117 : decode M_m_next.2.1 117 = .ok (.putfield 89, 3) := by decide +kernel
theorem D_m_next_120 : decode M_m_next.2.1 120 = .ok (.aload_n 0, 1) := by decide +kernel
theorem D_m_next_121 : decode M_m_next.2.1 121 = .ok (.dup, 1) := by decide +kernel
theorem D_m_next_122 : decode M_m_next.2.1 122 = .ok (.getfield 79, 3) := by decide +kernel
theorem D_m_next_125 : decode M_m_next.2.1 125 = .ok (.iconst 1, 1) := by decide +kernel
theorem D_m_next_126 : decode M_m_next.2.1 126 = .ok (.iadd, 1) := by decide +kernel
theorem D_m_next_127 : decode M_m_next.2.1 127 = .ok (.putfield 79, 3) := by decide +kernel
theorem D_m_next_130 : decode M_m_next.2.1 130 = .ok (.goto (-63), 3) := by decide +kernel
theorem D_m_next_133 : decode M_m_next.2.1 133 = .ok (.aload_n 0, 1) := by decide +kernel
theorem D_m_next_134 : decode M_m_next.2.1 134 = .ok (.aload_n 0, 1) := by decide +kernel
theorem D_m_next_135 : decode M_m_next.2.1 135 = .ok (.getfield 89, 3) := by decide +kernel
theorem D_m_next_138 : decode M_m_next.2.1 138 = .ok (.bipush 99, 2) := by decide +kernel
theorem D_m_next_140 : decode M_m_next.2.1 140 = .ok (.if_icmp .gt 22, 3) := by decide +kernel
theorem D_m_next_143 : decode M_m_next.2.1 143 = .ok (.iload_n 1, 1) := by decide +kernel
theorem D_m_next_144 : decode M_m_next.2.1 144 = .ok (.bipush 48, 2) := by decide +kernel
theorem D_m_next_146 : decode M_m_next.2.1 146 = .ok (.if_icmp .ne 20, 3) := by decide +kernel
theorem D_m_next_149 : decode M_m_next.2.1 149 = .ok (.aload_n 0, 1) := by decide +kernel
theorem D_m_next_150 : decode M_m_next.2.1 150 = .ok (.getfield 79, 3) := by decide +kernel
theorem D_m_next_153 : decode M_m_next.2.1 153 = .ok (.aload_n 0, 1) := by decide +kernel
theorem D_m_next_154 : decode M_m_next.2.1 154 = .ok (.getfield 86, 3) := by decide +kernel
theorem D_m_next_157 : decode M_m_next.2.1 157 = .ok (.isub, 1) := by decide +kernel
theorem D_m_next_158 : decode M_m_next.2.1 158 = .ok (.iconst 1, 1) := by decide +kernel
theorem D_m_next_159 : decode M_m_next.2.1 159 = .ok (.if_icmp .le 7, 3) := by decide +kernel
theorem D_m_next_162 : decode M_m_next.2.1 162 = .ok (.iconst 4, 1) := by decide +kernel
theorem D_m_next_163 : decode M_m_next.2.1 163 = .ok (.goto 4, 3) := by decide +kernel
theorem D_m_next_166 : decode M_m_next.2.1 166 = .ok (.iconst 2, 1) := by decide +kernel
theorem D_m_next_167 : decode M_m_next.2.1 167 = .ok (.putfield 92, 3) := by decide +kernel
theorem D_m_next_170 : decode M_m_next.2.1 170 = .ok (.goto 92, 3) := by decide +kernel
theorem D_m_next_173 : decode M_m_next.2.1 173 = .ok (.iload_n 1, 1) := by decide +kernel
theorem D_m_next_174 : decode M_m_next.2.1 174 = .ok (.invokestatic 99, 3) := by decide +kernel
theorem D_m_next_177 : decode M_m_next.2.1 177 = .ok (.ifCond .eq 60, 3) := by decide +kernel
theorem D_m_next_180 : decode M_m_next.2.1 180 = .ok (.aload_n 0, 1) := by decide +kernel
theorem D_m_next_181 : decode M_m_next.2.1 181 = .ok (.aload_n 0, 1) := by decide +kernel
theorem D_m_next_182 : decode M_m_next.2.1 182 = .ok (.getfield 79, 3) := by decide +kernel
theorem D_m_next_185 : decode M_m_next.2.1 185 = .ok (.invokevirtual 82, 3) := by decide +kernel
theorem D_m_next_188 : decode M_m_next.2.1 188 = .ok (.invokestatic 99, 3) := by decide +kernel
theorem D_m_next_191 : decode M_m_next.2.1 191 = .ok (.ifCond .eq 16, 3) := by decide +kernel
theorem D_m_next_194 : decode M_m_next.2.1 194 = .ok (.aload_n 0, 1) := by decide +kernel
theorem D_m_next_195 : decode M_m_next.2.1 195 = .ok (.dup, 1) := by decide +kernel
theorem D_m_next_196 : decode M_m_next.2.1 196 = .ok (.getfield 79, 3) := by decide +kernel
theorem D_m_next_199 : decode M_m_next.2.1 199 = .ok (.iconst 1, 1) := by decide +kernel
theorem D_m_next_200 : decode M_m_next.2.1 200 = .ok (.iadd, 1) := by decide +kernel
theorem D_m_next_201 : decode M_m_next.2.1 201 = .ok (.putfield 79, 3) := by decide +kernel
theorem D_m_next_204 : decode M_m_next.2.1 204 = .ok (.goto (-24), 3) := by decide +kernel
theorem D_m_next_207 : decode M_m_next.2.1 207 = .ok (.aload_n 0, 1) := by decide +kernel
theorem D_m_next_208 : decode M_m_next.2.1 208 = .ok (.iconst 1, 1) := by decide +kernel
theorem D_m_next_209 : decode M_m_next.2.1 209 = .ok (.putfield 92, 3) := by decide +kernel
theorem D_m_next_212 : decode M_m_next.2.1 212 = .ok (.aload_n 0, 1) := by decide +kernel
theorem D_m_next_213 : decode M_m_next.2.1 213 = .ok (.aload_n 0, 1) := by decide +kernel
theorem D_m_next_214 : decode M_m_next.2.1 214 = .ok (.getfield 79, 3) := by decide +kernel
theorem D_m_next_217 : decode M_m_next.2.1 217 = .ok (.aload_n 0, 1) := by decide +kernel
theorem D_m_next_218 : decode M_m_next.2.1 218 = .ok (.getfield 86, 3) := by decide +kernel
theorem D_m_next_221 : decode M_m_next.2.1 221 = .ok (.isub, 1) := by decide +kernel
theorem D_m_next_222 : decode M_m_next.2.1 222 = .ok (.iconst 1, 1) := by decide +kernel
theorem D_m_next_223 : decode M_m_next.2.1 223 = .ok (.if_icmp .ne 7, 3) := by decide +kernel
theorem D_m_next_226 : decode M_m_next.2.1 226 = .ok (.iload_n 1, 1) := by decide +kernel
theorem D_m_next_227 : decode M_m_next.2.1 227 = .ok (.goto 4, 3) := by decide +kernel
theorem D_m_next_230 : decode M_m_next.2.1 230 = .ok (.iconst 0, 1) := by decide +kernel
theorem D_m_next_231 : decode M_m_next.2.1 231 = .ok (.putfield 89, 3) := by decide +kernel
theorem D_m_next_234 : decode M_m_next.2.1 234 = .ok (.goto 28, 3) := by decide +kernel
theorem D_m_next_237 : decode M_m_next.2.1 237 = .ok (.aload_n 0, 1) := by decide +kernel
theorem D_m_next_238 : decode M_m_next.2.1 238 = .ok (.iload_n 1, 1) := by decide +kernel
theorem D_m_next_239 : decode M_m_next.2.1 239 = .ok (.bipush 59, 2) := by decide +kernel
theorem D_m_next_241 : decode M_m_next.2.1 241 = .ok (.if_icmp .ne 7, 3) := by decide +kernel
theorem D_m_next_244 : decode M_m_next.2.1 244 = .ok (.iconst 3, 1) := by decide +kernel
theorem D_m_next_245 : decode M_m_next.2.1 245 = .ok (.goto 4, 3) := by decide +kernel
theorem D_m_next_248 : decode M_m_next.2.1 248 = .ok (.iconst 4, 1) := by decide +kernel
theorem D_m_next_249 : decode M_m_next.2.1 249 = .ok (.putfield 92, 3) := by decide +kernel
theorem D_m_next_252 : decode M_m_next.2.1 252 = .ok (.aload_n 0, 1) := by decide +kernel
theorem D_m_next_253 : decode M_m_next.2.1 253 = .ok (.dup, 1) := by decide +kernel
theorem D_m_next_254 : decode M_m_next.2.1 254 = .ok (.getfield 79, 3) := by decide +kernel
theorem D_m_next_257 : decode M_m_next.2.1 257 = .ok (.iconst 1, 1) := by decide +kernel
theorem D_m_next_258 : decode M_m_next.2.1 258 = .ok (.iadd, 1) := by decide +kernel
theorem D_m_next_259 : decode M_m_next.2.1 259 = .ok (.putfield 79, 3) := by decide +kernel
theorem D_m_next_262 : decode M_m_next.2.1 262 = .ok (.return_, 1) := by decide +kernel
theorem D_m_takesNumber_0 : decode M_m_takesNumber.2.1 0 = .ok (.aload_n 0, 1) := by decide +kernel
theorem D_m_takesNumber_1 : decode M_m_takesNumber.2.1 1 = .ok (.getfield 102, 3) := by decide +kernel
theorem D_m_takesNumber_4 : decode M_m_takesNumber.2.1 4 = .ok (.ifCond .ne 27, 3) := by decide +kernel
theorem D_m_takesNumber_7 : decode M_m_takesNumber.2.1 7 = .ok (.aload_n 0, 1) := by decide +kernel
theorem D_m_takesNumber_8 : decode M_m_takesNumber.2.1 8 = .ok (.getfield 92, 3) := by decide +kernel
theorem D_m_takesNumber_11 : decode M_m_takesNumber.2.1 11 = .ok (.iconst 2, 1) := by decide +kernel
theorem D_m_takesNumber_12 : decode M_m_takesNumber.2.1 12 = .ok (.if_icmp .ne 19, 3) := by decide +kernel
theorem D_m_takesNumber_15 : decode M_m_takesNumber.2.1 15 = .ok (.aload_n 0, 1) := by decide +kernel
theorem D_m_takesNumber_16 : decode M_m_takesNumber.2.1 16 = .ok (.getfield 89, 3) := by decide +kernel
theorem D_m_takesNumber_19 : decode M_m_takesNumber.2.1 19 = .ok (.iload_n 1, 1) := by decide +kernel
theorem D_m_takesNumber_20 : decode M_m_takesNumber.2.1 20 = .ok (.iload_n 2, 1) := by decide +kernel
theorem D_m_takesNumber_21 : decode M_m_takesNumber.2.1 21 = .ok (.invokestatic 69, 3) := by decide +kernel
theorem D_m_takesNumber_24 : decode M_m_takesNumber.2.1 24 = .ok (.ifCond .eq 7, 3) := by decide +kernel
theorem D_m_takesNumber_27 : decode M_m_takesNumber.2.1 27 = .ok (.iconst 1, 1) := by decide +kernel
theorem D_m_takesNumber_28 : decode M_m_takesNumber.2.1 28 = .ok (.goto 4, 3) := by decide +kernel
theorem D_m_takesNumber_31 : decode M_m_takesNumber.2.1 31 = .ok (.iconst 0, 1) := by decide +kernel
theorem D_m_takesNumber_32 : decode M_m_takesNumber.2.1 32 = .ok (.istore_n 3, 1) := by decide +kernel
theorem D_m_takesNumber_33 : decode M_m_takesNumber.2.1 33 = .ok (.aload_n 0, 1) := by decide +kernel
theorem D_m_takesNumber_34 : decode M_m_takesNumber.2.1 34 = .ok (.iload_n 3, 1) := by decide +kernel
theorem D_m_takesNumber_35 : decode M_m_takesNumber.2.1 35 = .ok (.ifCond .ne 7, 3) := by decide +kernel
theorem D_m_takesNumber_38 : decode M_m_takesNumber.2.1 38 = .ok (.iconst 1, 1) := by decide +kernel
theorem D_m_takesNumber_39 : decode M_m_takesNumber.2.1 39 = .ok (.goto 4, 3) := by decide +kernel
theorem D_m_takesNumber_42 : decode M_m_takesNumber.2.1 42 = .ok (.iconst 0, 1) := by decide +kernel
theorem D_m_takesNumber_43 : decode M_m_takesNumber.2.1 43 = .ok (.putfield 102, 3) := by decide +kernel
theorem D_m_takesNumber_46 : decode M_m_takesNumber.2.1 46 = .ok (.aload_n 0, 1) := by decide +kernel
theorem D_m_takesNumber_47 : decode M_m_takesNumber.2.1 47 = .ok (.getfield 89, 3) := by decide +kernel
theorem D_m_takesNumber_50 : decode M_m_takesNumber.2.1 50 = .ok (.istore 4, 2) := by decide +kernel
theorem D_m_takesNumber_52 : decode M_m_takesNumber.2.1 52 = .ok (.iload_n 3, 1) := by decide +kernel
theorem D_m_takesNumber_53 : decode M_m_takesNumber.2.1 53 = .ok (.ifCond .eq 7, 3) := by decide +kernel
theorem D_m_takesNumber_56 : decode M_m_takesNumber.2.1 56 = .ok (.aload_n 0, 1) := by decide +kernel
theorem D_m_takesNumber_57 : decode M_m_takesNumber.2.1 57 = .ok (.invokevirtual 106, 3) := by decide +kernel
theorem D_m_takesNumber_60 : decode M_m_takesNumber.2.1 60 = .ok (.iload_n 3, 1) := by decide +kernel
theorem D_m_takesNumber_61 : decode M_m_takesNumber.2.1 61 = .ok (.ifCond .eq 8, 3) := by decide +kernel
theorem D_m_takesNumber_64 : decode M_m_takesNumber.2.1 64 = .ok (.iload 4, 2) := by decide +kernel
theorem D_m_takesNumber_66 : decode M_m_takesNumber.2.1 66 = .ok (.goto 4, 3) := by decide +kernel
theorem D_m_takesNumber_69 : decode M_m_takesNumber.2.1 69 = .ok (.iconst 0, 1) := by decide +kernel
theorem D_m_takesNumber_70 : decode M_m_takesNumber.2.1 70 = .ok (.ireturn, 1) := by decide +kernel
theorem D_m_readOne_0 : decode M_m_readOne.2.1 0 = .ok (.iconst 0, 1) := by decide +kernel
theorem D_m_readOne_1 : decode M_m_readOne.2.1 1 = .ok (.istore_n 1, 1) := by decide +kernel
theorem D_m_readOne_2 : decode M_m_readOne.2.1 2 = .ok (.iload_n 1, 1) := by decide +kernel
theorem D_m_readOne_3 : decode M_m_readOne.2.1 3 = .ok (.aload_n 0, 1) := by decide +kernel
theorem D_m_readOne_4 : decode M_m_readOne.2.1 4 = .ok (.getfield 109, 3) := by decide +kernel
theorem D_m_readOne_7 : decode M_m_readOne.2.1 7 = .ok (.if_icmp .ge 46, 3) := by decide +kernel
theorem D_m_readOne_10 : decode M_m_readOne.2.1 10 = .ok (.aload_n 0, 1) := by decide +kernel
theorem D_m_readOne_11 : decode M_m_readOne.2.1 11 = .ok (.aload_n 0, 1) := by decide +kernel
theorem D_m_readOne_12 : decode M_m_readOne.2.1 12 = .ok (.getfield 102, 3) := by decide +kernel
theorem D_m_readOne_15 : decode M_m_readOne.2.1 15 = .ok (.ifCond .ne 24, 3) := by decide +kernel
theorem D_m_readOne_18 : decode M_m_readOne.2.1 18 = .ok (.aload_n 0, 1) := by decide +kernel
theorem D_m_readOne_19 : decode M_m_readOne.2.1 19 = .ok (.getfield 92, 3) := by decide +kernel
theorem D_m_readOne_22 : decode M_m_readOne.2.1 22 = .ok (.iconst 2, 1) := by decide +kernel
theorem D_m_readOne_23 : decode M_m_readOne.2.1 23 = .ok (.if_icmp .ne 20, 3) := by decide +kernel
theorem D_m_readOne_26 : decode M_m_readOne.2.1 26 = .ok (.aload_n 0, 1) := by decide +kernel
theorem D_m_readOne_27 : decode M_m_readOne.2.1 27 = .ok (.getfield 89, 3) := by decide +kernel
theorem D_m_readOne_30 : decode M_m_readOne.2.1 30 = .ok (.aload_n 0, 1) := by decide +kernel
theorem D_m_readOne_31 : decode M_m_readOne.2.1 31 = .ok (.getfield 45, 3) := by decide +kernel
theorem D_m_readOne_34 : decode M_m_readOne.2.1 34 = .ok (.iload_n 1, 1) := by decide +kernel
theorem D_m_readOne_35 : decode M_m_readOne.2.1 35 = .ok (.iaload, 1) := by decide +kernel
theorem D_m_readOne_36 : decode M_m_readOne.2.1 36 = .ok (.if_icmp .ne 7, 3) := by decide +kernel
theorem D_m_readOne_39 : decode M_m_readOne.2.1 39 = .ok (.iconst 1, 1) := by decide +kernel
theorem D_m_readOne_40 : decode M_m_readOne.2.1 40 = .ok (.goto 4, 3) := by decide +kernel
theorem D_m_readOne_43 : decode M_m_readOne.2.1 43 = .ok (.iconst 0, 1) := by decide +kernel
theorem D_m_readOne_44 : decode M_m_readOne.2.1 44 = .ok (.putfield 102, 3) := by decide +kernel
theorem D_m_readOne_47 : decode M_m_readOne.2.1 47 = .ok (.iinc 1 1, 3) := by decide +kernel
theorem D_m_readOne_50 : decode M_m_readOne.2.1 50 = .ok (.goto (-48), 3) := by decide +kernel
theorem D_m_readOne_53 : decode M_m_readOne.2.1 53 = .ok (.aload_n 0, 1) := by decide +kernel
theorem D_m_readOne_54 : decode M_m_readOne.2.1 54 = .ok (.getfield 45, 3) := by decide +kernel
theorem D_m_readOne_57 : decode M_m_readOne.2.1 57 = .ok (.aload_n 0, 1) := by decide +kernel
theorem D_m_readOne_58 : decode M_m_readOne.2.1 58 = .ok (.getfield 109, 3) := by decide +kernel
theorem D_m_readOne_61 : decode M_m_readOne.2.1 61 = .ok (.aload_n 0, 1) := by decide +kernel
theorem D_m_readOne_62 : decode M_m_readOne.2.1 62 = .ok (.iconst 0, 1) := by decide +kernel
theorem D_m_readOne_63 : decode M_m_readOne.2.1 63 = .ok (.aload_n 0, 1) := by decide +kernel
theorem D_m_readOne_64 : decode M_m_readOne.2.1 64 = .ok (.getfield 112, 3) := by decide +kernel
theorem D_m_readOne_67 : decode M_m_readOne.2.1 67 = .ok (.iconst 1, 1) := by decide +kernel
theorem D_m_readOne_68 : decode M_m_readOne.2.1 68 = .ok (.isub, 1) := by decide +kernel
theorem D_m_readOne_69 : decode M_m_readOne.2.1 69 = .ok (.invokevirtual 115, 3) := by decide +kernel
theorem D_m_readOne_72 : decode M_m_readOne.2.1 72 = .ok (.iastore, 1) := by decide +kernel
theorem D_m_readOne_73 : decode M_m_readOne.2.1 73 = .ok (.aload_n 0, 1) := by decide +kernel
theorem D_m_readOne_74 : decode M_m_readOne.2.1 74 = .ok (.getfield 48, 3) := by decide +kernel
theorem D_m_readOne_77 : decode M_m_readOne.2.1 77 = .ok (.aload_n 0, 1) := by decide +kernel
theorem D_m_readOne_78 : decode M_m_readOne.2.1 78 = .ok (.getfield 109, 3) := by decide +kernel
theorem D_m_readOne_81 : decode M_m_readOne.2.1 81 = .ok (.aload_n 0, 1) := by decide +kernel
theorem D_m_readOne_82 : decode M_m_readOne.2.1 82 = .ok (.iconst 1, 1) := by decide +kernel
theorem D_m_readOne_83 : decode M_m_readOne.2.1 83 = .ok (.iconst 5, 1) := by decide +kernel
theorem D_m_readOne_84 : decode M_m_readOne.2.1 84 = .ok (.invokevirtual 115, 3) := by decide +kernel
theorem D_m_readOne_87 : decode M_m_readOne.2.1 87 = .ok (.iastore, 1) := by decide +kernel
theorem D_m_readOne_88 : decode M_m_readOne.2.1 88 = .ok (.aload_n 0, 1) := by decide +kernel
theorem D_m_readOne_89 : decode M_m_readOne.2.1 89 = .ok (.dup, 1) := by decide +kernel
theorem D_m_readOne_90 : decode M_m_readOne.2.1 90 = .ok (.getfield 109, 3) := by decide +kernel
theorem D_m_readOne_93 : decode M_m_readOne.2.1 93 = .ok (.iconst 1, 1) := by decide +kernel
theorem D_m_readOne_94 : decode M_m_readOne.2.1 94 = .ok (.iadd, 1) := by decide +kernel
theorem D_m_readOne_95 : decode M_m_readOne.2.1 95 = .ok (.putfield 109, 3) := by decide +kernel
theorem D_m_readOne_98 : decode M_m_readOne.2.1 98 = .ok (.return_, 1) := by decide +kernel
theorem D_m_mayBegin_0 : decode M_m_mayBegin.2.1 0 = .ok (.iload_n 1, 1) := by decide +kernel
theorem D_m_mayBegin_1 : decode M_m_mayBegin.2.1 1 = .ok (.lookupswitch 99 #[(99, 43), (100, 71), (107, 58), (112, 84)], 43) := by decide +kernel
theorem D_m_mayBegin_44 : decode M_m_mayBegin.2.1 44 = .ok (.aload_n 0, 1) := by decide +kernel
theorem D_m_mayBegin_45 : decode M_m_mayBegin.2.1 45 = .ok (.getfield 112, 3) := by decide +kernel
theorem D_m_mayBegin_48 : decode M_m_mayBegin.2.1 48 = .ok (.bipush 12, 2) := by decide +kernel
theorem D_m_mayBegin_50 : decode M_m_mayBegin.2.1 50 = .ok (.if_icmp .ge 7, 3) := by decide +kernel
theorem D_m_mayBegin_53 : decode M_m_mayBegin.2.1 53 = .ok (.iconst 1, 1) := by decide +kernel
theorem D_m_mayBegin_54 : decode M_m_mayBegin.2.1 54 = .ok (.goto 4, 3) := by decide +kernel
theorem D_m_mayBegin_57 : decode M_m_mayBegin.2.1 57 = .ok (.iconst 0, 1) := by decide +kernel
theorem D_m_mayBegin_58 : decode M_m_mayBegin.2.1 58 = .ok (.ireturn, 1) := by decide +kernel
theorem D_m_mayBegin_59 : decode M_m_mayBegin.2.1 59 = .ok (.aload_n 0, 1) := by decide +kernel
theorem D_m_mayBegin_60 : decode M_m_mayBegin.2.1 60 = .ok (.getfield 119, 3) := by decide +kernel
theorem D_m_mayBegin_63 : decode M_m_mayBegin.2.1 63 = .ok (.ifCond .ge 7, 3) := by decide +kernel
theorem D_m_mayBegin_66 : decode M_m_mayBegin.2.1 66 = .ok (.iconst 1, 1) := by decide +kernel
theorem D_m_mayBegin_67 : decode M_m_mayBegin.2.1 67 = .ok (.goto 4, 3) := by decide +kernel
theorem D_m_mayBegin_70 : decode M_m_mayBegin.2.1 70 = .ok (.iconst 0, 1) := by decide +kernel
theorem D_m_mayBegin_71 : decode M_m_mayBegin.2.1 71 = .ok (.ireturn, 1) := by decide +kernel
theorem D_m_mayBegin_72 : decode M_m_mayBegin.2.1 72 = .ok (.aload_n 0, 1) := by decide +kernel
theorem D_m_mayBegin_73 : decode M_m_mayBegin.2.1 73 = .ok (.getfield 122, 3) := by decide +kernel
theorem D_m_mayBegin_76 : decode M_m_mayBegin.2.1 76 = .ok (.ifCond .ge 7, 3) := by decide +kernel
theorem D_m_mayBegin_79 : decode M_m_mayBegin.2.1 79 = .ok (.iconst 1, 1) := by decide +kernel
theorem D_m_mayBegin_80 : decode M_m_mayBegin.2.1 80 = .ok (.goto 4, 3) := by decide +kernel
theorem D_m_mayBegin_83 : decode M_m_mayBegin.2.1 83 = .ok (.iconst 0, 1) := by decide +kernel
theorem D_m_mayBegin_84 : decode M_m_mayBegin.2.1 84 = .ok (.ireturn, 1) := by decide +kernel
theorem D_m_mayBegin_85 : decode M_m_mayBegin.2.1 85 = .ok (.aload_n 0, 1) := by decide +kernel
theorem D_m_mayBegin_86 : decode M_m_mayBegin.2.1 86 = .ok (.getfield 109, 3) := by decide +kernel
theorem D_m_mayBegin_89 : decode M_m_mayBegin.2.1 89 = .ok (.bipush 6, 2) := by decide +kernel
theorem D_m_mayBegin_91 : decode M_m_mayBegin.2.1 91 = .ok (.if_icmp .ge 7, 3) := by decide +kernel
theorem D_m_mayBegin_94 : decode M_m_mayBegin.2.1 94 = .ok (.iconst 1, 1) := by decide +kernel
theorem D_m_mayBegin_95 : decode M_m_mayBegin.2.1 95 = .ok (.goto 4, 3) := by decide +kernel
theorem D_m_mayBegin_98 : decode M_m_mayBegin.2.1 98 = .ok (.iconst 0, 1) := by decide +kernel
theorem D_m_mayBegin_99 : decode M_m_mayBegin.2.1 99 = .ok (.ireturn, 1) := by decide +kernel
theorem D_m_mayBegin_100 : decode M_m_mayBegin.2.1 100 = .ok (.iconst 0, 1) := by decide +kernel
theorem D_m_mayBegin_101 : decode M_m_mayBegin.2.1 101 = .ok (.ireturn, 1) := by decide +kernel
theorem D_m_readItem_0 : decode M_m_readItem.2.1 0 = .ok (.aload_n 0, 1) := by decide +kernel
theorem D_m_readItem_1 : decode M_m_readItem.2.1 1 = .ok (.getfield 89, 3) := by decide +kernel
theorem D_m_readItem_4 : decode M_m_readItem.2.1 4 = .ok (.istore_n 1, 1) := by decide +kernel
theorem D_m_readItem_5 : decode M_m_readItem.2.1 5 = .ok (.aload_n 0, 1) := by decide +kernel
theorem D_m_readItem_6 : decode M_m_readItem.2.1 6 = .ok (.getfield 92, 3) := by decide +kernel
theorem D_m_readItem_9 : decode M_m_readItem.2.1 9 = .ok (.iconst 1, 1) := by decide +kernel
theorem D_m_readItem_10 : decode M_m_readItem.2.1 10 = .ok (.if_icmp .ne 11, 3) := by decide +kernel
theorem D_m_readItem_13 : decode M_m_readItem.2.1 13 = .ok (.aload_n 0, 1) := by decide +kernel
theorem D_m_readItem_14 : decode M_m_readItem.2.1 14 = .ok (.iload_n 1, 1) := by decide +kernel
theorem D_m_readItem_15 : decode M_m_readItem.2.1 15 = .ok (.invokevirtual 125, 3) := by decide +kernel
theorem D_m_readItem_18 : decode M_m_readItem.2.1 18 = .ok (.ifCond .ne 9, 3) := by decide +kernel
theorem D_m_readItem_21 : decode M_m_readItem.2.1 21 = .ok (.aload_n 0, 1) := by decide +kernel
theorem D_m_readItem_22 : decode M_m_readItem.2.1 22 = .ok (.iconst 1, 1) := by decide +kernel
theorem D_m_readItem_23 : decode M_m_readItem.2.1 23 = .ok (.putfield 102, 3) := by decide +kernel
theorem D_m_readItem_26 : decode M_m_readItem.2.1 26 = .ok (.return_, 1) := by decide +kernel
theorem D_m_readItem_27 : decode M_m_readItem.2.1 27 = .ok (.aload_n 0, 1) := by decide +kernel
theorem D_m_readItem_28 : decode M_m_readItem.2.1 28 = .ok (.invokevirtual 106, 3) := by decide +kernel
theorem D_m_readItem_31 : decode M_m_readItem.2.1 31 = .ok (.iload_n 1, 1) := by decide +kernel
theorem D_m_readItem_32 : decode M_m_readItem.2.1 32 = .ok (.bipush 99, 2) := by decide +kernel
theorem D_m_readItem_34 : decode M_m_readItem.2.1 34 = .ok (.if_icmp .ne 31, 3) := by decide +kernel
theorem D_m_readItem_37 : decode M_m_readItem.2.1 37 = .ok (.aload_n 0, 1) := by decide +kernel
theorem D_m_readItem_38 : decode M_m_readItem.2.1 38 = .ok (.getfield 42, 3) := by decide +kernel
theorem D_m_readItem_41 : decode M_m_readItem.2.1 41 = .ok (.aload_n 0, 1) := by decide +kernel
theorem D_m_readItem_42 : decode M_m_readItem.2.1 42 = .ok (.getfield 112, 3) := by decide +kernel
theorem D_m_readItem_45 : decode M_m_readItem.2.1 45 = .ok (.aload_n 0, 1) := by decide +kernel
theorem D_m_readItem_46 : decode M_m_readItem.2.1 46 = .ok (.iconst 0, 1) := by decide +kernel
theorem D_m_readItem_47 : decode M_m_readItem.2.1 47 = .ok (.iconst 5, 1) := by decide +kernel
theorem D_m_readItem_48 : decode M_m_readItem.2.1 48 = .ok (.invokevirtual 115, 3) := by decide +kernel
theorem D_m_readItem_51 : decode M_m_readItem.2.1 51 = .ok (.iastore, 1) := by decide +kernel
theorem D_m_readItem_52 : decode M_m_readItem.2.1 52 = .ok (.aload_n 0, 1) := by decide +kernel
theorem D_m_readItem_53 : decode M_m_readItem.2.1 53 = .ok (.dup, 1) := by decide +kernel
theorem D_m_readItem_54 : decode M_m_readItem.2.1 54 = .ok (.getfield 112, 3) := by decide +kernel
theorem D_m_readItem_57 : decode M_m_readItem.2.1 57 = .ok (.iconst 1, 1) := by decide +kernel
theorem D_m_readItem_58 : decode M_m_readItem.2.1 58 = .ok (.iadd, 1) := by decide +kernel
theorem D_m_readItem_59 : decode M_m_readItem.2.1 59 = .ok (.putfield 112, 3) := by decide +kernel
theorem D_m_readItem_62 : decode M_m_readItem.2.1 62 = .ok (.goto 47, 3) := by decide +kernel
theorem D_m_readItem_65 : decode M_m_readItem.2.1 65 = .ok (.iload_n 1, 1) := by decide +kernel
theorem D_m_readItem_66 : decode M_m_readItem.2.1 66 = .ok (.bipush 107, 2) := by decide +kernel
theorem D_m_readItem_68 : decode M_m_readItem.2.1 68 = .ok (.if_icmp .ne 17, 3) := by decide +kernel
theorem D_m_readItem_71 : decode M_m_readItem.2.1 71 = .ok (.aload_n 0, 1) := by decide +kernel
theorem D_m_readItem_72 : decode M_m_readItem.2.1 72 = .ok (.aload_n 0, 1) := by decide +kernel
theorem D_m_readItem_73 : decode M_m_readItem.2.1 73 = .ok (.iconst 0, 1) := by decide +kernel
theorem D_m_readItem_74 : decode M_m_readItem.2.1 74 = .ok (.bipush 9, 2) := by decide +kernel
theorem D_m_readItem_76 : decode M_m_readItem.2.1 76 = .ok (.invokevirtual 115, 3) := by decide +kernel
theorem D_m_readItem_79 : decode M_m_readItem.2.1 79 = .ok (.putfield 119, 3) := by decide +kernel
theorem D_m_readItem_82 : decode M_m_readItem.2.1 82 = .ok (.goto 27, 3) := by decide +kernel
theorem D_m_readItem_85 : decode M_m_readItem.2.1 85 = .ok (.iload_n 1, 1) := by decide +kernel
theorem D_m_readItem_86 : decode M_m_readItem.2.1 86 = .ok (.bipush 100, 2) := by decide +kernel
theorem D_m_readItem_88 : decode M_m_readItem.2.1 88 = .ok (.if_icmp .ne 17, 3) := by decide +kernel
theorem D_m_readItem_91 : decode M_m_readItem.2.1 91 = .ok (.aload_n 0, 1) := by decide +kernel
theorem D_m_readItem_92 : decode M_m_readItem.2.1 92 = .ok (.aload_n 0, 1) := by decide +kernel
theorem D_m_readItem_93 : decode M_m_readItem.2.1 93 = .ok (.iconst 1, 1) := by decide +kernel
theorem D_m_readItem_94 : decode M_m_readItem.2.1 94 = .ok (.bipush 9, 2) := by decide +kernel
theorem D_m_readItem_96 : decode M_m_readItem.2.1 96 = .ok (.invokevirtual 115, 3) := by decide +kernel
theorem D_m_readItem_99 : decode M_m_readItem.2.1 99 = .ok (.putfield 122, 3) := by decide +kernel
theorem D_m_readItem_102 : decode M_m_readItem.2.1 102 = .ok (.goto 7, 3) := by decide +kernel
theorem D_m_readItem_105 : decode M_m_readItem.2.1 105 = .ok (.aload_n 0, 1) := by decide +kernel
theorem D_m_readItem_106 : decode M_m_readItem.2.1 106 = .ok (.invokevirtual 128, 3) := by decide +kernel
theorem D_m_readItem_109 : decode M_m_readItem.2.1 109 = .ok (.aload_n 0, 1) := by decide +kernel
theorem D_m_readItem_110 : decode M_m_readItem.2.1 110 = .ok (.aload_n 0, 1) := by decide +kernel
theorem D_m_readItem_111 : decode M_m_readItem.2.1 111 = .ok (.getfield 102, 3) := by decide +kernel
theorem D_m_readItem_114 : decode M_m_readItem.2.1 114 = .ok (.ifCond .ne 11, 3) := by decide +kernel
theorem D_m_readItem_117 : decode M_m_readItem.2.1 117 = .ok (.aload_n 0, 1) := by decide +kernel
theorem D_m_readItem_118 : decode M_m_readItem.2.1 118 = .ok (.getfield 92, 3) := by decide +kernel
theorem D_m_readItem_121 : decode M_m_readItem.2.1 121 = .ok (.iconst 3, 1) := by decide +kernel
theorem D_m_readItem_122 : decode M_m_readItem.2.1 122 = .ok (.if_icmp .eq 7, 3) := by decide +kernel
theorem D_m_readItem_125 : decode M_m_readItem.2.1 125 = .ok (.iconst 1, 1) := by decide +kernel
theorem D_m_readItem_126 : decode M_m_readItem.2.1 126 = .ok (.goto 4, 3) := by decide +kernel
theorem D_m_readItem_129 : decode M_m_readItem.2.1 129 = .ok (.iconst 0, 1) := by decide +kernel
theorem D_m_readItem_130 : decode M_m_readItem.2.1 130 = .ok (.putfield 102, 3) := by decide +kernel
theorem D_m_readItem_133 : decode M_m_readItem.2.1 133 = .ok (.aload_n 0, 1) := by decide +kernel
theorem D_m_readItem_134 : decode M_m_readItem.2.1 134 = .ok (.getfield 102, 3) := by decide +kernel
theorem D_m_readItem_137 : decode M_m_readItem.2.1 137 = .ok (.ifCond .ne 7, 3) := by decide +kernel
theorem D_m_readItem_140 : decode M_m_readItem.2.1 140 = .ok (.aload_n 0, 1) := by decide +kernel
theorem D_m_readItem_141 : decode M_m_readItem.2.1 141 = .ok (.invokevirtual 106, 3) := by decide +kernel
theorem D_m_readItem_144 : decode M_m_readItem.2.1 144 = .ok (.return_, 1) := by decide +kernel
theorem D_m_rose_0 : decode M_m_rose.2.1 0 = .ok (.aload_n 0, 1) := by decide +kernel
theorem D_m_rose_1 : decode M_m_rose.2.1 1 = .ok (.iconst 0, 1) := by decide +kernel
theorem D_m_rose_2 : decode M_m_rose.2.1 2 = .ok (.putfield 79, 3) := by decide +kernel
theorem D_m_rose_5 : decode M_m_rose.2.1 5 = .ok (.aload_n 0, 1) := by decide +kernel
theorem D_m_rose_6 : decode M_m_rose.2.1 6 = .ok (.iconst 0, 1) := by decide +kernel
theorem D_m_rose_7 : decode M_m_rose.2.1 7 = .ok (.putfield 102, 3) := by decide +kernel
theorem D_m_rose_10 : decode M_m_rose.2.1 10 = .ok (.aload_n 0, 1) := by decide +kernel
theorem D_m_rose_11 : decode M_m_rose.2.1 11 = .ok (.iconst 0, 1) := by decide +kernel
theorem D_m_rose_12 : decode M_m_rose.2.1 12 = .ok (.putfield 131, 3) := by decide +kernel
theorem D_m_rose_15 : decode M_m_rose.2.1 15 = .ok (.aload_n 0, 1) := by decide +kernel
theorem D_m_rose_16 : decode M_m_rose.2.1 16 = .ok (.iconst 0, 1) := by decide +kernel
theorem D_m_rose_17 : decode M_m_rose.2.1 17 = .ok (.putfield 112, 3) := by decide +kernel
theorem D_m_rose_20 : decode M_m_rose.2.1 20 = .ok (.aload_n 0, 1) := by decide +kernel
theorem D_m_rose_21 : decode M_m_rose.2.1 21 = .ok (.iconst (-1), 1) := by decide +kernel
theorem D_m_rose_22 : decode M_m_rose.2.1 22 = .ok (.putfield 119, 3) := by decide +kernel
theorem D_m_rose_25 : decode M_m_rose.2.1 25 = .ok (.aload_n 0, 1) := by decide +kernel
theorem D_m_rose_26 : decode M_m_rose.2.1 26 = .ok (.iconst (-1), 1) := by decide +kernel
theorem D_m_rose_27 : decode M_m_rose.2.1 27 = .ok (.putfield 122, 3) := by decide +kernel
theorem D_m_rose_30 : decode M_m_rose.2.1 30 = .ok (.aload_n 0, 1) := by decide +kernel
theorem D_m_rose_31 : decode M_m_rose.2.1 31 = .ok (.iconst 0, 1) := by decide +kernel
theorem D_m_rose_32 : decode M_m_rose.2.1 32 = .ok (.putfield 109, 3) := by decide +kernel
theorem D_m_rose_35 : decode M_m_rose.2.1 35 = .ok (.aload_n 0, 1) := by decide +kernel
theorem D_m_rose_36 : decode M_m_rose.2.1 36 = .ok (.invokevirtual 106, 3) := by decide +kernel
theorem D_m_rose_39 : decode M_m_rose.2.1 39 = .ok (.aload_n 0, 1) := by decide +kernel
theorem D_m_rose_40 : decode M_m_rose.2.1 40 = .ok (.getfield 92, 3) := by decide +kernel
theorem D_m_rose_43 : decode M_m_rose.2.1 43 = .ok (.ifCond .eq 27, 3) := by decide +kernel
theorem D_m_rose_46 : decode M_m_rose.2.1 46 = .ok (.aload_n 0, 1) := by decide +kernel
theorem D_m_rose_47 : decode M_m_rose.2.1 47 = .ok (.getfield 102, 3) := by decide +kernel
theorem D_m_rose_50 : decode M_m_rose.2.1 50 = .ok (.ifCond .ne 20, 3) := by decide +kernel
theorem D_m_rose_53 : decode M_m_rose.2.1 53 = .ok (.aload_n 0, 1) := by decide +kernel
theorem D_m_rose_54 : decode M_m_rose.2.1 54 = .ok (.invokevirtual 134, 3) := by decide +kernel
theorem D_m_rose_57 : decode M_m_rose.2.1 57 = .ok (.aload_n 0, 1) := by decide +kernel
theorem D_m_rose_58 : decode M_m_rose.2.1 58 = .ok (.dup, 1) := by decide +kernel
theorem D_m_rose_59 : decode M_m_rose.2.1 59 = .ok (.getfield 131, 3) := by decide +kernel
theorem D_m_rose_62 : decode M_m_rose.2.1 62 = .ok (.iconst 1, 1) := by decide +kernel
theorem D_m_rose_63 : decode M_m_rose.2.1 63 = .ok (.iadd, 1) := by decide +kernel
theorem D_m_rose_64 : decode M_m_rose.2.1 64 = .ok (.putfield 131, 3) := by decide +kernel
theorem D_m_rose_67 : decode M_m_rose.2.1 67 = .ok (.goto (-28), 3) := by decide +kernel
theorem D_m_rose_70 : decode M_m_rose.2.1 70 = .ok (.aload_n 0, 1) := by decide +kernel
theorem D_m_rose_71 : decode M_m_rose.2.1 71 = .ok (.getfield 102, 3) := by decide +kernel
theorem D_m_rose_74 : decode M_m_rose.2.1 74 = .ok (.ifCond .eq 11, 3) := by decide +kernel
theorem D_m_rose_77 : decode M_m_rose.2.1 77 = .ok (.bipush (-10), 2) := by decide +kernel
theorem D_m_rose_79 : decode M_m_rose.2.1 79 = .ok (.aload_n 0, 1) := by decide +kernel
theorem D_m_rose_80 : decode M_m_rose.2.1 80 = .ok (.getfield 86, 3) := by decide +kernel
theorem D_m_rose_83 : decode M_m_rose.2.1 83 = .ok (.isub, 1) := by decide +kernel
theorem D_m_rose_84 : decode M_m_rose.2.1 84 = .ok (.ireturn, 1) := by decide +kernel
theorem D_m_rose_85 : decode M_m_rose.2.1 85 = .ok (.aload_n 0, 1) := by decide +kernel
theorem D_m_rose_86 : decode M_m_rose.2.1 86 = .ok (.invokevirtual 137, 3) := by decide +kernel
theorem D_m_rose_89 : decode M_m_rose.2.1 89 = .ok (.aload_n 0, 1) := by decide +kernel
theorem D_m_rose_90 : decode M_m_rose.2.1 90 = .ok (.getfield 131, 3) := by decide +kernel
theorem D_m_rose_93 : decode M_m_rose.2.1 93 = .ok (.ireturn, 1) := by decide +kernel
theorem D_m_settles_0 : decode M_m_settles.2.1 0 = .ok (.aload_n 0, 1) := by decide +kernel
theorem D_m_settles_1 : decode M_m_settles.2.1 1 = .ok (.aload_n 0, 1) := by decide +kernel
theorem D_m_settles_2 : decode M_m_settles.2.1 2 = .ok (.getfield 112, 3) := by decide +kernel
theorem D_m_settles_5 : decode M_m_settles.2.1 5 = .ok (.putfield 73, 3) := by decide +kernel
theorem D_m_settles_8 : decode M_m_settles.2.1 8 = .ok (.iconst 0, 1) := by decide +kernel
theorem D_m_settles_9 : decode M_m_settles.2.1 9 = .ok (.istore_n 1, 1) := by decide +kernel
theorem D_m_settles_10 : decode M_m_settles.2.1 10 = .ok (.iload_n 1, 1) := by decide +kernel
theorem D_m_settles_11 : decode M_m_settles.2.1 11 = .ok (.bipush 12, 2) := by decide +kernel
theorem D_m_settles_13 : decode M_m_settles.2.1 13 = .ok (.if_icmp .ge 21, 3) := by decide +kernel
theorem D_m_settles_16 : decode M_m_settles.2.1 16 = .ok (.aload_n 0, 1) := by decide +kernel
theorem D_m_settles_17 : decode M_m_settles.2.1 17 = .ok (.getfield 7, 3) := by decide +kernel
theorem D_m_settles_20 : decode M_m_settles.2.1 20 = .ok (.iload_n 1, 1) := by decide +kernel
theorem D_m_settles_21 : decode M_m_settles.2.1 21 = .ok (.aload_n 0, 1) := by decide +kernel
theorem D_m_settles_22 : decode M_m_settles.2.1 22 = .ok (.getfield 42, 3) := by decide +kernel
theorem D_m_settles_25 : decode M_m_settles.2.1 25 = .ok (.iload_n 1, 1) := by decide +kernel
theorem D_m_settles_26 : decode M_m_settles.2.1 26 = .ok (.iaload, 1) := by decide +kernel
theorem D_m_settles_27 : decode M_m_settles.2.1 27 = .ok (.iastore, 1) := by decide +kernel
theorem D_m_settles_28 : decode M_m_settles.2.1 28 = .ok (.iinc 1 1, 3) := by decide +kernel
theorem D_m_settles_31 : decode M_m_settles.2.1 31 = .ok (.goto (-21), 3) := by decide +kernel
theorem D_m_settles_34 : decode M_m_settles.2.1 34 = .ok (.aload_n 0, 1) := by decide +kernel
theorem D_m_settles_35 : decode M_m_settles.2.1 35 = .ok (.aload_n 0, 1) := by decide +kernel
theorem D_m_settles_36 : decode M_m_settles.2.1 36 = .ok (.getfield 119, 3) := by decide +kernel
theorem D_m_settles_39 : decode M_m_settles.2.1 39 = .ok (.ifCond .ge 8, 3) := by decide +kernel
theorem D_m_settles_42 : decode M_m_settles.2.1 42 = .ok (.bipush 8, 2) := by decide +kernel
theorem D_m_settles_44 : decode M_m_settles.2.1 44 = .ok (.goto 7, 3) := by decide +kernel
theorem D_m_settles_47 : decode M_m_settles.2.1 47 = .ok (.aload_n 0, 1) := by decide +kernel
theorem D_m_settles_48 : decode M_m_settles.2.1 48 = .ok (.getfield 119, 3) := by decide +kernel
theorem D_m_settles_51 : decode M_m_settles.2.1 51 = .ok (.putfield 13, 3) := by decide +kernel
theorem D_m_settles_54 : decode M_m_settles.2.1 54 = .ok (.aload_n 0, 1) := by decide +kernel
theorem D_m_settles_55 : decode M_m_settles.2.1 55 = .ok (.aload_n 0, 1) := by decide +kernel
theorem D_m_settles_56 : decode M_m_settles.2.1 56 = .ok (.getfield 122, 3) := by decide +kernel
theorem D_m_settles_59 : decode M_m_settles.2.1 59 = .ok (.ifCond .ge 7, 3) := by decide +kernel
theorem D_m_settles_62 : decode M_m_settles.2.1 62 = .ok (.iconst 1, 1) := by decide +kernel
theorem D_m_settles_63 : decode M_m_settles.2.1 63 = .ok (.goto 7, 3) := by decide +kernel
theorem D_m_settles_66 : decode M_m_settles.2.1 66 = .ok (.aload_n 0, 1) := by decide +kernel
theorem D_m_settles_67 : decode M_m_settles.2.1 67 = .ok (.getfield 122, 3) := by decide +kernel
theorem D_m_settles_70 : decode M_m_settles.2.1 70 = .ok (.putfield 17, 3) := by decide +kernel
theorem D_m_settles_73 : decode M_m_settles.2.1 73 = .ok (.aload_n 0, 1) := by decide +kernel
theorem D_m_settles_74 : decode M_m_settles.2.1 74 = .ok (.aload_n 0, 1) := by decide +kernel
theorem D_m_settles_75 : decode M_m_settles.2.1 75 = .ok (.getfield 109, 3) := by decide +kernel
theorem D_m_settles_78 : decode M_m_settles.2.1 78 = .ok (.putfield 66, 3) := by decide +kernel
theorem D_m_settles_81 : decode M_m_settles.2.1 81 = .ok (.iconst 0, 1) := by decide +kernel
theorem D_m_settles_82 : decode M_m_settles.2.1 82 = .ok (.istore_n 1, 1) := by decide +kernel
theorem D_m_settles_83 : decode M_m_settles.2.1 83 = .ok (.iload_n 1, 1) := by decide +kernel
theorem D_m_settles_84 : decode M_m_settles.2.1 84 = .ok (.sipush 573, 3) := by decide +kernel
theorem D_m_settles_87 : decode M_m_settles.2.1 87 = .ok (.if_icmp .ge 16, 3) := by decide +kernel
theorem D_m_settles_90 : decode M_m_settles.2.1 90 = .ok (.aload_n 0, 1) := by decide +kernel
theorem D_m_settles_91 : decode M_m_settles.2.1 91 = .ok (.getfield 23, 3) := by decide +kernel
theorem D_m_settles_94 : decode M_m_settles.2.1 94 = .ok (.iload_n 1, 1) := by decide +kernel
theorem D_m_settles_95 : decode M_m_settles.2.1 95 = .ok (.iconst 0, 1) := by decide +kernel
theorem D_m_settles_96 : decode M_m_settles.2.1 96 = .ok (.iastore, 1) := by decide +kernel
theorem D_m_settles_97 : decode M_m_settles.2.1 97 = .ok (.iinc 1 1, 3) := by decide +kernel
theorem D_m_settles_100 : decode M_m_settles.2.1 100 = .ok (.goto (-17), 3) := by decide +kernel
theorem D_m_settles_103 : decode M_m_settles.2.1 103 = .ok (.iconst 0, 1) := by decide +kernel
theorem D_m_settles_104 : decode M_m_settles.2.1 104 = .ok (.istore_n 1, 1) := by decide +kernel
theorem D_m_settles_105 : decode M_m_settles.2.1 105 = .ok (.iload_n 1, 1) := by decide +kernel
theorem D_m_settles_106 : decode M_m_settles.2.1 106 = .ok (.bipush 6, 2) := by decide +kernel
theorem D_m_settles_108 : decode M_m_settles.2.1 108 = .ok (.if_icmp .ge 47, 3) := by decide +kernel
theorem D_m_settles_111 : decode M_m_settles.2.1 111 = .ok (.aload_n 0, 1) := by decide +kernel
theorem D_m_settles_112 : decode M_m_settles.2.1 112 = .ok (.getfield 20, 3) := by decide +kernel
theorem D_m_settles_115 : decode M_m_settles.2.1 115 = .ok (.iload_n 1, 1) := by decide +kernel
theorem D_m_settles_116 : decode M_m_settles.2.1 116 = .ok (.aload_n 0, 1) := by decide +kernel
theorem D_m_settles_117 : decode M_m_settles.2.1 117 = .ok (.getfield 48, 3) := by decide +kernel
theorem D_m_settles_120 : decode M_m_settles.2.1 120 = .ok (.iload_n 1, 1) := by decide +kernel
theorem D_m_settles_121 : decode M_m_settles.2.1 121 = .ok (.iaload, 1) := by decide +kernel
theorem D_m_settles_122 : decode M_m_settles.2.1 122 = .ok (.iastore, 1) := by decide +kernel
theorem D_m_settles_123 : decode M_m_settles.2.1 123 = .ok (.aload_n 0, 1) := by decide +kernel
theorem D_m_settles_124 : decode M_m_settles.2.1 124 = .ok (.getfield 23, 3) := by decide +kernel
theorem D_m_settles_127 : decode M_m_settles.2.1 127 = .ok (.iconst 4, 1) := by decide +kernel
theorem D_m_settles_128 : decode M_m_settles.2.1 128 = .ok (.iload_n 1, 1) := by decide +kernel
theorem D_m_settles_129 : decode M_m_settles.2.1 129 = .ok (.iadd, 1) := by decide +kernel
theorem D_m_settles_130 : decode M_m_settles.2.1 130 = .ok (.iload_n 1, 1) := by decide +kernel
theorem D_m_settles_131 : decode M_m_settles.2.1 131 = .ok (.aload_n 0, 1) := by decide +kernel
theorem D_m_settles_132 : decode M_m_settles.2.1 132 = .ok (.getfield 66, 3) := by decide +kernel
theorem D_m_settles_135 : decode M_m_settles.2.1 135 = .ok (.if_icmp .ge 12, 3) := by decide +kernel
theorem D_m_settles_138 : decode M_m_settles.2.1 138 = .ok (.aload_n 0, 1) := by decide +kernel
theorem D_m_settles_139 : decode M_m_settles.2.1 139 = .ok (.getfield 45, 3) := by decide +kernel
theorem D_m_settles_142 : decode M_m_settles.2.1 142 = .ok (.iload_n 1, 1) := by decide +kernel
theorem D_m_settles_143 : decode M_m_settles.2.1 143 = .ok (.iaload, 1) := by decide +kernel
theorem D_m_settles_144 : decode M_m_settles.2.1 144 = .ok (.goto 4, 3) := by decide +kernel
theorem D_m_settles_147 : decode M_m_settles.2.1 147 = .ok (.iconst 0, 1) := by decide +kernel
theorem D_m_settles_148 : decode M_m_settles.2.1 148 = .ok (.iastore, 1) := by decide +kernel
theorem D_m_settles_149 : decode M_m_settles.2.1 149 = .ok (.iinc 1 1, 3) := by decide +kernel
theorem D_m_settles_152 : decode M_m_settles.2.1 152 = .ok (.goto (-47), 3) := by decide +kernel
theorem D_m_settles_155 : decode M_m_settles.2.1 155 = .ok (.aload_n 0, 1) := by decide +kernel
theorem D_m_settles_156 : decode M_m_settles.2.1 156 = .ok (.iconst 0, 1) := by decide +kernel
theorem D_m_settles_157 : decode M_m_settles.2.1 157 = .ok (.putfield 140, 3) := by decide +kernel
theorem D_m_settles_160 : decode M_m_settles.2.1 160 = .ok (.aload_n 0, 1) := by decide +kernel
theorem D_m_settles_161 : decode M_m_settles.2.1 161 = .ok (.iconst 0, 1) := by decide +kernel
theorem D_m_settles_162 : decode M_m_settles.2.1 162 = .ok (.putfield 143, 3) := by decide +kernel
theorem D_m_settles_165 : decode M_m_settles.2.1 165 = .ok (.aload_n 0, 1) := by decide +kernel
theorem D_m_settles_166 : decode M_m_settles.2.1 166 = .ok (.getfield 29, 3) := by decide +kernel
theorem D_m_settles_169 : decode M_m_settles.2.1 169 = .ok (.iconst 0, 1) := by decide +kernel
theorem D_m_settles_170 : decode M_m_settles.2.1 170 = .ok (.iconst 0, 1) := by decide +kernel
theorem D_m_settles_171 : decode M_m_settles.2.1 171 = .ok (.bastore, 1) := by decide +kernel
theorem D_m_settles_172 : decode M_m_settles.2.1 172 = .ok (.aload_n 0, 1) := by decide +kernel
theorem D_m_settles_173 : decode M_m_settles.2.1 173 = .ok (.getfield 29, 3) := by decide +kernel
theorem D_m_settles_176 : decode M_m_settles.2.1 176 = .ok (.iconst 1, 1) := by decide +kernel
theorem D_m_settles_177 : decode M_m_settles.2.1 177 = .ok (.iconst 0, 1) := by decide +kernel
theorem D_m_settles_178 : decode M_m_settles.2.1 178 = .ok (.bastore, 1) := by decide +kernel
theorem D_m_settles_179 : decode M_m_settles.2.1 179 = .ok (.aload_n 0, 1) := by decide +kernel
theorem D_m_settles_180 : decode M_m_settles.2.1 180 = .ok (.iconst 0, 1) := by decide +kernel
theorem D_m_settles_181 : decode M_m_settles.2.1 181 = .ok (.putfield 76, 3) := by decide +kernel
theorem D_m_settles_184 : decode M_m_settles.2.1 184 = .ok (.return_, 1) := by decide +kernel
theorem D_m_pane_0 : decode M_m_pane.2.1 0 = .ok (.aload_n 0, 1) := by decide +kernel
theorem D_m_pane_1 : decode M_m_pane.2.1 1 = .ok (.iload_n 1, 1) := by decide +kernel
theorem D_m_pane_2 : decode M_m_pane.2.1 2 = .ok (.invokevirtual 146, 3) := by decide +kernel
theorem D_m_pane_5 : decode M_m_pane.2.1 5 = .ok (.ifCond .eq 12, 3) := by decide +kernel
theorem D_m_pane_8 : decode M_m_pane.2.1 8 = .ok (.aload_n 0, 1) := by decide +kernel
theorem D_m_pane_9 : decode M_m_pane.2.1 9 = .ok (.getfield 7, 3) := by decide +kernel
theorem D_m_pane_12 : decode M_m_pane.2.1 12 = .ok (.iload_n 1, 1) := by decide +kernel
theorem D_m_pane_13 : decode M_m_pane.2.1 13 = .ok (.iaload, 1) := by decide +kernel
theorem D_m_pane_14 : decode M_m_pane.2.1 14 = .ok (.goto 4, 3) := by decide +kernel
theorem D_m_pane_17 : decode M_m_pane.2.1 17 = .ok (.iconst (-1), 1) := by decide +kernel
theorem D_m_pane_18 : decode M_m_pane.2.1 18 = .ok (.ireturn, 1) := by decide +kernel
theorem D_m_colourAt_0 : decode M_m_colourAt.2.1 0 = .ok (.aload_n 0, 1) := by decide +kernel
theorem D_m_colourAt_1 : decode M_m_colourAt.2.1 1 = .ok (.getfield 7, 3) := by decide +kernel
theorem D_m_colourAt_4 : decode M_m_colourAt.2.1 4 = .ok (.iload_n 1, 1) := by decide +kernel
theorem D_m_colourAt_5 : decode M_m_colourAt.2.1 5 = .ok (.aload_n 0, 1) := by decide +kernel
theorem D_m_colourAt_6 : decode M_m_colourAt.2.1 6 = .ok (.getfield 23, 3) := by decide +kernel
theorem D_m_colourAt_9 : decode M_m_colourAt.2.1 9 = .ok (.iconst 0, 1) := by decide +kernel
theorem D_m_colourAt_10 : decode M_m_colourAt.2.1 10 = .ok (.iaload, 1) := by decide +kernel
theorem D_m_colourAt_11 : decode M_m_colourAt.2.1 11 = .ok (.iadd, 1) := by decide +kernel
theorem D_m_colourAt_12 : decode M_m_colourAt.2.1 12 = .ok (.aload_n 0, 1) := by decide +kernel
theorem D_m_colourAt_13 : decode M_m_colourAt.2.1 13 = .ok (.getfield 23, 3) := by decide +kernel
theorem D_m_colourAt_16 : decode M_m_colourAt.2.1 16 = .ok (.iconst 1, 1) := by decide +kernel
theorem D_m_colourAt_17 : decode M_m_colourAt.2.1 17 = .ok (.iaload, 1) := by decide +kernel
theorem D_m_colourAt_18 : decode M_m_colourAt.2.1 18 = .ok (.iadd, 1) := by decide +kernel
theorem D_m_colourAt_19 : decode M_m_colourAt.2.1 19 = .ok (.iload_n 2, 1) := by decide +kernel
theorem D_m_colourAt_20 : decode M_m_colourAt.2.1 20 = .ok (.iadd, 1) := by decide +kernel
theorem D_m_colourAt_21 : decode M_m_colourAt.2.1 21 = .ok (.aload_n 0, 1) := by decide +kernel
theorem D_m_colourAt_22 : decode M_m_colourAt.2.1 22 = .ok (.getfield 73, 3) := by decide +kernel
theorem D_m_colourAt_25 : decode M_m_colourAt.2.1 25 = .ok (.irem, 1) := by decide +kernel
theorem D_m_colourAt_26 : decode M_m_colourAt.2.1 26 = .ok (.iaload, 1) := by decide +kernel
theorem D_m_colourAt_27 : decode M_m_colourAt.2.1 27 = .ok (.ireturn, 1) := by decide +kernel
theorem D_m_standsIn_0 : decode M_m_standsIn.2.1 0 = .ok (.aload_n 0, 1) := by decide +kernel
theorem D_m_standsIn_1 : decode M_m_standsIn.2.1 1 = .ok (.getfield 23, 3) := by decide +kernel
theorem D_m_standsIn_4 : decode M_m_standsIn.2.1 4 = .ok (.iconst 2, 1) := by decide +kernel
theorem D_m_standsIn_5 : decode M_m_standsIn.2.1 5 = .ok (.iaload, 1) := by decide +kernel
theorem D_m_standsIn_6 : decode M_m_standsIn.2.1 6 = .ok (.iconst 1, 1) := by decide +kernel
theorem D_m_standsIn_7 : decode M_m_standsIn.2.1 7 = .ok (.if_icmp .ne 7, 3) := by decide +kernel
theorem D_m_standsIn_10 : decode M_m_standsIn.2.1 10 = .ok (.iconst 0, 1) := by decide +kernel
theorem D_m_standsIn_11 : decode M_m_standsIn.2.1 11 = .ok (.goto 16, 3) := by decide +kernel
theorem D_m_standsIn_14 : decode M_m_standsIn.2.1 14 = .ok (.aload_n 0, 1) := by decide +kernel
theorem D_m_standsIn_15 : decode M_m_standsIn.2.1 15 = .ok (.aload_n 0, 1) := by decide +kernel
theorem D_m_standsIn_16 : decode M_m_standsIn.2.1 16 = .ok (.getfield 23, 3) := by decide +kernel
theorem D_m_standsIn_19 : decode M_m_standsIn.2.1 19 = .ok (.iconst 4, 1) := by decide +kernel
theorem D_m_standsIn_20 : decode M_m_standsIn.2.1 20 = .ok (.iload_n 1, 1) := by decide +kernel
theorem D_m_standsIn_21 : decode M_m_standsIn.2.1 21 = .ok (.iadd, 1) := by decide +kernel
theorem D_m_standsIn_22 : decode M_m_standsIn.2.1 22 = .ok (.iaload, 1) := by decide +kernel
theorem D_m_standsIn_23 : decode M_m_standsIn.2.1 23 = .ok (.iconst 0, 1) := by decide +kernel
theorem D_m_standsIn_24 : decode M_m_standsIn.2.1 24 = .ok (.invokevirtual 149, 3) := by decide +kernel
theorem D_m_standsIn_27 : decode M_m_standsIn.2.1 27 = .ok (.ireturn, 1) := by decide +kernel
theorem D_m_owedAll_0 : decode M_m_owedAll.2.1 0 = .ok (.iconst 0, 1) := by decide +kernel
theorem D_m_owedAll_1 : decode M_m_owedAll.2.1 1 = .ok (.istore_n 2, 1) := by decide +kernel
theorem D_m_owedAll_2 : decode M_m_owedAll.2.1 2 = .ok (.iconst 0, 1) := by decide +kernel
theorem D_m_owedAll_3 : decode M_m_owedAll.2.1 3 = .ok (.istore_n 3, 1) := by decide +kernel
theorem D_m_owedAll_4 : decode M_m_owedAll.2.1 4 = .ok (.iload_n 3, 1) := by decide +kernel
theorem D_m_owedAll_5 : decode M_m_owedAll.2.1 5 = .ok (.aload_n 0, 1) := by decide +kernel
theorem D_m_owedAll_6 : decode M_m_owedAll.2.1 6 = .ok (.getfield 66, 3) := by decide +kernel
theorem D_m_owedAll_9 : decode M_m_owedAll.2.1 9 = .ok (.if_icmp .ge 26, 3) := by decide +kernel
theorem D_m_owedAll_12 : decode M_m_owedAll.2.1 12 = .ok (.iload_n 2, 1) := by decide +kernel
theorem D_m_owedAll_13 : decode M_m_owedAll.2.1 13 = .ok (.aload_n 0, 1) := by decide +kernel
theorem D_m_owedAll_14 : decode M_m_owedAll.2.1 14 = .ok (.getfield 23, 3) := by decide +kernel
theorem D_m_owedAll_17 : decode M_m_owedAll.2.1 17 = .ok (.bipush 16, 2) := by decide +kernel
theorem D_m_owedAll_19 : decode M_m_owedAll.2.1 19 = .ok (.bipush 6, 2) := by decide +kernel
theorem D_m_owedAll_21 : decode M_m_owedAll.2.1 21 = .ok (.iload_n 1, 1) := by decide +kernel
theorem D_m_owedAll_22 : decode M_m_owedAll.2.1 22 = .ok (.imul, 1) := by decide +kernel
theorem D_m_owedAll_23 : decode M_m_owedAll.2.1 23 = .ok (.iadd, 1) := by decide +kernel
theorem D_m_owedAll_24 : decode M_m_owedAll.2.1 24 = .ok (.iload_n 3, 1) := by decide +kernel
theorem D_m_owedAll_25 : decode M_m_owedAll.2.1 25 = .ok (.iadd, 1) := by decide +kernel
theorem D_m_owedAll_26 : decode M_m_owedAll.2.1 26 = .ok (.iaload, 1) := by decide +kernel
theorem D_m_owedAll_27 : decode M_m_owedAll.2.1 27 = .ok (.iadd, 1) := by decide +kernel
theorem D_m_owedAll_28 : decode M_m_owedAll.2.1 28 = .ok (.istore_n 2, 1) := by decide +kernel
theorem D_m_owedAll_29 : decode M_m_owedAll.2.1 29 = .ok (.iinc 3 1, 3) := by decide +kernel
theorem D_m_owedAll_32 : decode M_m_owedAll.2.1 32 = .ok (.goto (-28), 3) := by decide +kernel
theorem D_m_owedAll_35 : decode M_m_owedAll.2.1 35 = .ok (.iload_n 2, 1) := by decide +kernel
theorem D_m_owedAll_36 : decode M_m_owedAll.2.1 36 = .ok (.ireturn, 1) := by decide +kernel
theorem D_m_one_0 : decode M_m_one.2.1 0 = .ok (.aload_n 0, 1) := by decide +kernel
theorem D_m_one_1 : decode M_m_one.2.1 1 = .ok (.iload_n 1, 1) := by decide +kernel
theorem D_m_one_2 : decode M_m_one.2.1 2 = .ok (.invokevirtual 152, 3) := by decide +kernel
theorem D_m_one_5 : decode M_m_one.2.1 5 = .ok (.ifCond .ne 5, 3) := by decide +kernel
theorem D_m_one_8 : decode M_m_one.2.1 8 = .ok (.iconst (-1), 1) := by decide +kernel
theorem D_m_one_9 : decode M_m_one.2.1 9 = .ok (.ireturn, 1) := by decide +kernel
theorem D_m_one_10 : decode M_m_one.2.1 10 = .ok (.iload_n 2, 1) := by decide +kernel
theorem D_m_one_11 : decode M_m_one.2.1 11 = .ok (.tableswitch 71 0 4 #[33, 42, 49, 55, 65], 33) := by decide +kernel
theorem D_m_one_44 : decode M_m_one.2.1 44 = .ok (.aload_n 0, 1) := by decide +kernel
theorem D_m_one_45 : decode M_m_one.2.1 45 = .ok (.getfield 23, 3) := by decide +kernel
theorem D_m_one_48 : decode M_m_one.2.1 48 = .ok (.iconst 4, 1) := by decide +kernel
theorem D_m_one_49 : decode M_m_one.2.1 49 = .ok (.iload_n 1, 1) := by decide +kernel
theorem D_m_one_50 : decode M_m_one.2.1 50 = .ok (.iadd, 1) := by decide +kernel
theorem D_m_one_51 : decode M_m_one.2.1 51 = .ok (.iaload, 1) := by decide +kernel
theorem D_m_one_52 : decode M_m_one.2.1 52 = .ok (.ireturn, 1) := by decide +kernel
theorem D_m_one_53 : decode M_m_one.2.1 53 = .ok (.aload_n 0, 1) := by decide +kernel
theorem D_m_one_54 : decode M_m_one.2.1 54 = .ok (.getfield 20, 3) := by decide +kernel
theorem D_m_one_57 : decode M_m_one.2.1 57 = .ok (.iload_n 1, 1) := by decide +kernel
theorem D_m_one_58 : decode M_m_one.2.1 58 = .ok (.iaload, 1) := by decide +kernel
theorem D_m_one_59 : decode M_m_one.2.1 59 = .ok (.ireturn, 1) := by decide +kernel
theorem D_m_one_60 : decode M_m_one.2.1 60 = .ok (.aload_n 0, 1) := by decide +kernel
theorem D_m_one_61 : decode M_m_one.2.1 61 = .ok (.iload_n 1, 1) := by decide +kernel
theorem D_m_one_62 : decode M_m_one.2.1 62 = .ok (.invokevirtual 155, 3) := by decide +kernel
theorem D_m_one_65 : decode M_m_one.2.1 65 = .ok (.ireturn, 1) := by decide +kernel
theorem D_m_one_66 : decode M_m_one.2.1 66 = .ok (.aload_n 0, 1) := by decide +kernel
theorem D_m_one_67 : decode M_m_one.2.1 67 = .ok (.getfield 23, 3) := by decide +kernel
theorem D_m_one_70 : decode M_m_one.2.1 70 = .ok (.bipush 10, 2) := by decide +kernel
theorem D_m_one_72 : decode M_m_one.2.1 72 = .ok (.iload_n 1, 1) := by decide +kernel
theorem D_m_one_73 : decode M_m_one.2.1 73 = .ok (.iadd, 1) := by decide +kernel
theorem D_m_one_74 : decode M_m_one.2.1 74 = .ok (.iaload, 1) := by decide +kernel
theorem D_m_one_75 : decode M_m_one.2.1 75 = .ok (.ireturn, 1) := by decide +kernel
theorem D_m_one_76 : decode M_m_one.2.1 76 = .ok (.aload_n 0, 1) := by decide +kernel
theorem D_m_one_77 : decode M_m_one.2.1 77 = .ok (.iload_n 1, 1) := by decide +kernel
theorem D_m_one_78 : decode M_m_one.2.1 78 = .ok (.invokevirtual 158, 3) := by decide +kernel
theorem D_m_one_81 : decode M_m_one.2.1 81 = .ok (.ireturn, 1) := by decide +kernel
theorem D_m_one_82 : decode M_m_one.2.1 82 = .ok (.iconst (-1), 1) := by decide +kernel
theorem D_m_one_83 : decode M_m_one.2.1 83 = .ok (.ireturn, 1) := by decide +kernel
theorem D_m_areTwo_0 : decode M_m_areTwo.2.1 0 = .ok (.aload_n 0, 1) := by decide +kernel
theorem D_m_areTwo_1 : decode M_m_areTwo.2.1 1 = .ok (.iload_n 1, 1) := by decide +kernel
theorem D_m_areTwo_2 : decode M_m_areTwo.2.1 2 = .ok (.invokevirtual 152, 3) := by decide +kernel
theorem D_m_areTwo_5 : decode M_m_areTwo.2.1 5 = .ok (.ifCond .eq 20, 3) := by decide +kernel
theorem D_m_areTwo_8 : decode M_m_areTwo.2.1 8 = .ok (.aload_n 0, 1) := by decide +kernel
theorem D_m_areTwo_9 : decode M_m_areTwo.2.1 9 = .ok (.iload_n 2, 1) := by decide +kernel
theorem D_m_areTwo_10 : decode M_m_areTwo.2.1 10 = .ok (.invokevirtual 152, 3) := by decide +kernel
theorem D_m_areTwo_13 : decode M_m_areTwo.2.1 13 = .ok (.ifCond .eq 12, 3) := by decide +kernel
theorem D_m_areTwo_16 : decode M_m_areTwo.2.1 16 = .ok (.iload_n 1, 1) := by decide +kernel
theorem D_m_areTwo_17 : decode M_m_areTwo.2.1 17 = .ok (.iload_n 2, 1) := by decide +kernel
theorem D_m_areTwo_18 : decode M_m_areTwo.2.1 18 = .ok (.if_icmp .eq 7, 3) := by decide +kernel
theorem D_m_areTwo_21 : decode M_m_areTwo.2.1 21 = .ok (.iconst 1, 1) := by decide +kernel
theorem D_m_areTwo_22 : decode M_m_areTwo.2.1 22 = .ok (.goto 4, 3) := by decide +kernel
theorem D_m_areTwo_25 : decode M_m_areTwo.2.1 25 = .ok (.iconst 0, 1) := by decide +kernel
theorem D_m_areTwo_26 : decode M_m_areTwo.2.1 26 = .ok (.ireturn, 1) := by decide +kernel
theorem D_m_owed_0 : decode M_m_owed.2.1 0 = .ok (.aload_n 0, 1) := by decide +kernel
theorem D_m_owed_1 : decode M_m_owed.2.1 1 = .ok (.iload_n 1, 1) := by decide +kernel
theorem D_m_owed_2 : decode M_m_owed.2.1 2 = .ok (.iload_n 2, 1) := by decide +kernel
theorem D_m_owed_3 : decode M_m_owed.2.1 3 = .ok (.invokevirtual 161, 3) := by decide +kernel
theorem D_m_owed_6 : decode M_m_owed.2.1 6 = .ok (.ifCond .eq 20, 3) := by decide +kernel
theorem D_m_owed_9 : decode M_m_owed.2.1 9 = .ok (.aload_n 0, 1) := by decide +kernel
theorem D_m_owed_10 : decode M_m_owed.2.1 10 = .ok (.getfield 23, 3) := by decide +kernel
theorem D_m_owed_13 : decode M_m_owed.2.1 13 = .ok (.bipush 16, 2) := by decide +kernel
theorem D_m_owed_15 : decode M_m_owed.2.1 15 = .ok (.bipush 6, 2) := by decide +kernel
theorem D_m_owed_17 : decode M_m_owed.2.1 17 = .ok (.iload_n 1, 1) := by decide +kernel
theorem D_m_owed_18 : decode M_m_owed.2.1 18 = .ok (.imul, 1) := by decide +kernel
theorem D_m_owed_19 : decode M_m_owed.2.1 19 = .ok (.iadd, 1) := by decide +kernel
theorem D_m_owed_20 : decode M_m_owed.2.1 20 = .ok (.iload_n 2, 1) := by decide +kernel
theorem D_m_owed_21 : decode M_m_owed.2.1 21 = .ok (.iadd, 1) := by decide +kernel
theorem D_m_owed_22 : decode M_m_owed.2.1 22 = .ok (.iaload, 1) := by decide +kernel
theorem D_m_owed_23 : decode M_m_owed.2.1 23 = .ok (.goto 4, 3) := by decide +kernel
theorem D_m_owed_26 : decode M_m_owed.2.1 26 = .ok (.iconst (-1), 1) := by decide +kernel
theorem D_m_owed_27 : decode M_m_owed.2.1 27 = .ok (.ireturn, 1) := by decide +kernel
theorem D_m_remembers_0 : decode M_m_remembers.2.1 0 = .ok (.aload_n 0, 1) := by decide +kernel
theorem D_m_remembers_1 : decode M_m_remembers.2.1 1 = .ok (.getfield 23, 3) := by decide +kernel
theorem D_m_remembers_4 : decode M_m_remembers.2.1 4 = .ok (.bipush 52, 2) := by decide +kernel
theorem D_m_remembers_6 : decode M_m_remembers.2.1 6 = .ok (.iaload, 1) := by decide +kernel
theorem D_m_remembers_7 : decode M_m_remembers.2.1 7 = .ok (.bipush 10, 2) := by decide +kernel
theorem D_m_remembers_9 : decode M_m_remembers.2.1 9 = .ok (.if_icmp .ne 45, 3) := by decide +kernel
theorem D_m_remembers_12 : decode M_m_remembers.2.1 12 = .ok (.bipush 53, 2) := by decide +kernel
theorem D_m_remembers_14 : decode M_m_remembers.2.1 14 = .ok (.istore_n 1, 1) := by decide +kernel
theorem D_m_remembers_15 : decode M_m_remembers.2.1 15 = .ok (.iload_n 1, 1) := by decide +kernel
theorem D_m_remembers_16 : decode M_m_remembers.2.1 16 = .ok (.sipush 521, 3) := by decide +kernel
theorem D_m_remembers_19 : decode M_m_remembers.2.1 19 = .ok (.if_icmp .ge 24, 3) := by decide +kernel
theorem D_m_remembers_22 : decode M_m_remembers.2.1 22 = .ok (.aload_n 0, 1) := by decide +kernel
theorem D_m_remembers_23 : decode M_m_remembers.2.1 23 = .ok (.getfield 23, 3) := by decide +kernel
theorem D_m_remembers_26 : decode M_m_remembers.2.1 26 = .ok (.iload_n 1, 1) := by decide +kernel
theorem D_m_remembers_27 : decode M_m_remembers.2.1 27 = .ok (.aload_n 0, 1) := by decide +kernel
theorem D_m_remembers_28 : decode M_m_remembers.2.1 28 = .ok (.getfield 23, 3) := by decide +kernel
theorem D_m_remembers_31 : decode M_m_remembers.2.1 31 = .ok (.iload_n 1, 1) := by decide +kernel
theorem D_m_remembers_32 : decode M_m_remembers.2.1 32 = .ok (.bipush 52, 2) := by decide +kernel
theorem D_m_remembers_34 : decode M_m_remembers.2.1 34 = .ok (.iadd, 1) := by decide +kernel
theorem D_m_remembers_35 : decode M_m_remembers.2.1 35 = .ok (.iaload, 1) := by decide +kernel
theorem D_m_remembers_36 : decode M_m_remembers.2.1 36 = .ok (.iastore, 1) := by decide +kernel
theorem D_m_remembers_37 : decode M_m_remembers.2.1 37 = .ok (.iinc 1 1, 3) := by decide +kernel
theorem D_m_remembers_40 : decode M_m_remembers.2.1 40 = .ok (.goto (-25), 3) := by decide +kernel
theorem D_m_remembers_43 : decode M_m_remembers.2.1 43 = .ok (.aload_n 0, 1) := by decide +kernel
theorem D_m_remembers_44 : decode M_m_remembers.2.1 44 = .ok (.getfield 23, 3) := by decide +kernel
theorem D_m_remembers_47 : decode M_m_remembers.2.1 47 = .ok (.bipush 52, 2) := by decide +kernel
theorem D_m_remembers_49 : decode M_m_remembers.2.1 49 = .ok (.dup2, 1) := by decide +kernel
theorem D_m_remembers_50 : decode M_m_remembers.2.1 50 = .ok (.iaload, 1) := by decide +kernel
theorem D_m_remembers_51 : decode M_m_remembers.2.1 51 = .ok (.iconst 1, 1) := by decide +kernel
theorem D_m_remembers_52 : decode M_m_remembers.2.1 52 = .ok (.isub, 1) := by decide +kernel
theorem D_m_remembers_53 : decode M_m_remembers.2.1 53 = .ok (.iastore, 1) := by decide +kernel
theorem D_m_remembers_54 : decode M_m_remembers.2.1 54 = .ok (.bipush 53, 2) := by decide +kernel
theorem D_m_remembers_56 : decode M_m_remembers.2.1 56 = .ok (.bipush 52, 2) := by decide +kernel
theorem D_m_remembers_58 : decode M_m_remembers.2.1 58 = .ok (.aload_n 0, 1) := by decide +kernel
theorem D_m_remembers_59 : decode M_m_remembers.2.1 59 = .ok (.getfield 23, 3) := by decide +kernel
theorem D_m_remembers_62 : decode M_m_remembers.2.1 62 = .ok (.bipush 52, 2) := by decide +kernel
theorem D_m_remembers_64 : decode M_m_remembers.2.1 64 = .ok (.iaload, 1) := by decide +kernel
theorem D_m_remembers_65 : decode M_m_remembers.2.1 65 = .ok (.imul, 1) := by decide +kernel
theorem D_m_remembers_66 : decode M_m_remembers.2.1 66 = .ok (.iadd, 1) := by decide +kernel
theorem D_m_remembers_67 : decode M_m_remembers.2.1 67 = .ok (.istore_n 1, 1) := by decide +kernel
theorem D_m_remembers_68 : decode M_m_remembers.2.1 68 = .ok (.iconst 0, 1) := by decide +kernel
theorem D_m_remembers_69 : decode M_m_remembers.2.1 69 = .ok (.istore_n 2, 1) := by decide +kernel
theorem D_m_remembers_70 : decode M_m_remembers.2.1 70 = .ok (.iload_n 2, 1) := by decide +kernel
theorem D_m_remembers_71 : decode M_m_remembers.2.1 71 = .ok (.bipush 52, 2) := by decide +kernel
theorem D_m_remembers_73 : decode M_m_remembers.2.1 73 = .ok (.if_icmp .ge 23, 3) := by decide +kernel
theorem D_m_remembers_76 : decode M_m_remembers.2.1 76 = .ok (.aload_n 0, 1) := by decide +kernel
theorem D_m_remembers_77 : decode M_m_remembers.2.1 77 = .ok (.getfield 23, 3) := by decide +kernel
theorem D_m_remembers_80 : decode M_m_remembers.2.1 80 = .ok (.iload_n 1, 1) := by decide +kernel
theorem D_m_remembers_81 : decode M_m_remembers.2.1 81 = .ok (.iload_n 2, 1) := by decide +kernel
theorem D_m_remembers_82 : decode M_m_remembers.2.1 82 = .ok (.iadd, 1) := by decide +kernel
theorem D_m_remembers_83 : decode M_m_remembers.2.1 83 = .ok (.aload_n 0, 1) := by decide +kernel
theorem D_m_remembers_84 : decode M_m_remembers.2.1 84 = .ok (.getfield 23, 3) := by decide +kernel
theorem D_m_remembers_87 : decode M_m_remembers.2.1 87 = .ok (.iload_n 2, 1) := by decide +kernel
theorem D_m_remembers_88 : decode M_m_remembers.2.1 88 = .ok (.iaload, 1) := by decide +kernel
theorem D_m_remembers_89 : decode M_m_remembers.2.1 89 = .ok (.iastore, 1) := by decide +kernel
theorem D_m_remembers_90 : decode M_m_remembers.2.1 90 = .ok (.iinc 2 1, 3) := by decide +kernel
theorem D_m_remembers_93 : decode M_m_remembers.2.1 93 = .ok (.goto (-23), 3) := by decide +kernel
theorem D_m_remembers_96 : decode M_m_remembers.2.1 96 = .ok (.aload_n 0, 1) := by decide +kernel
theorem D_m_remembers_97 : decode M_m_remembers.2.1 97 = .ok (.getfield 23, 3) := by decide +kernel
theorem D_m_remembers_100 : decode M_m_remembers.2.1 100 = .ok (.bipush 52, 2) := by decide +kernel
theorem D_m_remembers_102 : decode M_m_remembers.2.1 102 = .ok (.dup2, 1) := by decide +kernel
theorem D_m_remembers_103 : decode M_m_remembers.2.1 103 = .ok (.iaload, 1) := by decide +kernel
theorem D_m_remembers_104 : decode M_m_remembers.2.1 104 = .ok (.iconst 1, 1) := by decide +kernel
theorem D_m_remembers_105 : decode M_m_remembers.2.1 105 = .ok (.iadd, 1) := by decide +kernel
theorem D_m_remembers_106 : decode M_m_remembers.2.1 106 = .ok (.iastore, 1) := by decide +kernel
theorem D_m_remembers_107 : decode M_m_remembers.2.1 107 = .ok (.return_, 1) := by decide +kernel
theorem D_m_clicksBy_0 : decode M_m_clicksBy.2.1 0 = .ok (.iconst 0, 1) := by decide +kernel
theorem D_m_clicksBy_1 : decode M_m_clicksBy.2.1 1 = .ok (.istore_n 3, 1) := by decide +kernel
theorem D_m_clicksBy_2 : decode M_m_clicksBy.2.1 2 = .ok (.iload_n 0, 1) := by decide +kernel
theorem D_m_clicksBy_3 : decode M_m_clicksBy.2.1 3 = .ok (.istore 4, 2) := by decide +kernel
theorem D_m_clicksBy_5 : decode M_m_clicksBy.2.1 5 = .ok (.iload 4, 2) := by decide +kernel
theorem D_m_clicksBy_7 : decode M_m_clicksBy.2.1 7 = .ok (.ifCond .le 22, 3) := by decide +kernel
theorem D_m_clicksBy_10 : decode M_m_clicksBy.2.1 10 = .ok (.iload_n 3, 1) := by decide +kernel
theorem D_m_clicksBy_11 : decode M_m_clicksBy.2.1 11 = .ok (.iload 4, 2) := by decide +kernel
theorem D_m_clicksBy_13 : decode M_m_clicksBy.2.1 13 = .ok (.iadd, 1) := by decide +kernel
theorem D_m_clicksBy_14 : decode M_m_clicksBy.2.1 14 = .ok (.istore_n 3, 1) := by decide +kernel
theorem D_m_clicksBy_15 : decode M_m_clicksBy.2.1 15 = .ok (.iload_n 1, 1) := by decide +kernel
theorem D_m_clicksBy_16 : decode M_m_clicksBy.2.1 16 = .ok (.iload 4, 2) := by decide +kernel
theorem D_m_clicksBy_18 : decode M_m_clicksBy.2.1 18 = .ok (.imul, 1) := by decide +kernel
theorem D_m_clicksBy_19 : decode M_m_clicksBy.2.1 19 = .ok (.bipush 10, 2) := by decide +kernel
theorem D_m_clicksBy_21 : decode M_m_clicksBy.2.1 21 = .ok (.idiv, 1) := by decide +kernel
theorem D_m_clicksBy_22 : decode M_m_clicksBy.2.1 22 = .ok (.iload_n 2, 1) := by decide +kernel
theorem D_m_clicksBy_23 : decode M_m_clicksBy.2.1 23 = .ok (.isub, 1) := by decide +kernel
theorem D_m_clicksBy_24 : decode M_m_clicksBy.2.1 24 = .ok (.istore 4, 2) := by decide +kernel
theorem D_m_clicksBy_26 : decode M_m_clicksBy.2.1 26 = .ok (.goto (-21), 3) := by decide +kernel
theorem D_m_clicksBy_29 : decode M_m_clicksBy.2.1 29 = .ok (.iload_n 3, 1) := by decide +kernel
theorem D_m_clicksBy_30 : decode M_m_clicksBy.2.1 30 = .ok (.ireturn, 1) := by decide +kernel
theorem D_m_clicksOf_0 : decode M_m_clicksOf.2.1 0 = .ok (.iload_n 1, 1) := by decide +kernel
theorem D_m_clicksOf_1 : decode M_m_clicksOf.2.1 1 = .ok (.aload_n 0, 1) := by decide +kernel
theorem D_m_clicksOf_2 : decode M_m_clicksOf.2.1 2 = .ok (.getfield 13, 3) := by decide +kernel
theorem D_m_clicksOf_5 : decode M_m_clicksOf.2.1 5 = .ok (.aload_n 0, 1) := by decide +kernel
theorem D_m_clicksOf_6 : decode M_m_clicksOf.2.1 6 = .ok (.getfield 17, 3) := by decide +kernel
theorem D_m_clicksOf_9 : decode M_m_clicksOf.2.1 9 = .ok (.invokestatic 165, 3) := by decide +kernel
theorem D_m_clicksOf_12 : decode M_m_clicksOf.2.1 12 = .ok (.ireturn, 1) := by decide +kernel
theorem D_m_feasts_0 : decode M_m_feasts.2.1 0 = .ok (.aload_n 0, 1) := by decide +kernel
theorem D_m_feasts_1 : decode M_m_feasts.2.1 1 = .ok (.getfield 23, 3) := by decide +kernel
theorem D_m_feasts_4 : decode M_m_feasts.2.1 4 = .ok (.iconst 3, 1) := by decide +kernel
theorem D_m_feasts_5 : decode M_m_feasts.2.1 5 = .ok (.dup2, 1) := by decide +kernel
theorem D_m_feasts_6 : decode M_m_feasts.2.1 6 = .ok (.iaload, 1) := by decide +kernel
theorem D_m_feasts_7 : decode M_m_feasts.2.1 7 = .ok (.iconst 1, 1) := by decide +kernel
theorem D_m_feasts_8 : decode M_m_feasts.2.1 8 = .ok (.iadd, 1) := by decide +kernel
theorem D_m_feasts_9 : decode M_m_feasts.2.1 9 = .ok (.iastore, 1) := by decide +kernel
theorem D_m_feasts_10 : decode M_m_feasts.2.1 10 = .ok (.iconst 0, 1) := by decide +kernel
theorem D_m_feasts_11 : decode M_m_feasts.2.1 11 = .ok (.istore_n 1, 1) := by decide +kernel
theorem D_m_feasts_12 : decode M_m_feasts.2.1 12 = .ok (.iload_n 1, 1) := by decide +kernel
theorem D_m_feasts_13 : decode M_m_feasts.2.1 13 = .ok (.aload_n 0, 1) := by decide +kernel
theorem D_m_feasts_14 : decode M_m_feasts.2.1 14 = .ok (.getfield 66, 3) := by decide +kernel
theorem D_m_feasts_17 : decode M_m_feasts.2.1 17 = .ok (.if_icmp .ge 130, 3) := by decide +kernel
theorem D_m_feasts_20 : decode M_m_feasts.2.1 20 = .ok (.aload_n 0, 1) := by decide +kernel
theorem D_m_feasts_21 : decode M_m_feasts.2.1 21 = .ok (.getfield 23, 3) := by decide +kernel
theorem D_m_feasts_24 : decode M_m_feasts.2.1 24 = .ok (.bipush 10, 2) := by decide +kernel
theorem D_m_feasts_26 : decode M_m_feasts.2.1 26 = .ok (.iload_n 1, 1) := by decide +kernel
theorem D_m_feasts_27 : decode M_m_feasts.2.1 27 = .ok (.iadd, 1) := by decide +kernel
theorem D_m_feasts_28 : decode M_m_feasts.2.1 28 = .ok (.aload_n 0, 1) := by decide +kernel
theorem D_m_feasts_29 : decode M_m_feasts.2.1 29 = .ok (.iload_n 1, 1) := by decide +kernel
theorem D_m_feasts_30 : decode M_m_feasts.2.1 30 = .ok (.invokevirtual 155, 3) := by decide +kernel
theorem D_m_feasts_33 : decode M_m_feasts.2.1 33 = .ok (.iconst 3, 1) := by decide +kernel
theorem D_m_feasts_34 : decode M_m_feasts.2.1 34 = .ok (.if_icmp .eq 7, 3) := by decide +kernel
theorem D_m_feasts_37 : decode M_m_feasts.2.1 37 = .ok (.iconst 0, 1) := by decide +kernel
theorem D_m_feasts_38 : decode M_m_feasts.2.1 38 = .ok (.goto 33, 3) := by decide +kernel
theorem D_m_feasts_41 : decode M_m_feasts.2.1 41 = .ok (.aload_n 0, 1) := by decide +kernel
theorem D_m_feasts_42 : decode M_m_feasts.2.1 42 = .ok (.getfield 23, 3) := by decide +kernel
theorem D_m_feasts_45 : decode M_m_feasts.2.1 45 = .ok (.bipush 10, 2) := by decide +kernel
theorem D_m_feasts_47 : decode M_m_feasts.2.1 47 = .ok (.iload_n 1, 1) := by decide +kernel
theorem D_m_feasts_48 : decode M_m_feasts.2.1 48 = .ok (.iadd, 1) := by decide +kernel
theorem D_m_feasts_49 : decode M_m_feasts.2.1 49 = .ok (.iaload, 1) := by decide +kernel
theorem D_m_feasts_50 : decode M_m_feasts.2.1 50 = .ok (.bipush 99, 2) := by decide +kernel
theorem D_m_feasts_52 : decode M_m_feasts.2.1 52 = .ok (.if_icmp .ge 17, 3) := by decide +kernel
theorem D_m_feasts_55 : decode M_m_feasts.2.1 55 = .ok (.aload_n 0, 1) := by decide +kernel
theorem D_m_feasts_56 : decode M_m_feasts.2.1 56 = .ok (.getfield 23, 3) := by decide +kernel
theorem D_m_feasts_59 : decode M_m_feasts.2.1 59 = .ok (.bipush 10, 2) := by decide +kernel
theorem D_m_feasts_61 : decode M_m_feasts.2.1 61 = .ok (.iload_n 1, 1) := by decide +kernel
theorem D_m_feasts_62 : decode M_m_feasts.2.1 62 = .ok (.iadd, 1) := by decide +kernel
theorem D_m_feasts_63 : decode M_m_feasts.2.1 63 = .ok (.iaload, 1) := by decide +kernel
theorem D_m_feasts_64 : decode M_m_feasts.2.1 64 = .ok (.iconst 1, 1) := by decide +kernel
theorem D_m_feasts_65 : decode M_m_feasts.2.1 65 = .ok (.iadd, 1) := by decide +kernel
theorem D_m_feasts_66 : decode M_m_feasts.2.1 66 = .ok (.goto 5, 3) := by decide +kernel
theorem D_m_feasts_69 : decode M_m_feasts.2.1 69 = .ok (.bipush 99, 2) := by decide +kernel
theorem D_m_feasts_71 : decode M_m_feasts.2.1 71 = .ok (.iastore, 1) := by decide +kernel
theorem D_m_feasts_72 : decode M_m_feasts.2.1 72 = .ok (.iconst 0, 1) := by decide +kernel
theorem D_m_feasts_73 : decode M_m_feasts.2.1 73 = .ok (.istore_n 2, 1) := by decide +kernel
theorem D_m_feasts_74 : decode M_m_feasts.2.1 74 = .ok (.iload_n 2, 1) := by decide +kernel
theorem D_m_feasts_75 : decode M_m_feasts.2.1 75 = .ok (.aload_n 0, 1) := by decide +kernel
theorem D_m_feasts_76 : decode M_m_feasts.2.1 76 = .ok (.getfield 66, 3) := by decide +kernel
theorem D_m_feasts_79 : decode M_m_feasts.2.1 79 = .ok (.if_icmp .ge 62, 3) := by decide +kernel
theorem D_m_feasts_82 : decode M_m_feasts.2.1 82 = .ok (.bipush 16, 2) := by decide +kernel
theorem D_m_feasts_84 : decode M_m_feasts.2.1 84 = .ok (.bipush 6, 2) := by decide +kernel
theorem D_m_feasts_86 : decode M_m_feasts.2.1 86 = .ok (.iload_n 1, 1) := by decide +kernel
theorem D_m_feasts_87 : decode M_m_feasts.2.1 87 = .ok (.imul, 1) := by decide +kernel
theorem D_m_feasts_88 : decode M_m_feasts.2.1 88 = .ok (.iadd, 1) := by decide +kernel
theorem D_m_feasts_89 : decode M_m_feasts.2.1 89 = .ok (.iload_n 2, 1) := by decide +kernel
theorem D_m_feasts_90 : decode M_m_feasts.2.1 90 = .ok (.iadd, 1) := by decide +kernel
theorem D_m_feasts_91 : decode M_m_feasts.2.1 91 = .ok (.istore_n 3, 1) := by decide +kernel
theorem D_m_feasts_92 : decode M_m_feasts.2.1 92 = .ok (.aload_n 0, 1) := by decide +kernel
theorem D_m_feasts_93 : decode M_m_feasts.2.1 93 = .ok (.getfield 23, 3) := by decide +kernel
theorem D_m_feasts_96 : decode M_m_feasts.2.1 96 = .ok (.iload_n 3, 1) := by decide +kernel
theorem D_m_feasts_97 : decode M_m_feasts.2.1 97 = .ok (.dup2, 1) := by decide +kernel
theorem D_m_feasts_98 : decode M_m_feasts.2.1 98 = .ok (.iaload, 1) := by decide +kernel
theorem D_m_feasts_99 : decode M_m_feasts.2.1 99 = .ok (.aload_n 0, 1) := by decide +kernel
theorem D_m_feasts_100 : decode M_m_feasts.2.1 100 = .ok (.iload_n 1, 1) := by decide +kernel
theorem D_m_feasts_101 : decode M_m_feasts.2.1 101 = .ok (.invokevirtual 155, 3) := by decide +kernel
theorem D_m_feasts_104 : decode M_m_feasts.2.1 104 = .ok (.iconst 1, 1) := by decide +kernel
theorem D_m_feasts_105 : decode M_m_feasts.2.1 105 = .ok (.if_icmp .ne 27, 3) := by decide +kernel
theorem D_m_feasts_108 : decode M_m_feasts.2.1 108 = .ok (.aload_n 0, 1) := by decide +kernel
theorem D_m_feasts_109 : decode M_m_feasts.2.1 109 = .ok (.iload_n 2, 1) := by decide +kernel
theorem D_m_feasts_110 : decode M_m_feasts.2.1 110 = .ok (.invokevirtual 155, 3) := by decide +kernel
theorem D_m_feasts_113 : decode M_m_feasts.2.1 113 = .ok (.iconst 2, 1) := by decide +kernel
theorem D_m_feasts_114 : decode M_m_feasts.2.1 114 = .ok (.if_icmp .ne 18, 3) := by decide +kernel
theorem D_m_feasts_117 : decode M_m_feasts.2.1 117 = .ok (.aload_n 0, 1) := by decide +kernel
theorem D_m_feasts_118 : decode M_m_feasts.2.1 118 = .ok (.getfield 23, 3) := by decide +kernel
theorem D_m_feasts_121 : decode M_m_feasts.2.1 121 = .ok (.iload_n 3, 1) := by decide +kernel
theorem D_m_feasts_122 : decode M_m_feasts.2.1 122 = .ok (.iaload, 1) := by decide +kernel
theorem D_m_feasts_123 : decode M_m_feasts.2.1 123 = .ok (.bipush 99, 2) := by decide +kernel
theorem D_m_feasts_125 : decode M_m_feasts.2.1 125 = .ok (.if_icmp .ge 7, 3) := by decide +kernel
theorem D_m_feasts_128 : decode M_m_feasts.2.1 128 = .ok (.iconst 1, 1) := by decide +kernel
theorem D_m_feasts_129 : decode M_m_feasts.2.1 129 = .ok (.goto 4, 3) := by decide +kernel
theorem D_m_feasts_132 : decode M_m_feasts.2.1 132 = .ok (.iconst 0, 1) := by decide +kernel
theorem D_m_feasts_133 : decode M_m_feasts.2.1 133 = .ok (.iadd, 1) := by decide +kernel
theorem D_m_feasts_134 : decode M_m_feasts.2.1 134 = .ok (.iastore, 1) := by decide +kernel
theorem D_m_feasts_135 : decode M_m_feasts.2.1 135 = .ok (.iinc 2 1, 3) := by decide +kernel
theorem D_m_feasts_138 : decode M_m_feasts.2.1 138 = .ok (.goto (-64), 3) := by decide +kernel
theorem D_m_feasts_141 : decode M_m_feasts.2.1 141 = .ok (.iinc 1 1, 3) := by decide +kernel
theorem D_m_feasts_144 : decode M_m_feasts.2.1 144 = .ok (.goto (-132), 3) := by decide +kernel
theorem D_m_feasts_147 : decode M_m_feasts.2.1 147 = .ok (.return_, 1) := by decide +kernel
theorem D_m_spins_0 : decode M_m_spins.2.1 0 = .ok (.iload_n 1, 1) := by decide +kernel
theorem D_m_spins_1 : decode M_m_spins.2.1 1 = .ok (.invokestatic 169, 3) := by decide +kernel
theorem D_m_spins_4 : decode M_m_spins.2.1 4 = .ok (.ifCond .ne 5, 3) := by decide +kernel
theorem D_m_spins_7 : decode M_m_spins.2.1 7 = .ok (.iconst (-1), 1) := by decide +kernel
theorem D_m_spins_8 : decode M_m_spins.2.1 8 = .ok (.ireturn, 1) := by decide +kernel
theorem D_m_spins_9 : decode M_m_spins.2.1 9 = .ok (.aload_n 0, 1) := by decide +kernel
theorem D_m_spins_10 : decode M_m_spins.2.1 10 = .ok (.getfield 73, 3) := by decide +kernel
theorem D_m_spins_13 : decode M_m_spins.2.1 13 = .ok (.ifCond .ne 6, 3) := by decide +kernel
theorem D_m_spins_16 : decode M_m_spins.2.1 16 = .ok (.bipush (-2), 2) := by decide +kernel
theorem D_m_spins_18 : decode M_m_spins.2.1 18 = .ok (.ireturn, 1) := by decide +kernel
theorem D_m_spins_19 : decode M_m_spins.2.1 19 = .ok (.aload_n 0, 1) := by decide +kernel
theorem D_m_spins_20 : decode M_m_spins.2.1 20 = .ok (.getfield 23, 3) := by decide +kernel
theorem D_m_spins_23 : decode M_m_spins.2.1 23 = .ok (.iconst 3, 1) := by decide +kernel
theorem D_m_spins_24 : decode M_m_spins.2.1 24 = .ok (.iaload, 1) := by decide +kernel
theorem D_m_spins_25 : decode M_m_spins.2.1 25 = .ok (.sipush 999, 3) := by decide +kernel
theorem D_m_spins_28 : decode M_m_spins.2.1 28 = .ok (.if_icmp .ne 6, 3) := by decide +kernel
theorem D_m_spins_31 : decode M_m_spins.2.1 31 = .ok (.bipush (-3), 2) := by decide +kernel
theorem D_m_spins_33 : decode M_m_spins.2.1 33 = .ok (.ireturn, 1) := by decide +kernel
theorem D_m_spins_34 : decode M_m_spins.2.1 34 = .ok (.aload_n 0, 1) := by decide +kernel
theorem D_m_spins_35 : decode M_m_spins.2.1 35 = .ok (.invokevirtual 172, 3) := by decide +kernel
theorem D_m_spins_38 : decode M_m_spins.2.1 38 = .ok (.aload_n 0, 1) := by decide +kernel
theorem D_m_spins_39 : decode M_m_spins.2.1 39 = .ok (.getfield 23, 3) := by decide +kernel
theorem D_m_spins_42 : decode M_m_spins.2.1 42 = .ok (.iconst 0, 1) := by decide +kernel
theorem D_m_spins_43 : decode M_m_spins.2.1 43 = .ok (.aload_n 0, 1) := by decide +kernel
theorem D_m_spins_44 : decode M_m_spins.2.1 44 = .ok (.getfield 23, 3) := by decide +kernel
theorem D_m_spins_47 : decode M_m_spins.2.1 47 = .ok (.iconst 0, 1) := by decide +kernel
theorem D_m_spins_48 : decode M_m_spins.2.1 48 = .ok (.iaload, 1) := by decide +kernel
theorem D_m_spins_49 : decode M_m_spins.2.1 49 = .ok (.aload_n 0, 1) := by decide +kernel
theorem D_m_spins_50 : decode M_m_spins.2.1 50 = .ok (.iload_n 1, 1) := by decide +kernel
theorem D_m_spins_51 : decode M_m_spins.2.1 51 = .ok (.invokevirtual 175, 3) := by decide +kernel
theorem D_m_spins_54 : decode M_m_spins.2.1 54 = .ok (.iadd, 1) := by decide +kernel
theorem D_m_spins_55 : decode M_m_spins.2.1 55 = .ok (.aload_n 0, 1) := by decide +kernel
theorem D_m_spins_56 : decode M_m_spins.2.1 56 = .ok (.getfield 73, 3) := by decide +kernel
theorem D_m_spins_59 : decode M_m_spins.2.1 59 = .ok (.irem, 1) := by decide +kernel
theorem D_m_spins_60 : decode M_m_spins.2.1 60 = .ok (.iastore, 1) := by decide +kernel
theorem D_m_spins_61 : decode M_m_spins.2.1 61 = .ok (.aload_n 0, 1) := by decide +kernel
theorem D_m_spins_62 : decode M_m_spins.2.1 62 = .ok (.invokevirtual 178, 3) := by decide +kernel
theorem D_m_spins_65 : decode M_m_spins.2.1 65 = .ok (.aload_n 0, 1) := by decide +kernel
theorem D_m_spins_66 : decode M_m_spins.2.1 66 = .ok (.getfield 23, 3) := by decide +kernel
theorem D_m_spins_69 : decode M_m_spins.2.1 69 = .ok (.iconst 0, 1) := by decide +kernel
theorem D_m_spins_70 : decode M_m_spins.2.1 70 = .ok (.iaload, 1) := by decide +kernel
theorem D_m_spins_71 : decode M_m_spins.2.1 71 = .ok (.ireturn, 1) := by decide +kernel
theorem D_m_whoHas_0 : decode M_m_whoHas.2.1 0 = .ok (.bipush (-9), 2) := by decide +kernel
theorem D_m_whoHas_2 : decode M_m_whoHas.2.1 2 = .ok (.istore_n 2, 1) := by decide +kernel
theorem D_m_whoHas_3 : decode M_m_whoHas.2.1 3 = .ok (.iconst 0, 1) := by decide +kernel
theorem D_m_whoHas_4 : decode M_m_whoHas.2.1 4 = .ok (.istore_n 3, 1) := by decide +kernel
theorem D_m_whoHas_5 : decode M_m_whoHas.2.1 5 = .ok (.iload_n 3, 1) := by decide +kernel
theorem D_m_whoHas_6 : decode M_m_whoHas.2.1 6 = .ok (.aload_n 0, 1) := by decide +kernel
theorem D_m_whoHas_7 : decode M_m_whoHas.2.1 7 = .ok (.getfield 66, 3) := by decide +kernel
theorem D_m_whoHas_10 : decode M_m_whoHas.2.1 10 = .ok (.if_icmp .ge 27, 3) := by decide +kernel
theorem D_m_whoHas_13 : decode M_m_whoHas.2.1 13 = .ok (.aload_n 0, 1) := by decide +kernel
theorem D_m_whoHas_14 : decode M_m_whoHas.2.1 14 = .ok (.getfield 23, 3) := by decide +kernel
theorem D_m_whoHas_17 : decode M_m_whoHas.2.1 17 = .ok (.iconst 4, 1) := by decide +kernel
theorem D_m_whoHas_18 : decode M_m_whoHas.2.1 18 = .ok (.iload_n 3, 1) := by decide +kernel
theorem D_m_whoHas_19 : decode M_m_whoHas.2.1 19 = .ok (.iadd, 1) := by decide +kernel
theorem D_m_whoHas_20 : decode M_m_whoHas.2.1 20 = .ok (.iaload, 1) := by decide +kernel
theorem D_m_whoHas_21 : decode M_m_whoHas.2.1 21 = .ok (.iload_n 1, 1) := by decide +kernel
theorem D_m_whoHas_22 : decode M_m_whoHas.2.1 22 = .ok (.if_icmp .ne 7, 3) := by decide +kernel
theorem D_m_whoHas_25 : decode M_m_whoHas.2.1 25 = .ok (.iload_n 3, 1) := by decide +kernel
theorem D_m_whoHas_26 : decode M_m_whoHas.2.1 26 = .ok (.goto 4, 3) := by decide +kernel
theorem D_m_whoHas_29 : decode M_m_whoHas.2.1 29 = .ok (.iload_n 2, 1) := by decide +kernel
theorem D_m_whoHas_30 : decode M_m_whoHas.2.1 30 = .ok (.istore_n 2, 1) := by decide +kernel
theorem D_m_whoHas_31 : decode M_m_whoHas.2.1 31 = .ok (.iinc 3 1, 3) := by decide +kernel
theorem D_m_whoHas_34 : decode M_m_whoHas.2.1 34 = .ok (.goto (-29), 3) := by decide +kernel
theorem D_m_whoHas_37 : decode M_m_whoHas.2.1 37 = .ok (.iload_n 2, 1) := by decide +kernel
theorem D_m_whoHas_38 : decode M_m_whoHas.2.1 38 = .ok (.ireturn, 1) := by decide +kernel
theorem D_m_goes_0 : decode M_m_goes.2.1 0 = .ok (.aload_n 0, 1) := by decide +kernel
theorem D_m_goes_1 : decode M_m_goes.2.1 1 = .ok (.iload_n 1, 1) := by decide +kernel
theorem D_m_goes_2 : decode M_m_goes.2.1 2 = .ok (.invokevirtual 152, 3) := by decide +kernel
theorem D_m_goes_5 : decode M_m_goes.2.1 5 = .ok (.ifCond .eq 11, 3) := by decide +kernel
theorem D_m_goes_8 : decode M_m_goes.2.1 8 = .ok (.aload_n 0, 1) := by decide +kernel
theorem D_m_goes_9 : decode M_m_goes.2.1 9 = .ok (.iload_n 2, 1) := by decide +kernel
theorem D_m_goes_10 : decode M_m_goes.2.1 10 = .ok (.invokevirtual 146, 3) := by decide +kernel
theorem D_m_goes_13 : decode M_m_goes.2.1 13 = .ok (.ifCond .ne 5, 3) := by decide +kernel
theorem D_m_goes_16 : decode M_m_goes.2.1 16 = .ok (.iconst (-1), 1) := by decide +kernel
theorem D_m_goes_17 : decode M_m_goes.2.1 17 = .ok (.ireturn, 1) := by decide +kernel
theorem D_m_goes_18 : decode M_m_goes.2.1 18 = .ok (.aload_n 0, 1) := by decide +kernel
theorem D_m_goes_19 : decode M_m_goes.2.1 19 = .ok (.iload_n 2, 1) := by decide +kernel
theorem D_m_goes_20 : decode M_m_goes.2.1 20 = .ok (.invokevirtual 181, 3) := by decide +kernel
theorem D_m_goes_23 : decode M_m_goes.2.1 23 = .ok (.ifCond .lt 6, 3) := by decide +kernel
theorem D_m_goes_26 : decode M_m_goes.2.1 26 = .ok (.bipush (-2), 2) := by decide +kernel
theorem D_m_goes_28 : decode M_m_goes.2.1 28 = .ok (.ireturn, 1) := by decide +kernel
theorem D_m_goes_29 : decode M_m_goes.2.1 29 = .ok (.aload_n 0, 1) := by decide +kernel
theorem D_m_goes_30 : decode M_m_goes.2.1 30 = .ok (.invokevirtual 172, 3) := by decide +kernel
theorem D_m_goes_33 : decode M_m_goes.2.1 33 = .ok (.aload_n 0, 1) := by decide +kernel
theorem D_m_goes_34 : decode M_m_goes.2.1 34 = .ok (.getfield 23, 3) := by decide +kernel
theorem D_m_goes_37 : decode M_m_goes.2.1 37 = .ok (.iconst 4, 1) := by decide +kernel
theorem D_m_goes_38 : decode M_m_goes.2.1 38 = .ok (.iload_n 1, 1) := by decide +kernel
theorem D_m_goes_39 : decode M_m_goes.2.1 39 = .ok (.iadd, 1) := by decide +kernel
theorem D_m_goes_40 : decode M_m_goes.2.1 40 = .ok (.iaload, 1) := by decide +kernel
theorem D_m_goes_41 : decode M_m_goes.2.1 41 = .ok (.istore_n 3, 1) := by decide +kernel
theorem D_m_goes_42 : decode M_m_goes.2.1 42 = .ok (.aload_n 0, 1) := by decide +kernel
theorem D_m_goes_43 : decode M_m_goes.2.1 43 = .ok (.getfield 23, 3) := by decide +kernel
theorem D_m_goes_46 : decode M_m_goes.2.1 46 = .ok (.iconst 4, 1) := by decide +kernel
theorem D_m_goes_47 : decode M_m_goes.2.1 47 = .ok (.iload_n 1, 1) := by decide +kernel
theorem D_m_goes_48 : decode M_m_goes.2.1 48 = .ok (.iadd, 1) := by decide +kernel
theorem D_m_goes_49 : decode M_m_goes.2.1 49 = .ok (.iload_n 2, 1) := by decide +kernel
theorem D_m_goes_50 : decode M_m_goes.2.1 50 = .ok (.iastore, 1) := by decide +kernel
theorem D_m_goes_51 : decode M_m_goes.2.1 51 = .ok (.iload_n 3, 1) := by decide +kernel
theorem D_m_goes_52 : decode M_m_goes.2.1 52 = .ok (.ireturn, 1) := by decide +kernel
theorem D_m_passes_0 : decode M_m_passes.2.1 0 = .ok (.iload_n 1, 1) := by decide +kernel
theorem D_m_passes_1 : decode M_m_passes.2.1 1 = .ok (.iconst 1, 1) := by decide +kernel
theorem D_m_passes_2 : decode M_m_passes.2.1 2 = .ok (.bipush 11, 2) := by decide +kernel
theorem D_m_passes_4 : decode M_m_passes.2.1 4 = .ok (.invokestatic 69, 3) := by decide +kernel
theorem D_m_passes_7 : decode M_m_passes.2.1 7 = .ok (.ifCond .ne 5, 3) := by decide +kernel
theorem D_m_passes_10 : decode M_m_passes.2.1 10 = .ok (.iconst (-1), 1) := by decide +kernel
theorem D_m_passes_11 : decode M_m_passes.2.1 11 = .ok (.ireturn, 1) := by decide +kernel
theorem D_m_passes_12 : decode M_m_passes.2.1 12 = .ok (.aload_n 0, 1) := by decide +kernel
theorem D_m_passes_13 : decode M_m_passes.2.1 13 = .ok (.getfield 73, 3) := by decide +kernel
theorem D_m_passes_16 : decode M_m_passes.2.1 16 = .ok (.ifCond .ne 6, 3) := by decide +kernel
theorem D_m_passes_19 : decode M_m_passes.2.1 19 = .ok (.bipush (-2), 2) := by decide +kernel
theorem D_m_passes_21 : decode M_m_passes.2.1 21 = .ok (.ireturn, 1) := by decide +kernel
theorem D_m_passes_22 : decode M_m_passes.2.1 22 = .ok (.aload_n 0, 1) := by decide +kernel
theorem D_m_passes_23 : decode M_m_passes.2.1 23 = .ok (.invokevirtual 172, 3) := by decide +kernel
theorem D_m_passes_26 : decode M_m_passes.2.1 26 = .ok (.aload_n 0, 1) := by decide +kernel
theorem D_m_passes_27 : decode M_m_passes.2.1 27 = .ok (.getfield 23, 3) := by decide +kernel
theorem D_m_passes_30 : decode M_m_passes.2.1 30 = .ok (.iconst 1, 1) := by decide +kernel
theorem D_m_passes_31 : decode M_m_passes.2.1 31 = .ok (.aload_n 0, 1) := by decide +kernel
theorem D_m_passes_32 : decode M_m_passes.2.1 32 = .ok (.getfield 23, 3) := by decide +kernel
theorem D_m_passes_35 : decode M_m_passes.2.1 35 = .ok (.iconst 1, 1) := by decide +kernel
theorem D_m_passes_36 : decode M_m_passes.2.1 36 = .ok (.iaload, 1) := by decide +kernel
theorem D_m_passes_37 : decode M_m_passes.2.1 37 = .ok (.iload_n 1, 1) := by decide +kernel
theorem D_m_passes_38 : decode M_m_passes.2.1 38 = .ok (.iadd, 1) := by decide +kernel
theorem D_m_passes_39 : decode M_m_passes.2.1 39 = .ok (.aload_n 0, 1) := by decide +kernel
theorem D_m_passes_40 : decode M_m_passes.2.1 40 = .ok (.getfield 73, 3) := by decide +kernel
theorem D_m_passes_43 : decode M_m_passes.2.1 43 = .ok (.irem, 1) := by decide +kernel
theorem D_m_passes_44 : decode M_m_passes.2.1 44 = .ok (.iastore, 1) := by decide +kernel
theorem D_m_passes_45 : decode M_m_passes.2.1 45 = .ok (.aload_n 0, 1) := by decide +kernel
theorem D_m_passes_46 : decode M_m_passes.2.1 46 = .ok (.getfield 23, 3) := by decide +kernel
theorem D_m_passes_49 : decode M_m_passes.2.1 49 = .ok (.iconst 1, 1) := by decide +kernel
theorem D_m_passes_50 : decode M_m_passes.2.1 50 = .ok (.iaload, 1) := by decide +kernel
theorem D_m_passes_51 : decode M_m_passes.2.1 51 = .ok (.ireturn, 1) := by decide +kernel
theorem D_m_covers_0 : decode M_m_covers.2.1 0 = .ok (.iload_n 1, 1) := by decide +kernel
theorem D_m_covers_1 : decode M_m_covers.2.1 1 = .ok (.iconst 0, 1) := by decide +kernel
theorem D_m_covers_2 : decode M_m_covers.2.1 2 = .ok (.iconst 1, 1) := by decide +kernel
theorem D_m_covers_3 : decode M_m_covers.2.1 3 = .ok (.invokestatic 69, 3) := by decide +kernel
theorem D_m_covers_6 : decode M_m_covers.2.1 6 = .ok (.ifCond .ne 5, 3) := by decide +kernel
theorem D_m_covers_9 : decode M_m_covers.2.1 9 = .ok (.iconst (-1), 1) := by decide +kernel
theorem D_m_covers_10 : decode M_m_covers.2.1 10 = .ok (.ireturn, 1) := by decide +kernel
theorem D_m_covers_11 : decode M_m_covers.2.1 11 = .ok (.aload_n 0, 1) := by decide +kernel
theorem D_m_covers_12 : decode M_m_covers.2.1 12 = .ok (.getfield 23, 3) := by decide +kernel
theorem D_m_covers_15 : decode M_m_covers.2.1 15 = .ok (.iconst 2, 1) := by decide +kernel
theorem D_m_covers_16 : decode M_m_covers.2.1 16 = .ok (.iaload, 1) := by decide +kernel
theorem D_m_covers_17 : decode M_m_covers.2.1 17 = .ok (.iload_n 1, 1) := by decide +kernel
theorem D_m_covers_18 : decode M_m_covers.2.1 18 = .ok (.if_icmp .ne 6, 3) := by decide +kernel
theorem D_m_covers_21 : decode M_m_covers.2.1 21 = .ok (.bipush (-2), 2) := by decide +kernel
theorem D_m_covers_23 : decode M_m_covers.2.1 23 = .ok (.ireturn, 1) := by decide +kernel
theorem D_m_covers_24 : decode M_m_covers.2.1 24 = .ok (.aload_n 0, 1) := by decide +kernel
theorem D_m_covers_25 : decode M_m_covers.2.1 25 = .ok (.invokevirtual 172, 3) := by decide +kernel
theorem D_m_covers_28 : decode M_m_covers.2.1 28 = .ok (.aload_n 0, 1) := by decide +kernel
theorem D_m_covers_29 : decode M_m_covers.2.1 29 = .ok (.getfield 23, 3) := by decide +kernel
theorem D_m_covers_32 : decode M_m_covers.2.1 32 = .ok (.iconst 2, 1) := by decide +kernel
theorem D_m_covers_33 : decode M_m_covers.2.1 33 = .ok (.iload_n 1, 1) := by decide +kernel
theorem D_m_covers_34 : decode M_m_covers.2.1 34 = .ok (.iastore, 1) := by decide +kernel
theorem D_m_covers_35 : decode M_m_covers.2.1 35 = .ok (.iconst 0, 1) := by decide +kernel
theorem D_m_covers_36 : decode M_m_covers.2.1 36 = .ok (.istore_n 2, 1) := by decide +kernel
theorem D_m_covers_37 : decode M_m_covers.2.1 37 = .ok (.iconst 0, 1) := by decide +kernel
theorem D_m_covers_38 : decode M_m_covers.2.1 38 = .ok (.istore_n 3, 1) := by decide +kernel
theorem D_m_covers_39 : decode M_m_covers.2.1 39 = .ok (.iload_n 3, 1) := by decide +kernel
theorem D_m_covers_40 : decode M_m_covers.2.1 40 = .ok (.aload_n 0, 1) := by decide +kernel
theorem D_m_covers_41 : decode M_m_covers.2.1 41 = .ok (.getfield 66, 3) := by decide +kernel
theorem D_m_covers_44 : decode M_m_covers.2.1 44 = .ok (.if_icmp .ge 25, 3) := by decide +kernel
theorem D_m_covers_47 : decode M_m_covers.2.1 47 = .ok (.iload_n 2, 1) := by decide +kernel
theorem D_m_covers_48 : decode M_m_covers.2.1 48 = .ok (.aload_n 0, 1) := by decide +kernel
theorem D_m_covers_49 : decode M_m_covers.2.1 49 = .ok (.iload_n 3, 1) := by decide +kernel
theorem D_m_covers_50 : decode M_m_covers.2.1 50 = .ok (.invokevirtual 155, 3) := by decide +kernel
theorem D_m_covers_53 : decode M_m_covers.2.1 53 = .ok (.ifCond .ne 7, 3) := by decide +kernel
theorem D_m_covers_56 : decode M_m_covers.2.1 56 = .ok (.iconst 1, 1) := by decide +kernel
theorem D_m_covers_57 : decode M_m_covers.2.1 57 = .ok (.goto 4, 3) := by decide +kernel
theorem D_m_covers_60 : decode M_m_covers.2.1 60 = .ok (.iconst 0, 1) := by decide +kernel
theorem D_m_covers_61 : decode M_m_covers.2.1 61 = .ok (.iadd, 1) := by decide +kernel
theorem D_m_covers_62 : decode M_m_covers.2.1 62 = .ok (.istore_n 2, 1) := by decide +kernel
theorem D_m_covers_63 : decode M_m_covers.2.1 63 = .ok (.iinc 3 1, 3) := by decide +kernel
theorem D_m_covers_66 : decode M_m_covers.2.1 66 = .ok (.goto (-27), 3) := by decide +kernel
theorem D_m_covers_69 : decode M_m_covers.2.1 69 = .ok (.iload_n 2, 1) := by decide +kernel
theorem D_m_covers_70 : decode M_m_covers.2.1 70 = .ok (.ireturn, 1) := by decide +kernel
theorem D_m_forgives_0 : decode M_m_forgives.2.1 0 = .ok (.aload_n 0, 1) := by decide +kernel
theorem D_m_forgives_1 : decode M_m_forgives.2.1 1 = .ok (.iload_n 1, 1) := by decide +kernel
theorem D_m_forgives_2 : decode M_m_forgives.2.1 2 = .ok (.iload_n 2, 1) := by decide +kernel
theorem D_m_forgives_3 : decode M_m_forgives.2.1 3 = .ok (.invokevirtual 161, 3) := by decide +kernel
theorem D_m_forgives_6 : decode M_m_forgives.2.1 6 = .ok (.ifCond .ne 5, 3) := by decide +kernel
theorem D_m_forgives_9 : decode M_m_forgives.2.1 9 = .ok (.iconst (-1), 1) := by decide +kernel
theorem D_m_forgives_10 : decode M_m_forgives.2.1 10 = .ok (.ireturn, 1) := by decide +kernel
theorem D_m_forgives_11 : decode M_m_forgives.2.1 11 = .ok (.aload_n 0, 1) := by decide +kernel
theorem D_m_forgives_12 : decode M_m_forgives.2.1 12 = .ok (.getfield 23, 3) := by decide +kernel
theorem D_m_forgives_15 : decode M_m_forgives.2.1 15 = .ok (.bipush 16, 2) := by decide +kernel
theorem D_m_forgives_17 : decode M_m_forgives.2.1 17 = .ok (.bipush 6, 2) := by decide +kernel
theorem D_m_forgives_19 : decode M_m_forgives.2.1 19 = .ok (.iload_n 1, 1) := by decide +kernel
theorem D_m_forgives_20 : decode M_m_forgives.2.1 20 = .ok (.imul, 1) := by decide +kernel
theorem D_m_forgives_21 : decode M_m_forgives.2.1 21 = .ok (.iadd, 1) := by decide +kernel
theorem D_m_forgives_22 : decode M_m_forgives.2.1 22 = .ok (.iload_n 2, 1) := by decide +kernel
theorem D_m_forgives_23 : decode M_m_forgives.2.1 23 = .ok (.iadd, 1) := by decide +kernel
theorem D_m_forgives_24 : decode M_m_forgives.2.1 24 = .ok (.iaload, 1) := by decide +kernel
theorem D_m_forgives_25 : decode M_m_forgives.2.1 25 = .ok (.istore_n 3, 1) := by decide +kernel
theorem D_m_forgives_26 : decode M_m_forgives.2.1 26 = .ok (.iload_n 3, 1) := by decide +kernel
theorem D_m_forgives_27 : decode M_m_forgives.2.1 27 = .ok (.ifCond .ne 6, 3) := by decide +kernel
theorem D_m_forgives_30 : decode M_m_forgives.2.1 30 = .ok (.bipush (-2), 2) := by decide +kernel
theorem D_m_forgives_32 : decode M_m_forgives.2.1 32 = .ok (.ireturn, 1) := by decide +kernel
theorem D_m_forgives_33 : decode M_m_forgives.2.1 33 = .ok (.aload_n 0, 1) := by decide +kernel
theorem D_m_forgives_34 : decode M_m_forgives.2.1 34 = .ok (.invokevirtual 172, 3) := by decide +kernel
theorem D_m_forgives_37 : decode M_m_forgives.2.1 37 = .ok (.aload_n 0, 1) := by decide +kernel
theorem D_m_forgives_38 : decode M_m_forgives.2.1 38 = .ok (.getfield 23, 3) := by decide +kernel
theorem D_m_forgives_41 : decode M_m_forgives.2.1 41 = .ok (.bipush 16, 2) := by decide +kernel
theorem D_m_forgives_43 : decode M_m_forgives.2.1 43 = .ok (.bipush 6, 2) := by decide +kernel
theorem D_m_forgives_45 : decode M_m_forgives.2.1 45 = .ok (.iload_n 1, 1) := by decide +kernel
theorem D_m_forgives_46 : decode M_m_forgives.2.1 46 = .ok (.imul, 1) := by decide +kernel
theorem D_m_forgives_47 : decode M_m_forgives.2.1 47 = .ok (.iadd, 1) := by decide +kernel
theorem D_m_forgives_48 : decode M_m_forgives.2.1 48 = .ok (.iload_n 2, 1) := by decide +kernel
theorem D_m_forgives_49 : decode M_m_forgives.2.1 49 = .ok (.iadd, 1) := by decide +kernel
theorem D_m_forgives_50 : decode M_m_forgives.2.1 50 = .ok (.iconst 0, 1) := by decide +kernel
theorem D_m_forgives_51 : decode M_m_forgives.2.1 51 = .ok (.iastore, 1) := by decide +kernel
theorem D_m_forgives_52 : decode M_m_forgives.2.1 52 = .ok (.iload_n 3, 1) := by decide +kernel
theorem D_m_forgives_53 : decode M_m_forgives.2.1 53 = .ok (.ireturn, 1) := by decide +kernel
theorem D_m_undo_0 : decode M_m_undo.2.1 0 = .ok (.aload_n 0, 1) := by decide +kernel
theorem D_m_undo_1 : decode M_m_undo.2.1 1 = .ok (.getfield 23, 3) := by decide +kernel
theorem D_m_undo_4 : decode M_m_undo.2.1 4 = .ok (.bipush 52, 2) := by decide +kernel
theorem D_m_undo_6 : decode M_m_undo.2.1 6 = .ok (.iaload, 1) := by decide +kernel
theorem D_m_undo_7 : decode M_m_undo.2.1 7 = .ok (.ifCond .ne 6, 3) := by decide +kernel
theorem D_m_undo_10 : decode M_m_undo.2.1 10 = .ok (.bipush (-2), 2) := by decide +kernel
theorem D_m_undo_12 : decode M_m_undo.2.1 12 = .ok (.ireturn, 1) := by decide +kernel
theorem D_m_undo_13 : decode M_m_undo.2.1 13 = .ok (.aload_n 0, 1) := by decide +kernel
theorem D_m_undo_14 : decode M_m_undo.2.1 14 = .ok (.getfield 23, 3) := by decide +kernel
theorem D_m_undo_17 : decode M_m_undo.2.1 17 = .ok (.bipush 52, 2) := by decide +kernel
theorem D_m_undo_19 : decode M_m_undo.2.1 19 = .ok (.dup2, 1) := by decide +kernel
theorem D_m_undo_20 : decode M_m_undo.2.1 20 = .ok (.iaload, 1) := by decide +kernel
theorem D_m_undo_21 : decode M_m_undo.2.1 21 = .ok (.iconst 1, 1) := by decide +kernel
theorem D_m_undo_22 : decode M_m_undo.2.1 22 = .ok (.isub, 1) := by decide +kernel
theorem D_m_undo_23 : decode M_m_undo.2.1 23 = .ok (.iastore, 1) := by decide +kernel
theorem D_m_undo_24 : decode M_m_undo.2.1 24 = .ok (.bipush 53, 2) := by decide +kernel
theorem D_m_undo_26 : decode M_m_undo.2.1 26 = .ok (.bipush 52, 2) := by decide +kernel
theorem D_m_undo_28 : decode M_m_undo.2.1 28 = .ok (.aload_n 0, 1) := by decide +kernel
theorem D_m_undo_29 : decode M_m_undo.2.1 29 = .ok (.getfield 23, 3) := by decide +kernel
theorem D_m_undo_32 : decode M_m_undo.2.1 32 = .ok (.bipush 52, 2) := by decide +kernel
theorem D_m_undo_34 : decode M_m_undo.2.1 34 = .ok (.iaload, 1) := by decide +kernel
theorem D_m_undo_35 : decode M_m_undo.2.1 35 = .ok (.imul, 1) := by decide +kernel
theorem D_m_undo_36 : decode M_m_undo.2.1 36 = .ok (.iadd, 1) := by decide +kernel
theorem D_m_undo_37 : decode M_m_undo.2.1 37 = .ok (.istore_n 1, 1) := by decide +kernel
theorem D_m_undo_38 : decode M_m_undo.2.1 38 = .ok (.iconst 0, 1) := by decide +kernel
theorem D_m_undo_39 : decode M_m_undo.2.1 39 = .ok (.istore_n 2, 1) := by decide +kernel
theorem D_m_undo_40 : decode M_m_undo.2.1 40 = .ok (.iload_n 2, 1) := by decide +kernel
theorem D_m_undo_41 : decode M_m_undo.2.1 41 = .ok (.bipush 52, 2) := by decide +kernel
theorem D_m_undo_43 : decode M_m_undo.2.1 43 = .ok (.if_icmp .ge 23, 3) := by decide +kernel
theorem D_m_undo_46 : decode M_m_undo.2.1 46 = .ok (.aload_n 0, 1) := by decide +kernel
theorem D_m_undo_47 : decode M_m_undo.2.1 47 = .ok (.getfield 23, 3) := by decide +kernel
theorem D_m_undo_50 : decode M_m_undo.2.1 50 = .ok (.iload_n 2, 1) := by decide +kernel
theorem D_m_undo_51 : decode M_m_undo.2.1 51 = .ok (.aload_n 0, 1) := by decide +kernel
theorem D_m_undo_52 : decode M_m_undo.2.1 52 = .ok (.getfield 23, 3) := by decide +kernel
theorem D_m_undo_55 : decode M_m_undo.2.1 55 = .ok (.iload_n 1, 1) := by decide +kernel
theorem D_m_undo_56 : decode M_m_undo.2.1 56 = .ok (.iload_n 2, 1) := by decide +kernel
theorem D_m_undo_57 : decode M_m_undo.2.1 57 = .ok (.iadd, 1) := by decide +kernel
theorem D_m_undo_58 : decode M_m_undo.2.1 58 = .ok (.iaload, 1) := by decide +kernel
theorem D_m_undo_59 : decode M_m_undo.2.1 59 = .ok (.iastore, 1) := by decide +kernel
theorem D_m_undo_60 : decode M_m_undo.2.1 60 = .ok (.iinc 2 1, 3) := by decide +kernel
theorem D_m_undo_63 : decode M_m_undo.2.1 63 = .ok (.goto (-23), 3) := by decide +kernel
theorem D_m_undo_66 : decode M_m_undo.2.1 66 = .ok (.aload_n 0, 1) := by decide +kernel
theorem D_m_undo_67 : decode M_m_undo.2.1 67 = .ok (.getfield 23, 3) := by decide +kernel
theorem D_m_undo_70 : decode M_m_undo.2.1 70 = .ok (.bipush 52, 2) := by decide +kernel
theorem D_m_undo_72 : decode M_m_undo.2.1 72 = .ok (.iaload, 1) := by decide +kernel
theorem D_m_undo_73 : decode M_m_undo.2.1 73 = .ok (.ireturn, 1) := by decide +kernel
theorem D_m_isAlike_0 : decode M_m_isAlike.2.1 0 = .ok (.iconst 1, 1) := by decide +kernel
theorem D_m_isAlike_1 : decode M_m_isAlike.2.1 1 = .ok (.istore_n 2, 1) := by decide +kernel
theorem D_m_isAlike_2 : decode M_m_isAlike.2.1 2 = .ok (.iconst 0, 1) := by decide +kernel
theorem D_m_isAlike_3 : decode M_m_isAlike.2.1 3 = .ok (.istore_n 3, 1) := by decide +kernel
theorem D_m_isAlike_4 : decode M_m_isAlike.2.1 4 = .ok (.iload_n 3, 1) := by decide +kernel
theorem D_m_isAlike_5 : decode M_m_isAlike.2.1 5 = .ok (.aload_n 0, 1) := by decide +kernel
theorem D_m_isAlike_6 : decode M_m_isAlike.2.1 6 = .ok (.getfield 73, 3) := by decide +kernel
theorem D_m_isAlike_9 : decode M_m_isAlike.2.1 9 = .ok (.if_icmp .ge 41, 3) := by decide +kernel
theorem D_m_isAlike_12 : decode M_m_isAlike.2.1 12 = .ok (.iload_n 2, 1) := by decide +kernel
theorem D_m_isAlike_13 : decode M_m_isAlike.2.1 13 = .ok (.ifCond .eq 29, 3) := by decide +kernel
theorem D_m_isAlike_16 : decode M_m_isAlike.2.1 16 = .ok (.aload_n 0, 1) := by decide +kernel
theorem D_m_isAlike_17 : decode M_m_isAlike.2.1 17 = .ok (.getfield 7, 3) := by decide +kernel
theorem D_m_isAlike_20 : decode M_m_isAlike.2.1 20 = .ok (.iload_n 3, 1) := by decide +kernel
theorem D_m_isAlike_21 : decode M_m_isAlike.2.1 21 = .ok (.iaload, 1) := by decide +kernel
theorem D_m_isAlike_22 : decode M_m_isAlike.2.1 22 = .ok (.aload_n 0, 1) := by decide +kernel
theorem D_m_isAlike_23 : decode M_m_isAlike.2.1 23 = .ok (.getfield 7, 3) := by decide +kernel
theorem D_m_isAlike_26 : decode M_m_isAlike.2.1 26 = .ok (.iload_n 3, 1) := by decide +kernel
theorem D_m_isAlike_27 : decode M_m_isAlike.2.1 27 = .ok (.iload_n 1, 1) := by decide +kernel
theorem D_m_isAlike_28 : decode M_m_isAlike.2.1 28 = .ok (.iadd, 1) := by decide +kernel
theorem D_m_isAlike_29 : decode M_m_isAlike.2.1 29 = .ok (.aload_n 0, 1) := by decide +kernel
theorem D_m_isAlike_30 : decode M_m_isAlike.2.1 30 = .ok (.getfield 73, 3) := by decide +kernel
theorem D_m_isAlike_33 : decode M_m_isAlike.2.1 33 = .ok (.irem, 1) := by decide +kernel
theorem D_m_isAlike_34 : decode M_m_isAlike.2.1 34 = .ok (.iaload, 1) := by decide +kernel
theorem D_m_isAlike_35 : decode M_m_isAlike.2.1 35 = .ok (.if_icmp .ne 7, 3) := by decide +kernel
theorem D_m_isAlike_38 : decode M_m_isAlike.2.1 38 = .ok (.iconst 1, 1) := by decide +kernel
theorem D_m_isAlike_39 : decode M_m_isAlike.2.1 39 = .ok (.goto 4, 3) := by decide +kernel
theorem D_m_isAlike_42 : decode M_m_isAlike.2.1 42 = .ok (.iconst 0, 1) := by decide +kernel
theorem D_m_isAlike_43 : decode M_m_isAlike.2.1 43 = .ok (.istore_n 2, 1) := by decide +kernel
theorem D_m_isAlike_44 : decode M_m_isAlike.2.1 44 = .ok (.iinc 3 1, 3) := by decide +kernel
theorem D_m_isAlike_47 : decode M_m_isAlike.2.1 47 = .ok (.goto (-43), 3) := by decide +kernel
theorem D_m_isAlike_50 : decode M_m_isAlike.2.1 50 = .ok (.iload_n 2, 1) := by decide +kernel
theorem D_m_isAlike_51 : decode M_m_isAlike.2.1 51 = .ok (.ireturn, 1) := by decide +kernel
theorem D_m_alike_0 : decode M_m_alike.2.1 0 = .ok (.bipush (-9), 2) := by decide +kernel
theorem D_m_alike_2 : decode M_m_alike.2.1 2 = .ok (.istore_n 1, 1) := by decide +kernel
theorem D_m_alike_3 : decode M_m_alike.2.1 3 = .ok (.aload_n 0, 1) := by decide +kernel
theorem D_m_alike_4 : decode M_m_alike.2.1 4 = .ok (.getfield 73, 3) := by decide +kernel
theorem D_m_alike_7 : decode M_m_alike.2.1 7 = .ok (.istore_n 2, 1) := by decide +kernel
theorem D_m_alike_8 : decode M_m_alike.2.1 8 = .ok (.iload_n 2, 1) := by decide +kernel
theorem D_m_alike_9 : decode M_m_alike.2.1 9 = .ok (.ifCond .le 23, 3) := by decide +kernel
theorem D_m_alike_12 : decode M_m_alike.2.1 12 = .ok (.aload_n 0, 1) := by decide +kernel
theorem D_m_alike_13 : decode M_m_alike.2.1 13 = .ok (.iload_n 2, 1) := by decide +kernel
theorem D_m_alike_14 : decode M_m_alike.2.1 14 = .ok (.invokevirtual 184, 3) := by decide +kernel
theorem D_m_alike_17 : decode M_m_alike.2.1 17 = .ok (.ifCond .eq 7, 3) := by decide +kernel
theorem D_m_alike_20 : decode M_m_alike.2.1 20 = .ok (.iload_n 2, 1) := by decide +kernel
theorem D_m_alike_21 : decode M_m_alike.2.1 21 = .ok (.goto 4, 3) := by decide +kernel
theorem D_m_alike_24 : decode M_m_alike.2.1 24 = .ok (.iload_n 1, 1) := by decide +kernel
theorem D_m_alike_25 : decode M_m_alike.2.1 25 = .ok (.istore_n 1, 1) := by decide +kernel
theorem D_m_alike_26 : decode M_m_alike.2.1 26 = .ok (.iinc 2 (-1), 3) := by decide +kernel
theorem D_m_alike_29 : decode M_m_alike.2.1 29 = .ok (.goto (-21), 3) := by decide +kernel
theorem D_m_alike_32 : decode M_m_alike.2.1 32 = .ok (.iload_n 1, 1) := by decide +kernel
theorem D_m_alike_33 : decode M_m_alike.2.1 33 = .ok (.ireturn, 1) := by decide +kernel
theorem D_m_ring_0 : decode M_m_ring.2.1 0 = .ok (.iconst 0, 1) := by decide +kernel
theorem D_m_ring_1 : decode M_m_ring.2.1 1 = .ok (.istore_n 1, 1) := by decide +kernel
theorem D_m_ring_2 : decode M_m_ring.2.1 2 = .ok (.iload_n 1, 1) := by decide +kernel
theorem D_m_ring_3 : decode M_m_ring.2.1 3 = .ok (.aload_n 0, 1) := by decide +kernel
theorem D_m_ring_4 : decode M_m_ring.2.1 4 = .ok (.getfield 66, 3) := by decide +kernel
theorem D_m_ring_7 : decode M_m_ring.2.1 7 = .ok (.if_icmp .ge 65, 3) := by decide +kernel
theorem D_m_ring_10 : decode M_m_ring.2.1 10 = .ok (.aload_n 0, 1) := by decide +kernel
theorem D_m_ring_11 : decode M_m_ring.2.1 11 = .ok (.getfield 51, 3) := by decide +kernel
theorem D_m_ring_14 : decode M_m_ring.2.1 14 = .ok (.iload_n 1, 1) := by decide +kernel
theorem D_m_ring_15 : decode M_m_ring.2.1 15 = .ok (.iconst 0, 1) := by decide +kernel
theorem D_m_ring_16 : decode M_m_ring.2.1 16 = .ok (.iastore, 1) := by decide +kernel
theorem D_m_ring_17 : decode M_m_ring.2.1 17 = .ok (.iconst 0, 1) := by decide +kernel
theorem D_m_ring_18 : decode M_m_ring.2.1 18 = .ok (.istore_n 2, 1) := by decide +kernel
theorem D_m_ring_19 : decode M_m_ring.2.1 19 = .ok (.iload_n 2, 1) := by decide +kernel
theorem D_m_ring_20 : decode M_m_ring.2.1 20 = .ok (.aload_n 0, 1) := by decide +kernel
theorem D_m_ring_21 : decode M_m_ring.2.1 21 = .ok (.getfield 66, 3) := by decide +kernel
theorem D_m_ring_24 : decode M_m_ring.2.1 24 = .ok (.if_icmp .ge 42, 3) := by decide +kernel
theorem D_m_ring_27 : decode M_m_ring.2.1 27 = .ok (.aload_n 0, 1) := by decide +kernel
theorem D_m_ring_28 : decode M_m_ring.2.1 28 = .ok (.getfield 51, 3) := by decide +kernel
theorem D_m_ring_31 : decode M_m_ring.2.1 31 = .ok (.iload_n 1, 1) := by decide +kernel
theorem D_m_ring_32 : decode M_m_ring.2.1 32 = .ok (.dup2, 1) := by decide +kernel
theorem D_m_ring_33 : decode M_m_ring.2.1 33 = .ok (.iaload, 1) := by decide +kernel
theorem D_m_ring_34 : decode M_m_ring.2.1 34 = .ok (.aload_n 0, 1) := by decide +kernel
theorem D_m_ring_35 : decode M_m_ring.2.1 35 = .ok (.getfield 23, 3) := by decide +kernel
theorem D_m_ring_38 : decode M_m_ring.2.1 38 = .ok (.bipush 16, 2) := by decide +kernel
theorem D_m_ring_40 : decode M_m_ring.2.1 40 = .ok (.bipush 6, 2) := by decide +kernel
theorem D_m_ring_42 : decode M_m_ring.2.1 42 = .ok (.iload_n 1, 1) := by decide +kernel
theorem D_m_ring_43 : decode M_m_ring.2.1 43 = .ok (.imul, 1) := by decide +kernel
theorem D_m_ring_44 : decode M_m_ring.2.1 44 = .ok (.iadd, 1) := by decide +kernel
theorem D_m_ring_45 : decode M_m_ring.2.1 45 = .ok (.iload_n 2, 1) := by decide +kernel
theorem D_m_ring_46 : decode M_m_ring.2.1 46 = .ok (.iadd, 1) := by decide +kernel
theorem D_m_ring_47 : decode M_m_ring.2.1 47 = .ok (.iaload, 1) := by decide +kernel
theorem D_m_ring_48 : decode M_m_ring.2.1 48 = .ok (.ifCond .le 9, 3) := by decide +kernel
theorem D_m_ring_51 : decode M_m_ring.2.1 51 = .ok (.iconst 1, 1) := by decide +kernel
theorem D_m_ring_52 : decode M_m_ring.2.1 52 = .ok (.iload_n 2, 1) := by decide +kernel
theorem D_m_ring_53 : decode M_m_ring.2.1 53 = .ok (.ishl, 1) := by decide +kernel
theorem D_m_ring_54 : decode M_m_ring.2.1 54 = .ok (.goto 4, 3) := by decide +kernel
theorem D_m_ring_57 : decode M_m_ring.2.1 57 = .ok (.iconst 0, 1) := by decide +kernel
theorem D_m_ring_58 : decode M_m_ring.2.1 58 = .ok (.ior, 1) := by decide +kernel
theorem D_m_ring_59 : decode M_m_ring.2.1 59 = .ok (.iastore, 1) := by decide +kernel
theorem D_m_ring_60 : decode M_m_ring.2.1 60 = .ok (.iinc 2 1, 3) := by decide +kernel
theorem D_m_ring_63 : decode M_m_ring.2.1 63 = .ok (.goto (-44), 3) := by decide +kernel
theorem D_m_ring_66 : decode M_m_ring.2.1 66 = .ok (.iinc 1 1, 3) := by decide +kernel
theorem D_m_ring_69 : decode M_m_ring.2.1 69 = .ok (.goto (-67), 3) := by decide +kernel
theorem D_m_ring_72 : decode M_m_ring.2.1 72 = .ok (.iconst 0, 1) := by decide +kernel
theorem D_m_ring_73 : decode M_m_ring.2.1 73 = .ok (.istore_n 1, 1) := by decide +kernel
theorem D_m_ring_74 : decode M_m_ring.2.1 74 = .ok (.iload_n 1, 1) := by decide +kernel
theorem D_m_ring_75 : decode M_m_ring.2.1 75 = .ok (.aload_n 0, 1) := by decide +kernel
theorem D_m_ring_76 : decode M_m_ring.2.1 76 = .ok (.getfield 66, 3) := by decide +kernel
theorem D_m_ring_79 : decode M_m_ring.2.1 79 = .ok (.if_icmp .ge 57, 3) := by decide +kernel
theorem D_m_ring_82 : decode M_m_ring.2.1 82 = .ok (.iconst 0, 1) := by decide +kernel
theorem D_m_ring_83 : decode M_m_ring.2.1 83 = .ok (.istore_n 2, 1) := by decide +kernel
theorem D_m_ring_84 : decode M_m_ring.2.1 84 = .ok (.iload_n 2, 1) := by decide +kernel
theorem D_m_ring_85 : decode M_m_ring.2.1 85 = .ok (.aload_n 0, 1) := by decide +kernel
theorem D_m_ring_86 : decode M_m_ring.2.1 86 = .ok (.getfield 66, 3) := by decide +kernel
theorem D_m_ring_89 : decode M_m_ring.2.1 89 = .ok (.if_icmp .ge 41, 3) := by decide +kernel
theorem D_m_ring_92 : decode M_m_ring.2.1 92 = .ok (.aload_n 0, 1) := by decide +kernel
theorem D_m_ring_93 : decode M_m_ring.2.1 93 = .ok (.getfield 51, 3) := by decide +kernel
theorem D_m_ring_96 : decode M_m_ring.2.1 96 = .ok (.iload_n 2, 1) := by decide +kernel
theorem D_m_ring_97 : decode M_m_ring.2.1 97 = .ok (.dup2, 1) := by decide +kernel
theorem D_m_ring_98 : decode M_m_ring.2.1 98 = .ok (.iaload, 1) := by decide +kernel
theorem D_m_ring_99 : decode M_m_ring.2.1 99 = .ok (.aload_n 0, 1) := by decide +kernel
theorem D_m_ring_100 : decode M_m_ring.2.1 100 = .ok (.getfield 51, 3) := by decide +kernel
theorem D_m_ring_103 : decode M_m_ring.2.1 103 = .ok (.iload_n 2, 1) := by decide +kernel
theorem D_m_ring_104 : decode M_m_ring.2.1 104 = .ok (.iaload, 1) := by decide +kernel
theorem D_m_ring_105 : decode M_m_ring.2.1 105 = .ok (.iload_n 1, 1) := by decide +kernel
theorem D_m_ring_106 : decode M_m_ring.2.1 106 = .ok (.invokestatic 187, 3) := by decide +kernel
theorem D_m_ring_109 : decode M_m_ring.2.1 109 = .ok (.ifCond .eq 12, 3) := by decide +kernel
theorem D_m_ring_112 : decode M_m_ring.2.1 112 = .ok (.aload_n 0, 1) := by decide +kernel
theorem D_m_ring_113 : decode M_m_ring.2.1 113 = .ok (.getfield 51, 3) := by decide +kernel
theorem D_m_ring_116 : decode M_m_ring.2.1 116 = .ok (.iload_n 1, 1) := by decide +kernel
theorem D_m_ring_117 : decode M_m_ring.2.1 117 = .ok (.iaload, 1) := by decide +kernel
theorem D_m_ring_118 : decode M_m_ring.2.1 118 = .ok (.goto 4, 3) := by decide +kernel
theorem D_m_ring_121 : decode M_m_ring.2.1 121 = .ok (.iconst 0, 1) := by decide +kernel
theorem D_m_ring_122 : decode M_m_ring.2.1 122 = .ok (.ior, 1) := by decide +kernel
theorem D_m_ring_123 : decode M_m_ring.2.1 123 = .ok (.iastore, 1) := by decide +kernel
theorem D_m_ring_124 : decode M_m_ring.2.1 124 = .ok (.iinc 2 1, 3) := by decide +kernel
theorem D_m_ring_127 : decode M_m_ring.2.1 127 = .ok (.goto (-43), 3) := by decide +kernel
theorem D_m_ring_130 : decode M_m_ring.2.1 130 = .ok (.iinc 1 1, 3) := by decide +kernel
theorem D_m_ring_133 : decode M_m_ring.2.1 133 = .ok (.goto (-59), 3) := by decide +kernel
theorem D_m_ring_136 : decode M_m_ring.2.1 136 = .ok (.iconst 0, 1) := by decide +kernel
theorem D_m_ring_137 : decode M_m_ring.2.1 137 = .ok (.istore_n 1, 1) := by decide +kernel
theorem D_m_ring_138 : decode M_m_ring.2.1 138 = .ok (.iconst 0, 1) := by decide +kernel
theorem D_m_ring_139 : decode M_m_ring.2.1 139 = .ok (.istore_n 2, 1) := by decide +kernel
theorem D_m_ring_140 : decode M_m_ring.2.1 140 = .ok (.iload_n 2, 1) := by decide +kernel
theorem D_m_ring_141 : decode M_m_ring.2.1 141 = .ok (.aload_n 0, 1) := by decide +kernel
theorem D_m_ring_142 : decode M_m_ring.2.1 142 = .ok (.getfield 66, 3) := by decide +kernel
theorem D_m_ring_145 : decode M_m_ring.2.1 145 = .ok (.if_icmp .ge 32, 3) := by decide +kernel
theorem D_m_ring_148 : decode M_m_ring.2.1 148 = .ok (.iload_n 1, 1) := by decide +kernel
theorem D_m_ring_149 : decode M_m_ring.2.1 149 = .ok (.aload_n 0, 1) := by decide +kernel
theorem D_m_ring_150 : decode M_m_ring.2.1 150 = .ok (.getfield 51, 3) := by decide +kernel
theorem D_m_ring_153 : decode M_m_ring.2.1 153 = .ok (.iload_n 2, 1) := by decide +kernel
theorem D_m_ring_154 : decode M_m_ring.2.1 154 = .ok (.iaload, 1) := by decide +kernel
theorem D_m_ring_155 : decode M_m_ring.2.1 155 = .ok (.iload_n 2, 1) := by decide +kernel
theorem D_m_ring_156 : decode M_m_ring.2.1 156 = .ok (.invokestatic 187, 3) := by decide +kernel
theorem D_m_ring_159 : decode M_m_ring.2.1 159 = .ok (.ifCond .eq 9, 3) := by decide +kernel
theorem D_m_ring_162 : decode M_m_ring.2.1 162 = .ok (.iconst 1, 1) := by decide +kernel
theorem D_m_ring_163 : decode M_m_ring.2.1 163 = .ok (.iload_n 2, 1) := by decide +kernel
theorem D_m_ring_164 : decode M_m_ring.2.1 164 = .ok (.ishl, 1) := by decide +kernel
theorem D_m_ring_165 : decode M_m_ring.2.1 165 = .ok (.goto 4, 3) := by decide +kernel
theorem D_m_ring_168 : decode M_m_ring.2.1 168 = .ok (.iconst 0, 1) := by decide +kernel
theorem D_m_ring_169 : decode M_m_ring.2.1 169 = .ok (.ior, 1) := by decide +kernel
theorem D_m_ring_170 : decode M_m_ring.2.1 170 = .ok (.istore_n 1, 1) := by decide +kernel
theorem D_m_ring_171 : decode M_m_ring.2.1 171 = .ok (.iinc 2 1, 3) := by decide +kernel
theorem D_m_ring_174 : decode M_m_ring.2.1 174 = .ok (.goto (-34), 3) := by decide +kernel
theorem D_m_ring_177 : decode M_m_ring.2.1 177 = .ok (.iload_n 1, 1) := by decide +kernel
theorem D_m_ring_178 : decode M_m_ring.2.1 178 = .ok (.ireturn, 1) := by decide +kernel
theorem D_m_now_0 : decode M_m_now.2.1 0 = .ok (.iload_n 1, 1) := by decide +kernel
theorem D_m_now_1 : decode M_m_now.2.1 1 = .ok (.tableswitch 88 0 6 #[43, 43, 43, 43, 50, 78, 83], 43) := by decide +kernel
theorem D_m_now_44 : decode M_m_now.2.1 44 = .ok (.aload_n 0, 1) := by decide +kernel
theorem D_m_now_45 : decode M_m_now.2.1 45 = .ok (.getfield 23, 3) := by decide +kernel
theorem D_m_now_48 : decode M_m_now.2.1 48 = .ok (.iload_n 1, 1) := by decide +kernel
theorem D_m_now_49 : decode M_m_now.2.1 49 = .ok (.iaload, 1) := by decide +kernel
theorem D_m_now_50 : decode M_m_now.2.1 50 = .ok (.ireturn, 1) := by decide +kernel
theorem D_m_now_51 : decode M_m_now.2.1 51 = .ok (.iconst 0, 1) := by decide +kernel
theorem D_m_now_52 : decode M_m_now.2.1 52 = .ok (.istore_n 2, 1) := by decide +kernel
theorem D_m_now_53 : decode M_m_now.2.1 53 = .ok (.iconst 0, 1) := by decide +kernel
theorem D_m_now_54 : decode M_m_now.2.1 54 = .ok (.istore_n 3, 1) := by decide +kernel
theorem D_m_now_55 : decode M_m_now.2.1 55 = .ok (.iload_n 3, 1) := by decide +kernel
theorem D_m_now_56 : decode M_m_now.2.1 56 = .ok (.aload_n 0, 1) := by decide +kernel
theorem D_m_now_57 : decode M_m_now.2.1 57 = .ok (.getfield 66, 3) := by decide +kernel
theorem D_m_now_60 : decode M_m_now.2.1 60 = .ok (.if_icmp .ge 17, 3) := by decide +kernel
theorem D_m_now_63 : decode M_m_now.2.1 63 = .ok (.iload_n 2, 1) := by decide +kernel
theorem D_m_now_64 : decode M_m_now.2.1 64 = .ok (.aload_n 0, 1) := by decide +kernel
theorem D_m_now_65 : decode M_m_now.2.1 65 = .ok (.iload_n 3, 1) := by decide +kernel
theorem D_m_now_66 : decode M_m_now.2.1 66 = .ok (.invokevirtual 158, 3) := by decide +kernel
theorem D_m_now_69 : decode M_m_now.2.1 69 = .ok (.iadd, 1) := by decide +kernel
theorem D_m_now_70 : decode M_m_now.2.1 70 = .ok (.istore_n 2, 1) := by decide +kernel
theorem D_m_now_71 : decode M_m_now.2.1 71 = .ok (.iinc 3 1, 3) := by decide +kernel
theorem D_m_now_74 : decode M_m_now.2.1 74 = .ok (.goto (-19), 3) := by decide +kernel
theorem D_m_now_77 : decode M_m_now.2.1 77 = .ok (.iload_n 2, 1) := by decide +kernel
theorem D_m_now_78 : decode M_m_now.2.1 78 = .ok (.ireturn, 1) := by decide +kernel
theorem D_m_now_79 : decode M_m_now.2.1 79 = .ok (.aload_n 0, 1) := by decide +kernel
theorem D_m_now_80 : decode M_m_now.2.1 80 = .ok (.invokevirtual 190, 3) := by decide +kernel
theorem D_m_now_83 : decode M_m_now.2.1 83 = .ok (.ireturn, 1) := by decide +kernel
theorem D_m_now_84 : decode M_m_now.2.1 84 = .ok (.aload_n 0, 1) := by decide +kernel
theorem D_m_now_85 : decode M_m_now.2.1 85 = .ok (.invokevirtual 194, 3) := by decide +kernel
theorem D_m_now_88 : decode M_m_now.2.1 88 = .ok (.ireturn, 1) := by decide +kernel
theorem D_m_now_89 : decode M_m_now.2.1 89 = .ok (.iconst (-1), 1) := by decide +kernel
theorem D_m_now_90 : decode M_m_now.2.1 90 = .ok (.ireturn, 1) := by decide +kernel
theorem D_m_clicks_0 : decode M_m_clicks.2.1 0 = .ok (.iload_n 1, 1) := by decide +kernel
theorem D_m_clicks_1 : decode M_m_clicks.2.1 1 = .ok (.invokestatic 169, 3) := by decide +kernel
theorem D_m_clicks_4 : decode M_m_clicks.2.1 4 = .ok (.ifCond .eq 11, 3) := by decide +kernel
theorem D_m_clicks_7 : decode M_m_clicks.2.1 7 = .ok (.aload_n 0, 1) := by decide +kernel
theorem D_m_clicks_8 : decode M_m_clicks.2.1 8 = .ok (.iload_n 1, 1) := by decide +kernel
theorem D_m_clicks_9 : decode M_m_clicks.2.1 9 = .ok (.invokevirtual 175, 3) := by decide +kernel
theorem D_m_clicks_12 : decode M_m_clicks.2.1 12 = .ok (.goto 4, 3) := by decide +kernel
theorem D_m_clicks_15 : decode M_m_clicks.2.1 15 = .ok (.iconst (-1), 1) := by decide +kernel
theorem D_m_clicks_16 : decode M_m_clicks.2.1 16 = .ok (.ireturn, 1) := by decide +kernel
theorem D_m_stops_0 : decode M_m_stops.2.1 0 = .ok (.iload_n 1, 1) := by decide +kernel
theorem D_m_stops_1 : decode M_m_stops.2.1 1 = .ok (.invokestatic 169, 3) := by decide +kernel
theorem D_m_stops_4 : decode M_m_stops.2.1 4 = .ok (.ifCond .ne 5, 3) := by decide +kernel
theorem D_m_stops_7 : decode M_m_stops.2.1 7 = .ok (.iconst (-1), 1) := by decide +kernel
theorem D_m_stops_8 : decode M_m_stops.2.1 8 = .ok (.ireturn, 1) := by decide +kernel
theorem D_m_stops_9 : decode M_m_stops.2.1 9 = .ok (.aload_n 0, 1) := by decide +kernel
theorem D_m_stops_10 : decode M_m_stops.2.1 10 = .ok (.getfield 73, 3) := by decide +kernel
theorem D_m_stops_13 : decode M_m_stops.2.1 13 = .ok (.ifCond .ne 8, 3) := by decide +kernel
theorem D_m_stops_16 : decode M_m_stops.2.1 16 = .ok (.bipush (-2), 2) := by decide +kernel
theorem D_m_stops_18 : decode M_m_stops.2.1 18 = .ok (.goto 20, 3) := by decide +kernel
theorem D_m_stops_21 : decode M_m_stops.2.1 21 = .ok (.aload_n 0, 1) := by decide +kernel
theorem D_m_stops_22 : decode M_m_stops.2.1 22 = .ok (.getfield 23, 3) := by decide +kernel
theorem D_m_stops_25 : decode M_m_stops.2.1 25 = .ok (.iconst 0, 1) := by decide +kernel
theorem D_m_stops_26 : decode M_m_stops.2.1 26 = .ok (.iaload, 1) := by decide +kernel
theorem D_m_stops_27 : decode M_m_stops.2.1 27 = .ok (.aload_n 0, 1) := by decide +kernel
theorem D_m_stops_28 : decode M_m_stops.2.1 28 = .ok (.iload_n 1, 1) := by decide +kernel
theorem D_m_stops_29 : decode M_m_stops.2.1 29 = .ok (.invokevirtual 175, 3) := by decide +kernel
theorem D_m_stops_32 : decode M_m_stops.2.1 32 = .ok (.iadd, 1) := by decide +kernel
theorem D_m_stops_33 : decode M_m_stops.2.1 33 = .ok (.aload_n 0, 1) := by decide +kernel
theorem D_m_stops_34 : decode M_m_stops.2.1 34 = .ok (.getfield 73, 3) := by decide +kernel
theorem D_m_stops_37 : decode M_m_stops.2.1 37 = .ok (.irem, 1) := by decide +kernel
theorem D_m_stops_38 : decode M_m_stops.2.1 38 = .ok (.ireturn, 1) := by decide +kernel
theorem D_m_shadeOf_0 : decode M_m_shadeOf.2.1 0 = .ok (.aload_n 0, 1) := by decide +kernel
theorem D_m_shadeOf_1 : decode M_m_shadeOf.2.1 1 = .ok (.iload_n 1, 1) := by decide +kernel
theorem D_m_shadeOf_2 : decode M_m_shadeOf.2.1 2 = .ok (.aload_n 0, 1) := by decide +kernel
theorem D_m_shadeOf_3 : decode M_m_shadeOf.2.1 3 = .ok (.iload_n 2, 1) := by decide +kernel
theorem D_m_shadeOf_4 : decode M_m_shadeOf.2.1 4 = .ok (.invokevirtual 175, 3) := by decide +kernel
theorem D_m_shadeOf_7 : decode M_m_shadeOf.2.1 7 = .ok (.invokevirtual 149, 3) := by decide +kernel
theorem D_m_shadeOf_10 : decode M_m_shadeOf.2.1 10 = .ok (.ireturn, 1) := by decide +kernel
theorem D_m_shade_0 : decode M_m_shade.2.1 0 = .ok (.aload_n 0, 1) := by decide +kernel
theorem D_m_shade_1 : decode M_m_shade.2.1 1 = .ok (.iload_n 1, 1) := by decide +kernel
theorem D_m_shade_2 : decode M_m_shade.2.1 2 = .ok (.invokevirtual 146, 3) := by decide +kernel
theorem D_m_shade_5 : decode M_m_shade.2.1 5 = .ok (.ifCond .eq 19, 3) := by decide +kernel
theorem D_m_shade_8 : decode M_m_shade.2.1 8 = .ok (.iload_n 2, 1) := by decide +kernel
theorem D_m_shade_9 : decode M_m_shade.2.1 9 = .ok (.invokestatic 169, 3) := by decide +kernel
theorem D_m_shade_12 : decode M_m_shade.2.1 12 = .ok (.ifCond .eq 12, 3) := by decide +kernel
theorem D_m_shade_15 : decode M_m_shade.2.1 15 = .ok (.aload_n 0, 1) := by decide +kernel
theorem D_m_shade_16 : decode M_m_shade.2.1 16 = .ok (.iload_n 1, 1) := by decide +kernel
theorem D_m_shade_17 : decode M_m_shade.2.1 17 = .ok (.iload_n 2, 1) := by decide +kernel
theorem D_m_shade_18 : decode M_m_shade.2.1 18 = .ok (.invokevirtual 197, 3) := by decide +kernel
theorem D_m_shade_21 : decode M_m_shade.2.1 21 = .ok (.goto 4, 3) := by decide +kernel
theorem D_m_shade_24 : decode M_m_shade.2.1 24 = .ok (.iconst (-1), 1) := by decide +kernel
theorem D_m_shade_25 : decode M_m_shade.2.1 25 = .ok (.ireturn, 1) := by decide +kernel
theorem D_m_speedsOf_0 : decode M_m_speedsOf.2.1 0 = .ok (.iconst 0, 1) := by decide +kernel
theorem D_m_speedsOf_1 : decode M_m_speedsOf.2.1 1 = .ok (.istore 4, 2) := by decide +kernel
theorem D_m_speedsOf_3 : decode M_m_speedsOf.2.1 3 = .ok (.iconst 1, 1) := by decide +kernel
theorem D_m_speedsOf_4 : decode M_m_speedsOf.2.1 4 = .ok (.istore 5, 2) := by decide +kernel
theorem D_m_speedsOf_6 : decode M_m_speedsOf.2.1 6 = .ok (.iload 5, 2) := by decide +kernel
theorem D_m_speedsOf_8 : decode M_m_speedsOf.2.1 8 = .ok (.iload_n 3, 1) := by decide +kernel
theorem D_m_speedsOf_9 : decode M_m_speedsOf.2.1 9 = .ok (.if_icmp .gt 30, 3) := by decide +kernel
theorem D_m_speedsOf_12 : decode M_m_speedsOf.2.1 12 = .ok (.iload 4, 2) := by decide +kernel
theorem D_m_speedsOf_14 : decode M_m_speedsOf.2.1 14 = .ok (.aload_n 0, 1) := by decide +kernel
theorem D_m_speedsOf_15 : decode M_m_speedsOf.2.1 15 = .ok (.iload_n 1, 1) := by decide +kernel
theorem D_m_speedsOf_16 : decode M_m_speedsOf.2.1 16 = .ok (.iload 5, 2) := by decide +kernel
theorem D_m_speedsOf_18 : decode M_m_speedsOf.2.1 18 = .ok (.invokevirtual 197, 3) := by decide +kernel
theorem D_m_speedsOf_21 : decode M_m_speedsOf.2.1 21 = .ok (.iload_n 2, 1) := by decide +kernel
theorem D_m_speedsOf_22 : decode M_m_speedsOf.2.1 22 = .ok (.if_icmp .ne 7, 3) := by decide +kernel
theorem D_m_speedsOf_25 : decode M_m_speedsOf.2.1 25 = .ok (.iconst 1, 1) := by decide +kernel
theorem D_m_speedsOf_26 : decode M_m_speedsOf.2.1 26 = .ok (.goto 4, 3) := by decide +kernel
theorem D_m_speedsOf_29 : decode M_m_speedsOf.2.1 29 = .ok (.iconst 0, 1) := by decide +kernel
theorem D_m_speedsOf_30 : decode M_m_speedsOf.2.1 30 = .ok (.iadd, 1) := by decide +kernel
theorem D_m_speedsOf_31 : decode M_m_speedsOf.2.1 31 = .ok (.istore 4, 2) := by decide +kernel
theorem D_m_speedsOf_33 : decode M_m_speedsOf.2.1 33 = .ok (.iinc 5 1, 3) := by decide +kernel
theorem D_m_speedsOf_36 : decode M_m_speedsOf.2.1 36 = .ok (.goto (-30), 3) := by decide +kernel
theorem D_m_speedsOf_39 : decode M_m_speedsOf.2.1 39 = .ok (.iload 4, 2) := by decide +kernel
theorem D_m_speedsOf_41 : decode M_m_speedsOf.2.1 41 = .ok (.ireturn, 1) := by decide +kernel
theorem D_m_speeds_0 : decode M_m_speeds.2.1 0 = .ok (.aload_n 0, 1) := by decide +kernel
theorem D_m_speeds_1 : decode M_m_speeds.2.1 1 = .ok (.iload_n 1, 1) := by decide +kernel
theorem D_m_speeds_2 : decode M_m_speeds.2.1 2 = .ok (.invokevirtual 146, 3) := by decide +kernel
theorem D_m_speeds_5 : decode M_m_speeds.2.1 5 = .ok (.ifCond .eq 19, 3) := by decide +kernel
theorem D_m_speeds_8 : decode M_m_speeds.2.1 8 = .ok (.iload_n 2, 1) := by decide +kernel
theorem D_m_speeds_9 : decode M_m_speeds.2.1 9 = .ok (.invokestatic 200, 3) := by decide +kernel
theorem D_m_speeds_12 : decode M_m_speeds.2.1 12 = .ok (.ifCond .eq 12, 3) := by decide +kernel
theorem D_m_speeds_15 : decode M_m_speeds.2.1 15 = .ok (.iload_n 3, 1) := by decide +kernel
theorem D_m_speeds_16 : decode M_m_speeds.2.1 16 = .ok (.iconst 0, 1) := by decide +kernel
theorem D_m_speeds_17 : decode M_m_speeds.2.1 17 = .ok (.iconst 1, 1) := by decide +kernel
theorem D_m_speeds_18 : decode M_m_speeds.2.1 18 = .ok (.invokestatic 69, 3) := by decide +kernel
theorem D_m_speeds_21 : decode M_m_speeds.2.1 21 = .ok (.ifCond .ne 5, 3) := by decide +kernel
theorem D_m_speeds_24 : decode M_m_speeds.2.1 24 = .ok (.iconst (-1), 1) := by decide +kernel
theorem D_m_speeds_25 : decode M_m_speeds.2.1 25 = .ok (.ireturn, 1) := by decide +kernel
theorem D_m_speeds_26 : decode M_m_speeds.2.1 26 = .ok (.iload_n 3, 1) := by decide +kernel
theorem D_m_speeds_27 : decode M_m_speeds.2.1 27 = .ok (.ifCond .ne 12, 3) := by decide +kernel
theorem D_m_speeds_30 : decode M_m_speeds.2.1 30 = .ok (.aload_n 0, 1) := by decide +kernel
theorem D_m_speeds_31 : decode M_m_speeds.2.1 31 = .ok (.iload_n 1, 1) := by decide +kernel
theorem D_m_speeds_32 : decode M_m_speeds.2.1 32 = .ok (.iload_n 2, 1) := by decide +kernel
theorem D_m_speeds_33 : decode M_m_speeds.2.1 33 = .ok (.bipush 60, 2) := by decide +kernel
theorem D_m_speeds_35 : decode M_m_speeds.2.1 35 = .ok (.invokevirtual 203, 3) := by decide +kernel
theorem D_m_speeds_38 : decode M_m_speeds.2.1 38 = .ok (.ireturn, 1) := by decide +kernel
theorem D_m_speeds_39 : decode M_m_speeds.2.1 39 = .ok (.bipush (-9), 2) := by decide +kernel
theorem D_m_speeds_41 : decode M_m_speeds.2.1 41 = .ok (.istore 4, 2) := by decide +kernel
theorem D_m_speeds_43 : decode M_m_speeds.2.1 43 = .ok (.bipush 60, 2) := by decide +kernel
theorem D_m_speeds_45 : decode M_m_speeds.2.1 45 = .ok (.istore 5, 2) := by decide +kernel
theorem D_m_speeds_47 : decode M_m_speeds.2.1 47 = .ok (.iload 5, 2) := by decide +kernel
theorem D_m_speeds_49 : decode M_m_speeds.2.1 49 = .ok (.ifCond .le 29, 3) := by decide +kernel
theorem D_m_speeds_52 : decode M_m_speeds.2.1 52 = .ok (.aload_n 0, 1) := by decide +kernel
theorem D_m_speeds_53 : decode M_m_speeds.2.1 53 = .ok (.iload_n 1, 1) := by decide +kernel
theorem D_m_speeds_54 : decode M_m_speeds.2.1 54 = .ok (.iload 5, 2) := by decide +kernel
theorem D_m_speeds_56 : decode M_m_speeds.2.1 56 = .ok (.invokevirtual 197, 3) := by decide +kernel
theorem D_m_speeds_59 : decode M_m_speeds.2.1 59 = .ok (.iload_n 2, 1) := by decide +kernel
theorem D_m_speeds_60 : decode M_m_speeds.2.1 60 = .ok (.if_icmp .ne 8, 3) := by decide +kernel
theorem D_m_speeds_63 : decode M_m_speeds.2.1 63 = .ok (.iload 5, 2) := by decide +kernel
theorem D_m_speeds_65 : decode M_m_speeds.2.1 65 = .ok (.goto 5, 3) := by decide +kernel
theorem D_m_speeds_68 : decode M_m_speeds.2.1 68 = .ok (.iload 4, 2) := by decide +kernel
theorem D_m_speeds_70 : decode M_m_speeds.2.1 70 = .ok (.istore 4, 2) := by decide +kernel
theorem D_m_speeds_72 : decode M_m_speeds.2.1 72 = .ok (.iinc 5 (-1), 3) := by decide +kernel
theorem D_m_speeds_75 : decode M_m_speeds.2.1 75 = .ok (.goto (-28), 3) := by decide +kernel
theorem D_m_speeds_78 : decode M_m_speeds.2.1 78 = .ok (.iload 4, 2) := by decide +kernel
theorem D_m_speeds_80 : decode M_m_speeds.2.1 80 = .ok (.ireturn, 1) := by decide +kernel
theorem D_m_steps_0 : decode M_m_steps.2.1 0 = .ok (.aload_n 0, 1) := by decide +kernel
theorem D_m_steps_1 : decode M_m_steps.2.1 1 = .ok (.iload_n 1, 1) := by decide +kernel
theorem D_m_steps_2 : decode M_m_steps.2.1 2 = .ok (.invokevirtual 152, 3) := by decide +kernel
theorem D_m_steps_5 : decode M_m_steps.2.1 5 = .ok (.ifCond .eq 27, 3) := by decide +kernel
theorem D_m_steps_8 : decode M_m_steps.2.1 8 = .ok (.iload_n 2, 1) := by decide +kernel
theorem D_m_steps_9 : decode M_m_steps.2.1 9 = .ok (.invokestatic 200, 3) := by decide +kernel
theorem D_m_steps_12 : decode M_m_steps.2.1 12 = .ok (.ifCond .eq 20, 3) := by decide +kernel
theorem D_m_steps_15 : decode M_m_steps.2.1 15 = .ok (.iload_n 3, 1) := by decide +kernel
theorem D_m_steps_16 : decode M_m_steps.2.1 16 = .ok (.invokestatic 169, 3) := by decide +kernel
theorem D_m_steps_19 : decode M_m_steps.2.1 19 = .ok (.ifCond .eq 13, 3) := by decide +kernel
theorem D_m_steps_22 : decode M_m_steps.2.1 22 = .ok (.iload 4, 2) := by decide +kernel
theorem D_m_steps_24 : decode M_m_steps.2.1 24 = .ok (.iconst 0, 1) := by decide +kernel
theorem D_m_steps_25 : decode M_m_steps.2.1 25 = .ok (.iconst 1, 1) := by decide +kernel
theorem D_m_steps_26 : decode M_m_steps.2.1 26 = .ok (.invokestatic 69, 3) := by decide +kernel
theorem D_m_steps_29 : decode M_m_steps.2.1 29 = .ok (.ifCond .ne 5, 3) := by decide +kernel
theorem D_m_steps_32 : decode M_m_steps.2.1 32 = .ok (.iconst (-1), 1) := by decide +kernel
theorem D_m_steps_33 : decode M_m_steps.2.1 33 = .ok (.ireturn, 1) := by decide +kernel
theorem D_m_steps_34 : decode M_m_steps.2.1 34 = .ok (.bipush (-9), 2) := by decide +kernel
theorem D_m_steps_36 : decode M_m_steps.2.1 36 = .ok (.istore 5, 2) := by decide +kernel
theorem D_m_steps_38 : decode M_m_steps.2.1 38 = .ok (.iconst 0, 1) := by decide +kernel
theorem D_m_steps_39 : decode M_m_steps.2.1 39 = .ok (.istore 6, 2) := by decide +kernel
theorem D_m_steps_41 : decode M_m_steps.2.1 41 = .ok (.iconst 0, 1) := by decide +kernel
theorem D_m_steps_42 : decode M_m_steps.2.1 42 = .ok (.istore 7, 2) := by decide +kernel
theorem D_m_steps_44 : decode M_m_steps.2.1 44 = .ok (.iload 7, 2) := by decide +kernel
theorem D_m_steps_46 : decode M_m_steps.2.1 46 = .ok (.aload_n 0, 1) := by decide +kernel
theorem D_m_steps_47 : decode M_m_steps.2.1 47 = .ok (.getfield 73, 3) := by decide +kernel
theorem D_m_steps_50 : decode M_m_steps.2.1 50 = .ok (.if_icmp .ge 135, 3) := by decide +kernel
theorem D_m_steps_53 : decode M_m_steps.2.1 53 = .ok (.iload 7, 2) := by decide +kernel
theorem D_m_steps_55 : decode M_m_steps.2.1 55 = .ok (.aload_n 0, 1) := by decide +kernel
theorem D_m_steps_56 : decode M_m_steps.2.1 56 = .ok (.getfield 23, 3) := by decide +kernel
theorem D_m_steps_59 : decode M_m_steps.2.1 59 = .ok (.iconst 4, 1) := by decide +kernel
theorem D_m_steps_60 : decode M_m_steps.2.1 60 = .ok (.iload_n 1, 1) := by decide +kernel
theorem D_m_steps_61 : decode M_m_steps.2.1 61 = .ok (.iadd, 1) := by decide +kernel
theorem D_m_steps_62 : decode M_m_steps.2.1 62 = .ok (.iaload, 1) := by decide +kernel
theorem D_m_steps_63 : decode M_m_steps.2.1 63 = .ok (.isub, 1) := by decide +kernel
theorem D_m_steps_64 : decode M_m_steps.2.1 64 = .ok (.aload_n 0, 1) := by decide +kernel
theorem D_m_steps_65 : decode M_m_steps.2.1 65 = .ok (.getfield 73, 3) := by decide +kernel
theorem D_m_steps_68 : decode M_m_steps.2.1 68 = .ok (.iadd, 1) := by decide +kernel
theorem D_m_steps_69 : decode M_m_steps.2.1 69 = .ok (.aload_n 0, 1) := by decide +kernel
theorem D_m_steps_70 : decode M_m_steps.2.1 70 = .ok (.getfield 73, 3) := by decide +kernel
theorem D_m_steps_73 : decode M_m_steps.2.1 73 = .ok (.irem, 1) := by decide +kernel
theorem D_m_steps_74 : decode M_m_steps.2.1 74 = .ok (.istore 8, 2) := by decide +kernel
theorem D_m_steps_76 : decode M_m_steps.2.1 76 = .ok (.iload 8, 2) := by decide +kernel
theorem D_m_steps_78 : decode M_m_steps.2.1 78 = .ok (.aload_n 0, 1) := by decide +kernel
theorem D_m_steps_79 : decode M_m_steps.2.1 79 = .ok (.getfield 73, 3) := by decide +kernel
theorem D_m_steps_82 : decode M_m_steps.2.1 82 = .ok (.iload 8, 2) := by decide +kernel
theorem D_m_steps_84 : decode M_m_steps.2.1 84 = .ok (.isub, 1) := by decide +kernel
theorem D_m_steps_85 : decode M_m_steps.2.1 85 = .ok (.if_icmp .ge 8, 3) := by decide +kernel
theorem D_m_steps_88 : decode M_m_steps.2.1 88 = .ok (.iload 8, 2) := by decide +kernel
theorem D_m_steps_90 : decode M_m_steps.2.1 90 = .ok (.goto 10, 3) := by decide +kernel
theorem D_m_steps_93 : decode M_m_steps.2.1 93 = .ok (.aload_n 0, 1) := by decide +kernel
theorem D_m_steps_94 : decode M_m_steps.2.1 94 = .ok (.getfield 73, 3) := by decide +kernel
theorem D_m_steps_97 : decode M_m_steps.2.1 97 = .ok (.iload 8, 2) := by decide +kernel
theorem D_m_steps_99 : decode M_m_steps.2.1 99 = .ok (.isub, 1) := by decide +kernel
theorem D_m_steps_100 : decode M_m_steps.2.1 100 = .ok (.istore 9, 2) := by decide +kernel
theorem D_m_steps_102 : decode M_m_steps.2.1 102 = .ok (.aload_n 0, 1) := by decide +kernel
theorem D_m_steps_103 : decode M_m_steps.2.1 103 = .ok (.iload 7, 2) := by decide +kernel
theorem D_m_steps_105 : decode M_m_steps.2.1 105 = .ok (.invokevirtual 181, 3) := by decide +kernel
theorem D_m_steps_108 : decode M_m_steps.2.1 108 = .ok (.istore 10, 2) := by decide +kernel
theorem D_m_steps_110 : decode M_m_steps.2.1 110 = .ok (.iload 10, 2) := by decide +kernel
theorem D_m_steps_112 : decode M_m_steps.2.1 112 = .ok (.ifCond .lt 9, 3) := by decide +kernel
theorem D_m_steps_115 : decode M_m_steps.2.1 115 = .ok (.iload 10, 2) := by decide +kernel
theorem D_m_steps_117 : decode M_m_steps.2.1 117 = .ok (.iload_n 1, 1) := by decide +kernel
theorem D_m_steps_118 : decode M_m_steps.2.1 118 = .ok (.if_icmp .ne 30, 3) := by decide +kernel
theorem D_m_steps_121 : decode M_m_steps.2.1 121 = .ok (.aload_n 0, 1) := by decide +kernel
theorem D_m_steps_122 : decode M_m_steps.2.1 122 = .ok (.iload 7, 2) := by decide +kernel
theorem D_m_steps_124 : decode M_m_steps.2.1 124 = .ok (.iload_n 3, 1) := by decide +kernel
theorem D_m_steps_125 : decode M_m_steps.2.1 125 = .ok (.invokevirtual 197, 3) := by decide +kernel
theorem D_m_steps_128 : decode M_m_steps.2.1 128 = .ok (.iload_n 2, 1) := by decide +kernel
theorem D_m_steps_129 : decode M_m_steps.2.1 129 = .ok (.if_icmp .ne 19, 3) := by decide +kernel
theorem D_m_steps_132 : decode M_m_steps.2.1 132 = .ok (.iload 5, 2) := by decide +kernel
theorem D_m_steps_134 : decode M_m_steps.2.1 134 = .ok (.ifCond .lt 10, 3) := by decide +kernel
theorem D_m_steps_137 : decode M_m_steps.2.1 137 = .ok (.iload 9, 2) := by decide +kernel
theorem D_m_steps_139 : decode M_m_steps.2.1 139 = .ok (.iload 6, 2) := by decide +kernel
theorem D_m_steps_141 : decode M_m_steps.2.1 141 = .ok (.if_icmp .ge 7, 3) := by decide +kernel
theorem D_m_steps_144 : decode M_m_steps.2.1 144 = .ok (.iconst 1, 1) := by decide +kernel
theorem D_m_steps_145 : decode M_m_steps.2.1 145 = .ok (.goto 4, 3) := by decide +kernel
theorem D_m_steps_148 : decode M_m_steps.2.1 148 = .ok (.iconst 0, 1) := by decide +kernel
theorem D_m_steps_149 : decode M_m_steps.2.1 149 = .ok (.istore 11, 2) := by decide +kernel
theorem D_m_steps_151 : decode M_m_steps.2.1 151 = .ok (.iload 11, 2) := by decide +kernel
theorem D_m_steps_153 : decode M_m_steps.2.1 153 = .ok (.ifCond .eq 8, 3) := by decide +kernel
theorem D_m_steps_156 : decode M_m_steps.2.1 156 = .ok (.iload 7, 2) := by decide +kernel
theorem D_m_steps_158 : decode M_m_steps.2.1 158 = .ok (.goto 5, 3) := by decide +kernel
theorem D_m_steps_161 : decode M_m_steps.2.1 161 = .ok (.iload 5, 2) := by decide +kernel
theorem D_m_steps_163 : decode M_m_steps.2.1 163 = .ok (.istore 5, 2) := by decide +kernel
theorem D_m_steps_165 : decode M_m_steps.2.1 165 = .ok (.iload 11, 2) := by decide +kernel
theorem D_m_steps_167 : decode M_m_steps.2.1 167 = .ok (.ifCond .eq 8, 3) := by decide +kernel
theorem D_m_steps_170 : decode M_m_steps.2.1 170 = .ok (.iload 9, 2) := by decide +kernel
theorem D_m_steps_172 : decode M_m_steps.2.1 172 = .ok (.goto 5, 3) := by decide +kernel
theorem D_m_steps_175 : decode M_m_steps.2.1 175 = .ok (.iload 6, 2) := by decide +kernel
theorem D_m_steps_177 : decode M_m_steps.2.1 177 = .ok (.istore 6, 2) := by decide +kernel
theorem D_m_steps_179 : decode M_m_steps.2.1 179 = .ok (.iinc 7 1, 3) := by decide +kernel
theorem D_m_steps_182 : decode M_m_steps.2.1 182 = .ok (.goto (-138), 3) := by decide +kernel
theorem D_m_steps_185 : decode M_m_steps.2.1 185 = .ok (.iload 5, 2) := by decide +kernel
theorem D_m_steps_187 : decode M_m_steps.2.1 187 = .ok (.ifCond .lt 9, 3) := by decide +kernel
theorem D_m_steps_190 : decode M_m_steps.2.1 190 = .ok (.iload 4, 2) := by decide +kernel
theorem D_m_steps_192 : decode M_m_steps.2.1 192 = .ok (.iconst 1, 1) := by decide +kernel
theorem D_m_steps_193 : decode M_m_steps.2.1 193 = .ok (.if_icmp .ne 8, 3) := by decide +kernel
theorem D_m_steps_196 : decode M_m_steps.2.1 196 = .ok (.iload 5, 2) := by decide +kernel
theorem D_m_steps_198 : decode M_m_steps.2.1 198 = .ok (.goto 5, 3) := by decide +kernel
theorem D_m_steps_201 : decode M_m_steps.2.1 201 = .ok (.iload 6, 2) := by decide +kernel
theorem D_m_steps_203 : decode M_m_steps.2.1 203 = .ok (.ireturn, 1) := by decide +kernel
theorem D_m_chair_0 : decode M_m_chair.2.1 0 = .ok (.iload_n 1, 1) := by decide +kernel
theorem D_m_chair_1 : decode M_m_chair.2.1 1 = .ok (.invokestatic 200, 3) := by decide +kernel
theorem D_m_chair_4 : decode M_m_chair.2.1 4 = .ok (.ifCond .eq 12, 3) := by decide +kernel
theorem D_m_chair_7 : decode M_m_chair.2.1 7 = .ok (.iload_n 2, 1) := by decide +kernel
theorem D_m_chair_8 : decode M_m_chair.2.1 8 = .ok (.iconst 0, 1) := by decide +kernel
theorem D_m_chair_9 : decode M_m_chair.2.1 9 = .ok (.iconst 1, 1) := by decide +kernel
theorem D_m_chair_10 : decode M_m_chair.2.1 10 = .ok (.invokestatic 69, 3) := by decide +kernel
theorem D_m_chair_13 : decode M_m_chair.2.1 13 = .ok (.ifCond .ne 5, 3) := by decide +kernel
theorem D_m_chair_16 : decode M_m_chair.2.1 16 = .ok (.iconst (-1), 1) := by decide +kernel
theorem D_m_chair_17 : decode M_m_chair.2.1 17 = .ok (.ireturn, 1) := by decide +kernel
theorem D_m_chair_18 : decode M_m_chair.2.1 18 = .ok (.bipush (-9), 2) := by decide +kernel
theorem D_m_chair_20 : decode M_m_chair.2.1 20 = .ok (.istore_n 3, 1) := by decide +kernel
theorem D_m_chair_21 : decode M_m_chair.2.1 21 = .ok (.bipush (-9), 2) := by decide +kernel
theorem D_m_chair_23 : decode M_m_chair.2.1 23 = .ok (.istore 4, 2) := by decide +kernel
theorem D_m_chair_25 : decode M_m_chair.2.1 25 = .ok (.iconst 0, 1) := by decide +kernel
theorem D_m_chair_26 : decode M_m_chair.2.1 26 = .ok (.istore 5, 2) := by decide +kernel
theorem D_m_chair_28 : decode M_m_chair.2.1 28 = .ok (.iload 5, 2) := by decide +kernel
theorem D_m_chair_30 : decode M_m_chair.2.1 30 = .ok (.aload_n 0, 1) := by decide +kernel
theorem D_m_chair_31 : decode M_m_chair.2.1 31 = .ok (.getfield 73, 3) := by decide +kernel
theorem D_m_chair_34 : decode M_m_chair.2.1 34 = .ok (.if_icmp .ge 50, 3) := by decide +kernel
theorem D_m_chair_37 : decode M_m_chair.2.1 37 = .ok (.aload_n 0, 1) := by decide +kernel
theorem D_m_chair_38 : decode M_m_chair.2.1 38 = .ok (.iload 5, 2) := by decide +kernel
theorem D_m_chair_40 : decode M_m_chair.2.1 40 = .ok (.iload_n 1, 1) := by decide +kernel
theorem D_m_chair_41 : decode M_m_chair.2.1 41 = .ok (.bipush 60, 2) := by decide +kernel
theorem D_m_chair_43 : decode M_m_chair.2.1 43 = .ok (.invokevirtual 203, 3) := by decide +kernel
theorem D_m_chair_46 : decode M_m_chair.2.1 46 = .ok (.istore 6, 2) := by decide +kernel
theorem D_m_chair_48 : decode M_m_chair.2.1 48 = .ok (.iload 6, 2) := by decide +kernel
theorem D_m_chair_50 : decode M_m_chair.2.1 50 = .ok (.iload 4, 2) := by decide +kernel
theorem D_m_chair_52 : decode M_m_chair.2.1 52 = .ok (.if_icmp .le 8, 3) := by decide +kernel
theorem D_m_chair_55 : decode M_m_chair.2.1 55 = .ok (.iload 5, 2) := by decide +kernel
theorem D_m_chair_57 : decode M_m_chair.2.1 57 = .ok (.goto 4, 3) := by decide +kernel
theorem D_m_chair_60 : decode M_m_chair.2.1 60 = .ok (.iload_n 3, 1) := by decide +kernel
theorem D_m_chair_61 : decode M_m_chair.2.1 61 = .ok (.istore_n 3, 1) := by decide +kernel
theorem D_m_chair_62 : decode M_m_chair.2.1 62 = .ok (.iload 6, 2) := by decide +kernel
theorem D_m_chair_64 : decode M_m_chair.2.1 64 = .ok (.iload 4, 2) := by decide +kernel
theorem D_m_chair_66 : decode M_m_chair.2.1 66 = .ok (.if_icmp .le 8, 3) := by decide +kernel
theorem D_m_chair_69 : decode M_m_chair.2.1 69 = .ok (.iload 6, 2) := by decide +kernel
theorem D_m_chair_71 : decode M_m_chair.2.1 71 = .ok (.goto 5, 3) := by decide +kernel
theorem D_m_chair_74 : decode M_m_chair.2.1 74 = .ok (.iload 4, 2) := by decide +kernel
theorem D_m_chair_76 : decode M_m_chair.2.1 76 = .ok (.istore 4, 2) := by decide +kernel
theorem D_m_chair_78 : decode M_m_chair.2.1 78 = .ok (.iinc 5 1, 3) := by decide +kernel
theorem D_m_chair_81 : decode M_m_chair.2.1 81 = .ok (.goto (-53), 3) := by decide +kernel
theorem D_m_chair_84 : decode M_m_chair.2.1 84 = .ok (.iload_n 2, 1) := by decide +kernel
theorem D_m_chair_85 : decode M_m_chair.2.1 85 = .ok (.ifCond .ne 7, 3) := by decide +kernel
theorem D_m_chair_88 : decode M_m_chair.2.1 88 = .ok (.iload_n 3, 1) := by decide +kernel
theorem D_m_chair_89 : decode M_m_chair.2.1 89 = .ok (.goto 5, 3) := by decide +kernel
theorem D_m_chair_92 : decode M_m_chair.2.1 92 = .ok (.iload 4, 2) := by decide +kernel
theorem D_m_chair_94 : decode M_m_chair.2.1 94 = .ok (.ireturn, 1) := by decide +kernel
theorem D_m_mostYet_0 : decode M_m_mostYet.2.1 0 = .ok (.iconst 0, 1) := by decide +kernel
theorem D_m_mostYet_1 : decode M_m_mostYet.2.1 1 = .ok (.istore_n 1, 1) := by decide +kernel
theorem D_m_mostYet_2 : decode M_m_mostYet.2.1 2 = .ok (.iconst 0, 1) := by decide +kernel
theorem D_m_mostYet_3 : decode M_m_mostYet.2.1 3 = .ok (.istore_n 2, 1) := by decide +kernel
theorem D_m_mostYet_4 : decode M_m_mostYet.2.1 4 = .ok (.iload_n 2, 1) := by decide +kernel
theorem D_m_mostYet_5 : decode M_m_mostYet.2.1 5 = .ok (.bipush 6, 2) := by decide +kernel
theorem D_m_mostYet_7 : decode M_m_mostYet.2.1 7 = .ok (.if_icmp .ge 42, 3) := by decide +kernel
theorem D_m_mostYet_10 : decode M_m_mostYet.2.1 10 = .ok (.iload_n 1, 1) := by decide +kernel
theorem D_m_mostYet_11 : decode M_m_mostYet.2.1 11 = .ok (.aload_n 0, 1) := by decide +kernel
theorem D_m_mostYet_12 : decode M_m_mostYet.2.1 12 = .ok (.getfield 54, 3) := by decide +kernel
theorem D_m_mostYet_15 : decode M_m_mostYet.2.1 15 = .ok (.iload_n 2, 1) := by decide +kernel
theorem D_m_mostYet_16 : decode M_m_mostYet.2.1 16 = .ok (.iaload, 1) := by decide +kernel
theorem D_m_mostYet_17 : decode M_m_mostYet.2.1 17 = .ok (.aload_n 0, 1) := by decide +kernel
theorem D_m_mostYet_18 : decode M_m_mostYet.2.1 18 = .ok (.getfield 57, 3) := by decide +kernel
theorem D_m_mostYet_21 : decode M_m_mostYet.2.1 21 = .ok (.iload_n 2, 1) := by decide +kernel
theorem D_m_mostYet_22 : decode M_m_mostYet.2.1 22 = .ok (.iaload, 1) := by decide +kernel
theorem D_m_mostYet_23 : decode M_m_mostYet.2.1 23 = .ok (.if_icmp .ge 12, 3) := by decide +kernel
theorem D_m_mostYet_26 : decode M_m_mostYet.2.1 26 = .ok (.aload_n 0, 1) := by decide +kernel
theorem D_m_mostYet_27 : decode M_m_mostYet.2.1 27 = .ok (.getfield 54, 3) := by decide +kernel
theorem D_m_mostYet_30 : decode M_m_mostYet.2.1 30 = .ok (.iload_n 2, 1) := by decide +kernel
theorem D_m_mostYet_31 : decode M_m_mostYet.2.1 31 = .ok (.iaload, 1) := by decide +kernel
theorem D_m_mostYet_32 : decode M_m_mostYet.2.1 32 = .ok (.goto 9, 3) := by decide +kernel
theorem D_m_mostYet_35 : decode M_m_mostYet.2.1 35 = .ok (.aload_n 0, 1) := by decide +kernel
theorem D_m_mostYet_36 : decode M_m_mostYet.2.1 36 = .ok (.getfield 57, 3) := by decide +kernel
theorem D_m_mostYet_39 : decode M_m_mostYet.2.1 39 = .ok (.iload_n 2, 1) := by decide +kernel
theorem D_m_mostYet_40 : decode M_m_mostYet.2.1 40 = .ok (.iaload, 1) := by decide +kernel
theorem D_m_mostYet_41 : decode M_m_mostYet.2.1 41 = .ok (.iadd, 1) := by decide +kernel
theorem D_m_mostYet_42 : decode M_m_mostYet.2.1 42 = .ok (.istore_n 1, 1) := by decide +kernel
theorem D_m_mostYet_43 : decode M_m_mostYet.2.1 43 = .ok (.iinc 2 1, 3) := by decide +kernel
theorem D_m_mostYet_46 : decode M_m_mostYet.2.1 46 = .ok (.goto (-42), 3) := by decide +kernel
theorem D_m_mostYet_49 : decode M_m_mostYet.2.1 49 = .ok (.iload_n 1, 1) := by decide +kernel
theorem D_m_mostYet_50 : decode M_m_mostYet.2.1 50 = .ok (.ireturn, 1) := by decide +kernel
theorem D_m_sits_0 : decode M_m_sits.2.1 0 = .ok (.iconst 0, 1) := by decide +kernel
theorem D_m_sits_1 : decode M_m_sits.2.1 1 = .ok (.istore_n 2, 1) := by decide +kernel
theorem D_m_sits_2 : decode M_m_sits.2.1 2 = .ok (.iconst 0, 1) := by decide +kernel
theorem D_m_sits_3 : decode M_m_sits.2.1 3 = .ok (.istore_n 3, 1) := by decide +kernel
theorem D_m_sits_4 : decode M_m_sits.2.1 4 = .ok (.iload_n 3, 1) := by decide +kernel
theorem D_m_sits_5 : decode M_m_sits.2.1 5 = .ok (.bipush 6, 2) := by decide +kernel
theorem D_m_sits_7 : decode M_m_sits.2.1 7 = .ok (.if_icmp .ge 23, 3) := by decide +kernel
theorem D_m_sits_10 : decode M_m_sits.2.1 10 = .ok (.aload_n 0, 1) := by decide +kernel
theorem D_m_sits_11 : decode M_m_sits.2.1 11 = .ok (.getfield 54, 3) := by decide +kernel
theorem D_m_sits_14 : decode M_m_sits.2.1 14 = .ok (.iload_n 3, 1) := by decide +kernel
theorem D_m_sits_15 : decode M_m_sits.2.1 15 = .ok (.iconst 0, 1) := by decide +kernel
theorem D_m_sits_16 : decode M_m_sits.2.1 16 = .ok (.iastore, 1) := by decide +kernel
theorem D_m_sits_17 : decode M_m_sits.2.1 17 = .ok (.aload_n 0, 1) := by decide +kernel
theorem D_m_sits_18 : decode M_m_sits.2.1 18 = .ok (.getfield 57, 3) := by decide +kernel
theorem D_m_sits_21 : decode M_m_sits.2.1 21 = .ok (.iload_n 3, 1) := by decide +kernel
theorem D_m_sits_22 : decode M_m_sits.2.1 22 = .ok (.iconst 0, 1) := by decide +kernel
theorem D_m_sits_23 : decode M_m_sits.2.1 23 = .ok (.iastore, 1) := by decide +kernel
theorem D_m_sits_24 : decode M_m_sits.2.1 24 = .ok (.iinc 3 1, 3) := by decide +kernel
theorem D_m_sits_27 : decode M_m_sits.2.1 27 = .ok (.goto (-23), 3) := by decide +kernel
theorem D_m_sits_30 : decode M_m_sits.2.1 30 = .ok (.iconst 0, 1) := by decide +kernel
theorem D_m_sits_31 : decode M_m_sits.2.1 31 = .ok (.istore_n 3, 1) := by decide +kernel
theorem D_m_sits_32 : decode M_m_sits.2.1 32 = .ok (.iload_n 3, 1) := by decide +kernel
theorem D_m_sits_33 : decode M_m_sits.2.1 33 = .ok (.aload_n 0, 1) := by decide +kernel
theorem D_m_sits_34 : decode M_m_sits.2.1 34 = .ok (.getfield 66, 3) := by decide +kernel
theorem D_m_sits_37 : decode M_m_sits.2.1 37 = .ok (.if_icmp .ge 24, 3) := by decide +kernel
theorem D_m_sits_40 : decode M_m_sits.2.1 40 = .ok (.aload_n 0, 1) := by decide +kernel
theorem D_m_sits_41 : decode M_m_sits.2.1 41 = .ok (.getfield 54, 3) := by decide +kernel
theorem D_m_sits_44 : decode M_m_sits.2.1 44 = .ok (.aload_n 0, 1) := by decide +kernel
theorem D_m_sits_45 : decode M_m_sits.2.1 45 = .ok (.getfield 20, 3) := by decide +kernel
theorem D_m_sits_48 : decode M_m_sits.2.1 48 = .ok (.iload_n 3, 1) := by decide +kernel
theorem D_m_sits_49 : decode M_m_sits.2.1 49 = .ok (.iaload, 1) := by decide +kernel
theorem D_m_sits_50 : decode M_m_sits.2.1 50 = .ok (.dup2, 1) := by decide +kernel
theorem D_m_sits_51 : decode M_m_sits.2.1 51 = .ok (.iaload, 1) := by decide +kernel
theorem D_m_sits_52 : decode M_m_sits.2.1 52 = .ok (.iconst 1, 1) := by decide +kernel
theorem D_m_sits_53 : decode M_m_sits.2.1 53 = .ok (.iadd, 1) := by decide +kernel
theorem D_m_sits_54 : decode M_m_sits.2.1 54 = .ok (.iastore, 1) := by decide +kernel
theorem D_m_sits_55 : decode M_m_sits.2.1 55 = .ok (.iinc 3 1, 3) := by decide +kernel
theorem D_m_sits_58 : decode M_m_sits.2.1 58 = .ok (.goto (-26), 3) := by decide +kernel
theorem D_m_sits_61 : decode M_m_sits.2.1 61 = .ok (.iconst 0, 1) := by decide +kernel
theorem D_m_sits_62 : decode M_m_sits.2.1 62 = .ok (.istore_n 3, 1) := by decide +kernel
theorem D_m_sits_63 : decode M_m_sits.2.1 63 = .ok (.iload_n 3, 1) := by decide +kernel
theorem D_m_sits_64 : decode M_m_sits.2.1 64 = .ok (.aload_n 0, 1) := by decide +kernel
theorem D_m_sits_65 : decode M_m_sits.2.1 65 = .ok (.getfield 73, 3) := by decide +kernel
theorem D_m_sits_68 : decode M_m_sits.2.1 68 = .ok (.if_icmp .ge 24, 3) := by decide +kernel
theorem D_m_sits_71 : decode M_m_sits.2.1 71 = .ok (.aload_n 0, 1) := by decide +kernel
theorem D_m_sits_72 : decode M_m_sits.2.1 72 = .ok (.getfield 57, 3) := by decide +kernel
theorem D_m_sits_75 : decode M_m_sits.2.1 75 = .ok (.aload_n 0, 1) := by decide +kernel
theorem D_m_sits_76 : decode M_m_sits.2.1 76 = .ok (.iload_n 3, 1) := by decide +kernel
theorem D_m_sits_77 : decode M_m_sits.2.1 77 = .ok (.iload_n 1, 1) := by decide +kernel
theorem D_m_sits_78 : decode M_m_sits.2.1 78 = .ok (.invokevirtual 197, 3) := by decide +kernel
theorem D_m_sits_81 : decode M_m_sits.2.1 81 = .ok (.dup2, 1) := by decide +kernel
theorem D_m_sits_82 : decode M_m_sits.2.1 82 = .ok (.iaload, 1) := by decide +kernel
theorem D_m_sits_83 : decode M_m_sits.2.1 83 = .ok (.iconst 1, 1) := by decide +kernel
theorem D_m_sits_84 : decode M_m_sits.2.1 84 = .ok (.iadd, 1) := by decide +kernel
theorem D_m_sits_85 : decode M_m_sits.2.1 85 = .ok (.iastore, 1) := by decide +kernel
theorem D_m_sits_86 : decode M_m_sits.2.1 86 = .ok (.iinc 3 1, 3) := by decide +kernel
theorem D_m_sits_89 : decode M_m_sits.2.1 89 = .ok (.goto (-26), 3) := by decide +kernel
theorem D_m_sits_92 : decode M_m_sits.2.1 92 = .ok (.aload_n 0, 1) := by decide +kernel
theorem D_m_sits_93 : decode M_m_sits.2.1 93 = .ok (.invokevirtual 206, 3) := by decide +kernel
theorem D_m_sits_96 : decode M_m_sits.2.1 96 = .ok (.istore_n 3, 1) := by decide +kernel
theorem D_m_sits_97 : decode M_m_sits.2.1 97 = .ok (.iload_n 3, 1) := by decide +kernel
theorem D_m_sits_98 : decode M_m_sits.2.1 98 = .ok (.istore 4, 2) := by decide +kernel
theorem D_m_sits_100 : decode M_m_sits.2.1 100 = .ok (.iconst 0, 1) := by decide +kernel
theorem D_m_sits_101 : decode M_m_sits.2.1 101 = .ok (.istore 5, 2) := by decide +kernel
theorem D_m_sits_103 : decode M_m_sits.2.1 103 = .ok (.iload 5, 2) := by decide +kernel
theorem D_m_sits_105 : decode M_m_sits.2.1 105 = .ok (.aload_n 0, 1) := by decide +kernel
theorem D_m_sits_106 : decode M_m_sits.2.1 106 = .ok (.getfield 66, 3) := by decide +kernel
theorem D_m_sits_109 : decode M_m_sits.2.1 109 = .ok (.if_icmp .ge 200, 3) := by decide +kernel
theorem D_m_sits_112 : decode M_m_sits.2.1 112 = .ok (.aload_n 0, 1) := by decide +kernel
theorem D_m_sits_113 : decode M_m_sits.2.1 113 = .ok (.getfield 54, 3) := by decide +kernel
theorem D_m_sits_116 : decode M_m_sits.2.1 116 = .ok (.aload_n 0, 1) := by decide +kernel
theorem D_m_sits_117 : decode M_m_sits.2.1 117 = .ok (.getfield 20, 3) := by decide +kernel
theorem D_m_sits_120 : decode M_m_sits.2.1 120 = .ok (.iload 5, 2) := by decide +kernel
theorem D_m_sits_122 : decode M_m_sits.2.1 122 = .ok (.iaload, 1) := by decide +kernel
theorem D_m_sits_123 : decode M_m_sits.2.1 123 = .ok (.dup2, 1) := by decide +kernel
theorem D_m_sits_124 : decode M_m_sits.2.1 124 = .ok (.iaload, 1) := by decide +kernel
theorem D_m_sits_125 : decode M_m_sits.2.1 125 = .ok (.iconst 1, 1) := by decide +kernel
theorem D_m_sits_126 : decode M_m_sits.2.1 126 = .ok (.isub, 1) := by decide +kernel
theorem D_m_sits_127 : decode M_m_sits.2.1 127 = .ok (.iastore, 1) := by decide +kernel
theorem D_m_sits_128 : decode M_m_sits.2.1 128 = .ok (.aload_n 0, 1) := by decide +kernel
theorem D_m_sits_129 : decode M_m_sits.2.1 129 = .ok (.getfield 60, 3) := by decide +kernel
theorem D_m_sits_132 : decode M_m_sits.2.1 132 = .ok (.iload 5, 2) := by decide +kernel
theorem D_m_sits_134 : decode M_m_sits.2.1 134 = .ok (.bipush (-9), 2) := by decide +kernel
theorem D_m_sits_136 : decode M_m_sits.2.1 136 = .ok (.iastore, 1) := by decide +kernel
theorem D_m_sits_137 : decode M_m_sits.2.1 137 = .ok (.iconst 0, 1) := by decide +kernel
theorem D_m_sits_138 : decode M_m_sits.2.1 138 = .ok (.istore 6, 2) := by decide +kernel
theorem D_m_sits_140 : decode M_m_sits.2.1 140 = .ok (.iload 6, 2) := by decide +kernel
theorem D_m_sits_142 : decode M_m_sits.2.1 142 = .ok (.aload_n 0, 1) := by decide +kernel
theorem D_m_sits_143 : decode M_m_sits.2.1 143 = .ok (.getfield 73, 3) := by decide +kernel
theorem D_m_sits_146 : decode M_m_sits.2.1 146 = .ok (.if_icmp .ge 157, 3) := by decide +kernel
theorem D_m_sits_149 : decode M_m_sits.2.1 149 = .ok (.aload_n 0, 1) := by decide +kernel
theorem D_m_sits_150 : decode M_m_sits.2.1 150 = .ok (.getfield 60, 3) := by decide +kernel
theorem D_m_sits_153 : decode M_m_sits.2.1 153 = .ok (.iload 5, 2) := by decide +kernel
theorem D_m_sits_155 : decode M_m_sits.2.1 155 = .ok (.iaload, 1) := by decide +kernel
theorem D_m_sits_156 : decode M_m_sits.2.1 156 = .ok (.ifCond .ge 147, 3) := by decide +kernel
theorem D_m_sits_159 : decode M_m_sits.2.1 159 = .ok (.aload_n 0, 1) := by decide +kernel
theorem D_m_sits_160 : decode M_m_sits.2.1 160 = .ok (.iload 6, 2) := by decide +kernel
theorem D_m_sits_162 : decode M_m_sits.2.1 162 = .ok (.iload_n 1, 1) := by decide +kernel
theorem D_m_sits_163 : decode M_m_sits.2.1 163 = .ok (.invokevirtual 197, 3) := by decide +kernel
theorem D_m_sits_166 : decode M_m_sits.2.1 166 = .ok (.istore 7, 2) := by decide +kernel
theorem D_m_sits_168 : decode M_m_sits.2.1 168 = .ok (.iload_n 2, 1) := by decide +kernel
theorem D_m_sits_169 : decode M_m_sits.2.1 169 = .ok (.iload 6, 2) := by decide +kernel
theorem D_m_sits_171 : decode M_m_sits.2.1 171 = .ok (.invokestatic 187, 3) := by decide +kernel
theorem D_m_sits_174 : decode M_m_sits.2.1 174 = .ok (.ifCond .ne 123, 3) := by decide +kernel
theorem D_m_sits_177 : decode M_m_sits.2.1 177 = .ok (.aload_n 0, 1) := by decide +kernel
theorem D_m_sits_178 : decode M_m_sits.2.1 178 = .ok (.getfield 57, 3) := by decide +kernel
theorem D_m_sits_181 : decode M_m_sits.2.1 181 = .ok (.iload 7, 2) := by decide +kernel
theorem D_m_sits_183 : decode M_m_sits.2.1 183 = .ok (.dup2, 1) := by decide +kernel
theorem D_m_sits_184 : decode M_m_sits.2.1 184 = .ok (.iaload, 1) := by decide +kernel
theorem D_m_sits_185 : decode M_m_sits.2.1 185 = .ok (.iconst 1, 1) := by decide +kernel
theorem D_m_sits_186 : decode M_m_sits.2.1 186 = .ok (.isub, 1) := by decide +kernel
theorem D_m_sits_187 : decode M_m_sits.2.1 187 = .ok (.iastore, 1) := by decide +kernel
theorem D_m_sits_188 : decode M_m_sits.2.1 188 = .ok (.iload 7, 2) := by decide +kernel
theorem D_m_sits_190 : decode M_m_sits.2.1 190 = .ok (.aload_n 0, 1) := by decide +kernel
theorem D_m_sits_191 : decode M_m_sits.2.1 191 = .ok (.getfield 20, 3) := by decide +kernel
theorem D_m_sits_194 : decode M_m_sits.2.1 194 = .ok (.iload 5, 2) := by decide +kernel
theorem D_m_sits_196 : decode M_m_sits.2.1 196 = .ok (.iaload, 1) := by decide +kernel
theorem D_m_sits_197 : decode M_m_sits.2.1 197 = .ok (.if_icmp .ne 7, 3) := by decide +kernel
theorem D_m_sits_200 : decode M_m_sits.2.1 200 = .ok (.iconst 1, 1) := by decide +kernel
theorem D_m_sits_201 : decode M_m_sits.2.1 201 = .ok (.goto 4, 3) := by decide +kernel
theorem D_m_sits_204 : decode M_m_sits.2.1 204 = .ok (.iconst 0, 1) := by decide +kernel
theorem D_m_sits_205 : decode M_m_sits.2.1 205 = .ok (.istore 8, 2) := by decide +kernel
theorem D_m_sits_207 : decode M_m_sits.2.1 207 = .ok (.iload 8, 2) := by decide +kernel
theorem D_m_sits_209 : decode M_m_sits.2.1 209 = .ok (.aload_n 0, 1) := by decide +kernel
theorem D_m_sits_210 : decode M_m_sits.2.1 210 = .ok (.invokevirtual 206, 3) := by decide +kernel
theorem D_m_sits_213 : decode M_m_sits.2.1 213 = .ok (.iadd, 1) := by decide +kernel
theorem D_m_sits_214 : decode M_m_sits.2.1 214 = .ok (.iload 4, 2) := by decide +kernel
theorem D_m_sits_216 : decode M_m_sits.2.1 216 = .ok (.if_icmp .ne 7, 3) := by decide +kernel
theorem D_m_sits_219 : decode M_m_sits.2.1 219 = .ok (.iconst 1, 1) := by decide +kernel
theorem D_m_sits_220 : decode M_m_sits.2.1 220 = .ok (.goto 4, 3) := by decide +kernel
theorem D_m_sits_223 : decode M_m_sits.2.1 223 = .ok (.iconst 0, 1) := by decide +kernel
theorem D_m_sits_224 : decode M_m_sits.2.1 224 = .ok (.istore 9, 2) := by decide +kernel
theorem D_m_sits_226 : decode M_m_sits.2.1 226 = .ok (.aload_n 0, 1) := by decide +kernel
theorem D_m_sits_227 : decode M_m_sits.2.1 227 = .ok (.getfield 60, 3) := by decide +kernel
theorem D_m_sits_230 : decode M_m_sits.2.1 230 = .ok (.iload 5, 2) := by decide +kernel
theorem D_m_sits_232 : decode M_m_sits.2.1 232 = .ok (.iload 9, 2) := by decide +kernel
theorem D_m_sits_234 : decode M_m_sits.2.1 234 = .ok (.ifCond .eq 8, 3) := by decide +kernel
theorem D_m_sits_237 : decode M_m_sits.2.1 237 = .ok (.iload 6, 2) := by decide +kernel
theorem D_m_sits_239 : decode M_m_sits.2.1 239 = .ok (.goto 5, 3) := by decide +kernel
theorem D_m_sits_242 : decode M_m_sits.2.1 242 = .ok (.bipush (-9), 2) := by decide +kernel
theorem D_m_sits_244 : decode M_m_sits.2.1 244 = .ok (.iastore, 1) := by decide +kernel
theorem D_m_sits_245 : decode M_m_sits.2.1 245 = .ok (.aload_n 0, 1) := by decide +kernel
theorem D_m_sits_246 : decode M_m_sits.2.1 246 = .ok (.getfield 57, 3) := by decide +kernel
theorem D_m_sits_249 : decode M_m_sits.2.1 249 = .ok (.iload 7, 2) := by decide +kernel
theorem D_m_sits_251 : decode M_m_sits.2.1 251 = .ok (.dup2, 1) := by decide +kernel
theorem D_m_sits_252 : decode M_m_sits.2.1 252 = .ok (.iaload, 1) := by decide +kernel
theorem D_m_sits_253 : decode M_m_sits.2.1 253 = .ok (.iload 9, 2) := by decide +kernel
theorem D_m_sits_255 : decode M_m_sits.2.1 255 = .ok (.ifCond .eq 7, 3) := by decide +kernel
theorem D_m_sits_258 : decode M_m_sits.2.1 258 = .ok (.iconst 0, 1) := by decide +kernel
theorem D_m_sits_259 : decode M_m_sits.2.1 259 = .ok (.goto 4, 3) := by decide +kernel
theorem D_m_sits_262 : decode M_m_sits.2.1 262 = .ok (.iconst 1, 1) := by decide +kernel
theorem D_m_sits_263 : decode M_m_sits.2.1 263 = .ok (.iadd, 1) := by decide +kernel
theorem D_m_sits_264 : decode M_m_sits.2.1 264 = .ok (.iastore, 1) := by decide +kernel
theorem D_m_sits_265 : decode M_m_sits.2.1 265 = .ok (.iload 4, 2) := by decide +kernel
theorem D_m_sits_267 : decode M_m_sits.2.1 267 = .ok (.iload 9, 2) := by decide +kernel
theorem D_m_sits_269 : decode M_m_sits.2.1 269 = .ok (.ifCond .eq 8, 3) := by decide +kernel
theorem D_m_sits_272 : decode M_m_sits.2.1 272 = .ok (.iload 8, 2) := by decide +kernel
theorem D_m_sits_274 : decode M_m_sits.2.1 274 = .ok (.goto 4, 3) := by decide +kernel
theorem D_m_sits_277 : decode M_m_sits.2.1 277 = .ok (.iconst 0, 1) := by decide +kernel
theorem D_m_sits_278 : decode M_m_sits.2.1 278 = .ok (.isub, 1) := by decide +kernel
theorem D_m_sits_279 : decode M_m_sits.2.1 279 = .ok (.istore 4, 2) := by decide +kernel
theorem D_m_sits_281 : decode M_m_sits.2.1 281 = .ok (.iload_n 2, 1) := by decide +kernel
theorem D_m_sits_282 : decode M_m_sits.2.1 282 = .ok (.iload 9, 2) := by decide +kernel
theorem D_m_sits_284 : decode M_m_sits.2.1 284 = .ok (.ifCond .eq 10, 3) := by decide +kernel
theorem D_m_sits_287 : decode M_m_sits.2.1 287 = .ok (.iconst 1, 1) := by decide +kernel
theorem D_m_sits_288 : decode M_m_sits.2.1 288 = .ok (.iload 6, 2) := by decide +kernel
theorem D_m_sits_290 : decode M_m_sits.2.1 290 = .ok (.ishl, 1) := by decide +kernel
theorem D_m_sits_291 : decode M_m_sits.2.1 291 = .ok (.goto 4, 3) := by decide +kernel
theorem D_m_sits_294 : decode M_m_sits.2.1 294 = .ok (.iconst 0, 1) := by decide +kernel
theorem D_m_sits_295 : decode M_m_sits.2.1 295 = .ok (.ior, 1) := by decide +kernel
theorem D_m_sits_296 : decode M_m_sits.2.1 296 = .ok (.istore_n 2, 1) := by decide +kernel
theorem D_m_sits_297 : decode M_m_sits.2.1 297 = .ok (.iinc 6 1, 3) := by decide +kernel
theorem D_m_sits_300 : decode M_m_sits.2.1 300 = .ok (.goto (-160), 3) := by decide +kernel
theorem D_m_sits_303 : decode M_m_sits.2.1 303 = .ok (.iinc 5 1, 3) := by decide +kernel
theorem D_m_sits_306 : decode M_m_sits.2.1 306 = .ok (.goto (-203), 3) := by decide +kernel
theorem D_m_sits_309 : decode M_m_sits.2.1 309 = .ok (.iload_n 3, 1) := by decide +kernel
theorem D_m_sits_310 : decode M_m_sits.2.1 310 = .ok (.ireturn, 1) := by decide +kernel
theorem D_m_seats_0 : decode M_m_seats.2.1 0 = .ok (.iload_n 1, 1) := by decide +kernel
theorem D_m_seats_1 : decode M_m_seats.2.1 1 = .ok (.invokestatic 169, 3) := by decide +kernel
theorem D_m_seats_4 : decode M_m_seats.2.1 4 = .ok (.ifCond .eq 17, 3) := by decide +kernel
theorem D_m_seats_7 : decode M_m_seats.2.1 7 = .ok (.iload_n 2, 1) := by decide +kernel
theorem D_m_seats_8 : decode M_m_seats.2.1 8 = .ok (.iconst (-1), 1) := by decide +kernel
theorem D_m_seats_9 : decode M_m_seats.2.1 9 = .ok (.aload_n 0, 1) := by decide +kernel
theorem D_m_seats_10 : decode M_m_seats.2.1 10 = .ok (.getfield 66, 3) := by decide +kernel
theorem D_m_seats_13 : decode M_m_seats.2.1 13 = .ok (.iconst 1, 1) := by decide +kernel
theorem D_m_seats_14 : decode M_m_seats.2.1 14 = .ok (.isub, 1) := by decide +kernel
theorem D_m_seats_15 : decode M_m_seats.2.1 15 = .ok (.invokestatic 69, 3) := by decide +kernel
theorem D_m_seats_18 : decode M_m_seats.2.1 18 = .ok (.ifCond .ne 5, 3) := by decide +kernel
theorem D_m_seats_21 : decode M_m_seats.2.1 21 = .ok (.iconst (-1), 1) := by decide +kernel
theorem D_m_seats_22 : decode M_m_seats.2.1 22 = .ok (.ireturn, 1) := by decide +kernel
theorem D_m_seats_23 : decode M_m_seats.2.1 23 = .ok (.aload_n 0, 1) := by decide +kernel
theorem D_m_seats_24 : decode M_m_seats.2.1 24 = .ok (.getfield 73, 3) := by decide +kernel
theorem D_m_seats_27 : decode M_m_seats.2.1 27 = .ok (.ifCond .ne 6, 3) := by decide +kernel
theorem D_m_seats_30 : decode M_m_seats.2.1 30 = .ok (.bipush (-2), 2) := by decide +kernel
theorem D_m_seats_32 : decode M_m_seats.2.1 32 = .ok (.ireturn, 1) := by decide +kernel
theorem D_m_seats_33 : decode M_m_seats.2.1 33 = .ok (.aload_n 0, 1) := by decide +kernel
theorem D_m_seats_34 : decode M_m_seats.2.1 34 = .ok (.iload_n 1, 1) := by decide +kernel
theorem D_m_seats_35 : decode M_m_seats.2.1 35 = .ok (.invokevirtual 209, 3) := by decide +kernel
theorem D_m_seats_38 : decode M_m_seats.2.1 38 = .ok (.istore_n 3, 1) := by decide +kernel
theorem D_m_seats_39 : decode M_m_seats.2.1 39 = .ok (.iload_n 2, 1) := by decide +kernel
theorem D_m_seats_40 : decode M_m_seats.2.1 40 = .ok (.ifCond .ge 7, 3) := by decide +kernel
theorem D_m_seats_43 : decode M_m_seats.2.1 43 = .ok (.iload_n 3, 1) := by decide +kernel
theorem D_m_seats_44 : decode M_m_seats.2.1 44 = .ok (.goto 9, 3) := by decide +kernel
theorem D_m_seats_47 : decode M_m_seats.2.1 47 = .ok (.aload_n 0, 1) := by decide +kernel
theorem D_m_seats_48 : decode M_m_seats.2.1 48 = .ok (.getfield 60, 3) := by decide +kernel
theorem D_m_seats_51 : decode M_m_seats.2.1 51 = .ok (.iload_n 2, 1) := by decide +kernel
theorem D_m_seats_52 : decode M_m_seats.2.1 52 = .ok (.iaload, 1) := by decide +kernel
theorem D_m_seats_53 : decode M_m_seats.2.1 53 = .ok (.ireturn, 1) := by decide +kernel
theorem D_m_lowest_0 : decode M_m_lowest.2.1 0 = .ok (.iload_n 0, 1) := by decide +kernel
theorem D_m_lowest_1 : decode M_m_lowest.2.1 1 = .ok (.istore_n 3, 1) := by decide +kernel
theorem D_m_lowest_2 : decode M_m_lowest.2.1 2 = .ok (.iload_n 1, 1) := by decide +kernel
theorem D_m_lowest_3 : decode M_m_lowest.2.1 3 = .ok (.istore 4, 2) := by decide +kernel
theorem D_m_lowest_5 : decode M_m_lowest.2.1 5 = .ok (.iload 4, 2) := by decide +kernel
theorem D_m_lowest_7 : decode M_m_lowest.2.1 7 = .ok (.ifCond .le 19, 3) := by decide +kernel
theorem D_m_lowest_10 : decode M_m_lowest.2.1 10 = .ok (.iload_n 3, 1) := by decide +kernel
theorem D_m_lowest_11 : decode M_m_lowest.2.1 11 = .ok (.iload 4, 2) := by decide +kernel
theorem D_m_lowest_13 : decode M_m_lowest.2.1 13 = .ok (.irem, 1) := by decide +kernel
theorem D_m_lowest_14 : decode M_m_lowest.2.1 14 = .ok (.istore 5, 2) := by decide +kernel
theorem D_m_lowest_16 : decode M_m_lowest.2.1 16 = .ok (.iload 4, 2) := by decide +kernel
theorem D_m_lowest_18 : decode M_m_lowest.2.1 18 = .ok (.istore_n 3, 1) := by decide +kernel
theorem D_m_lowest_19 : decode M_m_lowest.2.1 19 = .ok (.iload 5, 2) := by decide +kernel
theorem D_m_lowest_21 : decode M_m_lowest.2.1 21 = .ok (.istore 4, 2) := by decide +kernel
theorem D_m_lowest_23 : decode M_m_lowest.2.1 23 = .ok (.goto (-18), 3) := by decide +kernel
theorem D_m_lowest_26 : decode M_m_lowest.2.1 26 = .ok (.iload_n 2, 1) := by decide +kernel
theorem D_m_lowest_27 : decode M_m_lowest.2.1 27 = .ok (.ifCond .ne 7, 3) := by decide +kernel
theorem D_m_lowest_30 : decode M_m_lowest.2.1 30 = .ok (.iload_n 0, 1) := by decide +kernel
theorem D_m_lowest_31 : decode M_m_lowest.2.1 31 = .ok (.goto 4, 3) := by decide +kernel
theorem D_m_lowest_34 : decode M_m_lowest.2.1 34 = .ok (.iload_n 1, 1) := by decide +kernel
theorem D_m_lowest_35 : decode M_m_lowest.2.1 35 = .ok (.iload_n 3, 1) := by decide +kernel
theorem D_m_lowest_36 : decode M_m_lowest.2.1 36 = .ok (.idiv, 1) := by decide +kernel
theorem D_m_lowest_37 : decode M_m_lowest.2.1 37 = .ok (.ireturn, 1) := by decide +kernel
theorem D_m_odds_0 : decode M_m_odds.2.1 0 = .ok (.aload_n 0, 1) := by decide +kernel
theorem D_m_odds_1 : decode M_m_odds.2.1 1 = .ok (.iload_n 1, 1) := by decide +kernel
theorem D_m_odds_2 : decode M_m_odds.2.1 2 = .ok (.invokevirtual 146, 3) := by decide +kernel
theorem D_m_odds_5 : decode M_m_odds.2.1 5 = .ok (.ifCond .eq 38, 3) := by decide +kernel
theorem D_m_odds_8 : decode M_m_odds.2.1 8 = .ok (.iload_n 2, 1) := by decide +kernel
theorem D_m_odds_9 : decode M_m_odds.2.1 9 = .ok (.invokestatic 200, 3) := by decide +kernel
theorem D_m_odds_12 : decode M_m_odds.2.1 12 = .ok (.ifCond .eq 31, 3) := by decide +kernel
theorem D_m_odds_15 : decode M_m_odds.2.1 15 = .ok (.iload_n 3, 1) := by decide +kernel
theorem D_m_odds_16 : decode M_m_odds.2.1 16 = .ok (.invokestatic 169, 3) := by decide +kernel
theorem D_m_odds_19 : decode M_m_odds.2.1 19 = .ok (.ifCond .eq 24, 3) := by decide +kernel
theorem D_m_odds_22 : decode M_m_odds.2.1 22 = .ok (.iload 4, 2) := by decide +kernel
theorem D_m_odds_24 : decode M_m_odds.2.1 24 = .ok (.iconst 0, 1) := by decide +kernel
theorem D_m_odds_25 : decode M_m_odds.2.1 25 = .ok (.bipush 10, 2) := by decide +kernel
theorem D_m_odds_27 : decode M_m_odds.2.1 27 = .ok (.invokestatic 69, 3) := by decide +kernel
theorem D_m_odds_30 : decode M_m_odds.2.1 30 = .ok (.ifCond .eq 13, 3) := by decide +kernel
theorem D_m_odds_33 : decode M_m_odds.2.1 33 = .ok (.iload 5, 2) := by decide +kernel
theorem D_m_odds_35 : decode M_m_odds.2.1 35 = .ok (.iconst 0, 1) := by decide +kernel
theorem D_m_odds_36 : decode M_m_odds.2.1 36 = .ok (.iconst 1, 1) := by decide +kernel
theorem D_m_odds_37 : decode M_m_odds.2.1 37 = .ok (.invokestatic 69, 3) := by decide +kernel
theorem D_m_odds_40 : decode M_m_odds.2.1 40 = .ok (.ifCond .ne 5, 3) := by decide +kernel
theorem D_m_odds_43 : decode M_m_odds.2.1 43 = .ok (.iconst (-1), 1) := by decide +kernel
theorem D_m_odds_44 : decode M_m_odds.2.1 44 = .ok (.ireturn, 1) := by decide +kernel
theorem D_m_odds_45 : decode M_m_odds.2.1 45 = .ok (.bipush 10, 2) := by decide +kernel
theorem D_m_odds_47 : decode M_m_odds.2.1 47 = .ok (.iload 4, 2) := by decide +kernel
theorem D_m_odds_49 : decode M_m_odds.2.1 49 = .ok (.isub, 1) := by decide +kernel
theorem D_m_odds_50 : decode M_m_odds.2.1 50 = .ok (.aload_n 0, 1) := by decide +kernel
theorem D_m_odds_51 : decode M_m_odds.2.1 51 = .ok (.iload_n 1, 1) := by decide +kernel
theorem D_m_odds_52 : decode M_m_odds.2.1 52 = .ok (.iload_n 2, 1) := by decide +kernel
theorem D_m_odds_53 : decode M_m_odds.2.1 53 = .ok (.iload_n 3, 1) := by decide +kernel
theorem D_m_odds_54 : decode M_m_odds.2.1 54 = .ok (.invokevirtual 203, 3) := by decide +kernel
theorem D_m_odds_57 : decode M_m_odds.2.1 57 = .ok (.imul, 1) := by decide +kernel
theorem D_m_odds_58 : decode M_m_odds.2.1 58 = .ok (.iload_n 2, 1) := by decide +kernel
theorem D_m_odds_59 : decode M_m_odds.2.1 59 = .ok (.ifCond .ne 10, 3) := by decide +kernel
theorem D_m_odds_62 : decode M_m_odds.2.1 62 = .ok (.iload 4, 2) := by decide +kernel
theorem D_m_odds_64 : decode M_m_odds.2.1 64 = .ok (.iload_n 3, 1) := by decide +kernel
theorem D_m_odds_65 : decode M_m_odds.2.1 65 = .ok (.imul, 1) := by decide +kernel
theorem D_m_odds_66 : decode M_m_odds.2.1 66 = .ok (.goto 4, 3) := by decide +kernel
theorem D_m_odds_69 : decode M_m_odds.2.1 69 = .ok (.iconst 0, 1) := by decide +kernel
theorem D_m_odds_70 : decode M_m_odds.2.1 70 = .ok (.iadd, 1) := by decide +kernel
theorem D_m_odds_71 : decode M_m_odds.2.1 71 = .ok (.istore 6, 2) := by decide +kernel
theorem D_m_odds_73 : decode M_m_odds.2.1 73 = .ok (.iload 6, 2) := by decide +kernel
theorem D_m_odds_75 : decode M_m_odds.2.1 75 = .ok (.bipush 10, 2) := by decide +kernel
theorem D_m_odds_77 : decode M_m_odds.2.1 77 = .ok (.iload_n 3, 1) := by decide +kernel
theorem D_m_odds_78 : decode M_m_odds.2.1 78 = .ok (.imul, 1) := by decide +kernel
theorem D_m_odds_79 : decode M_m_odds.2.1 79 = .ok (.iload 5, 2) := by decide +kernel
theorem D_m_odds_81 : decode M_m_odds.2.1 81 = .ok (.invokestatic 212, 3) := by decide +kernel
theorem D_m_odds_84 : decode M_m_odds.2.1 84 = .ok (.ireturn, 1) := by decide +kernel
theorem D_m_saw_0 : decode M_m_saw.2.1 0 = .ok (.aload_n 0, 1) := by decide +kernel
theorem D_m_saw_1 : decode M_m_saw.2.1 1 = .ok (.iload_n 1, 1) := by decide +kernel
theorem D_m_saw_2 : decode M_m_saw.2.1 2 = .ok (.invokevirtual 146, 3) := by decide +kernel
theorem D_m_saw_5 : decode M_m_saw.2.1 5 = .ok (.ifCond .eq 10, 3) := by decide +kernel
theorem D_m_saw_8 : decode M_m_saw.2.1 8 = .ok (.iload_n 2, 1) := by decide +kernel
theorem D_m_saw_9 : decode M_m_saw.2.1 9 = .ok (.invokestatic 200, 3) := by decide +kernel
theorem D_m_saw_12 : decode M_m_saw.2.1 12 = .ok (.ifCond .ne 5, 3) := by decide +kernel
theorem D_m_saw_15 : decode M_m_saw.2.1 15 = .ok (.iconst (-1), 1) := by decide +kernel
theorem D_m_saw_16 : decode M_m_saw.2.1 16 = .ok (.ireturn, 1) := by decide +kernel
theorem D_m_saw_17 : decode M_m_saw.2.1 17 = .ok (.aload_n 0, 1) := by decide +kernel
theorem D_m_saw_18 : decode M_m_saw.2.1 18 = .ok (.getfield 140, 3) := by decide +kernel
theorem D_m_saw_21 : decode M_m_saw.2.1 21 = .ok (.bipush 6, 2) := by decide +kernel
theorem D_m_saw_23 : decode M_m_saw.2.1 23 = .ok (.if_icmp .ne 6, 3) := by decide +kernel
theorem D_m_saw_26 : decode M_m_saw.2.1 26 = .ok (.bipush (-3), 2) := by decide +kernel
theorem D_m_saw_28 : decode M_m_saw.2.1 28 = .ok (.ireturn, 1) := by decide +kernel
theorem D_m_saw_29 : decode M_m_saw.2.1 29 = .ok (.aload_n 0, 1) := by decide +kernel
theorem D_m_saw_30 : decode M_m_saw.2.1 30 = .ok (.getfield 33, 3) := by decide +kernel
theorem D_m_saw_33 : decode M_m_saw.2.1 33 = .ok (.iconst 2, 1) := by decide +kernel
theorem D_m_saw_34 : decode M_m_saw.2.1 34 = .ok (.aload_n 0, 1) := by decide +kernel
theorem D_m_saw_35 : decode M_m_saw.2.1 35 = .ok (.getfield 140, 3) := by decide +kernel
theorem D_m_saw_38 : decode M_m_saw.2.1 38 = .ok (.imul, 1) := by decide +kernel
theorem D_m_saw_39 : decode M_m_saw.2.1 39 = .ok (.iload_n 1, 1) := by decide +kernel
theorem D_m_saw_40 : decode M_m_saw.2.1 40 = .ok (.iastore, 1) := by decide +kernel
theorem D_m_saw_41 : decode M_m_saw.2.1 41 = .ok (.aload_n 0, 1) := by decide +kernel
theorem D_m_saw_42 : decode M_m_saw.2.1 42 = .ok (.getfield 33, 3) := by decide +kernel
theorem D_m_saw_45 : decode M_m_saw.2.1 45 = .ok (.iconst 2, 1) := by decide +kernel
theorem D_m_saw_46 : decode M_m_saw.2.1 46 = .ok (.aload_n 0, 1) := by decide +kernel
theorem D_m_saw_47 : decode M_m_saw.2.1 47 = .ok (.getfield 140, 3) := by decide +kernel
theorem D_m_saw_50 : decode M_m_saw.2.1 50 = .ok (.imul, 1) := by decide +kernel
theorem D_m_saw_51 : decode M_m_saw.2.1 51 = .ok (.iconst 1, 1) := by decide +kernel
theorem D_m_saw_52 : decode M_m_saw.2.1 52 = .ok (.iadd, 1) := by decide +kernel
theorem D_m_saw_53 : decode M_m_saw.2.1 53 = .ok (.iload_n 2, 1) := by decide +kernel
theorem D_m_saw_54 : decode M_m_saw.2.1 54 = .ok (.iastore, 1) := by decide +kernel
theorem D_m_saw_55 : decode M_m_saw.2.1 55 = .ok (.aload_n 0, 1) := by decide +kernel
theorem D_m_saw_56 : decode M_m_saw.2.1 56 = .ok (.dup, 1) := by decide +kernel
theorem D_m_saw_57 : decode M_m_saw.2.1 57 = .ok (.getfield 140, 3) := by decide +kernel
theorem D_m_saw_60 : decode M_m_saw.2.1 60 = .ok (.iconst 1, 1) := by decide +kernel
theorem D_m_saw_61 : decode M_m_saw.2.1 61 = .ok (.iadd, 1) := by decide +kernel
theorem D_m_saw_62 : decode M_m_saw.2.1 62 = .ok (.putfield 140, 3) := by decide +kernel
theorem D_m_saw_65 : decode M_m_saw.2.1 65 = .ok (.aload_n 0, 1) := by decide +kernel
theorem D_m_saw_66 : decode M_m_saw.2.1 66 = .ok (.getfield 140, 3) := by decide +kernel
theorem D_m_saw_69 : decode M_m_saw.2.1 69 = .ok (.ireturn, 1) := by decide +kernel
theorem D_m_isSeen_0 : decode M_m_isSeen.2.1 0 = .ok (.iconst 1, 1) := by decide +kernel
theorem D_m_isSeen_1 : decode M_m_isSeen.2.1 1 = .ok (.istore_n 2, 1) := by decide +kernel
theorem D_m_isSeen_2 : decode M_m_isSeen.2.1 2 = .ok (.iconst 0, 1) := by decide +kernel
theorem D_m_isSeen_3 : decode M_m_isSeen.2.1 3 = .ok (.istore_n 3, 1) := by decide +kernel
theorem D_m_isSeen_4 : decode M_m_isSeen.2.1 4 = .ok (.iload_n 3, 1) := by decide +kernel
theorem D_m_isSeen_5 : decode M_m_isSeen.2.1 5 = .ok (.aload_n 0, 1) := by decide +kernel
theorem D_m_isSeen_6 : decode M_m_isSeen.2.1 6 = .ok (.getfield 140, 3) := by decide +kernel
theorem D_m_isSeen_9 : decode M_m_isSeen.2.1 9 = .ok (.if_icmp .ge 45, 3) := by decide +kernel
theorem D_m_isSeen_12 : decode M_m_isSeen.2.1 12 = .ok (.iload_n 2, 1) := by decide +kernel
theorem D_m_isSeen_13 : decode M_m_isSeen.2.1 13 = .ok (.ifCond .eq 33, 3) := by decide +kernel
theorem D_m_isSeen_16 : decode M_m_isSeen.2.1 16 = .ok (.aload_n 0, 1) := by decide +kernel
theorem D_m_isSeen_17 : decode M_m_isSeen.2.1 17 = .ok (.aload_n 0, 1) := by decide +kernel
theorem D_m_isSeen_18 : decode M_m_isSeen.2.1 18 = .ok (.getfield 33, 3) := by decide +kernel
theorem D_m_isSeen_21 : decode M_m_isSeen.2.1 21 = .ok (.iconst 2, 1) := by decide +kernel
theorem D_m_isSeen_22 : decode M_m_isSeen.2.1 22 = .ok (.iload_n 3, 1) := by decide +kernel
theorem D_m_isSeen_23 : decode M_m_isSeen.2.1 23 = .ok (.imul, 1) := by decide +kernel
theorem D_m_isSeen_24 : decode M_m_isSeen.2.1 24 = .ok (.iaload, 1) := by decide +kernel
theorem D_m_isSeen_25 : decode M_m_isSeen.2.1 25 = .ok (.iload_n 1, 1) := by decide +kernel
theorem D_m_isSeen_26 : decode M_m_isSeen.2.1 26 = .ok (.invokevirtual 197, 3) := by decide +kernel
theorem D_m_isSeen_29 : decode M_m_isSeen.2.1 29 = .ok (.aload_n 0, 1) := by decide +kernel
theorem D_m_isSeen_30 : decode M_m_isSeen.2.1 30 = .ok (.getfield 33, 3) := by decide +kernel
theorem D_m_isSeen_33 : decode M_m_isSeen.2.1 33 = .ok (.iconst 2, 1) := by decide +kernel
theorem D_m_isSeen_34 : decode M_m_isSeen.2.1 34 = .ok (.iload_n 3, 1) := by decide +kernel
theorem D_m_isSeen_35 : decode M_m_isSeen.2.1 35 = .ok (.imul, 1) := by decide +kernel
theorem D_m_isSeen_36 : decode M_m_isSeen.2.1 36 = .ok (.iconst 1, 1) := by decide +kernel
theorem D_m_isSeen_37 : decode M_m_isSeen.2.1 37 = .ok (.iadd, 1) := by decide +kernel
theorem D_m_isSeen_38 : decode M_m_isSeen.2.1 38 = .ok (.iaload, 1) := by decide +kernel
theorem D_m_isSeen_39 : decode M_m_isSeen.2.1 39 = .ok (.if_icmp .ne 7, 3) := by decide +kernel
theorem D_m_isSeen_42 : decode M_m_isSeen.2.1 42 = .ok (.iconst 1, 1) := by decide +kernel
theorem D_m_isSeen_43 : decode M_m_isSeen.2.1 43 = .ok (.goto 4, 3) := by decide +kernel
theorem D_m_isSeen_46 : decode M_m_isSeen.2.1 46 = .ok (.iconst 0, 1) := by decide +kernel
theorem D_m_isSeen_47 : decode M_m_isSeen.2.1 47 = .ok (.istore_n 2, 1) := by decide +kernel
theorem D_m_isSeen_48 : decode M_m_isSeen.2.1 48 = .ok (.iinc 3 1, 3) := by decide +kernel
theorem D_m_isSeen_51 : decode M_m_isSeen.2.1 51 = .ok (.goto (-47), 3) := by decide +kernel
theorem D_m_isSeen_54 : decode M_m_isSeen.2.1 54 = .ok (.iload_n 2, 1) := by decide +kernel
theorem D_m_isSeen_55 : decode M_m_isSeen.2.1 55 = .ok (.ireturn, 1) := by decide +kernel
theorem D_m_spun_0 : decode M_m_spun.2.1 0 = .ok (.iload_n 1, 1) := by decide +kernel
theorem D_m_spun_1 : decode M_m_spun.2.1 1 = .ok (.iconst 0, 1) := by decide +kernel
theorem D_m_spun_2 : decode M_m_spun.2.1 2 = .ok (.iconst 2, 1) := by decide +kernel
theorem D_m_spun_3 : decode M_m_spun.2.1 3 = .ok (.invokestatic 69, 3) := by decide +kernel
theorem D_m_spun_6 : decode M_m_spun.2.1 6 = .ok (.ifCond .ne 5, 3) := by decide +kernel
theorem D_m_spun_9 : decode M_m_spun.2.1 9 = .ok (.iconst (-1), 1) := by decide +kernel
theorem D_m_spun_10 : decode M_m_spun.2.1 10 = .ok (.ireturn, 1) := by decide +kernel
theorem D_m_spun_11 : decode M_m_spun.2.1 11 = .ok (.iconst 0, 1) := by decide +kernel
theorem D_m_spun_12 : decode M_m_spun.2.1 12 = .ok (.istore_n 2, 1) := by decide +kernel
theorem D_m_spun_13 : decode M_m_spun.2.1 13 = .ok (.bipush (-9), 2) := by decide +kernel
theorem D_m_spun_15 : decode M_m_spun.2.1 15 = .ok (.istore_n 3, 1) := by decide +kernel
theorem D_m_spun_16 : decode M_m_spun.2.1 16 = .ok (.bipush (-9), 2) := by decide +kernel
theorem D_m_spun_18 : decode M_m_spun.2.1 18 = .ok (.istore 4, 2) := by decide +kernel
theorem D_m_spun_20 : decode M_m_spun.2.1 20 = .ok (.iconst 1, 1) := by decide +kernel
theorem D_m_spun_21 : decode M_m_spun.2.1 21 = .ok (.istore 5, 2) := by decide +kernel
theorem D_m_spun_23 : decode M_m_spun.2.1 23 = .ok (.iload 5, 2) := by decide +kernel
theorem D_m_spun_25 : decode M_m_spun.2.1 25 = .ok (.bipush 60, 2) := by decide +kernel
theorem D_m_spun_27 : decode M_m_spun.2.1 27 = .ok (.if_icmp .gt 36, 3) := by decide +kernel
theorem D_m_spun_30 : decode M_m_spun.2.1 30 = .ok (.aload_n 0, 1) := by decide +kernel
theorem D_m_spun_31 : decode M_m_spun.2.1 31 = .ok (.iload 5, 2) := by decide +kernel
theorem D_m_spun_33 : decode M_m_spun.2.1 33 = .ok (.invokevirtual 215, 3) := by decide +kernel
theorem D_m_spun_36 : decode M_m_spun.2.1 36 = .ok (.ifCond .eq 21, 3) := by decide +kernel
theorem D_m_spun_39 : decode M_m_spun.2.1 39 = .ok (.iload_n 2, 1) := by decide +kernel
theorem D_m_spun_40 : decode M_m_spun.2.1 40 = .ok (.ifCond .ne 8, 3) := by decide +kernel
theorem D_m_spun_43 : decode M_m_spun.2.1 43 = .ok (.iload 5, 2) := by decide +kernel
theorem D_m_spun_45 : decode M_m_spun.2.1 45 = .ok (.goto 4, 3) := by decide +kernel
theorem D_m_spun_48 : decode M_m_spun.2.1 48 = .ok (.iload_n 3, 1) := by decide +kernel
theorem D_m_spun_49 : decode M_m_spun.2.1 49 = .ok (.istore_n 3, 1) := by decide +kernel
theorem D_m_spun_50 : decode M_m_spun.2.1 50 = .ok (.iload 5, 2) := by decide +kernel
theorem D_m_spun_52 : decode M_m_spun.2.1 52 = .ok (.istore 4, 2) := by decide +kernel
theorem D_m_spun_54 : decode M_m_spun.2.1 54 = .ok (.iinc 2 1, 3) := by decide +kernel
theorem D_m_spun_57 : decode M_m_spun.2.1 57 = .ok (.iinc 5 1, 3) := by decide +kernel
theorem D_m_spun_60 : decode M_m_spun.2.1 60 = .ok (.goto (-37), 3) := by decide +kernel
theorem D_m_spun_63 : decode M_m_spun.2.1 63 = .ok (.iload_n 1, 1) := by decide +kernel
theorem D_m_spun_64 : decode M_m_spun.2.1 64 = .ok (.ifCond .ne 7, 3) := by decide +kernel
theorem D_m_spun_67 : decode M_m_spun.2.1 67 = .ok (.iload_n 2, 1) := by decide +kernel
theorem D_m_spun_68 : decode M_m_spun.2.1 68 = .ok (.goto 14, 3) := by decide +kernel
theorem D_m_spun_71 : decode M_m_spun.2.1 71 = .ok (.iload_n 1, 1) := by decide +kernel
theorem D_m_spun_72 : decode M_m_spun.2.1 72 = .ok (.iconst 1, 1) := by decide +kernel
theorem D_m_spun_73 : decode M_m_spun.2.1 73 = .ok (.if_icmp .ne 7, 3) := by decide +kernel
theorem D_m_spun_76 : decode M_m_spun.2.1 76 = .ok (.iload_n 3, 1) := by decide +kernel
theorem D_m_spun_77 : decode M_m_spun.2.1 77 = .ok (.goto 5, 3) := by decide +kernel
theorem D_m_spun_80 : decode M_m_spun.2.1 80 = .ok (.iload 4, 2) := by decide +kernel
theorem D_m_spun_82 : decode M_m_spun.2.1 82 = .ok (.ireturn, 1) := by decide +kernel
theorem D_m_look_0 : decode M_m_look.2.1 0 = .ok (.aload_n 0, 1) := by decide +kernel
theorem D_m_look_1 : decode M_m_look.2.1 1 = .ok (.iconst 0, 1) := by decide +kernel
theorem D_m_look_2 : decode M_m_look.2.1 2 = .ok (.invokevirtual 218, 3) := by decide +kernel
theorem D_m_look_5 : decode M_m_look.2.1 5 = .ok (.ifCond .ne 6, 3) := by decide +kernel
theorem D_m_look_8 : decode M_m_look.2.1 8 = .ok (.bipush (-9), 2) := by decide +kernel
theorem D_m_look_10 : decode M_m_look.2.1 10 = .ok (.ireturn, 1) := by decide +kernel
theorem D_m_look_11 : decode M_m_look.2.1 11 = .ok (.bipush (-9), 2) := by decide +kernel
theorem D_m_look_13 : decode M_m_look.2.1 13 = .ok (.istore_n 1, 1) := by decide +kernel
theorem D_m_look_14 : decode M_m_look.2.1 14 = .ok (.iconst 0, 1) := by decide +kernel
theorem D_m_look_15 : decode M_m_look.2.1 15 = .ok (.istore_n 2, 1) := by decide +kernel
theorem D_m_look_16 : decode M_m_look.2.1 16 = .ok (.iconst 0, 1) := by decide +kernel
theorem D_m_look_17 : decode M_m_look.2.1 17 = .ok (.istore_n 3, 1) := by decide +kernel
theorem D_m_look_18 : decode M_m_look.2.1 18 = .ok (.iload_n 3, 1) := by decide +kernel
theorem D_m_look_19 : decode M_m_look.2.1 19 = .ok (.aload_n 0, 1) := by decide +kernel
theorem D_m_look_20 : decode M_m_look.2.1 20 = .ok (.getfield 73, 3) := by decide +kernel
theorem D_m_look_23 : decode M_m_look.2.1 23 = .ok (.if_icmp .ge 151, 3) := by decide +kernel
theorem D_m_look_26 : decode M_m_look.2.1 26 = .ok (.iconst 0, 1) := by decide +kernel
theorem D_m_look_27 : decode M_m_look.2.1 27 = .ok (.istore 4, 2) := by decide +kernel
theorem D_m_look_29 : decode M_m_look.2.1 29 = .ok (.iload 4, 2) := by decide +kernel
theorem D_m_look_31 : decode M_m_look.2.1 31 = .ok (.bipush 6, 2) := by decide +kernel
theorem D_m_look_33 : decode M_m_look.2.1 33 = .ok (.if_icmp .ge 17, 3) := by decide +kernel
theorem D_m_look_36 : decode M_m_look.2.1 36 = .ok (.aload_n 0, 1) := by decide +kernel
theorem D_m_look_37 : decode M_m_look.2.1 37 = .ok (.getfield 63, 3) := by decide +kernel
theorem D_m_look_40 : decode M_m_look.2.1 40 = .ok (.iload 4, 2) := by decide +kernel
theorem D_m_look_42 : decode M_m_look.2.1 42 = .ok (.iconst 0, 1) := by decide +kernel
theorem D_m_look_43 : decode M_m_look.2.1 43 = .ok (.iastore, 1) := by decide +kernel
theorem D_m_look_44 : decode M_m_look.2.1 44 = .ok (.iinc 4 1, 3) := by decide +kernel
theorem D_m_look_47 : decode M_m_look.2.1 47 = .ok (.goto (-18), 3) := by decide +kernel
theorem D_m_look_50 : decode M_m_look.2.1 50 = .ok (.iconst 0, 1) := by decide +kernel
theorem D_m_look_51 : decode M_m_look.2.1 51 = .ok (.istore 4, 2) := by decide +kernel
theorem D_m_look_53 : decode M_m_look.2.1 53 = .ok (.iconst 1, 1) := by decide +kernel
theorem D_m_look_54 : decode M_m_look.2.1 54 = .ok (.istore 5, 2) := by decide +kernel
theorem D_m_look_56 : decode M_m_look.2.1 56 = .ok (.iload 5, 2) := by decide +kernel
theorem D_m_look_58 : decode M_m_look.2.1 58 = .ok (.bipush 60, 2) := by decide +kernel
theorem D_m_look_60 : decode M_m_look.2.1 60 = .ok (.if_icmp .gt 68, 3) := by decide +kernel
theorem D_m_look_63 : decode M_m_look.2.1 63 = .ok (.aload_n 0, 1) := by decide +kernel
theorem D_m_look_64 : decode M_m_look.2.1 64 = .ok (.iload_n 3, 1) := by decide +kernel
theorem D_m_look_65 : decode M_m_look.2.1 65 = .ok (.iload 5, 2) := by decide +kernel
theorem D_m_look_67 : decode M_m_look.2.1 67 = .ok (.invokevirtual 197, 3) := by decide +kernel
theorem D_m_look_70 : decode M_m_look.2.1 70 = .ok (.istore 6, 2) := by decide +kernel
theorem D_m_look_72 : decode M_m_look.2.1 72 = .ok (.aload_n 0, 1) := by decide +kernel
theorem D_m_look_73 : decode M_m_look.2.1 73 = .ok (.getfield 63, 3) := by decide +kernel
theorem D_m_look_76 : decode M_m_look.2.1 76 = .ok (.iload 6, 2) := by decide +kernel
theorem D_m_look_78 : decode M_m_look.2.1 78 = .ok (.dup2, 1) := by decide +kernel
theorem D_m_look_79 : decode M_m_look.2.1 79 = .ok (.iaload, 1) := by decide +kernel
theorem D_m_look_80 : decode M_m_look.2.1 80 = .ok (.aload_n 0, 1) := by decide +kernel
theorem D_m_look_81 : decode M_m_look.2.1 81 = .ok (.iload 5, 2) := by decide +kernel
theorem D_m_look_83 : decode M_m_look.2.1 83 = .ok (.invokevirtual 215, 3) := by decide +kernel
theorem D_m_look_86 : decode M_m_look.2.1 86 = .ok (.ifCond .eq 7, 3) := by decide +kernel
theorem D_m_look_89 : decode M_m_look.2.1 89 = .ok (.iconst 1, 1) := by decide +kernel
theorem D_m_look_90 : decode M_m_look.2.1 90 = .ok (.goto 4, 3) := by decide +kernel
theorem D_m_look_93 : decode M_m_look.2.1 93 = .ok (.iconst 0, 1) := by decide +kernel
theorem D_m_look_94 : decode M_m_look.2.1 94 = .ok (.iadd, 1) := by decide +kernel
theorem D_m_look_95 : decode M_m_look.2.1 95 = .ok (.iastore, 1) := by decide +kernel
theorem D_m_look_96 : decode M_m_look.2.1 96 = .ok (.aload_n 0, 1) := by decide +kernel
theorem D_m_look_97 : decode M_m_look.2.1 97 = .ok (.getfield 63, 3) := by decide +kernel
theorem D_m_look_100 : decode M_m_look.2.1 100 = .ok (.iload 6, 2) := by decide +kernel
theorem D_m_look_102 : decode M_m_look.2.1 102 = .ok (.iaload, 1) := by decide +kernel
theorem D_m_look_103 : decode M_m_look.2.1 103 = .ok (.iload 4, 2) := by decide +kernel
theorem D_m_look_105 : decode M_m_look.2.1 105 = .ok (.if_icmp .le 13, 3) := by decide +kernel
theorem D_m_look_108 : decode M_m_look.2.1 108 = .ok (.aload_n 0, 1) := by decide +kernel
theorem D_m_look_109 : decode M_m_look.2.1 109 = .ok (.getfield 63, 3) := by decide +kernel
theorem D_m_look_112 : decode M_m_look.2.1 112 = .ok (.iload 6, 2) := by decide +kernel
theorem D_m_look_114 : decode M_m_look.2.1 114 = .ok (.iaload, 1) := by decide +kernel
theorem D_m_look_115 : decode M_m_look.2.1 115 = .ok (.goto 5, 3) := by decide +kernel
theorem D_m_look_118 : decode M_m_look.2.1 118 = .ok (.iload 4, 2) := by decide +kernel
theorem D_m_look_120 : decode M_m_look.2.1 120 = .ok (.istore 4, 2) := by decide +kernel
theorem D_m_look_122 : decode M_m_look.2.1 122 = .ok (.iinc 5 1, 3) := by decide +kernel
theorem D_m_look_125 : decode M_m_look.2.1 125 = .ok (.goto (-69), 3) := by decide +kernel
theorem D_m_look_128 : decode M_m_look.2.1 128 = .ok (.iload_n 1, 1) := by decide +kernel
theorem D_m_look_129 : decode M_m_look.2.1 129 = .ok (.ifCond .lt 9, 3) := by decide +kernel
theorem D_m_look_132 : decode M_m_look.2.1 132 = .ok (.iload 4, 2) := by decide +kernel
theorem D_m_look_134 : decode M_m_look.2.1 134 = .ok (.iload_n 2, 1) := by decide +kernel
theorem D_m_look_135 : decode M_m_look.2.1 135 = .ok (.if_icmp .ge 7, 3) := by decide +kernel
theorem D_m_look_138 : decode M_m_look.2.1 138 = .ok (.iconst 1, 1) := by decide +kernel
theorem D_m_look_139 : decode M_m_look.2.1 139 = .ok (.goto 4, 3) := by decide +kernel
theorem D_m_look_142 : decode M_m_look.2.1 142 = .ok (.iconst 0, 1) := by decide +kernel
theorem D_m_look_143 : decode M_m_look.2.1 143 = .ok (.istore 5, 2) := by decide +kernel
theorem D_m_look_145 : decode M_m_look.2.1 145 = .ok (.iload 5, 2) := by decide +kernel
theorem D_m_look_147 : decode M_m_look.2.1 147 = .ok (.ifCond .eq 7, 3) := by decide +kernel
theorem D_m_look_150 : decode M_m_look.2.1 150 = .ok (.iload_n 3, 1) := by decide +kernel
theorem D_m_look_151 : decode M_m_look.2.1 151 = .ok (.goto 4, 3) := by decide +kernel
theorem D_m_look_154 : decode M_m_look.2.1 154 = .ok (.iload_n 1, 1) := by decide +kernel
theorem D_m_look_155 : decode M_m_look.2.1 155 = .ok (.istore_n 1, 1) := by decide +kernel
theorem D_m_look_156 : decode M_m_look.2.1 156 = .ok (.iload 5, 2) := by decide +kernel
theorem D_m_look_158 : decode M_m_look.2.1 158 = .ok (.ifCond .eq 8, 3) := by decide +kernel
theorem D_m_look_161 : decode M_m_look.2.1 161 = .ok (.iload 4, 2) := by decide +kernel
theorem D_m_look_163 : decode M_m_look.2.1 163 = .ok (.goto 4, 3) := by decide +kernel
theorem D_m_look_166 : decode M_m_look.2.1 166 = .ok (.iload_n 2, 1) := by decide +kernel
theorem D_m_look_167 : decode M_m_look.2.1 167 = .ok (.istore_n 2, 1) := by decide +kernel
theorem D_m_look_168 : decode M_m_look.2.1 168 = .ok (.iinc 3 1, 3) := by decide +kernel
theorem D_m_look_171 : decode M_m_look.2.1 171 = .ok (.goto (-153), 3) := by decide +kernel
theorem D_m_look_174 : decode M_m_look.2.1 174 = .ok (.iload_n 1, 1) := by decide +kernel
theorem D_m_look_175 : decode M_m_look.2.1 175 = .ok (.ireturn, 1) := by decide +kernel
theorem D_m_hears_0 : decode M_m_hears.2.1 0 = .ok (.iload_n 1, 1) := by decide +kernel
theorem D_m_hears_1 : decode M_m_hears.2.1 1 = .ok (.invokestatic 169, 3) := by decide +kernel
theorem D_m_hears_4 : decode M_m_hears.2.1 4 = .ok (.ifCond .eq 14, 3) := by decide +kernel
theorem D_m_hears_7 : decode M_m_hears.2.1 7 = .ok (.iload_n 2, 1) := by decide +kernel
theorem D_m_hears_8 : decode M_m_hears.2.1 8 = .ok (.iconst 0, 1) := by decide +kernel
theorem D_m_hears_9 : decode M_m_hears.2.1 9 = .ok (.sipush 999, 3) := by decide +kernel
theorem D_m_hears_12 : decode M_m_hears.2.1 12 = .ok (.invokestatic 69, 3) := by decide +kernel
theorem D_m_hears_15 : decode M_m_hears.2.1 15 = .ok (.ifCond .ne 5, 3) := by decide +kernel
theorem D_m_hears_18 : decode M_m_hears.2.1 18 = .ok (.iconst (-1), 1) := by decide +kernel
theorem D_m_hears_19 : decode M_m_hears.2.1 19 = .ok (.ireturn, 1) := by decide +kernel
theorem D_m_hears_20 : decode M_m_hears.2.1 20 = .ok (.aload_n 0, 1) := by decide +kernel
theorem D_m_hears_21 : decode M_m_hears.2.1 21 = .ok (.getfield 143, 3) := by decide +kernel
theorem D_m_hears_24 : decode M_m_hears.2.1 24 = .ok (.bipush 6, 2) := by decide +kernel
theorem D_m_hears_26 : decode M_m_hears.2.1 26 = .ok (.if_icmp .ne 6, 3) := by decide +kernel
theorem D_m_hears_29 : decode M_m_hears.2.1 29 = .ok (.bipush (-3), 2) := by decide +kernel
theorem D_m_hears_31 : decode M_m_hears.2.1 31 = .ok (.ireturn, 1) := by decide +kernel
theorem D_m_hears_32 : decode M_m_hears.2.1 32 = .ok (.aload_n 0, 1) := by decide +kernel
theorem D_m_hears_33 : decode M_m_hears.2.1 33 = .ok (.getfield 36, 3) := by decide +kernel
theorem D_m_hears_36 : decode M_m_hears.2.1 36 = .ok (.iconst 2, 1) := by decide +kernel
theorem D_m_hears_37 : decode M_m_hears.2.1 37 = .ok (.aload_n 0, 1) := by decide +kernel
theorem D_m_hears_38 : decode M_m_hears.2.1 38 = .ok (.getfield 143, 3) := by decide +kernel
theorem D_m_hears_41 : decode M_m_hears.2.1 41 = .ok (.imul, 1) := by decide +kernel
theorem D_m_hears_42 : decode M_m_hears.2.1 42 = .ok (.iload_n 1, 1) := by decide +kernel
theorem D_m_hears_43 : decode M_m_hears.2.1 43 = .ok (.iastore, 1) := by decide +kernel
theorem D_m_hears_44 : decode M_m_hears.2.1 44 = .ok (.aload_n 0, 1) := by decide +kernel
theorem D_m_hears_45 : decode M_m_hears.2.1 45 = .ok (.getfield 36, 3) := by decide +kernel
theorem D_m_hears_48 : decode M_m_hears.2.1 48 = .ok (.iconst 2, 1) := by decide +kernel
theorem D_m_hears_49 : decode M_m_hears.2.1 49 = .ok (.aload_n 0, 1) := by decide +kernel
theorem D_m_hears_50 : decode M_m_hears.2.1 50 = .ok (.getfield 143, 3) := by decide +kernel
theorem D_m_hears_53 : decode M_m_hears.2.1 53 = .ok (.imul, 1) := by decide +kernel
theorem D_m_hears_54 : decode M_m_hears.2.1 54 = .ok (.iconst 1, 1) := by decide +kernel
theorem D_m_hears_55 : decode M_m_hears.2.1 55 = .ok (.iadd, 1) := by decide +kernel
theorem D_m_hears_56 : decode M_m_hears.2.1 56 = .ok (.iload_n 2, 1) := by decide +kernel
theorem D_m_hears_57 : decode M_m_hears.2.1 57 = .ok (.iastore, 1) := by decide +kernel
theorem D_m_hears_58 : decode M_m_hears.2.1 58 = .ok (.aload_n 0, 1) := by decide +kernel
theorem D_m_hears_59 : decode M_m_hears.2.1 59 = .ok (.dup, 1) := by decide +kernel
theorem D_m_hears_60 : decode M_m_hears.2.1 60 = .ok (.getfield 143, 3) := by decide +kernel
theorem D_m_hears_63 : decode M_m_hears.2.1 63 = .ok (.iconst 1, 1) := by decide +kernel
theorem D_m_hears_64 : decode M_m_hears.2.1 64 = .ok (.iadd, 1) := by decide +kernel
theorem D_m_hears_65 : decode M_m_hears.2.1 65 = .ok (.putfield 143, 3) := by decide +kernel
theorem D_m_hears_68 : decode M_m_hears.2.1 68 = .ok (.aload_n 0, 1) := by decide +kernel
theorem D_m_hears_69 : decode M_m_hears.2.1 69 = .ok (.getfield 143, 3) := by decide +kernel
theorem D_m_hears_72 : decode M_m_hears.2.1 72 = .ok (.ireturn, 1) := by decide +kernel
theorem D_m_isHeard_0 : decode M_m_isHeard.2.1 0 = .ok (.iconst 1, 1) := by decide +kernel
theorem D_m_isHeard_1 : decode M_m_isHeard.2.1 1 = .ok (.istore_n 3, 1) := by decide +kernel
theorem D_m_isHeard_2 : decode M_m_isHeard.2.1 2 = .ok (.iconst 0, 1) := by decide +kernel
theorem D_m_isHeard_3 : decode M_m_isHeard.2.1 3 = .ok (.istore 4, 2) := by decide +kernel
theorem D_m_isHeard_5 : decode M_m_isHeard.2.1 5 = .ok (.iload 4, 2) := by decide +kernel
theorem D_m_isHeard_7 : decode M_m_isHeard.2.1 7 = .ok (.aload_n 0, 1) := by decide +kernel
theorem D_m_isHeard_8 : decode M_m_isHeard.2.1 8 = .ok (.getfield 143, 3) := by decide +kernel
theorem D_m_isHeard_11 : decode M_m_isHeard.2.1 11 = .ok (.if_icmp .ge 47, 3) := by decide +kernel
theorem D_m_isHeard_14 : decode M_m_isHeard.2.1 14 = .ok (.iload_n 3, 1) := by decide +kernel
theorem D_m_isHeard_15 : decode M_m_isHeard.2.1 15 = .ok (.ifCond .eq 35, 3) := by decide +kernel
theorem D_m_isHeard_18 : decode M_m_isHeard.2.1 18 = .ok (.aload_n 0, 1) := by decide +kernel
theorem D_m_isHeard_19 : decode M_m_isHeard.2.1 19 = .ok (.getfield 36, 3) := by decide +kernel
theorem D_m_isHeard_22 : decode M_m_isHeard.2.1 22 = .ok (.iconst 2, 1) := by decide +kernel
theorem D_m_isHeard_23 : decode M_m_isHeard.2.1 23 = .ok (.iload 4, 2) := by decide +kernel
theorem D_m_isHeard_25 : decode M_m_isHeard.2.1 25 = .ok (.imul, 1) := by decide +kernel
theorem D_m_isHeard_26 : decode M_m_isHeard.2.1 26 = .ok (.iaload, 1) := by decide +kernel
theorem D_m_isHeard_27 : decode M_m_isHeard.2.1 27 = .ok (.iload_n 1, 1) := by decide +kernel
theorem D_m_isHeard_28 : decode M_m_isHeard.2.1 28 = .ok (.iload_n 2, 1) := by decide +kernel
theorem D_m_isHeard_29 : decode M_m_isHeard.2.1 29 = .ok (.invokestatic 165, 3) := by decide +kernel
theorem D_m_isHeard_32 : decode M_m_isHeard.2.1 32 = .ok (.aload_n 0, 1) := by decide +kernel
theorem D_m_isHeard_33 : decode M_m_isHeard.2.1 33 = .ok (.getfield 36, 3) := by decide +kernel
theorem D_m_isHeard_36 : decode M_m_isHeard.2.1 36 = .ok (.iconst 2, 1) := by decide +kernel
theorem D_m_isHeard_37 : decode M_m_isHeard.2.1 37 = .ok (.iload 4, 2) := by decide +kernel
theorem D_m_isHeard_39 : decode M_m_isHeard.2.1 39 = .ok (.imul, 1) := by decide +kernel
theorem D_m_isHeard_40 : decode M_m_isHeard.2.1 40 = .ok (.iconst 1, 1) := by decide +kernel
theorem D_m_isHeard_41 : decode M_m_isHeard.2.1 41 = .ok (.iadd, 1) := by decide +kernel
theorem D_m_isHeard_42 : decode M_m_isHeard.2.1 42 = .ok (.iaload, 1) := by decide +kernel
theorem D_m_isHeard_43 : decode M_m_isHeard.2.1 43 = .ok (.if_icmp .ne 7, 3) := by decide +kernel
theorem D_m_isHeard_46 : decode M_m_isHeard.2.1 46 = .ok (.iconst 1, 1) := by decide +kernel
theorem D_m_isHeard_47 : decode M_m_isHeard.2.1 47 = .ok (.goto 4, 3) := by decide +kernel
theorem D_m_isHeard_50 : decode M_m_isHeard.2.1 50 = .ok (.iconst 0, 1) := by decide +kernel
theorem D_m_isHeard_51 : decode M_m_isHeard.2.1 51 = .ok (.istore_n 3, 1) := by decide +kernel
theorem D_m_isHeard_52 : decode M_m_isHeard.2.1 52 = .ok (.iinc 4 1, 3) := by decide +kernel
theorem D_m_isHeard_55 : decode M_m_isHeard.2.1 55 = .ok (.goto (-50), 3) := by decide +kernel
theorem D_m_isHeard_58 : decode M_m_isHeard.2.1 58 = .ok (.iload_n 3, 1) := by decide +kernel
theorem D_m_isHeard_59 : decode M_m_isHeard.2.1 59 = .ok (.ireturn, 1) := by decide +kernel
theorem D_m_laws_0 : decode M_m_laws.2.1 0 = .ok (.iload_n 1, 1) := by decide +kernel
theorem D_m_laws_1 : decode M_m_laws.2.1 1 = .ok (.iconst 0, 1) := by decide +kernel
theorem D_m_laws_2 : decode M_m_laws.2.1 2 = .ok (.iconst 1, 1) := by decide +kernel
theorem D_m_laws_3 : decode M_m_laws.2.1 3 = .ok (.invokestatic 69, 3) := by decide +kernel
theorem D_m_laws_6 : decode M_m_laws.2.1 6 = .ok (.ifCond .ne 5, 3) := by decide +kernel
theorem D_m_laws_9 : decode M_m_laws.2.1 9 = .ok (.iconst (-1), 1) := by decide +kernel
theorem D_m_laws_10 : decode M_m_laws.2.1 10 = .ok (.ireturn, 1) := by decide +kernel
theorem D_m_laws_11 : decode M_m_laws.2.1 11 = .ok (.iconst 0, 1) := by decide +kernel
theorem D_m_laws_12 : decode M_m_laws.2.1 12 = .ok (.istore_n 2, 1) := by decide +kernel
theorem D_m_laws_13 : decode M_m_laws.2.1 13 = .ok (.bipush (-9), 2) := by decide +kernel
theorem D_m_laws_15 : decode M_m_laws.2.1 15 = .ok (.istore_n 3, 1) := by decide +kernel
theorem D_m_laws_16 : decode M_m_laws.2.1 16 = .ok (.iconst 0, 1) := by decide +kernel
theorem D_m_laws_17 : decode M_m_laws.2.1 17 = .ok (.istore 4, 2) := by decide +kernel
theorem D_m_laws_19 : decode M_m_laws.2.1 19 = .ok (.iload 4, 2) := by decide +kernel
theorem D_m_laws_21 : decode M_m_laws.2.1 21 = .ok (.bipush 100, 2) := by decide +kernel
theorem D_m_laws_23 : decode M_m_laws.2.1 23 = .ok (.if_icmp .ge 48, 3) := by decide +kernel
theorem D_m_laws_26 : decode M_m_laws.2.1 26 = .ok (.iload 4, 2) := by decide +kernel
theorem D_m_laws_28 : decode M_m_laws.2.1 28 = .ok (.bipush 10, 2) := by decide +kernel
theorem D_m_laws_30 : decode M_m_laws.2.1 30 = .ok (.irem, 1) := by decide +kernel
theorem D_m_laws_31 : decode M_m_laws.2.1 31 = .ok (.ifCond .le 34, 3) := by decide +kernel
theorem D_m_laws_34 : decode M_m_laws.2.1 34 = .ok (.aload_n 0, 1) := by decide +kernel
theorem D_m_laws_35 : decode M_m_laws.2.1 35 = .ok (.iload 4, 2) := by decide +kernel
theorem D_m_laws_37 : decode M_m_laws.2.1 37 = .ok (.bipush 10, 2) := by decide +kernel
theorem D_m_laws_39 : decode M_m_laws.2.1 39 = .ok (.idiv, 1) := by decide +kernel
theorem D_m_laws_40 : decode M_m_laws.2.1 40 = .ok (.iload 4, 2) := by decide +kernel
theorem D_m_laws_42 : decode M_m_laws.2.1 42 = .ok (.bipush 10, 2) := by decide +kernel
theorem D_m_laws_44 : decode M_m_laws.2.1 44 = .ok (.irem, 1) := by decide +kernel
theorem D_m_laws_45 : decode M_m_laws.2.1 45 = .ok (.invokevirtual 221, 3) := by decide +kernel
theorem D_m_laws_48 : decode M_m_laws.2.1 48 = .ok (.ifCond .eq 17, 3) := by decide +kernel
theorem D_m_laws_51 : decode M_m_laws.2.1 51 = .ok (.iload_n 2, 1) := by decide +kernel
theorem D_m_laws_52 : decode M_m_laws.2.1 52 = .ok (.ifCond .ne 8, 3) := by decide +kernel
theorem D_m_laws_55 : decode M_m_laws.2.1 55 = .ok (.iload 4, 2) := by decide +kernel
theorem D_m_laws_57 : decode M_m_laws.2.1 57 = .ok (.goto 4, 3) := by decide +kernel
theorem D_m_laws_60 : decode M_m_laws.2.1 60 = .ok (.iload_n 3, 1) := by decide +kernel
theorem D_m_laws_61 : decode M_m_laws.2.1 61 = .ok (.istore_n 3, 1) := by decide +kernel
theorem D_m_laws_62 : decode M_m_laws.2.1 62 = .ok (.iinc 2 1, 3) := by decide +kernel
theorem D_m_laws_65 : decode M_m_laws.2.1 65 = .ok (.iinc 4 1, 3) := by decide +kernel
theorem D_m_laws_68 : decode M_m_laws.2.1 68 = .ok (.goto (-49), 3) := by decide +kernel
theorem D_m_laws_71 : decode M_m_laws.2.1 71 = .ok (.iload_n 1, 1) := by decide +kernel
theorem D_m_laws_72 : decode M_m_laws.2.1 72 = .ok (.ifCond .ne 7, 3) := by decide +kernel
theorem D_m_laws_75 : decode M_m_laws.2.1 75 = .ok (.iload_n 2, 1) := by decide +kernel
theorem D_m_laws_76 : decode M_m_laws.2.1 76 = .ok (.goto 4, 3) := by decide +kernel
theorem D_m_laws_79 : decode M_m_laws.2.1 79 = .ok (.iload_n 3, 1) := by decide +kernel
theorem D_m_laws_80 : decode M_m_laws.2.1 80 = .ok (.ireturn, 1) := by decide +kernel
theorem D_m_greatest_0 : decode M_m_greatest.2.1 0 = .ok (.iconst 0, 1) := by decide +kernel
theorem D_m_greatest_1 : decode M_m_greatest.2.1 1 = .ok (.istore_n 2, 1) := by decide +kernel
theorem D_m_greatest_2 : decode M_m_greatest.2.1 2 = .ok (.iload_n 2, 1) := by decide +kernel
theorem D_m_greatest_3 : decode M_m_greatest.2.1 3 = .ok (.sipush 1000, 3) := by decide +kernel
theorem D_m_greatest_6 : decode M_m_greatest.2.1 6 = .ok (.if_icmp .ge 16, 3) := by decide +kernel
theorem D_m_greatest_9 : decode M_m_greatest.2.1 9 = .ok (.aload_n 0, 1) := by decide +kernel
theorem D_m_greatest_10 : decode M_m_greatest.2.1 10 = .ok (.getfield 63, 3) := by decide +kernel
theorem D_m_greatest_13 : decode M_m_greatest.2.1 13 = .ok (.iload_n 2, 1) := by decide +kernel
theorem D_m_greatest_14 : decode M_m_greatest.2.1 14 = .ok (.iconst 0, 1) := by decide +kernel
theorem D_m_greatest_15 : decode M_m_greatest.2.1 15 = .ok (.iastore, 1) := by decide +kernel
theorem D_m_greatest_16 : decode M_m_greatest.2.1 16 = .ok (.iinc 2 1, 3) := by decide +kernel
theorem D_m_greatest_19 : decode M_m_greatest.2.1 19 = .ok (.goto (-17), 3) := by decide +kernel
theorem D_m_greatest_22 : decode M_m_greatest.2.1 22 = .ok (.iconst 0, 1) := by decide +kernel
theorem D_m_greatest_23 : decode M_m_greatest.2.1 23 = .ok (.istore_n 2, 1) := by decide +kernel
theorem D_m_greatest_24 : decode M_m_greatest.2.1 24 = .ok (.iconst 0, 1) := by decide +kernel
theorem D_m_greatest_25 : decode M_m_greatest.2.1 25 = .ok (.istore_n 3, 1) := by decide +kernel
theorem D_m_greatest_26 : decode M_m_greatest.2.1 26 = .ok (.iload_n 3, 1) := by decide +kernel
theorem D_m_greatest_27 : decode M_m_greatest.2.1 27 = .ok (.bipush 100, 2) := by decide +kernel
theorem D_m_greatest_29 : decode M_m_greatest.2.1 29 = .ok (.if_icmp .ge 79, 3) := by decide +kernel
theorem D_m_greatest_32 : decode M_m_greatest.2.1 32 = .ok (.iload_n 3, 1) := by decide +kernel
theorem D_m_greatest_33 : decode M_m_greatest.2.1 33 = .ok (.bipush 10, 2) := by decide +kernel
theorem D_m_greatest_35 : decode M_m_greatest.2.1 35 = .ok (.irem, 1) := by decide +kernel
theorem D_m_greatest_36 : decode M_m_greatest.2.1 36 = .ok (.ifCond .le 66, 3) := by decide +kernel
theorem D_m_greatest_39 : decode M_m_greatest.2.1 39 = .ok (.aload_n 0, 1) := by decide +kernel
theorem D_m_greatest_40 : decode M_m_greatest.2.1 40 = .ok (.iload_n 3, 1) := by decide +kernel
theorem D_m_greatest_41 : decode M_m_greatest.2.1 41 = .ok (.bipush 10, 2) := by decide +kernel
theorem D_m_greatest_43 : decode M_m_greatest.2.1 43 = .ok (.idiv, 1) := by decide +kernel
theorem D_m_greatest_44 : decode M_m_greatest.2.1 44 = .ok (.iload_n 3, 1) := by decide +kernel
theorem D_m_greatest_45 : decode M_m_greatest.2.1 45 = .ok (.bipush 10, 2) := by decide +kernel
theorem D_m_greatest_47 : decode M_m_greatest.2.1 47 = .ok (.irem, 1) := by decide +kernel
theorem D_m_greatest_48 : decode M_m_greatest.2.1 48 = .ok (.invokevirtual 221, 3) := by decide +kernel
theorem D_m_greatest_51 : decode M_m_greatest.2.1 51 = .ok (.ifCond .eq 51, 3) := by decide +kernel
theorem D_m_greatest_54 : decode M_m_greatest.2.1 54 = .ok (.iload_n 1, 1) := by decide +kernel
theorem D_m_greatest_55 : decode M_m_greatest.2.1 55 = .ok (.iload_n 3, 1) := by decide +kernel
theorem D_m_greatest_56 : decode M_m_greatest.2.1 56 = .ok (.bipush 10, 2) := by decide +kernel
theorem D_m_greatest_58 : decode M_m_greatest.2.1 58 = .ok (.idiv, 1) := by decide +kernel
theorem D_m_greatest_59 : decode M_m_greatest.2.1 59 = .ok (.iload_n 3, 1) := by decide +kernel
theorem D_m_greatest_60 : decode M_m_greatest.2.1 60 = .ok (.bipush 10, 2) := by decide +kernel
theorem D_m_greatest_62 : decode M_m_greatest.2.1 62 = .ok (.irem, 1) := by decide +kernel
theorem D_m_greatest_63 : decode M_m_greatest.2.1 63 = .ok (.invokestatic 165, 3) := by decide +kernel
theorem D_m_greatest_66 : decode M_m_greatest.2.1 66 = .ok (.istore 4, 2) := by decide +kernel
theorem D_m_greatest_68 : decode M_m_greatest.2.1 68 = .ok (.aload_n 0, 1) := by decide +kernel
theorem D_m_greatest_69 : decode M_m_greatest.2.1 69 = .ok (.getfield 63, 3) := by decide +kernel
theorem D_m_greatest_72 : decode M_m_greatest.2.1 72 = .ok (.iload 4, 2) := by decide +kernel
theorem D_m_greatest_74 : decode M_m_greatest.2.1 74 = .ok (.dup2, 1) := by decide +kernel
theorem D_m_greatest_75 : decode M_m_greatest.2.1 75 = .ok (.iaload, 1) := by decide +kernel
theorem D_m_greatest_76 : decode M_m_greatest.2.1 76 = .ok (.iconst 1, 1) := by decide +kernel
theorem D_m_greatest_77 : decode M_m_greatest.2.1 77 = .ok (.iadd, 1) := by decide +kernel
theorem D_m_greatest_78 : decode M_m_greatest.2.1 78 = .ok (.iastore, 1) := by decide +kernel
theorem D_m_greatest_79 : decode M_m_greatest.2.1 79 = .ok (.aload_n 0, 1) := by decide +kernel
theorem D_m_greatest_80 : decode M_m_greatest.2.1 80 = .ok (.getfield 63, 3) := by decide +kernel
theorem D_m_greatest_83 : decode M_m_greatest.2.1 83 = .ok (.iload 4, 2) := by decide +kernel
theorem D_m_greatest_85 : decode M_m_greatest.2.1 85 = .ok (.iaload, 1) := by decide +kernel
theorem D_m_greatest_86 : decode M_m_greatest.2.1 86 = .ok (.iload_n 2, 1) := by decide +kernel
theorem D_m_greatest_87 : decode M_m_greatest.2.1 87 = .ok (.if_icmp .le 13, 3) := by decide +kernel
theorem D_m_greatest_90 : decode M_m_greatest.2.1 90 = .ok (.aload_n 0, 1) := by decide +kernel
theorem D_m_greatest_91 : decode M_m_greatest.2.1 91 = .ok (.getfield 63, 3) := by decide +kernel
theorem D_m_greatest_94 : decode M_m_greatest.2.1 94 = .ok (.iload 4, 2) := by decide +kernel
theorem D_m_greatest_96 : decode M_m_greatest.2.1 96 = .ok (.iaload, 1) := by decide +kernel
theorem D_m_greatest_97 : decode M_m_greatest.2.1 97 = .ok (.goto 4, 3) := by decide +kernel
theorem D_m_greatest_100 : decode M_m_greatest.2.1 100 = .ok (.iload_n 2, 1) := by decide +kernel
theorem D_m_greatest_101 : decode M_m_greatest.2.1 101 = .ok (.istore_n 2, 1) := by decide +kernel
theorem D_m_greatest_102 : decode M_m_greatest.2.1 102 = .ok (.iinc 3 1, 3) := by decide +kernel
theorem D_m_greatest_105 : decode M_m_greatest.2.1 105 = .ok (.goto (-79), 3) := by decide +kernel
theorem D_m_greatest_108 : decode M_m_greatest.2.1 108 = .ok (.iload_n 2, 1) := by decide +kernel
theorem D_m_greatest_109 : decode M_m_greatest.2.1 109 = .ok (.ireturn, 1) := by decide +kernel
theorem D_m_tryNext_0 : decode M_m_tryNext.2.1 0 = .ok (.aload_n 0, 1) := by decide +kernel
theorem D_m_tryNext_1 : decode M_m_tryNext.2.1 1 = .ok (.iconst 0, 1) := by decide +kernel
theorem D_m_tryNext_2 : decode M_m_tryNext.2.1 2 = .ok (.invokevirtual 224, 3) := by decide +kernel
theorem D_m_tryNext_5 : decode M_m_tryNext.2.1 5 = .ok (.ifCond .ne 6, 3) := by decide +kernel
theorem D_m_tryNext_8 : decode M_m_tryNext.2.1 8 = .ok (.bipush (-9), 2) := by decide +kernel
theorem D_m_tryNext_10 : decode M_m_tryNext.2.1 10 = .ok (.ireturn, 1) := by decide +kernel
theorem D_m_tryNext_11 : decode M_m_tryNext.2.1 11 = .ok (.bipush (-9), 2) := by decide +kernel
theorem D_m_tryNext_13 : decode M_m_tryNext.2.1 13 = .ok (.istore_n 1, 1) := by decide +kernel
theorem D_m_tryNext_14 : decode M_m_tryNext.2.1 14 = .ok (.iconst 0, 1) := by decide +kernel
theorem D_m_tryNext_15 : decode M_m_tryNext.2.1 15 = .ok (.istore_n 2, 1) := by decide +kernel
theorem D_m_tryNext_16 : decode M_m_tryNext.2.1 16 = .ok (.iconst 1, 1) := by decide +kernel
theorem D_m_tryNext_17 : decode M_m_tryNext.2.1 17 = .ok (.istore_n 3, 1) := by decide +kernel
theorem D_m_tryNext_18 : decode M_m_tryNext.2.1 18 = .ok (.iload_n 3, 1) := by decide +kernel
theorem D_m_tryNext_19 : decode M_m_tryNext.2.1 19 = .ok (.bipush 60, 2) := by decide +kernel
theorem D_m_tryNext_21 : decode M_m_tryNext.2.1 21 = .ok (.if_icmp .gt 56, 3) := by decide +kernel
theorem D_m_tryNext_24 : decode M_m_tryNext.2.1 24 = .ok (.aload_n 0, 1) := by decide +kernel
theorem D_m_tryNext_25 : decode M_m_tryNext.2.1 25 = .ok (.iload_n 3, 1) := by decide +kernel
theorem D_m_tryNext_26 : decode M_m_tryNext.2.1 26 = .ok (.invokevirtual 227, 3) := by decide +kernel
theorem D_m_tryNext_29 : decode M_m_tryNext.2.1 29 = .ok (.istore 4, 2) := by decide +kernel
theorem D_m_tryNext_31 : decode M_m_tryNext.2.1 31 = .ok (.iload_n 1, 1) := by decide +kernel
theorem D_m_tryNext_32 : decode M_m_tryNext.2.1 32 = .ok (.ifCond .lt 9, 3) := by decide +kernel
theorem D_m_tryNext_35 : decode M_m_tryNext.2.1 35 = .ok (.iload 4, 2) := by decide +kernel
theorem D_m_tryNext_37 : decode M_m_tryNext.2.1 37 = .ok (.iload_n 2, 1) := by decide +kernel
theorem D_m_tryNext_38 : decode M_m_tryNext.2.1 38 = .ok (.if_icmp .ge 7, 3) := by decide +kernel
theorem D_m_tryNext_41 : decode M_m_tryNext.2.1 41 = .ok (.iconst 1, 1) := by decide +kernel
theorem D_m_tryNext_42 : decode M_m_tryNext.2.1 42 = .ok (.goto 4, 3) := by decide +kernel
theorem D_m_tryNext_45 : decode M_m_tryNext.2.1 45 = .ok (.iconst 0, 1) := by decide +kernel
theorem D_m_tryNext_46 : decode M_m_tryNext.2.1 46 = .ok (.istore 5, 2) := by decide +kernel
theorem D_m_tryNext_48 : decode M_m_tryNext.2.1 48 = .ok (.iload 5, 2) := by decide +kernel
theorem D_m_tryNext_50 : decode M_m_tryNext.2.1 50 = .ok (.ifCond .eq 7, 3) := by decide +kernel
theorem D_m_tryNext_53 : decode M_m_tryNext.2.1 53 = .ok (.iload_n 3, 1) := by decide +kernel
theorem D_m_tryNext_54 : decode M_m_tryNext.2.1 54 = .ok (.goto 4, 3) := by decide +kernel
theorem D_m_tryNext_57 : decode M_m_tryNext.2.1 57 = .ok (.iload_n 1, 1) := by decide +kernel
theorem D_m_tryNext_58 : decode M_m_tryNext.2.1 58 = .ok (.istore_n 1, 1) := by decide +kernel
theorem D_m_tryNext_59 : decode M_m_tryNext.2.1 59 = .ok (.iload 5, 2) := by decide +kernel
theorem D_m_tryNext_61 : decode M_m_tryNext.2.1 61 = .ok (.ifCond .eq 8, 3) := by decide +kernel
theorem D_m_tryNext_64 : decode M_m_tryNext.2.1 64 = .ok (.iload 4, 2) := by decide +kernel
theorem D_m_tryNext_66 : decode M_m_tryNext.2.1 66 = .ok (.goto 4, 3) := by decide +kernel
theorem D_m_tryNext_69 : decode M_m_tryNext.2.1 69 = .ok (.iload_n 2, 1) := by decide +kernel
theorem D_m_tryNext_70 : decode M_m_tryNext.2.1 70 = .ok (.istore_n 2, 1) := by decide +kernel
theorem D_m_tryNext_71 : decode M_m_tryNext.2.1 71 = .ok (.iinc 3 1, 3) := by decide +kernel
theorem D_m_tryNext_74 : decode M_m_tryNext.2.1 74 = .ok (.goto (-56), 3) := by decide +kernel
theorem D_m_tryNext_77 : decode M_m_tryNext.2.1 77 = .ok (.iload_n 1, 1) := by decide +kernel
theorem D_m_tryNext_78 : decode M_m_tryNext.2.1 78 = .ok (.ireturn, 1) := by decide +kernel
theorem D_m_forget_0 : decode M_m_forget.2.1 0 = .ok (.aload_n 0, 1) := by decide +kernel
theorem D_m_forget_1 : decode M_m_forget.2.1 1 = .ok (.getfield 140, 3) := by decide +kernel
theorem D_m_forget_4 : decode M_m_forget.2.1 4 = .ok (.aload_n 0, 1) := by decide +kernel
theorem D_m_forget_5 : decode M_m_forget.2.1 5 = .ok (.getfield 143, 3) := by decide +kernel
theorem D_m_forget_8 : decode M_m_forget.2.1 8 = .ok (.iadd, 1) := by decide +kernel
theorem D_m_forget_9 : decode M_m_forget.2.1 9 = .ok (.istore_n 1, 1) := by decide +kernel
theorem D_m_forget_10 : decode M_m_forget.2.1 10 = .ok (.aload_n 0, 1) := by decide +kernel
theorem D_m_forget_11 : decode M_m_forget.2.1 11 = .ok (.iconst 0, 1) := by decide +kernel
theorem D_m_forget_12 : decode M_m_forget.2.1 12 = .ok (.putfield 140, 3) := by decide +kernel
theorem D_m_forget_15 : decode M_m_forget.2.1 15 = .ok (.aload_n 0, 1) := by decide +kernel
theorem D_m_forget_16 : decode M_m_forget.2.1 16 = .ok (.iconst 0, 1) := by decide +kernel
theorem D_m_forget_17 : decode M_m_forget.2.1 17 = .ok (.putfield 143, 3) := by decide +kernel
theorem D_m_forget_20 : decode M_m_forget.2.1 20 = .ok (.iload_n 1, 1) := by decide +kernel
theorem D_m_forget_21 : decode M_m_forget.2.1 21 = .ok (.ireturn, 1) := by decide +kernel
theorem D_m_mark_0 : decode M_m_mark.2.1 0 = .ok (.iload_n 1, 1) := by decide +kernel
theorem D_m_mark_1 : decode M_m_mark.2.1 1 = .ok (.iconst 0, 1) := by decide +kernel
theorem D_m_mark_2 : decode M_m_mark.2.1 2 = .ok (.iconst 5, 1) := by decide +kernel
theorem D_m_mark_3 : decode M_m_mark.2.1 3 = .ok (.invokestatic 69, 3) := by decide +kernel
theorem D_m_mark_6 : decode M_m_mark.2.1 6 = .ok (.ifCond .eq 11, 3) := by decide +kernel
theorem D_m_mark_9 : decode M_m_mark.2.1 9 = .ok (.aload_n 0, 1) := by decide +kernel
theorem D_m_mark_10 : decode M_m_mark.2.1 10 = .ok (.iload_n 2, 1) := by decide +kernel
theorem D_m_mark_11 : decode M_m_mark.2.1 11 = .ok (.invokevirtual 152, 3) := by decide +kernel
theorem D_m_mark_14 : decode M_m_mark.2.1 14 = .ok (.ifCond .ne 6, 3) := by decide +kernel
theorem D_m_mark_17 : decode M_m_mark.2.1 17 = .ok (.ldc 230, 2) := by decide +kernel
theorem D_m_mark_19 : decode M_m_mark.2.1 19 = .ok (.ireturn, 1) := by decide +kernel
theorem D_m_mark_20 : decode M_m_mark.2.1 20 = .ok (.aload_n 0, 1) := by decide +kernel
theorem D_m_mark_21 : decode M_m_mark.2.1 21 = .ok (.iload_n 2, 1) := by decide +kernel
theorem D_m_mark_22 : decode M_m_mark.2.1 22 = .ok (.invokevirtual 155, 3) := by decide +kernel
theorem D_m_mark_25 : decode M_m_mark.2.1 25 = .ok (.istore_n 3, 1) := by decide +kernel
theorem D_m_mark_26 : decode M_m_mark.2.1 26 = .ok (.iload_n 3, 1) := by decide +kernel
theorem D_m_mark_27 : decode M_m_mark.2.1 27 = .ok (.aload_n 0, 1) := by decide +kernel
theorem D_m_mark_28 : decode M_m_mark.2.1 28 = .ok (.getfield 23, 3) := by decide +kernel
theorem D_m_mark_31 : decode M_m_mark.2.1 31 = .ok (.bipush 10, 2) := by decide +kernel
theorem D_m_mark_33 : decode M_m_mark.2.1 33 = .ok (.iload_n 2, 1) := by decide +kernel
theorem D_m_mark_34 : decode M_m_mark.2.1 34 = .ok (.iadd, 1) := by decide +kernel
theorem D_m_mark_35 : decode M_m_mark.2.1 35 = .ok (.iaload, 1) := by decide +kernel
theorem D_m_mark_36 : decode M_m_mark.2.1 36 = .ok (.iadd, 1) := by decide +kernel
theorem D_m_mark_37 : decode M_m_mark.2.1 37 = .ok (.istore 4, 2) := by decide +kernel
theorem D_m_mark_39 : decode M_m_mark.2.1 39 = .ok (.iload_n 3, 1) := by decide +kernel
theorem D_m_mark_40 : decode M_m_mark.2.1 40 = .ok (.aload_n 0, 1) := by decide +kernel
theorem D_m_mark_41 : decode M_m_mark.2.1 41 = .ok (.getfield 23, 3) := by decide +kernel
theorem D_m_mark_44 : decode M_m_mark.2.1 44 = .ok (.iconst 4, 1) := by decide +kernel
theorem D_m_mark_45 : decode M_m_mark.2.1 45 = .ok (.iload_n 2, 1) := by decide +kernel
theorem D_m_mark_46 : decode M_m_mark.2.1 46 = .ok (.iadd, 1) := by decide +kernel
theorem D_m_mark_47 : decode M_m_mark.2.1 47 = .ok (.iaload, 1) := by decide +kernel
theorem D_m_mark_48 : decode M_m_mark.2.1 48 = .ok (.isub, 1) := by decide +kernel
theorem D_m_mark_49 : decode M_m_mark.2.1 49 = .ok (.istore 5, 2) := by decide +kernel
theorem D_m_mark_51 : decode M_m_mark.2.1 51 = .ok (.iload_n 1, 1) := by decide +kernel
theorem D_m_mark_52 : decode M_m_mark.2.1 52 = .ok (.tableswitch 121 1 5 #[36, 51, 66, 83, 100], 36) := by decide +kernel
theorem D_m_mark_88 : decode M_m_mark.2.1 88 = .ok (.aload_n 0, 1) := by decide +kernel
theorem D_m_mark_89 : decode M_m_mark.2.1 89 = .ok (.dup, 1) := by decide +kernel
theorem D_m_mark_90 : decode M_m_mark.2.1 90 = .ok (.getfield 231, 3) := by decide +kernel
theorem D_m_mark_93 : decode M_m_mark.2.1 93 = .ok (.ldc2_w 235, 3) := by decide +kernel
theorem D_m_mark_96 : decode M_m_mark.2.1 96 = .ok (.ladd, 1) := by decide +kernel
theorem D_m_mark_97 : decode M_m_mark.2.1 97 = .ok (.putfield 231, 3) := by decide +kernel
theorem D_m_mark_100 : decode M_m_mark.2.1 100 = .ok (.iload 4, 2) := by decide +kernel
theorem D_m_mark_102 : decode M_m_mark.2.1 102 = .ok (.ireturn, 1) := by decide +kernel
theorem D_m_mark_103 : decode M_m_mark.2.1 103 = .ok (.aload_n 0, 1) := by decide +kernel
theorem D_m_mark_104 : decode M_m_mark.2.1 104 = .ok (.dup, 1) := by decide +kernel
theorem D_m_mark_105 : decode M_m_mark.2.1 105 = .ok (.getfield 231, 3) := by decide +kernel
theorem D_m_mark_108 : decode M_m_mark.2.1 108 = .ok (.ldc2_w 237, 3) := by decide +kernel
theorem D_m_mark_111 : decode M_m_mark.2.1 111 = .ok (.ladd, 1) := by decide +kernel
theorem D_m_mark_112 : decode M_m_mark.2.1 112 = .ok (.putfield 231, 3) := by decide +kernel
theorem D_m_mark_115 : decode M_m_mark.2.1 115 = .ok (.iload 5, 2) := by decide +kernel
theorem D_m_mark_117 : decode M_m_mark.2.1 117 = .ok (.ireturn, 1) := by decide +kernel
theorem D_m_mark_118 : decode M_m_mark.2.1 118 = .ok (.aload_n 0, 1) := by decide +kernel
theorem D_m_mark_119 : decode M_m_mark.2.1 119 = .ok (.dup, 1) := by decide +kernel
theorem D_m_mark_120 : decode M_m_mark.2.1 120 = .ok (.getfield 231, 3) := by decide +kernel
theorem D_m_mark_123 : decode M_m_mark.2.1 123 = .ok (.ldc2_w 239, 3) := by decide +kernel
theorem D_m_mark_126 : decode M_m_mark.2.1 126 = .ok (.ladd, 1) := by decide +kernel
theorem D_m_mark_127 : decode M_m_mark.2.1 127 = .ok (.putfield 231, 3) := by decide +kernel
theorem D_m_mark_130 : decode M_m_mark.2.1 130 = .ok (.iconst 2, 1) := by decide +kernel
theorem D_m_mark_131 : decode M_m_mark.2.1 131 = .ok (.iload 4, 2) := by decide +kernel
theorem D_m_mark_133 : decode M_m_mark.2.1 133 = .ok (.imul, 1) := by decide +kernel
theorem D_m_mark_134 : decode M_m_mark.2.1 134 = .ok (.ireturn, 1) := by decide +kernel
theorem D_m_mark_135 : decode M_m_mark.2.1 135 = .ok (.aload_n 0, 1) := by decide +kernel
theorem D_m_mark_136 : decode M_m_mark.2.1 136 = .ok (.dup, 1) := by decide +kernel
theorem D_m_mark_137 : decode M_m_mark.2.1 137 = .ok (.getfield 231, 3) := by decide +kernel
theorem D_m_mark_140 : decode M_m_mark.2.1 140 = .ok (.ldc2_w 241, 3) := by decide +kernel
theorem D_m_mark_143 : decode M_m_mark.2.1 143 = .ok (.ladd, 1) := by decide +kernel
theorem D_m_mark_144 : decode M_m_mark.2.1 144 = .ok (.putfield 231, 3) := by decide +kernel
theorem D_m_mark_147 : decode M_m_mark.2.1 147 = .ok (.iload 5, 2) := by decide +kernel
theorem D_m_mark_149 : decode M_m_mark.2.1 149 = .ok (.iload_n 2, 1) := by decide +kernel
theorem D_m_mark_150 : decode M_m_mark.2.1 150 = .ok (.iadd, 1) := by decide +kernel
theorem D_m_mark_151 : decode M_m_mark.2.1 151 = .ok (.ireturn, 1) := by decide +kernel
theorem D_m_mark_152 : decode M_m_mark.2.1 152 = .ok (.aload_n 0, 1) := by decide +kernel
theorem D_m_mark_153 : decode M_m_mark.2.1 153 = .ok (.dup, 1) := by decide +kernel
theorem D_m_mark_154 : decode M_m_mark.2.1 154 = .ok (.getfield 231, 3) := by decide +kernel
theorem D_m_mark_157 : decode M_m_mark.2.1 157 = .ok (.ldc2_w 243, 3) := by decide +kernel
theorem D_m_mark_160 : decode M_m_mark.2.1 160 = .ok (.ladd, 1) := by decide +kernel
theorem D_m_mark_161 : decode M_m_mark.2.1 161 = .ok (.putfield 231, 3) := by decide +kernel
theorem D_m_mark_164 : decode M_m_mark.2.1 164 = .ok (.iload_n 3, 1) := by decide +kernel
theorem D_m_mark_165 : decode M_m_mark.2.1 165 = .ok (.aload_n 0, 1) := by decide +kernel
theorem D_m_mark_166 : decode M_m_mark.2.1 166 = .ok (.getfield 23, 3) := by decide +kernel
theorem D_m_mark_169 : decode M_m_mark.2.1 169 = .ok (.iconst 3, 1) := by decide +kernel
theorem D_m_mark_170 : decode M_m_mark.2.1 170 = .ok (.iaload, 1) := by decide +kernel
theorem D_m_mark_171 : decode M_m_mark.2.1 171 = .ok (.iadd, 1) := by decide +kernel
theorem D_m_mark_172 : decode M_m_mark.2.1 172 = .ok (.ireturn, 1) := by decide +kernel
theorem D_m_mark_173 : decode M_m_mark.2.1 173 = .ok (.aload_n 0, 1) := by decide +kernel
theorem D_m_mark_174 : decode M_m_mark.2.1 174 = .ok (.dup, 1) := by decide +kernel
theorem D_m_mark_175 : decode M_m_mark.2.1 175 = .ok (.getfield 231, 3) := by decide +kernel
theorem D_m_mark_178 : decode M_m_mark.2.1 178 = .ok (.lconst 1, 1) := by decide +kernel
theorem D_m_mark_179 : decode M_m_mark.2.1 179 = .ok (.ladd, 1) := by decide +kernel
theorem D_m_mark_180 : decode M_m_mark.2.1 180 = .ok (.putfield 231, 3) := by decide +kernel
theorem D_m_mark_183 : decode M_m_mark.2.1 183 = .ok (.iload_n 3, 1) := by decide +kernel
theorem D_m_mark_184 : decode M_m_mark.2.1 184 = .ok (.ireturn, 1) := by decide +kernel
theorem D_m_keep_0 : decode M_m_keep.2.1 0 = .ok (.iload_n 1, 1) := by decide +kernel
theorem D_m_keep_1 : decode M_m_keep.2.1 1 = .ok (.iconst 0, 1) := by decide +kernel
theorem D_m_keep_2 : decode M_m_keep.2.1 2 = .ok (.iconst 1, 1) := by decide +kernel
theorem D_m_keep_3 : decode M_m_keep.2.1 3 = .ok (.invokestatic 69, 3) := by decide +kernel
theorem D_m_keep_6 : decode M_m_keep.2.1 6 = .ok (.ifCond .ne 5, 3) := by decide +kernel
theorem D_m_keep_9 : decode M_m_keep.2.1 9 = .ok (.iconst (-1), 1) := by decide +kernel
theorem D_m_keep_10 : decode M_m_keep.2.1 10 = .ok (.ireturn, 1) := by decide +kernel
theorem D_m_keep_11 : decode M_m_keep.2.1 11 = .ok (.iconst 0, 1) := by decide +kernel
theorem D_m_keep_12 : decode M_m_keep.2.1 12 = .ok (.istore_n 2, 1) := by decide +kernel
theorem D_m_keep_13 : decode M_m_keep.2.1 13 = .ok (.iload_n 2, 1) := by decide +kernel
theorem D_m_keep_14 : decode M_m_keep.2.1 14 = .ok (.sipush 573, 3) := by decide +kernel
theorem D_m_keep_17 : decode M_m_keep.2.1 17 = .ok (.if_icmp .ge 27, 3) := by decide +kernel
theorem D_m_keep_20 : decode M_m_keep.2.1 20 = .ok (.aload_n 0, 1) := by decide +kernel
theorem D_m_keep_21 : decode M_m_keep.2.1 21 = .ok (.getfield 26, 3) := by decide +kernel
theorem D_m_keep_24 : decode M_m_keep.2.1 24 = .ok (.sipush 573, 3) := by decide +kernel
theorem D_m_keep_27 : decode M_m_keep.2.1 27 = .ok (.iload_n 1, 1) := by decide +kernel
theorem D_m_keep_28 : decode M_m_keep.2.1 28 = .ok (.imul, 1) := by decide +kernel
theorem D_m_keep_29 : decode M_m_keep.2.1 29 = .ok (.iload_n 2, 1) := by decide +kernel
theorem D_m_keep_30 : decode M_m_keep.2.1 30 = .ok (.iadd, 1) := by decide +kernel
theorem D_m_keep_31 : decode M_m_keep.2.1 31 = .ok (.aload_n 0, 1) := by decide +kernel
theorem D_m_keep_32 : decode M_m_keep.2.1 32 = .ok (.getfield 23, 3) := by decide +kernel
theorem D_m_keep_35 : decode M_m_keep.2.1 35 = .ok (.iload_n 2, 1) := by decide +kernel
theorem D_m_keep_36 : decode M_m_keep.2.1 36 = .ok (.iaload, 1) := by decide +kernel
theorem D_m_keep_37 : decode M_m_keep.2.1 37 = .ok (.iastore, 1) := by decide +kernel
theorem D_m_keep_38 : decode M_m_keep.2.1 38 = .ok (.iinc 2 1, 3) := by decide +kernel
theorem D_m_keep_41 : decode M_m_keep.2.1 41 = .ok (.goto (-28), 3) := by decide +kernel
theorem D_m_keep_44 : decode M_m_keep.2.1 44 = .ok (.aload_n 0, 1) := by decide +kernel
theorem D_m_keep_45 : decode M_m_keep.2.1 45 = .ok (.getfield 29, 3) := by decide +kernel
theorem D_m_keep_48 : decode M_m_keep.2.1 48 = .ok (.iload_n 1, 1) := by decide +kernel
theorem D_m_keep_49 : decode M_m_keep.2.1 49 = .ok (.iconst 1, 1) := by decide +kernel
theorem D_m_keep_50 : decode M_m_keep.2.1 50 = .ok (.bastore, 1) := by decide +kernel
theorem D_m_keep_51 : decode M_m_keep.2.1 51 = .ok (.aload_n 0, 1) := by decide +kernel
theorem D_m_keep_52 : decode M_m_keep.2.1 52 = .ok (.getfield 23, 3) := by decide +kernel
theorem D_m_keep_55 : decode M_m_keep.2.1 55 = .ok (.iconst 3, 1) := by decide +kernel
theorem D_m_keep_56 : decode M_m_keep.2.1 56 = .ok (.iaload, 1) := by decide +kernel
theorem D_m_keep_57 : decode M_m_keep.2.1 57 = .ok (.ireturn, 1) := by decide +kernel
theorem D_m_back_0 : decode M_m_back.2.1 0 = .ok (.iload_n 1, 1) := by decide +kernel
theorem D_m_back_1 : decode M_m_back.2.1 1 = .ok (.iconst 0, 1) := by decide +kernel
theorem D_m_back_2 : decode M_m_back.2.1 2 = .ok (.iconst 1, 1) := by decide +kernel
theorem D_m_back_3 : decode M_m_back.2.1 3 = .ok (.invokestatic 69, 3) := by decide +kernel
theorem D_m_back_6 : decode M_m_back.2.1 6 = .ok (.ifCond .ne 5, 3) := by decide +kernel
theorem D_m_back_9 : decode M_m_back.2.1 9 = .ok (.iconst (-1), 1) := by decide +kernel
theorem D_m_back_10 : decode M_m_back.2.1 10 = .ok (.ireturn, 1) := by decide +kernel
theorem D_m_back_11 : decode M_m_back.2.1 11 = .ok (.aload_n 0, 1) := by decide +kernel
theorem D_m_back_12 : decode M_m_back.2.1 12 = .ok (.getfield 29, 3) := by decide +kernel
theorem D_m_back_15 : decode M_m_back.2.1 15 = .ok (.iload_n 1, 1) := by decide +kernel
theorem D_m_back_16 : decode M_m_back.2.1 16 = .ok (.baload, 1) := by decide +kernel
theorem D_m_back_17 : decode M_m_back.2.1 17 = .ok (.ifCond .ne 6, 3) := by decide +kernel
theorem D_m_back_20 : decode M_m_back.2.1 20 = .ok (.bipush (-2), 2) := by decide +kernel
theorem D_m_back_22 : decode M_m_back.2.1 22 = .ok (.ireturn, 1) := by decide +kernel
theorem D_m_back_23 : decode M_m_back.2.1 23 = .ok (.iconst 0, 1) := by decide +kernel
theorem D_m_back_24 : decode M_m_back.2.1 24 = .ok (.istore_n 2, 1) := by decide +kernel
theorem D_m_back_25 : decode M_m_back.2.1 25 = .ok (.iload_n 2, 1) := by decide +kernel
theorem D_m_back_26 : decode M_m_back.2.1 26 = .ok (.sipush 573, 3) := by decide +kernel
theorem D_m_back_29 : decode M_m_back.2.1 29 = .ok (.if_icmp .ge 27, 3) := by decide +kernel
theorem D_m_back_32 : decode M_m_back.2.1 32 = .ok (.aload_n 0, 1) := by decide +kernel
theorem D_m_back_33 : decode M_m_back.2.1 33 = .ok (.getfield 23, 3) := by decide +kernel
theorem D_m_back_36 : decode M_m_back.2.1 36 = .ok (.iload_n 2, 1) := by decide +kernel
theorem D_m_back_37 : decode M_m_back.2.1 37 = .ok (.aload_n 0, 1) := by decide +kernel
theorem D_m_back_38 : decode M_m_back.2.1 38 = .ok (.getfield 26, 3) := by decide +kernel
theorem D_m_back_41 : decode M_m_back.2.1 41 = .ok (.sipush 573, 3) := by decide +kernel
theorem D_m_back_44 : decode M_m_back.2.1 44 = .ok (.iload_n 1, 1) := by decide +kernel
theorem D_m_back_45 : decode M_m_back.2.1 45 = .ok (.imul, 1) := by decide +kernel
theorem D_m_back_46 : decode M_m_back.2.1 46 = .ok (.iload_n 2, 1) := by decide +kernel
theorem D_m_back_47 : decode M_m_back.2.1 47 = .ok (.iadd, 1) := by decide +kernel
theorem D_m_back_48 : decode M_m_back.2.1 48 = .ok (.iaload, 1) := by decide +kernel
theorem D_m_back_49 : decode M_m_back.2.1 49 = .ok (.iastore, 1) := by decide +kernel
theorem D_m_back_50 : decode M_m_back.2.1 50 = .ok (.iinc 2 1, 3) := by decide +kernel
theorem D_m_back_53 : decode M_m_back.2.1 53 = .ok (.goto (-28), 3) := by decide +kernel
theorem D_m_back_56 : decode M_m_back.2.1 56 = .ok (.aload_n 0, 1) := by decide +kernel
theorem D_m_back_57 : decode M_m_back.2.1 57 = .ok (.getfield 23, 3) := by decide +kernel
theorem D_m_back_60 : decode M_m_back.2.1 60 = .ok (.iconst 3, 1) := by decide +kernel
theorem D_m_back_61 : decode M_m_back.2.1 61 = .ok (.iaload, 1) := by decide +kernel
theorem D_m_back_62 : decode M_m_back.2.1 62 = .ok (.ireturn, 1) := by decide +kernel
theorem D_m_count_0 : decode M_m_count.2.1 0 = .ok (.iload_n 1, 1) := by decide +kernel
theorem D_m_count_1 : decode M_m_count.2.1 1 = .ok (.tableswitch 90 0 7 #[47, 52, 57, 62, 67, 72, 77, 85], 47) := by decide +kernel
theorem D_m_count_48 : decode M_m_count.2.1 48 = .ok (.aload_n 0, 1) := by decide +kernel
theorem D_m_count_49 : decode M_m_count.2.1 49 = .ok (.getfield 73, 3) := by decide +kernel
theorem D_m_count_52 : decode M_m_count.2.1 52 = .ok (.ireturn, 1) := by decide +kernel
theorem D_m_count_53 : decode M_m_count.2.1 53 = .ok (.aload_n 0, 1) := by decide +kernel
theorem D_m_count_54 : decode M_m_count.2.1 54 = .ok (.getfield 13, 3) := by decide +kernel
theorem D_m_count_57 : decode M_m_count.2.1 57 = .ok (.ireturn, 1) := by decide +kernel
theorem D_m_count_58 : decode M_m_count.2.1 58 = .ok (.aload_n 0, 1) := by decide +kernel
theorem D_m_count_59 : decode M_m_count.2.1 59 = .ok (.getfield 17, 3) := by decide +kernel
theorem D_m_count_62 : decode M_m_count.2.1 62 = .ok (.ireturn, 1) := by decide +kernel
theorem D_m_count_63 : decode M_m_count.2.1 63 = .ok (.aload_n 0, 1) := by decide +kernel
theorem D_m_count_64 : decode M_m_count.2.1 64 = .ok (.getfield 66, 3) := by decide +kernel
theorem D_m_count_67 : decode M_m_count.2.1 67 = .ok (.ireturn, 1) := by decide +kernel
theorem D_m_count_68 : decode M_m_count.2.1 68 = .ok (.aload_n 0, 1) := by decide +kernel
theorem D_m_count_69 : decode M_m_count.2.1 69 = .ok (.getfield 140, 3) := by decide +kernel
theorem D_m_count_72 : decode M_m_count.2.1 72 = .ok (.ireturn, 1) := by decide +kernel
theorem D_m_count_73 : decode M_m_count.2.1 73 = .ok (.aload_n 0, 1) := by decide +kernel
theorem D_m_count_74 : decode M_m_count.2.1 74 = .ok (.getfield 143, 3) := by decide +kernel
theorem D_m_count_77 : decode M_m_count.2.1 77 = .ok (.ireturn, 1) := by decide +kernel
theorem D_m_count_78 : decode M_m_count.2.1 78 = .ok (.aload_n 0, 1) := by decide +kernel
theorem D_m_count_79 : decode M_m_count.2.1 79 = .ok (.getfield 23, 3) := by decide +kernel
theorem D_m_count_82 : decode M_m_count.2.1 82 = .ok (.bipush 52, 2) := by decide +kernel
theorem D_m_count_84 : decode M_m_count.2.1 84 = .ok (.iaload, 1) := by decide +kernel
theorem D_m_count_85 : decode M_m_count.2.1 85 = .ok (.ireturn, 1) := by decide +kernel
theorem D_m_count_86 : decode M_m_count.2.1 86 = .ok (.aload_n 0, 1) := by decide +kernel
theorem D_m_count_87 : decode M_m_count.2.1 87 = .ok (.getfield 76, 3) := by decide +kernel
theorem D_m_count_90 : decode M_m_count.2.1 90 = .ok (.ireturn, 1) := by decide +kernel
theorem D_m_count_91 : decode M_m_count.2.1 91 = .ok (.iconst (-1), 1) := by decide +kernel
theorem D_m_count_92 : decode M_m_count.2.1 92 = .ok (.ireturn, 1) := by decide +kernel
theorem D_m_trace_0 : decode M_m_trace.2.1 0 = .ok (.aload_n 0, 1) := by decide +kernel
theorem D_m_trace_1 : decode M_m_trace.2.1 1 = .ok (.getfield 231, 3) := by decide +kernel
theorem D_m_trace_4 : decode M_m_trace.2.1 4 = .ok (.lreturn, 1) := by decide +kernel
