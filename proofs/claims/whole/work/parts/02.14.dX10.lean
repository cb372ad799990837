theorem dX10_hold_7 : decode cX10_hold 7 = .ok (.iload_n 1, 1) := by decide +kernel
theorem dX10_hold_8 : decode cX10_hold 8 = .ok (.ifCond .eq 18, 3) := by decide +kernel
theorem dX10_hold_11 : decode cX10_hold 11 = .ok (.aload_n 0, 1) := by decide +kernel
theorem dX10_hold_12 : decode cX10_hold 12 = .ok (.getfield 25, 3) := by decide +kernel
theorem dX10_hold_15 : decode cX10_hold 15 = .ok (.iload_n 2, 1) := by decide +kernel
theorem dX10_hold_16 : decode cX10_hold 16 = .ok (.aload_n 0, 1) := by decide +kernel
theorem dX10_hold_17 : decode cX10_hold 17 = .ok (.getfield 80, 3) := by decide +kernel
theorem dX10_hold_20 : decode cX10_hold 20 = .ok (.iload_n 2, 1) := by decide +kernel
theorem dX10_hold_21 : decode cX10_hold 21 = .ok (.iaload, 1) := by decide +kernel
theorem dX10_hold_22 : decode cX10_hold 22 = .ok (.iastore, 1) := by decide +kernel
theorem dX10_hold_23 : decode cX10_hold 23 = .ok (.goto 15, 3) := by decide +kernel
theorem dX10_hold_26 : decode cX10_hold 26 = .ok (.aload_n 0, 1) := by decide +kernel
theorem dX10_hold_27 : decode cX10_hold 27 = .ok (.getfield 80, 3) := by decide +kernel
theorem dX10_hold_30 : decode cX10_hold 30 = .ok (.iload_n 2, 1) := by decide +kernel
theorem dX10_hold_31 : decode cX10_hold 31 = .ok (.aload_n 0, 1) := by decide +kernel
theorem dX10_hold_32 : decode cX10_hold 32 = .ok (.getfield 25, 3) := by decide +kernel
theorem dX10_hold_35 : decode cX10_hold 35 = .ok (.iload_n 2, 1) := by decide +kernel
theorem dX10_hold_36 : decode cX10_hold 36 = .ok (.iaload, 1) := by decide +kernel
theorem dX10_hold_37 : decode cX10_hold 37 = .ok (.iastore, 1) := by decide +kernel
theorem dX10_hold_38 : decode cX10_hold 38 = .ok (.iinc 2 1, 3) := by decide +kernel
theorem dX10_hold_41 : decode cX10_hold 41 = .ok (.goto (-39), 3) := by decide +kernel
theorem dX10_hold_44 : decode cX10_hold 44 = .ok (.return_, 1) := by decide +kernel
theorem dX10_judge_0 : decode cX10_judge 0 = .ok (.iload_n 1, 1) := by decide +kernel
theorem dX10_judge_1 : decode cX10_judge 1 = .ok (.i2l, 1) := by decide +kernel
theorem dX10_judge_2 : decode cX10_judge 2 = .ok (.lconst 1, 1) := by decide +kernel
theorem dX10_judge_3 : decode cX10_judge 3 = .ok (.ldc2_w 177, 3) := by decide +kernel
theorem dX10_judge_6 : decode cX10_judge 6 = .ok (.invokestatic 97, 3) := by decide +kernel
theorem dX10_judge_9 : decode cX10_judge 9 = .ok (.ifCond .eq 19, 3) := by decide +kernel
theorem dX10_judge_12 : decode cX10_judge 12 = .ok (.lload_n 2, 1) := by decide +kernel
theorem dX10_judge_13 : decode cX10_judge 13 = .ok (.lconst 0, 1) := by decide +kernel
theorem dX10_judge_14 : decode cX10_judge 14 = .ok (.iconst 2, 1) := by decide +kernel
theorem dX10_judge_15 : decode cX10_judge 15 = .ok (.iload_n 1, 1) := by decide +kernel
theorem dX10_judge_16 : decode cX10_judge 16 = .ok (.imul, 1) := by decide +kernel
theorem dX10_judge_17 : decode cX10_judge 17 = .ok (.invokestatic 264, 3) := by decide +kernel
theorem dX10_judge_20 : decode cX10_judge 20 = .ok (.lconst 1, 1) := by decide +kernel
theorem dX10_judge_21 : decode cX10_judge 21 = .ok (.lsub, 1) := by decide +kernel
theorem dX10_judge_22 : decode cX10_judge 22 = .ok (.invokestatic 97, 3) := by decide +kernel
theorem dX10_judge_25 : decode cX10_judge 25 = .ok (.ifCond .ne 6, 3) := by decide +kernel
theorem dX10_judge_28 : decode cX10_judge 28 = .ok (.bipush (-2), 2) := by decide +kernel
theorem dX10_judge_30 : decode cX10_judge 30 = .ok (.ireturn, 1) := by decide +kernel
theorem dX10_judge_31 : decode cX10_judge 31 = .ok (.aload_n 0, 1) := by decide +kernel
theorem dX10_judge_32 : decode cX10_judge 32 = .ok (.iconst 0, 1) := by decide +kernel
theorem dX10_judge_33 : decode cX10_judge 33 = .ok (.invokevirtual 268, 3) := by decide +kernel
theorem dX10_judge_36 : decode cX10_judge 36 = .ok (.bipush (-9), 2) := by decide +kernel
theorem dX10_judge_38 : decode cX10_judge 38 = .ok (.istore 4, 2) := by decide +kernel
theorem dX10_judge_40 : decode cX10_judge 40 = .ok (.iconst 0, 1) := by decide +kernel
theorem dX10_judge_41 : decode cX10_judge 41 = .ok (.istore 5, 2) := by decide +kernel
theorem dX10_judge_43 : decode cX10_judge 43 = .ok (.iload 5, 2) := by decide +kernel
theorem dX10_judge_45 : decode cX10_judge 45 = .ok (.iload_n 1, 1) := by decide +kernel
theorem dX10_judge_46 : decode cX10_judge 46 = .ok (.if_icmp .ge 121, 3) := by decide +kernel
theorem dX10_judge_49 : decode cX10_judge 49 = .ok (.iload 4, 2) := by decide +kernel
theorem dX10_judge_51 : decode cX10_judge 51 = .ok (.bipush (-9), 2) := by decide +kernel
theorem dX10_judge_53 : decode cX10_judge 53 = .ok (.if_icmp .ne 114, 3) := by decide +kernel
theorem dX10_judge_56 : decode cX10_judge 56 = .ok (.lload_n 2, 1) := by decide +kernel
theorem dX10_judge_57 : decode cX10_judge 57 = .ok (.iconst 2, 1) := by decide +kernel
theorem dX10_judge_58 : decode cX10_judge 58 = .ok (.iload_n 1, 1) := by decide +kernel
theorem dX10_judge_59 : decode cX10_judge 59 = .ok (.iconst 1, 1) := by decide +kernel
theorem dX10_judge_60 : decode cX10_judge 60 = .ok (.isub, 1) := by decide +kernel
theorem dX10_judge_61 : decode cX10_judge 61 = .ok (.iload 5, 2) := by decide +kernel
theorem dX10_judge_63 : decode cX10_judge 63 = .ok (.isub, 1) := by decide +kernel
theorem dX10_judge_64 : decode cX10_judge 64 = .ok (.imul, 1) := by decide +kernel
theorem dX10_judge_65 : decode cX10_judge 65 = .ok (.invokestatic 264, 3) := by decide +kernel
theorem dX10_judge_68 : decode cX10_judge 68 = .ok (.ldiv, 1) := by decide +kernel
theorem dX10_judge_69 : decode cX10_judge 69 = .ok (.ldc2_w 271, 3) := by decide +kernel
theorem dX10_judge_72 : decode cX10_judge 72 = .ok (.lrem, 1) := by decide +kernel
theorem dX10_judge_73 : decode cX10_judge 73 = .ok (.l2i, 1) := by decide +kernel
theorem dX10_judge_74 : decode cX10_judge 74 = .ok (.istore 6, 2) := by decide +kernel
theorem dX10_judge_76 : decode cX10_judge 76 = .ok (.aload_n 0, 1) := by decide +kernel
theorem dX10_judge_77 : decode cX10_judge 77 = .ok (.iload 6, 2) := by decide +kernel
theorem dX10_judge_79 : decode cX10_judge 79 = .ok (.bipush 10, 2) := by decide +kernel
theorem dX10_judge_81 : decode cX10_judge 81 = .ok (.idiv, 1) := by decide +kernel
theorem dX10_judge_82 : decode cX10_judge 82 = .ok (.invokevirtual 174, 3) := by decide +kernel
theorem dX10_judge_85 : decode cX10_judge 85 = .ok (.ifCond .eq 39, 3) := by decide +kernel
theorem dX10_judge_88 : decode cX10_judge 88 = .ok (.aload_n 0, 1) := by decide +kernel
theorem dX10_judge_89 : decode cX10_judge 89 = .ok (.getfield 25, 3) := by decide +kernel
theorem dX10_judge_92 : decode cX10_judge 92 = .ok (.iload 6, 2) := by decide +kernel
theorem dX10_judge_94 : decode cX10_judge 94 = .ok (.bipush 10, 2) := by decide +kernel
theorem dX10_judge_96 : decode cX10_judge 96 = .ok (.idiv, 1) := by decide +kernel
theorem dX10_judge_97 : decode cX10_judge 97 = .ok (.iaload, 1) := by decide +kernel
theorem dX10_judge_98 : decode cX10_judge 98 = .ok (.bipush (-9), 2) := by decide +kernel
theorem dX10_judge_100 : decode cX10_judge 100 = .ok (.if_icmp .ne 24, 3) := by decide +kernel
theorem dX10_judge_103 : decode cX10_judge 103 = .ok (.aload_n 0, 1) := by decide +kernel
theorem dX10_judge_104 : decode cX10_judge 104 = .ok (.iload 6, 2) := by decide +kernel
theorem dX10_judge_106 : decode cX10_judge 106 = .ok (.bipush 10, 2) := by decide +kernel
theorem dX10_judge_108 : decode cX10_judge 108 = .ok (.idiv, 1) := by decide +kernel
theorem dX10_judge_109 : decode cX10_judge 109 = .ok (.iload 6, 2) := by decide +kernel
theorem dX10_judge_111 : decode cX10_judge 111 = .ok (.bipush 10, 2) := by decide +kernel
theorem dX10_judge_113 : decode cX10_judge 113 = .ok (.irem, 1) := by decide +kernel
theorem dX10_judge_114 : decode cX10_judge 114 = .ok (.invokevirtual 190, 3) := by decide +kernel
theorem dX10_judge_117 : decode cX10_judge 117 = .ok (.ifCond .eq 7, 3) := by decide +kernel
theorem dX10_judge_120 : decode cX10_judge 120 = .ok (.iconst 1, 1) := by decide +kernel
theorem dX10_judge_121 : decode cX10_judge 121 = .ok (.goto 4, 3) := by decide +kernel
theorem dX10_judge_124 : decode cX10_judge 124 = .ok (.iconst 0, 1) := by decide +kernel
theorem dX10_judge_125 : decode cX10_judge 125 = .ok (.istore 7, 2) := by decide +kernel
theorem dX10_judge_127 : decode cX10_judge 127 = .ok (.iload 7, 2) := by decide +kernel
theorem dX10_judge_129 : decode cX10_judge 129 = .ok (.ifCond .eq 8, 3) := by decide +kernel
theorem dX10_judge_132 : decode cX10_judge 132 = .ok (.bipush (-9), 2) := by decide +kernel
theorem dX10_judge_134 : decode cX10_judge 134 = .ok (.goto 5, 3) := by decide +kernel
theorem dX10_judge_137 : decode cX10_judge 137 = .ok (.iload 5, 2) := by decide +kernel
theorem dX10_judge_139 : decode cX10_judge 139 = .ok (.istore 4, 2) := by decide +kernel
theorem dX10_judge_141 : decode cX10_judge 141 = .ok (.iload 7, 2) := by decide +kernel
theorem dX10_judge_143 : decode cX10_judge 143 = .ok (.ifCond .eq 18, 3) := by decide +kernel
theorem dX10_judge_146 : decode cX10_judge 146 = .ok (.aload_n 0, 1) := by decide +kernel
theorem dX10_judge_147 : decode cX10_judge 147 = .ok (.getfield 25, 3) := by decide +kernel
theorem dX10_judge_150 : decode cX10_judge 150 = .ok (.iload 6, 2) := by decide +kernel
theorem dX10_judge_152 : decode cX10_judge 152 = .ok (.bipush 10, 2) := by decide +kernel
theorem dX10_judge_154 : decode cX10_judge 154 = .ok (.idiv, 1) := by decide +kernel
theorem dX10_judge_155 : decode cX10_judge 155 = .ok (.iload 6, 2) := by decide +kernel
theorem dX10_judge_157 : decode cX10_judge 157 = .ok (.bipush 10, 2) := by decide +kernel
theorem dX10_judge_159 : decode cX10_judge 159 = .ok (.irem, 1) := by decide +kernel
theorem dX10_judge_160 : decode cX10_judge 160 = .ok (.iastore, 1) := by decide +kernel
theorem dX10_judge_161 : decode cX10_judge 161 = .ok (.iinc 5 1, 3) := by decide +kernel
theorem dX10_judge_164 : decode cX10_judge 164 = .ok (.goto (-121), 3) := by decide +kernel
theorem dX10_judge_167 : decode cX10_judge 167 = .ok (.aload_n 0, 1) := by decide +kernel
theorem dX10_judge_168 : decode cX10_judge 168 = .ok (.iconst 1, 1) := by decide +kernel
theorem dX10_judge_169 : decode cX10_judge 169 = .ok (.invokevirtual 268, 3) := by decide +kernel
theorem dX10_judge_172 : decode cX10_judge 172 = .ok (.iload 4, 2) := by decide +kernel
theorem dX10_judge_174 : decode cX10_judge 174 = .ok (.ireturn, 1) := by decide +kernel
theorem dX10_hear_0 : decode cX10_hear 0 = .ok (.iload_n 1, 1) := by decide +kernel
theorem dX10_hear_1 : decode cX10_hear 1 = .ok (.i2l, 1) := by decide +kernel
theorem dX10_hear_2 : decode cX10_hear 2 = .ok (.lconst 0, 1) := by decide +kernel
theorem dX10_hear_3 : decode cX10_hear 3 = .ok (.ldc2_w 182, 3) := by decide +kernel
theorem dX10_hear_6 : decode cX10_hear 6 = .ok (.invokestatic 97, 3) := by decide +kernel
theorem dX10_hear_9 : decode cX10_hear 9 = .ok (.ifCond .eq 21, 3) := by decide +kernel
theorem dX10_hear_12 : decode cX10_hear 12 = .ok (.iload_n 2, 1) := by decide +kernel
theorem dX10_hear_13 : decode cX10_hear 13 = .ok (.i2l, 1) := by decide +kernel
theorem dX10_hear_14 : decode cX10_hear 14 = .ok (.lconst 0, 1) := by decide +kernel
theorem dX10_hear_15 : decode cX10_hear 15 = .ok (.iconst 1, 1) := by decide +kernel
theorem dX10_hear_16 : decode cX10_hear 16 = .ok (.aload_n 0, 1) := by decide +kernel
theorem dX10_hear_17 : decode cX10_hear 17 = .ok (.getfield 132, 3) := by decide +kernel
theorem dX10_hear_20 : decode cX10_hear 20 = .ok (.ishl, 1) := by decide +kernel
theorem dX10_hear_21 : decode cX10_hear 21 = .ok (.iconst 1, 1) := by decide +kernel
theorem dX10_hear_22 : decode cX10_hear 22 = .ok (.isub, 1) := by decide +kernel
theorem dX10_hear_23 : decode cX10_hear 23 = .ok (.i2l, 1) := by decide +kernel
theorem dX10_hear_24 : decode cX10_hear 24 = .ok (.invokestatic 97, 3) := by decide +kernel
theorem dX10_hear_27 : decode cX10_hear 27 = .ok (.ifCond .ne 6, 3) := by decide +kernel
theorem dX10_hear_30 : decode cX10_hear 30 = .ok (.bipush (-2), 2) := by decide +kernel
theorem dX10_hear_32 : decode cX10_hear 32 = .ok (.ireturn, 1) := by decide +kernel
theorem dX10_hear_33 : decode cX10_hear 33 = .ok (.aload_n 0, 1) := by decide +kernel
theorem dX10_hear_34 : decode cX10_hear 34 = .ok (.getfield 273, 3) := by decide +kernel
theorem dX10_hear_37 : decode cX10_hear 37 = .ok (.bipush 6, 2) := by decide +kernel
theorem dX10_hear_39 : decode cX10_hear 39 = .ok (.if_icmp .ne 6, 3) := by decide +kernel
theorem dX10_hear_42 : decode cX10_hear 42 = .ok (.bipush (-4), 2) := by decide +kernel
theorem dX10_hear_44 : decode cX10_hear 44 = .ok (.ireturn, 1) := by decide +kernel
theorem dX10_hear_45 : decode cX10_hear 45 = .ok (.aload_n 0, 1) := by decide +kernel
theorem dX10_hear_46 : decode cX10_hear 46 = .ok (.getfield 83, 3) := by decide +kernel
theorem dX10_hear_49 : decode cX10_hear 49 = .ok (.aload_n 0, 1) := by decide +kernel
theorem dX10_hear_50 : decode cX10_hear 50 = .ok (.getfield 273, 3) := by decide +kernel
theorem dX10_hear_53 : decode cX10_hear 53 = .ok (.iload_n 1, 1) := by decide +kernel
theorem dX10_hear_54 : decode cX10_hear 54 = .ok (.iastore, 1) := by decide +kernel
theorem dX10_hear_55 : decode cX10_hear 55 = .ok (.aload_n 0, 1) := by decide +kernel
theorem dX10_hear_56 : decode cX10_hear 56 = .ok (.getfield 86, 3) := by decide +kernel
theorem dX10_hear_59 : decode cX10_hear 59 = .ok (.aload_n 0, 1) := by decide +kernel
theorem dX10_hear_60 : decode cX10_hear 60 = .ok (.getfield 273, 3) := by decide +kernel
theorem dX10_hear_63 : decode cX10_hear 63 = .ok (.iload_n 2, 1) := by decide +kernel
theorem dX10_hear_64 : decode cX10_hear 64 = .ok (.iastore, 1) := by decide +kernel
theorem dX10_hear_65 : decode cX10_hear 65 = .ok (.aload_n 0, 1) := by decide +kernel
theorem dX10_hear_66 : decode cX10_hear 66 = .ok (.dup, 1) := by decide +kernel
theorem dX10_hear_67 : decode cX10_hear 67 = .ok (.getfield 273, 3) := by decide +kernel
theorem dX10_hear_70 : decode cX10_hear 70 = .ok (.iconst 1, 1) := by decide +kernel
theorem dX10_hear_71 : decode cX10_hear 71 = .ok (.iadd, 1) := by decide +kernel
theorem dX10_hear_72 : decode cX10_hear 72 = .ok (.putfield 273, 3) := by decide +kernel
theorem dX10_hear_75 : decode cX10_hear 75 = .ok (.aload_n 0, 1) := by decide +kernel
theorem dX10_hear_76 : decode cX10_hear 76 = .ok (.getfield 273, 3) := by decide +kernel
theorem dX10_hear_79 : decode cX10_hear 79 = .ok (.ireturn, 1) := by decide +kernel
theorem dX10_unhear_0 : decode cX10_unhear 0 = .ok (.aload_n 0, 1) := by decide +kernel
theorem dX10_unhear_1 : decode cX10_unhear 1 = .ok (.getfield 273, 3) := by decide +kernel
theorem dX10_unhear_4 : decode cX10_unhear 4 = .ok (.istore_n 1, 1) := by decide +kernel
theorem dX10_unhear_5 : decode cX10_unhear 5 = .ok (.aload_n 0, 1) := by decide +kernel
theorem dX10_unhear_6 : decode cX10_unhear 6 = .ok (.iconst 0, 1) := by decide +kernel
theorem dX10_unhear_7 : decode cX10_unhear 7 = .ok (.putfield 273, 3) := by decide +kernel
theorem dX10_unhear_10 : decode cX10_unhear 10 = .ok (.iload_n 1, 1) := by decide +kernel
theorem dX10_unhear_11 : decode cX10_unhear 11 = .ok (.ireturn, 1) := by decide +kernel
theorem dX10_isHeard_0 : decode cX10_isHeard 0 = .ok (.iconst 1, 1) := by decide +kernel
theorem dX10_isHeard_1 : decode cX10_isHeard 1 = .ok (.istore_n 1, 1) := by decide +kernel
theorem dX10_isHeard_2 : decode cX10_isHeard 2 = .ok (.iconst 0, 1) := by decide +kernel
theorem dX10_isHeard_3 : decode cX10_isHeard 3 = .ok (.istore_n 2, 1) := by decide +kernel
theorem dX10_isHeard_4 : decode cX10_isHeard 4 = .ok (.iload_n 2, 1) := by decide +kernel
theorem dX10_isHeard_5 : decode cX10_isHeard 5 = .ok (.aload_n 0, 1) := by decide +kernel
theorem dX10_isHeard_6 : decode cX10_isHeard 6 = .ok (.getfield 273, 3) := by decide +kernel
theorem dX10_isHeard_9 : decode cX10_isHeard 9 = .ok (.if_icmp .ge 67, 3) := by decide +kernel
theorem dX10_isHeard_12 : decode cX10_isHeard 12 = .ok (.iload_n 1, 1) := by decide +kernel
theorem dX10_isHeard_13 : decode cX10_isHeard 13 = .ok (.ifCond .eq 63, 3) := by decide +kernel
theorem dX10_isHeard_16 : decode cX10_isHeard 16 = .ok (.iconst 0, 1) := by decide +kernel
theorem dX10_isHeard_17 : decode cX10_isHeard 17 = .ok (.istore_n 3, 1) := by decide +kernel
theorem dX10_isHeard_18 : decode cX10_isHeard 18 = .ok (.iload_n 3, 1) := by decide +kernel
theorem dX10_isHeard_19 : decode cX10_isHeard 19 = .ok (.aload_n 0, 1) := by decide +kernel
theorem dX10_isHeard_20 : decode cX10_isHeard 20 = .ok (.getfield 132, 3) := by decide +kernel
theorem dX10_isHeard_23 : decode cX10_isHeard 23 = .ok (.if_icmp .ge 47, 3) := by decide +kernel
theorem dX10_isHeard_26 : decode cX10_isHeard 26 = .ok (.iload_n 1, 1) := by decide +kernel
theorem dX10_isHeard_27 : decode cX10_isHeard 27 = .ok (.ifCond .eq 35, 3) := by decide +kernel
theorem dX10_isHeard_30 : decode cX10_isHeard 30 = .ok (.aload_n 0, 1) := by decide +kernel
theorem dX10_isHeard_31 : decode cX10_isHeard 31 = .ok (.getfield 56, 3) := by decide +kernel
theorem dX10_isHeard_34 : decode cX10_isHeard 34 = .ok (.iload_n 3, 1) := by decide +kernel
theorem dX10_isHeard_35 : decode cX10_isHeard 35 = .ok (.iaload, 1) := by decide +kernel
theorem dX10_isHeard_36 : decode cX10_isHeard 36 = .ok (.aload_n 0, 1) := by decide +kernel
theorem dX10_isHeard_37 : decode cX10_isHeard 37 = .ok (.getfield 83, 3) := by decide +kernel
theorem dX10_isHeard_40 : decode cX10_isHeard 40 = .ok (.iload_n 2, 1) := by decide +kernel
theorem dX10_isHeard_41 : decode cX10_isHeard 41 = .ok (.iaload, 1) := by decide +kernel
theorem dX10_isHeard_42 : decode cX10_isHeard 42 = .ok (.invokestatic 160, 3) := by decide +kernel
theorem dX10_isHeard_45 : decode cX10_isHeard 45 = .ok (.aload_n 0, 1) := by decide +kernel
theorem dX10_isHeard_46 : decode cX10_isHeard 46 = .ok (.getfield 86, 3) := by decide +kernel
theorem dX10_isHeard_49 : decode cX10_isHeard 49 = .ok (.iload_n 2, 1) := by decide +kernel
theorem dX10_isHeard_50 : decode cX10_isHeard 50 = .ok (.iaload, 1) := by decide +kernel
theorem dX10_isHeard_51 : decode cX10_isHeard 51 = .ok (.iload_n 3, 1) := by decide +kernel
theorem dX10_isHeard_52 : decode cX10_isHeard 52 = .ok (.invokestatic 160, 3) := by decide +kernel
theorem dX10_isHeard_55 : decode cX10_isHeard 55 = .ok (.if_icmp .ne 7, 3) := by decide +kernel
theorem dX10_isHeard_58 : decode cX10_isHeard 58 = .ok (.iconst 1, 1) := by decide +kernel
theorem dX10_isHeard_59 : decode cX10_isHeard 59 = .ok (.goto 4, 3) := by decide +kernel
theorem dX10_isHeard_62 : decode cX10_isHeard 62 = .ok (.iconst 0, 1) := by decide +kernel
theorem dX10_isHeard_63 : decode cX10_isHeard 63 = .ok (.istore_n 1, 1) := by decide +kernel
theorem dX10_isHeard_64 : decode cX10_isHeard 64 = .ok (.iinc 3 1, 3) := by decide +kernel
theorem dX10_isHeard_67 : decode cX10_isHeard 67 = .ok (.goto (-49), 3) := by decide +kernel
theorem dX10_isHeard_70 : decode cX10_isHeard 70 = .ok (.iinc 2 1, 3) := by decide +kernel
theorem dX10_isHeard_73 : decode cX10_isHeard 73 = .ok (.goto (-69), 3) := by decide +kernel
theorem dX10_isHeard_76 : decode cX10_isHeard 76 = .ok (.iload_n 1, 1) := by decide +kernel
theorem dX10_isHeard_77 : decode cX10_isHeard 77 = .ok (.ireturn, 1) := by decide +kernel
theorem dX10_fit_0 : decode cX10_fit 0 = .ok (.iload_n 1, 1) := by decide +kernel
theorem dX10_fit_1 : decode cX10_fit 1 = .ok (.i2l, 1) := by decide +kernel
theorem dX10_fit_2 : decode cX10_fit 2 = .ok (.lconst 0, 1) := by decide +kernel
theorem dX10_fit_3 : decode cX10_fit 3 = .ok (.ldc2_w 276, 3) := by decide +kernel
theorem dX10_fit_6 : decode cX10_fit 6 = .ok (.invokestatic 97, 3) := by decide +kernel
theorem dX10_fit_9 : decode cX10_fit 9 = .ok (.ifCond .ne 6, 3) := by decide +kernel
theorem dX10_fit_12 : decode cX10_fit 12 = .ok (.bipush (-2), 2) := by decide +kernel
theorem dX10_fit_14 : decode cX10_fit 14 = .ok (.ireturn, 1) := by decide +kernel
theorem dX10_fit_15 : decode cX10_fit 15 = .ok (.aload_n 0, 1) := by decide +kernel
theorem dX10_fit_16 : decode cX10_fit 16 = .ok (.iconst 0, 1) := by decide +kernel
theorem dX10_fit_17 : decode cX10_fit 17 = .ok (.invokevirtual 237, 3) := by decide +kernel
theorem dX10_fit_20 : decode cX10_fit 20 = .ok (.iload_n 1, 1) := by decide +kernel
theorem dX10_fit_21 : decode cX10_fit 21 = .ok (.ifCond .ne 10, 3) := by decide +kernel
theorem dX10_fit_24 : decode cX10_fit 24 = .ok (.aload_n 0, 1) := by decide +kernel
theorem dX10_fit_25 : decode cX10_fit 25 = .ok (.getfield 218, 3) := by decide +kernel
theorem dX10_fit_28 : decode cX10_fit 28 = .ok (.goto 42, 3) := by decide +kernel
theorem dX10_fit_31 : decode cX10_fit 31 = .ok (.aload_n 0, 1) := by decide +kernel
theorem dX10_fit_32 : decode cX10_fit 32 = .ok (.getfield 218, 3) := by decide +kernel
theorem dX10_fit_35 : decode cX10_fit 35 = .ok (.ifCond .ne 8, 3) := by decide +kernel
theorem dX10_fit_38 : decode cX10_fit 38 = .ok (.bipush (-9), 2) := by decide +kernel
theorem dX10_fit_40 : decode cX10_fit 40 = .ok (.goto 30, 3) := by decide +kernel
theorem dX10_fit_43 : decode cX10_fit 43 = .ok (.iload_n 1, 1) := by decide +kernel
theorem dX10_fit_44 : decode cX10_fit 44 = .ok (.iconst 1, 1) := by decide +kernel
theorem dX10_fit_45 : decode cX10_fit 45 = .ok (.if_icmp .ne 10, 3) := by decide +kernel
theorem dX10_fit_48 : decode cX10_fit 48 = .ok (.aload_n 0, 1) := by decide +kernel
theorem dX10_fit_49 : decode cX10_fit 49 = .ok (.getfield 221, 3) := by decide +kernel
theorem dX10_fit_52 : decode cX10_fit 52 = .ok (.goto 18, 3) := by decide +kernel
theorem dX10_fit_55 : decode cX10_fit 55 = .ok (.iconst 1, 1) := by decide +kernel
theorem dX10_fit_56 : decode cX10_fit 56 = .ok (.aload_n 0, 1) := by decide +kernel
theorem dX10_fit_57 : decode cX10_fit 57 = .ok (.getfield 135, 3) := by decide +kernel
theorem dX10_fit_60 : decode cX10_fit 60 = .ok (.ishl, 1) := by decide +kernel
theorem dX10_fit_61 : decode cX10_fit 61 = .ok (.iconst 1, 1) := by decide +kernel
theorem dX10_fit_62 : decode cX10_fit 62 = .ok (.isub, 1) := by decide +kernel
theorem dX10_fit_63 : decode cX10_fit 63 = .ok (.aload_n 0, 1) := by decide +kernel
theorem dX10_fit_64 : decode cX10_fit 64 = .ok (.getfield 224, 3) := by decide +kernel
theorem dX10_fit_67 : decode cX10_fit 67 = .ok (.iconst (-1), 1) := by decide +kernel
theorem dX10_fit_68 : decode cX10_fit 68 = .ok (.ixor, 1) := by decide +kernel
theorem dX10_fit_69 : decode cX10_fit 69 = .ok (.iand, 1) := by decide +kernel
theorem dX10_fit_70 : decode cX10_fit 70 = .ok (.ireturn, 1) := by decide +kernel
theorem dX10_common_0 : decode cX10_common 0 = .ok (.iload_n 0, 1) := by decide +kernel
theorem dX10_common_1 : decode cX10_common 1 = .ok (.istore_n 2, 1) := by decide +kernel
theorem dX10_common_2 : decode cX10_common 2 = .ok (.iload_n 1, 1) := by decide +kernel
theorem dX10_common_3 : decode cX10_common 3 = .ok (.istore_n 3, 1) := by decide +kernel
theorem dX10_common_4 : decode cX10_common 4 = .ok (.iload_n 3, 1) := by decide +kernel
theorem dX10_common_5 : decode cX10_common 5 = .ok (.ifCond .eq 16, 3) := by decide +kernel
theorem dX10_common_8 : decode cX10_common 8 = .ok (.iload_n 2, 1) := by decide +kernel
theorem dX10_common_9 : decode cX10_common 9 = .ok (.iload_n 3, 1) := by decide +kernel
theorem dX10_common_10 : decode cX10_common 10 = .ok (.irem, 1) := by decide +kernel
theorem dX10_common_11 : decode cX10_common 11 = .ok (.istore 4, 2) := by decide +kernel
theorem dX10_common_13 : decode cX10_common 13 = .ok (.iload_n 3, 1) := by decide +kernel
theorem dX10_common_14 : decode cX10_common 14 = .ok (.istore_n 2, 1) := by decide +kernel
theorem dX10_common_15 : decode cX10_common 15 = .ok (.iload 4, 2) := by decide +kernel
theorem dX10_common_17 : decode cX10_common 17 = .ok (.istore_n 3, 1) := by decide +kernel
theorem dX10_common_18 : decode cX10_common 18 = .ok (.goto (-14), 3) := by decide +kernel
theorem dX10_common_21 : decode cX10_common 21 = .ok (.iload_n 2, 1) := by decide +kernel
theorem dX10_common_22 : decode cX10_common 22 = .ok (.ireturn, 1) := by decide +kernel
theorem dX10_likely_0 : decode cX10_likely 0 = .ok (.iload_n 1, 1) := by decide +kernel
theorem dX10_likely_1 : decode cX10_likely 1 = .ok (.i2l, 1) := by decide +kernel
theorem dX10_likely_2 : decode cX10_likely 2 = .ok (.lconst 0, 1) := by decide +kernel
theorem dX10_likely_3 : decode cX10_likely 3 = .ok (.ldc2_w 182, 3) := by decide +kernel
theorem dX10_likely_6 : decode cX10_likely 6 = .ok (.invokestatic 97, 3) := by decide +kernel
theorem dX10_likely_9 : decode cX10_likely 9 = .ok (.ifCond .ne 6, 3) := by decide +kernel
theorem dX10_likely_12 : decode cX10_likely 12 = .ok (.bipush (-2), 2) := by decide +kernel
theorem dX10_likely_14 : decode cX10_likely 14 = .ok (.ireturn, 1) := by decide +kernel
theorem dX10_likely_15 : decode cX10_likely 15 = .ok (.aload_n 0, 1) := by decide +kernel
theorem dX10_likely_16 : decode cX10_likely 16 = .ok (.iconst 0, 1) := by decide +kernel
theorem dX10_likely_17 : decode cX10_likely 17 = .ok (.invokevirtual 237, 3) := by decide +kernel
theorem dX10_likely_20 : decode cX10_likely 20 = .ok (.aload_n 0, 1) := by decide +kernel
theorem dX10_likely_21 : decode cX10_likely 21 = .ok (.getfield 218, 3) := by decide +kernel
theorem dX10_likely_24 : decode cX10_likely 24 = .ok (.ifCond .ne 6, 3) := by decide +kernel
theorem dX10_likely_27 : decode cX10_likely 27 = .ok (.bipush (-3), 2) := by decide +kernel
theorem dX10_likely_29 : decode cX10_likely 29 = .ok (.ireturn, 1) := by decide +kernel
theorem dX10_likely_30 : decode cX10_likely 30 = .ok (.aload_n 0, 1) := by decide +kernel
theorem dX10_likely_31 : decode cX10_likely 31 = .ok (.getfield 44, 3) := by decide +kernel
theorem dX10_likely_34 : decode cX10_likely 34 = .ok (.iload_n 1, 1) := by decide +kernel
theorem dX10_likely_35 : decode cX10_likely 35 = .ok (.iaload, 1) := by decide +kernel
theorem dX10_likely_36 : decode cX10_likely 36 = .ok (.aload_n 0, 1) := by decide +kernel
theorem dX10_likely_37 : decode cX10_likely 37 = .ok (.getfield 218, 3) := by decide +kernel
theorem dX10_likely_40 : decode cX10_likely 40 = .ok (.invokestatic 278, 3) := by decide +kernel
theorem dX10_likely_43 : decode cX10_likely 43 = .ok (.istore_n 3, 1) := by decide +kernel
theorem dX10_likely_44 : decode cX10_likely 44 = .ok (.iload_n 2, 1) := by decide +kernel
theorem dX10_likely_45 : decode cX10_likely 45 = .ok (.ifCond .eq 14, 3) := by decide +kernel
theorem dX10_likely_48 : decode cX10_likely 48 = .ok (.aload_n 0, 1) := by decide +kernel
theorem dX10_likely_49 : decode cX10_likely 49 = .ok (.getfield 44, 3) := by decide +kernel
theorem dX10_likely_52 : decode cX10_likely 52 = .ok (.iload_n 1, 1) := by decide +kernel
theorem dX10_likely_53 : decode cX10_likely 53 = .ok (.iaload, 1) := by decide +kernel
theorem dX10_likely_54 : decode cX10_likely 54 = .ok (.iload_n 3, 1) := by decide +kernel
theorem dX10_likely_55 : decode cX10_likely 55 = .ok (.idiv, 1) := by decide +kernel
theorem dX10_likely_56 : decode cX10_likely 56 = .ok (.goto 9, 3) := by decide +kernel
theorem dX10_likely_59 : decode cX10_likely 59 = .ok (.aload_n 0, 1) := by decide +kernel
theorem dX10_likely_60 : decode cX10_likely 60 = .ok (.getfield 218, 3) := by decide +kernel
theorem dX10_likely_63 : decode cX10_likely 63 = .ok (.iload_n 3, 1) := by decide +kernel
theorem dX10_likely_64 : decode cX10_likely 64 = .ok (.idiv, 1) := by decide +kernel
theorem dX10_likely_65 : decode cX10_likely 65 = .ok (.ireturn, 1) := by decide +kernel
theorem dX10_unwanted_0 : decode cX10_unwanted 0 = .ok (.iconst 0, 1) := by decide +kernel
theorem dX10_unwanted_1 : decode cX10_unwanted 1 = .ok (.istore_n 1, 1) := by decide +kernel
theorem dX10_unwanted_2 : decode cX10_unwanted 2 = .ok (.iconst 0, 1) := by decide +kernel
theorem dX10_unwanted_3 : decode cX10_unwanted 3 = .ok (.istore_n 2, 1) := by decide +kernel
theorem dX10_unwanted_4 : decode cX10_unwanted 4 = .ok (.iload_n 2, 1) := by decide +kernel
theorem dX10_unwanted_5 : decode cX10_unwanted 5 = .ok (.aload_n 0, 1) := by decide +kernel
theorem dX10_unwanted_6 : decode cX10_unwanted 6 = .ok (.getfield 135, 3) := by decide +kernel
theorem dX10_unwanted_9 : decode cX10_unwanted 9 = .ok (.if_icmp .ge 46, 3) := by decide +kernel
theorem dX10_unwanted_12 : decode cX10_unwanted 12 = .ok (.iconst 0, 1) := by decide +kernel
theorem dX10_unwanted_13 : decode cX10_unwanted 13 = .ok (.istore_n 3, 1) := by decide +kernel
theorem dX10_unwanted_14 : decode cX10_unwanted 14 = .ok (.iload_n 3, 1) := by decide +kernel
theorem dX10_unwanted_15 : decode cX10_unwanted 15 = .ok (.bipush 10, 2) := by decide +kernel
theorem dX10_unwanted_17 : decode cX10_unwanted 17 = .ok (.if_icmp .ge 32, 3) := by decide +kernel
theorem dX10_unwanted_20 : decode cX10_unwanted 20 = .ok (.iload_n 1, 1) := by decide +kernel
theorem dX10_unwanted_21 : decode cX10_unwanted 21 = .ok (.aload_n 0, 1) := by decide +kernel
theorem dX10_unwanted_22 : decode cX10_unwanted 22 = .ok (.iload_n 2, 1) := by decide +kernel
theorem dX10_unwanted_23 : decode cX10_unwanted 23 = .ok (.iload_n 3, 1) := by decide +kernel
theorem dX10_unwanted_24 : decode cX10_unwanted 24 = .ok (.invokevirtual 171, 3) := by decide +kernel
theorem dX10_unwanted_27 : decode cX10_unwanted 27 = .ok (.ifCond .eq 13, 3) := by decide +kernel
theorem dX10_unwanted_30 : decode cX10_unwanted 30 = .ok (.aload_n 0, 1) := by decide +kernel
theorem dX10_unwanted_31 : decode cX10_unwanted 31 = .ok (.iload_n 2, 1) := by decide +kernel
theorem dX10_unwanted_32 : decode cX10_unwanted 32 = .ok (.iload_n 3, 1) := by decide +kernel
theorem dX10_unwanted_33 : decode cX10_unwanted 33 = .ok (.iconst 0, 1) := by decide +kernel
theorem dX10_unwanted_34 : decode cX10_unwanted 34 = .ok (.invokevirtual 152, 3) := by decide +kernel
theorem dX10_unwanted_37 : decode cX10_unwanted 37 = .ok (.goto 4, 3) := by decide +kernel
theorem dX10_unwanted_40 : decode cX10_unwanted 40 = .ok (.iconst 0, 1) := by decide +kernel
theorem dX10_unwanted_41 : decode cX10_unwanted 41 = .ok (.ior, 1) := by decide +kernel
theorem dX10_unwanted_42 : decode cX10_unwanted 42 = .ok (.istore_n 1, 1) := by decide +kernel
theorem dX10_unwanted_43 : decode cX10_unwanted 43 = .ok (.iinc 3 1, 3) := by decide +kernel
theorem dX10_unwanted_46 : decode cX10_unwanted 46 = .ok (.goto (-32), 3) := by decide +kernel
theorem dX10_unwanted_49 : decode cX10_unwanted 49 = .ok (.iinc 2 1, 3) := by decide +kernel
theorem dX10_unwanted_52 : decode cX10_unwanted 52 = .ok (.goto (-48), 3) := by decide +kernel
theorem dX10_unwanted_55 : decode cX10_unwanted 55 = .ok (.sipush 1023, 3) := by decide +kernel
theorem dX10_unwanted_58 : decode cX10_unwanted 58 = .ok (.iload_n 1, 1) := by decide +kernel
theorem dX10_unwanted_59 : decode cX10_unwanted 59 = .ok (.iconst (-1), 1) := by decide +kernel
theorem dX10_unwanted_60 : decode cX10_unwanted 60 = .ok (.ixor, 1) := by decide +kernel
theorem dX10_unwanted_61 : decode cX10_unwanted 61 = .ok (.iand, 1) := by decide +kernel
theorem dX10_unwanted_62 : decode cX10_unwanted 62 = .ok (.ireturn, 1) := by decide +kernel
theorem dX10_gain_0 : decode cX10_gain 0 = .ok (.iload_n 1, 1) := by decide +kernel
theorem dX10_gain_1 : decode cX10_gain 1 = .ok (.iload_n 2, 1) := by decide +kernel
theorem dX10_gain_2 : decode cX10_gain 2 = .ok (.if_icmp .gt 12, 3) := by decide +kernel
theorem dX10_gain_5 : decode cX10_gain 5 = .ok (.iload_n 1, 1) := by decide +kernel
theorem dX10_gain_6 : decode cX10_gain 6 = .ok (.iload_n 2, 1) := by decide +kernel
theorem dX10_gain_7 : decode cX10_gain 7 = .ok (.if_icmp .ne 13, 3) := by decide +kernel
theorem dX10_gain_10 : decode cX10_gain 10 = .ok (.iload_n 3, 1) := by decide +kernel
theorem dX10_gain_11 : decode cX10_gain 11 = .ok (.ifCond .eq 9, 3) := by decide +kernel
theorem dX10_gain_14 : decode cX10_gain 14 = .ok (.iload_n 0, 1) := by decide +kernel
theorem dX10_gain_15 : decode cX10_gain 15 = .ok (.iload_n 1, 1) := by decide +kernel
theorem dX10_gain_16 : decode cX10_gain 16 = .ok (.isub, 1) := by decide +kernel
theorem dX10_gain_17 : decode cX10_gain 17 = .ok (.goto 4, 3) := by decide +kernel
theorem dX10_gain_20 : decode cX10_gain 20 = .ok (.iconst 0, 1) := by decide +kernel
theorem dX10_gain_21 : decode cX10_gain 21 = .ok (.ireturn, 1) := by decide +kernel
theorem dX10_sealed_0 : decode cX10_sealed 0 = .ok (.iload_n 1, 1) := by decide +kernel
theorem dX10_sealed_1 : decode cX10_sealed 1 = .ok (.i2l, 1) := by decide +kernel
theorem dX10_sealed_2 : decode cX10_sealed 2 = .ok (.lconst 0, 1) := by decide +kernel
theorem dX10_sealed_3 : decode cX10_sealed 3 = .ok (.ldc2_w 182, 3) := by decide +kernel
theorem dX10_sealed_6 : decode cX10_sealed 6 = .ok (.invokestatic 97, 3) := by decide +kernel
theorem dX10_sealed_9 : decode cX10_sealed 9 = .ok (.ifCond .eq 25, 3) := by decide +kernel
theorem dX10_sealed_12 : decode cX10_sealed 12 = .ok (.iload_n 2, 1) := by decide +kernel
theorem dX10_sealed_13 : decode cX10_sealed 13 = .ok (.i2l, 1) := by decide +kernel
theorem dX10_sealed_14 : decode cX10_sealed 14 = .ok (.lconst 0, 1) := by decide +kernel
theorem dX10_sealed_15 : decode cX10_sealed 15 = .ok (.ldc2_w 182, 3) := by decide +kernel
theorem dX10_sealed_18 : decode cX10_sealed 18 = .ok (.invokestatic 97, 3) := by decide +kernel
theorem dX10_sealed_21 : decode cX10_sealed 21 = .ok (.ifCond .eq 13, 3) := by decide +kernel
theorem dX10_sealed_24 : decode cX10_sealed 24 = .ok (.iload_n 3, 1) := by decide +kernel
theorem dX10_sealed_25 : decode cX10_sealed 25 = .ok (.i2l, 1) := by decide +kernel
theorem dX10_sealed_26 : decode cX10_sealed 26 = .ok (.lconst 0, 1) := by decide +kernel
theorem dX10_sealed_27 : decode cX10_sealed 27 = .ok (.lconst 1, 1) := by decide +kernel
theorem dX10_sealed_28 : decode cX10_sealed 28 = .ok (.invokestatic 97, 3) := by decide +kernel
theorem dX10_sealed_31 : decode cX10_sealed 31 = .ok (.ifCond .ne 6, 3) := by decide +kernel
theorem dX10_sealed_34 : decode cX10_sealed 34 = .ok (.bipush (-2), 2) := by decide +kernel
theorem dX10_sealed_36 : decode cX10_sealed 36 = .ok (.ireturn, 1) := by decide +kernel
theorem dX10_sealed_37 : decode cX10_sealed 37 = .ok (.iconst 0, 1) := by decide +kernel
theorem dX10_sealed_38 : decode cX10_sealed 38 = .ok (.istore 4, 2) := by decide +kernel
theorem dX10_sealed_40 : decode cX10_sealed 40 = .ok (.bipush (-9), 2) := by decide +kernel
theorem dX10_sealed_42 : decode cX10_sealed 42 = .ok (.istore 5, 2) := by decide +kernel
theorem dX10_sealed_44 : decode cX10_sealed 44 = .ok (.iconst 0, 1) := by decide +kernel
theorem dX10_sealed_45 : decode cX10_sealed 45 = .ok (.istore 6, 2) := by decide +kernel
theorem dX10_sealed_47 : decode cX10_sealed 47 = .ok (.iload 6, 2) := by decide +kernel
theorem dX10_sealed_49 : decode cX10_sealed 49 = .ok (.bipush 100, 2) := by decide +kernel
theorem dX10_sealed_51 : decode cX10_sealed 51 = .ok (.if_icmp .ge 130, 3) := by decide +kernel
theorem dX10_sealed_54 : decode cX10_sealed 54 = .ok (.iload 6, 2) := by decide +kernel
theorem dX10_sealed_56 : decode cX10_sealed 56 = .ok (.bipush 10, 2) := by decide +kernel
theorem dX10_sealed_58 : decode cX10_sealed 58 = .ok (.idiv, 1) := by decide +kernel
theorem dX10_sealed_59 : decode cX10_sealed 59 = .ok (.istore 7, 2) := by decide +kernel
theorem dX10_sealed_61 : decode cX10_sealed 61 = .ok (.iload 6, 2) := by decide +kernel
theorem dX10_sealed_63 : decode cX10_sealed 63 = .ok (.bipush 10, 2) := by decide +kernel
theorem dX10_sealed_65 : decode cX10_sealed 65 = .ok (.irem, 1) := by decide +kernel
theorem dX10_sealed_66 : decode cX10_sealed 66 = .ok (.istore 8, 2) := by decide +kernel
theorem dX10_sealed_68 : decode cX10_sealed 68 = .ok (.iconst 1, 1) := by decide +kernel
theorem dX10_sealed_69 : decode cX10_sealed 69 = .ok (.istore 9, 2) := by decide +kernel
theorem dX10_sealed_71 : decode cX10_sealed 71 = .ok (.iconst 0, 1) := by decide +kernel
theorem dX10_sealed_72 : decode cX10_sealed 72 = .ok (.istore 10, 2) := by decide +kernel
theorem dX10_sealed_74 : decode cX10_sealed 74 = .ok (.iload 10, 2) := by decide +kernel
theorem dX10_sealed_76 : decode cX10_sealed 76 = .ok (.bipush 10, 2) := by decide +kernel
theorem dX10_sealed_78 : decode cX10_sealed 78 = .ok (.if_icmp .ge 63, 3) := by decide +kernel
theorem dX10_sealed_81 : decode cX10_sealed 81 = .ok (.iload 9, 2) := by decide +kernel
theorem dX10_sealed_83 : decode cX10_sealed 83 = .ok (.ifCond .eq 49, 3) := by decide +kernel
theorem dX10_sealed_86 : decode cX10_sealed 86 = .ok (.iload_n 1, 1) := by decide +kernel
theorem dX10_sealed_87 : decode cX10_sealed 87 = .ok (.iload 10, 2) := by decide +kernel
theorem dX10_sealed_89 : decode cX10_sealed 89 = .ok (.iload 8, 2) := by decide +kernel
theorem dX10_sealed_91 : decode cX10_sealed 91 = .ok (.iconst 1, 1) := by decide +kernel
theorem dX10_sealed_92 : decode cX10_sealed 92 = .ok (.invokestatic 281, 3) := by decide +kernel
theorem dX10_sealed_95 : decode cX10_sealed 95 = .ok (.iload_n 1, 1) := by decide +kernel
theorem dX10_sealed_96 : decode cX10_sealed 96 = .ok (.iload 7, 2) := by decide +kernel
theorem dX10_sealed_98 : decode cX10_sealed 98 = .ok (.iload 8, 2) := by decide +kernel
theorem dX10_sealed_100 : decode cX10_sealed 100 = .ok (.iconst 1, 1) := by decide +kernel
theorem dX10_sealed_101 : decode cX10_sealed 101 = .ok (.invokestatic 281, 3) := by decide +kernel
theorem dX10_sealed_104 : decode cX10_sealed 104 = .ok (.if_icmp .gt 28, 3) := by decide +kernel
theorem dX10_sealed_107 : decode cX10_sealed 107 = .ok (.iload_n 2, 1) := by decide +kernel
theorem dX10_sealed_108 : decode cX10_sealed 108 = .ok (.iload 10, 2) := by decide +kernel
theorem dX10_sealed_110 : decode cX10_sealed 110 = .ok (.iload 7, 2) := by decide +kernel
theorem dX10_sealed_112 : decode cX10_sealed 112 = .ok (.iconst 0, 1) := by decide +kernel
theorem dX10_sealed_113 : decode cX10_sealed 113 = .ok (.invokestatic 281, 3) := by decide +kernel
theorem dX10_sealed_116 : decode cX10_sealed 116 = .ok (.iload_n 2, 1) := by decide +kernel
theorem dX10_sealed_117 : decode cX10_sealed 117 = .ok (.iload 8, 2) := by decide +kernel
theorem dX10_sealed_119 : decode cX10_sealed 119 = .ok (.iload 7, 2) := by decide +kernel
theorem dX10_sealed_121 : decode cX10_sealed 121 = .ok (.iconst 0, 1) := by decide +kernel
theorem dX10_sealed_122 : decode cX10_sealed 122 = .ok (.invokestatic 281, 3) := by decide +kernel
theorem dX10_sealed_125 : decode cX10_sealed 125 = .ok (.if_icmp .gt 7, 3) := by decide +kernel
theorem dX10_sealed_128 : decode cX10_sealed 128 = .ok (.iconst 1, 1) := by decide +kernel
theorem dX10_sealed_129 : decode cX10_sealed 129 = .ok (.goto 4, 3) := by decide +kernel
theorem dX10_sealed_132 : decode cX10_sealed 132 = .ok (.iconst 0, 1) := by decide +kernel
theorem dX10_sealed_133 : decode cX10_sealed 133 = .ok (.istore 9, 2) := by decide +kernel
theorem dX10_sealed_135 : decode cX10_sealed 135 = .ok (.iinc 10 1, 3) := by decide +kernel
theorem dX10_sealed_138 : decode cX10_sealed 138 = .ok (.goto (-64), 3) := by decide +kernel
theorem dX10_sealed_141 : decode cX10_sealed 141 = .ok (.iload 9, 2) := by decide +kernel
theorem dX10_sealed_143 : decode cX10_sealed 143 = .ok (.ifCond .eq 13, 3) := by decide +kernel
theorem dX10_sealed_146 : decode cX10_sealed 146 = .ok (.iload 4, 2) := by decide +kernel
theorem dX10_sealed_148 : decode cX10_sealed 148 = .ok (.ifCond .ne 8, 3) := by decide +kernel
theorem dX10_sealed_151 : decode cX10_sealed 151 = .ok (.iload 6, 2) := by decide +kernel
theorem dX10_sealed_153 : decode cX10_sealed 153 = .ok (.goto 5, 3) := by decide +kernel
theorem dX10_sealed_156 : decode cX10_sealed 156 = .ok (.iload 5, 2) := by decide +kernel
theorem dX10_sealed_158 : decode cX10_sealed 158 = .ok (.istore 5, 2) := by decide +kernel
theorem dX10_sealed_160 : decode cX10_sealed 160 = .ok (.iload 4, 2) := by decide +kernel
theorem dX10_sealed_162 : decode cX10_sealed 162 = .ok (.iload 9, 2) := by decide +kernel
theorem dX10_sealed_164 : decode cX10_sealed 164 = .ok (.ifCond .eq 7, 3) := by decide +kernel
theorem dX10_sealed_167 : decode cX10_sealed 167 = .ok (.iconst 1, 1) := by decide +kernel
theorem dX10_sealed_168 : decode cX10_sealed 168 = .ok (.goto 4, 3) := by decide +kernel
theorem dX10_sealed_171 : decode cX10_sealed 171 = .ok (.iconst 0, 1) := by decide +kernel
theorem dX10_sealed_172 : decode cX10_sealed 172 = .ok (.iadd, 1) := by decide +kernel
theorem dX10_sealed_173 : decode cX10_sealed 173 = .ok (.istore 4, 2) := by decide +kernel
theorem dX10_sealed_175 : decode cX10_sealed 175 = .ok (.iinc 6 1, 3) := by decide +kernel
theorem dX10_sealed_178 : decode cX10_sealed 178 = .ok (.goto (-131), 3) := by decide +kernel
theorem dX10_sealed_181 : decode cX10_sealed 181 = .ok (.iload_n 3, 1) := by decide +kernel
theorem dX10_sealed_182 : decode cX10_sealed 182 = .ok (.ifCond .ne 8, 3) := by decide +kernel
theorem dX10_sealed_185 : decode cX10_sealed 185 = .ok (.iload 4, 2) := by decide +kernel
theorem dX10_sealed_187 : decode cX10_sealed 187 = .ok (.goto 5, 3) := by decide +kernel
theorem dX10_sealed_190 : decode cX10_sealed 190 = .ok (.iload 5, 2) := by decide +kernel
theorem dX10_sealed_192 : decode cX10_sealed 192 = .ok (.ireturn, 1) := by decide +kernel
theorem dX10_seed_0 : decode cX10_seed 0 = .ok (.aload_n 0, 1) := by decide +kernel
theorem dX10_seed_1 : decode cX10_seed 1 = .ok (.getfield 285, 3) := by decide +kernel
theorem dX10_seed_4 : decode cX10_seed 4 = .ok (.lstore_n 3, 1) := by decide +kernel
theorem dX10_seed_5 : decode cX10_seed 5 = .ok (.aload_n 0, 1) := by decide +kernel
theorem dX10_seed_6 : decode cX10_seed 6 = .ok (.lload_n 1, 1) := by decide +kernel
theorem dX10_seed_7 : decode cX10_seed 7 = .ok (.putfield 285, 3) := by decide +kernel
theorem dX10_seed_10 : decode cX10_seed 10 = .ok (.lload_n 3, 1) := by decide +kernel
theorem dX10_seed_11 : decode cX10_seed 11 = .ok (.lreturn, 1) := by decide +kernel
theorem dX10_day_0 : decode cX10_day 0 = .ok (.iload_n 1, 1) := by decide +kernel
theorem dX10_day_1 : decode cX10_day 1 = .ok (.i2l, 1) := by decide +kernel
theorem dX10_day_2 : decode cX10_day 2 = .ok (.lconst 1, 1) := by decide +kernel
theorem dX10_day_3 : decode cX10_day 3 = .ok (.ldc2_w 289, 3) := by decide +kernel
theorem dX10_day_6 : decode cX10_day 6 = .ok (.invokestatic 97, 3) := by decide +kernel
theorem dX10_day_9 : decode cX10_day 9 = .ok (.ifCond .ne 6, 3) := by decide +kernel
theorem dX10_day_12 : decode cX10_day 12 = .ok (.bipush (-2), 2) := by decide +kernel
theorem dX10_day_14 : decode cX10_day 14 = .ok (.ireturn, 1) := by decide +kernel
theorem dX10_day_15 : decode cX10_day 15 = .ok (.aload_n 0, 1) := by decide +kernel
theorem dX10_day_16 : decode cX10_day 16 = .ok (.iconst 0, 1) := by decide +kernel
theorem dX10_day_17 : decode cX10_day 17 = .ok (.invokevirtual 268, 3) := by decide +kernel
theorem dX10_day_20 : decode cX10_day 20 = .ok (.iconst 0, 1) := by decide +kernel
theorem dX10_day_21 : decode cX10_day 21 = .ok (.istore_n 2, 1) := by decide +kernel
theorem dX10_day_22 : decode cX10_day 22 = .ok (.iload_n 2, 1) := by decide +kernel
theorem dX10_day_23 : decode cX10_day 23 = .ok (.iload_n 1, 1) := by decide +kernel
theorem dX10_day_24 : decode cX10_day 24 = .ok (.if_icmp .ge 91, 3) := by decide +kernel
theorem dX10_day_27 : decode cX10_day 27 = .ok (.aload_n 0, 1) := by decide +kernel
theorem dX10_day_28 : decode cX10_day 28 = .ok (.aload_n 0, 1) := by decide +kernel
theorem dX10_day_29 : decode cX10_day 29 = .ok (.getfield 285, 3) := by decide +kernel
theorem dX10_day_32 : decode cX10_day 32 = .ok (.ldc2_w 291, 3) := by decide +kernel
theorem dX10_day_35 : decode cX10_day 35 = .ok (.lmul, 1) := by decide +kernel
theorem dX10_day_36 : decode cX10_day 36 = .ok (.ldc2_w 293, 3) := by decide +kernel
theorem dX10_day_39 : decode cX10_day 39 = .ok (.ladd, 1) := by decide +kernel
theorem dX10_day_40 : decode cX10_day 40 = .ok (.putfield 285, 3) := by decide +kernel
theorem dX10_day_43 : decode cX10_day 43 = .ok (.aload_n 0, 1) := by decide +kernel
theorem dX10_day_44 : decode cX10_day 44 = .ok (.getfield 285, 3) := by decide +kernel
theorem dX10_day_47 : decode cX10_day 47 = .ok (.bipush 33, 2) := by decide +kernel
theorem dX10_day_49 : decode cX10_day 49 = .ok (.lushr, 1) := by decide +kernel
theorem dX10_day_50 : decode cX10_day 50 = .ok (.ldc2_w 295, 3) := by decide +kernel
theorem dX10_day_53 : decode cX10_day 53 = .ok (.lrem, 1) := by decide +kernel
theorem dX10_day_54 : decode cX10_day 54 = .ok (.l2i, 1) := by decide +kernel
theorem dX10_day_55 : decode cX10_day 55 = .ok (.istore_n 3, 1) := by decide +kernel
theorem dX10_day_56 : decode cX10_day 56 = .ok (.aload_n 0, 1) := by decide +kernel
theorem dX10_day_57 : decode cX10_day 57 = .ok (.iload_n 3, 1) := by decide +kernel
theorem dX10_day_58 : decode cX10_day 58 = .ok (.bipush 10, 2) := by decide +kernel
theorem dX10_day_60 : decode cX10_day 60 = .ok (.idiv, 1) := by decide +kernel
theorem dX10_day_61 : decode cX10_day 61 = .ok (.invokevirtual 174, 3) := by decide +kernel
theorem dX10_day_64 : decode cX10_day 64 = .ok (.ifCond .eq 45, 3) := by decide +kernel
theorem dX10_day_67 : decode cX10_day 67 = .ok (.aload_n 0, 1) := by decide +kernel
theorem dX10_day_68 : decode cX10_day 68 = .ok (.getfield 25, 3) := by decide +kernel
theorem dX10_day_71 : decode cX10_day 71 = .ok (.iload_n 3, 1) := by decide +kernel
theorem dX10_day_72 : decode cX10_day 72 = .ok (.bipush 10, 2) := by decide +kernel
theorem dX10_day_74 : decode cX10_day 74 = .ok (.idiv, 1) := by decide +kernel
theorem dX10_day_75 : decode cX10_day 75 = .ok (.iaload, 1) := by decide +kernel
theorem dX10_day_76 : decode cX10_day 76 = .ok (.bipush (-9), 2) := by decide +kernel
theorem dX10_day_78 : decode cX10_day 78 = .ok (.if_icmp .ne 31, 3) := by decide +kernel
theorem dX10_day_81 : decode cX10_day 81 = .ok (.aload_n 0, 1) := by decide +kernel
theorem dX10_day_82 : decode cX10_day 82 = .ok (.iload_n 3, 1) := by decide +kernel
theorem dX10_day_83 : decode cX10_day 83 = .ok (.bipush 10, 2) := by decide +kernel
theorem dX10_day_85 : decode cX10_day 85 = .ok (.idiv, 1) := by decide +kernel
theorem dX10_day_86 : decode cX10_day 86 = .ok (.iload_n 3, 1) := by decide +kernel
theorem dX10_day_87 : decode cX10_day 87 = .ok (.bipush 10, 2) := by decide +kernel
theorem dX10_day_89 : decode cX10_day 89 = .ok (.irem, 1) := by decide +kernel
theorem dX10_day_90 : decode cX10_day 90 = .ok (.invokevirtual 190, 3) := by decide +kernel
theorem dX10_day_93 : decode cX10_day 93 = .ok (.ifCond .eq 16, 3) := by decide +kernel
theorem dX10_day_96 : decode cX10_day 96 = .ok (.aload_n 0, 1) := by decide +kernel
theorem dX10_day_97 : decode cX10_day 97 = .ok (.getfield 25, 3) := by decide +kernel
theorem dX10_day_100 : decode cX10_day 100 = .ok (.iload_n 3, 1) := by decide +kernel
theorem dX10_day_101 : decode cX10_day 101 = .ok (.bipush 10, 2) := by decide +kernel
theorem dX10_day_103 : decode cX10_day 103 = .ok (.idiv, 1) := by decide +kernel
theorem dX10_day_104 : decode cX10_day 104 = .ok (.iload_n 3, 1) := by decide +kernel
theorem dX10_day_105 : decode cX10_day 105 = .ok (.bipush 10, 2) := by decide +kernel
theorem dX10_day_107 : decode cX10_day 107 = .ok (.irem, 1) := by decide +kernel
theorem dX10_day_108 : decode cX10_day 108 = .ok (.iastore, 1) := by decide +kernel
theorem dX10_day_109 : decode cX10_day 109 = .ok (.iinc 2 1, 3) := by decide +kernel
theorem dX10_day_112 : decode cX10_day 112 = .ok (.goto (-90), 3) := by decide +kernel
theorem dX10_day_115 : decode cX10_day 115 = .ok (.aload_n 0, 1) := by decide +kernel
theorem dX10_day_116 : decode cX10_day 116 = .ok (.aload_n 0, 1) := by decide +kernel
theorem dX10_day_117 : decode cX10_day 117 = .ok (.invokevirtual 196, 3) := by decide +kernel
theorem dX10_day_120 : decode cX10_day 120 = .ok (.invokevirtual 199, 3) := by decide +kernel
theorem dX10_day_123 : decode cX10_day 123 = .ok (.istore_n 2, 1) := by decide +kernel
theorem dX10_day_124 : decode cX10_day 124 = .ok (.aload_n 0, 1) := by decide +kernel
theorem dX10_day_125 : decode cX10_day 125 = .ok (.iconst 1, 1) := by decide +kernel
theorem dX10_day_126 : decode cX10_day 126 = .ok (.invokevirtual 268, 3) := by decide +kernel
theorem dX10_day_129 : decode cX10_day 129 = .ok (.iload_n 2, 1) := by decide +kernel
theorem dX10_day_130 : decode cX10_day 130 = .ok (.ireturn, 1) := by decide +kernel
theorem dX10_keep_0 : decode cX10_keep 0 = .ok (.iload_n 1, 1) := by decide +kernel
theorem dX10_keep_1 : decode cX10_keep 1 = .ok (.i2l, 1) := by decide +kernel
theorem dX10_keep_2 : decode cX10_keep 2 = .ok (.lconst 0, 1) := by decide +kernel
theorem dX10_keep_3 : decode cX10_keep 3 = .ok (.lconst 1, 1) := by decide +kernel
theorem dX10_keep_4 : decode cX10_keep 4 = .ok (.invokestatic 97, 3) := by decide +kernel
theorem dX10_keep_7 : decode cX10_keep 7 = .ok (.ifCond .ne 5, 3) := by decide +kernel
theorem dX10_keep_10 : decode cX10_keep 10 = .ok (.iconst (-1), 1) := by decide +kernel
theorem dX10_keep_11 : decode cX10_keep 11 = .ok (.ireturn, 1) := by decide +kernel
theorem dX10_keep_12 : decode cX10_keep 12 = .ok (.aload_n 0, 1) := by decide +kernel
theorem dX10_keep_13 : decode cX10_keep 13 = .ok (.getfield 89, 3) := by decide +kernel
theorem dX10_keep_16 : decode cX10_keep 16 = .ok (.iload_n 1, 1) := by decide +kernel
theorem dX10_keep_17 : decode cX10_keep 17 = .ok (.iconst 1, 1) := by decide +kernel
theorem dX10_keep_18 : decode cX10_keep 18 = .ok (.bastore, 1) := by decide +kernel
theorem dX10_keep_19 : decode cX10_keep 19 = .ok (.iconst 0, 1) := by decide +kernel
theorem dX10_keep_20 : decode cX10_keep 20 = .ok (.istore_n 2, 1) := by decide +kernel
theorem dX10_keep_21 : decode cX10_keep 21 = .ok (.iload_n 2, 1) := by decide +kernel
theorem dX10_keep_22 : decode cX10_keep 22 = .ok (.iconst 5, 1) := by decide +kernel
theorem dX10_keep_23 : decode cX10_keep 23 = .ok (.if_icmp .ge 25, 3) := by decide +kernel
theorem dX10_keep_26 : decode cX10_keep 26 = .ok (.aload_n 0, 1) := by decide +kernel
theorem dX10_keep_27 : decode cX10_keep 27 = .ok (.getfield 92, 3) := by decide +kernel
theorem dX10_keep_30 : decode cX10_keep 30 = .ok (.iconst 5, 1) := by decide +kernel
theorem dX10_keep_31 : decode cX10_keep 31 = .ok (.iload_n 1, 1) := by decide +kernel
theorem dX10_keep_32 : decode cX10_keep 32 = .ok (.imul, 1) := by decide +kernel
theorem dX10_keep_33 : decode cX10_keep 33 = .ok (.iload_n 2, 1) := by decide +kernel
theorem dX10_keep_34 : decode cX10_keep 34 = .ok (.iadd, 1) := by decide +kernel
theorem dX10_keep_35 : decode cX10_keep 35 = .ok (.aload_n 0, 1) := by decide +kernel
theorem dX10_keep_36 : decode cX10_keep 36 = .ok (.getfield 25, 3) := by decide +kernel
theorem dX10_keep_39 : decode cX10_keep 39 = .ok (.iload_n 2, 1) := by decide +kernel
theorem dX10_keep_40 : decode cX10_keep 40 = .ok (.iaload, 1) := by decide +kernel
theorem dX10_keep_41 : decode cX10_keep 41 = .ok (.iastore, 1) := by decide +kernel
theorem dX10_keep_42 : decode cX10_keep 42 = .ok (.iinc 2 1, 3) := by decide +kernel
theorem dX10_keep_45 : decode cX10_keep 45 = .ok (.goto (-24), 3) := by decide +kernel
theorem dX10_keep_48 : decode cX10_keep 48 = .ok (.aload_n 0, 1) := by decide +kernel
theorem dX10_keep_49 : decode cX10_keep 49 = .ok (.aload_n 0, 1) := by decide +kernel
theorem dX10_keep_50 : decode cX10_keep 50 = .ok (.invokevirtual 196, 3) := by decide +kernel
theorem dX10_keep_53 : decode cX10_keep 53 = .ok (.invokevirtual 199, 3) := by decide +kernel
theorem dX10_keep_56 : decode cX10_keep 56 = .ok (.ireturn, 1) := by decide +kernel
theorem dX10_again_0 : decode cX10_again 0 = .ok (.iload_n 1, 1) := by decide +kernel
theorem dX10_again_1 : decode cX10_again 1 = .ok (.i2l, 1) := by decide +kernel
theorem dX10_again_2 : decode cX10_again 2 = .ok (.lconst 0, 1) := by decide +kernel
theorem dX10_again_3 : decode cX10_again 3 = .ok (.lconst 1, 1) := by decide +kernel
theorem dX10_again_4 : decode cX10_again 4 = .ok (.invokestatic 97, 3) := by decide +kernel
theorem dX10_again_7 : decode cX10_again 7 = .ok (.ifCond .ne 5, 3) := by decide +kernel
theorem dX10_again_10 : decode cX10_again 10 = .ok (.iconst (-1), 1) := by decide +kernel
theorem dX10_again_11 : decode cX10_again 11 = .ok (.ireturn, 1) := by decide +kernel
theorem dX10_again_12 : decode cX10_again 12 = .ok (.aload_n 0, 1) := by decide +kernel
theorem dX10_again_13 : decode cX10_again 13 = .ok (.getfield 89, 3) := by decide +kernel
theorem dX10_again_16 : decode cX10_again 16 = .ok (.iload_n 1, 1) := by decide +kernel
theorem dX10_again_17 : decode cX10_again 17 = .ok (.baload, 1) := by decide +kernel
theorem dX10_again_18 : decode cX10_again 18 = .ok (.ifCond .ne 6, 3) := by decide +kernel
theorem dX10_again_21 : decode cX10_again 21 = .ok (.bipush (-3), 2) := by decide +kernel
theorem dX10_again_23 : decode cX10_again 23 = .ok (.ireturn, 1) := by decide +kernel
theorem dX10_again_24 : decode cX10_again 24 = .ok (.iconst 0, 1) := by decide +kernel
theorem dX10_again_25 : decode cX10_again 25 = .ok (.istore_n 2, 1) := by decide +kernel
theorem dX10_again_26 : decode cX10_again 26 = .ok (.iload_n 2, 1) := by decide +kernel
theorem dX10_again_27 : decode cX10_again 27 = .ok (.iconst 5, 1) := by decide +kernel
theorem dX10_again_28 : decode cX10_again 28 = .ok (.if_icmp .ge 25, 3) := by decide +kernel
theorem dX10_again_31 : decode cX10_again 31 = .ok (.aload_n 0, 1) := by decide +kernel
theorem dX10_again_32 : decode cX10_again 32 = .ok (.getfield 25, 3) := by decide +kernel
theorem dX10_again_35 : decode cX10_again 35 = .ok (.iload_n 2, 1) := by decide +kernel
theorem dX10_again_36 : decode cX10_again 36 = .ok (.aload_n 0, 1) := by decide +kernel
theorem dX10_again_37 : decode cX10_again 37 = .ok (.getfield 92, 3) := by decide +kernel
theorem dX10_again_40 : decode cX10_again 40 = .ok (.iconst 5, 1) := by decide +kernel
theorem dX10_again_41 : decode cX10_again 41 = .ok (.iload_n 1, 1) := by decide +kernel
theorem dX10_again_42 : decode cX10_again 42 = .ok (.imul, 1) := by decide +kernel
theorem dX10_again_43 : decode cX10_again 43 = .ok (.iload_n 2, 1) := by decide +kernel
theorem dX10_again_44 : decode cX10_again 44 = .ok (.iadd, 1) := by decide +kernel
theorem dX10_again_45 : decode cX10_again 45 = .ok (.iaload, 1) := by decide +kernel
theorem dX10_again_46 : decode cX10_again 46 = .ok (.iastore, 1) := by decide +kernel
theorem dX10_again_47 : decode cX10_again 47 = .ok (.iinc 2 1, 3) := by decide +kernel
theorem dX10_again_50 : decode cX10_again 50 = .ok (.goto (-24), 3) := by decide +kernel
theorem dX10_again_53 : decode cX10_again 53 = .ok (.aload_n 0, 1) := by decide +kernel
theorem dX10_again_54 : decode cX10_again 54 = .ok (.iconst 0, 1) := by decide +kernel
theorem dX10_again_55 : decode cX10_again 55 = .ok (.putfield 138, 3) := by decide +kernel
theorem dX10_again_58 : decode cX10_again 58 = .ok (.aload_n 0, 1) := by decide +kernel
theorem dX10_again_59 : decode cX10_again 59 = .ok (.aload_n 0, 1) := by decide +kernel
theorem dX10_again_60 : decode cX10_again 60 = .ok (.invokevirtual 196, 3) := by decide +kernel
theorem dX10_again_63 : decode cX10_again 63 = .ok (.invokevirtual 199, 3) := by decide +kernel
theorem dX10_again_66 : decode cX10_again 66 = .ok (.ireturn, 1) := by decide +kernel
theorem dX10_count_0 : decode cX10_count 0 = .ok (.iload_n 1, 1) := by decide +kernel
theorem dX10_count_1 : decode cX10_count 1 = .ok (.tableswitch 93 0 7 #[47, 52, 57, 62, 67, 76, 83, 88], 47) := by decide +kernel
theorem dX10_count_48 : decode cX10_count 48 = .ok (.aload_n 0, 1) := by decide +kernel
theorem dX10_count_49 : decode cX10_count 49 = .ok (.getfield 101, 3) := by decide +kernel
theorem dX10_count_52 : decode cX10_count 52 = .ok (.ireturn, 1) := by decide +kernel
theorem dX10_count_53 : decode cX10_count 53 = .ok (.aload_n 0, 1) := by decide +kernel
theorem dX10_count_54 : decode cX10_count 54 = .ok (.getfield 132, 3) := by decide +kernel
theorem dX10_count_57 : decode cX10_count 57 = .ok (.ireturn, 1) := by decide +kernel
theorem dX10_count_58 : decode cX10_count 58 = .ok (.aload_n 0, 1) := by decide +kernel
theorem dX10_count_59 : decode cX10_count 59 = .ok (.getfield 135, 3) := by decide +kernel
theorem dX10_count_62 : decode cX10_count 62 = .ok (.ireturn, 1) := by decide +kernel
theorem dX10_count_63 : decode cX10_count 63 = .ok (.aload_n 0, 1) := by decide +kernel
theorem dX10_count_64 : decode cX10_count 64 = .ok (.invokevirtual 196, 3) := by decide +kernel
theorem dX10_count_67 : decode cX10_count 67 = .ok (.ireturn, 1) := by decide +kernel
theorem dX10_count_68 : decode cX10_count 68 = .ok (.aload_n 0, 1) := by decide +kernel
theorem dX10_count_69 : decode cX10_count 69 = .ok (.aload_n 0, 1) := by decide +kernel
theorem dX10_count_70 : decode cX10_count 70 = .ok (.invokevirtual 196, 3) := by decide +kernel
theorem dX10_count_73 : decode cX10_count 73 = .ok (.invokevirtual 199, 3) := by decide +kernel
theorem dX10_count_76 : decode cX10_count 76 = .ok (.ireturn, 1) := by decide +kernel
theorem dX10_count_77 : decode cX10_count 77 = .ok (.aload_n 0, 1) := by decide +kernel
theorem dX10_count_78 : decode cX10_count 78 = .ok (.bipush (-9), 2) := by decide +kernel
theorem dX10_count_80 : decode cX10_count 80 = .ok (.invokevirtual 167, 3) := by decide +kernel
theorem dX10_count_83 : decode cX10_count 83 = .ok (.ireturn, 1) := by decide +kernel
theorem dX10_count_84 : decode cX10_count 84 = .ok (.aload_n 0, 1) := by decide +kernel
theorem dX10_count_85 : decode cX10_count 85 = .ok (.getfield 138, 3) := by decide +kernel
theorem dX10_count_88 : decode cX10_count 88 = .ok (.ireturn, 1) := by decide +kernel
theorem dX10_count_89 : decode cX10_count 89 = .ok (.aload_n 0, 1) := by decide +kernel
theorem dX10_count_90 : decode cX10_count 90 = .ok (.getfield 273, 3) := by decide +kernel
theorem dX10_count_93 : decode cX10_count 93 = .ok (.ireturn, 1) := by decide +kernel
theorem dX10_count_94 : decode cX10_count 94 = .ok (.bipush (-2), 2) := by decide +kernel
theorem dX10_count_96 : decode cX10_count 96 = .ok (.ireturn, 1) := by decide +kernel
