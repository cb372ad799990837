theorem dX10_layBells_12 : decode cX10_layBells 12 = .ok (.iconst 0, 1) := by decide +kernel
theorem dX10_layBells_13 : decode cX10_layBells 13 = .ok (.iastore, 1) := by decide +kernel
theorem dX10_layBells_14 : decode cX10_layBells 14 = .ok (.iinc 1 1, 3) := by decide +kernel
theorem dX10_layBells_17 : decode cX10_layBells 17 = .ok (.goto (-15), 3) := by decide +kernel
theorem dX10_layBells_20 : decode cX10_layBells 20 = .ok (.iconst 0, 1) := by decide +kernel
theorem dX10_layBells_21 : decode cX10_layBells 21 = .ok (.istore_n 1, 1) := by decide +kernel
theorem dX10_layBells_22 : decode cX10_layBells 22 = .ok (.iload_n 1, 1) := by decide +kernel
theorem dX10_layBells_23 : decode cX10_layBells 23 = .ok (.aload_n 0, 1) := by decide +kernel
theorem dX10_layBells_24 : decode cX10_layBells 24 = .ok (.getfield 135, 3) := by decide +kernel
theorem dX10_layBells_27 : decode cX10_layBells 27 = .ok (.if_icmp .ge 61, 3) := by decide +kernel
theorem dX10_layBells_30 : decode cX10_layBells 30 = .ok (.aload_n 0, 1) := by decide +kernel
theorem dX10_layBells_31 : decode cX10_layBells 31 = .ok (.getfield 34, 3) := by decide +kernel
theorem dX10_layBells_34 : decode cX10_layBells 34 = .ok (.iload_n 1, 1) := by decide +kernel
theorem dX10_layBells_35 : decode cX10_layBells 35 = .ok (.iaload, 1) := by decide +kernel
theorem dX10_layBells_36 : decode cX10_layBells 36 = .ok (.ifCond .le 46, 3) := by decide +kernel
theorem dX10_layBells_39 : decode cX10_layBells 39 = .ok (.aload_n 0, 1) := by decide +kernel
theorem dX10_layBells_40 : decode cX10_layBells 40 = .ok (.iload_n 1, 1) := by decide +kernel
theorem dX10_layBells_41 : decode cX10_layBells 41 = .ok (.invokevirtual 141, 3) := by decide +kernel
theorem dX10_layBells_44 : decode cX10_layBells 44 = .ok (.ifCond .ne 38, 3) := by decide +kernel
theorem dX10_layBells_47 : decode cX10_layBells 47 = .ok (.aload_n 0, 1) := by decide +kernel
theorem dX10_layBells_48 : decode cX10_layBells 48 = .ok (.getfield 56, 3) := by decide +kernel
theorem dX10_layBells_51 : decode cX10_layBells 51 = .ok (.aload_n 0, 1) := by decide +kernel
theorem dX10_layBells_52 : decode cX10_layBells 52 = .ok (.getfield 16, 3) := by decide +kernel
theorem dX10_layBells_55 : decode cX10_layBells 55 = .ok (.bipush 6, 2) := by decide +kernel
theorem dX10_layBells_57 : decode cX10_layBells 57 = .ok (.iload_n 1, 1) := by decide +kernel
theorem dX10_layBells_58 : decode cX10_layBells 58 = .ok (.imul, 1) := by decide +kernel
theorem dX10_layBells_59 : decode cX10_layBells 59 = .ok (.iaload, 1) := by decide +kernel
theorem dX10_layBells_60 : decode cX10_layBells 60 = .ok (.dup2, 1) := by decide +kernel
theorem dX10_layBells_61 : decode cX10_layBells 61 = .ok (.iaload, 1) := by decide +kernel
theorem dX10_layBells_62 : decode cX10_layBells 62 = .ok (.aload_n 0, 1) := by decide +kernel
theorem dX10_layBells_63 : decode cX10_layBells 63 = .ok (.getfield 50, 3) := by decide +kernel
theorem dX10_layBells_66 : decode cX10_layBells 66 = .ok (.bipush 10, 2) := by decide +kernel
theorem dX10_layBells_68 : decode cX10_layBells 68 = .ok (.iload_n 1, 1) := by decide +kernel
theorem dX10_layBells_69 : decode cX10_layBells 69 = .ok (.imul, 1) := by decide +kernel
theorem dX10_layBells_70 : decode cX10_layBells 70 = .ok (.aload_n 0, 1) := by decide +kernel
theorem dX10_layBells_71 : decode cX10_layBells 71 = .ok (.getfield 34, 3) := by decide +kernel
theorem dX10_layBells_74 : decode cX10_layBells 74 = .ok (.iload_n 1, 1) := by decide +kernel
theorem dX10_layBells_75 : decode cX10_layBells 75 = .ok (.iaload, 1) := by decide +kernel
theorem dX10_layBells_76 : decode cX10_layBells 76 = .ok (.iadd, 1) := by decide +kernel
theorem dX10_layBells_77 : decode cX10_layBells 77 = .ok (.iconst 1, 1) := by decide +kernel
theorem dX10_layBells_78 : decode cX10_layBells 78 = .ok (.isub, 1) := by decide +kernel
theorem dX10_layBells_79 : decode cX10_layBells 79 = .ok (.iaload, 1) := by decide +kernel
theorem dX10_layBells_80 : decode cX10_layBells 80 = .ok (.ior, 1) := by decide +kernel
theorem dX10_layBells_81 : decode cX10_layBells 81 = .ok (.iastore, 1) := by decide +kernel
theorem dX10_layBells_82 : decode cX10_layBells 82 = .ok (.iinc 1 1, 3) := by decide +kernel
theorem dX10_layBells_85 : decode cX10_layBells 85 = .ok (.goto (-63), 3) := by decide +kernel
theorem dX10_layBells_88 : decode cX10_layBells 88 = .ok (.return_, 1) := by decide +kernel
theorem dX10_dayLet_0 : decode cX10_dayLet 0 = .ok (.iconst 0, 1) := by decide +kernel
theorem dX10_dayLet_1 : decode cX10_dayLet 1 = .ok (.istore_n 1, 1) := by decide +kernel
theorem dX10_dayLet_2 : decode cX10_dayLet 2 = .ok (.iconst 0, 1) := by decide +kernel
theorem dX10_dayLet_3 : decode cX10_dayLet 3 = .ok (.istore_n 2, 1) := by decide +kernel
theorem dX10_dayLet_4 : decode cX10_dayLet 4 = .ok (.iload_n 2, 1) := by decide +kernel
theorem dX10_dayLet_5 : decode cX10_dayLet 5 = .ok (.aload_n 0, 1) := by decide +kernel
theorem dX10_dayLet_6 : decode cX10_dayLet 6 = .ok (.getfield 135, 3) := by decide +kernel
theorem dX10_dayLet_9 : decode cX10_dayLet 9 = .ok (.if_icmp .ge 28, 3) := by decide +kernel
theorem dX10_dayLet_12 : decode cX10_dayLet 12 = .ok (.iload_n 1, 1) := by decide +kernel
theorem dX10_dayLet_13 : decode cX10_dayLet 13 = .ok (.aload_n 0, 1) := by decide +kernel
theorem dX10_dayLet_14 : decode cX10_dayLet 14 = .ok (.getfield 34, 3) := by decide +kernel
theorem dX10_dayLet_17 : decode cX10_dayLet 17 = .ok (.iload_n 2, 1) := by decide +kernel
theorem dX10_dayLet_18 : decode cX10_dayLet 18 = .ok (.iaload, 1) := by decide +kernel
theorem dX10_dayLet_19 : decode cX10_dayLet 19 = .ok (.ifCond .le 9, 3) := by decide +kernel
theorem dX10_dayLet_22 : decode cX10_dayLet 22 = .ok (.iconst 1, 1) := by decide +kernel
theorem dX10_dayLet_23 : decode cX10_dayLet 23 = .ok (.iload_n 2, 1) := by decide +kernel
theorem dX10_dayLet_24 : decode cX10_dayLet 24 = .ok (.ishl, 1) := by decide +kernel
theorem dX10_dayLet_25 : decode cX10_dayLet 25 = .ok (.goto 4, 3) := by decide +kernel
theorem dX10_dayLet_28 : decode cX10_dayLet 28 = .ok (.iconst 0, 1) := by decide +kernel
theorem dX10_dayLet_29 : decode cX10_dayLet 29 = .ok (.ior, 1) := by decide +kernel
theorem dX10_dayLet_30 : decode cX10_dayLet 30 = .ok (.istore_n 1, 1) := by decide +kernel
theorem dX10_dayLet_31 : decode cX10_dayLet 31 = .ok (.iinc 2 1, 3) := by decide +kernel
theorem dX10_dayLet_34 : decode cX10_dayLet 34 = .ok (.goto (-30), 3) := by decide +kernel
theorem dX10_dayLet_37 : decode cX10_dayLet 37 = .ok (.iload_n 1, 1) := by decide +kernel
theorem dX10_dayLet_38 : decode cX10_dayLet 38 = .ok (.ireturn, 1) := by decide +kernel
theorem dX10_lookAt_0 : decode cX10_lookAt 0 = .ok (.aload_n 0, 1) := by decide +kernel
theorem dX10_lookAt_1 : decode cX10_lookAt 1 = .ok (.invokevirtual 205, 3) := by decide +kernel
theorem dX10_lookAt_4 : decode cX10_lookAt 4 = .ok (.istore_n 1, 1) := by decide +kernel
theorem dX10_lookAt_5 : decode cX10_lookAt 5 = .ok (.aload_n 0, 1) := by decide +kernel
theorem dX10_lookAt_6 : decode cX10_lookAt 6 = .ok (.getfield 40, 3) := by decide +kernel
theorem dX10_lookAt_9 : decode cX10_lookAt 9 = .ok (.iload_n 1, 1) := by decide +kernel
theorem dX10_lookAt_10 : decode cX10_lookAt 10 = .ok (.iconst 1, 1) := by decide +kernel
theorem dX10_lookAt_11 : decode cX10_lookAt 11 = .ok (.bastore, 1) := by decide +kernel
theorem dX10_lookAt_12 : decode cX10_lookAt 12 = .ok (.aload_n 0, 1) := by decide +kernel
theorem dX10_lookAt_13 : decode cX10_lookAt 13 = .ok (.iload_n 1, 1) := by decide +kernel
theorem dX10_lookAt_14 : decode cX10_lookAt 14 = .ok (.invokevirtual 199, 3) := by decide +kernel
theorem dX10_lookAt_17 : decode cX10_lookAt 17 = .ok (.aload_n 0, 1) := by decide +kernel
theorem dX10_lookAt_18 : decode cX10_lookAt 18 = .ok (.getfield 208, 3) := by decide +kernel
theorem dX10_lookAt_21 : decode cX10_lookAt 21 = .ok (.if_icmp .le 37, 3) := by decide +kernel
theorem dX10_lookAt_24 : decode cX10_lookAt 24 = .ok (.aload_n 0, 1) := by decide +kernel
theorem dX10_lookAt_25 : decode cX10_lookAt 25 = .ok (.aload_n 0, 1) := by decide +kernel
theorem dX10_lookAt_26 : decode cX10_lookAt 26 = .ok (.iload_n 1, 1) := by decide +kernel
theorem dX10_lookAt_27 : decode cX10_lookAt 27 = .ok (.invokevirtual 199, 3) := by decide +kernel
theorem dX10_lookAt_30 : decode cX10_lookAt 30 = .ok (.putfield 208, 3) := by decide +kernel
theorem dX10_lookAt_33 : decode cX10_lookAt 33 = .ok (.iconst 0, 1) := by decide +kernel
theorem dX10_lookAt_34 : decode cX10_lookAt 34 = .ok (.istore_n 2, 1) := by decide +kernel
theorem dX10_lookAt_35 : decode cX10_lookAt 35 = .ok (.iload_n 2, 1) := by decide +kernel
theorem dX10_lookAt_36 : decode cX10_lookAt 36 = .ok (.iconst 5, 1) := by decide +kernel
theorem dX10_lookAt_37 : decode cX10_lookAt 37 = .ok (.if_icmp .ge 21, 3) := by decide +kernel
theorem dX10_lookAt_40 : decode cX10_lookAt 40 = .ok (.aload_n 0, 1) := by decide +kernel
theorem dX10_lookAt_41 : decode cX10_lookAt 41 = .ok (.getfield 37, 3) := by decide +kernel
theorem dX10_lookAt_44 : decode cX10_lookAt 44 = .ok (.iload_n 2, 1) := by decide +kernel
theorem dX10_lookAt_45 : decode cX10_lookAt 45 = .ok (.aload_n 0, 1) := by decide +kernel
theorem dX10_lookAt_46 : decode cX10_lookAt 46 = .ok (.getfield 34, 3) := by decide +kernel
theorem dX10_lookAt_49 : decode cX10_lookAt 49 = .ok (.iload_n 2, 1) := by decide +kernel
theorem dX10_lookAt_50 : decode cX10_lookAt 50 = .ok (.iaload, 1) := by decide +kernel
theorem dX10_lookAt_51 : decode cX10_lookAt 51 = .ok (.iastore, 1) := by decide +kernel
theorem dX10_lookAt_52 : decode cX10_lookAt 52 = .ok (.iinc 2 1, 3) := by decide +kernel
theorem dX10_lookAt_55 : decode cX10_lookAt 55 = .ok (.goto (-20), 3) := by decide +kernel
theorem dX10_lookAt_58 : decode cX10_lookAt 58 = .ok (.aload_n 0, 1) := by decide +kernel
theorem dX10_lookAt_59 : decode cX10_lookAt 59 = .ok (.invokevirtual 211, 3) := by decide +kernel
theorem dX10_lookAt_62 : decode cX10_lookAt 62 = .ok (.aload_n 0, 1) := by decide +kernel
theorem dX10_lookAt_63 : decode cX10_lookAt 63 = .ok (.invokevirtual 214, 3) := by decide +kernel
theorem dX10_lookAt_66 : decode cX10_lookAt 66 = .ok (.ifCond .eq 82, 3) := by decide +kernel
theorem dX10_lookAt_69 : decode cX10_lookAt 69 = .ok (.aload_n 0, 1) := by decide +kernel
theorem dX10_lookAt_70 : decode cX10_lookAt 70 = .ok (.dup, 1) := by decide +kernel
theorem dX10_lookAt_71 : decode cX10_lookAt 71 = .ok (.getfield 218, 3) := by decide +kernel
theorem dX10_lookAt_74 : decode cX10_lookAt 74 = .ok (.iconst 1, 1) := by decide +kernel
theorem dX10_lookAt_75 : decode cX10_lookAt 75 = .ok (.iadd, 1) := by decide +kernel
theorem dX10_lookAt_76 : decode cX10_lookAt 76 = .ok (.putfield 218, 3) := by decide +kernel
theorem dX10_lookAt_79 : decode cX10_lookAt 79 = .ok (.aload_n 0, 1) := by decide +kernel
theorem dX10_lookAt_80 : decode cX10_lookAt 80 = .ok (.dup, 1) := by decide +kernel
theorem dX10_lookAt_81 : decode cX10_lookAt 81 = .ok (.getfield 221, 3) := by decide +kernel
theorem dX10_lookAt_84 : decode cX10_lookAt 84 = .ok (.iload_n 1, 1) := by decide +kernel
theorem dX10_lookAt_85 : decode cX10_lookAt 85 = .ok (.iand, 1) := by decide +kernel
theorem dX10_lookAt_86 : decode cX10_lookAt 86 = .ok (.putfield 221, 3) := by decide +kernel
theorem dX10_lookAt_89 : decode cX10_lookAt 89 = .ok (.aload_n 0, 1) := by decide +kernel
theorem dX10_lookAt_90 : decode cX10_lookAt 90 = .ok (.dup, 1) := by decide +kernel
theorem dX10_lookAt_91 : decode cX10_lookAt 91 = .ok (.getfield 224, 3) := by decide +kernel
theorem dX10_lookAt_94 : decode cX10_lookAt 94 = .ok (.iload_n 1, 1) := by decide +kernel
theorem dX10_lookAt_95 : decode cX10_lookAt 95 = .ok (.ior, 1) := by decide +kernel
theorem dX10_lookAt_96 : decode cX10_lookAt 96 = .ok (.putfield 224, 3) := by decide +kernel
theorem dX10_lookAt_99 : decode cX10_lookAt 99 = .ok (.aload_n 0, 1) := by decide +kernel
theorem dX10_lookAt_100 : decode cX10_lookAt 100 = .ok (.getfield 56, 3) := by decide +kernel
theorem dX10_lookAt_103 : decode cX10_lookAt 103 = .ok (.iconst 0, 1) := by decide +kernel
theorem dX10_lookAt_104 : decode cX10_lookAt 104 = .ok (.iaload, 1) := by decide +kernel
theorem dX10_lookAt_105 : decode cX10_lookAt 105 = .ok (.aload_n 0, 1) := by decide +kernel
theorem dX10_lookAt_106 : decode cX10_lookAt 106 = .ok (.getfield 56, 3) := by decide +kernel
theorem dX10_lookAt_109 : decode cX10_lookAt 109 = .ok (.iconst 1, 1) := by decide +kernel
theorem dX10_lookAt_110 : decode cX10_lookAt 110 = .ok (.iaload, 1) := by decide +kernel
theorem dX10_lookAt_111 : decode cX10_lookAt 111 = .ok (.ior, 1) := by decide +kernel
theorem dX10_lookAt_112 : decode cX10_lookAt 112 = .ok (.aload_n 0, 1) := by decide +kernel
theorem dX10_lookAt_113 : decode cX10_lookAt 113 = .ok (.getfield 56, 3) := by decide +kernel
theorem dX10_lookAt_116 : decode cX10_lookAt 116 = .ok (.iconst 2, 1) := by decide +kernel
theorem dX10_lookAt_117 : decode cX10_lookAt 117 = .ok (.iaload, 1) := by decide +kernel
theorem dX10_lookAt_118 : decode cX10_lookAt 118 = .ok (.ior, 1) := by decide +kernel
theorem dX10_lookAt_119 : decode cX10_lookAt 119 = .ok (.istore_n 2, 1) := by decide +kernel
theorem dX10_lookAt_120 : decode cX10_lookAt 120 = .ok (.iconst 0, 1) := by decide +kernel
theorem dX10_lookAt_121 : decode cX10_lookAt 121 = .ok (.istore_n 3, 1) := by decide +kernel
theorem dX10_lookAt_122 : decode cX10_lookAt 122 = .ok (.iload_n 3, 1) := by decide +kernel
theorem dX10_lookAt_123 : decode cX10_lookAt 123 = .ok (.bipush 10, 2) := by decide +kernel
theorem dX10_lookAt_125 : decode cX10_lookAt 125 = .ok (.if_icmp .ge 23, 3) := by decide +kernel
theorem dX10_lookAt_128 : decode cX10_lookAt 128 = .ok (.aload_n 0, 1) := by decide +kernel
theorem dX10_lookAt_129 : decode cX10_lookAt 129 = .ok (.getfield 44, 3) := by decide +kernel
theorem dX10_lookAt_132 : decode cX10_lookAt 132 = .ok (.iload_n 3, 1) := by decide +kernel
theorem dX10_lookAt_133 : decode cX10_lookAt 133 = .ok (.dup2, 1) := by decide +kernel
theorem dX10_lookAt_134 : decode cX10_lookAt 134 = .ok (.iaload, 1) := by decide +kernel
theorem dX10_lookAt_135 : decode cX10_lookAt 135 = .ok (.iload_n 2, 1) := by decide +kernel
theorem dX10_lookAt_136 : decode cX10_lookAt 136 = .ok (.iload_n 3, 1) := by decide +kernel
theorem dX10_lookAt_137 : decode cX10_lookAt 137 = .ok (.ishr, 1) := by decide +kernel
theorem dX10_lookAt_138 : decode cX10_lookAt 138 = .ok (.iconst 1, 1) := by decide +kernel
theorem dX10_lookAt_139 : decode cX10_lookAt 139 = .ok (.iand, 1) := by decide +kernel
theorem dX10_lookAt_140 : decode cX10_lookAt 140 = .ok (.iadd, 1) := by decide +kernel
theorem dX10_lookAt_141 : decode cX10_lookAt 141 = .ok (.iastore, 1) := by decide +kernel
theorem dX10_lookAt_142 : decode cX10_lookAt 142 = .ok (.iinc 3 1, 3) := by decide +kernel
theorem dX10_lookAt_145 : decode cX10_lookAt 145 = .ok (.goto (-23), 3) := by decide +kernel
theorem dX10_lookAt_148 : decode cX10_lookAt 148 = .ok (.return_, 1) := by decide +kernel
theorem dX10_goThrough_0 : decode cX10_goThrough 0 = .ok (.aload_n 0, 1) := by decide +kernel
theorem dX10_goThrough_1 : decode cX10_goThrough 1 = .ok (.invokevirtual 227, 3) := by decide +kernel
theorem dX10_goThrough_4 : decode cX10_goThrough 4 = .ok (.iconst 0, 1) := by decide +kernel
theorem dX10_goThrough_5 : decode cX10_goThrough 5 = .ok (.istore_n 2, 1) := by decide +kernel
theorem dX10_goThrough_6 : decode cX10_goThrough 6 = .ok (.iload_n 2, 1) := by decide +kernel
theorem dX10_goThrough_7 : decode cX10_goThrough 7 = .ok (.bipush 32, 2) := by decide +kernel
theorem dX10_goThrough_9 : decode cX10_goThrough 9 = .ok (.if_icmp .ge 16, 3) := by decide +kernel
theorem dX10_goThrough_12 : decode cX10_goThrough 12 = .ok (.aload_n 0, 1) := by decide +kernel
theorem dX10_goThrough_13 : decode cX10_goThrough 13 = .ok (.getfield 40, 3) := by decide +kernel
theorem dX10_goThrough_16 : decode cX10_goThrough 16 = .ok (.iload_n 2, 1) := by decide +kernel
theorem dX10_goThrough_17 : decode cX10_goThrough 17 = .ok (.iconst 0, 1) := by decide +kernel
theorem dX10_goThrough_18 : decode cX10_goThrough 18 = .ok (.bastore, 1) := by decide +kernel
theorem dX10_goThrough_19 : decode cX10_goThrough 19 = .ok (.iinc 2 1, 3) := by decide +kernel
theorem dX10_goThrough_22 : decode cX10_goThrough 22 = .ok (.goto (-16), 3) := by decide +kernel
theorem dX10_goThrough_25 : decode cX10_goThrough 25 = .ok (.iconst 0, 1) := by decide +kernel
theorem dX10_goThrough_26 : decode cX10_goThrough 26 = .ok (.istore_n 2, 1) := by decide +kernel
theorem dX10_goThrough_27 : decode cX10_goThrough 27 = .ok (.iload_n 2, 1) := by decide +kernel
theorem dX10_goThrough_28 : decode cX10_goThrough 28 = .ok (.bipush 10, 2) := by decide +kernel
theorem dX10_goThrough_30 : decode cX10_goThrough 30 = .ok (.if_icmp .ge 16, 3) := by decide +kernel
theorem dX10_goThrough_33 : decode cX10_goThrough 33 = .ok (.aload_n 0, 1) := by decide +kernel
theorem dX10_goThrough_34 : decode cX10_goThrough 34 = .ok (.getfield 44, 3) := by decide +kernel
theorem dX10_goThrough_37 : decode cX10_goThrough 37 = .ok (.iload_n 2, 1) := by decide +kernel
theorem dX10_goThrough_38 : decode cX10_goThrough 38 = .ok (.iconst 0, 1) := by decide +kernel
theorem dX10_goThrough_39 : decode cX10_goThrough 39 = .ok (.iastore, 1) := by decide +kernel
theorem dX10_goThrough_40 : decode cX10_goThrough 40 = .ok (.iinc 2 1, 3) := by decide +kernel
theorem dX10_goThrough_43 : decode cX10_goThrough 43 = .ok (.goto (-16), 3) := by decide +kernel
theorem dX10_goThrough_46 : decode cX10_goThrough 46 = .ok (.aload_n 0, 1) := by decide +kernel
theorem dX10_goThrough_47 : decode cX10_goThrough 47 = .ok (.bipush (-9), 2) := by decide +kernel
theorem dX10_goThrough_49 : decode cX10_goThrough 49 = .ok (.putfield 208, 3) := by decide +kernel
theorem dX10_goThrough_52 : decode cX10_goThrough 52 = .ok (.aload_n 0, 1) := by decide +kernel
theorem dX10_goThrough_53 : decode cX10_goThrough 53 = .ok (.iconst 0, 1) := by decide +kernel
theorem dX10_goThrough_54 : decode cX10_goThrough 54 = .ok (.putfield 218, 3) := by decide +kernel
theorem dX10_goThrough_57 : decode cX10_goThrough 57 = .ok (.aload_n 0, 1) := by decide +kernel
theorem dX10_goThrough_58 : decode cX10_goThrough 58 = .ok (.iconst 1, 1) := by decide +kernel
theorem dX10_goThrough_59 : decode cX10_goThrough 59 = .ok (.aload_n 0, 1) := by decide +kernel
theorem dX10_goThrough_60 : decode cX10_goThrough 60 = .ok (.getfield 135, 3) := by decide +kernel
theorem dX10_goThrough_63 : decode cX10_goThrough 63 = .ok (.ishl, 1) := by decide +kernel
theorem dX10_goThrough_64 : decode cX10_goThrough 64 = .ok (.iconst 1, 1) := by decide +kernel
theorem dX10_goThrough_65 : decode cX10_goThrough 65 = .ok (.isub, 1) := by decide +kernel
theorem dX10_goThrough_66 : decode cX10_goThrough 66 = .ok (.putfield 221, 3) := by decide +kernel
theorem dX10_goThrough_69 : decode cX10_goThrough 69 = .ok (.aload_n 0, 1) := by decide +kernel
theorem dX10_goThrough_70 : decode cX10_goThrough 70 = .ok (.iconst 0, 1) := by decide +kernel
theorem dX10_goThrough_71 : decode cX10_goThrough 71 = .ok (.putfield 224, 3) := by decide +kernel
theorem dX10_goThrough_74 : decode cX10_goThrough 74 = .ok (.iconst 0, 1) := by decide +kernel
theorem dX10_goThrough_75 : decode cX10_goThrough 75 = .ok (.istore_n 2, 1) := by decide +kernel
theorem dX10_goThrough_76 : decode cX10_goThrough 76 = .ok (.aload_n 0, 1) := by decide +kernel
theorem dX10_goThrough_77 : decode cX10_goThrough 77 = .ok (.getfield 34, 3) := by decide +kernel
theorem dX10_goThrough_80 : decode cX10_goThrough 80 = .ok (.iconst 0, 1) := by decide +kernel
theorem dX10_goThrough_81 : decode cX10_goThrough 81 = .ok (.iconst (-1), 1) := by decide +kernel
theorem dX10_goThrough_82 : decode cX10_goThrough 82 = .ok (.iastore, 1) := by decide +kernel
theorem dX10_goThrough_83 : decode cX10_goThrough 83 = .ok (.iload_n 2, 1) := by decide +kernel
theorem dX10_goThrough_84 : decode cX10_goThrough 84 = .ok (.ifCond .lt 102, 3) := by decide +kernel
theorem dX10_goThrough_87 : decode cX10_goThrough 87 = .ok (.iload_n 2, 1) := by decide +kernel
theorem dX10_goThrough_88 : decode cX10_goThrough 88 = .ok (.aload_n 0, 1) := by decide +kernel
theorem dX10_goThrough_89 : decode cX10_goThrough 89 = .ok (.getfield 135, 3) := by decide +kernel
theorem dX10_goThrough_92 : decode cX10_goThrough 92 = .ok (.if_icmp .ne 13, 3) := by decide +kernel
theorem dX10_goThrough_95 : decode cX10_goThrough 95 = .ok (.aload_n 0, 1) := by decide +kernel
theorem dX10_goThrough_96 : decode cX10_goThrough 96 = .ok (.invokevirtual 230, 3) := by decide +kernel
theorem dX10_goThrough_99 : decode cX10_goThrough 99 = .ok (.iinc 2 (-1), 3) := by decide +kernel
theorem dX10_goThrough_102 : decode cX10_goThrough 102 = .ok (.goto (-19), 3) := by decide +kernel
theorem dX10_goThrough_105 : decode cX10_goThrough 105 = .ok (.aload_n 0, 1) := by decide +kernel
theorem dX10_goThrough_106 : decode cX10_goThrough 106 = .ok (.getfield 34, 3) := by decide +kernel
theorem dX10_goThrough_109 : decode cX10_goThrough 109 = .ok (.iload_n 2, 1) := by decide +kernel
theorem dX10_goThrough_110 : decode cX10_goThrough 110 = .ok (.dup2, 1) := by decide +kernel
theorem dX10_goThrough_111 : decode cX10_goThrough 111 = .ok (.iaload, 1) := by decide +kernel
theorem dX10_goThrough_112 : decode cX10_goThrough 112 = .ok (.iconst 1, 1) := by decide +kernel
theorem dX10_goThrough_113 : decode cX10_goThrough 113 = .ok (.iadd, 1) := by decide +kernel
theorem dX10_goThrough_114 : decode cX10_goThrough 114 = .ok (.iastore, 1) := by decide +kernel
theorem dX10_goThrough_115 : decode cX10_goThrough 115 = .ok (.aload_n 0, 1) := by decide +kernel
theorem dX10_goThrough_116 : decode cX10_goThrough 116 = .ok (.getfield 34, 3) := by decide +kernel
theorem dX10_goThrough_119 : decode cX10_goThrough 119 = .ok (.iload_n 2, 1) := by decide +kernel
theorem dX10_goThrough_120 : decode cX10_goThrough 120 = .ok (.iaload, 1) := by decide +kernel
theorem dX10_goThrough_121 : decode cX10_goThrough 121 = .ok (.bipush 11, 2) := by decide +kernel
theorem dX10_goThrough_123 : decode cX10_goThrough 123 = .ok (.if_icmp .ge 25, 3) := by decide +kernel
theorem dX10_goThrough_126 : decode cX10_goThrough 126 = .ok (.aload_n 0, 1) := by decide +kernel
theorem dX10_goThrough_127 : decode cX10_goThrough 127 = .ok (.iload_n 2, 1) := by decide +kernel
theorem dX10_goThrough_128 : decode cX10_goThrough 128 = .ok (.iload_n 1, 1) := by decide +kernel
theorem dX10_goThrough_129 : decode cX10_goThrough 129 = .ok (.invokevirtual 233, 3) := by decide +kernel
theorem dX10_goThrough_132 : decode cX10_goThrough 132 = .ok (.ifCond .ne 16, 3) := by decide +kernel
theorem dX10_goThrough_135 : decode cX10_goThrough 135 = .ok (.aload_n 0, 1) := by decide +kernel
theorem dX10_goThrough_136 : decode cX10_goThrough 136 = .ok (.getfield 34, 3) := by decide +kernel
theorem dX10_goThrough_139 : decode cX10_goThrough 139 = .ok (.iload_n 2, 1) := by decide +kernel
theorem dX10_goThrough_140 : decode cX10_goThrough 140 = .ok (.dup2, 1) := by decide +kernel
theorem dX10_goThrough_141 : decode cX10_goThrough 141 = .ok (.iaload, 1) := by decide +kernel
theorem dX10_goThrough_142 : decode cX10_goThrough 142 = .ok (.iconst 1, 1) := by decide +kernel
theorem dX10_goThrough_143 : decode cX10_goThrough 143 = .ok (.iadd, 1) := by decide +kernel
theorem dX10_goThrough_144 : decode cX10_goThrough 144 = .ok (.iastore, 1) := by decide +kernel
theorem dX10_goThrough_145 : decode cX10_goThrough 145 = .ok (.goto (-30), 3) := by decide +kernel
theorem dX10_goThrough_148 : decode cX10_goThrough 148 = .ok (.aload_n 0, 1) := by decide +kernel
theorem dX10_goThrough_149 : decode cX10_goThrough 149 = .ok (.getfield 34, 3) := by decide +kernel
theorem dX10_goThrough_152 : decode cX10_goThrough 152 = .ok (.iload_n 2, 1) := by decide +kernel
theorem dX10_goThrough_153 : decode cX10_goThrough 153 = .ok (.iaload, 1) := by decide +kernel
theorem dX10_goThrough_154 : decode cX10_goThrough 154 = .ok (.bipush 10, 2) := by decide +kernel
theorem dX10_goThrough_156 : decode cX10_goThrough 156 = .ok (.if_icmp .le 9, 3) := by decide +kernel
theorem dX10_goThrough_159 : decode cX10_goThrough 159 = .ok (.iinc 2 (-1), 3) := by decide +kernel
theorem dX10_goThrough_162 : decode cX10_goThrough 162 = .ok (.goto (-79), 3) := by decide +kernel
theorem dX10_goThrough_165 : decode cX10_goThrough 165 = .ok (.iinc 2 1, 3) := by decide +kernel
theorem dX10_goThrough_168 : decode cX10_goThrough 168 = .ok (.iload_n 2, 1) := by decide +kernel
theorem dX10_goThrough_169 : decode cX10_goThrough 169 = .ok (.aload_n 0, 1) := by decide +kernel
theorem dX10_goThrough_170 : decode cX10_goThrough 170 = .ok (.getfield 135, 3) := by decide +kernel
theorem dX10_goThrough_173 : decode cX10_goThrough 173 = .ok (.if_icmp .ge (-90), 3) := by decide +kernel
theorem dX10_goThrough_176 : decode cX10_goThrough 176 = .ok (.aload_n 0, 1) := by decide +kernel
theorem dX10_goThrough_177 : decode cX10_goThrough 177 = .ok (.getfield 34, 3) := by decide +kernel
theorem dX10_goThrough_180 : decode cX10_goThrough 180 = .ok (.iload_n 2, 1) := by decide +kernel
theorem dX10_goThrough_181 : decode cX10_goThrough 181 = .ok (.iconst (-1), 1) := by decide +kernel
theorem dX10_goThrough_182 : decode cX10_goThrough 182 = .ok (.iastore, 1) := by decide +kernel
theorem dX10_goThrough_183 : decode cX10_goThrough 183 = .ok (.goto (-100), 3) := by decide +kernel
theorem dX10_goThrough_186 : decode cX10_goThrough 186 = .ok (.return_, 1) := by decide +kernel
theorem dX10_bestOfSet_0 : decode cX10_bestOfSet 0 = .ok (.iconst 0, 1) := by decide +kernel
theorem dX10_bestOfSet_1 : decode cX10_bestOfSet 1 = .ok (.istore_n 2, 1) := by decide +kernel
theorem dX10_bestOfSet_2 : decode cX10_bestOfSet 2 = .ok (.iconst 0, 1) := by decide +kernel
theorem dX10_bestOfSet_3 : decode cX10_bestOfSet 3 = .ok (.istore_n 3, 1) := by decide +kernel
theorem dX10_bestOfSet_4 : decode cX10_bestOfSet 4 = .ok (.iload_n 3, 1) := by decide +kernel
theorem dX10_bestOfSet_5 : decode cX10_bestOfSet 5 = .ok (.iconst 1, 1) := by decide +kernel
theorem dX10_bestOfSet_6 : decode cX10_bestOfSet 6 = .ok (.aload_n 0, 1) := by decide +kernel
theorem dX10_bestOfSet_7 : decode cX10_bestOfSet 7 = .ok (.getfield 135, 3) := by decide +kernel
theorem dX10_bestOfSet_10 : decode cX10_bestOfSet 10 = .ok (.ishl, 1) := by decide +kernel
theorem dX10_bestOfSet_11 : decode cX10_bestOfSet 11 = .ok (.if_icmp .ge 45, 3) := by decide +kernel
theorem dX10_bestOfSet_14 : decode cX10_bestOfSet 14 = .ok (.aload_n 0, 1) := by decide +kernel
theorem dX10_bestOfSet_15 : decode cX10_bestOfSet 15 = .ok (.getfield 40, 3) := by decide +kernel
theorem dX10_bestOfSet_18 : decode cX10_bestOfSet 18 = .ok (.iload_n 3, 1) := by decide +kernel
theorem dX10_bestOfSet_19 : decode cX10_bestOfSet 19 = .ok (.baload, 1) := by decide +kernel
theorem dX10_bestOfSet_20 : decode cX10_bestOfSet 20 = .ok (.ifCond .eq 28, 3) := by decide +kernel
theorem dX10_bestOfSet_23 : decode cX10_bestOfSet 23 = .ok (.iload_n 3, 1) := by decide +kernel
theorem dX10_bestOfSet_24 : decode cX10_bestOfSet 24 = .ok (.iload_n 1, 1) := by decide +kernel
theorem dX10_bestOfSet_25 : decode cX10_bestOfSet 25 = .ok (.iconst (-1), 1) := by decide +kernel
theorem dX10_bestOfSet_26 : decode cX10_bestOfSet 26 = .ok (.ixor, 1) := by decide +kernel
theorem dX10_bestOfSet_27 : decode cX10_bestOfSet 27 = .ok (.iand, 1) := by decide +kernel
theorem dX10_bestOfSet_28 : decode cX10_bestOfSet 28 = .ok (.ifCond .ne 20, 3) := by decide +kernel
theorem dX10_bestOfSet_31 : decode cX10_bestOfSet 31 = .ok (.aload_n 0, 1) := by decide +kernel
theorem dX10_bestOfSet_32 : decode cX10_bestOfSet 32 = .ok (.iload_n 3, 1) := by decide +kernel
theorem dX10_bestOfSet_33 : decode cX10_bestOfSet 33 = .ok (.invokevirtual 199, 3) := by decide +kernel
theorem dX10_bestOfSet_36 : decode cX10_bestOfSet 36 = .ok (.iload_n 2, 1) := by decide +kernel
theorem dX10_bestOfSet_37 : decode cX10_bestOfSet 37 = .ok (.if_icmp .le 11, 3) := by decide +kernel
theorem dX10_bestOfSet_40 : decode cX10_bestOfSet 40 = .ok (.aload_n 0, 1) := by decide +kernel
theorem dX10_bestOfSet_41 : decode cX10_bestOfSet 41 = .ok (.iload_n 3, 1) := by decide +kernel
theorem dX10_bestOfSet_42 : decode cX10_bestOfSet 42 = .ok (.invokevirtual 199, 3) := by decide +kernel
theorem dX10_bestOfSet_45 : decode cX10_bestOfSet 45 = .ok (.goto 4, 3) := by decide +kernel
theorem dX10_bestOfSet_48 : decode cX10_bestOfSet 48 = .ok (.iload_n 2, 1) := by decide +kernel
theorem dX10_bestOfSet_49 : decode cX10_bestOfSet 49 = .ok (.istore_n 2, 1) := by decide +kernel
theorem dX10_bestOfSet_50 : decode cX10_bestOfSet 50 = .ok (.iinc 3 1, 3) := by decide +kernel
theorem dX10_bestOfSet_53 : decode cX10_bestOfSet 53 = .ok (.goto (-49), 3) := by decide +kernel
theorem dX10_bestOfSet_56 : decode cX10_bestOfSet 56 = .ok (.iload_n 2, 1) := by decide +kernel
theorem dX10_bestOfSet_57 : decode cX10_bestOfSet 57 = .ok (.ireturn, 1) := by decide +kernel
theorem dX10_best_0 : decode cX10_best 0 = .ok (.iload_n 1, 1) := by decide +kernel
theorem dX10_best_1 : decode cX10_best 1 = .ok (.i2l, 1) := by decide +kernel
theorem dX10_best_2 : decode cX10_best 2 = .ok (.lconst 0, 1) := by decide +kernel
theorem dX10_best_3 : decode cX10_best 3 = .ok (.iconst 1, 1) := by decide +kernel
theorem dX10_best_4 : decode cX10_best 4 = .ok (.aload_n 0, 1) := by decide +kernel
theorem dX10_best_5 : decode cX10_best 5 = .ok (.getfield 135, 3) := by decide +kernel
theorem dX10_best_8 : decode cX10_best 8 = .ok (.ishl, 1) := by decide +kernel
theorem dX10_best_9 : decode cX10_best 9 = .ok (.iconst 1, 1) := by decide +kernel
theorem dX10_best_10 : decode cX10_best 10 = .ok (.isub, 1) := by decide +kernel
theorem dX10_best_11 : decode cX10_best 11 = .ok (.i2l, 1) := by decide +kernel
theorem dX10_best_12 : decode cX10_best 12 = .ok (.invokestatic 97, 3) := by decide +kernel
theorem dX10_best_15 : decode cX10_best 15 = .ok (.ifCond .ne 6, 3) := by decide +kernel
theorem dX10_best_18 : decode cX10_best 18 = .ok (.bipush (-2), 2) := by decide +kernel
theorem dX10_best_20 : decode cX10_best 20 = .ok (.ireturn, 1) := by decide +kernel
theorem dX10_best_21 : decode cX10_best 21 = .ok (.aload_n 0, 1) := by decide +kernel
theorem dX10_best_22 : decode cX10_best 22 = .ok (.iconst 0, 1) := by decide +kernel
theorem dX10_best_23 : decode cX10_best 23 = .ok (.invokevirtual 237, 3) := by decide +kernel
theorem dX10_best_26 : decode cX10_best 26 = .ok (.aload_n 0, 1) := by decide +kernel
theorem dX10_best_27 : decode cX10_best 27 = .ok (.iload_n 1, 1) := by decide +kernel
theorem dX10_best_28 : decode cX10_best 28 = .ok (.invokevirtual 241, 3) := by decide +kernel
theorem dX10_best_31 : decode cX10_best 31 = .ok (.ireturn, 1) := by decide +kernel
theorem dX10_bestOf_0 : decode cX10_bestOf 0 = .ok (.aload_n 0, 1) := by decide +kernel
theorem dX10_bestOf_1 : decode cX10_bestOf 1 = .ok (.iload_n 1, 1) := by decide +kernel
theorem dX10_bestOf_2 : decode cX10_bestOf 2 = .ok (.invokevirtual 174, 3) := by decide +kernel
theorem dX10_bestOf_5 : decode cX10_bestOf 5 = .ok (.ifCond .ne 5, 3) := by decide +kernel
theorem dX10_bestOf_8 : decode cX10_bestOf 8 = .ok (.iconst (-1), 1) := by decide +kernel
theorem dX10_bestOf_9 : decode cX10_bestOf 9 = .ok (.ireturn, 1) := by decide +kernel
theorem dX10_bestOf_10 : decode cX10_bestOf 10 = .ok (.aload_n 0, 1) := by decide +kernel
theorem dX10_bestOf_11 : decode cX10_bestOf 11 = .ok (.iconst 0, 1) := by decide +kernel
theorem dX10_bestOf_12 : decode cX10_bestOf 12 = .ok (.invokevirtual 237, 3) := by decide +kernel
theorem dX10_bestOf_15 : decode cX10_bestOf 15 = .ok (.aload_n 0, 1) := by decide +kernel
theorem dX10_bestOf_16 : decode cX10_bestOf 16 = .ok (.getfield 37, 3) := by decide +kernel
theorem dX10_bestOf_19 : decode cX10_bestOf 19 = .ok (.iload_n 1, 1) := by decide +kernel
theorem dX10_bestOf_20 : decode cX10_bestOf 20 = .ok (.iaload, 1) := by decide +kernel
theorem dX10_bestOf_21 : decode cX10_bestOf 21 = .ok (.ifCond .ne 8, 3) := by decide +kernel
theorem dX10_bestOf_24 : decode cX10_bestOf 24 = .ok (.bipush (-9), 2) := by decide +kernel
theorem dX10_bestOf_26 : decode cX10_bestOf 26 = .ok (.goto 11, 3) := by decide +kernel
theorem dX10_bestOf_29 : decode cX10_bestOf 29 = .ok (.aload_n 0, 1) := by decide +kernel
theorem dX10_bestOf_30 : decode cX10_bestOf 30 = .ok (.getfield 37, 3) := by decide +kernel
theorem dX10_bestOf_33 : decode cX10_bestOf 33 = .ok (.iload_n 1, 1) := by decide +kernel
theorem dX10_bestOf_34 : decode cX10_bestOf 34 = .ok (.iaload, 1) := by decide +kernel
theorem dX10_bestOf_35 : decode cX10_bestOf 35 = .ok (.iconst 1, 1) := by decide +kernel
theorem dX10_bestOf_36 : decode cX10_bestOf 36 = .ok (.isub, 1) := by decide +kernel
theorem dX10_bestOf_37 : decode cX10_bestOf 37 = .ok (.ireturn, 1) := by decide +kernel
theorem dX10_beside_0 : decode cX10_beside 0 = .ok (.aload_n 0, 1) := by decide +kernel
theorem dX10_beside_1 : decode cX10_beside 1 = .ok (.iconst 1, 1) := by decide +kernel
theorem dX10_beside_2 : decode cX10_beside 2 = .ok (.invokevirtual 237, 3) := by decide +kernel
theorem dX10_beside_5 : decode cX10_beside 5 = .ok (.aload_n 0, 1) := by decide +kernel
theorem dX10_beside_6 : decode cX10_beside 6 = .ok (.getfield 208, 3) := by decide +kernel
theorem dX10_beside_9 : decode cX10_beside 9 = .ok (.aload_n 0, 1) := by decide +kernel
theorem dX10_beside_10 : decode cX10_beside 10 = .ok (.aload_n 0, 1) := by decide +kernel
theorem dX10_beside_11 : decode cX10_beside 11 = .ok (.invokevirtual 196, 3) := by decide +kernel
theorem dX10_beside_14 : decode cX10_beside 14 = .ok (.invokevirtual 199, 3) := by decide +kernel
theorem dX10_beside_17 : decode cX10_beside 17 = .ok (.isub, 1) := by decide +kernel
theorem dX10_beside_18 : decode cX10_beside 18 = .ok (.ireturn, 1) := by decide +kernel
theorem dX10_price_0 : decode cX10_price 0 = .ok (.aload_n 0, 1) := by decide +kernel
theorem dX10_price_1 : decode cX10_price 1 = .ok (.iload_n 1, 1) := by decide +kernel
theorem dX10_price_2 : decode cX10_price 2 = .ok (.invokevirtual 174, 3) := by decide +kernel
theorem dX10_price_5 : decode cX10_price 5 = .ok (.ifCond .ne 5, 3) := by decide +kernel
theorem dX10_price_8 : decode cX10_price 8 = .ok (.iconst (-1), 1) := by decide +kernel
theorem dX10_price_9 : decode cX10_price 9 = .ok (.ireturn, 1) := by decide +kernel
theorem dX10_price_10 : decode cX10_price 10 = .ok (.aload_n 0, 1) := by decide +kernel
theorem dX10_price_11 : decode cX10_price 11 = .ok (.iconst 0, 1) := by decide +kernel
theorem dX10_price_12 : decode cX10_price 12 = .ok (.invokevirtual 237, 3) := by decide +kernel
theorem dX10_price_15 : decode cX10_price 15 = .ok (.aload_n 0, 1) := by decide +kernel
theorem dX10_price_16 : decode cX10_price 16 = .ok (.getfield 37, 3) := by decide +kernel
theorem dX10_price_19 : decode cX10_price 19 = .ok (.iload_n 1, 1) := by decide +kernel
theorem dX10_price_20 : decode cX10_price 20 = .ok (.iaload, 1) := by decide +kernel
theorem dX10_price_21 : decode cX10_price 21 = .ok (.ifCond .ne 6, 3) := by decide +kernel
theorem dX10_price_24 : decode cX10_price 24 = .ok (.bipush (-9), 2) := by decide +kernel
theorem dX10_price_26 : decode cX10_price 26 = .ok (.ireturn, 1) := by decide +kernel
theorem dX10_price_27 : decode cX10_price 27 = .ok (.aload_n 0, 1) := by decide +kernel
theorem dX10_price_28 : decode cX10_price 28 = .ok (.iconst 1, 1) := by decide +kernel
theorem dX10_price_29 : decode cX10_price 29 = .ok (.aload_n 0, 1) := by decide +kernel
theorem dX10_price_30 : decode cX10_price 30 = .ok (.getfield 135, 3) := by decide +kernel
theorem dX10_price_33 : decode cX10_price 33 = .ok (.ishl, 1) := by decide +kernel
theorem dX10_price_34 : decode cX10_price 34 = .ok (.iconst 1, 1) := by decide +kernel
theorem dX10_price_35 : decode cX10_price 35 = .ok (.isub, 1) := by decide +kernel
theorem dX10_price_36 : decode cX10_price 36 = .ok (.iconst 1, 1) := by decide +kernel
theorem dX10_price_37 : decode cX10_price 37 = .ok (.iload_n 1, 1) := by decide +kernel
theorem dX10_price_38 : decode cX10_price 38 = .ok (.ishl, 1) := by decide +kernel
theorem dX10_price_39 : decode cX10_price 39 = .ok (.iconst (-1), 1) := by decide +kernel
theorem dX10_price_40 : decode cX10_price 40 = .ok (.ixor, 1) := by decide +kernel
theorem dX10_price_41 : decode cX10_price 41 = .ok (.iand, 1) := by decide +kernel
theorem dX10_price_42 : decode cX10_price 42 = .ok (.invokevirtual 241, 3) := by decide +kernel
theorem dX10_price_45 : decode cX10_price 45 = .ok (.aload_n 0, 1) := by decide +kernel
theorem dX10_price_46 : decode cX10_price 46 = .ok (.getfield 208, 3) := by decide +kernel
theorem dX10_price_49 : decode cX10_price 49 = .ok (.aload_n 0, 1) := by decide +kernel
theorem dX10_price_50 : decode cX10_price 50 = .ok (.getfield 16, 3) := by decide +kernel
theorem dX10_price_53 : decode cX10_price 53 = .ok (.bipush 6, 2) := by decide +kernel
theorem dX10_price_55 : decode cX10_price 55 = .ok (.iload_n 1, 1) := by decide +kernel
theorem dX10_price_56 : decode cX10_price 56 = .ok (.imul, 1) := by decide +kernel
theorem dX10_price_57 : decode cX10_price 57 = .ok (.iconst 5, 1) := by decide +kernel
theorem dX10_price_58 : decode cX10_price 58 = .ok (.iadd, 1) := by decide +kernel
theorem dX10_price_59 : decode cX10_price 59 = .ok (.iaload, 1) := by decide +kernel
theorem dX10_price_60 : decode cX10_price 60 = .ok (.isub, 1) := by decide +kernel
theorem dX10_price_61 : decode cX10_price 61 = .ok (.isub, 1) := by decide +kernel
theorem dX10_price_62 : decode cX10_price 62 = .ok (.ireturn, 1) := by decide +kernel
theorem dX10_many_0 : decode cX10_many 0 = .ok (.aload_n 0, 1) := by decide +kernel
theorem dX10_many_1 : decode cX10_many 1 = .ok (.iconst 0, 1) := by decide +kernel
theorem dX10_many_2 : decode cX10_many 2 = .ok (.invokevirtual 237, 3) := by decide +kernel
theorem dX10_many_5 : decode cX10_many 5 = .ok (.iconst 0, 1) := by decide +kernel
theorem dX10_many_6 : decode cX10_many 6 = .ok (.istore_n 1, 1) := by decide +kernel
theorem dX10_many_7 : decode cX10_many 7 = .ok (.iconst 0, 1) := by decide +kernel
theorem dX10_many_8 : decode cX10_many 8 = .ok (.istore_n 2, 1) := by decide +kernel
theorem dX10_many_9 : decode cX10_many 9 = .ok (.iload_n 2, 1) := by decide +kernel
theorem dX10_many_10 : decode cX10_many 10 = .ok (.bipush 32, 2) := by decide +kernel
theorem dX10_many_12 : decode cX10_many 12 = .ok (.if_icmp .ge 35, 3) := by decide +kernel
theorem dX10_many_15 : decode cX10_many 15 = .ok (.aload_n 0, 1) := by decide +kernel
theorem dX10_many_16 : decode cX10_many 16 = .ok (.getfield 40, 3) := by decide +kernel
theorem dX10_many_19 : decode cX10_many 19 = .ok (.iload_n 2, 1) := by decide +kernel
theorem dX10_many_20 : decode cX10_many 20 = .ok (.baload, 1) := by decide +kernel
theorem dX10_many_21 : decode cX10_many 21 = .ok (.ifCond .eq 18, 3) := by decide +kernel
theorem dX10_many_24 : decode cX10_many 24 = .ok (.iload_n 2, 1) := by decide +kernel
theorem dX10_many_25 : decode cX10_many 25 = .ok (.invokestatic 244, 3) := by decide +kernel
theorem dX10_many_28 : decode cX10_many 28 = .ok (.iload_n 1, 1) := by decide +kernel
theorem dX10_many_29 : decode cX10_many 29 = .ok (.if_icmp .le 10, 3) := by decide +kernel
theorem dX10_many_32 : decode cX10_many 32 = .ok (.iload_n 2, 1) := by decide +kernel
theorem dX10_many_33 : decode cX10_many 33 = .ok (.invokestatic 244, 3) := by decide +kernel
theorem dX10_many_36 : decode cX10_many 36 = .ok (.goto 4, 3) := by decide +kernel
theorem dX10_many_39 : decode cX10_many 39 = .ok (.iload_n 1, 1) := by decide +kernel
theorem dX10_many_40 : decode cX10_many 40 = .ok (.istore_n 1, 1) := by decide +kernel
theorem dX10_many_41 : decode cX10_many 41 = .ok (.iinc 2 1, 3) := by decide +kernel
theorem dX10_many_44 : decode cX10_many 44 = .ok (.goto (-35), 3) := by decide +kernel
theorem dX10_many_47 : decode cX10_many 47 = .ok (.iload_n 1, 1) := by decide +kernel
theorem dX10_many_48 : decode cX10_many 48 = .ok (.ireturn, 1) := by decide +kernel
theorem dX10_room_0 : decode cX10_room 0 = .ok (.aload_n 0, 1) := by decide +kernel
theorem dX10_room_1 : decode cX10_room 1 = .ok (.iload_n 1, 1) := by decide +kernel
theorem dX10_room_2 : decode cX10_room 2 = .ok (.invokevirtual 174, 3) := by decide +kernel
theorem dX10_room_5 : decode cX10_room 5 = .ok (.ifCond .ne 5, 3) := by decide +kernel
theorem dX10_room_8 : decode cX10_room 8 = .ok (.iconst (-1), 1) := by decide +kernel
theorem dX10_room_9 : decode cX10_room 9 = .ok (.ireturn, 1) := by decide +kernel
theorem dX10_room_10 : decode cX10_room 10 = .ok (.iload_n 2, 1) := by decide +kernel
theorem dX10_room_11 : decode cX10_room 11 = .ok (.i2l, 1) := by decide +kernel
theorem dX10_room_12 : decode cX10_room 12 = .ok (.lconst 0, 1) := by decide +kernel
theorem dX10_room_13 : decode cX10_room 13 = .ok (.lconst 1, 1) := by decide +kernel
theorem dX10_room_14 : decode cX10_room 14 = .ok (.invokestatic 97, 3) := by decide +kernel
theorem dX10_room_17 : decode cX10_room 17 = .ok (.ifCond .ne 6, 3) := by decide +kernel
theorem dX10_room_20 : decode cX10_room 20 = .ok (.bipush (-2), 2) := by decide +kernel
theorem dX10_room_22 : decode cX10_room 22 = .ok (.ireturn, 1) := by decide +kernel
theorem dX10_room_23 : decode cX10_room 23 = .ok (.aload_n 0, 1) := by decide +kernel
theorem dX10_room_24 : decode cX10_room 24 = .ok (.getfield 25, 3) := by decide +kernel
theorem dX10_room_27 : decode cX10_room 27 = .ok (.iload_n 1, 1) := by decide +kernel
theorem dX10_room_28 : decode cX10_room 28 = .ok (.iaload, 1) := by decide +kernel
theorem dX10_room_29 : decode cX10_room 29 = .ok (.bipush (-9), 2) := by decide +kernel
theorem dX10_room_31 : decode cX10_room 31 = .ok (.if_icmp .eq 6, 3) := by decide +kernel
theorem dX10_room_34 : decode cX10_room 34 = .ok (.bipush (-3), 2) := by decide +kernel
theorem dX10_room_36 : decode cX10_room 36 = .ok (.ireturn, 1) := by decide +kernel
theorem dX10_room_37 : decode cX10_room 37 = .ok (.bipush (-9), 2) := by decide +kernel
theorem dX10_room_39 : decode cX10_room 39 = .ok (.istore_n 3, 1) := by decide +kernel
theorem dX10_room_40 : decode cX10_room 40 = .ok (.bipush (-9), 2) := by decide +kernel
theorem dX10_room_42 : decode cX10_room 42 = .ok (.istore 4, 2) := by decide +kernel
theorem dX10_room_44 : decode cX10_room 44 = .ok (.bipush 9, 2) := by decide +kernel
theorem dX10_room_46 : decode cX10_room 46 = .ok (.istore 5, 2) := by decide +kernel
theorem dX10_room_48 : decode cX10_room 48 = .ok (.iload 5, 2) := by decide +kernel
theorem dX10_room_50 : decode cX10_room 50 = .ok (.ifCond .lt 72, 3) := by decide +kernel
theorem dX10_room_53 : decode cX10_room 53 = .ok (.aload_n 0, 1) := by decide +kernel
theorem dX10_room_54 : decode cX10_room 54 = .ok (.iload_n 1, 1) := by decide +kernel
theorem dX10_room_55 : decode cX10_room 55 = .ok (.iload 5, 2) := by decide +kernel
theorem dX10_room_57 : decode cX10_room 57 = .ok (.invokevirtual 171, 3) := by decide +kernel
theorem dX10_room_60 : decode cX10_room 60 = .ok (.ifCond .eq 56, 3) := by decide +kernel
theorem dX10_room_63 : decode cX10_room 63 = .ok (.aload_n 0, 1) := by decide +kernel
theorem dX10_room_64 : decode cX10_room 64 = .ok (.aload_n 0, 1) := by decide +kernel
theorem dX10_room_65 : decode cX10_room 65 = .ok (.iload_n 1, 1) := by decide +kernel
theorem dX10_room_66 : decode cX10_room 66 = .ok (.iload 5, 2) := by decide +kernel
theorem dX10_room_68 : decode cX10_room 68 = .ok (.invokevirtual 184, 3) := by decide +kernel
theorem dX10_room_71 : decode cX10_room 71 = .ok (.invokevirtual 199, 3) := by decide +kernel
theorem dX10_room_74 : decode cX10_room 74 = .ok (.istore 6, 2) := by decide +kernel
theorem dX10_room_76 : decode cX10_room 76 = .ok (.iload_n 3, 1) := by decide +kernel
theorem dX10_room_77 : decode cX10_room 77 = .ok (.bipush (-9), 2) := by decide +kernel
theorem dX10_room_79 : decode cX10_room 79 = .ok (.if_icmp .eq 9, 3) := by decide +kernel
theorem dX10_room_82 : decode cX10_room 82 = .ok (.iload 6, 2) := by decide +kernel
theorem dX10_room_84 : decode cX10_room 84 = .ok (.iload_n 3, 1) := by decide +kernel
theorem dX10_room_85 : decode cX10_room 85 = .ok (.if_icmp .gt 8, 3) := by decide +kernel
theorem dX10_room_88 : decode cX10_room 88 = .ok (.iload 5, 2) := by decide +kernel
theorem dX10_room_90 : decode cX10_room 90 = .ok (.goto 5, 3) := by decide +kernel
theorem dX10_room_93 : decode cX10_room 93 = .ok (.iload 4, 2) := by decide +kernel
theorem dX10_room_95 : decode cX10_room 95 = .ok (.istore 4, 2) := by decide +kernel
theorem dX10_room_97 : decode cX10_room 97 = .ok (.iload_n 3, 1) := by decide +kernel
theorem dX10_room_98 : decode cX10_room 98 = .ok (.bipush (-9), 2) := by decide +kernel
theorem dX10_room_100 : decode cX10_room 100 = .ok (.if_icmp .eq 9, 3) := by decide +kernel
theorem dX10_room_103 : decode cX10_room 103 = .ok (.iload 6, 2) := by decide +kernel
theorem dX10_room_105 : decode cX10_room 105 = .ok (.iload_n 3, 1) := by decide +kernel
theorem dX10_room_106 : decode cX10_room 106 = .ok (.if_icmp .gt 8, 3) := by decide +kernel
theorem dX10_room_109 : decode cX10_room 109 = .ok (.iload 6, 2) := by decide +kernel
theorem dX10_room_111 : decode cX10_room 111 = .ok (.goto 4, 3) := by decide +kernel
theorem dX10_room_114 : decode cX10_room 114 = .ok (.iload_n 3, 1) := by decide +kernel
theorem dX10_room_115 : decode cX10_room 115 = .ok (.istore_n 3, 1) := by decide +kernel
theorem dX10_room_116 : decode cX10_room 116 = .ok (.iinc 5 (-1), 3) := by decide +kernel
theorem dX10_room_119 : decode cX10_room 119 = .ok (.goto (-71), 3) := by decide +kernel
theorem dX10_room_122 : decode cX10_room 122 = .ok (.iload_n 2, 1) := by decide +kernel
theorem dX10_room_123 : decode cX10_room 123 = .ok (.ifCond .ne 7, 3) := by decide +kernel
theorem dX10_room_126 : decode cX10_room 126 = .ok (.iload_n 3, 1) := by decide +kernel
theorem dX10_room_127 : decode cX10_room 127 = .ok (.goto 5, 3) := by decide +kernel
theorem dX10_room_130 : decode cX10_room 130 = .ok (.iload 4, 2) := by decide +kernel
theorem dX10_room_132 : decode cX10_room 132 = .ok (.ireturn, 1) := by decide +kernel
theorem dX10_layStrokes_0 : decode cX10_layStrokes 0 = .ok (.aload_n 0, 1) := by decide +kernel
theorem dX10_layStrokes_1 : decode cX10_layStrokes 1 = .ok (.iconst 0, 1) := by decide +kernel
theorem dX10_layStrokes_2 : decode cX10_layStrokes 2 = .ok (.putfield 247, 3) := by decide +kernel
theorem dX10_layStrokes_5 : decode cX10_layStrokes 5 = .ok (.iconst 0, 1) := by decide +kernel
theorem dX10_layStrokes_6 : decode cX10_layStrokes 6 = .ok (.istore_n 1, 1) := by decide +kernel
theorem dX10_layStrokes_7 : decode cX10_layStrokes 7 = .ok (.iload_n 1, 1) := by decide +kernel
theorem dX10_layStrokes_8 : decode cX10_layStrokes 8 = .ok (.aload_n 0, 1) := by decide +kernel
theorem dX10_layStrokes_9 : decode cX10_layStrokes 9 = .ok (.getfield 135, 3) := by decide +kernel
theorem dX10_layStrokes_12 : decode cX10_layStrokes 12 = .ok (.if_icmp .ge 121, 3) := by decide +kernel
theorem dX10_layStrokes_15 : decode cX10_layStrokes 15 = .ok (.iconst 0, 1) := by decide +kernel
theorem dX10_layStrokes_16 : decode cX10_layStrokes 16 = .ok (.istore_n 2, 1) := by decide +kernel
theorem dX10_layStrokes_17 : decode cX10_layStrokes 17 = .ok (.iload_n 2, 1) := by decide +kernel
theorem dX10_layStrokes_18 : decode cX10_layStrokes 18 = .ok (.aload_n 0, 1) := by decide +kernel
theorem dX10_layStrokes_19 : decode cX10_layStrokes 19 = .ok (.getfield 16, 3) := by decide +kernel
theorem dX10_layStrokes_22 : decode cX10_layStrokes 22 = .ok (.bipush 6, 2) := by decide +kernel
theorem dX10_layStrokes_24 : decode cX10_layStrokes 24 = .ok (.iload_n 1, 1) := by decide +kernel
theorem dX10_layStrokes_25 : decode cX10_layStrokes 25 = .ok (.imul, 1) := by decide +kernel
theorem dX10_layStrokes_26 : decode cX10_layStrokes 26 = .ok (.iconst 1, 1) := by decide +kernel
theorem dX10_layStrokes_27 : decode cX10_layStrokes 27 = .ok (.iadd, 1) := by decide +kernel
theorem dX10_layStrokes_28 : decode cX10_layStrokes 28 = .ok (.iaload, 1) := by decide +kernel
theorem dX10_layStrokes_29 : decode cX10_layStrokes 29 = .ok (.if_icmp .ge 98, 3) := by decide +kernel
theorem dX10_layStrokes_32 : decode cX10_layStrokes 32 = .ok (.aload_n 0, 1) := by decide +kernel
theorem dX10_layStrokes_33 : decode cX10_layStrokes 33 = .ok (.getfield 25, 3) := by decide +kernel
theorem dX10_layStrokes_36 : decode cX10_layStrokes 36 = .ok (.iload_n 1, 1) := by decide +kernel
theorem dX10_layStrokes_37 : decode cX10_layStrokes 37 = .ok (.iaload, 1) := by decide +kernel
theorem dX10_layStrokes_38 : decode cX10_layStrokes 38 = .ok (.bipush (-9), 2) := by decide +kernel
theorem dX10_layStrokes_40 : decode cX10_layStrokes 40 = .ok (.if_icmp .eq 87, 3) := by decide +kernel
theorem dX10_layStrokes_43 : decode cX10_layStrokes 43 = .ok (.aload_n 0, 1) := by decide +kernel
theorem dX10_layStrokes_44 : decode cX10_layStrokes 44 = .ok (.getfield 16, 3) := by decide +kernel
theorem dX10_layStrokes_47 : decode cX10_layStrokes 47 = .ok (.bipush 6, 2) := by decide +kernel
theorem dX10_layStrokes_49 : decode cX10_layStrokes 49 = .ok (.iload_n 1, 1) := by decide +kernel
theorem dX10_layStrokes_50 : decode cX10_layStrokes 50 = .ok (.imul, 1) := by decide +kernel
theorem dX10_layStrokes_51 : decode cX10_layStrokes 51 = .ok (.iaload, 1) := by decide +kernel
theorem dX10_layStrokes_52 : decode cX10_layStrokes 52 = .ok (.istore_n 3, 1) := by decide +kernel
theorem dX10_layStrokes_53 : decode cX10_layStrokes 53 = .ok (.aload_n 0, 1) := by decide +kernel
theorem dX10_layStrokes_54 : decode cX10_layStrokes 54 = .ok (.getfield 59, 3) := by decide +kernel
theorem dX10_layStrokes_57 : decode cX10_layStrokes 57 = .ok (.aload_n 0, 1) := by decide +kernel
theorem dX10_layStrokes_58 : decode cX10_layStrokes 58 = .ok (.getfield 247, 3) := by decide +kernel
theorem dX10_layStrokes_61 : decode cX10_layStrokes 61 = .ok (.aload_n 0, 1) := by decide +kernel
theorem dX10_layStrokes_62 : decode cX10_layStrokes 62 = .ok (.iload_n 1, 1) := by decide +kernel
theorem dX10_layStrokes_63 : decode cX10_layStrokes 63 = .ok (.aload_n 0, 1) := by decide +kernel
theorem dX10_layStrokes_64 : decode cX10_layStrokes 64 = .ok (.getfield 25, 3) := by decide +kernel
theorem dX10_layStrokes_67 : decode cX10_layStrokes 67 = .ok (.iload_n 1, 1) := by decide +kernel
theorem dX10_layStrokes_68 : decode cX10_layStrokes 68 = .ok (.iaload, 1) := by decide +kernel
theorem dX10_layStrokes_69 : decode cX10_layStrokes 69 = .ok (.iload_n 2, 1) := by decide +kernel
theorem dX10_layStrokes_70 : decode cX10_layStrokes 70 = .ok (.invokevirtual 145, 3) := by decide +kernel
theorem dX10_layStrokes_73 : decode cX10_layStrokes 73 = .ok (.iastore, 1) := by decide +kernel
theorem dX10_layStrokes_74 : decode cX10_layStrokes 74 = .ok (.aload_n 0, 1) := by decide +kernel
theorem dX10_layStrokes_75 : decode cX10_layStrokes 75 = .ok (.getfield 62, 3) := by decide +kernel
theorem dX10_layStrokes_78 : decode cX10_layStrokes 78 = .ok (.aload_n 0, 1) := by decide +kernel
theorem dX10_layStrokes_79 : decode cX10_layStrokes 79 = .ok (.getfield 247, 3) := by decide +kernel
theorem dX10_layStrokes_82 : decode cX10_layStrokes 82 = .ok (.aload_n 0, 1) := by decide +kernel
theorem dX10_layStrokes_83 : decode cX10_layStrokes 83 = .ok (.getfield 59, 3) := by decide +kernel
theorem dX10_layStrokes_86 : decode cX10_layStrokes 86 = .ok (.aload_n 0, 1) := by decide +kernel
theorem dX10_layStrokes_87 : decode cX10_layStrokes 87 = .ok (.getfield 247, 3) := by decide +kernel
theorem dX10_layStrokes_90 : decode cX10_layStrokes 90 = .ok (.iaload, 1) := by decide +kernel
theorem dX10_layStrokes_91 : decode cX10_layStrokes 91 = .ok (.aload_n 0, 1) := by decide +kernel
theorem dX10_layStrokes_92 : decode cX10_layStrokes 92 = .ok (.getfield 7, 3) := by decide +kernel
theorem dX10_layStrokes_95 : decode cX10_layStrokes 95 = .ok (.iload_n 3, 1) := by decide +kernel
theorem dX10_layStrokes_96 : decode cX10_layStrokes 96 = .ok (.iaload, 1) := by decide +kernel
theorem dX10_layStrokes_97 : decode cX10_layStrokes 97 = .ok (.iadd, 1) := by decide +kernel
theorem dX10_layStrokes_98 : decode cX10_layStrokes 98 = .ok (.iconst 1, 1) := by decide +kernel
theorem dX10_layStrokes_99 : decode cX10_layStrokes 99 = .ok (.isub, 1) := by decide +kernel
theorem dX10_layStrokes_100 : decode cX10_layStrokes 100 = .ok (.iastore, 1) := by decide +kernel
theorem dX10_layStrokes_101 : decode cX10_layStrokes 101 = .ok (.aload_n 0, 1) := by decide +kernel
theorem dX10_layStrokes_102 : decode cX10_layStrokes 102 = .ok (.getfield 65, 3) := by decide +kernel
theorem dX10_layStrokes_105 : decode cX10_layStrokes 105 = .ok (.aload_n 0, 1) := by decide +kernel
theorem dX10_layStrokes_106 : decode cX10_layStrokes 106 = .ok (.getfield 247, 3) := by decide +kernel
theorem dX10_layStrokes_109 : decode cX10_layStrokes 109 = .ok (.iload_n 3, 1) := by decide +kernel
theorem dX10_layStrokes_110 : decode cX10_layStrokes 110 = .ok (.iastore, 1) := by decide +kernel
theorem dX10_layStrokes_111 : decode cX10_layStrokes 111 = .ok (.aload_n 0, 1) := by decide +kernel
theorem dX10_layStrokes_112 : decode cX10_layStrokes 112 = .ok (.dup, 1) := by decide +kernel
theorem dX10_layStrokes_113 : decode cX10_layStrokes 113 = .ok (.getfield 247, 3) := by decide +kernel
theorem dX10_layStrokes_116 : decode cX10_layStrokes 116 = .ok (.iconst 1, 1) := by decide +kernel
theorem dX10_layStrokes_117 : decode cX10_layStrokes 117 = .ok (.iadd, 1) := by decide +kernel
theorem dX10_layStrokes_118 : decode cX10_layStrokes 118 = .ok (.putfield 247, 3) := by decide +kernel
theorem dX10_layStrokes_121 : decode cX10_layStrokes 121 = .ok (.iinc 2 1, 3) := by decide +kernel
theorem dX10_layStrokes_124 : decode cX10_layStrokes 124 = .ok (.goto (-107), 3) := by decide +kernel
theorem dX10_layStrokes_127 : decode cX10_layStrokes 127 = .ok (.iinc 1 1, 3) := by decide +kernel
theorem dX10_layStrokes_130 : decode cX10_layStrokes 130 = .ok (.goto (-123), 3) := by decide +kernel
theorem dX10_layStrokes_133 : decode cX10_layStrokes 133 = .ok (.return_, 1) := by decide +kernel
theorem dX10_reaches_0 : decode cX10_reaches 0 = .ok (.aload_n 0, 1) := by decide +kernel
theorem dX10_reaches_1 : decode cX10_reaches 1 = .ok (.getfield 65, 3) := by decide +kernel
theorem dX10_reaches_4 : decode cX10_reaches 4 = .ok (.iload_n 1, 1) := by decide +kernel
theorem dX10_reaches_5 : decode cX10_reaches 5 = .ok (.iaload, 1) := by decide +kernel
theorem dX10_reaches_6 : decode cX10_reaches 6 = .ok (.aload_n 0, 1) := by decide +kernel
theorem dX10_reaches_7 : decode cX10_reaches 7 = .ok (.getfield 65, 3) := by decide +kernel
theorem dX10_reaches_10 : decode cX10_reaches 10 = .ok (.iload_n 2, 1) := by decide +kernel
theorem dX10_reaches_11 : decode cX10_reaches 11 = .ok (.iaload, 1) := by decide +kernel
theorem dX10_reaches_12 : decode cX10_reaches 12 = .ok (.if_icmp .le 19, 3) := by decide +kernel
theorem dX10_reaches_15 : decode cX10_reaches 15 = .ok (.aload_n 0, 1) := by decide +kernel
theorem dX10_reaches_16 : decode cX10_reaches 16 = .ok (.getfield 65, 3) := by decide +kernel
theorem dX10_reaches_19 : decode cX10_reaches 19 = .ok (.iload_n 1, 1) := by decide +kernel
theorem dX10_reaches_20 : decode cX10_reaches 20 = .ok (.iaload, 1) := by decide +kernel
theorem dX10_reaches_21 : decode cX10_reaches 21 = .ok (.aload_n 0, 1) := by decide +kernel
theorem dX10_reaches_22 : decode cX10_reaches 22 = .ok (.getfield 65, 3) := by decide +kernel
theorem dX10_reaches_25 : decode cX10_reaches 25 = .ok (.iload_n 2, 1) := by decide +kernel
theorem dX10_reaches_26 : decode cX10_reaches 26 = .ok (.iaload, 1) := by decide +kernel
theorem dX10_reaches_27 : decode cX10_reaches 27 = .ok (.isub, 1) := by decide +kernel
theorem dX10_reaches_28 : decode cX10_reaches 28 = .ok (.goto 16, 3) := by decide +kernel
theorem dX10_reaches_31 : decode cX10_reaches 31 = .ok (.aload_n 0, 1) := by decide +kernel
theorem dX10_reaches_32 : decode cX10_reaches 32 = .ok (.getfield 65, 3) := by decide +kernel
theorem dX10_reaches_35 : decode cX10_reaches 35 = .ok (.iload_n 2, 1) := by decide +kernel
theorem dX10_reaches_36 : decode cX10_reaches 36 = .ok (.iaload, 1) := by decide +kernel
theorem dX10_reaches_37 : decode cX10_reaches 37 = .ok (.aload_n 0, 1) := by decide +kernel
theorem dX10_reaches_38 : decode cX10_reaches 38 = .ok (.getfield 65, 3) := by decide +kernel
theorem dX10_reaches_41 : decode cX10_reaches 41 = .ok (.iload_n 1, 1) := by decide +kernel
theorem dX10_reaches_42 : decode cX10_reaches 42 = .ok (.iaload, 1) := by decide +kernel
theorem dX10_reaches_43 : decode cX10_reaches 43 = .ok (.isub, 1) := by decide +kernel
theorem dX10_reaches_44 : decode cX10_reaches 44 = .ok (.istore_n 3, 1) := by decide +kernel
theorem dX10_reaches_45 : decode cX10_reaches 45 = .ok (.aload_n 0, 1) := by decide +kernel
theorem dX10_reaches_46 : decode cX10_reaches 46 = .ok (.getfield 62, 3) := by decide +kernel
theorem dX10_reaches_49 : decode cX10_reaches 49 = .ok (.iload_n 1, 1) := by decide +kernel
theorem dX10_reaches_50 : decode cX10_reaches 50 = .ok (.iaload, 1) := by decide +kernel
theorem dX10_reaches_51 : decode cX10_reaches 51 = .ok (.iload_n 3, 1) := by decide +kernel
theorem dX10_reaches_52 : decode cX10_reaches 52 = .ok (.iadd, 1) := by decide +kernel
theorem dX10_reaches_53 : decode cX10_reaches 53 = .ok (.aload_n 0, 1) := by decide +kernel
theorem dX10_reaches_54 : decode cX10_reaches 54 = .ok (.getfield 59, 3) := by decide +kernel
theorem dX10_reaches_57 : decode cX10_reaches 57 = .ok (.iload_n 2, 1) := by decide +kernel
theorem dX10_reaches_58 : decode cX10_reaches 58 = .ok (.iaload, 1) := by decide +kernel
theorem dX10_reaches_59 : decode cX10_reaches 59 = .ok (.if_icmp .ge 7, 3) := by decide +kernel
theorem dX10_reaches_62 : decode cX10_reaches 62 = .ok (.iconst 1, 1) := by decide +kernel
theorem dX10_reaches_63 : decode cX10_reaches 63 = .ok (.goto 4, 3) := by decide +kernel
theorem dX10_reaches_66 : decode cX10_reaches 66 = .ok (.iconst 0, 1) := by decide +kernel
theorem dX10_reaches_67 : decode cX10_reaches 67 = .ok (.ireturn, 1) := by decide +kernel
theorem dX10_grow_0 : decode cX10_grow 0 = .ok (.iconst 0, 1) := by decide +kernel
theorem dX10_grow_1 : decode cX10_grow 1 = .ok (.istore_n 2, 1) := by decide +kernel
theorem dX10_grow_2 : decode cX10_grow 2 = .ok (.iload_n 2, 1) := by decide +kernel
theorem dX10_grow_3 : decode cX10_grow 3 = .ok (.aload_n 0, 1) := by decide +kernel
theorem dX10_grow_4 : decode cX10_grow 4 = .ok (.getfield 247, 3) := by decide +kernel
theorem dX10_grow_7 : decode cX10_grow 7 = .ok (.if_icmp .ge 17, 3) := by decide +kernel
theorem dX10_grow_10 : decode cX10_grow 10 = .ok (.aload_n 0, 1) := by decide +kernel
theorem dX10_grow_11 : decode cX10_grow 11 = .ok (.getfield 74, 3) := by decide +kernel
theorem dX10_grow_14 : decode cX10_grow 14 = .ok (.iload_n 2, 1) := by decide +kernel
theorem dX10_grow_15 : decode cX10_grow 15 = .ok (.bipush (-9), 2) := by decide +kernel
theorem dX10_grow_17 : decode cX10_grow 17 = .ok (.iastore, 1) := by decide +kernel
theorem dX10_grow_18 : decode cX10_grow 18 = .ok (.iinc 2 1, 3) := by decide +kernel
theorem dX10_grow_21 : decode cX10_grow 21 = .ok (.goto (-19), 3) := by decide +kernel
theorem dX10_grow_24 : decode cX10_grow 24 = .ok (.iconst 1, 1) := by decide +kernel
theorem dX10_grow_25 : decode cX10_grow 25 = .ok (.istore_n 2, 1) := by decide +kernel
theorem dX10_grow_26 : decode cX10_grow 26 = .ok (.aload_n 0, 1) := by decide +kernel
theorem dX10_grow_27 : decode cX10_grow 27 = .ok (.getfield 77, 3) := by decide +kernel
theorem dX10_grow_30 : decode cX10_grow 30 = .ok (.iconst 0, 1) := by decide +kernel
theorem dX10_grow_31 : decode cX10_grow 31 = .ok (.iload_n 1, 1) := by decide +kernel
theorem dX10_grow_32 : decode cX10_grow 32 = .ok (.iastore, 1) := by decide +kernel
theorem dX10_grow_33 : decode cX10_grow 33 = .ok (.iconst 0, 1) := by decide +kernel
theorem dX10_grow_34 : decode cX10_grow 34 = .ok (.istore_n 3, 1) := by decide +kernel
theorem dX10_grow_35 : decode cX10_grow 35 = .ok (.iload_n 3, 1) := by decide +kernel
theorem dX10_grow_36 : decode cX10_grow 36 = .ok (.iload_n 2, 1) := by decide +kernel
theorem dX10_grow_37 : decode cX10_grow 37 = .ok (.if_icmp .ge 103, 3) := by decide +kernel
theorem dX10_grow_40 : decode cX10_grow 40 = .ok (.iconst 0, 1) := by decide +kernel
theorem dX10_grow_41 : decode cX10_grow 41 = .ok (.istore 4, 2) := by decide +kernel
theorem dX10_grow_43 : decode cX10_grow 43 = .ok (.iload 4, 2) := by decide +kernel
theorem dX10_grow_45 : decode cX10_grow 45 = .ok (.aload_n 0, 1) := by decide +kernel
theorem dX10_grow_46 : decode cX10_grow 46 = .ok (.getfield 247, 3) := by decide +kernel
theorem dX10_grow_49 : decode cX10_grow 49 = .ok (.if_icmp .ge 85, 3) := by decide +kernel
theorem dX10_grow_52 : decode cX10_grow 52 = .ok (.aload_n 0, 1) := by decide +kernel
theorem dX10_grow_53 : decode cX10_grow 53 = .ok (.getfield 74, 3) := by decide +kernel
theorem dX10_grow_56 : decode cX10_grow 56 = .ok (.iload 4, 2) := by decide +kernel
theorem dX10_grow_58 : decode cX10_grow 58 = .ok (.iaload, 1) := by decide +kernel
theorem dX10_grow_59 : decode cX10_grow 59 = .ok (.bipush (-9), 2) := by decide +kernel
theorem dX10_grow_61 : decode cX10_grow 61 = .ok (.if_icmp .ne 67, 3) := by decide +kernel
theorem dX10_grow_64 : decode cX10_grow 64 = .ok (.aload_n 0, 1) := by decide +kernel
theorem dX10_grow_65 : decode cX10_grow 65 = .ok (.aload_n 0, 1) := by decide +kernel
theorem dX10_grow_66 : decode cX10_grow 66 = .ok (.getfield 77, 3) := by decide +kernel
theorem dX10_grow_69 : decode cX10_grow 69 = .ok (.iload_n 3, 1) := by decide +kernel
theorem dX10_grow_70 : decode cX10_grow 70 = .ok (.iaload, 1) := by decide +kernel
theorem dX10_grow_71 : decode cX10_grow 71 = .ok (.iload 4, 2) := by decide +kernel
theorem dX10_grow_73 : decode cX10_grow 73 = .ok (.invokevirtual 250, 3) := by decide +kernel
theorem dX10_grow_76 : decode cX10_grow 76 = .ok (.ifCond .eq 52, 3) := by decide +kernel
theorem dX10_grow_79 : decode cX10_grow 79 = .ok (.aload_n 0, 1) := by decide +kernel
theorem dX10_grow_80 : decode cX10_grow 80 = .ok (.getfield 74, 3) := by decide +kernel
theorem dX10_grow_83 : decode cX10_grow 83 = .ok (.iload 4, 2) := by decide +kernel
theorem dX10_grow_85 : decode cX10_grow 85 = .ok (.aload_n 0, 1) := by decide +kernel
theorem dX10_grow_86 : decode cX10_grow 86 = .ok (.getfield 77, 3) := by decide +kernel
theorem dX10_grow_89 : decode cX10_grow 89 = .ok (.iload_n 3, 1) := by decide +kernel
theorem dX10_grow_90 : decode cX10_grow 90 = .ok (.iaload, 1) := by decide +kernel
theorem dX10_grow_91 : decode cX10_grow 91 = .ok (.iastore, 1) := by decide +kernel
theorem dX10_grow_92 : decode cX10_grow 92 = .ok (.aload_n 0, 1) := by decide +kernel
theorem dX10_grow_93 : decode cX10_grow 93 = .ok (.getfield 71, 3) := by decide +kernel
theorem dX10_grow_96 : decode cX10_grow 96 = .ok (.iload 4, 2) := by decide +kernel
theorem dX10_grow_98 : decode cX10_grow 98 = .ok (.iaload, 1) := by decide +kernel
theorem dX10_grow_99 : decode cX10_grow 99 = .ok (.bipush (-9), 2) := by decide +kernel
theorem dX10_grow_101 : decode cX10_grow 101 = .ok (.if_icmp .ne 11, 3) := by decide +kernel
theorem dX10_grow_104 : decode cX10_grow 104 = .ok (.aload_n 0, 1) := by decide +kernel
theorem dX10_grow_105 : decode cX10_grow 105 = .ok (.iload 4, 2) := by decide +kernel
theorem dX10_grow_107 : decode cX10_grow 107 = .ok (.invokevirtual 253, 3) := by decide +kernel
theorem dX10_grow_110 : decode cX10_grow 110 = .ok (.iconst 1, 1) := by decide +kernel
theorem dX10_grow_111 : decode cX10_grow 111 = .ok (.ireturn, 1) := by decide +kernel
theorem dX10_grow_112 : decode cX10_grow 112 = .ok (.aload_n 0, 1) := by decide +kernel
theorem dX10_grow_113 : decode cX10_grow 113 = .ok (.getfield 77, 3) := by decide +kernel
theorem dX10_grow_116 : decode cX10_grow 116 = .ok (.iload_n 2, 1) := by decide +kernel
theorem dX10_grow_117 : decode cX10_grow 117 = .ok (.aload_n 0, 1) := by decide +kernel
theorem dX10_grow_118 : decode cX10_grow 118 = .ok (.getfield 71, 3) := by decide +kernel
theorem dX10_grow_121 : decode cX10_grow 121 = .ok (.iload 4, 2) := by decide +kernel
theorem dX10_grow_123 : decode cX10_grow 123 = .ok (.iaload, 1) := by decide +kernel
theorem dX10_grow_124 : decode cX10_grow 124 = .ok (.iastore, 1) := by decide +kernel
theorem dX10_grow_125 : decode cX10_grow 125 = .ok (.iinc 2 1, 3) := by decide +kernel
theorem dX10_grow_128 : decode cX10_grow 128 = .ok (.iinc 4 1, 3) := by decide +kernel
theorem dX10_grow_131 : decode cX10_grow 131 = .ok (.goto (-88), 3) := by decide +kernel
theorem dX10_grow_134 : decode cX10_grow 134 = .ok (.iinc 3 1, 3) := by decide +kernel
theorem dX10_grow_137 : decode cX10_grow 137 = .ok (.goto (-102), 3) := by decide +kernel
theorem dX10_grow_140 : decode cX10_grow 140 = .ok (.iconst 0, 1) := by decide +kernel
theorem dX10_grow_141 : decode cX10_grow 141 = .ok (.ireturn, 1) := by decide +kernel
theorem dX10_turn_0 : decode cX10_turn 0 = .ok (.iload_n 1, 1) := by decide +kernel
theorem dX10_turn_1 : decode cX10_turn 1 = .ok (.istore_n 2, 1) := by decide +kernel
theorem dX10_turn_2 : decode cX10_turn 2 = .ok (.iload_n 2, 1) := by decide +kernel
theorem dX10_turn_3 : decode cX10_turn 3 = .ok (.bipush (-9), 2) := by decide +kernel
theorem dX10_turn_5 : decode cX10_turn 5 = .ok (.if_icmp .eq 38, 3) := by decide +kernel
theorem dX10_turn_8 : decode cX10_turn 8 = .ok (.aload_n 0, 1) := by decide +kernel
theorem dX10_turn_9 : decode cX10_turn 9 = .ok (.getfield 74, 3) := by decide +kernel
theorem dX10_turn_12 : decode cX10_turn 12 = .ok (.iload_n 2, 1) := by decide +kernel
theorem dX10_turn_13 : decode cX10_turn 13 = .ok (.iaload, 1) := by decide +kernel
theorem dX10_turn_14 : decode cX10_turn 14 = .ok (.istore_n 3, 1) := by decide +kernel
theorem dX10_turn_15 : decode cX10_turn 15 = .ok (.aload_n 0, 1) := by decide +kernel
theorem dX10_turn_16 : decode cX10_turn 16 = .ok (.getfield 68, 3) := by decide +kernel
theorem dX10_turn_19 : decode cX10_turn 19 = .ok (.iload_n 3, 1) := by decide +kernel
theorem dX10_turn_20 : decode cX10_turn 20 = .ok (.iaload, 1) := by decide +kernel
theorem dX10_turn_21 : decode cX10_turn 21 = .ok (.istore 4, 2) := by decide +kernel
theorem dX10_turn_23 : decode cX10_turn 23 = .ok (.aload_n 0, 1) := by decide +kernel
theorem dX10_turn_24 : decode cX10_turn 24 = .ok (.getfield 68, 3) := by decide +kernel
theorem dX10_turn_27 : decode cX10_turn 27 = .ok (.iload_n 3, 1) := by decide +kernel
theorem dX10_turn_28 : decode cX10_turn 28 = .ok (.iload_n 2, 1) := by decide +kernel
theorem dX10_turn_29 : decode cX10_turn 29 = .ok (.iastore, 1) := by decide +kernel
theorem dX10_turn_30 : decode cX10_turn 30 = .ok (.aload_n 0, 1) := by decide +kernel
theorem dX10_turn_31 : decode cX10_turn 31 = .ok (.getfield 71, 3) := by decide +kernel
theorem dX10_turn_34 : decode cX10_turn 34 = .ok (.iload_n 2, 1) := by decide +kernel
theorem dX10_turn_35 : decode cX10_turn 35 = .ok (.iload_n 3, 1) := by decide +kernel
theorem dX10_turn_36 : decode cX10_turn 36 = .ok (.iastore, 1) := by decide +kernel
theorem dX10_turn_37 : decode cX10_turn 37 = .ok (.iload 4, 2) := by decide +kernel
theorem dX10_turn_39 : decode cX10_turn 39 = .ok (.istore_n 2, 1) := by decide +kernel
theorem dX10_turn_40 : decode cX10_turn 40 = .ok (.goto (-38), 3) := by decide +kernel
theorem dX10_turn_43 : decode cX10_turn 43 = .ok (.return_, 1) := by decide +kernel
theorem dX10_hands_0 : decode cX10_hands 0 = .ok (.aload_n 0, 1) := by decide +kernel
theorem dX10_hands_1 : decode cX10_hands 1 = .ok (.invokevirtual 256, 3) := by decide +kernel
theorem dX10_hands_4 : decode cX10_hands 4 = .ok (.iconst 0, 1) := by decide +kernel
theorem dX10_hands_5 : decode cX10_hands 5 = .ok (.istore_n 1, 1) := by decide +kernel
theorem dX10_hands_6 : decode cX10_hands 6 = .ok (.iload_n 1, 1) := by decide +kernel
theorem dX10_hands_7 : decode cX10_hands 7 = .ok (.aload_n 0, 1) := by decide +kernel
theorem dX10_hands_8 : decode cX10_hands 8 = .ok (.getfield 247, 3) := by decide +kernel
theorem dX10_hands_11 : decode cX10_hands 11 = .ok (.if_icmp .ge 25, 3) := by decide +kernel
theorem dX10_hands_14 : decode cX10_hands 14 = .ok (.aload_n 0, 1) := by decide +kernel
theorem dX10_hands_15 : decode cX10_hands 15 = .ok (.getfield 68, 3) := by decide +kernel
theorem dX10_hands_18 : decode cX10_hands 18 = .ok (.iload_n 1, 1) := by decide +kernel
theorem dX10_hands_19 : decode cX10_hands 19 = .ok (.bipush (-9), 2) := by decide +kernel
theorem dX10_hands_21 : decode cX10_hands 21 = .ok (.iastore, 1) := by decide +kernel
theorem dX10_hands_22 : decode cX10_hands 22 = .ok (.aload_n 0, 1) := by decide +kernel
theorem dX10_hands_23 : decode cX10_hands 23 = .ok (.getfield 71, 3) := by decide +kernel
theorem dX10_hands_26 : decode cX10_hands 26 = .ok (.iload_n 1, 1) := by decide +kernel
theorem dX10_hands_27 : decode cX10_hands 27 = .ok (.bipush (-9), 2) := by decide +kernel
theorem dX10_hands_29 : decode cX10_hands 29 = .ok (.iastore, 1) := by decide +kernel
theorem dX10_hands_30 : decode cX10_hands 30 = .ok (.iinc 1 1, 3) := by decide +kernel
theorem dX10_hands_33 : decode cX10_hands 33 = .ok (.goto (-27), 3) := by decide +kernel
theorem dX10_hands_36 : decode cX10_hands 36 = .ok (.aload_n 0, 1) := by decide +kernel
theorem dX10_hands_37 : decode cX10_hands 37 = .ok (.getfield 247, 3) := by decide +kernel
theorem dX10_hands_40 : decode cX10_hands 40 = .ok (.istore_n 1, 1) := by decide +kernel
theorem dX10_hands_41 : decode cX10_hands 41 = .ok (.iconst 0, 1) := by decide +kernel
theorem dX10_hands_42 : decode cX10_hands 42 = .ok (.istore_n 2, 1) := by decide +kernel
theorem dX10_hands_43 : decode cX10_hands 43 = .ok (.iload_n 2, 1) := by decide +kernel
theorem dX10_hands_44 : decode cX10_hands 44 = .ok (.aload_n 0, 1) := by decide +kernel
theorem dX10_hands_45 : decode cX10_hands 45 = .ok (.getfield 247, 3) := by decide +kernel
theorem dX10_hands_48 : decode cX10_hands 48 = .ok (.if_icmp .ge 25, 3) := by decide +kernel
theorem dX10_hands_51 : decode cX10_hands 51 = .ok (.iload_n 1, 1) := by decide +kernel
theorem dX10_hands_52 : decode cX10_hands 52 = .ok (.aload_n 0, 1) := by decide +kernel
theorem dX10_hands_53 : decode cX10_hands 53 = .ok (.iload_n 2, 1) := by decide +kernel
theorem dX10_hands_54 : decode cX10_hands 54 = .ok (.invokevirtual 259, 3) := by decide +kernel
theorem dX10_hands_57 : decode cX10_hands 57 = .ok (.ifCond .eq 7, 3) := by decide +kernel
theorem dX10_hands_60 : decode cX10_hands 60 = .ok (.iconst 1, 1) := by decide +kernel
theorem dX10_hands_61 : decode cX10_hands 61 = .ok (.goto 4, 3) := by decide +kernel
theorem dX10_hands_64 : decode cX10_hands 64 = .ok (.iconst 0, 1) := by decide +kernel
theorem dX10_hands_65 : decode cX10_hands 65 = .ok (.isub, 1) := by decide +kernel
theorem dX10_hands_66 : decode cX10_hands 66 = .ok (.istore_n 1, 1) := by decide +kernel
theorem dX10_hands_67 : decode cX10_hands 67 = .ok (.iinc 2 1, 3) := by decide +kernel
theorem dX10_hands_70 : decode cX10_hands 70 = .ok (.goto (-27), 3) := by decide +kernel
theorem dX10_hands_73 : decode cX10_hands 73 = .ok (.iload_n 1, 1) := by decide +kernel
theorem dX10_hands_74 : decode cX10_hands 74 = .ok (.ireturn, 1) := by decide +kernel
theorem dX10_tenTo_0 : decode cX10_tenTo 0 = .ok (.lconst 1, 1) := by decide +kernel
theorem dX10_tenTo_1 : decode cX10_tenTo 1 = .ok (.lstore_n 1, 1) := by decide +kernel
theorem dX10_tenTo_2 : decode cX10_tenTo 2 = .ok (.iconst 0, 1) := by decide +kernel
theorem dX10_tenTo_3 : decode cX10_tenTo 3 = .ok (.istore_n 3, 1) := by decide +kernel
theorem dX10_tenTo_4 : decode cX10_tenTo 4 = .ok (.iload_n 3, 1) := by decide +kernel
theorem dX10_tenTo_5 : decode cX10_tenTo 5 = .ok (.iload_n 0, 1) := by decide +kernel
theorem dX10_tenTo_6 : decode cX10_tenTo 6 = .ok (.if_icmp .ge 15, 3) := by decide +kernel
theorem dX10_tenTo_9 : decode cX10_tenTo 9 = .ok (.lload_n 1, 1) := by decide +kernel
theorem dX10_tenTo_10 : decode cX10_tenTo 10 = .ok (.ldc2_w 262, 3) := by decide +kernel
theorem dX10_tenTo_13 : decode cX10_tenTo 13 = .ok (.lmul, 1) := by decide +kernel
theorem dX10_tenTo_14 : decode cX10_tenTo 14 = .ok (.lstore_n 1, 1) := by decide +kernel
theorem dX10_tenTo_15 : decode cX10_tenTo 15 = .ok (.iinc 3 1, 3) := by decide +kernel
theorem dX10_tenTo_18 : decode cX10_tenTo 18 = .ok (.goto (-14), 3) := by decide +kernel
theorem dX10_tenTo_21 : decode cX10_tenTo 21 = .ok (.lload_n 1, 1) := by decide +kernel
theorem dX10_tenTo_22 : decode cX10_tenTo 22 = .ok (.lreturn, 1) := by decide +kernel
theorem dX10_hold_0 : decode cX10_hold 0 = .ok (.iconst 0, 1) := by decide +kernel
theorem dX10_hold_1 : decode cX10_hold 1 = .ok (.istore_n 2, 1) := by decide +kernel
theorem dX10_hold_2 : decode cX10_hold 2 = .ok (.iload_n 2, 1) := by decide +kernel
theorem dX10_hold_3 : decode cX10_hold 3 = .ok (.iconst 5, 1) := by decide +kernel
theorem dX10_hold_4 : decode cX10_hold 4 = .ok (.if_icmp .ge 40, 3) := by decide +kernel
