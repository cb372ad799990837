theorem dX2_init_0 : decode cX2_init 0 = .ok (.aload_n 0, 1) := by decide +kernel
theorem dX2_init_1 : decode cX2_init 1 = .ok (.invokespecial 3, 3) := by decide +kernel
theorem dX2_init_4 : decode cX2_init 4 = .ok (.aload_n 0, 1) := by decide +kernel
theorem dX2_init_5 : decode cX2_init 5 = .ok (.iconst 0, 1) := by decide +kernel
theorem dX2_init_6 : decode cX2_init 6 = .ok (.putfield 9, 3) := by decide +kernel
theorem dX2_init_9 : decode cX2_init 9 = .ok (.aload_n 0, 1) := by decide +kernel
theorem dX2_init_10 : decode cX2_init 10 = .ok (.iconst 0, 1) := by decide +kernel
theorem dX2_init_11 : decode cX2_init 11 = .ok (.putfield 15, 3) := by decide +kernel
theorem dX2_init_14 : decode cX2_init 14 = .ok (.aload_n 0, 1) := by decide +kernel
theorem dX2_init_15 : decode cX2_init 15 = .ok (.iconst 0, 1) := by decide +kernel
theorem dX2_init_16 : decode cX2_init 16 = .ok (.putfield 18, 3) := by decide +kernel
theorem dX2_init_19 : decode cX2_init 19 = .ok (.aload_n 0, 1) := by decide +kernel
theorem dX2_init_20 : decode cX2_init 20 = .ok (.iconst 0, 1) := by decide +kernel
theorem dX2_init_21 : decode cX2_init 21 = .ok (.putfield 21, 3) := by decide +kernel
theorem dX2_init_24 : decode cX2_init 24 = .ok (.aload_n 0, 1) := by decide +kernel
theorem dX2_init_25 : decode cX2_init 25 = .ok (.iconst 0, 1) := by decide +kernel
theorem dX2_init_26 : decode cX2_init 26 = .ok (.putfield 24, 3) := by decide +kernel
theorem dX2_init_29 : decode cX2_init 29 = .ok (.aload_n 0, 1) := by decide +kernel
theorem dX2_init_30 : decode cX2_init 30 = .ok (.iconst 0, 1) := by decide +kernel
theorem dX2_init_31 : decode cX2_init 31 = .ok (.putfield 27, 3) := by decide +kernel
theorem dX2_init_34 : decode cX2_init 34 = .ok (.aload_n 0, 1) := by decide +kernel
theorem dX2_init_35 : decode cX2_init 35 = .ok (.iconst 0, 1) := by decide +kernel
theorem dX2_init_36 : decode cX2_init 36 = .ok (.putfield 30, 3) := by decide +kernel
theorem dX2_init_39 : decode cX2_init 39 = .ok (.aload_n 0, 1) := by decide +kernel
theorem dX2_init_40 : decode cX2_init 40 = .ok (.iconst 0, 1) := by decide +kernel
theorem dX2_init_41 : decode cX2_init 41 = .ok (.putfield 33, 3) := by decide +kernel
theorem dX2_init_44 : decode cX2_init 44 = .ok (.aload_n 0, 1) := by decide +kernel
theorem dX2_init_45 : decode cX2_init 45 = .ok (.iconst 0, 1) := by decide +kernel
theorem dX2_init_46 : decode cX2_init 46 = .ok (.putfield 36, 3) := by decide +kernel
theorem dX2_init_49 : decode cX2_init 49 = .ok (.aload_n 0, 1) := by decide +kernel
theorem dX2_init_50 : decode cX2_init 50 = .ok (.iconst 0, 1) := by decide +kernel
theorem dX2_init_51 : decode cX2_init 51 = .ok (.putfield 39, 3) := by decide +kernel
theorem dX2_init_54 : decode cX2_init 54 = .ok (.aload_n 0, 1) := by decide +kernel
theorem dX2_init_55 : decode cX2_init 55 = .ok (.aload_n 1, 1) := by decide +kernel
theorem dX2_init_56 : decode cX2_init 56 = .ok (.putfield 42, 3) := by decide +kernel
theorem dX2_init_59 : decode cX2_init 59 = .ok (.return_, 1) := by decide +kernel
theorem dX2_tally_0 : decode cX2_tally 0 = .ok (.aload_n 0, 1) := by decide +kernel
theorem dX2_tally_1 : decode cX2_tally 1 = .ok (.iconst 0, 1) := by decide +kernel
theorem dX2_tally_2 : decode cX2_tally 2 = .ok (.putfield 9, 3) := by decide +kernel
theorem dX2_tally_5 : decode cX2_tally 5 = .ok (.aload_n 0, 1) := by decide +kernel
theorem dX2_tally_6 : decode cX2_tally 6 = .ok (.iconst 0, 1) := by decide +kernel
theorem dX2_tally_7 : decode cX2_tally 7 = .ok (.putfield 15, 3) := by decide +kernel
theorem dX2_tally_10 : decode cX2_tally 10 = .ok (.aload_n 0, 1) := by decide +kernel
theorem dX2_tally_11 : decode cX2_tally 11 = .ok (.bipush 31, 2) := by decide +kernel
theorem dX2_tally_13 : decode cX2_tally 13 = .ok (.putfield 18, 3) := by decide +kernel
theorem dX2_tally_16 : decode cX2_tally 16 = .ok (.aload_n 0, 1) := by decide +kernel
theorem dX2_tally_17 : decode cX2_tally 17 = .ok (.iconst 0, 1) := by decide +kernel
theorem dX2_tally_18 : decode cX2_tally 18 = .ok (.putfield 21, 3) := by decide +kernel
theorem dX2_tally_21 : decode cX2_tally 21 = .ok (.aload_n 0, 1) := by decide +kernel
theorem dX2_tally_22 : decode cX2_tally 22 = .ok (.iload_n 2, 1) := by decide +kernel
theorem dX2_tally_23 : decode cX2_tally 23 = .ok (.putfield 27, 3) := by decide +kernel
theorem dX2_tally_26 : decode cX2_tally 26 = .ok (.aload_n 0, 1) := by decide +kernel
theorem dX2_tally_27 : decode cX2_tally 27 = .ok (.aload_n 1, 1) := by decide +kernel
theorem dX2_tally_28 : decode cX2_tally 28 = .ok (.iconst 1, 1) := by decide +kernel
theorem dX2_tally_29 : decode cX2_tally 29 = .ok (.aload_n 0, 1) := by decide +kernel
theorem dX2_tally_30 : decode cX2_tally 30 = .ok (.getfield 42, 3) := by decide +kernel
theorem dX2_tally_33 : decode cX2_tally 33 = .ok (.getfield 46, 3) := by decide +kernel
theorem dX2_tally_36 : decode cX2_tally 36 = .ok (.invokevirtual 51, 3) := by decide +kernel
theorem dX2_tally_39 : decode cX2_tally 39 = .ok (.putfield 24, 3) := by decide +kernel
theorem dX2_tally_42 : decode cX2_tally 42 = .ok (.aload_n 1, 1) := by decide +kernel
theorem dX2_tally_43 : decode cX2_tally 43 = .ok (.iconst 0, 1) := by decide +kernel
theorem dX2_tally_44 : decode cX2_tally 44 = .ok (.aload_n 0, 1) := by decide +kernel
theorem dX2_tally_45 : decode cX2_tally 45 = .ok (.getfield 42, 3) := by decide +kernel
theorem dX2_tally_48 : decode cX2_tally 48 = .ok (.getfield 46, 3) := by decide +kernel
theorem dX2_tally_51 : decode cX2_tally 51 = .ok (.invokevirtual 51, 3) := by decide +kernel
theorem dX2_tally_54 : decode cX2_tally 54 = .ok (.istore_n 3, 1) := by decide +kernel
theorem dX2_tally_55 : decode cX2_tally 55 = .ok (.iconst 0, 1) := by decide +kernel
theorem dX2_tally_56 : decode cX2_tally 56 = .ok (.istore 4, 2) := by decide +kernel
theorem dX2_tally_58 : decode cX2_tally 58 = .ok (.iload 4, 2) := by decide +kernel
theorem dX2_tally_60 : decode cX2_tally 60 = .ok (.bipush 31, 2) := by decide +kernel
theorem dX2_tally_62 : decode cX2_tally 62 = .ok (.if_icmp .gt 25, 3) := by decide +kernel
theorem dX2_tally_65 : decode cX2_tally 65 = .ok (.aload_n 0, 1) := by decide +kernel
theorem dX2_tally_66 : decode cX2_tally 66 = .ok (.iload 4, 2) := by decide +kernel
theorem dX2_tally_68 : decode cX2_tally 68 = .ok (.invokevirtual 57, 3) := by decide +kernel
theorem dX2_tally_71 : decode cX2_tally 71 = .ok (.ifCond .eq 10, 3) := by decide +kernel
theorem dX2_tally_74 : decode cX2_tally 74 = .ok (.aload_n 0, 1) := by decide +kernel
theorem dX2_tally_75 : decode cX2_tally 75 = .ok (.iload 4, 2) := by decide +kernel
theorem dX2_tally_77 : decode cX2_tally 77 = .ok (.iload_n 3, 1) := by decide +kernel
theorem dX2_tally_78 : decode cX2_tally 78 = .ok (.invokevirtual 61, 3) := by decide +kernel
theorem dX2_tally_81 : decode cX2_tally 81 = .ok (.iinc 4 1, 3) := by decide +kernel
theorem dX2_tally_84 : decode cX2_tally 84 = .ok (.goto (-26), 3) := by decide +kernel
theorem dX2_tally_87 : decode cX2_tally 87 = .ok (.return_, 1) := by decide +kernel
theorem dX2_areQuiets_0 : decode cX2_areQuiets 0 = .ok (.iconst 0, 1) := by decide +kernel
theorem dX2_areQuiets_1 : decode cX2_areQuiets 1 = .ok (.istore_n 2, 1) := by decide +kernel
theorem dX2_areQuiets_2 : decode cX2_areQuiets 2 = .ok (.iload_n 2, 1) := by decide +kernel
theorem dX2_areQuiets_3 : decode cX2_areQuiets 3 = .ok (.iconst 5, 1) := by decide +kernel
theorem dX2_areQuiets_4 : decode cX2_areQuiets 4 = .ok (.if_icmp .ge 31, 3) := by decide +kernel
theorem dX2_areQuiets_7 : decode cX2_areQuiets 7 = .ok (.iload_n 1, 1) := by decide +kernel
theorem dX2_areQuiets_8 : decode cX2_areQuiets 8 = .ok (.iload_n 2, 1) := by decide +kernel
theorem dX2_areQuiets_9 : decode cX2_areQuiets 9 = .ok (.iushr, 1) := by decide +kernel
theorem dX2_areQuiets_10 : decode cX2_areQuiets 10 = .ok (.iconst 1, 1) := by decide +kernel
theorem dX2_areQuiets_11 : decode cX2_areQuiets 11 = .ok (.iand, 1) := by decide +kernel
theorem dX2_areQuiets_12 : decode cX2_areQuiets 12 = .ok (.iconst 1, 1) := by decide +kernel
theorem dX2_areQuiets_13 : decode cX2_areQuiets 13 = .ok (.if_icmp .ne 16, 3) := by decide +kernel
theorem dX2_areQuiets_16 : decode cX2_areQuiets 16 = .ok (.aload_n 0, 1) := by decide +kernel
theorem dX2_areQuiets_17 : decode cX2_areQuiets 17 = .ok (.getfield 42, 3) := by decide +kernel
theorem dX2_areQuiets_20 : decode cX2_areQuiets 20 = .ok (.iload_n 2, 1) := by decide +kernel
theorem dX2_areQuiets_21 : decode cX2_areQuiets 21 = .ok (.invokevirtual 65, 3) := by decide +kernel
theorem dX2_areQuiets_24 : decode cX2_areQuiets 24 = .ok (.ifCond .ne 5, 3) := by decide +kernel
theorem dX2_areQuiets_27 : decode cX2_areQuiets 27 = .ok (.iconst 0, 1) := by decide +kernel
theorem dX2_areQuiets_28 : decode cX2_areQuiets 28 = .ok (.ireturn, 1) := by decide +kernel
theorem dX2_areQuiets_29 : decode cX2_areQuiets 29 = .ok (.iinc 2 1, 3) := by decide +kernel
theorem dX2_areQuiets_32 : decode cX2_areQuiets 32 = .ok (.goto (-30), 3) := by decide +kernel
theorem dX2_areQuiets_35 : decode cX2_areQuiets 35 = .ok (.iconst 1, 1) := by decide +kernel
theorem dX2_areQuiets_36 : decode cX2_areQuiets 36 = .ok (.ireturn, 1) := by decide +kernel
theorem dX2_tallyBeside_0 : decode cX2_tallyBeside 0 = .ok (.iload_n 2, 1) := by decide +kernel
theorem dX2_tallyBeside_1 : decode cX2_tallyBeside 1 = .ok (.istore_n 3, 1) := by decide +kernel
theorem dX2_tallyBeside_2 : decode cX2_tallyBeside 2 = .ok (.iconst 0, 1) := by decide +kernel
theorem dX2_tallyBeside_3 : decode cX2_tallyBeside 3 = .ok (.istore 4, 2) := by decide +kernel
theorem dX2_tallyBeside_5 : decode cX2_tallyBeside 5 = .ok (.iload 4, 2) := by decide +kernel
theorem dX2_tallyBeside_7 : decode cX2_tallyBeside 7 = .ok (.iconst 5, 1) := by decide +kernel
theorem dX2_tallyBeside_8 : decode cX2_tallyBeside 8 = .ok (.if_icmp .ge 35, 3) := by decide +kernel
theorem dX2_tallyBeside_11 : decode cX2_tallyBeside 11 = .ok (.iload_n 3, 1) := by decide +kernel
theorem dX2_tallyBeside_12 : decode cX2_tallyBeside 12 = .ok (.iload_n 1, 1) := by decide +kernel
theorem dX2_tallyBeside_13 : decode cX2_tallyBeside 13 = .ok (.iload 4, 2) := by decide +kernel
theorem dX2_tallyBeside_15 : decode cX2_tallyBeside 15 = .ok (.iushr, 1) := by decide +kernel
theorem dX2_tallyBeside_16 : decode cX2_tallyBeside 16 = .ok (.iconst 1, 1) := by decide +kernel
theorem dX2_tallyBeside_17 : decode cX2_tallyBeside 17 = .ok (.iand, 1) := by decide +kernel
theorem dX2_tallyBeside_18 : decode cX2_tallyBeside 18 = .ok (.iconst 1, 1) := by decide +kernel
theorem dX2_tallyBeside_19 : decode cX2_tallyBeside 19 = .ok (.if_icmp .ne 15, 3) := by decide +kernel
theorem dX2_tallyBeside_22 : decode cX2_tallyBeside 22 = .ok (.aload_n 0, 1) := by decide +kernel
theorem dX2_tallyBeside_23 : decode cX2_tallyBeside 23 = .ok (.getfield 42, 3) := by decide +kernel
theorem dX2_tallyBeside_26 : decode cX2_tallyBeside 26 = .ok (.iload 4, 2) := by decide +kernel
theorem dX2_tallyBeside_28 : decode cX2_tallyBeside 28 = .ok (.invokevirtual 68, 3) := by decide +kernel
theorem dX2_tallyBeside_31 : decode cX2_tallyBeside 31 = .ok (.goto 4, 3) := by decide +kernel
theorem dX2_tallyBeside_34 : decode cX2_tallyBeside 34 = .ok (.iconst 0, 1) := by decide +kernel
theorem dX2_tallyBeside_35 : decode cX2_tallyBeside 35 = .ok (.ior, 1) := by decide +kernel
theorem dX2_tallyBeside_36 : decode cX2_tallyBeside 36 = .ok (.istore_n 3, 1) := by decide +kernel
theorem dX2_tallyBeside_37 : decode cX2_tallyBeside 37 = .ok (.iinc 4 1, 3) := by decide +kernel
theorem dX2_tallyBeside_40 : decode cX2_tallyBeside 40 = .ok (.goto (-35), 3) := by decide +kernel
theorem dX2_tallyBeside_43 : decode cX2_tallyBeside 43 = .ok (.iload_n 3, 1) := by decide +kernel
theorem dX2_tallyBeside_44 : decode cX2_tallyBeside 44 = .ok (.aload_n 0, 1) := by decide +kernel
theorem dX2_tallyBeside_45 : decode cX2_tallyBeside 45 = .ok (.getfield 24, 3) := by decide +kernel
theorem dX2_tallyBeside_48 : decode cX2_tallyBeside 48 = .ok (.iand, 1) := by decide +kernel
theorem dX2_tallyBeside_49 : decode cX2_tallyBeside 49 = .ok (.ifCond .eq 4, 3) := by decide +kernel
theorem dX2_tallyBeside_52 : decode cX2_tallyBeside 52 = .ok (.return_, 1) := by decide +kernel
theorem dX2_tallyBeside_53 : decode cX2_tallyBeside 53 = .ok (.iconst 1, 1) := by decide +kernel
theorem dX2_tallyBeside_54 : decode cX2_tallyBeside 54 = .ok (.istore 4, 2) := by decide +kernel
theorem dX2_tallyBeside_56 : decode cX2_tallyBeside 56 = .ok (.iconst 1, 1) := by decide +kernel
theorem dX2_tallyBeside_57 : decode cX2_tallyBeside 57 = .ok (.istore 5, 2) := by decide +kernel
theorem dX2_tallyBeside_59 : decode cX2_tallyBeside 59 = .ok (.iload_n 1, 1) := by decide +kernel
theorem dX2_tallyBeside_60 : decode cX2_tallyBeside 60 = .ok (.istore 6, 2) := by decide +kernel
theorem dX2_tallyBeside_62 : decode cX2_tallyBeside 62 = .ok (.iload_n 1, 1) := by decide +kernel
theorem dX2_tallyBeside_63 : decode cX2_tallyBeside 63 = .ok (.istore 7, 2) := by decide +kernel
theorem dX2_tallyBeside_65 : decode cX2_tallyBeside 65 = .ok (.iconst 0, 1) := by decide +kernel
theorem dX2_tallyBeside_66 : decode cX2_tallyBeside 66 = .ok (.istore 8, 2) := by decide +kernel
theorem dX2_tallyBeside_68 : decode cX2_tallyBeside 68 = .ok (.iload 8, 2) := by decide +kernel
theorem dX2_tallyBeside_70 : decode cX2_tallyBeside 70 = .ok (.iconst 3, 1) := by decide +kernel
theorem dX2_tallyBeside_71 : decode cX2_tallyBeside 71 = .ok (.if_icmp .ge 52, 3) := by decide +kernel
theorem dX2_tallyBeside_74 : decode cX2_tallyBeside 74 = .ok (.aload_n 0, 1) := by decide +kernel
theorem dX2_tallyBeside_75 : decode cX2_tallyBeside 75 = .ok (.iload 8, 2) := by decide +kernel
theorem dX2_tallyBeside_77 : decode cX2_tallyBeside 77 = .ok (.iload_n 3, 1) := by decide +kernel
theorem dX2_tallyBeside_78 : decode cX2_tallyBeside 78 = .ok (.invokevirtual 72, 3) := by decide +kernel
theorem dX2_tallyBeside_81 : decode cX2_tallyBeside 81 = .ok (.iload 4, 2) := by decide +kernel
theorem dX2_tallyBeside_83 : decode cX2_tallyBeside 83 = .ok (.aload_n 0, 1) := by decide +kernel
theorem dX2_tallyBeside_84 : decode cX2_tallyBeside 84 = .ok (.getfield 30, 3) := by decide +kernel
theorem dX2_tallyBeside_87 : decode cX2_tallyBeside 87 = .ok (.imul, 1) := by decide +kernel
theorem dX2_tallyBeside_88 : decode cX2_tallyBeside 88 = .ok (.istore 4, 2) := by decide +kernel
theorem dX2_tallyBeside_90 : decode cX2_tallyBeside 90 = .ok (.iload 5, 2) := by decide +kernel
theorem dX2_tallyBeside_92 : decode cX2_tallyBeside 92 = .ok (.aload_n 0, 1) := by decide +kernel
theorem dX2_tallyBeside_93 : decode cX2_tallyBeside 93 = .ok (.getfield 33, 3) := by decide +kernel
theorem dX2_tallyBeside_96 : decode cX2_tallyBeside 96 = .ok (.imul, 1) := by decide +kernel
theorem dX2_tallyBeside_97 : decode cX2_tallyBeside 97 = .ok (.istore 5, 2) := by decide +kernel
theorem dX2_tallyBeside_99 : decode cX2_tallyBeside 99 = .ok (.iload 6, 2) := by decide +kernel
theorem dX2_tallyBeside_101 : decode cX2_tallyBeside 101 = .ok (.aload_n 0, 1) := by decide +kernel
theorem dX2_tallyBeside_102 : decode cX2_tallyBeside 102 = .ok (.getfield 36, 3) := by decide +kernel
theorem dX2_tallyBeside_105 : decode cX2_tallyBeside 105 = .ok (.ior, 1) := by decide +kernel
theorem dX2_tallyBeside_106 : decode cX2_tallyBeside 106 = .ok (.istore 6, 2) := by decide +kernel
theorem dX2_tallyBeside_108 : decode cX2_tallyBeside 108 = .ok (.iload 7, 2) := by decide +kernel
theorem dX2_tallyBeside_110 : decode cX2_tallyBeside 110 = .ok (.aload_n 0, 1) := by decide +kernel
theorem dX2_tallyBeside_111 : decode cX2_tallyBeside 111 = .ok (.getfield 39, 3) := by decide +kernel
theorem dX2_tallyBeside_114 : decode cX2_tallyBeside 114 = .ok (.ior, 1) := by decide +kernel
theorem dX2_tallyBeside_115 : decode cX2_tallyBeside 115 = .ok (.istore 7, 2) := by decide +kernel
theorem dX2_tallyBeside_117 : decode cX2_tallyBeside 117 = .ok (.iinc 8 1, 3) := by decide +kernel
theorem dX2_tallyBeside_120 : decode cX2_tallyBeside 120 = .ok (.goto (-52), 3) := by decide +kernel
theorem dX2_tallyBeside_123 : decode cX2_tallyBeside 123 = .ok (.iload 4, 2) := by decide +kernel
theorem dX2_tallyBeside_125 : decode cX2_tallyBeside 125 = .ok (.ifCond .le 47, 3) := by decide +kernel
theorem dX2_tallyBeside_128 : decode cX2_tallyBeside 128 = .ok (.aload_n 0, 1) := by decide +kernel
theorem dX2_tallyBeside_129 : decode cX2_tallyBeside 129 = .ok (.dup, 1) := by decide +kernel
theorem dX2_tallyBeside_130 : decode cX2_tallyBeside 130 = .ok (.getfield 9, 3) := by decide +kernel
theorem dX2_tallyBeside_133 : decode cX2_tallyBeside 133 = .ok (.iload 4, 2) := by decide +kernel
theorem dX2_tallyBeside_135 : decode cX2_tallyBeside 135 = .ok (.iadd, 1) := by decide +kernel
theorem dX2_tallyBeside_136 : decode cX2_tallyBeside 136 = .ok (.putfield 9, 3) := by decide +kernel
theorem dX2_tallyBeside_139 : decode cX2_tallyBeside 139 = .ok (.aload_n 0, 1) := by decide +kernel
theorem dX2_tallyBeside_140 : decode cX2_tallyBeside 140 = .ok (.dup, 1) := by decide +kernel
theorem dX2_tallyBeside_141 : decode cX2_tallyBeside 141 = .ok (.getfield 15, 3) := by decide +kernel
theorem dX2_tallyBeside_144 : decode cX2_tallyBeside 144 = .ok (.iload 5, 2) := by decide +kernel
theorem dX2_tallyBeside_146 : decode cX2_tallyBeside 146 = .ok (.iadd, 1) := by decide +kernel
theorem dX2_tallyBeside_147 : decode cX2_tallyBeside 147 = .ok (.putfield 15, 3) := by decide +kernel
theorem dX2_tallyBeside_150 : decode cX2_tallyBeside 150 = .ok (.aload_n 0, 1) := by decide +kernel
theorem dX2_tallyBeside_151 : decode cX2_tallyBeside 151 = .ok (.dup, 1) := by decide +kernel
theorem dX2_tallyBeside_152 : decode cX2_tallyBeside 152 = .ok (.getfield 18, 3) := by decide +kernel
theorem dX2_tallyBeside_155 : decode cX2_tallyBeside 155 = .ok (.iload 6, 2) := by decide +kernel
theorem dX2_tallyBeside_157 : decode cX2_tallyBeside 157 = .ok (.iand, 1) := by decide +kernel
theorem dX2_tallyBeside_158 : decode cX2_tallyBeside 158 = .ok (.putfield 18, 3) := by decide +kernel
theorem dX2_tallyBeside_161 : decode cX2_tallyBeside 161 = .ok (.aload_n 0, 1) := by decide +kernel
theorem dX2_tallyBeside_162 : decode cX2_tallyBeside 162 = .ok (.dup, 1) := by decide +kernel
theorem dX2_tallyBeside_163 : decode cX2_tallyBeside 163 = .ok (.getfield 21, 3) := by decide +kernel
theorem dX2_tallyBeside_166 : decode cX2_tallyBeside 166 = .ok (.iload 7, 2) := by decide +kernel
theorem dX2_tallyBeside_168 : decode cX2_tallyBeside 168 = .ok (.ior, 1) := by decide +kernel
theorem dX2_tallyBeside_169 : decode cX2_tallyBeside 169 = .ok (.putfield 21, 3) := by decide +kernel
theorem dX2_tallyBeside_172 : decode cX2_tallyBeside 172 = .ok (.return_, 1) := by decide +kernel
theorem dX2_tallyBell_0 : decode cX2_tallyBell 0 = .ok (.aload_n 0, 1) := by decide +kernel
theorem dX2_tallyBell_1 : decode cX2_tallyBell 1 = .ok (.iconst 0, 1) := by decide +kernel
theorem dX2_tallyBell_2 : decode cX2_tallyBell 2 = .ok (.putfield 30, 3) := by decide +kernel
theorem dX2_tallyBell_5 : decode cX2_tallyBell 5 = .ok (.aload_n 0, 1) := by decide +kernel
theorem dX2_tallyBell_6 : decode cX2_tallyBell 6 = .ok (.iconst 0, 1) := by decide +kernel
theorem dX2_tallyBell_7 : decode cX2_tallyBell 7 = .ok (.putfield 33, 3) := by decide +kernel
theorem dX2_tallyBell_10 : decode cX2_tallyBell 10 = .ok (.aload_n 0, 1) := by decide +kernel
theorem dX2_tallyBell_11 : decode cX2_tallyBell 11 = .ok (.bipush 31, 2) := by decide +kernel
theorem dX2_tallyBell_13 : decode cX2_tallyBell 13 = .ok (.putfield 36, 3) := by decide +kernel
theorem dX2_tallyBell_16 : decode cX2_tallyBell 16 = .ok (.aload_n 0, 1) := by decide +kernel
theorem dX2_tallyBell_17 : decode cX2_tallyBell 17 = .ok (.iconst 0, 1) := by decide +kernel
theorem dX2_tallyBell_18 : decode cX2_tallyBell 18 = .ok (.putfield 39, 3) := by decide +kernel
theorem dX2_tallyBell_21 : decode cX2_tallyBell 21 = .ok (.aload_n 0, 1) := by decide +kernel
theorem dX2_tallyBell_22 : decode cX2_tallyBell 22 = .ok (.iconst 0, 1) := by decide +kernel
theorem dX2_tallyBell_23 : decode cX2_tallyBell 23 = .ok (.iload_n 1, 1) := by decide +kernel
theorem dX2_tallyBell_24 : decode cX2_tallyBell 24 = .ok (.lconst 0, 1) := by decide +kernel
theorem dX2_tallyBell_25 : decode cX2_tallyBell 25 = .ok (.iconst 0, 1) := by decide +kernel
theorem dX2_tallyBell_26 : decode cX2_tallyBell 26 = .ok (.iload_n 2, 1) := by decide +kernel
theorem dX2_tallyBell_27 : decode cX2_tallyBell 27 = .ok (.iconst 0, 1) := by decide +kernel
theorem dX2_tallyBell_28 : decode cX2_tallyBell 28 = .ok (.invokevirtual 75, 3) := by decide +kernel
theorem dX2_tallyBell_31 : decode cX2_tallyBell 31 = .ok (.return_, 1) := by decide +kernel
theorem dX2_walk_0 : decode cX2_walk 0 = .ok (.iload_n 1, 1) := by decide +kernel
theorem dX2_walk_1 : decode cX2_walk 1 = .ok (.ifCond .lt 8, 3) := by decide +kernel
theorem dX2_walk_4 : decode cX2_walk 4 = .ok (.iload_n 1, 1) := by decide +kernel
theorem dX2_walk_5 : decode cX2_walk 5 = .ok (.iconst 5, 1) := by decide +kernel
theorem dX2_walk_6 : decode cX2_walk 6 = .ok (.if_icmp .lt 13, 3) := by decide +kernel
theorem dX2_walk_9 : decode cX2_walk 9 = .ok (.aload_n 0, 1) := by decide +kernel
theorem dX2_walk_10 : decode cX2_walk 10 = .ok (.iload_n 2, 1) := by decide +kernel
theorem dX2_walk_11 : decode cX2_walk 11 = .ok (.iload 5, 2) := by decide +kernel
theorem dX2_walk_13 : decode cX2_walk 13 = .ok (.iload 7, 2) := by decide +kernel
theorem dX2_walk_15 : decode cX2_walk 15 = .ok (.invokevirtual 79, 3) := by decide +kernel
theorem dX2_walk_18 : decode cX2_walk 18 = .ok (.return_, 1) := by decide +kernel
theorem dX2_walk_19 : decode cX2_walk 19 = .ok (.aload_n 0, 1) := by decide +kernel
theorem dX2_walk_20 : decode cX2_walk 20 = .ok (.iload_n 1, 1) := by decide +kernel
theorem dX2_walk_21 : decode cX2_walk 21 = .ok (.iconst 1, 1) := by decide +kernel
theorem dX2_walk_22 : decode cX2_walk 22 = .ok (.iadd, 1) := by decide +kernel
theorem dX2_walk_23 : decode cX2_walk 23 = .ok (.iload_n 2, 1) := by decide +kernel
theorem dX2_walk_24 : decode cX2_walk 24 = .ok (.lload_n 3, 1) := by decide +kernel
theorem dX2_walk_25 : decode cX2_walk 25 = .ok (.iload 5, 2) := by decide +kernel
theorem dX2_walk_27 : decode cX2_walk 27 = .ok (.iload 6, 2) := by decide +kernel
theorem dX2_walk_29 : decode cX2_walk 29 = .ok (.iload 7, 2) := by decide +kernel
theorem dX2_walk_31 : decode cX2_walk 31 = .ok (.invokevirtual 75, 3) := by decide +kernel
theorem dX2_walk_34 : decode cX2_walk 34 = .ok (.aload_n 0, 1) := by decide +kernel
theorem dX2_walk_35 : decode cX2_walk 35 = .ok (.getfield 42, 3) := by decide +kernel
theorem dX2_walk_38 : decode cX2_walk 38 = .ok (.iload_n 1, 1) := by decide +kernel
theorem dX2_walk_39 : decode cX2_walk 39 = .ok (.iload_n 2, 1) := by decide +kernel
theorem dX2_walk_40 : decode cX2_walk 40 = .ok (.invokevirtual 83, 3) := by decide +kernel
theorem dX2_walk_43 : decode cX2_walk 43 = .ok (.ifCond .ne 4, 3) := by decide +kernel
theorem dX2_walk_46 : decode cX2_walk 46 = .ok (.return_, 1) := by decide +kernel
theorem dX2_walk_47 : decode cX2_walk 47 = .ok (.iconst 0, 1) := by decide +kernel
theorem dX2_walk_48 : decode cX2_walk 48 = .ok (.istore 8, 2) := by decide +kernel
theorem dX2_walk_50 : decode cX2_walk 50 = .ok (.iload 8, 2) := by decide +kernel
theorem dX2_walk_52 : decode cX2_walk 52 = .ok (.bipush 10, 2) := by decide +kernel
theorem dX2_walk_54 : decode cX2_walk 54 = .ok (.if_icmp .ge 96, 3) := by decide +kernel
theorem dX2_walk_57 : decode cX2_walk 57 = .ok (.aload_n 0, 1) := by decide +kernel
theorem dX2_walk_58 : decode cX2_walk 58 = .ok (.getfield 42, 3) := by decide +kernel
theorem dX2_walk_61 : decode cX2_walk 61 = .ok (.iload_n 1, 1) := by decide +kernel
theorem dX2_walk_62 : decode cX2_walk 62 = .ok (.iload 8, 2) := by decide +kernel
theorem dX2_walk_64 : decode cX2_walk 64 = .ok (.invokevirtual 87, 3) := by decide +kernel
theorem dX2_walk_67 : decode cX2_walk 67 = .ok (.ifCond .eq 77, 3) := by decide +kernel
theorem dX2_walk_70 : decode cX2_walk 70 = .ok (.aload_n 0, 1) := by decide +kernel
theorem dX2_walk_71 : decode cX2_walk 71 = .ok (.getfield 42, 3) := by decide +kernel
theorem dX2_walk_74 : decode cX2_walk 74 = .ok (.iload_n 1, 1) := by decide +kernel
theorem dX2_walk_75 : decode cX2_walk 75 = .ok (.iload 8, 2) := by decide +kernel
theorem dX2_walk_77 : decode cX2_walk 77 = .ok (.invokevirtual 90, 3) := by decide +kernel
theorem dX2_walk_80 : decode cX2_walk 80 = .ok (.lload_n 3, 1) := by decide +kernel
theorem dX2_walk_81 : decode cX2_walk 81 = .ok (.land, 1) := by decide +kernel
theorem dX2_walk_82 : decode cX2_walk 82 = .ok (.lconst 0, 1) := by decide +kernel
theorem dX2_walk_83 : decode cX2_walk 83 = .ok (.lcmp, 1) := by decide +kernel
theorem dX2_walk_84 : decode cX2_walk 84 = .ok (.ifCond .ne 60, 3) := by decide +kernel
theorem dX2_walk_87 : decode cX2_walk 87 = .ok (.aload_n 0, 1) := by decide +kernel
theorem dX2_walk_88 : decode cX2_walk 88 = .ok (.getfield 42, 3) := by decide +kernel
theorem dX2_walk_91 : decode cX2_walk 91 = .ok (.iload_n 1, 1) := by decide +kernel
theorem dX2_walk_92 : decode cX2_walk 92 = .ok (.iload 8, 2) := by decide +kernel
theorem dX2_walk_94 : decode cX2_walk 94 = .ok (.invokevirtual 94, 3) := by decide +kernel
theorem dX2_walk_97 : decode cX2_walk 97 = .ok (.iload 6, 2) := by decide +kernel
theorem dX2_walk_99 : decode cX2_walk 99 = .ok (.iand, 1) := by decide +kernel
theorem dX2_walk_100 : decode cX2_walk 100 = .ok (.ifCond .ne 44, 3) := by decide +kernel
theorem dX2_walk_103 : decode cX2_walk 103 = .ok (.aload_n 0, 1) := by decide +kernel
theorem dX2_walk_104 : decode cX2_walk 104 = .ok (.iload_n 1, 1) := by decide +kernel
theorem dX2_walk_105 : decode cX2_walk 105 = .ok (.iconst 1, 1) := by decide +kernel
theorem dX2_walk_106 : decode cX2_walk 106 = .ok (.iadd, 1) := by decide +kernel
theorem dX2_walk_107 : decode cX2_walk 107 = .ok (.iload_n 2, 1) := by decide +kernel
theorem dX2_walk_108 : decode cX2_walk 108 = .ok (.lload_n 3, 1) := by decide +kernel
theorem dX2_walk_109 : decode cX2_walk 109 = .ok (.aload_n 0, 1) := by decide +kernel
theorem dX2_walk_110 : decode cX2_walk 110 = .ok (.getfield 42, 3) := by decide +kernel
theorem dX2_walk_113 : decode cX2_walk 113 = .ok (.iload_n 1, 1) := by decide +kernel
theorem dX2_walk_114 : decode cX2_walk 114 = .ok (.iload 8, 2) := by decide +kernel
theorem dX2_walk_116 : decode cX2_walk 116 = .ok (.invokevirtual 90, 3) := by decide +kernel
theorem dX2_walk_119 : decode cX2_walk 119 = .ok (.lor, 1) := by decide +kernel
theorem dX2_walk_120 : decode cX2_walk 120 = .ok (.iload 5, 2) := by decide +kernel
theorem dX2_walk_122 : decode cX2_walk 122 = .ok (.aload_n 0, 1) := by decide +kernel
theorem dX2_walk_123 : decode cX2_walk 123 = .ok (.getfield 42, 3) := by decide +kernel
theorem dX2_walk_126 : decode cX2_walk 126 = .ok (.iload_n 1, 1) := by decide +kernel
theorem dX2_walk_127 : decode cX2_walk 127 = .ok (.iload 8, 2) := by decide +kernel
theorem dX2_walk_129 : decode cX2_walk 129 = .ok (.invokevirtual 94, 3) := by decide +kernel
theorem dX2_walk_132 : decode cX2_walk 132 = .ok (.ior, 1) := by decide +kernel
theorem dX2_walk_133 : decode cX2_walk 133 = .ok (.iload 6, 2) := by decide +kernel
theorem dX2_walk_135 : decode cX2_walk 135 = .ok (.iload 7, 2) := by decide +kernel
theorem dX2_walk_137 : decode cX2_walk 137 = .ok (.iconst 1, 1) := by decide +kernel
theorem dX2_walk_138 : decode cX2_walk 138 = .ok (.iload_n 1, 1) := by decide +kernel
theorem dX2_walk_139 : decode cX2_walk 139 = .ok (.ishl, 1) := by decide +kernel
theorem dX2_walk_140 : decode cX2_walk 140 = .ok (.ior, 1) := by decide +kernel
theorem dX2_walk_141 : decode cX2_walk 141 = .ok (.invokevirtual 75, 3) := by decide +kernel
theorem dX2_walk_144 : decode cX2_walk 144 = .ok (.iinc 8 1, 3) := by decide +kernel
theorem dX2_walk_147 : decode cX2_walk 147 = .ok (.goto (-97), 3) := by decide +kernel
theorem dX2_walk_150 : decode cX2_walk 150 = .ok (.return_, 1) := by decide +kernel
theorem dX2_tallyDay_0 : decode cX2_tallyDay 0 = .ok (.aload_n 0, 1) := by decide +kernel
theorem dX2_tallyDay_1 : decode cX2_tallyDay 1 = .ok (.getfield 24, 3) := by decide +kernel
theorem dX2_tallyDay_4 : decode cX2_tallyDay 4 = .ok (.sipush 1023, 3) := by decide +kernel
theorem dX2_tallyDay_7 : decode cX2_tallyDay 7 = .ok (.bipush 10, 2) := by decide +kernel
theorem dX2_tallyDay_9 : decode cX2_tallyDay 9 = .ok (.iload_n 1, 1) := by decide +kernel
theorem dX2_tallyDay_10 : decode cX2_tallyDay 10 = .ok (.imul, 1) := by decide +kernel
theorem dX2_tallyDay_11 : decode cX2_tallyDay 11 = .ok (.ishl, 1) := by decide +kernel
theorem dX2_tallyDay_12 : decode cX2_tallyDay 12 = .ok (.iand, 1) := by decide +kernel
theorem dX2_tallyDay_13 : decode cX2_tallyDay 13 = .ok (.istore 4, 2) := by decide +kernel
theorem dX2_tallyDay_15 : decode cX2_tallyDay 15 = .ok (.iload_n 2, 1) := by decide +kernel
theorem dX2_tallyDay_16 : decode cX2_tallyDay 16 = .ok (.iload 4, 2) := by decide +kernel
theorem dX2_tallyDay_18 : decode cX2_tallyDay 18 = .ok (.iand, 1) := by decide +kernel
theorem dX2_tallyDay_19 : decode cX2_tallyDay 19 = .ok (.iload 4, 2) := by decide +kernel
theorem dX2_tallyDay_21 : decode cX2_tallyDay 21 = .ok (.if_icmp .eq 4, 3) := by decide +kernel
theorem dX2_tallyDay_24 : decode cX2_tallyDay 24 = .ok (.return_, 1) := by decide +kernel
theorem dX2_tallyDay_25 : decode cX2_tallyDay 25 = .ok (.aload_n 0, 1) := by decide +kernel
theorem dX2_tallyDay_26 : decode cX2_tallyDay 26 = .ok (.dup, 1) := by decide +kernel
theorem dX2_tallyDay_27 : decode cX2_tallyDay 27 = .ok (.getfield 30, 3) := by decide +kernel
theorem dX2_tallyDay_30 : decode cX2_tallyDay 30 = .ok (.iconst 1, 1) := by decide +kernel
theorem dX2_tallyDay_31 : decode cX2_tallyDay 31 = .ok (.iadd, 1) := by decide +kernel
theorem dX2_tallyDay_32 : decode cX2_tallyDay 32 = .ok (.putfield 30, 3) := by decide +kernel
theorem dX2_tallyDay_35 : decode cX2_tallyDay 35 = .ok (.aload_n 0, 1) := by decide +kernel
theorem dX2_tallyDay_36 : decode cX2_tallyDay 36 = .ok (.dup, 1) := by decide +kernel
theorem dX2_tallyDay_37 : decode cX2_tallyDay 37 = .ok (.getfield 33, 3) := by decide +kernel
theorem dX2_tallyDay_40 : decode cX2_tallyDay 40 = .ok (.iload_n 2, 1) := by decide +kernel
theorem dX2_tallyDay_41 : decode cX2_tallyDay 41 = .ok (.aload_n 0, 1) := by decide +kernel
theorem dX2_tallyDay_42 : decode cX2_tallyDay 42 = .ok (.getfield 27, 3) := by decide +kernel
theorem dX2_tallyDay_45 : decode cX2_tallyDay 45 = .ok (.iand, 1) := by decide +kernel
theorem dX2_tallyDay_46 : decode cX2_tallyDay 46 = .ok (.ifCond .ne 7, 3) := by decide +kernel
theorem dX2_tallyDay_49 : decode cX2_tallyDay 49 = .ok (.iconst 1, 1) := by decide +kernel
theorem dX2_tallyDay_50 : decode cX2_tallyDay 50 = .ok (.goto 4, 3) := by decide +kernel
theorem dX2_tallyDay_53 : decode cX2_tallyDay 53 = .ok (.iconst 0, 1) := by decide +kernel
theorem dX2_tallyDay_54 : decode cX2_tallyDay 54 = .ok (.iadd, 1) := by decide +kernel
theorem dX2_tallyDay_55 : decode cX2_tallyDay 55 = .ok (.putfield 33, 3) := by decide +kernel
theorem dX2_tallyDay_58 : decode cX2_tallyDay 58 = .ok (.aload_n 0, 1) := by decide +kernel
theorem dX2_tallyDay_59 : decode cX2_tallyDay 59 = .ok (.dup, 1) := by decide +kernel
theorem dX2_tallyDay_60 : decode cX2_tallyDay 60 = .ok (.getfield 36, 3) := by decide +kernel
theorem dX2_tallyDay_63 : decode cX2_tallyDay 63 = .ok (.iload_n 3, 1) := by decide +kernel
theorem dX2_tallyDay_64 : decode cX2_tallyDay 64 = .ok (.iand, 1) := by decide +kernel
theorem dX2_tallyDay_65 : decode cX2_tallyDay 65 = .ok (.putfield 36, 3) := by decide +kernel
theorem dX2_tallyDay_68 : decode cX2_tallyDay 68 = .ok (.aload_n 0, 1) := by decide +kernel
theorem dX2_tallyDay_69 : decode cX2_tallyDay 69 = .ok (.dup, 1) := by decide +kernel
theorem dX2_tallyDay_70 : decode cX2_tallyDay 70 = .ok (.getfield 39, 3) := by decide +kernel
theorem dX2_tallyDay_73 : decode cX2_tallyDay 73 = .ok (.iload_n 3, 1) := by decide +kernel
theorem dX2_tallyDay_74 : decode cX2_tallyDay 74 = .ok (.ior, 1) := by decide +kernel
theorem dX2_tallyDay_75 : decode cX2_tallyDay 75 = .ok (.putfield 39, 3) := by decide +kernel
theorem dX2_tallyDay_78 : decode cX2_tallyDay 78 = .ok (.return_, 1) := by decide +kernel
