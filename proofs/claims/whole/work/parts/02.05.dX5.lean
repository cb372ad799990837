theorem dX5_init_0 : decode cX5_init 0 = .ok (.aload_n 0, 1) := by decide +kernel
theorem dX5_init_1 : decode cX5_init 1 = .ok (.invokespecial 3, 3) := by decide +kernel
theorem dX5_init_4 : decode cX5_init 4 = .ok (.aload_n 0, 1) := by decide +kernel
theorem dX5_init_5 : decode cX5_init 5 = .ok (.bipush 15, 2) := by decide +kernel
theorem dX5_init_7 : decode cX5_init 7 = .ok (.newarray .int, 2) := by decide +kernel
theorem dX5_init_9 : decode cX5_init 9 = .ok (.putfield 9, 3) := by decide +kernel
theorem dX5_init_12 : decode cX5_init 12 = .ok (.aload_n 0, 1) := by decide +kernel
theorem dX5_init_13 : decode cX5_init 13 = .ok (.bipush 15, 2) := by decide +kernel
theorem dX5_init_15 : decode cX5_init 15 = .ok (.newarray .int, 2) := by decide +kernel
theorem dX5_init_17 : decode cX5_init 17 = .ok (.putfield 15, 3) := by decide +kernel
theorem dX5_init_20 : decode cX5_init 20 = .ok (.aload_n 0, 1) := by decide +kernel
theorem dX5_init_21 : decode cX5_init 21 = .ok (.bipush 15, 2) := by decide +kernel
theorem dX5_init_23 : decode cX5_init 23 = .ok (.newarray .int, 2) := by decide +kernel
theorem dX5_init_25 : decode cX5_init 25 = .ok (.putfield 18, 3) := by decide +kernel
theorem dX5_init_28 : decode cX5_init 28 = .ok (.aload_n 0, 1) := by decide +kernel
theorem dX5_init_29 : decode cX5_init 29 = .ok (.bipush 15, 2) := by decide +kernel
theorem dX5_init_31 : decode cX5_init 31 = .ok (.newarray .int, 2) := by decide +kernel
theorem dX5_init_33 : decode cX5_init 33 = .ok (.putfield 21, 3) := by decide +kernel
theorem dX5_init_36 : decode cX5_init 36 = .ok (.aload_n 0, 1) := by decide +kernel
theorem dX5_init_37 : decode cX5_init 37 = .ok (.iconst 0, 1) := by decide +kernel
theorem dX5_init_38 : decode cX5_init 38 = .ok (.putfield 24, 3) := by decide +kernel
theorem dX5_init_41 : decode cX5_init 41 = .ok (.aload_n 0, 1) := by decide +kernel
theorem dX5_init_42 : decode cX5_init 42 = .ok (.iconst 0, 1) := by decide +kernel
theorem dX5_init_43 : decode cX5_init 43 = .ok (.putfield 28, 3) := by decide +kernel
theorem dX5_init_46 : decode cX5_init 46 = .ok (.aload_n 0, 1) := by decide +kernel
theorem dX5_init_47 : decode cX5_init 47 = .ok (.aload_n 1, 1) := by decide +kernel
theorem dX5_init_48 : decode cX5_init 48 = .ok (.putfield 31, 3) := by decide +kernel
theorem dX5_init_51 : decode cX5_init 51 = .ok (.return_, 1) := by decide +kernel
theorem dX5_fewest_0 : decode cX5_fewest 0 = .ok (.aload_n 0, 1) := by decide +kernel
theorem dX5_fewest_1 : decode cX5_fewest 1 = .ok (.iconst 0, 1) := by decide +kernel
theorem dX5_fewest_2 : decode cX5_fewest 2 = .ok (.putfield 24, 3) := by decide +kernel
theorem dX5_fewest_5 : decode cX5_fewest 5 = .ok (.iconst 0, 1) := by decide +kernel
theorem dX5_fewest_6 : decode cX5_fewest 6 = .ok (.istore_n 2, 1) := by decide +kernel
theorem dX5_fewest_7 : decode cX5_fewest 7 = .ok (.iload_n 2, 1) := by decide +kernel
theorem dX5_fewest_8 : decode cX5_fewest 8 = .ok (.iconst 5, 1) := by decide +kernel
theorem dX5_fewest_9 : decode cX5_fewest 9 = .ok (.if_icmp .ge 27, 3) := by decide +kernel
theorem dX5_fewest_12 : decode cX5_fewest 12 = .ok (.aload_n 1, 1) := by decide +kernel
theorem dX5_fewest_13 : decode cX5_fewest 13 = .ok (.iload_n 2, 1) := by decide +kernel
theorem dX5_fewest_14 : decode cX5_fewest 14 = .ok (.invokevirtual 35, 3) := by decide +kernel
theorem dX5_fewest_17 : decode cX5_fewest 17 = .ok (.ifCond .eq 13, 3) := by decide +kernel
theorem dX5_fewest_20 : decode cX5_fewest 20 = .ok (.aload_n 0, 1) := by decide +kernel
theorem dX5_fewest_21 : decode cX5_fewest 21 = .ok (.iload_n 2, 1) := by decide +kernel
theorem dX5_fewest_22 : decode cX5_fewest 22 = .ok (.aload_n 1, 1) := by decide +kernel
theorem dX5_fewest_23 : decode cX5_fewest 23 = .ok (.iload_n 2, 1) := by decide +kernel
theorem dX5_fewest_24 : decode cX5_fewest 24 = .ok (.invokevirtual 41, 3) := by decide +kernel
theorem dX5_fewest_27 : decode cX5_fewest 27 = .ok (.invokevirtual 45, 3) := by decide +kernel
theorem dX5_fewest_30 : decode cX5_fewest 30 = .ok (.iinc 2 1, 3) := by decide +kernel
theorem dX5_fewest_33 : decode cX5_fewest 33 = .ok (.goto (-26), 3) := by decide +kernel
theorem dX5_fewest_36 : decode cX5_fewest 36 = .ok (.aload_n 0, 1) := by decide +kernel
theorem dX5_fewest_37 : decode cX5_fewest 37 = .ok (.getfield 24, 3) := by decide +kernel
theorem dX5_fewest_40 : decode cX5_fewest 40 = .ok (.istore_n 2, 1) := by decide +kernel
theorem dX5_fewest_41 : decode cX5_fewest 41 = .ok (.iconst 0, 1) := by decide +kernel
theorem dX5_fewest_42 : decode cX5_fewest 42 = .ok (.istore_n 3, 1) := by decide +kernel
theorem dX5_fewest_43 : decode cX5_fewest 43 = .ok (.iload_n 3, 1) := by decide +kernel
theorem dX5_fewest_44 : decode cX5_fewest 44 = .ok (.bipush 15, 2) := by decide +kernel
theorem dX5_fewest_46 : decode cX5_fewest 46 = .ok (.if_icmp .ge 39, 3) := by decide +kernel
theorem dX5_fewest_49 : decode cX5_fewest 49 = .ok (.iload_n 3, 1) := by decide +kernel
theorem dX5_fewest_50 : decode cX5_fewest 50 = .ok (.aload_n 0, 1) := by decide +kernel
theorem dX5_fewest_51 : decode cX5_fewest 51 = .ok (.getfield 24, 3) := by decide +kernel
theorem dX5_fewest_54 : decode cX5_fewest 54 = .ok (.if_icmp .ge 31, 3) := by decide +kernel
theorem dX5_fewest_57 : decode cX5_fewest 57 = .ok (.aload_n 0, 1) := by decide +kernel
theorem dX5_fewest_58 : decode cX5_fewest 58 = .ok (.iconst 0, 1) := by decide +kernel
theorem dX5_fewest_59 : decode cX5_fewest 59 = .ok (.putfield 28, 3) := by decide +kernel
theorem dX5_fewest_62 : decode cX5_fewest 62 = .ok (.iload_n 2, 1) := by decide +kernel
theorem dX5_fewest_63 : decode cX5_fewest 63 = .ok (.aload_n 0, 1) := by decide +kernel
theorem dX5_fewest_64 : decode cX5_fewest 64 = .ok (.iload_n 3, 1) := by decide +kernel
theorem dX5_fewest_65 : decode cX5_fewest 65 = .ok (.iconst 0, 1) := by decide +kernel
theorem dX5_fewest_66 : decode cX5_fewest 66 = .ok (.invokevirtual 49, 3) := by decide +kernel
theorem dX5_fewest_69 : decode cX5_fewest 69 = .ok (.ifCond .eq 7, 3) := by decide +kernel
theorem dX5_fewest_72 : decode cX5_fewest 72 = .ok (.iconst 1, 1) := by decide +kernel
theorem dX5_fewest_73 : decode cX5_fewest 73 = .ok (.goto 4, 3) := by decide +kernel
theorem dX5_fewest_76 : decode cX5_fewest 76 = .ok (.iconst 0, 1) := by decide +kernel
theorem dX5_fewest_77 : decode cX5_fewest 77 = .ok (.isub, 1) := by decide +kernel
theorem dX5_fewest_78 : decode cX5_fewest 78 = .ok (.istore_n 2, 1) := by decide +kernel
theorem dX5_fewest_79 : decode cX5_fewest 79 = .ok (.iinc 3 1, 3) := by decide +kernel
theorem dX5_fewest_82 : decode cX5_fewest 82 = .ok (.goto (-39), 3) := by decide +kernel
theorem dX5_fewest_85 : decode cX5_fewest 85 = .ok (.iload_n 2, 1) := by decide +kernel
theorem dX5_fewest_86 : decode cX5_fewest 86 = .ok (.ireturn, 1) := by decide +kernel
theorem dX5_addStrokes_0 : decode cX5_addStrokes 0 = .ok (.aload_n 0, 1) := by decide +kernel
theorem dX5_addStrokes_1 : decode cX5_addStrokes 1 = .ok (.getfield 31, 3) := by decide +kernel
theorem dX5_addStrokes_4 : decode cX5_addStrokes 4 = .ok (.getfield 53, 3) := by decide +kernel
theorem dX5_addStrokes_7 : decode cX5_addStrokes 7 = .ok (.iload_n 1, 1) := by decide +kernel
theorem dX5_addStrokes_8 : decode cX5_addStrokes 8 = .ok (.invokestatic 58, 3) := by decide +kernel
theorem dX5_addStrokes_11 : decode cX5_addStrokes 11 = .ok (.istore_n 3, 1) := by decide +kernel
theorem dX5_addStrokes_12 : decode cX5_addStrokes 12 = .ok (.aload_n 0, 1) := by decide +kernel
theorem dX5_addStrokes_13 : decode cX5_addStrokes 13 = .ok (.getfield 31, 3) := by decide +kernel
theorem dX5_addStrokes_16 : decode cX5_addStrokes 16 = .ok (.getfield 62, 3) := by decide +kernel
theorem dX5_addStrokes_19 : decode cX5_addStrokes 19 = .ok (.iload_n 3, 1) := by decide +kernel
theorem dX5_addStrokes_20 : decode cX5_addStrokes 20 = .ok (.invokestatic 58, 3) := by decide +kernel
theorem dX5_addStrokes_23 : decode cX5_addStrokes 23 = .ok (.istore 4, 2) := by decide +kernel
theorem dX5_addStrokes_25 : decode cX5_addStrokes 25 = .ok (.aload_n 0, 1) := by decide +kernel
theorem dX5_addStrokes_26 : decode cX5_addStrokes 26 = .ok (.getfield 31, 3) := by decide +kernel
theorem dX5_addStrokes_29 : decode cX5_addStrokes 29 = .ok (.getfield 65, 3) := by decide +kernel
theorem dX5_addStrokes_32 : decode cX5_addStrokes 32 = .ok (.iload_n 1, 1) := by decide +kernel
theorem dX5_addStrokes_33 : decode cX5_addStrokes 33 = .ok (.invokestatic 58, 3) := by decide +kernel
theorem dX5_addStrokes_36 : decode cX5_addStrokes 36 = .ok (.istore 5, 2) := by decide +kernel
theorem dX5_addStrokes_38 : decode cX5_addStrokes 38 = .ok (.iconst 0, 1) := by decide +kernel
theorem dX5_addStrokes_39 : decode cX5_addStrokes 39 = .ok (.istore 6, 2) := by decide +kernel
theorem dX5_addStrokes_41 : decode cX5_addStrokes 41 = .ok (.iload 6, 2) := by decide +kernel
theorem dX5_addStrokes_43 : decode cX5_addStrokes 43 = .ok (.iload 5, 2) := by decide +kernel
theorem dX5_addStrokes_45 : decode cX5_addStrokes 45 = .ok (.if_icmp .ge 105, 3) := by decide +kernel
theorem dX5_addStrokes_48 : decode cX5_addStrokes 48 = .ok (.aload_n 0, 1) := by decide +kernel
theorem dX5_addStrokes_49 : decode cX5_addStrokes 49 = .ok (.getfield 24, 3) := by decide +kernel
theorem dX5_addStrokes_52 : decode cX5_addStrokes 52 = .ok (.ifCond .lt 98, 3) := by decide +kernel
theorem dX5_addStrokes_55 : decode cX5_addStrokes 55 = .ok (.aload_n 0, 1) := by decide +kernel
theorem dX5_addStrokes_56 : decode cX5_addStrokes 56 = .ok (.getfield 24, 3) := by decide +kernel
theorem dX5_addStrokes_59 : decode cX5_addStrokes 59 = .ok (.bipush 15, 2) := by decide +kernel
theorem dX5_addStrokes_61 : decode cX5_addStrokes 61 = .ok (.if_icmp .ge 89, 3) := by decide +kernel
theorem dX5_addStrokes_64 : decode cX5_addStrokes 64 = .ok (.aload_n 0, 1) := by decide +kernel
theorem dX5_addStrokes_65 : decode cX5_addStrokes 65 = .ok (.getfield 9, 3) := by decide +kernel
theorem dX5_addStrokes_68 : decode cX5_addStrokes 68 = .ok (.aload_n 0, 1) := by decide +kernel
theorem dX5_addStrokes_69 : decode cX5_addStrokes 69 = .ok (.getfield 24, 3) := by decide +kernel
theorem dX5_addStrokes_72 : decode cX5_addStrokes 72 = .ok (.iload_n 2, 1) := by decide +kernel
theorem dX5_addStrokes_73 : decode cX5_addStrokes 73 = .ok (.iload 6, 2) := by decide +kernel
theorem dX5_addStrokes_75 : decode cX5_addStrokes 75 = .ok (.iload 4, 2) := by decide +kernel
theorem dX5_addStrokes_77 : decode cX5_addStrokes 77 = .ok (.aload_n 0, 1) := by decide +kernel
theorem dX5_addStrokes_78 : decode cX5_addStrokes 78 = .ok (.getfield 31, 3) := by decide +kernel
theorem dX5_addStrokes_81 : decode cX5_addStrokes 81 = .ok (.getfield 68, 3) := by decide +kernel
theorem dX5_addStrokes_84 : decode cX5_addStrokes 84 = .ok (.iload_n 1, 1) := by decide +kernel
theorem dX5_addStrokes_85 : decode cX5_addStrokes 85 = .ok (.invokestatic 58, 3) := by decide +kernel
theorem dX5_addStrokes_88 : decode cX5_addStrokes 88 = .ok (.iadd, 1) := by decide +kernel
theorem dX5_addStrokes_89 : decode cX5_addStrokes 89 = .ok (.imul, 1) := by decide +kernel
theorem dX5_addStrokes_90 : decode cX5_addStrokes 90 = .ok (.iadd, 1) := by decide +kernel
theorem dX5_addStrokes_91 : decode cX5_addStrokes 91 = .ok (.iastore, 1) := by decide +kernel
theorem dX5_addStrokes_92 : decode cX5_addStrokes 92 = .ok (.aload_n 0, 1) := by decide +kernel
theorem dX5_addStrokes_93 : decode cX5_addStrokes 93 = .ok (.getfield 15, 3) := by decide +kernel
theorem dX5_addStrokes_96 : decode cX5_addStrokes 96 = .ok (.aload_n 0, 1) := by decide +kernel
theorem dX5_addStrokes_97 : decode cX5_addStrokes 97 = .ok (.getfield 24, 3) := by decide +kernel
theorem dX5_addStrokes_100 : decode cX5_addStrokes 100 = .ok (.aload_n 0, 1) := by decide +kernel
theorem dX5_addStrokes_101 : decode cX5_addStrokes 101 = .ok (.getfield 9, 3) := by decide +kernel
theorem dX5_addStrokes_104 : decode cX5_addStrokes 104 = .ok (.aload_n 0, 1) := by decide +kernel
theorem dX5_addStrokes_105 : decode cX5_addStrokes 105 = .ok (.getfield 24, 3) := by decide +kernel
theorem dX5_addStrokes_108 : decode cX5_addStrokes 108 = .ok (.iaload, 1) := by decide +kernel
theorem dX5_addStrokes_109 : decode cX5_addStrokes 109 = .ok (.iload 4, 2) := by decide +kernel
theorem dX5_addStrokes_111 : decode cX5_addStrokes 111 = .ok (.iadd, 1) := by decide +kernel
theorem dX5_addStrokes_112 : decode cX5_addStrokes 112 = .ok (.iastore, 1) := by decide +kernel
theorem dX5_addStrokes_113 : decode cX5_addStrokes 113 = .ok (.aload_n 0, 1) := by decide +kernel
theorem dX5_addStrokes_114 : decode cX5_addStrokes 114 = .ok (.getfield 18, 3) := by decide +kernel
theorem dX5_addStrokes_117 : decode cX5_addStrokes 117 = .ok (.aload_n 0, 1) := by decide +kernel
theorem dX5_addStrokes_118 : decode cX5_addStrokes 118 = .ok (.getfield 24, 3) := by decide +kernel
theorem dX5_addStrokes_121 : decode cX5_addStrokes 121 = .ok (.iload_n 3, 1) := by decide +kernel
theorem dX5_addStrokes_122 : decode cX5_addStrokes 122 = .ok (.iastore, 1) := by decide +kernel
theorem dX5_addStrokes_123 : decode cX5_addStrokes 123 = .ok (.aload_n 0, 1) := by decide +kernel
theorem dX5_addStrokes_124 : decode cX5_addStrokes 124 = .ok (.getfield 21, 3) := by decide +kernel
theorem dX5_addStrokes_127 : decode cX5_addStrokes 127 = .ok (.aload_n 0, 1) := by decide +kernel
theorem dX5_addStrokes_128 : decode cX5_addStrokes 128 = .ok (.getfield 24, 3) := by decide +kernel
theorem dX5_addStrokes_131 : decode cX5_addStrokes 131 = .ok (.bipush (-9), 2) := by decide +kernel
theorem dX5_addStrokes_133 : decode cX5_addStrokes 133 = .ok (.iastore, 1) := by decide +kernel
theorem dX5_addStrokes_134 : decode cX5_addStrokes 134 = .ok (.aload_n 0, 1) := by decide +kernel
theorem dX5_addStrokes_135 : decode cX5_addStrokes 135 = .ok (.dup, 1) := by decide +kernel
theorem dX5_addStrokes_136 : decode cX5_addStrokes 136 = .ok (.getfield 24, 3) := by decide +kernel
theorem dX5_addStrokes_139 : decode cX5_addStrokes 139 = .ok (.iconst 1, 1) := by decide +kernel
theorem dX5_addStrokes_140 : decode cX5_addStrokes 140 = .ok (.iadd, 1) := by decide +kernel
theorem dX5_addStrokes_141 : decode cX5_addStrokes 141 = .ok (.putfield 24, 3) := by decide +kernel
theorem dX5_addStrokes_144 : decode cX5_addStrokes 144 = .ok (.iinc 6 1, 3) := by decide +kernel
theorem dX5_addStrokes_147 : decode cX5_addStrokes 147 = .ok (.goto (-106), 3) := by decide +kernel
theorem dX5_addStrokes_150 : decode cX5_addStrokes 150 = .ok (.return_, 1) := by decide +kernel
theorem dX5_goesOn_0 : decode cX5_goesOn 0 = .ok (.iload_n 1, 1) := by decide +kernel
theorem dX5_goesOn_1 : decode cX5_goesOn 1 = .ok (.ifCond .lt 15, 3) := by decide +kernel
theorem dX5_goesOn_4 : decode cX5_goesOn 4 = .ok (.iload_n 1, 1) := by decide +kernel
theorem dX5_goesOn_5 : decode cX5_goesOn 5 = .ok (.bipush 15, 2) := by decide +kernel
theorem dX5_goesOn_7 : decode cX5_goesOn 7 = .ok (.if_icmp .ge 9, 3) := by decide +kernel
theorem dX5_goesOn_10 : decode cX5_goesOn 10 = .ok (.iload_n 2, 1) := by decide +kernel
theorem dX5_goesOn_11 : decode cX5_goesOn 11 = .ok (.bipush 15, 2) := by decide +kernel
theorem dX5_goesOn_13 : decode cX5_goesOn 13 = .ok (.if_icmp .le 5, 3) := by decide +kernel
theorem dX5_goesOn_16 : decode cX5_goesOn 16 = .ok (.iconst 0, 1) := by decide +kernel
theorem dX5_goesOn_17 : decode cX5_goesOn 17 = .ok (.ireturn, 1) := by decide +kernel
theorem dX5_goesOn_18 : decode cX5_goesOn 18 = .ok (.iconst 0, 1) := by decide +kernel
theorem dX5_goesOn_19 : decode cX5_goesOn 19 = .ok (.istore_n 3, 1) := by decide +kernel
theorem dX5_goesOn_20 : decode cX5_goesOn 20 = .ok (.iload_n 3, 1) := by decide +kernel
theorem dX5_goesOn_21 : decode cX5_goesOn 21 = .ok (.bipush 15, 2) := by decide +kernel
theorem dX5_goesOn_23 : decode cX5_goesOn 23 = .ok (.if_icmp .ge 85, 3) := by decide +kernel
theorem dX5_goesOn_26 : decode cX5_goesOn 26 = .ok (.iload_n 3, 1) := by decide +kernel
theorem dX5_goesOn_27 : decode cX5_goesOn 27 = .ok (.aload_n 0, 1) := by decide +kernel
theorem dX5_goesOn_28 : decode cX5_goesOn 28 = .ok (.getfield 24, 3) := by decide +kernel
theorem dX5_goesOn_31 : decode cX5_goesOn 31 = .ok (.if_icmp .ge 77, 3) := by decide +kernel
theorem dX5_goesOn_34 : decode cX5_goesOn 34 = .ok (.aload_n 0, 1) := by decide +kernel
theorem dX5_goesOn_35 : decode cX5_goesOn 35 = .ok (.getfield 28, 3) := by decide +kernel
theorem dX5_goesOn_38 : decode cX5_goesOn 38 = .ok (.iload_n 3, 1) := by decide +kernel
theorem dX5_goesOn_39 : decode cX5_goesOn 39 = .ok (.iushr, 1) := by decide +kernel
theorem dX5_goesOn_40 : decode cX5_goesOn 40 = .ok (.iconst 1, 1) := by decide +kernel
theorem dX5_goesOn_41 : decode cX5_goesOn 41 = .ok (.iand, 1) := by decide +kernel
theorem dX5_goesOn_42 : decode cX5_goesOn 42 = .ok (.ifCond .ne 60, 3) := by decide +kernel
theorem dX5_goesOn_45 : decode cX5_goesOn 45 = .ok (.aload_n 0, 1) := by decide +kernel
theorem dX5_goesOn_46 : decode cX5_goesOn 46 = .ok (.iload_n 1, 1) := by decide +kernel
theorem dX5_goesOn_47 : decode cX5_goesOn 47 = .ok (.iload_n 3, 1) := by decide +kernel
theorem dX5_goesOn_48 : decode cX5_goesOn 48 = .ok (.invokevirtual 71, 3) := by decide +kernel
theorem dX5_goesOn_51 : decode cX5_goesOn 51 = .ok (.ifCond .eq 51, 3) := by decide +kernel
theorem dX5_goesOn_54 : decode cX5_goesOn 54 = .ok (.aload_n 0, 1) := by decide +kernel
theorem dX5_goesOn_55 : decode cX5_goesOn 55 = .ok (.dup, 1) := by decide +kernel
theorem dX5_goesOn_56 : decode cX5_goesOn 56 = .ok (.getfield 28, 3) := by decide +kernel
theorem dX5_goesOn_59 : decode cX5_goesOn 59 = .ok (.iconst 1, 1) := by decide +kernel
theorem dX5_goesOn_60 : decode cX5_goesOn 60 = .ok (.iload_n 3, 1) := by decide +kernel
theorem dX5_goesOn_61 : decode cX5_goesOn 61 = .ok (.ishl, 1) := by decide +kernel
theorem dX5_goesOn_62 : decode cX5_goesOn 62 = .ok (.ior, 1) := by decide +kernel
theorem dX5_goesOn_63 : decode cX5_goesOn 63 = .ok (.putfield 28, 3) := by decide +kernel
theorem dX5_goesOn_66 : decode cX5_goesOn 66 = .ok (.aload_n 0, 1) := by decide +kernel
theorem dX5_goesOn_67 : decode cX5_goesOn 67 = .ok (.getfield 21, 3) := by decide +kernel
theorem dX5_goesOn_70 : decode cX5_goesOn 70 = .ok (.iload_n 3, 1) := by decide +kernel
theorem dX5_goesOn_71 : decode cX5_goesOn 71 = .ok (.iaload, 1) := by decide +kernel
theorem dX5_goesOn_72 : decode cX5_goesOn 72 = .ok (.bipush (-9), 2) := by decide +kernel
theorem dX5_goesOn_74 : decode cX5_goesOn 74 = .ok (.if_icmp .eq 19, 3) := by decide +kernel
theorem dX5_goesOn_77 : decode cX5_goesOn 77 = .ok (.aload_n 0, 1) := by decide +kernel
theorem dX5_goesOn_78 : decode cX5_goesOn 78 = .ok (.aload_n 0, 1) := by decide +kernel
theorem dX5_goesOn_79 : decode cX5_goesOn 79 = .ok (.getfield 21, 3) := by decide +kernel
theorem dX5_goesOn_82 : decode cX5_goesOn 82 = .ok (.iload_n 3, 1) := by decide +kernel
theorem dX5_goesOn_83 : decode cX5_goesOn 83 = .ok (.iaload, 1) := by decide +kernel
theorem dX5_goesOn_84 : decode cX5_goesOn 84 = .ok (.iload_n 2, 1) := by decide +kernel
theorem dX5_goesOn_85 : decode cX5_goesOn 85 = .ok (.iconst 1, 1) := by decide +kernel
theorem dX5_goesOn_86 : decode cX5_goesOn 86 = .ok (.iadd, 1) := by decide +kernel
theorem dX5_goesOn_87 : decode cX5_goesOn 87 = .ok (.invokevirtual 49, 3) := by decide +kernel
theorem dX5_goesOn_90 : decode cX5_goesOn 90 = .ok (.ifCond .eq 12, 3) := by decide +kernel
theorem dX5_goesOn_93 : decode cX5_goesOn 93 = .ok (.aload_n 0, 1) := by decide +kernel
theorem dX5_goesOn_94 : decode cX5_goesOn 94 = .ok (.getfield 21, 3) := by decide +kernel
theorem dX5_goesOn_97 : decode cX5_goesOn 97 = .ok (.iload_n 3, 1) := by decide +kernel
theorem dX5_goesOn_98 : decode cX5_goesOn 98 = .ok (.iload_n 1, 1) := by decide +kernel
theorem dX5_goesOn_99 : decode cX5_goesOn 99 = .ok (.iastore, 1) := by decide +kernel
theorem dX5_goesOn_100 : decode cX5_goesOn 100 = .ok (.iconst 1, 1) := by decide +kernel
theorem dX5_goesOn_101 : decode cX5_goesOn 101 = .ok (.ireturn, 1) := by decide +kernel
theorem dX5_goesOn_102 : decode cX5_goesOn 102 = .ok (.iinc 3 1, 3) := by decide +kernel
theorem dX5_goesOn_105 : decode cX5_goesOn 105 = .ok (.goto (-85), 3) := by decide +kernel
theorem dX5_goesOn_108 : decode cX5_goesOn 108 = .ok (.iconst 0, 1) := by decide +kernel
theorem dX5_goesOn_109 : decode cX5_goesOn 109 = .ok (.ireturn, 1) := by decide +kernel
theorem dX5_isInTime_0 : decode cX5_isInTime 0 = .ok (.aload_n 0, 1) := by decide +kernel
theorem dX5_isInTime_1 : decode cX5_isInTime 1 = .ok (.getfield 15, 3) := by decide +kernel
theorem dX5_isInTime_4 : decode cX5_isInTime 4 = .ok (.iload_n 1, 1) := by decide +kernel
theorem dX5_isInTime_5 : decode cX5_isInTime 5 = .ok (.invokestatic 58, 3) := by decide +kernel
theorem dX5_isInTime_8 : decode cX5_isInTime 8 = .ok (.aload_n 0, 1) := by decide +kernel
theorem dX5_isInTime_9 : decode cX5_isInTime 9 = .ok (.getfield 18, 3) := by decide +kernel
theorem dX5_isInTime_12 : decode cX5_isInTime 12 = .ok (.iload_n 1, 1) := by decide +kernel
theorem dX5_isInTime_13 : decode cX5_isInTime 13 = .ok (.invokestatic 58, 3) := by decide +kernel
theorem dX5_isInTime_16 : decode cX5_isInTime 16 = .ok (.aload_n 0, 1) := by decide +kernel
theorem dX5_isInTime_17 : decode cX5_isInTime 17 = .ok (.getfield 18, 3) := by decide +kernel
theorem dX5_isInTime_20 : decode cX5_isInTime 20 = .ok (.iload_n 2, 1) := by decide +kernel
theorem dX5_isInTime_21 : decode cX5_isInTime 21 = .ok (.invokestatic 58, 3) := by decide +kernel
theorem dX5_isInTime_24 : decode cX5_isInTime 24 = .ok (.isub, 1) := by decide +kernel
theorem dX5_isInTime_25 : decode cX5_isInTime 25 = .ok (.invokestatic 74, 3) := by decide +kernel
theorem dX5_isInTime_28 : decode cX5_isInTime 28 = .ok (.iadd, 1) := by decide +kernel
theorem dX5_isInTime_29 : decode cX5_isInTime 29 = .ok (.aload_n 0, 1) := by decide +kernel
theorem dX5_isInTime_30 : decode cX5_isInTime 30 = .ok (.getfield 9, 3) := by decide +kernel
theorem dX5_isInTime_33 : decode cX5_isInTime 33 = .ok (.iload_n 2, 1) := by decide +kernel
theorem dX5_isInTime_34 : decode cX5_isInTime 34 = .ok (.invokestatic 58, 3) := by decide +kernel
theorem dX5_isInTime_37 : decode cX5_isInTime 37 = .ok (.if_icmp .gt 7, 3) := by decide +kernel
theorem dX5_isInTime_40 : decode cX5_isInTime 40 = .ok (.iconst 1, 1) := by decide +kernel
theorem dX5_isInTime_41 : decode cX5_isInTime 41 = .ok (.goto 4, 3) := by decide +kernel
theorem dX5_isInTime_44 : decode cX5_isInTime 44 = .ok (.iconst 0, 1) := by decide +kernel
theorem dX5_isInTime_45 : decode cX5_isInTime 45 = .ok (.ireturn, 1) := by decide +kernel
