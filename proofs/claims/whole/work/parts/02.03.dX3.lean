theorem dX3_init_0 : decode cX3_init 0 = .ok (.aload_n 0, 1) := by decide +kernel
theorem dX3_init_1 : decode cX3_init 1 = .ok (.invokespecial 3, 3) := by decide +kernel
theorem dX3_init_4 : decode cX3_init 4 = .ok (.aload_n 0, 1) := by decide +kernel
theorem dX3_init_5 : decode cX3_init 5 = .ok (.bipush 6, 2) := by decide +kernel
theorem dX3_init_7 : decode cX3_init 7 = .ok (.newarray .int, 2) := by decide +kernel
theorem dX3_init_9 : decode cX3_init 9 = .ok (.putfield 9, 3) := by decide +kernel
theorem dX3_init_12 : decode cX3_init 12 = .ok (.aload_n 0, 1) := by decide +kernel
theorem dX3_init_13 : decode cX3_init 13 = .ok (.bipush 6, 2) := by decide +kernel
theorem dX3_init_15 : decode cX3_init 15 = .ok (.newarray .int, 2) := by decide +kernel
theorem dX3_init_17 : decode cX3_init 17 = .ok (.putfield 15, 3) := by decide +kernel
theorem dX3_init_20 : decode cX3_init 20 = .ok (.aload_n 0, 1) := by decide +kernel
theorem dX3_init_21 : decode cX3_init 21 = .ok (.iconst 0, 1) := by decide +kernel
theorem dX3_init_22 : decode cX3_init 22 = .ok (.putfield 18, 3) := by decide +kernel
theorem dX3_init_25 : decode cX3_init 25 = .ok (.return_, 1) := by decide +kernel
theorem dX3_append_0 : decode cX3_append 0 = .ok (.aload_n 0, 1) := by decide +kernel
theorem dX3_append_1 : decode cX3_append 1 = .ok (.getfield 18, 3) := by decide +kernel
theorem dX3_append_4 : decode cX3_append 4 = .ok (.ifCond .lt 12, 3) := by decide +kernel
theorem dX3_append_7 : decode cX3_append 7 = .ok (.aload_n 0, 1) := by decide +kernel
theorem dX3_append_8 : decode cX3_append 8 = .ok (.getfield 18, 3) := by decide +kernel
theorem dX3_append_11 : decode cX3_append 11 = .ok (.bipush 6, 2) := by decide +kernel
theorem dX3_append_13 : decode cX3_append 13 = .ok (.if_icmp .lt 6, 3) := by decide +kernel
theorem dX3_append_16 : decode cX3_append 16 = .ok (.bipush (-4), 2) := by decide +kernel
theorem dX3_append_18 : decode cX3_append 18 = .ok (.ireturn, 1) := by decide +kernel
theorem dX3_append_19 : decode cX3_append 19 = .ok (.aload_n 0, 1) := by decide +kernel
theorem dX3_append_20 : decode cX3_append 20 = .ok (.getfield 9, 3) := by decide +kernel
theorem dX3_append_23 : decode cX3_append 23 = .ok (.aload_n 0, 1) := by decide +kernel
theorem dX3_append_24 : decode cX3_append 24 = .ok (.getfield 18, 3) := by decide +kernel
theorem dX3_append_27 : decode cX3_append 27 = .ok (.iload_n 1, 1) := by decide +kernel
theorem dX3_append_28 : decode cX3_append 28 = .ok (.iastore, 1) := by decide +kernel
theorem dX3_append_29 : decode cX3_append 29 = .ok (.aload_n 0, 1) := by decide +kernel
theorem dX3_append_30 : decode cX3_append 30 = .ok (.getfield 15, 3) := by decide +kernel
theorem dX3_append_33 : decode cX3_append 33 = .ok (.aload_n 0, 1) := by decide +kernel
theorem dX3_append_34 : decode cX3_append 34 = .ok (.getfield 18, 3) := by decide +kernel
theorem dX3_append_37 : decode cX3_append 37 = .ok (.iload_n 2, 1) := by decide +kernel
theorem dX3_append_38 : decode cX3_append 38 = .ok (.iastore, 1) := by decide +kernel
theorem dX3_append_39 : decode cX3_append 39 = .ok (.aload_n 0, 1) := by decide +kernel
theorem dX3_append_40 : decode cX3_append 40 = .ok (.dup, 1) := by decide +kernel
theorem dX3_append_41 : decode cX3_append 41 = .ok (.getfield 18, 3) := by decide +kernel
theorem dX3_append_44 : decode cX3_append 44 = .ok (.iconst 1, 1) := by decide +kernel
theorem dX3_append_45 : decode cX3_append 45 = .ok (.iadd, 1) := by decide +kernel
theorem dX3_append_46 : decode cX3_append 46 = .ok (.putfield 18, 3) := by decide +kernel
theorem dX3_append_49 : decode cX3_append 49 = .ok (.aload_n 0, 1) := by decide +kernel
theorem dX3_append_50 : decode cX3_append 50 = .ok (.getfield 18, 3) := by decide +kernel
theorem dX3_append_53 : decode cX3_append 53 = .ok (.ireturn, 1) := by decide +kernel
theorem dX3_clear_0 : decode cX3_clear 0 = .ok (.aload_n 0, 1) := by decide +kernel
theorem dX3_clear_1 : decode cX3_clear 1 = .ok (.getfield 18, 3) := by decide +kernel
theorem dX3_clear_4 : decode cX3_clear 4 = .ok (.istore_n 1, 1) := by decide +kernel
theorem dX3_clear_5 : decode cX3_clear 5 = .ok (.aload_n 0, 1) := by decide +kernel
theorem dX3_clear_6 : decode cX3_clear 6 = .ok (.iconst 0, 1) := by decide +kernel
theorem dX3_clear_7 : decode cX3_clear 7 = .ok (.putfield 18, 3) := by decide +kernel
theorem dX3_clear_10 : decode cX3_clear 10 = .ok (.iload_n 1, 1) := by decide +kernel
theorem dX3_clear_11 : decode cX3_clear 11 = .ok (.ireturn, 1) := by decide +kernel
theorem dX3_told_0 : decode cX3_told 0 = .ok (.iconst 0, 1) := by decide +kernel
theorem dX3_told_1 : decode cX3_told 1 = .ok (.istore_n 3, 1) := by decide +kernel
theorem dX3_told_2 : decode cX3_told 2 = .ok (.iconst 0, 1) := by decide +kernel
theorem dX3_told_3 : decode cX3_told 3 = .ok (.istore 4, 2) := by decide +kernel
theorem dX3_told_5 : decode cX3_told 5 = .ok (.iload 4, 2) := by decide +kernel
theorem dX3_told_7 : decode cX3_told 7 = .ok (.bipush 6, 2) := by decide +kernel
theorem dX3_told_9 : decode cX3_told 9 = .ok (.if_icmp .ge 90, 3) := by decide +kernel
theorem dX3_told_12 : decode cX3_told 12 = .ok (.iload 4, 2) := by decide +kernel
theorem dX3_told_14 : decode cX3_told 14 = .ok (.aload_n 0, 1) := by decide +kernel
theorem dX3_told_15 : decode cX3_told 15 = .ok (.getfield 18, 3) := by decide +kernel
theorem dX3_told_18 : decode cX3_told 18 = .ok (.if_icmp .ge 81, 3) := by decide +kernel
theorem dX3_told_21 : decode cX3_told 21 = .ok (.iconst 0, 1) := by decide +kernel
theorem dX3_told_22 : decode cX3_told 22 = .ok (.istore 5, 2) := by decide +kernel
theorem dX3_told_24 : decode cX3_told 24 = .ok (.iload 5, 2) := by decide +kernel
theorem dX3_told_26 : decode cX3_told 26 = .ok (.iconst 3, 1) := by decide +kernel
theorem dX3_told_27 : decode cX3_told 27 = .ok (.if_icmp .ge 66, 3) := by decide +kernel
theorem dX3_told_30 : decode cX3_told 30 = .ok (.iload 5, 2) := by decide +kernel
theorem dX3_told_32 : decode cX3_told 32 = .ok (.iload_n 2, 1) := by decide +kernel
theorem dX3_told_33 : decode cX3_told 33 = .ok (.if_icmp .ge 60, 3) := by decide +kernel
theorem dX3_told_36 : decode cX3_told 36 = .ok (.aload_n 0, 1) := by decide +kernel
theorem dX3_told_37 : decode cX3_told 37 = .ok (.getfield 15, 3) := by decide +kernel
theorem dX3_told_40 : decode cX3_told 40 = .ok (.iload 4, 2) := by decide +kernel
theorem dX3_told_42 : decode cX3_told 42 = .ok (.iaload, 1) := by decide +kernel
theorem dX3_told_43 : decode cX3_told 43 = .ok (.iload 5, 2) := by decide +kernel
theorem dX3_told_45 : decode cX3_told 45 = .ok (.iushr, 1) := by decide +kernel
theorem dX3_told_46 : decode cX3_told 46 = .ok (.iconst 1, 1) := by decide +kernel
theorem dX3_told_47 : decode cX3_told 47 = .ok (.iand, 1) := by decide +kernel
theorem dX3_told_48 : decode cX3_told 48 = .ok (.iconst 1, 1) := by decide +kernel
theorem dX3_told_49 : decode cX3_told 49 = .ok (.if_icmp .ne 7, 3) := by decide +kernel
theorem dX3_told_52 : decode cX3_told 52 = .ok (.iconst 1, 1) := by decide +kernel
theorem dX3_told_53 : decode cX3_told 53 = .ok (.goto 4, 3) := by decide +kernel
theorem dX3_told_56 : decode cX3_told 56 = .ok (.iconst 0, 1) := by decide +kernel
theorem dX3_told_57 : decode cX3_told 57 = .ok (.istore 6, 2) := by decide +kernel
theorem dX3_told_59 : decode cX3_told 59 = .ok (.iload_n 3, 1) := by decide +kernel
theorem dX3_told_60 : decode cX3_told 60 = .ok (.iload 6, 2) := by decide +kernel
theorem dX3_told_62 : decode cX3_told 62 = .ok (.iload_n 1, 1) := by decide +kernel
theorem dX3_told_63 : decode cX3_told 63 = .ok (.if_icmp .ne 21, 3) := by decide +kernel
theorem dX3_told_66 : decode cX3_told 66 = .ok (.iconst 1, 1) := by decide +kernel
theorem dX3_told_67 : decode cX3_told 67 = .ok (.bipush 10, 2) := by decide +kernel
theorem dX3_told_69 : decode cX3_told 69 = .ok (.iload 5, 2) := by decide +kernel
theorem dX3_told_71 : decode cX3_told 71 = .ok (.imul, 1) := by decide +kernel
theorem dX3_told_72 : decode cX3_told 72 = .ok (.aload_n 0, 1) := by decide +kernel
theorem dX3_told_73 : decode cX3_told 73 = .ok (.getfield 9, 3) := by decide +kernel
theorem dX3_told_76 : decode cX3_told 76 = .ok (.iload 4, 2) := by decide +kernel
theorem dX3_told_78 : decode cX3_told 78 = .ok (.iaload, 1) := by decide +kernel
theorem dX3_told_79 : decode cX3_told 79 = .ok (.iadd, 1) := by decide +kernel
theorem dX3_told_80 : decode cX3_told 80 = .ok (.ishl, 1) := by decide +kernel
theorem dX3_told_81 : decode cX3_told 81 = .ok (.goto 4, 3) := by decide +kernel
theorem dX3_told_84 : decode cX3_told 84 = .ok (.iconst 0, 1) := by decide +kernel
theorem dX3_told_85 : decode cX3_told 85 = .ok (.ior, 1) := by decide +kernel
theorem dX3_told_86 : decode cX3_told 86 = .ok (.istore_n 3, 1) := by decide +kernel
theorem dX3_told_87 : decode cX3_told 87 = .ok (.iinc 5 1, 3) := by decide +kernel
theorem dX3_told_90 : decode cX3_told 90 = .ok (.goto (-66), 3) := by decide +kernel
theorem dX3_told_93 : decode cX3_told 93 = .ok (.iinc 4 1, 3) := by decide +kernel
theorem dX3_told_96 : decode cX3_told 96 = .ok (.goto (-91), 3) := by decide +kernel
theorem dX3_told_99 : decode cX3_told 99 = .ok (.iload_n 3, 1) := by decide +kernel
theorem dX3_told_100 : decode cX3_told 100 = .ok (.ireturn, 1) := by decide +kernel
