theorem dX10_seconds_98 : decode cX10_seconds 98 = .ok (.iload_n 3, 1) := by decide +kernel
theorem dX10_seconds_99 : decode cX10_seconds 99 = .ok (.ifCond .eq 13, 3) := by decide +kernel
theorem dX10_seconds_102 : decode cX10_seconds 102 = .ok (.aload_n 0, 1) := by decide +kernel
theorem dX10_seconds_103 : decode cX10_seconds 103 = .ok (.getfield 13, 3) := by decide +kernel
theorem dX10_seconds_106 : decode cX10_seconds 106 = .ok (.iload 4, 2) := by decide +kernel
theorem dX10_seconds_108 : decode cX10_seconds 108 = .ok (.iaload, 1) := by decide +kernel
theorem dX10_seconds_109 : decode cX10_seconds 109 = .ok (.goto 4, 3) := by decide +kernel
theorem dX10_seconds_112 : decode cX10_seconds 112 = .ok (.iconst 0, 1) := by decide +kernel
theorem dX10_seconds_113 : decode cX10_seconds 113 = .ok (.iadd, 1) := by decide +kernel
theorem dX10_seconds_114 : decode cX10_seconds 114 = .ok (.invokestatic 149, 3) := by decide +kernel
theorem dX10_seconds_117 : decode cX10_seconds 117 = .ok (.ior, 1) := by decide +kernel
theorem dX10_seconds_118 : decode cX10_seconds 118 = .ok (.istore 5, 2) := by decide +kernel
theorem dX10_seconds_120 : decode cX10_seconds 120 = .ok (.iinc 6 1, 3) := by decide +kernel
theorem dX10_seconds_123 : decode cX10_seconds 123 = .ok (.goto (-58), 3) := by decide +kernel
theorem dX10_seconds_126 : decode cX10_seconds 126 = .ok (.iload 5, 2) := by decide +kernel
theorem dX10_seconds_128 : decode cX10_seconds 128 = .ok (.ireturn, 1) := by decide +kernel
theorem dX10_clash_0 : decode cX10_clash 0 = .ok (.aload_n 0, 1) := by decide +kernel
theorem dX10_clash_1 : decode cX10_clash 1 = .ok (.iload_n 1, 1) := by decide +kernel
theorem dX10_clash_2 : decode cX10_clash 2 = .ok (.invokevirtual 141, 3) := by decide +kernel
theorem dX10_clash_5 : decode cX10_clash 5 = .ok (.ifCond .eq 13, 3) := by decide +kernel
theorem dX10_clash_8 : decode cX10_clash 8 = .ok (.aload_n 0, 1) := by decide +kernel
theorem dX10_clash_9 : decode cX10_clash 9 = .ok (.iload_n 3, 1) := by decide +kernel
theorem dX10_clash_10 : decode cX10_clash 10 = .ok (.invokevirtual 141, 3) := by decide +kernel
theorem dX10_clash_13 : decode cX10_clash 13 = .ok (.ifCond .eq 5, 3) := by decide +kernel
theorem dX10_clash_16 : decode cX10_clash 16 = .ok (.iconst 0, 1) := by decide +kernel
theorem dX10_clash_17 : decode cX10_clash 17 = .ok (.ireturn, 1) := by decide +kernel
theorem dX10_clash_18 : decode cX10_clash 18 = .ok (.aload_n 0, 1) := by decide +kernel
theorem dX10_clash_19 : decode cX10_clash 19 = .ok (.iload_n 1, 1) := by decide +kernel
theorem dX10_clash_20 : decode cX10_clash 20 = .ok (.invokevirtual 141, 3) := by decide +kernel
theorem dX10_clash_23 : decode cX10_clash 23 = .ok (.ifCond .ne 57, 3) := by decide +kernel
theorem dX10_clash_26 : decode cX10_clash 26 = .ok (.aload_n 0, 1) := by decide +kernel
theorem dX10_clash_27 : decode cX10_clash 27 = .ok (.iload_n 3, 1) := by decide +kernel
theorem dX10_clash_28 : decode cX10_clash 28 = .ok (.invokevirtual 141, 3) := by decide +kernel
theorem dX10_clash_31 : decode cX10_clash 31 = .ok (.ifCond .ne 49, 3) := by decide +kernel
theorem dX10_clash_34 : decode cX10_clash 34 = .ok (.aload_n 0, 1) := by decide +kernel
theorem dX10_clash_35 : decode cX10_clash 35 = .ok (.getfield 16, 3) := by decide +kernel
theorem dX10_clash_38 : decode cX10_clash 38 = .ok (.bipush 6, 2) := by decide +kernel
theorem dX10_clash_40 : decode cX10_clash 40 = .ok (.iload_n 1, 1) := by decide +kernel
theorem dX10_clash_41 : decode cX10_clash 41 = .ok (.imul, 1) := by decide +kernel
theorem dX10_clash_42 : decode cX10_clash 42 = .ok (.iaload, 1) := by decide +kernel
theorem dX10_clash_43 : decode cX10_clash 43 = .ok (.aload_n 0, 1) := by decide +kernel
theorem dX10_clash_44 : decode cX10_clash 44 = .ok (.getfield 16, 3) := by decide +kernel
theorem dX10_clash_47 : decode cX10_clash 47 = .ok (.bipush 6, 2) := by decide +kernel
theorem dX10_clash_49 : decode cX10_clash 49 = .ok (.iload_n 3, 1) := by decide +kernel
theorem dX10_clash_50 : decode cX10_clash 50 = .ok (.imul, 1) := by decide +kernel
theorem dX10_clash_51 : decode cX10_clash 51 = .ok (.iaload, 1) := by decide +kernel
theorem dX10_clash_52 : decode cX10_clash 52 = .ok (.if_icmp .ne 26, 3) := by decide +kernel
theorem dX10_clash_55 : decode cX10_clash 55 = .ok (.aload_n 0, 1) := by decide +kernel
theorem dX10_clash_56 : decode cX10_clash 56 = .ok (.iload_n 1, 1) := by decide +kernel
theorem dX10_clash_57 : decode cX10_clash 57 = .ok (.iload_n 2, 1) := by decide +kernel
theorem dX10_clash_58 : decode cX10_clash 58 = .ok (.iconst 1, 1) := by decide +kernel
theorem dX10_clash_59 : decode cX10_clash 59 = .ok (.invokevirtual 152, 3) := by decide +kernel
theorem dX10_clash_62 : decode cX10_clash 62 = .ok (.aload_n 0, 1) := by decide +kernel
theorem dX10_clash_63 : decode cX10_clash 63 = .ok (.iload_n 3, 1) := by decide +kernel
theorem dX10_clash_64 : decode cX10_clash 64 = .ok (.iload 4, 2) := by decide +kernel
theorem dX10_clash_66 : decode cX10_clash 66 = .ok (.iconst 1, 1) := by decide +kernel
theorem dX10_clash_67 : decode cX10_clash 67 = .ok (.invokevirtual 152, 3) := by decide +kernel
theorem dX10_clash_70 : decode cX10_clash 70 = .ok (.iand, 1) := by decide +kernel
theorem dX10_clash_71 : decode cX10_clash 71 = .ok (.ifCond .eq 7, 3) := by decide +kernel
theorem dX10_clash_74 : decode cX10_clash 74 = .ok (.iconst 1, 1) := by decide +kernel
theorem dX10_clash_75 : decode cX10_clash 75 = .ok (.goto 4, 3) := by decide +kernel
theorem dX10_clash_78 : decode cX10_clash 78 = .ok (.iconst 0, 1) := by decide +kernel
theorem dX10_clash_79 : decode cX10_clash 79 = .ok (.ireturn, 1) := by decide +kernel
theorem dX10_clash_80 : decode cX10_clash 80 = .ok (.aload_n 0, 1) := by decide +kernel
theorem dX10_clash_81 : decode cX10_clash 81 = .ok (.iload_n 1, 1) := by decide +kernel
theorem dX10_clash_82 : decode cX10_clash 82 = .ok (.iload_n 2, 1) := by decide +kernel
theorem dX10_clash_83 : decode cX10_clash 83 = .ok (.iconst 0, 1) := by decide +kernel
theorem dX10_clash_84 : decode cX10_clash 84 = .ok (.invokevirtual 152, 3) := by decide +kernel
theorem dX10_clash_87 : decode cX10_clash 87 = .ok (.aload_n 0, 1) := by decide +kernel
theorem dX10_clash_88 : decode cX10_clash 88 = .ok (.iload_n 3, 1) := by decide +kernel
theorem dX10_clash_89 : decode cX10_clash 89 = .ok (.iload 4, 2) := by decide +kernel
theorem dX10_clash_91 : decode cX10_clash 91 = .ok (.iconst 0, 1) := by decide +kernel
theorem dX10_clash_92 : decode cX10_clash 92 = .ok (.invokevirtual 152, 3) := by decide +kernel
theorem dX10_clash_95 : decode cX10_clash 95 = .ok (.iand, 1) := by decide +kernel
theorem dX10_clash_96 : decode cX10_clash 96 = .ok (.ifCond .eq 7, 3) := by decide +kernel
theorem dX10_clash_99 : decode cX10_clash 99 = .ok (.iconst 1, 1) := by decide +kernel
theorem dX10_clash_100 : decode cX10_clash 100 = .ok (.goto 4, 3) := by decide +kernel
theorem dX10_clash_103 : decode cX10_clash 103 = .ok (.iconst 0, 1) := by decide +kernel
theorem dX10_clash_104 : decode cX10_clash 104 = .ok (.ireturn, 1) := by decide +kernel
theorem dX10_clashesOf_0 : decode cX10_clashesOf 0 = .ok (.iconst 0, 1) := by decide +kernel
theorem dX10_clashesOf_1 : decode cX10_clashesOf 1 = .ok (.istore_n 3, 1) := by decide +kernel
theorem dX10_clashesOf_2 : decode cX10_clashesOf 2 = .ok (.iconst 0, 1) := by decide +kernel
theorem dX10_clashesOf_3 : decode cX10_clashesOf 3 = .ok (.istore 4, 2) := by decide +kernel
theorem dX10_clashesOf_5 : decode cX10_clashesOf 5 = .ok (.iload 4, 2) := by decide +kernel
theorem dX10_clashesOf_7 : decode cX10_clashesOf 7 = .ok (.aload_n 0, 1) := by decide +kernel
theorem dX10_clashesOf_8 : decode cX10_clashesOf 8 = .ok (.getfield 135, 3) := by decide +kernel
theorem dX10_clashesOf_11 : decode cX10_clashesOf 11 = .ok (.if_icmp .ge 56, 3) := by decide +kernel
theorem dX10_clashesOf_14 : decode cX10_clashesOf 14 = .ok (.iload_n 3, 1) := by decide +kernel
theorem dX10_clashesOf_15 : decode cX10_clashesOf 15 = .ok (.iload 4, 2) := by decide +kernel
theorem dX10_clashesOf_17 : decode cX10_clashesOf 17 = .ok (.iload_n 1, 1) := by decide +kernel
theorem dX10_clashesOf_18 : decode cX10_clashesOf 18 = .ok (.if_icmp .eq 40, 3) := by decide +kernel
theorem dX10_clashesOf_21 : decode cX10_clashesOf 21 = .ok (.aload_n 0, 1) := by decide +kernel
theorem dX10_clashesOf_22 : decode cX10_clashesOf 22 = .ok (.getfield 25, 3) := by decide +kernel
theorem dX10_clashesOf_25 : decode cX10_clashesOf 25 = .ok (.iload 4, 2) := by decide +kernel
theorem dX10_clashesOf_27 : decode cX10_clashesOf 27 = .ok (.iaload, 1) := by decide +kernel
theorem dX10_clashesOf_28 : decode cX10_clashesOf 28 = .ok (.bipush (-9), 2) := by decide +kernel
theorem dX10_clashesOf_30 : decode cX10_clashesOf 30 = .ok (.if_icmp .eq 28, 3) := by decide +kernel
theorem dX10_clashesOf_33 : decode cX10_clashesOf 33 = .ok (.aload_n 0, 1) := by decide +kernel
theorem dX10_clashesOf_34 : decode cX10_clashesOf 34 = .ok (.iload_n 1, 1) := by decide +kernel
theorem dX10_clashesOf_35 : decode cX10_clashesOf 35 = .ok (.iload_n 2, 1) := by decide +kernel
theorem dX10_clashesOf_36 : decode cX10_clashesOf 36 = .ok (.iload 4, 2) := by decide +kernel
theorem dX10_clashesOf_38 : decode cX10_clashesOf 38 = .ok (.aload_n 0, 1) := by decide +kernel
theorem dX10_clashesOf_39 : decode cX10_clashesOf 39 = .ok (.getfield 25, 3) := by decide +kernel
theorem dX10_clashesOf_42 : decode cX10_clashesOf 42 = .ok (.iload 4, 2) := by decide +kernel
theorem dX10_clashesOf_44 : decode cX10_clashesOf 44 = .ok (.iaload, 1) := by decide +kernel
theorem dX10_clashesOf_45 : decode cX10_clashesOf 45 = .ok (.invokevirtual 156, 3) := by decide +kernel
theorem dX10_clashesOf_48 : decode cX10_clashesOf 48 = .ok (.ifCond .eq 10, 3) := by decide +kernel
theorem dX10_clashesOf_51 : decode cX10_clashesOf 51 = .ok (.iconst 1, 1) := by decide +kernel
theorem dX10_clashesOf_52 : decode cX10_clashesOf 52 = .ok (.iload 4, 2) := by decide +kernel
theorem dX10_clashesOf_54 : decode cX10_clashesOf 54 = .ok (.ishl, 1) := by decide +kernel
theorem dX10_clashesOf_55 : decode cX10_clashesOf 55 = .ok (.goto 4, 3) := by decide +kernel
theorem dX10_clashesOf_58 : decode cX10_clashesOf 58 = .ok (.iconst 0, 1) := by decide +kernel
theorem dX10_clashesOf_59 : decode cX10_clashesOf 59 = .ok (.ior, 1) := by decide +kernel
theorem dX10_clashesOf_60 : decode cX10_clashesOf 60 = .ok (.istore_n 3, 1) := by decide +kernel
theorem dX10_clashesOf_61 : decode cX10_clashesOf 61 = .ok (.iinc 4 1, 3) := by decide +kernel
theorem dX10_clashesOf_64 : decode cX10_clashesOf 64 = .ok (.goto (-59), 3) := by decide +kernel
theorem dX10_clashesOf_67 : decode cX10_clashesOf 67 = .ok (.iload_n 3, 1) := by decide +kernel
theorem dX10_clashesOf_68 : decode cX10_clashesOf 68 = .ok (.ireturn, 1) := by decide +kernel
theorem dX10_coinsOf_0 : decode cX10_coinsOf 0 = .ok (.iconst 0, 1) := by decide +kernel
theorem dX10_coinsOf_1 : decode cX10_coinsOf 1 = .ok (.istore_n 2, 1) := by decide +kernel
theorem dX10_coinsOf_2 : decode cX10_coinsOf 2 = .ok (.iconst 0, 1) := by decide +kernel
theorem dX10_coinsOf_3 : decode cX10_coinsOf 3 = .ok (.istore_n 3, 1) := by decide +kernel
theorem dX10_coinsOf_4 : decode cX10_coinsOf 4 = .ok (.iload_n 3, 1) := by decide +kernel
theorem dX10_coinsOf_5 : decode cX10_coinsOf 5 = .ok (.aload_n 0, 1) := by decide +kernel
theorem dX10_coinsOf_6 : decode cX10_coinsOf 6 = .ok (.getfield 135, 3) := by decide +kernel
theorem dX10_coinsOf_9 : decode cX10_coinsOf 9 = .ok (.if_icmp .ge 35, 3) := by decide +kernel
theorem dX10_coinsOf_12 : decode cX10_coinsOf 12 = .ok (.iload_n 2, 1) := by decide +kernel
theorem dX10_coinsOf_13 : decode cX10_coinsOf 13 = .ok (.iload_n 1, 1) := by decide +kernel
theorem dX10_coinsOf_14 : decode cX10_coinsOf 14 = .ok (.iload_n 3, 1) := by decide +kernel
theorem dX10_coinsOf_15 : decode cX10_coinsOf 15 = .ok (.invokestatic 160, 3) := by decide +kernel
theorem dX10_coinsOf_18 : decode cX10_coinsOf 18 = .ok (.ifCond .eq 17, 3) := by decide +kernel
theorem dX10_coinsOf_21 : decode cX10_coinsOf 21 = .ok (.aload_n 0, 1) := by decide +kernel
theorem dX10_coinsOf_22 : decode cX10_coinsOf 22 = .ok (.getfield 16, 3) := by decide +kernel
theorem dX10_coinsOf_25 : decode cX10_coinsOf 25 = .ok (.bipush 6, 2) := by decide +kernel
theorem dX10_coinsOf_27 : decode cX10_coinsOf 27 = .ok (.iload_n 3, 1) := by decide +kernel
theorem dX10_coinsOf_28 : decode cX10_coinsOf 28 = .ok (.imul, 1) := by decide +kernel
theorem dX10_coinsOf_29 : decode cX10_coinsOf 29 = .ok (.iconst 5, 1) := by decide +kernel
theorem dX10_coinsOf_30 : decode cX10_coinsOf 30 = .ok (.iadd, 1) := by decide +kernel
theorem dX10_coinsOf_31 : decode cX10_coinsOf 31 = .ok (.iaload, 1) := by decide +kernel
theorem dX10_coinsOf_32 : decode cX10_coinsOf 32 = .ok (.goto 4, 3) := by decide +kernel
theorem dX10_coinsOf_35 : decode cX10_coinsOf 35 = .ok (.iconst 0, 1) := by decide +kernel
theorem dX10_coinsOf_36 : decode cX10_coinsOf 36 = .ok (.iadd, 1) := by decide +kernel
theorem dX10_coinsOf_37 : decode cX10_coinsOf 37 = .ok (.istore_n 2, 1) := by decide +kernel
theorem dX10_coinsOf_38 : decode cX10_coinsOf 38 = .ok (.iinc 3 1, 3) := by decide +kernel
theorem dX10_coinsOf_41 : decode cX10_coinsOf 41 = .ok (.goto (-37), 3) := by decide +kernel
theorem dX10_coinsOf_44 : decode cX10_coinsOf 44 = .ok (.iload_n 2, 1) := by decide +kernel
theorem dX10_coinsOf_45 : decode cX10_coinsOf 45 = .ok (.ireturn, 1) := by decide +kernel
theorem dX10_letNow_0 : decode cX10_letNow 0 = .ok (.iconst 0, 1) := by decide +kernel
theorem dX10_letNow_1 : decode cX10_letNow 1 = .ok (.istore_n 1, 1) := by decide +kernel
theorem dX10_letNow_2 : decode cX10_letNow 2 = .ok (.iconst 0, 1) := by decide +kernel
theorem dX10_letNow_3 : decode cX10_letNow 3 = .ok (.istore_n 2, 1) := by decide +kernel
theorem dX10_letNow_4 : decode cX10_letNow 4 = .ok (.iload_n 2, 1) := by decide +kernel
theorem dX10_letNow_5 : decode cX10_letNow 5 = .ok (.aload_n 0, 1) := by decide +kernel
theorem dX10_letNow_6 : decode cX10_letNow 6 = .ok (.getfield 135, 3) := by decide +kernel
theorem dX10_letNow_9 : decode cX10_letNow 9 = .ok (.if_icmp .ge 30, 3) := by decide +kernel
theorem dX10_letNow_12 : decode cX10_letNow 12 = .ok (.iload_n 1, 1) := by decide +kernel
theorem dX10_letNow_13 : decode cX10_letNow 13 = .ok (.aload_n 0, 1) := by decide +kernel
theorem dX10_letNow_14 : decode cX10_letNow 14 = .ok (.getfield 25, 3) := by decide +kernel
theorem dX10_letNow_17 : decode cX10_letNow 17 = .ok (.iload_n 2, 1) := by decide +kernel
theorem dX10_letNow_18 : decode cX10_letNow 18 = .ok (.iaload, 1) := by decide +kernel
theorem dX10_letNow_19 : decode cX10_letNow 19 = .ok (.bipush (-9), 2) := by decide +kernel
theorem dX10_letNow_21 : decode cX10_letNow 21 = .ok (.if_icmp .eq 9, 3) := by decide +kernel
theorem dX10_letNow_24 : decode cX10_letNow 24 = .ok (.iconst 1, 1) := by decide +kernel
theorem dX10_letNow_25 : decode cX10_letNow 25 = .ok (.iload_n 2, 1) := by decide +kernel
theorem dX10_letNow_26 : decode cX10_letNow 26 = .ok (.ishl, 1) := by decide +kernel
theorem dX10_letNow_27 : decode cX10_letNow 27 = .ok (.goto 4, 3) := by decide +kernel
theorem dX10_letNow_30 : decode cX10_letNow 30 = .ok (.iconst 0, 1) := by decide +kernel
theorem dX10_letNow_31 : decode cX10_letNow 31 = .ok (.ior, 1) := by decide +kernel
theorem dX10_letNow_32 : decode cX10_letNow 32 = .ok (.istore_n 1, 1) := by decide +kernel
theorem dX10_letNow_33 : decode cX10_letNow 33 = .ok (.iinc 2 1, 3) := by decide +kernel
theorem dX10_letNow_36 : decode cX10_letNow 36 = .ok (.goto (-32), 3) := by decide +kernel
theorem dX10_letNow_39 : decode cX10_letNow 39 = .ok (.iload_n 1, 1) := by decide +kernel
theorem dX10_letNow_40 : decode cX10_letNow 40 = .ok (.ireturn, 1) := by decide +kernel
theorem dX10_ringing_0 : decode cX10_ringing 0 = .ok (.iconst 0, 1) := by decide +kernel
theorem dX10_ringing_1 : decode cX10_ringing 1 = .ok (.istore_n 2, 1) := by decide +kernel
theorem dX10_ringing_2 : decode cX10_ringing 2 = .ok (.iconst 0, 1) := by decide +kernel
theorem dX10_ringing_3 : decode cX10_ringing 3 = .ok (.istore_n 3, 1) := by decide +kernel
theorem dX10_ringing_4 : decode cX10_ringing 4 = .ok (.iload_n 3, 1) := by decide +kernel
theorem dX10_ringing_5 : decode cX10_ringing 5 = .ok (.aload_n 0, 1) := by decide +kernel
theorem dX10_ringing_6 : decode cX10_ringing 6 = .ok (.getfield 135, 3) := by decide +kernel
theorem dX10_ringing_9 : decode cX10_ringing 9 = .ok (.if_icmp .ge 76, 3) := by decide +kernel
theorem dX10_ringing_12 : decode cX10_ringing 12 = .ok (.aload_n 0, 1) := by decide +kernel
theorem dX10_ringing_13 : decode cX10_ringing 13 = .ok (.getfield 25, 3) := by decide +kernel
theorem dX10_ringing_16 : decode cX10_ringing 16 = .ok (.iload_n 3, 1) := by decide +kernel
theorem dX10_ringing_17 : decode cX10_ringing 17 = .ok (.iaload, 1) := by decide +kernel
theorem dX10_ringing_18 : decode cX10_ringing 18 = .ok (.ifCond .lt 34, 3) := by decide +kernel
theorem dX10_ringing_21 : decode cX10_ringing 21 = .ok (.aload_n 0, 1) := by decide +kernel
theorem dX10_ringing_22 : decode cX10_ringing 22 = .ok (.iload_n 3, 1) := by decide +kernel
theorem dX10_ringing_23 : decode cX10_ringing 23 = .ok (.invokevirtual 141, 3) := by decide +kernel
theorem dX10_ringing_26 : decode cX10_ringing 26 = .ok (.ifCond .ne 26, 3) := by decide +kernel
theorem dX10_ringing_29 : decode cX10_ringing 29 = .ok (.iload_n 1, 1) := by decide +kernel
theorem dX10_ringing_30 : decode cX10_ringing 30 = .ok (.bipush (-9), 2) := by decide +kernel
theorem dX10_ringing_32 : decode cX10_ringing 32 = .ok (.if_icmp .eq 16, 3) := by decide +kernel
theorem dX10_ringing_35 : decode cX10_ringing 35 = .ok (.aload_n 0, 1) := by decide +kernel
theorem dX10_ringing_36 : decode cX10_ringing 36 = .ok (.getfield 16, 3) := by decide +kernel
theorem dX10_ringing_39 : decode cX10_ringing 39 = .ok (.bipush 6, 2) := by decide +kernel
theorem dX10_ringing_41 : decode cX10_ringing 41 = .ok (.iload_n 3, 1) := by decide +kernel
theorem dX10_ringing_42 : decode cX10_ringing 42 = .ok (.imul, 1) := by decide +kernel
theorem dX10_ringing_43 : decode cX10_ringing 43 = .ok (.iaload, 1) := by decide +kernel
theorem dX10_ringing_44 : decode cX10_ringing 44 = .ok (.iload_n 1, 1) := by decide +kernel
theorem dX10_ringing_45 : decode cX10_ringing 45 = .ok (.if_icmp .ne 7, 3) := by decide +kernel
theorem dX10_ringing_48 : decode cX10_ringing 48 = .ok (.iconst 1, 1) := by decide +kernel
theorem dX10_ringing_49 : decode cX10_ringing 49 = .ok (.goto 4, 3) := by decide +kernel
theorem dX10_ringing_52 : decode cX10_ringing 52 = .ok (.iconst 0, 1) := by decide +kernel
theorem dX10_ringing_53 : decode cX10_ringing 53 = .ok (.istore 4, 2) := by decide +kernel
theorem dX10_ringing_55 : decode cX10_ringing 55 = .ok (.iload_n 2, 1) := by decide +kernel
theorem dX10_ringing_56 : decode cX10_ringing 56 = .ok (.iload 4, 2) := by decide +kernel
theorem dX10_ringing_58 : decode cX10_ringing 58 = .ok (.ifCond .eq 18, 3) := by decide +kernel
theorem dX10_ringing_61 : decode cX10_ringing 61 = .ok (.aload_n 0, 1) := by decide +kernel
theorem dX10_ringing_62 : decode cX10_ringing 62 = .ok (.iload_n 3, 1) := by decide +kernel
theorem dX10_ringing_63 : decode cX10_ringing 63 = .ok (.aload_n 0, 1) := by decide +kernel
theorem dX10_ringing_64 : decode cX10_ringing 64 = .ok (.getfield 25, 3) := by decide +kernel
theorem dX10_ringing_67 : decode cX10_ringing 67 = .ok (.iload_n 3, 1) := by decide +kernel
theorem dX10_ringing_68 : decode cX10_ringing 68 = .ok (.iaload, 1) := by decide +kernel
theorem dX10_ringing_69 : decode cX10_ringing 69 = .ok (.iconst 0, 1) := by decide +kernel
theorem dX10_ringing_70 : decode cX10_ringing 70 = .ok (.invokevirtual 152, 3) := by decide +kernel
theorem dX10_ringing_73 : decode cX10_ringing 73 = .ok (.goto 4, 3) := by decide +kernel
theorem dX10_ringing_76 : decode cX10_ringing 76 = .ok (.iconst 0, 1) := by decide +kernel
theorem dX10_ringing_77 : decode cX10_ringing 77 = .ok (.ior, 1) := by decide +kernel
theorem dX10_ringing_78 : decode cX10_ringing 78 = .ok (.istore_n 2, 1) := by decide +kernel
theorem dX10_ringing_79 : decode cX10_ringing 79 = .ok (.iinc 3 1, 3) := by decide +kernel
theorem dX10_ringing_82 : decode cX10_ringing 82 = .ok (.goto (-78), 3) := by decide +kernel
theorem dX10_ringing_85 : decode cX10_ringing 85 = .ok (.iload_n 2, 1) := by decide +kernel
theorem dX10_ringing_86 : decode cX10_ringing 86 = .ok (.ireturn, 1) := by decide +kernel
theorem dX10_bell_0 : decode cX10_bell 0 = .ok (.aload_n 0, 1) := by decide +kernel
theorem dX10_bell_1 : decode cX10_bell 1 = .ok (.iload_n 1, 1) := by decide +kernel
theorem dX10_bell_2 : decode cX10_bell 2 = .ok (.invokevirtual 164, 3) := by decide +kernel
theorem dX10_bell_5 : decode cX10_bell 5 = .ok (.ifCond .ne 5, 3) := by decide +kernel
theorem dX10_bell_8 : decode cX10_bell 8 = .ok (.iconst (-1), 1) := by decide +kernel
theorem dX10_bell_9 : decode cX10_bell 9 = .ok (.ireturn, 1) := by decide +kernel
theorem dX10_bell_10 : decode cX10_bell 10 = .ok (.iload_n 2, 1) := by decide +kernel
theorem dX10_bell_11 : decode cX10_bell 11 = .ok (.tableswitch 45 0 2 #[25, 32, 39], 25) := by decide +kernel
theorem dX10_bell_36 : decode cX10_bell 36 = .ok (.aload_n 0, 1) := by decide +kernel
theorem dX10_bell_37 : decode cX10_bell 37 = .ok (.getfield 7, 3) := by decide +kernel
theorem dX10_bell_40 : decode cX10_bell 40 = .ok (.iload_n 1, 1) := by decide +kernel
theorem dX10_bell_41 : decode cX10_bell 41 = .ok (.iaload, 1) := by decide +kernel
theorem dX10_bell_42 : decode cX10_bell 42 = .ok (.ireturn, 1) := by decide +kernel
theorem dX10_bell_43 : decode cX10_bell 43 = .ok (.aload_n 0, 1) := by decide +kernel
theorem dX10_bell_44 : decode cX10_bell 44 = .ok (.getfield 13, 3) := by decide +kernel
theorem dX10_bell_47 : decode cX10_bell 47 = .ok (.iload_n 1, 1) := by decide +kernel
theorem dX10_bell_48 : decode cX10_bell 48 = .ok (.iaload, 1) := by decide +kernel
theorem dX10_bell_49 : decode cX10_bell 49 = .ok (.ireturn, 1) := by decide +kernel
theorem dX10_bell_50 : decode cX10_bell 50 = .ok (.aload_n 0, 1) := by decide +kernel
theorem dX10_bell_51 : decode cX10_bell 51 = .ok (.iload_n 1, 1) := by decide +kernel
theorem dX10_bell_52 : decode cX10_bell 52 = .ok (.invokevirtual 167, 3) := by decide +kernel
theorem dX10_bell_55 : decode cX10_bell 55 = .ok (.ireturn, 1) := by decide +kernel
theorem dX10_bell_56 : decode cX10_bell 56 = .ok (.bipush (-2), 2) := by decide +kernel
theorem dX10_bell_58 : decode cX10_bell 58 = .ok (.ireturn, 1) := by decide +kernel
theorem dX10_begins_0 : decode cX10_begins 0 = .ok (.iconst 0, 1) := by decide +kernel
theorem dX10_begins_1 : decode cX10_begins 1 = .ok (.istore_n 2, 1) := by decide +kernel
theorem dX10_begins_2 : decode cX10_begins 2 = .ok (.iconst 0, 1) := by decide +kernel
theorem dX10_begins_3 : decode cX10_begins 3 = .ok (.istore_n 3, 1) := by decide +kernel
theorem dX10_begins_4 : decode cX10_begins 4 = .ok (.iload_n 3, 1) := by decide +kernel
theorem dX10_begins_5 : decode cX10_begins 5 = .ok (.bipush 10, 2) := by decide +kernel
theorem dX10_begins_7 : decode cX10_begins 7 = .ok (.if_icmp .ge 28, 3) := by decide +kernel
theorem dX10_begins_10 : decode cX10_begins 10 = .ok (.iload_n 2, 1) := by decide +kernel
theorem dX10_begins_11 : decode cX10_begins 11 = .ok (.aload_n 0, 1) := by decide +kernel
theorem dX10_begins_12 : decode cX10_begins 12 = .ok (.iload_n 1, 1) := by decide +kernel
theorem dX10_begins_13 : decode cX10_begins 13 = .ok (.iload_n 3, 1) := by decide +kernel
theorem dX10_begins_14 : decode cX10_begins 14 = .ok (.invokevirtual 171, 3) := by decide +kernel
theorem dX10_begins_17 : decode cX10_begins 17 = .ok (.ifCond .eq 9, 3) := by decide +kernel
theorem dX10_begins_20 : decode cX10_begins 20 = .ok (.iconst 1, 1) := by decide +kernel
theorem dX10_begins_21 : decode cX10_begins 21 = .ok (.iload_n 3, 1) := by decide +kernel
theorem dX10_begins_22 : decode cX10_begins 22 = .ok (.ishl, 1) := by decide +kernel
theorem dX10_begins_23 : decode cX10_begins 23 = .ok (.goto 4, 3) := by decide +kernel
theorem dX10_begins_26 : decode cX10_begins 26 = .ok (.iconst 0, 1) := by decide +kernel
theorem dX10_begins_27 : decode cX10_begins 27 = .ok (.ior, 1) := by decide +kernel
theorem dX10_begins_28 : decode cX10_begins 28 = .ok (.istore_n 2, 1) := by decide +kernel
theorem dX10_begins_29 : decode cX10_begins 29 = .ok (.iinc 3 1, 3) := by decide +kernel
theorem dX10_begins_32 : decode cX10_begins 32 = .ok (.goto (-28), 3) := by decide +kernel
theorem dX10_begins_35 : decode cX10_begins 35 = .ok (.iload_n 2, 1) := by decide +kernel
theorem dX10_begins_36 : decode cX10_begins 36 = .ok (.ireturn, 1) := by decide +kernel
theorem dX10_bidder_0 : decode cX10_bidder 0 = .ok (.aload_n 0, 1) := by decide +kernel
theorem dX10_bidder_1 : decode cX10_bidder 1 = .ok (.iload_n 1, 1) := by decide +kernel
theorem dX10_bidder_2 : decode cX10_bidder 2 = .ok (.invokevirtual 174, 3) := by decide +kernel
theorem dX10_bidder_5 : decode cX10_bidder 5 = .ok (.ifCond .ne 5, 3) := by decide +kernel
theorem dX10_bidder_8 : decode cX10_bidder 8 = .ok (.iconst (-1), 1) := by decide +kernel
theorem dX10_bidder_9 : decode cX10_bidder 9 = .ok (.ireturn, 1) := by decide +kernel
theorem dX10_bidder_10 : decode cX10_bidder 10 = .ok (.iload_n 2, 1) := by decide +kernel
theorem dX10_bidder_11 : decode cX10_bidder 11 = .ok (.i2l, 1) := by decide +kernel
theorem dX10_bidder_12 : decode cX10_bidder 12 = .ok (.lconst 0, 1) := by decide +kernel
theorem dX10_bidder_13 : decode cX10_bidder 13 = .ok (.ldc2_w 177, 3) := by decide +kernel
theorem dX10_bidder_16 : decode cX10_bidder 16 = .ok (.invokestatic 97, 3) := by decide +kernel
theorem dX10_bidder_19 : decode cX10_bidder 19 = .ok (.ifCond .eq 15, 3) := by decide +kernel
theorem dX10_bidder_22 : decode cX10_bidder 22 = .ok (.aload_n 0, 1) := by decide +kernel
theorem dX10_bidder_23 : decode cX10_bidder 23 = .ok (.getfield 16, 3) := by decide +kernel
theorem dX10_bidder_26 : decode cX10_bidder 26 = .ok (.bipush 6, 2) := by decide +kernel
theorem dX10_bidder_28 : decode cX10_bidder 28 = .ok (.iload_n 1, 1) := by decide +kernel
theorem dX10_bidder_29 : decode cX10_bidder 29 = .ok (.imul, 1) := by decide +kernel
theorem dX10_bidder_30 : decode cX10_bidder 30 = .ok (.iload_n 2, 1) := by decide +kernel
theorem dX10_bidder_31 : decode cX10_bidder 31 = .ok (.iadd, 1) := by decide +kernel
theorem dX10_bidder_32 : decode cX10_bidder 32 = .ok (.iaload, 1) := by decide +kernel
theorem dX10_bidder_33 : decode cX10_bidder 33 = .ok (.ireturn, 1) := by decide +kernel
theorem dX10_bidder_34 : decode cX10_bidder 34 = .ok (.iload_n 2, 1) := by decide +kernel
theorem dX10_bidder_35 : decode cX10_bidder 35 = .ok (.bipush 6, 2) := by decide +kernel
theorem dX10_bidder_37 : decode cX10_bidder 37 = .ok (.if_icmp .ne 12, 3) := by decide +kernel
theorem dX10_bidder_40 : decode cX10_bidder 40 = .ok (.aload_n 0, 1) := by decide +kernel
theorem dX10_bidder_41 : decode cX10_bidder 41 = .ok (.getfield 25, 3) := by decide +kernel
theorem dX10_bidder_44 : decode cX10_bidder 44 = .ok (.iload_n 1, 1) := by decide +kernel
theorem dX10_bidder_45 : decode cX10_bidder 45 = .ok (.iaload, 1) := by decide +kernel
theorem dX10_bidder_46 : decode cX10_bidder 46 = .ok (.goto 19, 3) := by decide +kernel
theorem dX10_bidder_49 : decode cX10_bidder 49 = .ok (.iload_n 2, 1) := by decide +kernel
theorem dX10_bidder_50 : decode cX10_bidder 50 = .ok (.bipush 7, 2) := by decide +kernel
theorem dX10_bidder_52 : decode cX10_bidder 52 = .ok (.if_icmp .ne 11, 3) := by decide +kernel
theorem dX10_bidder_55 : decode cX10_bidder 55 = .ok (.aload_n 0, 1) := by decide +kernel
theorem dX10_bidder_56 : decode cX10_bidder 56 = .ok (.iload_n 1, 1) := by decide +kernel
theorem dX10_bidder_57 : decode cX10_bidder 57 = .ok (.invokevirtual 179, 3) := by decide +kernel
theorem dX10_bidder_60 : decode cX10_bidder 60 = .ok (.goto 5, 3) := by decide +kernel
theorem dX10_bidder_63 : decode cX10_bidder 63 = .ok (.bipush (-2), 2) := by decide +kernel
theorem dX10_bidder_65 : decode cX10_bidder 65 = .ok (.ireturn, 1) := by decide +kernel
theorem dX10_rings_0 : decode cX10_rings 0 = .ok (.iload_n 1, 1) := by decide +kernel
theorem dX10_rings_1 : decode cX10_rings 1 = .ok (.i2l, 1) := by decide +kernel
theorem dX10_rings_2 : decode cX10_rings 2 = .ok (.lconst 0, 1) := by decide +kernel
theorem dX10_rings_3 : decode cX10_rings 3 = .ok (.ldc2_w 182, 3) := by decide +kernel
theorem dX10_rings_6 : decode cX10_rings 6 = .ok (.invokestatic 97, 3) := by decide +kernel
theorem dX10_rings_9 : decode cX10_rings 9 = .ok (.ifCond .ne 6, 3) := by decide +kernel
theorem dX10_rings_12 : decode cX10_rings 12 = .ok (.bipush (-2), 2) := by decide +kernel
theorem dX10_rings_14 : decode cX10_rings 14 = .ok (.ireturn, 1) := by decide +kernel
theorem dX10_rings_15 : decode cX10_rings 15 = .ok (.iconst 0, 1) := by decide +kernel
theorem dX10_rings_16 : decode cX10_rings 16 = .ok (.istore_n 2, 1) := by decide +kernel
theorem dX10_rings_17 : decode cX10_rings 17 = .ok (.iconst 0, 1) := by decide +kernel
theorem dX10_rings_18 : decode cX10_rings 18 = .ok (.istore_n 3, 1) := by decide +kernel
theorem dX10_rings_19 : decode cX10_rings 19 = .ok (.iload_n 3, 1) := by decide +kernel
theorem dX10_rings_20 : decode cX10_rings 20 = .ok (.aload_n 0, 1) := by decide +kernel
theorem dX10_rings_21 : decode cX10_rings 21 = .ok (.getfield 132, 3) := by decide +kernel
theorem dX10_rings_24 : decode cX10_rings 24 = .ok (.if_icmp .ge 31, 3) := by decide +kernel
theorem dX10_rings_27 : decode cX10_rings 27 = .ok (.iload_n 2, 1) := by decide +kernel
theorem dX10_rings_28 : decode cX10_rings 28 = .ok (.aload_n 0, 1) := by decide +kernel
theorem dX10_rings_29 : decode cX10_rings 29 = .ok (.iload_n 3, 1) := by decide +kernel
theorem dX10_rings_30 : decode cX10_rings 30 = .ok (.invokevirtual 167, 3) := by decide +kernel
theorem dX10_rings_33 : decode cX10_rings 33 = .ok (.iload_n 1, 1) := by decide +kernel
theorem dX10_rings_34 : decode cX10_rings 34 = .ok (.invokestatic 160, 3) := by decide +kernel
theorem dX10_rings_37 : decode cX10_rings 37 = .ok (.ifCond .eq 9, 3) := by decide +kernel
theorem dX10_rings_40 : decode cX10_rings 40 = .ok (.iconst 1, 1) := by decide +kernel
theorem dX10_rings_41 : decode cX10_rings 41 = .ok (.iload_n 3, 1) := by decide +kernel
theorem dX10_rings_42 : decode cX10_rings 42 = .ok (.ishl, 1) := by decide +kernel
theorem dX10_rings_43 : decode cX10_rings 43 = .ok (.goto 4, 3) := by decide +kernel
theorem dX10_rings_46 : decode cX10_rings 46 = .ok (.iconst 0, 1) := by decide +kernel
theorem dX10_rings_47 : decode cX10_rings 47 = .ok (.ior, 1) := by decide +kernel
theorem dX10_rings_48 : decode cX10_rings 48 = .ok (.istore_n 2, 1) := by decide +kernel
theorem dX10_rings_49 : decode cX10_rings 49 = .ok (.iinc 3 1, 3) := by decide +kernel
theorem dX10_rings_52 : decode cX10_rings 52 = .ok (.goto (-33), 3) := by decide +kernel
theorem dX10_rings_55 : decode cX10_rings 55 = .ok (.iload_n 2, 1) := by decide +kernel
theorem dX10_rings_56 : decode cX10_rings 56 = .ok (.ireturn, 1) := by decide +kernel
theorem dX10_clashes_0 : decode cX10_clashes 0 = .ok (.aload_n 0, 1) := by decide +kernel
theorem dX10_clashes_1 : decode cX10_clashes 1 = .ok (.iload_n 1, 1) := by decide +kernel
theorem dX10_clashes_2 : decode cX10_clashes 2 = .ok (.invokevirtual 174, 3) := by decide +kernel
theorem dX10_clashes_5 : decode cX10_clashes 5 = .ok (.ifCond .ne 5, 3) := by decide +kernel
theorem dX10_clashes_8 : decode cX10_clashes 8 = .ok (.iconst (-1), 1) := by decide +kernel
theorem dX10_clashes_9 : decode cX10_clashes 9 = .ok (.ireturn, 1) := by decide +kernel
theorem dX10_clashes_10 : decode cX10_clashes 10 = .ok (.iload_n 2, 1) := by decide +kernel
theorem dX10_clashes_11 : decode cX10_clashes 11 = .ok (.i2l, 1) := by decide +kernel
theorem dX10_clashes_12 : decode cX10_clashes 12 = .ok (.lconst 0, 1) := by decide +kernel
theorem dX10_clashes_13 : decode cX10_clashes 13 = .ok (.ldc2_w 182, 3) := by decide +kernel
theorem dX10_clashes_16 : decode cX10_clashes 16 = .ok (.invokestatic 97, 3) := by decide +kernel
theorem dX10_clashes_19 : decode cX10_clashes 19 = .ok (.ifCond .ne 6, 3) := by decide +kernel
theorem dX10_clashes_22 : decode cX10_clashes 22 = .ok (.bipush (-2), 2) := by decide +kernel
theorem dX10_clashes_24 : decode cX10_clashes 24 = .ok (.ireturn, 1) := by decide +kernel
theorem dX10_clashes_25 : decode cX10_clashes 25 = .ok (.aload_n 0, 1) := by decide +kernel
theorem dX10_clashes_26 : decode cX10_clashes 26 = .ok (.iload_n 1, 1) := by decide +kernel
theorem dX10_clashes_27 : decode cX10_clashes 27 = .ok (.iload_n 2, 1) := by decide +kernel
theorem dX10_clashes_28 : decode cX10_clashes 28 = .ok (.invokevirtual 171, 3) := by decide +kernel
theorem dX10_clashes_31 : decode cX10_clashes 31 = .ok (.ifCond .eq 12, 3) := by decide +kernel
theorem dX10_clashes_34 : decode cX10_clashes 34 = .ok (.aload_n 0, 1) := by decide +kernel
theorem dX10_clashes_35 : decode cX10_clashes 35 = .ok (.iload_n 1, 1) := by decide +kernel
theorem dX10_clashes_36 : decode cX10_clashes 36 = .ok (.iload_n 2, 1) := by decide +kernel
theorem dX10_clashes_37 : decode cX10_clashes 37 = .ok (.invokevirtual 184, 3) := by decide +kernel
theorem dX10_clashes_40 : decode cX10_clashes 40 = .ok (.goto 5, 3) := by decide +kernel
theorem dX10_clashes_43 : decode cX10_clashes 43 = .ok (.bipush (-3), 2) := by decide +kernel
theorem dX10_clashes_45 : decode cX10_clashes 45 = .ok (.ireturn, 1) := by decide +kernel
theorem dX10_keepAct_0 : decode cX10_keepAct 0 = .ok (.iconst 0, 1) := by decide +kernel
theorem dX10_keepAct_1 : decode cX10_keepAct 1 = .ok (.istore_n 1, 1) := by decide +kernel
theorem dX10_keepAct_2 : decode cX10_keepAct 2 = .ok (.iload_n 1, 1) := by decide +kernel
theorem dX10_keepAct_3 : decode cX10_keepAct 3 = .ok (.iconst 5, 1) := by decide +kernel
theorem dX10_keepAct_4 : decode cX10_keepAct 4 = .ok (.if_icmp .ge 28, 3) := by decide +kernel
theorem dX10_keepAct_7 : decode cX10_keepAct 7 = .ok (.aload_n 0, 1) := by decide +kernel
theorem dX10_keepAct_8 : decode cX10_keepAct 8 = .ok (.getfield 31, 3) := by decide +kernel
theorem dX10_keepAct_11 : decode cX10_keepAct 11 = .ok (.iconst 5, 1) := by decide +kernel
theorem dX10_keepAct_12 : decode cX10_keepAct 12 = .ok (.aload_n 0, 1) := by decide +kernel
theorem dX10_keepAct_13 : decode cX10_keepAct 13 = .ok (.getfield 187, 3) := by decide +kernel
theorem dX10_keepAct_16 : decode cX10_keepAct 16 = .ok (.imul, 1) := by decide +kernel
theorem dX10_keepAct_17 : decode cX10_keepAct 17 = .ok (.iload_n 1, 1) := by decide +kernel
theorem dX10_keepAct_18 : decode cX10_keepAct 18 = .ok (.iadd, 1) := by decide +kernel
theorem dX10_keepAct_19 : decode cX10_keepAct 19 = .ok (.aload_n 0, 1) := by decide +kernel
theorem dX10_keepAct_20 : decode cX10_keepAct 20 = .ok (.getfield 25, 3) := by decide +kernel
theorem dX10_keepAct_23 : decode cX10_keepAct 23 = .ok (.iload_n 1, 1) := by decide +kernel
theorem dX10_keepAct_24 : decode cX10_keepAct 24 = .ok (.iaload, 1) := by decide +kernel
theorem dX10_keepAct_25 : decode cX10_keepAct 25 = .ok (.iastore, 1) := by decide +kernel
theorem dX10_keepAct_26 : decode cX10_keepAct 26 = .ok (.iinc 1 1, 3) := by decide +kernel
theorem dX10_keepAct_29 : decode cX10_keepAct 29 = .ok (.goto (-27), 3) := by decide +kernel
theorem dX10_keepAct_32 : decode cX10_keepAct 32 = .ok (.aload_n 0, 1) := by decide +kernel
theorem dX10_keepAct_33 : decode cX10_keepAct 33 = .ok (.aload_n 0, 1) := by decide +kernel
theorem dX10_keepAct_34 : decode cX10_keepAct 34 = .ok (.getfield 187, 3) := by decide +kernel
theorem dX10_keepAct_37 : decode cX10_keepAct 37 = .ok (.iconst 1, 1) := by decide +kernel
theorem dX10_keepAct_38 : decode cX10_keepAct 38 = .ok (.iadd, 1) := by decide +kernel
theorem dX10_keepAct_39 : decode cX10_keepAct 39 = .ok (.bipush 16, 2) := by decide +kernel
theorem dX10_keepAct_41 : decode cX10_keepAct 41 = .ok (.irem, 1) := by decide +kernel
theorem dX10_keepAct_42 : decode cX10_keepAct 42 = .ok (.putfield 187, 3) := by decide +kernel
theorem dX10_keepAct_45 : decode cX10_keepAct 45 = .ok (.aload_n 0, 1) := by decide +kernel
theorem dX10_keepAct_46 : decode cX10_keepAct 46 = .ok (.aload_n 0, 1) := by decide +kernel
theorem dX10_keepAct_47 : decode cX10_keepAct 47 = .ok (.getfield 138, 3) := by decide +kernel
theorem dX10_keepAct_50 : decode cX10_keepAct 50 = .ok (.bipush 16, 2) := by decide +kernel
theorem dX10_keepAct_52 : decode cX10_keepAct 52 = .ok (.if_icmp .ge 12, 3) := by decide +kernel
theorem dX10_keepAct_55 : decode cX10_keepAct 55 = .ok (.aload_n 0, 1) := by decide +kernel
theorem dX10_keepAct_56 : decode cX10_keepAct 56 = .ok (.getfield 138, 3) := by decide +kernel
theorem dX10_keepAct_59 : decode cX10_keepAct 59 = .ok (.iconst 1, 1) := by decide +kernel
theorem dX10_keepAct_60 : decode cX10_keepAct 60 = .ok (.iadd, 1) := by decide +kernel
theorem dX10_keepAct_61 : decode cX10_keepAct 61 = .ok (.goto 5, 3) := by decide +kernel
theorem dX10_keepAct_64 : decode cX10_keepAct 64 = .ok (.bipush 16, 2) := by decide +kernel
theorem dX10_keepAct_66 : decode cX10_keepAct 66 = .ok (.putfield 138, 3) := by decide +kernel
theorem dX10_keepAct_69 : decode cX10_keepAct 69 = .ok (.return_, 1) := by decide +kernel
theorem dX10_canBe_0 : decode cX10_canBe 0 = .ok (.aload_n 0, 1) := by decide +kernel
theorem dX10_canBe_1 : decode cX10_canBe 1 = .ok (.iload_n 1, 1) := by decide +kernel
theorem dX10_canBe_2 : decode cX10_canBe 2 = .ok (.iload_n 2, 1) := by decide +kernel
theorem dX10_canBe_3 : decode cX10_canBe 3 = .ok (.invokevirtual 171, 3) := by decide +kernel
theorem dX10_canBe_6 : decode cX10_canBe 6 = .ok (.ifCond .eq 16, 3) := by decide +kernel
theorem dX10_canBe_9 : decode cX10_canBe 9 = .ok (.aload_n 0, 1) := by decide +kernel
theorem dX10_canBe_10 : decode cX10_canBe 10 = .ok (.iload_n 1, 1) := by decide +kernel
theorem dX10_canBe_11 : decode cX10_canBe 11 = .ok (.iload_n 2, 1) := by decide +kernel
theorem dX10_canBe_12 : decode cX10_canBe 12 = .ok (.invokevirtual 184, 3) := by decide +kernel
theorem dX10_canBe_15 : decode cX10_canBe 15 = .ok (.ifCond .ne 7, 3) := by decide +kernel
theorem dX10_canBe_18 : decode cX10_canBe 18 = .ok (.iconst 1, 1) := by decide +kernel
theorem dX10_canBe_19 : decode cX10_canBe 19 = .ok (.goto 4, 3) := by decide +kernel
theorem dX10_canBe_22 : decode cX10_canBe 22 = .ok (.iconst 0, 1) := by decide +kernel
theorem dX10_canBe_23 : decode cX10_canBe 23 = .ok (.ireturn, 1) := by decide +kernel
theorem dX10_let_0 : decode cX10_let 0 = .ok (.aload_n 0, 1) := by decide +kernel
theorem dX10_let_1 : decode cX10_let 1 = .ok (.iload_n 1, 1) := by decide +kernel
theorem dX10_let_2 : decode cX10_let 2 = .ok (.invokevirtual 174, 3) := by decide +kernel
theorem dX10_let_5 : decode cX10_let 5 = .ok (.ifCond .ne 5, 3) := by decide +kernel
theorem dX10_let_8 : decode cX10_let 8 = .ok (.iconst (-1), 1) := by decide +kernel
theorem dX10_let_9 : decode cX10_let 9 = .ok (.ireturn, 1) := by decide +kernel
theorem dX10_let_10 : decode cX10_let 10 = .ok (.iload_n 2, 1) := by decide +kernel
theorem dX10_let_11 : decode cX10_let 11 = .ok (.i2l, 1) := by decide +kernel
theorem dX10_let_12 : decode cX10_let 12 = .ok (.lconst 0, 1) := by decide +kernel
theorem dX10_let_13 : decode cX10_let 13 = .ok (.ldc2_w 182, 3) := by decide +kernel
theorem dX10_let_16 : decode cX10_let 16 = .ok (.invokestatic 97, 3) := by decide +kernel
theorem dX10_let_19 : decode cX10_let 19 = .ok (.ifCond .ne 6, 3) := by decide +kernel
theorem dX10_let_22 : decode cX10_let 22 = .ok (.bipush (-2), 2) := by decide +kernel
theorem dX10_let_24 : decode cX10_let 24 = .ok (.ireturn, 1) := by decide +kernel
theorem dX10_let_25 : decode cX10_let 25 = .ok (.aload_n 0, 1) := by decide +kernel
theorem dX10_let_26 : decode cX10_let 26 = .ok (.getfield 25, 3) := by decide +kernel
theorem dX10_let_29 : decode cX10_let 29 = .ok (.iload_n 1, 1) := by decide +kernel
theorem dX10_let_30 : decode cX10_let 30 = .ok (.iaload, 1) := by decide +kernel
theorem dX10_let_31 : decode cX10_let 31 = .ok (.bipush (-9), 2) := by decide +kernel
theorem dX10_let_33 : decode cX10_let 33 = .ok (.if_icmp .ne 12, 3) := by decide +kernel
theorem dX10_let_36 : decode cX10_let 36 = .ok (.aload_n 0, 1) := by decide +kernel
theorem dX10_let_37 : decode cX10_let 37 = .ok (.iload_n 1, 1) := by decide +kernel
theorem dX10_let_38 : decode cX10_let 38 = .ok (.iload_n 2, 1) := by decide +kernel
theorem dX10_let_39 : decode cX10_let 39 = .ok (.invokevirtual 190, 3) := by decide +kernel
theorem dX10_let_42 : decode cX10_let 42 = .ok (.ifCond .ne 6, 3) := by decide +kernel
theorem dX10_let_45 : decode cX10_let 45 = .ok (.bipush (-3), 2) := by decide +kernel
theorem dX10_let_47 : decode cX10_let 47 = .ok (.ireturn, 1) := by decide +kernel
theorem dX10_let_48 : decode cX10_let 48 = .ok (.aload_n 0, 1) := by decide +kernel
theorem dX10_let_49 : decode cX10_let 49 = .ok (.invokevirtual 193, 3) := by decide +kernel
theorem dX10_let_52 : decode cX10_let 52 = .ok (.aload_n 0, 1) := by decide +kernel
theorem dX10_let_53 : decode cX10_let 53 = .ok (.getfield 25, 3) := by decide +kernel
theorem dX10_let_56 : decode cX10_let 56 = .ok (.iload_n 1, 1) := by decide +kernel
theorem dX10_let_57 : decode cX10_let 57 = .ok (.iload_n 2, 1) := by decide +kernel
theorem dX10_let_58 : decode cX10_let 58 = .ok (.iastore, 1) := by decide +kernel
theorem dX10_let_59 : decode cX10_let 59 = .ok (.aload_n 0, 1) := by decide +kernel
theorem dX10_let_60 : decode cX10_let 60 = .ok (.aload_n 0, 1) := by decide +kernel
theorem dX10_let_61 : decode cX10_let 61 = .ok (.invokevirtual 196, 3) := by decide +kernel
theorem dX10_let_64 : decode cX10_let 64 = .ok (.invokevirtual 199, 3) := by decide +kernel
theorem dX10_let_67 : decode cX10_let 67 = .ok (.ireturn, 1) := by decide +kernel
theorem dX10_revoke_0 : decode cX10_revoke 0 = .ok (.aload_n 0, 1) := by decide +kernel
theorem dX10_revoke_1 : decode cX10_revoke 1 = .ok (.iload_n 1, 1) := by decide +kernel
theorem dX10_revoke_2 : decode cX10_revoke 2 = .ok (.invokevirtual 174, 3) := by decide +kernel
theorem dX10_revoke_5 : decode cX10_revoke 5 = .ok (.ifCond .ne 5, 3) := by decide +kernel
theorem dX10_revoke_8 : decode cX10_revoke 8 = .ok (.iconst (-1), 1) := by decide +kernel
theorem dX10_revoke_9 : decode cX10_revoke 9 = .ok (.ireturn, 1) := by decide +kernel
theorem dX10_revoke_10 : decode cX10_revoke 10 = .ok (.aload_n 0, 1) := by decide +kernel
theorem dX10_revoke_11 : decode cX10_revoke 11 = .ok (.getfield 25, 3) := by decide +kernel
theorem dX10_revoke_14 : decode cX10_revoke 14 = .ok (.iload_n 1, 1) := by decide +kernel
theorem dX10_revoke_15 : decode cX10_revoke 15 = .ok (.iaload, 1) := by decide +kernel
theorem dX10_revoke_16 : decode cX10_revoke 16 = .ok (.bipush (-9), 2) := by decide +kernel
theorem dX10_revoke_18 : decode cX10_revoke 18 = .ok (.if_icmp .ne 6, 3) := by decide +kernel
theorem dX10_revoke_21 : decode cX10_revoke 21 = .ok (.bipush (-3), 2) := by decide +kernel
theorem dX10_revoke_23 : decode cX10_revoke 23 = .ok (.ireturn, 1) := by decide +kernel
theorem dX10_revoke_24 : decode cX10_revoke 24 = .ok (.aload_n 0, 1) := by decide +kernel
theorem dX10_revoke_25 : decode cX10_revoke 25 = .ok (.invokevirtual 193, 3) := by decide +kernel
theorem dX10_revoke_28 : decode cX10_revoke 28 = .ok (.aload_n 0, 1) := by decide +kernel
theorem dX10_revoke_29 : decode cX10_revoke 29 = .ok (.getfield 25, 3) := by decide +kernel
theorem dX10_revoke_32 : decode cX10_revoke 32 = .ok (.iload_n 1, 1) := by decide +kernel
theorem dX10_revoke_33 : decode cX10_revoke 33 = .ok (.bipush (-9), 2) := by decide +kernel
theorem dX10_revoke_35 : decode cX10_revoke 35 = .ok (.iastore, 1) := by decide +kernel
theorem dX10_revoke_36 : decode cX10_revoke 36 = .ok (.aload_n 0, 1) := by decide +kernel
theorem dX10_revoke_37 : decode cX10_revoke 37 = .ok (.aload_n 0, 1) := by decide +kernel
theorem dX10_revoke_38 : decode cX10_revoke 38 = .ok (.invokevirtual 196, 3) := by decide +kernel
theorem dX10_revoke_41 : decode cX10_revoke 41 = .ok (.invokevirtual 199, 3) := by decide +kernel
theorem dX10_revoke_44 : decode cX10_revoke 44 = .ok (.ireturn, 1) := by decide +kernel
theorem dX10_move_0 : decode cX10_move 0 = .ok (.aload_n 0, 1) := by decide +kernel
theorem dX10_move_1 : decode cX10_move 1 = .ok (.iload_n 1, 1) := by decide +kernel
theorem dX10_move_2 : decode cX10_move 2 = .ok (.invokevirtual 174, 3) := by decide +kernel
theorem dX10_move_5 : decode cX10_move 5 = .ok (.ifCond .ne 5, 3) := by decide +kernel
theorem dX10_move_8 : decode cX10_move 8 = .ok (.iconst (-1), 1) := by decide +kernel
theorem dX10_move_9 : decode cX10_move 9 = .ok (.ireturn, 1) := by decide +kernel
theorem dX10_move_10 : decode cX10_move 10 = .ok (.iload_n 2, 1) := by decide +kernel
theorem dX10_move_11 : decode cX10_move 11 = .ok (.i2l, 1) := by decide +kernel
theorem dX10_move_12 : decode cX10_move 12 = .ok (.lconst 0, 1) := by decide +kernel
theorem dX10_move_13 : decode cX10_move 13 = .ok (.ldc2_w 182, 3) := by decide +kernel
theorem dX10_move_16 : decode cX10_move 16 = .ok (.invokestatic 97, 3) := by decide +kernel
theorem dX10_move_19 : decode cX10_move 19 = .ok (.ifCond .ne 6, 3) := by decide +kernel
theorem dX10_move_22 : decode cX10_move 22 = .ok (.bipush (-2), 2) := by decide +kernel
theorem dX10_move_24 : decode cX10_move 24 = .ok (.ireturn, 1) := by decide +kernel
theorem dX10_move_25 : decode cX10_move 25 = .ok (.aload_n 0, 1) := by decide +kernel
theorem dX10_move_26 : decode cX10_move 26 = .ok (.getfield 25, 3) := by decide +kernel
theorem dX10_move_29 : decode cX10_move 29 = .ok (.iload_n 1, 1) := by decide +kernel
theorem dX10_move_30 : decode cX10_move 30 = .ok (.iaload, 1) := by decide +kernel
theorem dX10_move_31 : decode cX10_move 31 = .ok (.bipush (-9), 2) := by decide +kernel
theorem dX10_move_33 : decode cX10_move 33 = .ok (.if_icmp .eq 22, 3) := by decide +kernel
theorem dX10_move_36 : decode cX10_move 36 = .ok (.aload_n 0, 1) := by decide +kernel
theorem dX10_move_37 : decode cX10_move 37 = .ok (.getfield 25, 3) := by decide +kernel
theorem dX10_move_40 : decode cX10_move 40 = .ok (.iload_n 1, 1) := by decide +kernel
theorem dX10_move_41 : decode cX10_move 41 = .ok (.iaload, 1) := by decide +kernel
theorem dX10_move_42 : decode cX10_move 42 = .ok (.iload_n 2, 1) := by decide +kernel
theorem dX10_move_43 : decode cX10_move 43 = .ok (.if_icmp .eq 12, 3) := by decide +kernel
theorem dX10_move_46 : decode cX10_move 46 = .ok (.aload_n 0, 1) := by decide +kernel
theorem dX10_move_47 : decode cX10_move 47 = .ok (.iload_n 1, 1) := by decide +kernel
theorem dX10_move_48 : decode cX10_move 48 = .ok (.iload_n 2, 1) := by decide +kernel
theorem dX10_move_49 : decode cX10_move 49 = .ok (.invokevirtual 190, 3) := by decide +kernel
theorem dX10_move_52 : decode cX10_move 52 = .ok (.ifCond .ne 6, 3) := by decide +kernel
theorem dX10_move_55 : decode cX10_move 55 = .ok (.bipush (-3), 2) := by decide +kernel
theorem dX10_move_57 : decode cX10_move 57 = .ok (.ireturn, 1) := by decide +kernel
theorem dX10_move_58 : decode cX10_move 58 = .ok (.aload_n 0, 1) := by decide +kernel
theorem dX10_move_59 : decode cX10_move 59 = .ok (.invokevirtual 193, 3) := by decide +kernel
theorem dX10_move_62 : decode cX10_move 62 = .ok (.aload_n 0, 1) := by decide +kernel
theorem dX10_move_63 : decode cX10_move 63 = .ok (.getfield 25, 3) := by decide +kernel
theorem dX10_move_66 : decode cX10_move 66 = .ok (.iload_n 1, 1) := by decide +kernel
theorem dX10_move_67 : decode cX10_move 67 = .ok (.iaload, 1) := by decide +kernel
theorem dX10_move_68 : decode cX10_move 68 = .ok (.istore_n 3, 1) := by decide +kernel
theorem dX10_move_69 : decode cX10_move 69 = .ok (.aload_n 0, 1) := by decide +kernel
theorem dX10_move_70 : decode cX10_move 70 = .ok (.getfield 25, 3) := by decide +kernel
theorem dX10_move_73 : decode cX10_move 73 = .ok (.iload_n 1, 1) := by decide +kernel
theorem dX10_move_74 : decode cX10_move 74 = .ok (.iload_n 2, 1) := by decide +kernel
theorem dX10_move_75 : decode cX10_move 75 = .ok (.iastore, 1) := by decide +kernel
theorem dX10_move_76 : decode cX10_move 76 = .ok (.iload_n 3, 1) := by decide +kernel
theorem dX10_move_77 : decode cX10_move 77 = .ok (.ireturn, 1) := by decide +kernel
theorem dX10_undo_0 : decode cX10_undo 0 = .ok (.aload_n 0, 1) := by decide +kernel
theorem dX10_undo_1 : decode cX10_undo 1 = .ok (.getfield 138, 3) := by decide +kernel
theorem dX10_undo_4 : decode cX10_undo 4 = .ok (.ifCond .ne 6, 3) := by decide +kernel
theorem dX10_undo_7 : decode cX10_undo 7 = .ok (.bipush (-3), 2) := by decide +kernel
theorem dX10_undo_9 : decode cX10_undo 9 = .ok (.ireturn, 1) := by decide +kernel
theorem dX10_undo_10 : decode cX10_undo 10 = .ok (.aload_n 0, 1) := by decide +kernel
theorem dX10_undo_11 : decode cX10_undo 11 = .ok (.dup, 1) := by decide +kernel
theorem dX10_undo_12 : decode cX10_undo 12 = .ok (.getfield 138, 3) := by decide +kernel
theorem dX10_undo_15 : decode cX10_undo 15 = .ok (.iconst 1, 1) := by decide +kernel
theorem dX10_undo_16 : decode cX10_undo 16 = .ok (.isub, 1) := by decide +kernel
theorem dX10_undo_17 : decode cX10_undo 17 = .ok (.putfield 138, 3) := by decide +kernel
theorem dX10_undo_20 : decode cX10_undo 20 = .ok (.aload_n 0, 1) := by decide +kernel
theorem dX10_undo_21 : decode cX10_undo 21 = .ok (.aload_n 0, 1) := by decide +kernel
theorem dX10_undo_22 : decode cX10_undo 22 = .ok (.getfield 187, 3) := by decide +kernel
theorem dX10_undo_25 : decode cX10_undo 25 = .ok (.bipush 15, 2) := by decide +kernel
theorem dX10_undo_27 : decode cX10_undo 27 = .ok (.iadd, 1) := by decide +kernel
theorem dX10_undo_28 : decode cX10_undo 28 = .ok (.bipush 16, 2) := by decide +kernel
theorem dX10_undo_30 : decode cX10_undo 30 = .ok (.irem, 1) := by decide +kernel
theorem dX10_undo_31 : decode cX10_undo 31 = .ok (.putfield 187, 3) := by decide +kernel
theorem dX10_undo_34 : decode cX10_undo 34 = .ok (.iconst 0, 1) := by decide +kernel
theorem dX10_undo_35 : decode cX10_undo 35 = .ok (.istore_n 1, 1) := by decide +kernel
theorem dX10_undo_36 : decode cX10_undo 36 = .ok (.iload_n 1, 1) := by decide +kernel
theorem dX10_undo_37 : decode cX10_undo 37 = .ok (.iconst 5, 1) := by decide +kernel
theorem dX10_undo_38 : decode cX10_undo 38 = .ok (.if_icmp .ge 28, 3) := by decide +kernel
theorem dX10_undo_41 : decode cX10_undo 41 = .ok (.aload_n 0, 1) := by decide +kernel
theorem dX10_undo_42 : decode cX10_undo 42 = .ok (.getfield 25, 3) := by decide +kernel
theorem dX10_undo_45 : decode cX10_undo 45 = .ok (.iload_n 1, 1) := by decide +kernel
theorem dX10_undo_46 : decode cX10_undo 46 = .ok (.aload_n 0, 1) := by decide +kernel
theorem dX10_undo_47 : decode cX10_undo 47 = .ok (.getfield 31, 3) := by decide +kernel
theorem dX10_undo_50 : decode cX10_undo 50 = .ok (.iconst 5, 1) := by decide +kernel
theorem dX10_undo_51 : decode cX10_undo 51 = .ok (.aload_n 0, 1) := by decide +kernel
theorem dX10_undo_52 : decode cX10_undo 52 = .ok (.getfield 187, 3) := by decide +kernel
theorem dX10_undo_55 : decode cX10_undo 55 = .ok (.imul, 1) := by decide +kernel
theorem dX10_undo_56 : decode cX10_undo 56 = .ok (.iload_n 1, 1) := by decide +kernel
theorem dX10_undo_57 : decode cX10_undo 57 = .ok (.iadd, 1) := by decide +kernel
theorem dX10_undo_58 : decode cX10_undo 58 = .ok (.iaload, 1) := by decide +kernel
theorem dX10_undo_59 : decode cX10_undo 59 = .ok (.iastore, 1) := by decide +kernel
theorem dX10_undo_60 : decode cX10_undo 60 = .ok (.iinc 1 1, 3) := by decide +kernel
theorem dX10_undo_63 : decode cX10_undo 63 = .ok (.goto (-27), 3) := by decide +kernel
theorem dX10_undo_66 : decode cX10_undo 66 = .ok (.aload_n 0, 1) := by decide +kernel
theorem dX10_undo_67 : decode cX10_undo 67 = .ok (.getfield 138, 3) := by decide +kernel
theorem dX10_undo_70 : decode cX10_undo 70 = .ok (.ireturn, 1) := by decide +kernel
theorem dX10_mayHave_0 : decode cX10_mayHave 0 = .ok (.iload_n 2, 1) := by decide +kernel
theorem dX10_mayHave_1 : decode cX10_mayHave 1 = .ok (.ifCond .eq 33, 3) := by decide +kernel
theorem dX10_mayHave_4 : decode cX10_mayHave 4 = .ok (.aload_n 0, 1) := by decide +kernel
theorem dX10_mayHave_5 : decode cX10_mayHave 5 = .ok (.getfield 25, 3) := by decide +kernel
theorem dX10_mayHave_8 : decode cX10_mayHave 8 = .ok (.iload_n 1, 1) := by decide +kernel
theorem dX10_mayHave_9 : decode cX10_mayHave 9 = .ok (.iaload, 1) := by decide +kernel
theorem dX10_mayHave_10 : decode cX10_mayHave 10 = .ok (.bipush (-9), 2) := by decide +kernel
theorem dX10_mayHave_12 : decode cX10_mayHave 12 = .ok (.if_icmp .eq 22, 3) := by decide +kernel
theorem dX10_mayHave_15 : decode cX10_mayHave 15 = .ok (.aload_n 0, 1) := by decide +kernel
theorem dX10_mayHave_16 : decode cX10_mayHave 16 = .ok (.getfield 34, 3) := by decide +kernel
theorem dX10_mayHave_19 : decode cX10_mayHave 19 = .ok (.iload_n 1, 1) := by decide +kernel
theorem dX10_mayHave_20 : decode cX10_mayHave 20 = .ok (.iaload, 1) := by decide +kernel
theorem dX10_mayHave_21 : decode cX10_mayHave 21 = .ok (.aload_n 0, 1) := by decide +kernel
theorem dX10_mayHave_22 : decode cX10_mayHave 22 = .ok (.getfield 25, 3) := by decide +kernel
theorem dX10_mayHave_25 : decode cX10_mayHave 25 = .ok (.iload_n 1, 1) := by decide +kernel
theorem dX10_mayHave_26 : decode cX10_mayHave 26 = .ok (.iaload, 1) := by decide +kernel
theorem dX10_mayHave_27 : decode cX10_mayHave 27 = .ok (.iconst 1, 1) := by decide +kernel
theorem dX10_mayHave_28 : decode cX10_mayHave 28 = .ok (.iadd, 1) := by decide +kernel
theorem dX10_mayHave_29 : decode cX10_mayHave 29 = .ok (.if_icmp .eq 5, 3) := by decide +kernel
theorem dX10_mayHave_32 : decode cX10_mayHave 32 = .ok (.iconst 0, 1) := by decide +kernel
theorem dX10_mayHave_33 : decode cX10_mayHave 33 = .ok (.ireturn, 1) := by decide +kernel
theorem dX10_mayHave_34 : decode cX10_mayHave 34 = .ok (.aload_n 0, 1) := by decide +kernel
theorem dX10_mayHave_35 : decode cX10_mayHave 35 = .ok (.getfield 34, 3) := by decide +kernel
theorem dX10_mayHave_38 : decode cX10_mayHave 38 = .ok (.iload_n 1, 1) := by decide +kernel
theorem dX10_mayHave_39 : decode cX10_mayHave 39 = .ok (.iaload, 1) := by decide +kernel
theorem dX10_mayHave_40 : decode cX10_mayHave 40 = .ok (.ifCond .ne 5, 3) := by decide +kernel
theorem dX10_mayHave_43 : decode cX10_mayHave 43 = .ok (.iconst 1, 1) := by decide +kernel
theorem dX10_mayHave_44 : decode cX10_mayHave 44 = .ok (.ireturn, 1) := by decide +kernel
theorem dX10_mayHave_45 : decode cX10_mayHave 45 = .ok (.bipush 10, 2) := by decide +kernel
theorem dX10_mayHave_47 : decode cX10_mayHave 47 = .ok (.iload_n 1, 1) := by decide +kernel
theorem dX10_mayHave_48 : decode cX10_mayHave 48 = .ok (.imul, 1) := by decide +kernel
theorem dX10_mayHave_49 : decode cX10_mayHave 49 = .ok (.aload_n 0, 1) := by decide +kernel
theorem dX10_mayHave_50 : decode cX10_mayHave 50 = .ok (.getfield 34, 3) := by decide +kernel
theorem dX10_mayHave_53 : decode cX10_mayHave 53 = .ok (.iload_n 1, 1) := by decide +kernel
theorem dX10_mayHave_54 : decode cX10_mayHave 54 = .ok (.iaload, 1) := by decide +kernel
theorem dX10_mayHave_55 : decode cX10_mayHave 55 = .ok (.iadd, 1) := by decide +kernel
theorem dX10_mayHave_56 : decode cX10_mayHave 56 = .ok (.iconst 1, 1) := by decide +kernel
theorem dX10_mayHave_57 : decode cX10_mayHave 57 = .ok (.isub, 1) := by decide +kernel
theorem dX10_mayHave_58 : decode cX10_mayHave 58 = .ok (.istore_n 3, 1) := by decide +kernel
theorem dX10_mayHave_59 : decode cX10_mayHave 59 = .ok (.aload_n 0, 1) := by decide +kernel
theorem dX10_mayHave_60 : decode cX10_mayHave 60 = .ok (.getfield 47, 3) := by decide +kernel
theorem dX10_mayHave_63 : decode cX10_mayHave 63 = .ok (.iload_n 3, 1) := by decide +kernel
theorem dX10_mayHave_64 : decode cX10_mayHave 64 = .ok (.baload, 1) := by decide +kernel
theorem dX10_mayHave_65 : decode cX10_mayHave 65 = .ok (.istore 4, 2) := by decide +kernel
theorem dX10_mayHave_67 : decode cX10_mayHave 67 = .ok (.iconst 0, 1) := by decide +kernel
theorem dX10_mayHave_68 : decode cX10_mayHave 68 = .ok (.istore 5, 2) := by decide +kernel
theorem dX10_mayHave_70 : decode cX10_mayHave 70 = .ok (.iload 5, 2) := by decide +kernel
theorem dX10_mayHave_72 : decode cX10_mayHave 72 = .ok (.iload_n 1, 1) := by decide +kernel
theorem dX10_mayHave_73 : decode cX10_mayHave 73 = .ok (.if_icmp .ge 57, 3) := by decide +kernel
theorem dX10_mayHave_76 : decode cX10_mayHave 76 = .ok (.iload 4, 2) := by decide +kernel
theorem dX10_mayHave_78 : decode cX10_mayHave 78 = .ok (.ifCond .eq 52, 3) := by decide +kernel
theorem dX10_mayHave_81 : decode cX10_mayHave 81 = .ok (.aload_n 0, 1) := by decide +kernel
theorem dX10_mayHave_82 : decode cX10_mayHave 82 = .ok (.getfield 34, 3) := by decide +kernel
theorem dX10_mayHave_85 : decode cX10_mayHave 85 = .ok (.iload 5, 2) := by decide +kernel
theorem dX10_mayHave_87 : decode cX10_mayHave 87 = .ok (.iaload, 1) := by decide +kernel
theorem dX10_mayHave_88 : decode cX10_mayHave 88 = .ok (.ifCond .eq 29, 3) := by decide +kernel
theorem dX10_mayHave_91 : decode cX10_mayHave 91 = .ok (.aload_n 0, 1) := by decide +kernel
theorem dX10_mayHave_92 : decode cX10_mayHave 92 = .ok (.iload_n 1, 1) := by decide +kernel
theorem dX10_mayHave_93 : decode cX10_mayHave 93 = .ok (.iload_n 3, 1) := by decide +kernel
theorem dX10_mayHave_94 : decode cX10_mayHave 94 = .ok (.iload 5, 2) := by decide +kernel
theorem dX10_mayHave_96 : decode cX10_mayHave 96 = .ok (.bipush 10, 2) := by decide +kernel
theorem dX10_mayHave_98 : decode cX10_mayHave 98 = .ok (.iload 5, 2) := by decide +kernel
theorem dX10_mayHave_100 : decode cX10_mayHave 100 = .ok (.imul, 1) := by decide +kernel
theorem dX10_mayHave_101 : decode cX10_mayHave 101 = .ok (.aload_n 0, 1) := by decide +kernel
theorem dX10_mayHave_102 : decode cX10_mayHave 102 = .ok (.getfield 34, 3) := by decide +kernel
theorem dX10_mayHave_105 : decode cX10_mayHave 105 = .ok (.iload 5, 2) := by decide +kernel
theorem dX10_mayHave_107 : decode cX10_mayHave 107 = .ok (.iaload, 1) := by decide +kernel
theorem dX10_mayHave_108 : decode cX10_mayHave 108 = .ok (.iadd, 1) := by decide +kernel
theorem dX10_mayHave_109 : decode cX10_mayHave 109 = .ok (.iconst 1, 1) := by decide +kernel
theorem dX10_mayHave_110 : decode cX10_mayHave 110 = .ok (.isub, 1) := by decide +kernel
theorem dX10_mayHave_111 : decode cX10_mayHave 111 = .ok (.invokevirtual 202, 3) := by decide +kernel
theorem dX10_mayHave_114 : decode cX10_mayHave 114 = .ok (.ifCond .ne 7, 3) := by decide +kernel
theorem dX10_mayHave_117 : decode cX10_mayHave 117 = .ok (.iconst 1, 1) := by decide +kernel
theorem dX10_mayHave_118 : decode cX10_mayHave 118 = .ok (.goto 4, 3) := by decide +kernel
theorem dX10_mayHave_121 : decode cX10_mayHave 121 = .ok (.iconst 0, 1) := by decide +kernel
theorem dX10_mayHave_122 : decode cX10_mayHave 122 = .ok (.istore 4, 2) := by decide +kernel
theorem dX10_mayHave_124 : decode cX10_mayHave 124 = .ok (.iinc 5 1, 3) := by decide +kernel
theorem dX10_mayHave_127 : decode cX10_mayHave 127 = .ok (.goto (-57), 3) := by decide +kernel
theorem dX10_mayHave_130 : decode cX10_mayHave 130 = .ok (.iload 4, 2) := by decide +kernel
theorem dX10_mayHave_132 : decode cX10_mayHave 132 = .ok (.ireturn, 1) := by decide +kernel
theorem dX10_clashAt_0 : decode cX10_clashAt 0 = .ok (.aload_n 0, 1) := by decide +kernel
theorem dX10_clashAt_1 : decode cX10_clashAt 1 = .ok (.iload_n 1, 1) := by decide +kernel
theorem dX10_clashAt_2 : decode cX10_clashAt 2 = .ok (.invokevirtual 141, 3) := by decide +kernel
theorem dX10_clashAt_5 : decode cX10_clashAt 5 = .ok (.ifCond .ne 55, 3) := by decide +kernel
theorem dX10_clashAt_8 : decode cX10_clashAt 8 = .ok (.aload_n 0, 1) := by decide +kernel
theorem dX10_clashAt_9 : decode cX10_clashAt 9 = .ok (.iload_n 3, 1) := by decide +kernel
theorem dX10_clashAt_10 : decode cX10_clashAt 10 = .ok (.invokevirtual 141, 3) := by decide +kernel
theorem dX10_clashAt_13 : decode cX10_clashAt 13 = .ok (.ifCond .ne 47, 3) := by decide +kernel
theorem dX10_clashAt_16 : decode cX10_clashAt 16 = .ok (.aload_n 0, 1) := by decide +kernel
theorem dX10_clashAt_17 : decode cX10_clashAt 17 = .ok (.getfield 16, 3) := by decide +kernel
theorem dX10_clashAt_20 : decode cX10_clashAt 20 = .ok (.bipush 6, 2) := by decide +kernel
theorem dX10_clashAt_22 : decode cX10_clashAt 22 = .ok (.iload_n 1, 1) := by decide +kernel
theorem dX10_clashAt_23 : decode cX10_clashAt 23 = .ok (.imul, 1) := by decide +kernel
theorem dX10_clashAt_24 : decode cX10_clashAt 24 = .ok (.iaload, 1) := by decide +kernel
theorem dX10_clashAt_25 : decode cX10_clashAt 25 = .ok (.aload_n 0, 1) := by decide +kernel
theorem dX10_clashAt_26 : decode cX10_clashAt 26 = .ok (.getfield 16, 3) := by decide +kernel
theorem dX10_clashAt_29 : decode cX10_clashAt 29 = .ok (.bipush 6, 2) := by decide +kernel
theorem dX10_clashAt_31 : decode cX10_clashAt 31 = .ok (.iload_n 3, 1) := by decide +kernel
theorem dX10_clashAt_32 : decode cX10_clashAt 32 = .ok (.imul, 1) := by decide +kernel
theorem dX10_clashAt_33 : decode cX10_clashAt 33 = .ok (.iaload, 1) := by decide +kernel
theorem dX10_clashAt_34 : decode cX10_clashAt 34 = .ok (.if_icmp .ne 24, 3) := by decide +kernel
theorem dX10_clashAt_37 : decode cX10_clashAt 37 = .ok (.aload_n 0, 1) := by decide +kernel
theorem dX10_clashAt_38 : decode cX10_clashAt 38 = .ok (.getfield 53, 3) := by decide +kernel
theorem dX10_clashAt_41 : decode cX10_clashAt 41 = .ok (.iload_n 2, 1) := by decide +kernel
theorem dX10_clashAt_42 : decode cX10_clashAt 42 = .ok (.iaload, 1) := by decide +kernel
theorem dX10_clashAt_43 : decode cX10_clashAt 43 = .ok (.aload_n 0, 1) := by decide +kernel
theorem dX10_clashAt_44 : decode cX10_clashAt 44 = .ok (.getfield 53, 3) := by decide +kernel
theorem dX10_clashAt_47 : decode cX10_clashAt 47 = .ok (.iload 4, 2) := by decide +kernel
theorem dX10_clashAt_49 : decode cX10_clashAt 49 = .ok (.iaload, 1) := by decide +kernel
theorem dX10_clashAt_50 : decode cX10_clashAt 50 = .ok (.iand, 1) := by decide +kernel
theorem dX10_clashAt_51 : decode cX10_clashAt 51 = .ok (.ifCond .eq 7, 3) := by decide +kernel
theorem dX10_clashAt_54 : decode cX10_clashAt 54 = .ok (.iconst 1, 1) := by decide +kernel
theorem dX10_clashAt_55 : decode cX10_clashAt 55 = .ok (.goto 4, 3) := by decide +kernel
theorem dX10_clashAt_58 : decode cX10_clashAt 58 = .ok (.iconst 0, 1) := by decide +kernel
theorem dX10_clashAt_59 : decode cX10_clashAt 59 = .ok (.ireturn, 1) := by decide +kernel
theorem dX10_clashAt_60 : decode cX10_clashAt 60 = .ok (.aload_n 0, 1) := by decide +kernel
theorem dX10_clashAt_61 : decode cX10_clashAt 61 = .ok (.iload_n 1, 1) := by decide +kernel
theorem dX10_clashAt_62 : decode cX10_clashAt 62 = .ok (.invokevirtual 141, 3) := by decide +kernel
theorem dX10_clashAt_65 : decode cX10_clashAt 65 = .ok (.ifCond .eq 11, 3) := by decide +kernel
theorem dX10_clashAt_68 : decode cX10_clashAt 68 = .ok (.aload_n 0, 1) := by decide +kernel
theorem dX10_clashAt_69 : decode cX10_clashAt 69 = .ok (.iload_n 3, 1) := by decide +kernel
theorem dX10_clashAt_70 : decode cX10_clashAt 70 = .ok (.invokevirtual 141, 3) := by decide +kernel
theorem dX10_clashAt_73 : decode cX10_clashAt 73 = .ok (.ifCond .ne 24, 3) := by decide +kernel
theorem dX10_clashAt_76 : decode cX10_clashAt 76 = .ok (.aload_n 0, 1) := by decide +kernel
theorem dX10_clashAt_77 : decode cX10_clashAt 77 = .ok (.getfield 50, 3) := by decide +kernel
theorem dX10_clashAt_80 : decode cX10_clashAt 80 = .ok (.iload_n 2, 1) := by decide +kernel
theorem dX10_clashAt_81 : decode cX10_clashAt 81 = .ok (.iaload, 1) := by decide +kernel
theorem dX10_clashAt_82 : decode cX10_clashAt 82 = .ok (.aload_n 0, 1) := by decide +kernel
theorem dX10_clashAt_83 : decode cX10_clashAt 83 = .ok (.getfield 50, 3) := by decide +kernel
theorem dX10_clashAt_86 : decode cX10_clashAt 86 = .ok (.iload 4, 2) := by decide +kernel
theorem dX10_clashAt_88 : decode cX10_clashAt 88 = .ok (.iaload, 1) := by decide +kernel
theorem dX10_clashAt_89 : decode cX10_clashAt 89 = .ok (.iand, 1) := by decide +kernel
theorem dX10_clashAt_90 : decode cX10_clashAt 90 = .ok (.ifCond .eq 7, 3) := by decide +kernel
theorem dX10_clashAt_93 : decode cX10_clashAt 93 = .ok (.iconst 1, 1) := by decide +kernel
theorem dX10_clashAt_94 : decode cX10_clashAt 94 = .ok (.goto 4, 3) := by decide +kernel
theorem dX10_clashAt_97 : decode cX10_clashAt 97 = .ok (.iconst 0, 1) := by decide +kernel
theorem dX10_clashAt_98 : decode cX10_clashAt 98 = .ok (.ireturn, 1) := by decide +kernel
theorem dX10_layTables_0 : decode cX10_layTables 0 = .ok (.iconst 0, 1) := by decide +kernel
theorem dX10_layTables_1 : decode cX10_layTables 1 = .ok (.istore_n 1, 1) := by decide +kernel
theorem dX10_layTables_2 : decode cX10_layTables 2 = .ok (.iload_n 1, 1) := by decide +kernel
theorem dX10_layTables_3 : decode cX10_layTables 3 = .ok (.aload_n 0, 1) := by decide +kernel
theorem dX10_layTables_4 : decode cX10_layTables 4 = .ok (.getfield 135, 3) := by decide +kernel
theorem dX10_layTables_7 : decode cX10_layTables 7 = .ok (.if_icmp .ge 112, 3) := by decide +kernel
theorem dX10_layTables_10 : decode cX10_layTables 10 = .ok (.iconst 0, 1) := by decide +kernel
theorem dX10_layTables_11 : decode cX10_layTables 11 = .ok (.istore_n 2, 1) := by decide +kernel
theorem dX10_layTables_12 : decode cX10_layTables 12 = .ok (.iload_n 2, 1) := by decide +kernel
theorem dX10_layTables_13 : decode cX10_layTables 13 = .ok (.bipush 10, 2) := by decide +kernel
theorem dX10_layTables_15 : decode cX10_layTables 15 = .ok (.if_icmp .ge 98, 3) := by decide +kernel
theorem dX10_layTables_18 : decode cX10_layTables 18 = .ok (.aload_n 0, 1) := by decide +kernel
theorem dX10_layTables_19 : decode cX10_layTables 19 = .ok (.getfield 47, 3) := by decide +kernel
theorem dX10_layTables_22 : decode cX10_layTables 22 = .ok (.bipush 10, 2) := by decide +kernel
theorem dX10_layTables_24 : decode cX10_layTables 24 = .ok (.iload_n 1, 1) := by decide +kernel
theorem dX10_layTables_25 : decode cX10_layTables 25 = .ok (.imul, 1) := by decide +kernel
theorem dX10_layTables_26 : decode cX10_layTables 26 = .ok (.iload_n 2, 1) := by decide +kernel
theorem dX10_layTables_27 : decode cX10_layTables 27 = .ok (.iadd, 1) := by decide +kernel
theorem dX10_layTables_28 : decode cX10_layTables 28 = .ok (.aload_n 0, 1) := by decide +kernel
theorem dX10_layTables_29 : decode cX10_layTables 29 = .ok (.iload_n 1, 1) := by decide +kernel
theorem dX10_layTables_30 : decode cX10_layTables 30 = .ok (.iload_n 2, 1) := by decide +kernel
theorem dX10_layTables_31 : decode cX10_layTables 31 = .ok (.invokevirtual 171, 3) := by decide +kernel
theorem dX10_layTables_34 : decode cX10_layTables 34 = .ok (.bastore, 1) := by decide +kernel
theorem dX10_layTables_35 : decode cX10_layTables 35 = .ok (.aload_n 0, 1) := by decide +kernel
theorem dX10_layTables_36 : decode cX10_layTables 36 = .ok (.getfield 50, 3) := by decide +kernel
theorem dX10_layTables_39 : decode cX10_layTables 39 = .ok (.bipush 10, 2) := by decide +kernel
theorem dX10_layTables_41 : decode cX10_layTables 41 = .ok (.iload_n 1, 1) := by decide +kernel
theorem dX10_layTables_42 : decode cX10_layTables 42 = .ok (.imul, 1) := by decide +kernel
theorem dX10_layTables_43 : decode cX10_layTables 43 = .ok (.iload_n 2, 1) := by decide +kernel
theorem dX10_layTables_44 : decode cX10_layTables 44 = .ok (.iadd, 1) := by decide +kernel
theorem dX10_layTables_45 : decode cX10_layTables 45 = .ok (.aload_n 0, 1) := by decide +kernel
theorem dX10_layTables_46 : decode cX10_layTables 46 = .ok (.getfield 47, 3) := by decide +kernel
theorem dX10_layTables_49 : decode cX10_layTables 49 = .ok (.bipush 10, 2) := by decide +kernel
theorem dX10_layTables_51 : decode cX10_layTables 51 = .ok (.iload_n 1, 1) := by decide +kernel
theorem dX10_layTables_52 : decode cX10_layTables 52 = .ok (.imul, 1) := by decide +kernel
theorem dX10_layTables_53 : decode cX10_layTables 53 = .ok (.iload_n 2, 1) := by decide +kernel
theorem dX10_layTables_54 : decode cX10_layTables 54 = .ok (.iadd, 1) := by decide +kernel
theorem dX10_layTables_55 : decode cX10_layTables 55 = .ok (.baload, 1) := by decide +kernel
theorem dX10_layTables_56 : decode cX10_layTables 56 = .ok (.ifCond .eq 13, 3) := by decide +kernel
theorem dX10_layTables_59 : decode cX10_layTables 59 = .ok (.aload_n 0, 1) := by decide +kernel
theorem dX10_layTables_60 : decode cX10_layTables 60 = .ok (.iload_n 1, 1) := by decide +kernel
theorem dX10_layTables_61 : decode cX10_layTables 61 = .ok (.iload_n 2, 1) := by decide +kernel
theorem dX10_layTables_62 : decode cX10_layTables 62 = .ok (.iconst 0, 1) := by decide +kernel
theorem dX10_layTables_63 : decode cX10_layTables 63 = .ok (.invokevirtual 152, 3) := by decide +kernel
theorem dX10_layTables_66 : decode cX10_layTables 66 = .ok (.goto 4, 3) := by decide +kernel
theorem dX10_layTables_69 : decode cX10_layTables 69 = .ok (.iconst 0, 1) := by decide +kernel
theorem dX10_layTables_70 : decode cX10_layTables 70 = .ok (.iastore, 1) := by decide +kernel
theorem dX10_layTables_71 : decode cX10_layTables 71 = .ok (.aload_n 0, 1) := by decide +kernel
theorem dX10_layTables_72 : decode cX10_layTables 72 = .ok (.getfield 53, 3) := by decide +kernel
theorem dX10_layTables_75 : decode cX10_layTables 75 = .ok (.bipush 10, 2) := by decide +kernel
theorem dX10_layTables_77 : decode cX10_layTables 77 = .ok (.iload_n 1, 1) := by decide +kernel
theorem dX10_layTables_78 : decode cX10_layTables 78 = .ok (.imul, 1) := by decide +kernel
theorem dX10_layTables_79 : decode cX10_layTables 79 = .ok (.iload_n 2, 1) := by decide +kernel
theorem dX10_layTables_80 : decode cX10_layTables 80 = .ok (.iadd, 1) := by decide +kernel
theorem dX10_layTables_81 : decode cX10_layTables 81 = .ok (.aload_n 0, 1) := by decide +kernel
theorem dX10_layTables_82 : decode cX10_layTables 82 = .ok (.getfield 47, 3) := by decide +kernel
theorem dX10_layTables_85 : decode cX10_layTables 85 = .ok (.bipush 10, 2) := by decide +kernel
theorem dX10_layTables_87 : decode cX10_layTables 87 = .ok (.iload_n 1, 1) := by decide +kernel
theorem dX10_layTables_88 : decode cX10_layTables 88 = .ok (.imul, 1) := by decide +kernel
theorem dX10_layTables_89 : decode cX10_layTables 89 = .ok (.iload_n 2, 1) := by decide +kernel
theorem dX10_layTables_90 : decode cX10_layTables 90 = .ok (.iadd, 1) := by decide +kernel
theorem dX10_layTables_91 : decode cX10_layTables 91 = .ok (.baload, 1) := by decide +kernel
theorem dX10_layTables_92 : decode cX10_layTables 92 = .ok (.ifCond .eq 13, 3) := by decide +kernel
theorem dX10_layTables_95 : decode cX10_layTables 95 = .ok (.aload_n 0, 1) := by decide +kernel
theorem dX10_layTables_96 : decode cX10_layTables 96 = .ok (.iload_n 1, 1) := by decide +kernel
theorem dX10_layTables_97 : decode cX10_layTables 97 = .ok (.iload_n 2, 1) := by decide +kernel
theorem dX10_layTables_98 : decode cX10_layTables 98 = .ok (.iconst 1, 1) := by decide +kernel
theorem dX10_layTables_99 : decode cX10_layTables 99 = .ok (.invokevirtual 152, 3) := by decide +kernel
theorem dX10_layTables_102 : decode cX10_layTables 102 = .ok (.goto 4, 3) := by decide +kernel
theorem dX10_layTables_105 : decode cX10_layTables 105 = .ok (.iconst 0, 1) := by decide +kernel
theorem dX10_layTables_106 : decode cX10_layTables 106 = .ok (.iastore, 1) := by decide +kernel
theorem dX10_layTables_107 : decode cX10_layTables 107 = .ok (.iinc 2 1, 3) := by decide +kernel
theorem dX10_layTables_110 : decode cX10_layTables 110 = .ok (.goto (-98), 3) := by decide +kernel
theorem dX10_layTables_113 : decode cX10_layTables 113 = .ok (.iinc 1 1, 3) := by decide +kernel
theorem dX10_layTables_116 : decode cX10_layTables 116 = .ok (.goto (-114), 3) := by decide +kernel
theorem dX10_layTables_119 : decode cX10_layTables 119 = .ok (.return_, 1) := by decide +kernel
theorem dX10_layBells_0 : decode cX10_layBells 0 = .ok (.iconst 0, 1) := by decide +kernel
theorem dX10_layBells_1 : decode cX10_layBells 1 = .ok (.istore_n 1, 1) := by decide +kernel
theorem dX10_layBells_2 : decode cX10_layBells 2 = .ok (.iload_n 1, 1) := by decide +kernel
theorem dX10_layBells_3 : decode cX10_layBells 3 = .ok (.iconst 3, 1) := by decide +kernel
theorem dX10_layBells_4 : decode cX10_layBells 4 = .ok (.if_icmp .ge 16, 3) := by decide +kernel
theorem dX10_layBells_7 : decode cX10_layBells 7 = .ok (.aload_n 0, 1) := by decide +kernel
theorem dX10_layBells_8 : decode cX10_layBells 8 = .ok (.getfield 56, 3) := by decide +kernel
theorem dX10_layBells_11 : decode cX10_layBells 11 = .ok (.iload_n 1, 1) := by decide +kernel
