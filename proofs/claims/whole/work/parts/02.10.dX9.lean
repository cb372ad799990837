theorem dX9_day_22 : decode cX9_day 22 = .ok (.invokevirtual 235, 3) := by decide +kernel
theorem dX9_day_25 : decode cX9_day 25 = .ok (.iconst 0, 1) := by decide +kernel
theorem dX9_day_26 : decode cX9_day 26 = .ok (.istore_n 2, 1) := by decide +kernel
theorem dX9_day_27 : decode cX9_day 27 = .ok (.iload_n 2, 1) := by decide +kernel
theorem dX9_day_28 : decode cX9_day 28 = .ok (.iload_n 1, 1) := by decide +kernel
theorem dX9_day_29 : decode cX9_day 29 = .ok (.if_icmp .ge 54, 3) := by decide +kernel
theorem dX9_day_32 : decode cX9_day 32 = .ok (.aload_n 0, 1) := by decide +kernel
theorem dX9_day_33 : decode cX9_day 33 = .ok (.aload_n 0, 1) := by decide +kernel
theorem dX9_day_34 : decode cX9_day 34 = .ok (.getfield 84, 3) := by decide +kernel
theorem dX9_day_37 : decode cX9_day 37 = .ok (.ldc2_w 277, 3) := by decide +kernel
theorem dX9_day_40 : decode cX9_day 40 = .ok (.lmul, 1) := by decide +kernel
theorem dX9_day_41 : decode cX9_day 41 = .ok (.ldc2_w 279, 3) := by decide +kernel
theorem dX9_day_44 : decode cX9_day 44 = .ok (.ladd, 1) := by decide +kernel
theorem dX9_day_45 : decode cX9_day 45 = .ok (.putfield 84, 3) := by decide +kernel
theorem dX9_day_48 : decode cX9_day 48 = .ok (.aload_n 0, 1) := by decide +kernel
theorem dX9_day_49 : decode cX9_day 49 = .ok (.getfield 84, 3) := by decide +kernel
theorem dX9_day_52 : decode cX9_day 52 = .ok (.bipush 33, 2) := by decide +kernel
theorem dX9_day_54 : decode cX9_day 54 = .ok (.lushr, 1) := by decide +kernel
theorem dX9_day_55 : decode cX9_day 55 = .ok (.ldc2_w 281, 3) := by decide +kernel
theorem dX9_day_58 : decode cX9_day 58 = .ok (.lrem, 1) := by decide +kernel
theorem dX9_day_59 : decode cX9_day 59 = .ok (.l2i, 1) := by decide +kernel
theorem dX9_day_60 : decode cX9_day 60 = .ok (.istore_n 3, 1) := by decide +kernel
theorem dX9_day_61 : decode cX9_day 61 = .ok (.aload_n 0, 1) := by decide +kernel
theorem dX9_day_62 : decode cX9_day 62 = .ok (.getfield 32, 3) := by decide +kernel
theorem dX9_day_65 : decode cX9_day 65 = .ok (.iload_n 3, 1) := by decide +kernel
theorem dX9_day_66 : decode cX9_day 66 = .ok (.bipush 10, 2) := by decide +kernel
theorem dX9_day_68 : decode cX9_day 68 = .ok (.idiv, 1) := by decide +kernel
theorem dX9_day_69 : decode cX9_day 69 = .ok (.iload_n 3, 1) := by decide +kernel
theorem dX9_day_70 : decode cX9_day 70 = .ok (.bipush 10, 2) := by decide +kernel
theorem dX9_day_72 : decode cX9_day 72 = .ok (.irem, 1) := by decide +kernel
theorem dX9_day_73 : decode cX9_day 73 = .ok (.invokevirtual 238, 3) := by decide +kernel
theorem dX9_day_76 : decode cX9_day 76 = .ok (.pop, 1) := by decide +kernel
theorem dX9_day_77 : decode cX9_day 77 = .ok (.iinc 2 1, 3) := by decide +kernel
theorem dX9_day_80 : decode cX9_day 80 = .ok (.goto (-53), 3) := by decide +kernel
theorem dX9_day_83 : decode cX9_day 83 = .ok (.aload_n 0, 1) := by decide +kernel
theorem dX9_day_84 : decode cX9_day 84 = .ok (.getfield 32, 3) := by decide +kernel
theorem dX9_day_87 : decode cX9_day 87 = .ok (.invokevirtual 187, 3) := by decide +kernel
theorem dX9_day_90 : decode cX9_day 90 = .ok (.ireturn, 1) := by decide +kernel
theorem dX9_keep_0 : decode cX9_keep 0 = .ok (.aload_n 0, 1) := by decide +kernel
theorem dX9_keep_1 : decode cX9_keep 1 = .ok (.iload_n 1, 1) := by decide +kernel
theorem dX9_keep_2 : decode cX9_keep 2 = .ok (.invokevirtual 283, 3) := by decide +kernel
theorem dX9_keep_5 : decode cX9_keep 5 = .ok (.astore_n 2, 1) := by decide +kernel
theorem dX9_keep_6 : decode cX9_keep 6 = .ok (.aload_n 2, 1) := by decide +kernel
theorem dX9_keep_7 : decode cX9_keep 7 = .ok (.ifnonnull 5, 3) := by decide +kernel
theorem dX9_keep_10 : decode cX9_keep 10 = .ok (.iconst (-1), 1) := by decide +kernel
theorem dX9_keep_11 : decode cX9_keep 11 = .ok (.ireturn, 1) := by decide +kernel
theorem dX9_keep_12 : decode cX9_keep 12 = .ok (.aload_n 2, 1) := by decide +kernel
theorem dX9_keep_13 : decode cX9_keep 13 = .ok (.aload_n 0, 1) := by decide +kernel
theorem dX9_keep_14 : decode cX9_keep 14 = .ok (.getfield 28, 3) := by decide +kernel
theorem dX9_keep_17 : decode cX9_keep 17 = .ok (.invokevirtual 287, 3) := by decide +kernel
theorem dX9_keep_20 : decode cX9_keep 20 = .ok (.aload_n 0, 1) := by decide +kernel
theorem dX9_keep_21 : decode cX9_keep 21 = .ok (.getfield 28, 3) := by decide +kernel
theorem dX9_keep_24 : decode cX9_keep 24 = .ok (.invokevirtual 187, 3) := by decide +kernel
theorem dX9_keep_27 : decode cX9_keep 27 = .ok (.ireturn, 1) := by decide +kernel
theorem dX9_again_0 : decode cX9_again 0 = .ok (.aload_n 0, 1) := by decide +kernel
theorem dX9_again_1 : decode cX9_again 1 = .ok (.iload_n 1, 1) := by decide +kernel
theorem dX9_again_2 : decode cX9_again 2 = .ok (.invokevirtual 283, 3) := by decide +kernel
theorem dX9_again_5 : decode cX9_again 5 = .ok (.astore_n 2, 1) := by decide +kernel
theorem dX9_again_6 : decode cX9_again 6 = .ok (.aload_n 2, 1) := by decide +kernel
theorem dX9_again_7 : decode cX9_again 7 = .ok (.ifnonnull 5, 3) := by decide +kernel
theorem dX9_again_10 : decode cX9_again 10 = .ok (.iconst (-1), 1) := by decide +kernel
theorem dX9_again_11 : decode cX9_again 11 = .ok (.ireturn, 1) := by decide +kernel
theorem dX9_again_12 : decode cX9_again 12 = .ok (.aload_n 2, 1) := by decide +kernel
theorem dX9_again_13 : decode cX9_again 13 = .ok (.getfield 290, 3) := by decide +kernel
theorem dX9_again_16 : decode cX9_again 16 = .ok (.ifCond .ne 6, 3) := by decide +kernel
theorem dX9_again_19 : decode cX9_again 19 = .ok (.bipush (-3), 2) := by decide +kernel
theorem dX9_again_21 : decode cX9_again 21 = .ok (.ireturn, 1) := by decide +kernel
theorem dX9_again_22 : decode cX9_again 22 = .ok (.aload_n 0, 1) := by decide +kernel
theorem dX9_again_23 : decode cX9_again 23 = .ok (.getfield 28, 3) := by decide +kernel
theorem dX9_again_26 : decode cX9_again 26 = .ok (.aload_n 2, 1) := by decide +kernel
theorem dX9_again_27 : decode cX9_again 27 = .ok (.getfield 294, 3) := by decide +kernel
theorem dX9_again_30 : decode cX9_again 30 = .ok (.invokevirtual 235, 3) := by decide +kernel
theorem dX9_again_33 : decode cX9_again 33 = .ok (.aload_n 0, 1) := by decide +kernel
theorem dX9_again_34 : decode cX9_again 34 = .ok (.getfield 48, 3) := by decide +kernel
theorem dX9_again_37 : decode cX9_again 37 = .ok (.invokevirtual 105, 3) := by decide +kernel
theorem dX9_again_40 : decode cX9_again 40 = .ok (.aload_n 0, 1) := by decide +kernel
theorem dX9_again_41 : decode cX9_again 41 = .ok (.getfield 28, 3) := by decide +kernel
theorem dX9_again_44 : decode cX9_again 44 = .ok (.invokevirtual 187, 3) := by decide +kernel
theorem dX9_again_47 : decode cX9_again 47 = .ok (.ireturn, 1) := by decide +kernel
theorem dX9_count_0 : decode cX9_count 0 = .ok (.iload_n 1, 1) := by decide +kernel
theorem dX9_count_1 : decode cX9_count 1 = .ok (.tableswitch 114 0 7 #[47, 55, 63, 71, 79, 87, 98, 106], 47) := by decide +kernel
theorem dX9_count_48 : decode cX9_count 48 = .ok (.aload_n 0, 1) := by decide +kernel
theorem dX9_count_49 : decode cX9_count 49 = .ok (.getfield 10, 3) := by decide +kernel
theorem dX9_count_52 : decode cX9_count 52 = .ok (.getfield 297, 3) := by decide +kernel
theorem dX9_count_55 : decode cX9_count 55 = .ok (.ireturn, 1) := by decide +kernel
theorem dX9_count_56 : decode cX9_count 56 = .ok (.aload_n 0, 1) := by decide +kernel
theorem dX9_count_57 : decode cX9_count 57 = .ok (.getfield 19, 3) := by decide +kernel
theorem dX9_count_60 : decode cX9_count 60 = .ok (.getfield 109, 3) := by decide +kernel
theorem dX9_count_63 : decode cX9_count 63 = .ok (.ireturn, 1) := by decide +kernel
theorem dX9_count_64 : decode cX9_count 64 = .ok (.aload_n 0, 1) := by decide +kernel
theorem dX9_count_65 : decode cX9_count 65 = .ok (.getfield 19, 3) := by decide +kernel
theorem dX9_count_68 : decode cX9_count 68 = .ok (.getfield 113, 3) := by decide +kernel
theorem dX9_count_71 : decode cX9_count 71 = .ok (.ireturn, 1) := by decide +kernel
theorem dX9_count_72 : decode cX9_count 72 = .ok (.aload_n 0, 1) := by decide +kernel
theorem dX9_count_73 : decode cX9_count 73 = .ok (.getfield 28, 3) := by decide +kernel
theorem dX9_count_76 : decode cX9_count 76 = .ok (.invokevirtual 300, 3) := by decide +kernel
theorem dX9_count_79 : decode cX9_count 79 = .ok (.ireturn, 1) := by decide +kernel
theorem dX9_count_80 : decode cX9_count 80 = .ok (.aload_n 0, 1) := by decide +kernel
theorem dX9_count_81 : decode cX9_count 81 = .ok (.getfield 28, 3) := by decide +kernel
theorem dX9_count_84 : decode cX9_count 84 = .ok (.invokevirtual 187, 3) := by decide +kernel
theorem dX9_count_87 : decode cX9_count 87 = .ok (.ireturn, 1) := by decide +kernel
theorem dX9_count_88 : decode cX9_count 88 = .ok (.aload_n 0, 1) := by decide +kernel
theorem dX9_count_89 : decode cX9_count 89 = .ok (.getfield 28, 3) := by decide +kernel
theorem dX9_count_92 : decode cX9_count 92 = .ok (.invokevirtual 130, 3) := by decide +kernel
theorem dX9_count_95 : decode cX9_count 95 = .ok (.invokestatic 303, 3) := by decide +kernel
theorem dX9_count_98 : decode cX9_count 98 = .ok (.ireturn, 1) := by decide +kernel
theorem dX9_count_99 : decode cX9_count 99 = .ok (.aload_n 0, 1) := by decide +kernel
theorem dX9_count_100 : decode cX9_count 100 = .ok (.getfield 48, 3) := by decide +kernel
theorem dX9_count_103 : decode cX9_count 103 = .ok (.getfield 190, 3) := by decide +kernel
theorem dX9_count_106 : decode cX9_count 106 = .ok (.ireturn, 1) := by decide +kernel
theorem dX9_count_107 : decode cX9_count 107 = .ok (.aload_n 0, 1) := by decide +kernel
theorem dX9_count_108 : decode cX9_count 108 = .ok (.getfield 62, 3) := by decide +kernel
theorem dX9_count_111 : decode cX9_count 111 = .ok (.getfield 306, 3) := by decide +kernel
theorem dX9_count_114 : decode cX9_count 114 = .ok (.ireturn, 1) := by decide +kernel
theorem dX9_count_115 : decode cX9_count 115 = .ok (.bipush (-2), 2) := by decide +kernel
theorem dX9_count_117 : decode cX9_count 117 = .ok (.ireturn, 1) := by decide +kernel
theorem dX9_slotOf_0 : decode cX9_slotOf 0 = .ok (.iload_n 1, 1) := by decide +kernel
theorem dX9_slotOf_1 : decode cX9_slotOf 1 = .ok (.ifCond .ne 8, 3) := by decide +kernel
theorem dX9_slotOf_4 : decode cX9_slotOf 4 = .ok (.aload_n 0, 1) := by decide +kernel
theorem dX9_slotOf_5 : decode cX9_slotOf 5 = .ok (.getfield 38, 3) := by decide +kernel
theorem dX9_slotOf_8 : decode cX9_slotOf 8 = .ok (.areturn, 1) := by decide +kernel
theorem dX9_slotOf_9 : decode cX9_slotOf 9 = .ok (.iload_n 1, 1) := by decide +kernel
theorem dX9_slotOf_10 : decode cX9_slotOf 10 = .ok (.iconst 1, 1) := by decide +kernel
theorem dX9_slotOf_11 : decode cX9_slotOf 11 = .ok (.if_icmp .ne 10, 3) := by decide +kernel
theorem dX9_slotOf_14 : decode cX9_slotOf 14 = .ok (.aload_n 0, 1) := by decide +kernel
theorem dX9_slotOf_15 : decode cX9_slotOf 15 = .ok (.getfield 42, 3) := by decide +kernel
theorem dX9_slotOf_18 : decode cX9_slotOf 18 = .ok (.goto 4, 3) := by decide +kernel
theorem dX9_slotOf_21 : decode cX9_slotOf 21 = .ok (.aconst_null, 1) := by decide +kernel
theorem dX9_slotOf_22 : decode cX9_slotOf 22 = .ok (.areturn, 1) := by decide +kernel
theorem dX9_isSecond_0 : decode cX9_isSecond 0 = .ok (.iload_n 0, 1) := by decide +kernel
theorem dX9_isSecond_1 : decode cX9_isSecond 1 = .ok (.ifCond .lt 13, 3) := by decide +kernel
theorem dX9_isSecond_4 : decode cX9_isSecond 4 = .ok (.iload_n 0, 1) := by decide +kernel
theorem dX9_isSecond_5 : decode cX9_isSecond 5 = .ok (.bipush 10, 2) := by decide +kernel
theorem dX9_isSecond_7 : decode cX9_isSecond 7 = .ok (.if_icmp .ge 7, 3) := by decide +kernel
theorem dX9_isSecond_10 : decode cX9_isSecond 10 = .ok (.iconst 1, 1) := by decide +kernel
theorem dX9_isSecond_11 : decode cX9_isSecond 11 = .ok (.goto 4, 3) := by decide +kernel
theorem dX9_isSecond_14 : decode cX9_isSecond 14 = .ok (.iconst 0, 1) := by decide +kernel
theorem dX9_isSecond_15 : decode cX9_isSecond 15 = .ok (.ireturn, 1) := by decide +kernel
theorem dX9_isBid_0 : decode cX9_isBid 0 = .ok (.iload_n 0, 1) := by decide +kernel
theorem dX9_isBid_1 : decode cX9_isBid 1 = .ok (.ifCond .lt 13, 3) := by decide +kernel
theorem dX9_isBid_4 : decode cX9_isBid 4 = .ok (.iload_n 0, 1) := by decide +kernel
theorem dX9_isBid_5 : decode cX9_isBid 5 = .ok (.bipush 9, 2) := by decide +kernel
theorem dX9_isBid_7 : decode cX9_isBid 7 = .ok (.if_icmp .gt 7, 3) := by decide +kernel
theorem dX9_isBid_10 : decode cX9_isBid 10 = .ok (.iconst 1, 1) := by decide +kernel
theorem dX9_isBid_11 : decode cX9_isBid 11 = .ok (.goto 4, 3) := by decide +kernel
theorem dX9_isBid_14 : decode cX9_isBid 14 = .ok (.iconst 0, 1) := by decide +kernel
theorem dX9_isBid_15 : decode cX9_isBid 15 = .ok (.ireturn, 1) := by decide +kernel
theorem dX9_at_0 : decode cX9_at 0 = .ok (.iload_n 1, 1) := by decide +kernel
theorem dX9_at_1 : decode cX9_at 1 = .ok (.ifCond .lt 15, 3) := by decide +kernel
theorem dX9_at_4 : decode cX9_at 4 = .ok (.iload_n 1, 1) := by decide +kernel
theorem dX9_at_5 : decode cX9_at 5 = .ok (.aload_n 0, 1) := by decide +kernel
theorem dX9_at_6 : decode cX9_at 6 = .ok (.arraylength, 1) := by decide +kernel
theorem dX9_at_7 : decode cX9_at 7 = .ok (.if_icmp .ge 9, 3) := by decide +kernel
theorem dX9_at_10 : decode cX9_at 10 = .ok (.aload_n 0, 1) := by decide +kernel
theorem dX9_at_11 : decode cX9_at 11 = .ok (.iload_n 1, 1) := by decide +kernel
theorem dX9_at_12 : decode cX9_at 12 = .ok (.iaload, 1) := by decide +kernel
theorem dX9_at_13 : decode cX9_at 13 = .ok (.goto 5, 3) := by decide +kernel
theorem dX9_at_16 : decode cX9_at 16 = .ok (.bipush (-9), 2) := by decide +kernel
theorem dX9_at_18 : decode cX9_at 18 = .ok (.ireturn, 1) := by decide +kernel
theorem dX9_stretch_0 : decode cX9_stretch 0 = .ok (.iconst 1, 1) := by decide +kernel
theorem dX9_stretch_1 : decode cX9_stretch 1 = .ok (.iload_n 1, 1) := by decide +kernel
theorem dX9_stretch_2 : decode cX9_stretch 2 = .ok (.ishl, 1) := by decide +kernel
theorem dX9_stretch_3 : decode cX9_stretch 3 = .ok (.iconst 1, 1) := by decide +kernel
theorem dX9_stretch_4 : decode cX9_stretch 4 = .ok (.isub, 1) := by decide +kernel
theorem dX9_stretch_5 : decode cX9_stretch 5 = .ok (.iload_n 0, 1) := by decide +kernel
theorem dX9_stretch_6 : decode cX9_stretch 6 = .ok (.ishl, 1) := by decide +kernel
theorem dX9_stretch_7 : decode cX9_stretch 7 = .ok (.ireturn, 1) := by decide +kernel
theorem dX9_secondsOf_0 : decode cX9_secondsOf 0 = .ok (.iload_n 0, 1) := by decide +kernel
theorem dX9_secondsOf_1 : decode cX9_secondsOf 1 = .ok (.bipush 10, 2) := by decide +kernel
theorem dX9_secondsOf_3 : decode cX9_secondsOf 3 = .ok (.iload_n 1, 1) := by decide +kernel
theorem dX9_secondsOf_4 : decode cX9_secondsOf 4 = .ok (.imul, 1) := by decide +kernel
theorem dX9_secondsOf_5 : decode cX9_secondsOf 5 = .ok (.iushr, 1) := by decide +kernel
theorem dX9_secondsOf_6 : decode cX9_secondsOf 6 = .ok (.sipush 1023, 3) := by decide +kernel
theorem dX9_secondsOf_9 : decode cX9_secondsOf 9 = .ok (.iand, 1) := by decide +kernel
theorem dX9_secondsOf_10 : decode cX9_secondsOf 10 = .ok (.ireturn, 1) := by decide +kernel
theorem dX9_ofAnyBell_0 : decode cX9_ofAnyBell 0 = .ok (.iload_n 0, 1) := by decide +kernel
theorem dX9_ofAnyBell_1 : decode cX9_ofAnyBell 1 = .ok (.iload_n 0, 1) := by decide +kernel
theorem dX9_ofAnyBell_2 : decode cX9_ofAnyBell 2 = .ok (.bipush 10, 2) := by decide +kernel
theorem dX9_ofAnyBell_4 : decode cX9_ofAnyBell 4 = .ok (.iushr, 1) := by decide +kernel
theorem dX9_ofAnyBell_5 : decode cX9_ofAnyBell 5 = .ok (.ior, 1) := by decide +kernel
theorem dX9_ofAnyBell_6 : decode cX9_ofAnyBell 6 = .ok (.iload_n 0, 1) := by decide +kernel
theorem dX9_ofAnyBell_7 : decode cX9_ofAnyBell 7 = .ok (.bipush 20, 2) := by decide +kernel
theorem dX9_ofAnyBell_9 : decode cX9_ofAnyBell 9 = .ok (.iushr, 1) := by decide +kernel
theorem dX9_ofAnyBell_10 : decode cX9_ofAnyBell 10 = .ok (.ior, 1) := by decide +kernel
theorem dX9_ofAnyBell_11 : decode cX9_ofAnyBell 11 = .ok (.sipush 1023, 3) := by decide +kernel
theorem dX9_ofAnyBell_14 : decode cX9_ofAnyBell 14 = .ok (.iand, 1) := by decide +kernel
theorem dX9_ofAnyBell_15 : decode cX9_ofAnyBell 15 = .ok (.ireturn, 1) := by decide +kernel
theorem dX9_bellsAt_0 : decode cX9_bellsAt 0 = .ok (.iconst 0, 1) := by decide +kernel
theorem dX9_bellsAt_1 : decode cX9_bellsAt 1 = .ok (.istore_n 2, 1) := by decide +kernel
theorem dX9_bellsAt_2 : decode cX9_bellsAt 2 = .ok (.iconst 0, 1) := by decide +kernel
theorem dX9_bellsAt_3 : decode cX9_bellsAt 3 = .ok (.istore_n 3, 1) := by decide +kernel
theorem dX9_bellsAt_4 : decode cX9_bellsAt 4 = .ok (.iload_n 3, 1) := by decide +kernel
theorem dX9_bellsAt_5 : decode cX9_bellsAt 5 = .ok (.iconst 3, 1) := by decide +kernel
theorem dX9_bellsAt_6 : decode cX9_bellsAt 6 = .ok (.if_icmp .ge 23, 3) := by decide +kernel
theorem dX9_bellsAt_9 : decode cX9_bellsAt 9 = .ok (.iload_n 2, 1) := by decide +kernel
theorem dX9_bellsAt_10 : decode cX9_bellsAt 10 = .ok (.iload_n 0, 1) := by decide +kernel
theorem dX9_bellsAt_11 : decode cX9_bellsAt 11 = .ok (.iload_n 3, 1) := by decide +kernel
theorem dX9_bellsAt_12 : decode cX9_bellsAt 12 = .ok (.invokestatic 133, 3) := by decide +kernel
theorem dX9_bellsAt_15 : decode cX9_bellsAt 15 = .ok (.iload_n 1, 1) := by decide +kernel
theorem dX9_bellsAt_16 : decode cX9_bellsAt 16 = .ok (.iushr, 1) := by decide +kernel
theorem dX9_bellsAt_17 : decode cX9_bellsAt 17 = .ok (.iconst 1, 1) := by decide +kernel
theorem dX9_bellsAt_18 : decode cX9_bellsAt 18 = .ok (.iand, 1) := by decide +kernel
theorem dX9_bellsAt_19 : decode cX9_bellsAt 19 = .ok (.iload_n 3, 1) := by decide +kernel
theorem dX9_bellsAt_20 : decode cX9_bellsAt 20 = .ok (.ishl, 1) := by decide +kernel
theorem dX9_bellsAt_21 : decode cX9_bellsAt 21 = .ok (.ior, 1) := by decide +kernel
theorem dX9_bellsAt_22 : decode cX9_bellsAt 22 = .ok (.istore_n 2, 1) := by decide +kernel
theorem dX9_bellsAt_23 : decode cX9_bellsAt 23 = .ok (.iinc 3 1, 3) := by decide +kernel
theorem dX9_bellsAt_26 : decode cX9_bellsAt 26 = .ok (.goto (-22), 3) := by decide +kernel
theorem dX9_bellsAt_29 : decode cX9_bellsAt 29 = .ok (.iload_n 2, 1) := by decide +kernel
theorem dX9_bellsAt_30 : decode cX9_bellsAt 30 = .ok (.ireturn, 1) := by decide +kernel
theorem dX9_commonDivisor_0 : decode cX9_commonDivisor 0 = .ok (.iload_n 0, 1) := by decide +kernel
theorem dX9_commonDivisor_1 : decode cX9_commonDivisor 1 = .ok (.istore_n 2, 1) := by decide +kernel
theorem dX9_commonDivisor_2 : decode cX9_commonDivisor 2 = .ok (.iload_n 1, 1) := by decide +kernel
theorem dX9_commonDivisor_3 : decode cX9_commonDivisor 3 = .ok (.istore_n 3, 1) := by decide +kernel
theorem dX9_commonDivisor_4 : decode cX9_commonDivisor 4 = .ok (.iconst 0, 1) := by decide +kernel
theorem dX9_commonDivisor_5 : decode cX9_commonDivisor 5 = .ok (.istore 4, 2) := by decide +kernel
theorem dX9_commonDivisor_7 : decode cX9_commonDivisor 7 = .ok (.iload 4, 2) := by decide +kernel
theorem dX9_commonDivisor_9 : decode cX9_commonDivisor 9 = .ok (.bipush 64, 2) := by decide +kernel
theorem dX9_commonDivisor_11 : decode cX9_commonDivisor 11 = .ok (.if_icmp .ge 23, 3) := by decide +kernel
theorem dX9_commonDivisor_14 : decode cX9_commonDivisor 14 = .ok (.iload_n 3, 1) := by decide +kernel
theorem dX9_commonDivisor_15 : decode cX9_commonDivisor 15 = .ok (.ifCond .eq 19, 3) := by decide +kernel
theorem dX9_commonDivisor_18 : decode cX9_commonDivisor 18 = .ok (.iload_n 2, 1) := by decide +kernel
theorem dX9_commonDivisor_19 : decode cX9_commonDivisor 19 = .ok (.iload_n 3, 1) := by decide +kernel
theorem dX9_commonDivisor_20 : decode cX9_commonDivisor 20 = .ok (.irem, 1) := by decide +kernel
theorem dX9_commonDivisor_21 : decode cX9_commonDivisor 21 = .ok (.istore 5, 2) := by decide +kernel
theorem dX9_commonDivisor_23 : decode cX9_commonDivisor 23 = .ok (.iload_n 3, 1) := by decide +kernel
theorem dX9_commonDivisor_24 : decode cX9_commonDivisor 24 = .ok (.istore_n 2, 1) := by decide +kernel
theorem dX9_commonDivisor_25 : decode cX9_commonDivisor 25 = .ok (.iload 5, 2) := by decide +kernel
theorem dX9_commonDivisor_27 : decode cX9_commonDivisor 27 = .ok (.istore_n 3, 1) := by decide +kernel
theorem dX9_commonDivisor_28 : decode cX9_commonDivisor 28 = .ok (.iinc 4 1, 3) := by decide +kernel
theorem dX9_commonDivisor_31 : decode cX9_commonDivisor 31 = .ok (.goto (-24), 3) := by decide +kernel
theorem dX9_commonDivisor_34 : decode cX9_commonDivisor 34 = .ok (.iload_n 2, 1) := by decide +kernel
theorem dX9_commonDivisor_35 : decode cX9_commonDivisor 35 = .ok (.ireturn, 1) := by decide +kernel
theorem dX9_rests_0 : decode cX9_rests 0 = .ok (.iconst 0, 1) := by decide +kernel
theorem dX9_rests_1 : decode cX9_rests 1 = .ok (.istore 4, 2) := by decide +kernel
theorem dX9_rests_3 : decode cX9_rests 3 = .ok (.iload 4, 2) := by decide +kernel
theorem dX9_rests_5 : decode cX9_rests 5 = .ok (.bipush 9, 2) := by decide +kernel
theorem dX9_rests_7 : decode cX9_rests 7 = .ok (.if_icmp .gt 45, 3) := by decide +kernel
theorem dX9_rests_10 : decode cX9_rests 10 = .ok (.iload_n 0, 1) := by decide +kernel
theorem dX9_rests_11 : decode cX9_rests 11 = .ok (.iload 4, 2) := by decide +kernel
theorem dX9_rests_13 : decode cX9_rests 13 = .ok (.iload_n 3, 1) := by decide +kernel
theorem dX9_rests_14 : decode cX9_rests 14 = .ok (.invokestatic 307, 3) := by decide +kernel
theorem dX9_rests_17 : decode cX9_rests 17 = .ok (.iload_n 0, 1) := by decide +kernel
theorem dX9_rests_18 : decode cX9_rests 18 = .ok (.iload_n 2, 1) := by decide +kernel
theorem dX9_rests_19 : decode cX9_rests 19 = .ok (.iload_n 3, 1) := by decide +kernel
theorem dX9_rests_20 : decode cX9_rests 20 = .ok (.invokestatic 307, 3) := by decide +kernel
theorem dX9_rests_23 : decode cX9_rests 23 = .ok (.if_icmp .le 5, 3) := by decide +kernel
theorem dX9_rests_26 : decode cX9_rests 26 = .ok (.iconst 0, 1) := by decide +kernel
theorem dX9_rests_27 : decode cX9_rests 27 = .ok (.ireturn, 1) := by decide +kernel
theorem dX9_rests_28 : decode cX9_rests 28 = .ok (.iload_n 1, 1) := by decide +kernel
theorem dX9_rests_29 : decode cX9_rests 29 = .ok (.iload_n 2, 1) := by decide +kernel
theorem dX9_rests_30 : decode cX9_rests 30 = .ok (.iload 4, 2) := by decide +kernel
theorem dX9_rests_32 : decode cX9_rests 32 = .ok (.invokestatic 311, 3) := by decide +kernel
theorem dX9_rests_35 : decode cX9_rests 35 = .ok (.iload_n 1, 1) := by decide +kernel
theorem dX9_rests_36 : decode cX9_rests 36 = .ok (.iload_n 2, 1) := by decide +kernel
theorem dX9_rests_37 : decode cX9_rests 37 = .ok (.iload_n 3, 1) := by decide +kernel
theorem dX9_rests_38 : decode cX9_rests 38 = .ok (.invokestatic 311, 3) := by decide +kernel
theorem dX9_rests_41 : decode cX9_rests 41 = .ok (.if_icmp .le 5, 3) := by decide +kernel
theorem dX9_rests_44 : decode cX9_rests 44 = .ok (.iconst 0, 1) := by decide +kernel
theorem dX9_rests_45 : decode cX9_rests 45 = .ok (.ireturn, 1) := by decide +kernel
theorem dX9_rests_46 : decode cX9_rests 46 = .ok (.iinc 4 1, 3) := by decide +kernel
theorem dX9_rests_49 : decode cX9_rests 49 = .ok (.goto (-46), 3) := by decide +kernel
theorem dX9_rests_52 : decode cX9_rests 52 = .ok (.iconst 1, 1) := by decide +kernel
theorem dX9_rests_53 : decode cX9_rests 53 = .ok (.ireturn, 1) := by decide +kernel
theorem dX9_gainOfOne_0 : decode cX9_gainOfOne 0 = .ok (.iload_n 1, 1) := by decide +kernel
theorem dX9_gainOfOne_1 : decode cX9_gainOfOne 1 = .ok (.iload_n 2, 1) := by decide +kernel
theorem dX9_gainOfOne_2 : decode cX9_gainOfOne 2 = .ok (.if_icmp .lt 9, 3) := by decide +kernel
theorem dX9_gainOfOne_5 : decode cX9_gainOfOne 5 = .ok (.iload_n 0, 1) := by decide +kernel
theorem dX9_gainOfOne_6 : decode cX9_gainOfOne 6 = .ok (.iload_n 1, 1) := by decide +kernel
theorem dX9_gainOfOne_7 : decode cX9_gainOfOne 7 = .ok (.isub, 1) := by decide +kernel
theorem dX9_gainOfOne_8 : decode cX9_gainOfOne 8 = .ok (.goto 4, 3) := by decide +kernel
theorem dX9_gainOfOne_11 : decode cX9_gainOfOne 11 = .ok (.iconst 0, 1) := by decide +kernel
theorem dX9_gainOfOne_12 : decode cX9_gainOfOne 12 = .ok (.ireturn, 1) := by decide +kernel
theorem dX9_gainOfOther_0 : decode cX9_gainOfOther 0 = .ok (.iload_n 2, 1) := by decide +kernel
theorem dX9_gainOfOther_1 : decode cX9_gainOfOther 1 = .ok (.iload_n 1, 1) := by decide +kernel
theorem dX9_gainOfOther_2 : decode cX9_gainOfOther 2 = .ok (.if_icmp .le 9, 3) := by decide +kernel
theorem dX9_gainOfOther_5 : decode cX9_gainOfOther 5 = .ok (.iload_n 0, 1) := by decide +kernel
theorem dX9_gainOfOther_6 : decode cX9_gainOfOther 6 = .ok (.iload_n 2, 1) := by decide +kernel
theorem dX9_gainOfOther_7 : decode cX9_gainOfOther 7 = .ok (.isub, 1) := by decide +kernel
theorem dX9_gainOfOther_8 : decode cX9_gainOfOther 8 = .ok (.goto 4, 3) := by decide +kernel
theorem dX9_gainOfOther_11 : decode cX9_gainOfOther 11 = .ok (.iconst 0, 1) := by decide +kernel
theorem dX9_gainOfOther_12 : decode cX9_gainOfOther 12 = .ok (.ireturn, 1) := by decide +kernel
