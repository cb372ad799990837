theorem dX7_init_0 : decode cX7_init 0 = .ok (.aload_n 0, 1) := by decide +kernel
theorem dX7_init_1 : decode cX7_init 1 = .ok (.invokespecial 3, 3) := by decide +kernel
theorem dX7_init_4 : decode cX7_init 4 = .ok (.aload_n 0, 1) := by decide +kernel
theorem dX7_init_5 : decode cX7_init 5 = .ok (.bipush 48, 2) := by decide +kernel
theorem dX7_init_7 : decode cX7_init 7 = .ok (.newarray .int, 2) := by decide +kernel
theorem dX7_init_9 : decode cX7_init 9 = .ok (.putfield 9, 3) := by decide +kernel
theorem dX7_init_12 : decode cX7_init 12 = .ok (.aload_n 0, 1) := by decide +kernel
theorem dX7_init_13 : decode cX7_init 13 = .ok (.iconst 0, 1) := by decide +kernel
theorem dX7_init_14 : decode cX7_init 14 = .ok (.putfield 15, 3) := by decide +kernel
theorem dX7_init_17 : decode cX7_init 17 = .ok (.return_, 1) := by decide +kernel
theorem dX7_append_0 : decode cX7_append 0 = .ok (.aload_n 0, 1) := by decide +kernel
theorem dX7_append_1 : decode cX7_append 1 = .ok (.getfield 15, 3) := by decide +kernel
theorem dX7_append_4 : decode cX7_append 4 = .ok (.ifCond .lt 12, 3) := by decide +kernel
theorem dX7_append_7 : decode cX7_append 7 = .ok (.aload_n 0, 1) := by decide +kernel
theorem dX7_append_8 : decode cX7_append 8 = .ok (.getfield 15, 3) := by decide +kernel
theorem dX7_append_11 : decode cX7_append 11 = .ok (.bipush 48, 2) := by decide +kernel
theorem dX7_append_13 : decode cX7_append 13 = .ok (.if_icmp .lt 6, 3) := by decide +kernel
theorem dX7_append_16 : decode cX7_append 16 = .ok (.bipush (-4), 2) := by decide +kernel
theorem dX7_append_18 : decode cX7_append 18 = .ok (.ireturn, 1) := by decide +kernel
theorem dX7_append_19 : decode cX7_append 19 = .ok (.aload_n 0, 1) := by decide +kernel
theorem dX7_append_20 : decode cX7_append 20 = .ok (.getfield 9, 3) := by decide +kernel
theorem dX7_append_23 : decode cX7_append 23 = .ok (.aload_n 0, 1) := by decide +kernel
theorem dX7_append_24 : decode cX7_append 24 = .ok (.getfield 15, 3) := by decide +kernel
theorem dX7_append_27 : decode cX7_append 27 = .ok (.iload_n 1, 1) := by decide +kernel
theorem dX7_append_28 : decode cX7_append 28 = .ok (.iastore, 1) := by decide +kernel
theorem dX7_append_29 : decode cX7_append 29 = .ok (.aload_n 0, 1) := by decide +kernel
theorem dX7_append_30 : decode cX7_append 30 = .ok (.dup, 1) := by decide +kernel
theorem dX7_append_31 : decode cX7_append 31 = .ok (.getfield 15, 3) := by decide +kernel
theorem dX7_append_34 : decode cX7_append 34 = .ok (.iconst 1, 1) := by decide +kernel
theorem dX7_append_35 : decode cX7_append 35 = .ok (.iadd, 1) := by decide +kernel
theorem dX7_append_36 : decode cX7_append 36 = .ok (.putfield 15, 3) := by decide +kernel
theorem dX7_append_39 : decode cX7_append 39 = .ok (.aload_n 0, 1) := by decide +kernel
theorem dX7_append_40 : decode cX7_append 40 = .ok (.getfield 15, 3) := by decide +kernel
theorem dX7_append_43 : decode cX7_append 43 = .ok (.ireturn, 1) := by decide +kernel
theorem dX7_clear_0 : decode cX7_clear 0 = .ok (.aload_n 0, 1) := by decide +kernel
theorem dX7_clear_1 : decode cX7_clear 1 = .ok (.getfield 15, 3) := by decide +kernel
theorem dX7_clear_4 : decode cX7_clear 4 = .ok (.istore_n 1, 1) := by decide +kernel
theorem dX7_clear_5 : decode cX7_clear 5 = .ok (.aload_n 0, 1) := by decide +kernel
theorem dX7_clear_6 : decode cX7_clear 6 = .ok (.iconst 0, 1) := by decide +kernel
theorem dX7_clear_7 : decode cX7_clear 7 = .ok (.putfield 15, 3) := by decide +kernel
theorem dX7_clear_10 : decode cX7_clear 10 = .ok (.iload_n 1, 1) := by decide +kernel
theorem dX7_clear_11 : decode cX7_clear 11 = .ok (.ireturn, 1) := by decide +kernel
theorem dX7_letterAt_0 : decode cX7_letterAt 0 = .ok (.iload_n 1, 1) := by decide +kernel
theorem dX7_letterAt_1 : decode cX7_letterAt 1 = .ok (.aload_n 0, 1) := by decide +kernel
theorem dX7_letterAt_2 : decode cX7_letterAt 2 = .ok (.getfield 15, 3) := by decide +kernel
theorem dX7_letterAt_5 : decode cX7_letterAt 5 = .ok (.if_icmp .ge 14, 3) := by decide +kernel
theorem dX7_letterAt_8 : decode cX7_letterAt 8 = .ok (.aload_n 0, 1) := by decide +kernel
theorem dX7_letterAt_9 : decode cX7_letterAt 9 = .ok (.getfield 9, 3) := by decide +kernel
theorem dX7_letterAt_12 : decode cX7_letterAt 12 = .ok (.iload_n 1, 1) := by decide +kernel
theorem dX7_letterAt_13 : decode cX7_letterAt 13 = .ok (.invokestatic 19, 3) := by decide +kernel
theorem dX7_letterAt_16 : decode cX7_letterAt 16 = .ok (.goto 5, 3) := by decide +kernel
theorem dX7_letterAt_19 : decode cX7_letterAt 19 = .ok (.bipush (-9), 2) := by decide +kernel
theorem dX7_letterAt_21 : decode cX7_letterAt 21 = .ok (.ireturn, 1) := by decide +kernel
theorem dX7_figureAt_0 : decode cX7_figureAt 0 = .ok (.aload_n 0, 1) := by decide +kernel
theorem dX7_figureAt_1 : decode cX7_figureAt 1 = .ok (.iload_n 1, 1) := by decide +kernel
theorem dX7_figureAt_2 : decode cX7_figureAt 2 = .ok (.invokevirtual 23, 3) := by decide +kernel
theorem dX7_figureAt_5 : decode cX7_figureAt 5 = .ok (.bipush 48, 2) := by decide +kernel
theorem dX7_figureAt_7 : decode cX7_figureAt 7 = .ok (.isub, 1) := by decide +kernel
theorem dX7_figureAt_8 : decode cX7_figureAt 8 = .ok (.ireturn, 1) := by decide +kernel
theorem dX7_firstFault_0 : decode cX7_firstFault 0 = .ok (.aload_n 0, 1) := by decide +kernel
theorem dX7_firstFault_1 : decode cX7_firstFault 1 = .ok (.iconst 0, 1) := by decide +kernel
theorem dX7_firstFault_2 : decode cX7_firstFault 2 = .ok (.invokevirtual 23, 3) := by decide +kernel
theorem dX7_firstFault_5 : decode cX7_firstFault 5 = .ok (.bipush 84, 2) := by decide +kernel
theorem dX7_firstFault_7 : decode cX7_firstFault 7 = .ok (.if_icmp .eq 5, 3) := by decide +kernel
theorem dX7_firstFault_10 : decode cX7_firstFault 10 = .ok (.iconst 0, 1) := by decide +kernel
theorem dX7_firstFault_11 : decode cX7_firstFault 11 = .ok (.ireturn, 1) := by decide +kernel
theorem dX7_firstFault_12 : decode cX7_firstFault 12 = .ok (.iconst 0, 1) := by decide +kernel
theorem dX7_firstFault_13 : decode cX7_firstFault 13 = .ok (.istore_n 1, 1) := by decide +kernel
theorem dX7_firstFault_14 : decode cX7_firstFault 14 = .ok (.iconst 0, 1) := by decide +kernel
theorem dX7_firstFault_15 : decode cX7_firstFault 15 = .ok (.istore_n 2, 1) := by decide +kernel
theorem dX7_firstFault_16 : decode cX7_firstFault 16 = .ok (.iconst 1, 1) := by decide +kernel
theorem dX7_firstFault_17 : decode cX7_firstFault 17 = .ok (.istore_n 3, 1) := by decide +kernel
theorem dX7_firstFault_18 : decode cX7_firstFault 18 = .ok (.iconst 0, 1) := by decide +kernel
theorem dX7_firstFault_19 : decode cX7_firstFault 19 = .ok (.istore 4, 2) := by decide +kernel
theorem dX7_firstFault_21 : decode cX7_firstFault 21 = .ok (.iload 4, 2) := by decide +kernel
theorem dX7_firstFault_23 : decode cX7_firstFault 23 = .ok (.bipush 48, 2) := by decide +kernel
theorem dX7_firstFault_25 : decode cX7_firstFault 25 = .ok (.if_icmp .ge 98, 3) := by decide +kernel
theorem dX7_firstFault_28 : decode cX7_firstFault 28 = .ok (.iload_n 3, 1) := by decide +kernel
theorem dX7_firstFault_29 : decode cX7_firstFault 29 = .ok (.aload_n 0, 1) := by decide +kernel
theorem dX7_firstFault_30 : decode cX7_firstFault 30 = .ok (.getfield 15, 3) := by decide +kernel
theorem dX7_firstFault_33 : decode cX7_firstFault 33 = .ok (.if_icmp .ge 90, 3) := by decide +kernel
theorem dX7_firstFault_36 : decode cX7_firstFault 36 = .ok (.aload_n 0, 1) := by decide +kernel
theorem dX7_firstFault_37 : decode cX7_firstFault 37 = .ok (.iload_n 3, 1) := by decide +kernel
theorem dX7_firstFault_38 : decode cX7_firstFault 38 = .ok (.invokevirtual 23, 3) := by decide +kernel
theorem dX7_firstFault_41 : decode cX7_firstFault 41 = .ok (.istore 5, 2) := by decide +kernel
theorem dX7_firstFault_43 : decode cX7_firstFault 43 = .ok (.iload 5, 2) := by decide +kernel
theorem dX7_firstFault_45 : decode cX7_firstFault 45 = .ok (.iload_n 1, 1) := by decide +kernel
theorem dX7_firstFault_46 : decode cX7_firstFault 46 = .ok (.iload_n 2, 1) := by decide +kernel
theorem dX7_firstFault_47 : decode cX7_firstFault 47 = .ok (.invokestatic 27, 3) := by decide +kernel
theorem dX7_firstFault_50 : decode cX7_firstFault 50 = .ok (.ifCond .ne 5, 3) := by decide +kernel
theorem dX7_firstFault_53 : decode cX7_firstFault 53 = .ok (.iload_n 3, 1) := by decide +kernel
theorem dX7_firstFault_54 : decode cX7_firstFault 54 = .ok (.ireturn, 1) := by decide +kernel
theorem dX7_firstFault_55 : decode cX7_firstFault 55 = .ok (.iload_n 3, 1) := by decide +kernel
theorem dX7_firstFault_56 : decode cX7_firstFault 56 = .ok (.iload 5, 2) := by decide +kernel
theorem dX7_firstFault_58 : decode cX7_firstFault 58 = .ok (.invokestatic 31, 3) := by decide +kernel
theorem dX7_firstFault_61 : decode cX7_firstFault 61 = .ok (.iadd, 1) := by decide +kernel
theorem dX7_firstFault_62 : decode cX7_firstFault 62 = .ok (.istore 6, 2) := by decide +kernel
theorem dX7_firstFault_64 : decode cX7_firstFault 64 = .ok (.aload_n 0, 1) := by decide +kernel
theorem dX7_firstFault_65 : decode cX7_firstFault 65 = .ok (.iload 5, 2) := by decide +kernel
theorem dX7_firstFault_67 : decode cX7_firstFault 67 = .ok (.iload_n 3, 1) := by decide +kernel
theorem dX7_firstFault_68 : decode cX7_firstFault 68 = .ok (.iload_n 1, 1) := by decide +kernel
theorem dX7_firstFault_69 : decode cX7_firstFault 69 = .ok (.invokevirtual 34, 3) := by decide +kernel
theorem dX7_firstFault_72 : decode cX7_firstFault 72 = .ok (.istore 7, 2) := by decide +kernel
theorem dX7_firstFault_74 : decode cX7_firstFault 74 = .ok (.iload 7, 2) := by decide +kernel
theorem dX7_firstFault_76 : decode cX7_firstFault 76 = .ok (.iload 6, 2) := by decide +kernel
theorem dX7_firstFault_78 : decode cX7_firstFault 78 = .ok (.if_icmp .ge 6, 3) := by decide +kernel
theorem dX7_firstFault_81 : decode cX7_firstFault 81 = .ok (.iload 7, 2) := by decide +kernel
theorem dX7_firstFault_83 : decode cX7_firstFault 83 = .ok (.ireturn, 1) := by decide +kernel
theorem dX7_firstFault_84 : decode cX7_firstFault 84 = .ok (.iload_n 1, 1) := by decide +kernel
theorem dX7_firstFault_85 : decode cX7_firstFault 85 = .ok (.iload 5, 2) := by decide +kernel
theorem dX7_firstFault_87 : decode cX7_firstFault 87 = .ok (.bipush 66, 2) := by decide +kernel
theorem dX7_firstFault_89 : decode cX7_firstFault 89 = .ok (.if_icmp .ne 7, 3) := by decide +kernel
theorem dX7_firstFault_92 : decode cX7_firstFault 92 = .ok (.iconst 1, 1) := by decide +kernel
theorem dX7_firstFault_93 : decode cX7_firstFault 93 = .ok (.goto 4, 3) := by decide +kernel
theorem dX7_firstFault_96 : decode cX7_firstFault 96 = .ok (.iconst 0, 1) := by decide +kernel
theorem dX7_firstFault_97 : decode cX7_firstFault 97 = .ok (.iadd, 1) := by decide +kernel
theorem dX7_firstFault_98 : decode cX7_firstFault 98 = .ok (.istore_n 1, 1) := by decide +kernel
theorem dX7_firstFault_99 : decode cX7_firstFault 99 = .ok (.iload_n 2, 1) := by decide +kernel
theorem dX7_firstFault_100 : decode cX7_firstFault 100 = .ok (.iload 5, 2) := by decide +kernel
theorem dX7_firstFault_102 : decode cX7_firstFault 102 = .ok (.bipush 66, 2) := by decide +kernel
theorem dX7_firstFault_104 : decode cX7_firstFault 104 = .ok (.if_icmp .ne 7, 3) := by decide +kernel
theorem dX7_firstFault_107 : decode cX7_firstFault 107 = .ok (.iconst 0, 1) := by decide +kernel
theorem dX7_firstFault_108 : decode cX7_firstFault 108 = .ok (.goto 4, 3) := by decide +kernel
theorem dX7_firstFault_111 : decode cX7_firstFault 111 = .ok (.iconst 1, 1) := by decide +kernel
theorem dX7_firstFault_112 : decode cX7_firstFault 112 = .ok (.iadd, 1) := by decide +kernel
theorem dX7_firstFault_113 : decode cX7_firstFault 113 = .ok (.istore_n 2, 1) := by decide +kernel
theorem dX7_firstFault_114 : decode cX7_firstFault 114 = .ok (.iload 6, 2) := by decide +kernel
theorem dX7_firstFault_116 : decode cX7_firstFault 116 = .ok (.istore_n 3, 1) := by decide +kernel
theorem dX7_firstFault_117 : decode cX7_firstFault 117 = .ok (.iinc 4 1, 3) := by decide +kernel
theorem dX7_firstFault_120 : decode cX7_firstFault 120 = .ok (.goto (-99), 3) := by decide +kernel
theorem dX7_firstFault_123 : decode cX7_firstFault 123 = .ok (.bipush (-9), 2) := by decide +kernel
theorem dX7_firstFault_125 : decode cX7_firstFault 125 = .ok (.ireturn, 1) := by decide +kernel
theorem dX7_faultInPart_0 : decode cX7_faultInPart 0 = .ok (.iload_n 1, 1) := by decide +kernel
theorem dX7_faultInPart_1 : decode cX7_faultInPart 1 = .ok (.invokestatic 31, 3) := by decide +kernel
theorem dX7_faultInPart_4 : decode cX7_faultInPart 4 = .ok (.istore 4, 2) := by decide +kernel
theorem dX7_faultInPart_6 : decode cX7_faultInPart 6 = .ok (.iconst 1, 1) := by decide +kernel
theorem dX7_faultInPart_7 : decode cX7_faultInPart 7 = .ok (.istore 5, 2) := by decide +kernel
theorem dX7_faultInPart_9 : decode cX7_faultInPart 9 = .ok (.iload 5, 2) := by decide +kernel
theorem dX7_faultInPart_11 : decode cX7_faultInPart 11 = .ok (.iload 4, 2) := by decide +kernel
theorem dX7_faultInPart_13 : decode cX7_faultInPart 13 = .ok (.if_icmp .ge 73, 3) := by decide +kernel
theorem dX7_faultInPart_16 : decode cX7_faultInPart 16 = .ok (.iload_n 2, 1) := by decide +kernel
theorem dX7_faultInPart_17 : decode cX7_faultInPart 17 = .ok (.iload 5, 2) := by decide +kernel
theorem dX7_faultInPart_19 : decode cX7_faultInPart 19 = .ok (.iadd, 1) := by decide +kernel
theorem dX7_faultInPart_20 : decode cX7_faultInPart 20 = .ok (.aload_n 0, 1) := by decide +kernel
theorem dX7_faultInPart_21 : decode cX7_faultInPart 21 = .ok (.getfield 15, 3) := by decide +kernel
theorem dX7_faultInPart_24 : decode cX7_faultInPart 24 = .ok (.if_icmp .lt 8, 3) := by decide +kernel
theorem dX7_faultInPart_27 : decode cX7_faultInPart 27 = .ok (.aload_n 0, 1) := by decide +kernel
theorem dX7_faultInPart_28 : decode cX7_faultInPart 28 = .ok (.getfield 15, 3) := by decide +kernel
theorem dX7_faultInPart_31 : decode cX7_faultInPart 31 = .ok (.ireturn, 1) := by decide +kernel
theorem dX7_faultInPart_32 : decode cX7_faultInPart 32 = .ok (.aload_n 0, 1) := by decide +kernel
theorem dX7_faultInPart_33 : decode cX7_faultInPart 33 = .ok (.iload_n 2, 1) := by decide +kernel
theorem dX7_faultInPart_34 : decode cX7_faultInPart 34 = .ok (.iload 5, 2) := by decide +kernel
theorem dX7_faultInPart_36 : decode cX7_faultInPart 36 = .ok (.iadd, 1) := by decide +kernel
theorem dX7_faultInPart_37 : decode cX7_faultInPart 37 = .ok (.invokevirtual 38, 3) := by decide +kernel
theorem dX7_faultInPart_40 : decode cX7_faultInPart 40 = .ok (.istore 6, 2) := by decide +kernel
theorem dX7_faultInPart_42 : decode cX7_faultInPart 42 = .ok (.iload 6, 2) := by decide +kernel
theorem dX7_faultInPart_44 : decode cX7_faultInPart 44 = .ok (.iload_n 1, 1) := by decide +kernel
theorem dX7_faultInPart_45 : decode cX7_faultInPart 45 = .ok (.iload 5, 2) := by decide +kernel
theorem dX7_faultInPart_47 : decode cX7_faultInPart 47 = .ok (.aload_n 0, 1) := by decide +kernel
theorem dX7_faultInPart_48 : decode cX7_faultInPart 48 = .ok (.iload_n 2, 1) := by decide +kernel
theorem dX7_faultInPart_49 : decode cX7_faultInPart 49 = .ok (.iload 5, 2) := by decide +kernel
theorem dX7_faultInPart_51 : decode cX7_faultInPart 51 = .ok (.iadd, 1) := by decide +kernel
theorem dX7_faultInPart_52 : decode cX7_faultInPart 52 = .ok (.iconst 1, 1) := by decide +kernel
theorem dX7_faultInPart_53 : decode cX7_faultInPart 53 = .ok (.isub, 1) := by decide +kernel
theorem dX7_faultInPart_54 : decode cX7_faultInPart 54 = .ok (.invokevirtual 38, 3) := by decide +kernel
theorem dX7_faultInPart_57 : decode cX7_faultInPart 57 = .ok (.invokestatic 41, 3) := by decide +kernel
theorem dX7_faultInPart_60 : decode cX7_faultInPart 60 = .ok (.if_icmp .lt 15, 3) := by decide +kernel
theorem dX7_faultInPart_63 : decode cX7_faultInPart 63 = .ok (.iload 6, 2) := by decide +kernel
theorem dX7_faultInPart_65 : decode cX7_faultInPart 65 = .ok (.iload_n 1, 1) := by decide +kernel
theorem dX7_faultInPart_66 : decode cX7_faultInPart 66 = .ok (.iload 5, 2) := by decide +kernel
theorem dX7_faultInPart_68 : decode cX7_faultInPart 68 = .ok (.iload_n 3, 1) := by decide +kernel
theorem dX7_faultInPart_69 : decode cX7_faultInPart 69 = .ok (.invokestatic 44, 3) := by decide +kernel
theorem dX7_faultInPart_72 : decode cX7_faultInPart 72 = .ok (.if_icmp .le 8, 3) := by decide +kernel
theorem dX7_faultInPart_75 : decode cX7_faultInPart 75 = .ok (.iload_n 2, 1) := by decide +kernel
theorem dX7_faultInPart_76 : decode cX7_faultInPart 76 = .ok (.iload 5, 2) := by decide +kernel
theorem dX7_faultInPart_78 : decode cX7_faultInPart 78 = .ok (.iadd, 1) := by decide +kernel
theorem dX7_faultInPart_79 : decode cX7_faultInPart 79 = .ok (.ireturn, 1) := by decide +kernel
theorem dX7_faultInPart_80 : decode cX7_faultInPart 80 = .ok (.iinc 5 1, 3) := by decide +kernel
theorem dX7_faultInPart_83 : decode cX7_faultInPart 83 = .ok (.goto (-74), 3) := by decide +kernel
theorem dX7_faultInPart_86 : decode cX7_faultInPart 86 = .ok (.iload_n 2, 1) := by decide +kernel
theorem dX7_faultInPart_87 : decode cX7_faultInPart 87 = .ok (.iload 4, 2) := by decide +kernel
theorem dX7_faultInPart_89 : decode cX7_faultInPart 89 = .ok (.iadd, 1) := by decide +kernel
theorem dX7_faultInPart_90 : decode cX7_faultInPart 90 = .ok (.ireturn, 1) := by decide +kernel
theorem dX7_mayBeTold_0 : decode cX7_mayBeTold 0 = .ok (.iload_n 0, 1) := by decide +kernel
theorem dX7_mayBeTold_1 : decode cX7_mayBeTold 1 = .ok (.lookupswitch 72 #[(66, 35), (80, 46), (81, 61)], 35) := by decide +kernel
theorem dX7_mayBeTold_36 : decode cX7_mayBeTold 36 = .ok (.iload_n 1, 1) := by decide +kernel
theorem dX7_mayBeTold_37 : decode cX7_mayBeTold 37 = .ok (.iconst 3, 1) := by decide +kernel
theorem dX7_mayBeTold_38 : decode cX7_mayBeTold 38 = .ok (.if_icmp .ge 7, 3) := by decide +kernel
theorem dX7_mayBeTold_41 : decode cX7_mayBeTold 41 = .ok (.iconst 1, 1) := by decide +kernel
theorem dX7_mayBeTold_42 : decode cX7_mayBeTold 42 = .ok (.goto 4, 3) := by decide +kernel
theorem dX7_mayBeTold_45 : decode cX7_mayBeTold 45 = .ok (.iconst 0, 1) := by decide +kernel
theorem dX7_mayBeTold_46 : decode cX7_mayBeTold 46 = .ok (.ireturn, 1) := by decide +kernel
theorem dX7_mayBeTold_47 : decode cX7_mayBeTold 47 = .ok (.iload_n 1, 1) := by decide +kernel
theorem dX7_mayBeTold_48 : decode cX7_mayBeTold 48 = .ok (.ifCond .le 12, 3) := by decide +kernel
theorem dX7_mayBeTold_51 : decode cX7_mayBeTold 51 = .ok (.iload_n 2, 1) := by decide +kernel
theorem dX7_mayBeTold_52 : decode cX7_mayBeTold 52 = .ok (.iconst 5, 1) := by decide +kernel
theorem dX7_mayBeTold_53 : decode cX7_mayBeTold 53 = .ok (.if_icmp .ge 7, 3) := by decide +kernel
theorem dX7_mayBeTold_56 : decode cX7_mayBeTold 56 = .ok (.iconst 1, 1) := by decide +kernel
theorem dX7_mayBeTold_57 : decode cX7_mayBeTold 57 = .ok (.goto 4, 3) := by decide +kernel
theorem dX7_mayBeTold_60 : decode cX7_mayBeTold 60 = .ok (.iconst 0, 1) := by decide +kernel
theorem dX7_mayBeTold_61 : decode cX7_mayBeTold 61 = .ok (.ireturn, 1) := by decide +kernel
theorem dX7_mayBeTold_62 : decode cX7_mayBeTold 62 = .ok (.iload_n 2, 1) := by decide +kernel
theorem dX7_mayBeTold_63 : decode cX7_mayBeTold 63 = .ok (.iconst 5, 1) := by decide +kernel
theorem dX7_mayBeTold_64 : decode cX7_mayBeTold 64 = .ok (.if_icmp .ge 7, 3) := by decide +kernel
theorem dX7_mayBeTold_67 : decode cX7_mayBeTold 67 = .ok (.iconst 1, 1) := by decide +kernel
theorem dX7_mayBeTold_68 : decode cX7_mayBeTold 68 = .ok (.goto 4, 3) := by decide +kernel
theorem dX7_mayBeTold_71 : decode cX7_mayBeTold 71 = .ok (.iconst 0, 1) := by decide +kernel
theorem dX7_mayBeTold_72 : decode cX7_mayBeTold 72 = .ok (.ireturn, 1) := by decide +kernel
theorem dX7_mayBeTold_73 : decode cX7_mayBeTold 73 = .ok (.iconst 0, 1) := by decide +kernel
theorem dX7_mayBeTold_74 : decode cX7_mayBeTold 74 = .ok (.ireturn, 1) := by decide +kernel
theorem dX7_sizeOf_0 : decode cX7_sizeOf 0 = .ok (.iload_n 0, 1) := by decide +kernel
theorem dX7_sizeOf_1 : decode cX7_sizeOf 1 = .ok (.lookupswitch 42 #[(66, 35), (80, 37), (81, 40)], 35) := by decide +kernel
theorem dX7_sizeOf_36 : decode cX7_sizeOf 36 = .ok (.iconst 3, 1) := by decide +kernel
theorem dX7_sizeOf_37 : decode cX7_sizeOf 37 = .ok (.ireturn, 1) := by decide +kernel
theorem dX7_sizeOf_38 : decode cX7_sizeOf 38 = .ok (.bipush 7, 2) := by decide +kernel
theorem dX7_sizeOf_40 : decode cX7_sizeOf 40 = .ok (.ireturn, 1) := by decide +kernel
theorem dX7_sizeOf_41 : decode cX7_sizeOf 41 = .ok (.iconst 4, 1) := by decide +kernel
theorem dX7_sizeOf_42 : decode cX7_sizeOf 42 = .ok (.ireturn, 1) := by decide +kernel
theorem dX7_sizeOf_43 : decode cX7_sizeOf 43 = .ok (.iconst 1, 1) := by decide +kernel
theorem dX7_sizeOf_44 : decode cX7_sizeOf 44 = .ok (.ireturn, 1) := by decide +kernel
theorem dX7_least_0 : decode cX7_least 0 = .ok (.iload_n 0, 1) := by decide +kernel
theorem dX7_least_1 : decode cX7_least 1 = .ok (.lookupswitch 64 #[(66, 27), (80, 38)], 27) := by decide +kernel
theorem dX7_least_28 : decode cX7_least 28 = .ok (.iload_n 1, 1) := by decide +kernel
theorem dX7_least_29 : decode cX7_least 29 = .ok (.iconst 1, 1) := by decide +kernel
theorem dX7_least_30 : decode cX7_least 30 = .ok (.if_icmp .ne 7, 3) := by decide +kernel
theorem dX7_least_33 : decode cX7_least 33 = .ok (.iconst 1, 1) := by decide +kernel
theorem dX7_least_34 : decode cX7_least 34 = .ok (.goto 4, 3) := by decide +kernel
theorem dX7_least_37 : decode cX7_least 37 = .ok (.iconst 0, 1) := by decide +kernel
theorem dX7_least_38 : decode cX7_least 38 = .ok (.ireturn, 1) := by decide +kernel
theorem dX7_least_39 : decode cX7_least 39 = .ok (.iload_n 1, 1) := by decide +kernel
theorem dX7_least_40 : decode cX7_least 40 = .ok (.iconst 5, 1) := by decide +kernel
theorem dX7_least_41 : decode cX7_least 41 = .ok (.if_icmp .ne 7, 3) := by decide +kernel
theorem dX7_least_44 : decode cX7_least 44 = .ok (.iload_n 2, 1) := by decide +kernel
theorem dX7_least_45 : decode cX7_least 45 = .ok (.goto 19, 3) := by decide +kernel
theorem dX7_least_48 : decode cX7_least 48 = .ok (.iload_n 1, 1) := by decide +kernel
theorem dX7_least_49 : decode cX7_least 49 = .ok (.iconst 2, 1) := by decide +kernel
theorem dX7_least_50 : decode cX7_least 50 = .ok (.if_icmp .eq 9, 3) := by decide +kernel
theorem dX7_least_53 : decode cX7_least 53 = .ok (.iload_n 1, 1) := by decide +kernel
theorem dX7_least_54 : decode cX7_least 54 = .ok (.bipush 6, 2) := by decide +kernel
theorem dX7_least_56 : decode cX7_least 56 = .ok (.if_icmp .ne 7, 3) := by decide +kernel
theorem dX7_least_59 : decode cX7_least 59 = .ok (.iconst 1, 1) := by decide +kernel
theorem dX7_least_60 : decode cX7_least 60 = .ok (.goto 4, 3) := by decide +kernel
theorem dX7_least_63 : decode cX7_least 63 = .ok (.iconst 0, 1) := by decide +kernel
theorem dX7_least_64 : decode cX7_least 64 = .ok (.ireturn, 1) := by decide +kernel
theorem dX7_least_65 : decode cX7_least 65 = .ok (.iload_n 1, 1) := by decide +kernel
theorem dX7_least_66 : decode cX7_least 66 = .ok (.iconst 2, 1) := by decide +kernel
theorem dX7_least_67 : decode cX7_least 67 = .ok (.if_icmp .ne 7, 3) := by decide +kernel
theorem dX7_least_70 : decode cX7_least 70 = .ok (.iload_n 2, 1) := by decide +kernel
theorem dX7_least_71 : decode cX7_least 71 = .ok (.goto 13, 3) := by decide +kernel
theorem dX7_least_74 : decode cX7_least 74 = .ok (.iload_n 1, 1) := by decide +kernel
theorem dX7_least_75 : decode cX7_least 75 = .ok (.iconst 3, 1) := by decide +kernel
theorem dX7_least_76 : decode cX7_least 76 = .ok (.if_icmp .ne 7, 3) := by decide +kernel
theorem dX7_least_79 : decode cX7_least 79 = .ok (.iconst 1, 1) := by decide +kernel
theorem dX7_least_80 : decode cX7_least 80 = .ok (.goto 4, 3) := by decide +kernel
theorem dX7_least_83 : decode cX7_least 83 = .ok (.iconst 0, 1) := by decide +kernel
theorem dX7_least_84 : decode cX7_least 84 = .ok (.ireturn, 1) := by decide +kernel
theorem dX7_most_0 : decode cX7_most 0 = .ok (.iload_n 0, 1) := by decide +kernel
theorem dX7_most_1 : decode cX7_most 1 = .ok (.lookupswitch 66 #[(66, 27), (80, 38)], 27) := by decide +kernel
theorem dX7_most_28 : decode cX7_most 28 = .ok (.iload_n 1, 1) := by decide +kernel
theorem dX7_most_29 : decode cX7_most 29 = .ok (.iconst 1, 1) := by decide +kernel
theorem dX7_most_30 : decode cX7_most 30 = .ok (.if_icmp .ne 7, 3) := by decide +kernel
theorem dX7_most_33 : decode cX7_most 33 = .ok (.iconst 3, 1) := by decide +kernel
theorem dX7_most_34 : decode cX7_most 34 = .ok (.goto 4, 3) := by decide +kernel
theorem dX7_most_37 : decode cX7_most 37 = .ok (.iconst 2, 1) := by decide +kernel
theorem dX7_most_38 : decode cX7_most 38 = .ok (.ireturn, 1) := by decide +kernel
theorem dX7_most_39 : decode cX7_most 39 = .ok (.iload_n 1, 1) := by decide +kernel
theorem dX7_most_40 : decode cX7_most 40 = .ok (.iconst 1, 1) := by decide +kernel
theorem dX7_most_41 : decode cX7_most 41 = .ok (.if_icmp .ne 9, 3) := by decide +kernel
theorem dX7_most_44 : decode cX7_most 44 = .ok (.iload_n 2, 1) := by decide +kernel
theorem dX7_most_45 : decode cX7_most 45 = .ok (.iconst 1, 1) := by decide +kernel
theorem dX7_most_46 : decode cX7_most 46 = .ok (.isub, 1) := by decide +kernel
theorem dX7_most_47 : decode cX7_most 47 = .ok (.goto 19, 3) := by decide +kernel
theorem dX7_most_50 : decode cX7_most 50 = .ok (.iload_n 1, 1) := by decide +kernel
theorem dX7_most_51 : decode cX7_most 51 = .ok (.iconst 2, 1) := by decide +kernel
theorem dX7_most_52 : decode cX7_most 52 = .ok (.if_icmp .eq 8, 3) := by decide +kernel
theorem dX7_most_55 : decode cX7_most 55 = .ok (.iload_n 1, 1) := by decide +kernel
theorem dX7_most_56 : decode cX7_most 56 = .ok (.iconst 3, 1) := by decide +kernel
theorem dX7_most_57 : decode cX7_most 57 = .ok (.if_icmp .ne 7, 3) := by decide +kernel
theorem dX7_most_60 : decode cX7_most 60 = .ok (.iconst 3, 1) := by decide +kernel
theorem dX7_most_61 : decode cX7_most 61 = .ok (.goto 5, 3) := by decide +kernel
theorem dX7_most_64 : decode cX7_most 64 = .ok (.bipush 9, 2) := by decide +kernel
theorem dX7_most_66 : decode cX7_most 66 = .ok (.ireturn, 1) := by decide +kernel
theorem dX7_most_67 : decode cX7_most 67 = .ok (.bipush 9, 2) := by decide +kernel
theorem dX7_most_69 : decode cX7_most 69 = .ok (.ireturn, 1) := by decide +kernel
