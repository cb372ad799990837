theorem dX4_init_0 : decode cX4_init 0 = .ok (.aload_n 0, 1) := by decide +kernel
theorem dX4_init_1 : decode cX4_init 1 = .ok (.invokespecial 3, 3) := by decide +kernel
theorem dX4_init_4 : decode cX4_init 4 = .ok (.aload_n 0, 1) := by decide +kernel
theorem dX4_init_5 : decode cX4_init 5 = .ok (.iconst 5, 1) := by decide +kernel
theorem dX4_init_6 : decode cX4_init 6 = .ok (.newarray .int, 2) := by decide +kernel
theorem dX4_init_8 : decode cX4_init 8 = .ok (.putfield 9, 3) := by decide +kernel
theorem dX4_init_11 : decode cX4_init 11 = .ok (.aload_n 0, 1) := by decide +kernel
theorem dX4_init_12 : decode cX4_init 12 = .ok (.bipush 6, 2) := by decide +kernel
theorem dX4_init_14 : decode cX4_init 14 = .ok (.newarray .int, 2) := by decide +kernel
theorem dX4_init_16 : decode cX4_init 16 = .ok (.putfield 15, 3) := by decide +kernel
theorem dX4_init_19 : decode cX4_init 19 = .ok (.aload_n 0, 1) := by decide +kernel
theorem dX4_init_20 : decode cX4_init 20 = .ok (.iconst 0, 1) := by decide +kernel
theorem dX4_init_21 : decode cX4_init 21 = .ok (.putfield 18, 3) := by decide +kernel
theorem dX4_init_24 : decode cX4_init 24 = .ok (.aload_n 0, 1) := by decide +kernel
theorem dX4_init_25 : decode cX4_init 25 = .ok (.aload_n 1, 1) := by decide +kernel
theorem dX4_init_26 : decode cX4_init 26 = .ok (.putfield 22, 3) := by decide +kernel
theorem dX4_init_29 : decode cX4_init 29 = .ok (.aload_n 0, 1) := by decide +kernel
theorem dX4_init_30 : decode cX4_init 30 = .ok (.new 26, 3) := by decide +kernel
theorem dX4_init_33 : decode cX4_init 33 = .ok (.dup, 1) := by decide +kernel
theorem dX4_init_34 : decode cX4_init 34 = .ok (.aload_n 1, 1) := by decide +kernel
theorem dX4_init_35 : decode cX4_init 35 = .ok (.invokespecial 28, 3) := by decide +kernel
theorem dX4_init_38 : decode cX4_init 38 = .ok (.putfield 31, 3) := by decide +kernel
theorem dX4_init_41 : decode cX4_init 41 = .ok (.aload_n 0, 1) := by decide +kernel
theorem dX4_init_42 : decode cX4_init 42 = .ok (.new 26, 3) := by decide +kernel
theorem dX4_init_45 : decode cX4_init 45 = .ok (.dup, 1) := by decide +kernel
theorem dX4_init_46 : decode cX4_init 46 = .ok (.aload_n 1, 1) := by decide +kernel
theorem dX4_init_47 : decode cX4_init 47 = .ok (.invokespecial 28, 3) := by decide +kernel
theorem dX4_init_50 : decode cX4_init 50 = .ok (.putfield 35, 3) := by decide +kernel
theorem dX4_init_53 : decode cX4_init 53 = .ok (.return_, 1) := by decide +kernel
theorem dX4_mostWorth_0 : decode cX4_mostWorth 0 = .ok (.aload_n 0, 1) := by decide +kernel
theorem dX4_mostWorth_1 : decode cX4_mostWorth 1 = .ok (.iload_n 1, 1) := by decide +kernel
theorem dX4_mostWorth_2 : decode cX4_mostWorth 2 = .ok (.iconst 1, 1) := by decide +kernel
theorem dX4_mostWorth_3 : decode cX4_mostWorth 3 = .ok (.invokevirtual 38, 3) := by decide +kernel
theorem dX4_mostWorth_6 : decode cX4_mostWorth 6 = .ok (.aload_n 0, 1) := by decide +kernel
theorem dX4_mostWorth_7 : decode cX4_mostWorth 7 = .ok (.lconst 0, 1) := by decide +kernel
theorem dX4_mostWorth_8 : decode cX4_mostWorth 8 = .ok (.iconst 0, 1) := by decide +kernel
theorem dX4_mostWorth_9 : decode cX4_mostWorth 9 = .ok (.iconst 0, 1) := by decide +kernel
theorem dX4_mostWorth_10 : decode cX4_mostWorth 10 = .ok (.invokevirtual 42, 3) := by decide +kernel
theorem dX4_mostWorth_13 : decode cX4_mostWorth 13 = .ok (.ireturn, 1) := by decide +kernel
theorem dX4_mostAtOnce_0 : decode cX4_mostAtOnce 0 = .ok (.aload_n 0, 1) := by decide +kernel
theorem dX4_mostAtOnce_1 : decode cX4_mostAtOnce 1 = .ok (.bipush 31, 2) := by decide +kernel
theorem dX4_mostAtOnce_3 : decode cX4_mostAtOnce 3 = .ok (.iconst 0, 1) := by decide +kernel
theorem dX4_mostAtOnce_4 : decode cX4_mostAtOnce 4 = .ok (.invokevirtual 38, 3) := by decide +kernel
theorem dX4_mostAtOnce_7 : decode cX4_mostAtOnce 7 = .ok (.aload_n 0, 1) := by decide +kernel
theorem dX4_mostAtOnce_8 : decode cX4_mostAtOnce 8 = .ok (.lconst 0, 1) := by decide +kernel
theorem dX4_mostAtOnce_9 : decode cX4_mostAtOnce 9 = .ok (.iconst 0, 1) := by decide +kernel
theorem dX4_mostAtOnce_10 : decode cX4_mostAtOnce 10 = .ok (.iconst 0, 1) := by decide +kernel
theorem dX4_mostAtOnce_11 : decode cX4_mostAtOnce 11 = .ok (.invokevirtual 42, 3) := by decide +kernel
theorem dX4_mostAtOnce_14 : decode cX4_mostAtOnce 14 = .ok (.ireturn, 1) := by decide +kernel
theorem dX4_mostBeside_0 : decode cX4_mostBeside 0 = .ok (.aload_n 0, 1) := by decide +kernel
theorem dX4_mostBeside_1 : decode cX4_mostBeside 1 = .ok (.aload_n 1, 1) := by decide +kernel
theorem dX4_mostBeside_2 : decode cX4_mostBeside 2 = .ok (.invokevirtual 46, 3) := by decide +kernel
theorem dX4_mostBeside_5 : decode cX4_mostBeside 5 = .ok (.iconst (-1), 1) := by decide +kernel
theorem dX4_mostBeside_6 : decode cX4_mostBeside 6 = .ok (.ixor, 1) := by decide +kernel
theorem dX4_mostBeside_7 : decode cX4_mostBeside 7 = .ok (.iconst 1, 1) := by decide +kernel
theorem dX4_mostBeside_8 : decode cX4_mostBeside 8 = .ok (.invokevirtual 38, 3) := by decide +kernel
theorem dX4_mostBeside_11 : decode cX4_mostBeside 11 = .ok (.lconst 0, 1) := by decide +kernel
theorem dX4_mostBeside_12 : decode cX4_mostBeside 12 = .ok (.lstore_n 2, 1) := by decide +kernel
theorem dX4_mostBeside_13 : decode cX4_mostBeside 13 = .ok (.iconst 0, 1) := by decide +kernel
theorem dX4_mostBeside_14 : decode cX4_mostBeside 14 = .ok (.istore 4, 2) := by decide +kernel
theorem dX4_mostBeside_16 : decode cX4_mostBeside 16 = .ok (.iconst 0, 1) := by decide +kernel
theorem dX4_mostBeside_17 : decode cX4_mostBeside 17 = .ok (.istore 5, 2) := by decide +kernel
theorem dX4_mostBeside_19 : decode cX4_mostBeside 19 = .ok (.iload 5, 2) := by decide +kernel
theorem dX4_mostBeside_21 : decode cX4_mostBeside 21 = .ok (.iconst 5, 1) := by decide +kernel
theorem dX4_mostBeside_22 : decode cX4_mostBeside 22 = .ok (.if_icmp .ge 50, 3) := by decide +kernel
theorem dX4_mostBeside_25 : decode cX4_mostBeside 25 = .ok (.aload_n 1, 1) := by decide +kernel
theorem dX4_mostBeside_26 : decode cX4_mostBeside 26 = .ok (.iload 5, 2) := by decide +kernel
theorem dX4_mostBeside_28 : decode cX4_mostBeside 28 = .ok (.invokevirtual 50, 3) := by decide +kernel
theorem dX4_mostBeside_31 : decode cX4_mostBeside 31 = .ok (.ifCond .eq 35, 3) := by decide +kernel
theorem dX4_mostBeside_34 : decode cX4_mostBeside 34 = .ok (.lload_n 2, 1) := by decide +kernel
theorem dX4_mostBeside_35 : decode cX4_mostBeside 35 = .ok (.aload_n 0, 1) := by decide +kernel
theorem dX4_mostBeside_36 : decode cX4_mostBeside 36 = .ok (.getfield 22, 3) := by decide +kernel
theorem dX4_mostBeside_39 : decode cX4_mostBeside 39 = .ok (.iload 5, 2) := by decide +kernel
theorem dX4_mostBeside_41 : decode cX4_mostBeside 41 = .ok (.aload_n 1, 1) := by decide +kernel
theorem dX4_mostBeside_42 : decode cX4_mostBeside 42 = .ok (.iload 5, 2) := by decide +kernel
theorem dX4_mostBeside_44 : decode cX4_mostBeside 44 = .ok (.invokevirtual 54, 3) := by decide +kernel
theorem dX4_mostBeside_47 : decode cX4_mostBeside 47 = .ok (.invokevirtual 58, 3) := by decide +kernel
theorem dX4_mostBeside_50 : decode cX4_mostBeside 50 = .ok (.lor, 1) := by decide +kernel
theorem dX4_mostBeside_51 : decode cX4_mostBeside 51 = .ok (.lstore_n 2, 1) := by decide +kernel
theorem dX4_mostBeside_52 : decode cX4_mostBeside 52 = .ok (.iload 4, 2) := by decide +kernel
theorem dX4_mostBeside_54 : decode cX4_mostBeside 54 = .ok (.aload_n 0, 1) := by decide +kernel
theorem dX4_mostBeside_55 : decode cX4_mostBeside 55 = .ok (.getfield 22, 3) := by decide +kernel
theorem dX4_mostBeside_58 : decode cX4_mostBeside 58 = .ok (.iload 5, 2) := by decide +kernel
theorem dX4_mostBeside_60 : decode cX4_mostBeside 60 = .ok (.invokevirtual 64, 3) := by decide +kernel
theorem dX4_mostBeside_63 : decode cX4_mostBeside 63 = .ok (.ior, 1) := by decide +kernel
theorem dX4_mostBeside_64 : decode cX4_mostBeside 64 = .ok (.istore 4, 2) := by decide +kernel
theorem dX4_mostBeside_66 : decode cX4_mostBeside 66 = .ok (.iinc 5 1, 3) := by decide +kernel
theorem dX4_mostBeside_69 : decode cX4_mostBeside 69 = .ok (.goto (-50), 3) := by decide +kernel
theorem dX4_mostBeside_72 : decode cX4_mostBeside 72 = .ok (.aload_n 0, 1) := by decide +kernel
theorem dX4_mostBeside_73 : decode cX4_mostBeside 73 = .ok (.lload_n 2, 1) := by decide +kernel
theorem dX4_mostBeside_74 : decode cX4_mostBeside 74 = .ok (.aload_n 1, 1) := by decide +kernel
theorem dX4_mostBeside_75 : decode cX4_mostBeside 75 = .ok (.invokevirtual 67, 3) := by decide +kernel
theorem dX4_mostBeside_78 : decode cX4_mostBeside 78 = .ok (.iload 4, 2) := by decide +kernel
theorem dX4_mostBeside_80 : decode cX4_mostBeside 80 = .ok (.invokevirtual 42, 3) := by decide +kernel
theorem dX4_mostBeside_83 : decode cX4_mostBeside 83 = .ok (.ireturn, 1) := by decide +kernel
theorem dX4_weigh_0 : decode cX4_weigh 0 = .ok (.aload_n 0, 1) := by decide +kernel
theorem dX4_weigh_1 : decode cX4_weigh 1 = .ok (.getfield 15, 3) := by decide +kernel
theorem dX4_weigh_4 : decode cX4_weigh 4 = .ok (.iconst 5, 1) := by decide +kernel
theorem dX4_weigh_5 : decode cX4_weigh 5 = .ok (.iconst 0, 1) := by decide +kernel
theorem dX4_weigh_6 : decode cX4_weigh 6 = .ok (.iastore, 1) := by decide +kernel
theorem dX4_weigh_7 : decode cX4_weigh 7 = .ok (.iconst 4, 1) := by decide +kernel
theorem dX4_weigh_8 : decode cX4_weigh 8 = .ok (.istore_n 3, 1) := by decide +kernel
theorem dX4_weigh_9 : decode cX4_weigh 9 = .ok (.iload_n 3, 1) := by decide +kernel
theorem dX4_weigh_10 : decode cX4_weigh 10 = .ok (.ifCond .lt 89, 3) := by decide +kernel
theorem dX4_weigh_13 : decode cX4_weigh 13 = .ok (.aload_n 0, 1) := by decide +kernel
theorem dX4_weigh_14 : decode cX4_weigh 14 = .ok (.getfield 22, 3) := by decide +kernel
theorem dX4_weigh_17 : decode cX4_weigh 17 = .ok (.iload_n 3, 1) := by decide +kernel
theorem dX4_weigh_18 : decode cX4_weigh 18 = .ok (.invokevirtual 70, 3) := by decide +kernel
theorem dX4_weigh_21 : decode cX4_weigh 21 = .ok (.ifCond .eq 16, 3) := by decide +kernel
theorem dX4_weigh_24 : decode cX4_weigh 24 = .ok (.iload_n 1, 1) := by decide +kernel
theorem dX4_weigh_25 : decode cX4_weigh 25 = .ok (.iload_n 3, 1) := by decide +kernel
theorem dX4_weigh_26 : decode cX4_weigh 26 = .ok (.iushr, 1) := by decide +kernel
theorem dX4_weigh_27 : decode cX4_weigh 27 = .ok (.iconst 1, 1) := by decide +kernel
theorem dX4_weigh_28 : decode cX4_weigh 28 = .ok (.iand, 1) := by decide +kernel
theorem dX4_weigh_29 : decode cX4_weigh 29 = .ok (.iconst 1, 1) := by decide +kernel
theorem dX4_weigh_30 : decode cX4_weigh 30 = .ok (.if_icmp .ne 7, 3) := by decide +kernel
theorem dX4_weigh_33 : decode cX4_weigh 33 = .ok (.iconst 1, 1) := by decide +kernel
theorem dX4_weigh_34 : decode cX4_weigh 34 = .ok (.goto 4, 3) := by decide +kernel
theorem dX4_weigh_37 : decode cX4_weigh 37 = .ok (.iconst 0, 1) := by decide +kernel
theorem dX4_weigh_38 : decode cX4_weigh 38 = .ok (.istore 4, 2) := by decide +kernel
theorem dX4_weigh_40 : decode cX4_weigh 40 = .ok (.aload_n 0, 1) := by decide +kernel
theorem dX4_weigh_41 : decode cX4_weigh 41 = .ok (.getfield 9, 3) := by decide +kernel
theorem dX4_weigh_44 : decode cX4_weigh 44 = .ok (.iload_n 3, 1) := by decide +kernel
theorem dX4_weigh_45 : decode cX4_weigh 45 = .ok (.iload 4, 2) := by decide +kernel
theorem dX4_weigh_47 : decode cX4_weigh 47 = .ok (.ifCond .ne 7, 3) := by decide +kernel
theorem dX4_weigh_50 : decode cX4_weigh 50 = .ok (.iconst 0, 1) := by decide +kernel
theorem dX4_weigh_51 : decode cX4_weigh 51 = .ok (.goto 20, 3) := by decide +kernel
theorem dX4_weigh_54 : decode cX4_weigh 54 = .ok (.iload_n 2, 1) := by decide +kernel
theorem dX4_weigh_55 : decode cX4_weigh 55 = .ok (.ifCond .eq 15, 3) := by decide +kernel
theorem dX4_weigh_58 : decode cX4_weigh 58 = .ok (.aload_n 0, 1) := by decide +kernel
theorem dX4_weigh_59 : decode cX4_weigh 59 = .ok (.getfield 22, 3) := by decide +kernel
theorem dX4_weigh_62 : decode cX4_weigh 62 = .ok (.getfield 73, 3) := by decide +kernel
theorem dX4_weigh_65 : decode cX4_weigh 65 = .ok (.iload_n 3, 1) := by decide +kernel
theorem dX4_weigh_66 : decode cX4_weigh 66 = .ok (.iaload, 1) := by decide +kernel
theorem dX4_weigh_67 : decode cX4_weigh 67 = .ok (.goto 4, 3) := by decide +kernel
theorem dX4_weigh_70 : decode cX4_weigh 70 = .ok (.iconst 1, 1) := by decide +kernel
theorem dX4_weigh_71 : decode cX4_weigh 71 = .ok (.iastore, 1) := by decide +kernel
theorem dX4_weigh_72 : decode cX4_weigh 72 = .ok (.aload_n 0, 1) := by decide +kernel
theorem dX4_weigh_73 : decode cX4_weigh 73 = .ok (.getfield 15, 3) := by decide +kernel
theorem dX4_weigh_76 : decode cX4_weigh 76 = .ok (.iload_n 3, 1) := by decide +kernel
theorem dX4_weigh_77 : decode cX4_weigh 77 = .ok (.aload_n 0, 1) := by decide +kernel
theorem dX4_weigh_78 : decode cX4_weigh 78 = .ok (.getfield 15, 3) := by decide +kernel
theorem dX4_weigh_81 : decode cX4_weigh 81 = .ok (.iload_n 3, 1) := by decide +kernel
theorem dX4_weigh_82 : decode cX4_weigh 82 = .ok (.iconst 1, 1) := by decide +kernel
theorem dX4_weigh_83 : decode cX4_weigh 83 = .ok (.iadd, 1) := by decide +kernel
theorem dX4_weigh_84 : decode cX4_weigh 84 = .ok (.iaload, 1) := by decide +kernel
theorem dX4_weigh_85 : decode cX4_weigh 85 = .ok (.aload_n 0, 1) := by decide +kernel
theorem dX4_weigh_86 : decode cX4_weigh 86 = .ok (.getfield 9, 3) := by decide +kernel
theorem dX4_weigh_89 : decode cX4_weigh 89 = .ok (.iload_n 3, 1) := by decide +kernel
theorem dX4_weigh_90 : decode cX4_weigh 90 = .ok (.iaload, 1) := by decide +kernel
theorem dX4_weigh_91 : decode cX4_weigh 91 = .ok (.iadd, 1) := by decide +kernel
theorem dX4_weigh_92 : decode cX4_weigh 92 = .ok (.iastore, 1) := by decide +kernel
theorem dX4_weigh_93 : decode cX4_weigh 93 = .ok (.iinc 3 (-1), 3) := by decide +kernel
theorem dX4_weigh_96 : decode cX4_weigh 96 = .ok (.goto (-87), 3) := by decide +kernel
theorem dX4_weigh_99 : decode cX4_weigh 99 = .ok (.return_, 1) := by decide +kernel
theorem dX4_search_0 : decode cX4_search 0 = .ok (.aload_n 0, 1) := by decide +kernel
theorem dX4_search_1 : decode cX4_search 1 = .ok (.bipush (-9), 2) := by decide +kernel
theorem dX4_search_3 : decode cX4_search 3 = .ok (.putfield 18, 3) := by decide +kernel
theorem dX4_search_6 : decode cX4_search 6 = .ok (.aload_n 0, 1) := by decide +kernel
theorem dX4_search_7 : decode cX4_search 7 = .ok (.iconst 0, 1) := by decide +kernel
theorem dX4_search_8 : decode cX4_search 8 = .ok (.iconst 0, 1) := by decide +kernel
theorem dX4_search_9 : decode cX4_search 9 = .ok (.lload_n 1, 1) := by decide +kernel
theorem dX4_search_10 : decode cX4_search 10 = .ok (.iload_n 3, 1) := by decide +kernel
theorem dX4_search_11 : decode cX4_search 11 = .ok (.iload 4, 2) := by decide +kernel
theorem dX4_search_13 : decode cX4_search 13 = .ok (.invokevirtual 76, 3) := by decide +kernel
theorem dX4_search_16 : decode cX4_search 16 = .ok (.aload_n 0, 1) := by decide +kernel
theorem dX4_search_17 : decode cX4_search 17 = .ok (.getfield 18, 3) := by decide +kernel
theorem dX4_search_20 : decode cX4_search 20 = .ok (.ireturn, 1) := by decide +kernel
theorem dX4_walk_0 : decode cX4_walk 0 = .ok (.iload_n 1, 1) := by decide +kernel
theorem dX4_walk_1 : decode cX4_walk 1 = .ok (.ifCond .lt 23, 3) := by decide +kernel
theorem dX4_walk_4 : decode cX4_walk 4 = .ok (.iload_n 1, 1) := by decide +kernel
theorem dX4_walk_5 : decode cX4_walk 5 = .ok (.iconst 5, 1) := by decide +kernel
theorem dX4_walk_6 : decode cX4_walk 6 = .ok (.if_icmp .gt 18, 3) := by decide +kernel
theorem dX4_walk_9 : decode cX4_walk 9 = .ok (.iload_n 2, 1) := by decide +kernel
theorem dX4_walk_10 : decode cX4_walk 10 = .ok (.aload_n 0, 1) := by decide +kernel
theorem dX4_walk_11 : decode cX4_walk 11 = .ok (.getfield 15, 3) := by decide +kernel
theorem dX4_walk_14 : decode cX4_walk 14 = .ok (.iload_n 1, 1) := by decide +kernel
theorem dX4_walk_15 : decode cX4_walk 15 = .ok (.iaload, 1) := by decide +kernel
theorem dX4_walk_16 : decode cX4_walk 16 = .ok (.iadd, 1) := by decide +kernel
theorem dX4_walk_17 : decode cX4_walk 17 = .ok (.aload_n 0, 1) := by decide +kernel
theorem dX4_walk_18 : decode cX4_walk 18 = .ok (.getfield 18, 3) := by decide +kernel
theorem dX4_walk_21 : decode cX4_walk 21 = .ok (.if_icmp .gt 4, 3) := by decide +kernel
theorem dX4_walk_24 : decode cX4_walk 24 = .ok (.return_, 1) := by decide +kernel
theorem dX4_walk_25 : decode cX4_walk 25 = .ok (.iload_n 1, 1) := by decide +kernel
theorem dX4_walk_26 : decode cX4_walk 26 = .ok (.iconst 5, 1) := by decide +kernel
theorem dX4_walk_27 : decode cX4_walk 27 = .ok (.if_icmp .ne 20, 3) := by decide +kernel
theorem dX4_walk_30 : decode cX4_walk 30 = .ok (.aload_n 0, 1) := by decide +kernel
theorem dX4_walk_31 : decode cX4_walk 31 = .ok (.iload_n 2, 1) := by decide +kernel
theorem dX4_walk_32 : decode cX4_walk 32 = .ok (.putfield 18, 3) := by decide +kernel
theorem dX4_walk_35 : decode cX4_walk 35 = .ok (.aload_n 0, 1) := by decide +kernel
theorem dX4_walk_36 : decode cX4_walk 36 = .ok (.getfield 35, 3) := by decide +kernel
theorem dX4_walk_39 : decode cX4_walk 39 = .ok (.aload_n 0, 1) := by decide +kernel
theorem dX4_walk_40 : decode cX4_walk 40 = .ok (.getfield 31, 3) := by decide +kernel
theorem dX4_walk_43 : decode cX4_walk 43 = .ok (.invokevirtual 80, 3) := by decide +kernel
theorem dX4_walk_46 : decode cX4_walk 46 = .ok (.return_, 1) := by decide +kernel
theorem dX4_walk_47 : decode cX4_walk 47 = .ok (.aload_n 0, 1) := by decide +kernel
theorem dX4_walk_48 : decode cX4_walk 48 = .ok (.getfield 31, 3) := by decide +kernel
theorem dX4_walk_51 : decode cX4_walk 51 = .ok (.iload_n 1, 1) := by decide +kernel
theorem dX4_walk_52 : decode cX4_walk 52 = .ok (.iconst 0, 1) := by decide +kernel
theorem dX4_walk_53 : decode cX4_walk 53 = .ok (.invokevirtual 84, 3) := by decide +kernel
theorem dX4_walk_56 : decode cX4_walk 56 = .ok (.aload_n 0, 1) := by decide +kernel
theorem dX4_walk_57 : decode cX4_walk 57 = .ok (.iload_n 1, 1) := by decide +kernel
theorem dX4_walk_58 : decode cX4_walk 58 = .ok (.iconst 1, 1) := by decide +kernel
theorem dX4_walk_59 : decode cX4_walk 59 = .ok (.iadd, 1) := by decide +kernel
theorem dX4_walk_60 : decode cX4_walk 60 = .ok (.iload_n 2, 1) := by decide +kernel
theorem dX4_walk_61 : decode cX4_walk 61 = .ok (.lload_n 3, 1) := by decide +kernel
theorem dX4_walk_62 : decode cX4_walk 62 = .ok (.iload 5, 2) := by decide +kernel
theorem dX4_walk_64 : decode cX4_walk 64 = .ok (.iload 6, 2) := by decide +kernel
theorem dX4_walk_66 : decode cX4_walk 66 = .ok (.invokevirtual 76, 3) := by decide +kernel
theorem dX4_walk_69 : decode cX4_walk 69 = .ok (.iconst 0, 1) := by decide +kernel
theorem dX4_walk_70 : decode cX4_walk 70 = .ok (.istore 7, 2) := by decide +kernel
theorem dX4_walk_72 : decode cX4_walk 72 = .ok (.iload 7, 2) := by decide +kernel
theorem dX4_walk_74 : decode cX4_walk 74 = .ok (.bipush 10, 2) := by decide +kernel
theorem dX4_walk_76 : decode cX4_walk 76 = .ok (.if_icmp .ge 141, 3) := by decide +kernel
theorem dX4_walk_79 : decode cX4_walk 79 = .ok (.aload_n 0, 1) := by decide +kernel
theorem dX4_walk_80 : decode cX4_walk 80 = .ok (.getfield 9, 3) := by decide +kernel
theorem dX4_walk_83 : decode cX4_walk 83 = .ok (.iload_n 1, 1) := by decide +kernel
theorem dX4_walk_84 : decode cX4_walk 84 = .ok (.iaload, 1) := by decide +kernel
theorem dX4_walk_85 : decode cX4_walk 85 = .ok (.ifCond .le 132, 3) := by decide +kernel
theorem dX4_walk_88 : decode cX4_walk 88 = .ok (.aload_n 0, 1) := by decide +kernel
theorem dX4_walk_89 : decode cX4_walk 89 = .ok (.getfield 22, 3) := by decide +kernel
theorem dX4_walk_92 : decode cX4_walk 92 = .ok (.iload_n 1, 1) := by decide +kernel
theorem dX4_walk_93 : decode cX4_walk 93 = .ok (.iload 7, 2) := by decide +kernel
theorem dX4_walk_95 : decode cX4_walk 95 = .ok (.invokevirtual 88, 3) := by decide +kernel
theorem dX4_walk_98 : decode cX4_walk 98 = .ok (.ifCond .eq 113, 3) := by decide +kernel
theorem dX4_walk_101 : decode cX4_walk 101 = .ok (.aload_n 0, 1) := by decide +kernel
theorem dX4_walk_102 : decode cX4_walk 102 = .ok (.getfield 22, 3) := by decide +kernel
theorem dX4_walk_105 : decode cX4_walk 105 = .ok (.iload_n 1, 1) := by decide +kernel
theorem dX4_walk_106 : decode cX4_walk 106 = .ok (.iload 7, 2) := by decide +kernel
theorem dX4_walk_108 : decode cX4_walk 108 = .ok (.invokevirtual 58, 3) := by decide +kernel
theorem dX4_walk_111 : decode cX4_walk 111 = .ok (.lload_n 3, 1) := by decide +kernel
theorem dX4_walk_112 : decode cX4_walk 112 = .ok (.land, 1) := by decide +kernel
theorem dX4_walk_113 : decode cX4_walk 113 = .ok (.lconst 0, 1) := by decide +kernel
theorem dX4_walk_114 : decode cX4_walk 114 = .ok (.lcmp, 1) := by decide +kernel
theorem dX4_walk_115 : decode cX4_walk 115 = .ok (.ifCond .ne 96, 3) := by decide +kernel
theorem dX4_walk_118 : decode cX4_walk 118 = .ok (.aload_n 0, 1) := by decide +kernel
theorem dX4_walk_119 : decode cX4_walk 119 = .ok (.getfield 22, 3) := by decide +kernel
theorem dX4_walk_122 : decode cX4_walk 122 = .ok (.iload_n 1, 1) := by decide +kernel
theorem dX4_walk_123 : decode cX4_walk 123 = .ok (.iload 7, 2) := by decide +kernel
theorem dX4_walk_125 : decode cX4_walk 125 = .ok (.invokevirtual 92, 3) := by decide +kernel
theorem dX4_walk_128 : decode cX4_walk 128 = .ok (.iload 6, 2) := by decide +kernel
theorem dX4_walk_130 : decode cX4_walk 130 = .ok (.iand, 1) := by decide +kernel
theorem dX4_walk_131 : decode cX4_walk 131 = .ok (.ifCond .ne 80, 3) := by decide +kernel
theorem dX4_walk_134 : decode cX4_walk 134 = .ok (.aload_n 0, 1) := by decide +kernel
theorem dX4_walk_135 : decode cX4_walk 135 = .ok (.getfield 22, 3) := by decide +kernel
theorem dX4_walk_138 : decode cX4_walk 138 = .ok (.iload_n 1, 1) := by decide +kernel
theorem dX4_walk_139 : decode cX4_walk 139 = .ok (.invokevirtual 64, 3) := by decide +kernel
theorem dX4_walk_142 : decode cX4_walk 142 = .ok (.iload 5, 2) := by decide +kernel
theorem dX4_walk_144 : decode cX4_walk 144 = .ok (.iand, 1) := by decide +kernel
theorem dX4_walk_145 : decode cX4_walk 145 = .ok (.ifCond .ne 66, 3) := by decide +kernel
theorem dX4_walk_148 : decode cX4_walk 148 = .ok (.aload_n 0, 1) := by decide +kernel
theorem dX4_walk_149 : decode cX4_walk 149 = .ok (.getfield 31, 3) := by decide +kernel
theorem dX4_walk_152 : decode cX4_walk 152 = .ok (.iload_n 1, 1) := by decide +kernel
theorem dX4_walk_153 : decode cX4_walk 153 = .ok (.iload 7, 2) := by decide +kernel
theorem dX4_walk_155 : decode cX4_walk 155 = .ok (.iconst 1, 1) := by decide +kernel
theorem dX4_walk_156 : decode cX4_walk 156 = .ok (.iadd, 1) := by decide +kernel
theorem dX4_walk_157 : decode cX4_walk 157 = .ok (.invokevirtual 84, 3) := by decide +kernel
theorem dX4_walk_160 : decode cX4_walk 160 = .ok (.aload_n 0, 1) := by decide +kernel
theorem dX4_walk_161 : decode cX4_walk 161 = .ok (.iload_n 1, 1) := by decide +kernel
theorem dX4_walk_162 : decode cX4_walk 162 = .ok (.iconst 1, 1) := by decide +kernel
theorem dX4_walk_163 : decode cX4_walk 163 = .ok (.iadd, 1) := by decide +kernel
theorem dX4_walk_164 : decode cX4_walk 164 = .ok (.iload_n 2, 1) := by decide +kernel
theorem dX4_walk_165 : decode cX4_walk 165 = .ok (.aload_n 0, 1) := by decide +kernel
theorem dX4_walk_166 : decode cX4_walk 166 = .ok (.getfield 9, 3) := by decide +kernel
theorem dX4_walk_169 : decode cX4_walk 169 = .ok (.iload_n 1, 1) := by decide +kernel
theorem dX4_walk_170 : decode cX4_walk 170 = .ok (.iaload, 1) := by decide +kernel
theorem dX4_walk_171 : decode cX4_walk 171 = .ok (.iadd, 1) := by decide +kernel
theorem dX4_walk_172 : decode cX4_walk 172 = .ok (.lload_n 3, 1) := by decide +kernel
theorem dX4_walk_173 : decode cX4_walk 173 = .ok (.aload_n 0, 1) := by decide +kernel
theorem dX4_walk_174 : decode cX4_walk 174 = .ok (.getfield 22, 3) := by decide +kernel
theorem dX4_walk_177 : decode cX4_walk 177 = .ok (.iload_n 1, 1) := by decide +kernel
theorem dX4_walk_178 : decode cX4_walk 178 = .ok (.iload 7, 2) := by decide +kernel
theorem dX4_walk_180 : decode cX4_walk 180 = .ok (.invokevirtual 58, 3) := by decide +kernel
theorem dX4_walk_183 : decode cX4_walk 183 = .ok (.lor, 1) := by decide +kernel
theorem dX4_walk_184 : decode cX4_walk 184 = .ok (.iload 5, 2) := by decide +kernel
theorem dX4_walk_186 : decode cX4_walk 186 = .ok (.aload_n 0, 1) := by decide +kernel
theorem dX4_walk_187 : decode cX4_walk 187 = .ok (.getfield 22, 3) := by decide +kernel
theorem dX4_walk_190 : decode cX4_walk 190 = .ok (.iload_n 1, 1) := by decide +kernel
theorem dX4_walk_191 : decode cX4_walk 191 = .ok (.iload 7, 2) := by decide +kernel
theorem dX4_walk_193 : decode cX4_walk 193 = .ok (.invokevirtual 92, 3) := by decide +kernel
theorem dX4_walk_196 : decode cX4_walk 196 = .ok (.ior, 1) := by decide +kernel
theorem dX4_walk_197 : decode cX4_walk 197 = .ok (.iload 6, 2) := by decide +kernel
theorem dX4_walk_199 : decode cX4_walk 199 = .ok (.aload_n 0, 1) := by decide +kernel
theorem dX4_walk_200 : decode cX4_walk 200 = .ok (.getfield 22, 3) := by decide +kernel
theorem dX4_walk_203 : decode cX4_walk 203 = .ok (.iload_n 1, 1) := by decide +kernel
theorem dX4_walk_204 : decode cX4_walk 204 = .ok (.invokevirtual 64, 3) := by decide +kernel
theorem dX4_walk_207 : decode cX4_walk 207 = .ok (.ior, 1) := by decide +kernel
theorem dX4_walk_208 : decode cX4_walk 208 = .ok (.invokevirtual 76, 3) := by decide +kernel
theorem dX4_walk_211 : decode cX4_walk 211 = .ok (.iinc 7 1, 3) := by decide +kernel
theorem dX4_walk_214 : decode cX4_walk 214 = .ok (.goto (-142), 3) := by decide +kernel
theorem dX4_walk_217 : decode cX4_walk 217 = .ok (.return_, 1) := by decide +kernel
