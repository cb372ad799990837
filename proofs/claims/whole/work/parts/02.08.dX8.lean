theorem dX8_init_0 : decode cX8_init 0 = .ok (.aload_n 0, 1) := by decide +kernel
theorem dX8_init_1 : decode cX8_init 1 = .ok (.invokespecial 3, 3) := by decide +kernel
theorem dX8_init_4 : decode cX8_init 4 = .ok (.aload_n 0, 1) := by decide +kernel
theorem dX8_init_5 : decode cX8_init 5 = .ok (.iconst 0, 1) := by decide +kernel
theorem dX8_init_6 : decode cX8_init 6 = .ok (.putfield 9, 3) := by decide +kernel
theorem dX8_init_9 : decode cX8_init 9 = .ok (.aload_n 0, 1) := by decide +kernel
theorem dX8_init_10 : decode cX8_init 10 = .ok (.iconst 0, 1) := by decide +kernel
theorem dX8_init_11 : decode cX8_init 11 = .ok (.putfield 15, 3) := by decide +kernel
theorem dX8_init_14 : decode cX8_init 14 = .ok (.aload_n 0, 1) := by decide +kernel
theorem dX8_init_15 : decode cX8_init 15 = .ok (.iconst 3, 1) := by decide +kernel
theorem dX8_init_16 : decode cX8_init 16 = .ok (.newarray .int, 2) := by decide +kernel
theorem dX8_init_18 : decode cX8_init 18 = .ok (.putfield 18, 3) := by decide +kernel
theorem dX8_init_21 : decode cX8_init 21 = .ok (.aload_n 0, 1) := by decide +kernel
theorem dX8_init_22 : decode cX8_init 22 = .ok (.iconst 3, 1) := by decide +kernel
theorem dX8_init_23 : decode cX8_init 23 = .ok (.newarray .int, 2) := by decide +kernel
theorem dX8_init_25 : decode cX8_init 25 = .ok (.putfield 22, 3) := by decide +kernel
theorem dX8_init_28 : decode cX8_init 28 = .ok (.aload_n 0, 1) := by decide +kernel
theorem dX8_init_29 : decode cX8_init 29 = .ok (.iconst 5, 1) := by decide +kernel
theorem dX8_init_30 : decode cX8_init 30 = .ok (.newarray .int, 2) := by decide +kernel
theorem dX8_init_32 : decode cX8_init 32 = .ok (.putfield 25, 3) := by decide +kernel
theorem dX8_init_35 : decode cX8_init 35 = .ok (.aload_n 0, 1) := by decide +kernel
theorem dX8_init_36 : decode cX8_init 36 = .ok (.iconst 5, 1) := by decide +kernel
theorem dX8_init_37 : decode cX8_init 37 = .ok (.newarray .int, 2) := by decide +kernel
theorem dX8_init_39 : decode cX8_init 39 = .ok (.putfield 28, 3) := by decide +kernel
theorem dX8_init_42 : decode cX8_init 42 = .ok (.aload_n 0, 1) := by decide +kernel
theorem dX8_init_43 : decode cX8_init 43 = .ok (.iconst 5, 1) := by decide +kernel
theorem dX8_init_44 : decode cX8_init 44 = .ok (.newarray .int, 2) := by decide +kernel
theorem dX8_init_46 : decode cX8_init 46 = .ok (.putfield 31, 3) := by decide +kernel
theorem dX8_init_49 : decode cX8_init 49 = .ok (.aload_n 0, 1) := by decide +kernel
theorem dX8_init_50 : decode cX8_init 50 = .ok (.iconst 5, 1) := by decide +kernel
theorem dX8_init_51 : decode cX8_init 51 = .ok (.newarray .int, 2) := by decide +kernel
theorem dX8_init_53 : decode cX8_init 53 = .ok (.putfield 34, 3) := by decide +kernel
theorem dX8_init_56 : decode cX8_init 56 = .ok (.aload_n 0, 1) := by decide +kernel
theorem dX8_init_57 : decode cX8_init 57 = .ok (.iconst 5, 1) := by decide +kernel
theorem dX8_init_58 : decode cX8_init 58 = .ok (.newarray .int, 2) := by decide +kernel
theorem dX8_init_60 : decode cX8_init 60 = .ok (.putfield 37, 3) := by decide +kernel
theorem dX8_init_63 : decode cX8_init 63 = .ok (.aload_n 0, 1) := by decide +kernel
theorem dX8_init_64 : decode cX8_init 64 = .ok (.iconst 5, 1) := by decide +kernel
theorem dX8_init_65 : decode cX8_init 65 = .ok (.newarray .int, 2) := by decide +kernel
theorem dX8_init_67 : decode cX8_init 67 = .ok (.putfield 40, 3) := by decide +kernel
theorem dX8_init_70 : decode cX8_init 70 = .ok (.aload_n 0, 1) := by decide +kernel
theorem dX8_init_71 : decode cX8_init 71 = .ok (.iconst 5, 1) := by decide +kernel
theorem dX8_init_72 : decode cX8_init 72 = .ok (.newarray .int, 2) := by decide +kernel
theorem dX8_init_74 : decode cX8_init 74 = .ok (.putfield 43, 3) := by decide +kernel
theorem dX8_init_77 : decode cX8_init 77 = .ok (.aload_n 0, 1) := by decide +kernel
theorem dX8_init_78 : decode cX8_init 78 = .ok (.iconst 5, 1) := by decide +kernel
theorem dX8_init_79 : decode cX8_init 79 = .ok (.newarray .int, 2) := by decide +kernel
theorem dX8_init_81 : decode cX8_init 81 = .ok (.putfield 46, 3) := by decide +kernel
theorem dX8_init_84 : decode cX8_init 84 = .ok (.aload_n 0, 1) := by decide +kernel
theorem dX8_init_85 : decode cX8_init 85 = .ok (.bipush 50, 2) := by decide +kernel
theorem dX8_init_87 : decode cX8_init 87 = .ok (.newarray .long, 2) := by decide +kernel
theorem dX8_init_89 : decode cX8_init 89 = .ok (.putfield 49, 3) := by decide +kernel
theorem dX8_init_92 : decode cX8_init 92 = .ok (.aload_n 0, 1) := by decide +kernel
theorem dX8_init_93 : decode cX8_init 93 = .ok (.bipush 50, 2) := by decide +kernel
theorem dX8_init_95 : decode cX8_init 95 = .ok (.newarray .int, 2) := by decide +kernel
theorem dX8_init_97 : decode cX8_init 97 = .ok (.putfield 53, 3) := by decide +kernel
theorem dX8_init_100 : decode cX8_init 100 = .ok (.return_, 1) := by decide +kernel
theorem dX8_hasBell_0 : decode cX8_hasBell 0 = .ok (.iload_n 1, 1) := by decide +kernel
theorem dX8_hasBell_1 : decode cX8_hasBell 1 = .ok (.ifCond .lt 15, 3) := by decide +kernel
theorem dX8_hasBell_4 : decode cX8_hasBell 4 = .ok (.iload_n 1, 1) := by decide +kernel
theorem dX8_hasBell_5 : decode cX8_hasBell 5 = .ok (.aload_n 0, 1) := by decide +kernel
theorem dX8_hasBell_6 : decode cX8_hasBell 6 = .ok (.getfield 9, 3) := by decide +kernel
theorem dX8_hasBell_9 : decode cX8_hasBell 9 = .ok (.if_icmp .ge 7, 3) := by decide +kernel
theorem dX8_hasBell_12 : decode cX8_hasBell 12 = .ok (.iconst 1, 1) := by decide +kernel
theorem dX8_hasBell_13 : decode cX8_hasBell 13 = .ok (.goto 4, 3) := by decide +kernel
theorem dX8_hasBell_16 : decode cX8_hasBell 16 = .ok (.iconst 0, 1) := by decide +kernel
theorem dX8_hasBell_17 : decode cX8_hasBell 17 = .ok (.ireturn, 1) := by decide +kernel
theorem dX8_hasBidder_0 : decode cX8_hasBidder 0 = .ok (.iload_n 1, 1) := by decide +kernel
theorem dX8_hasBidder_1 : decode cX8_hasBidder 1 = .ok (.ifCond .lt 15, 3) := by decide +kernel
theorem dX8_hasBidder_4 : decode cX8_hasBidder 4 = .ok (.iload_n 1, 1) := by decide +kernel
theorem dX8_hasBidder_5 : decode cX8_hasBidder 5 = .ok (.aload_n 0, 1) := by decide +kernel
theorem dX8_hasBidder_6 : decode cX8_hasBidder 6 = .ok (.getfield 15, 3) := by decide +kernel
theorem dX8_hasBidder_9 : decode cX8_hasBidder 9 = .ok (.if_icmp .ge 7, 3) := by decide +kernel
theorem dX8_hasBidder_12 : decode cX8_hasBidder 12 = .ok (.iconst 1, 1) := by decide +kernel
theorem dX8_hasBidder_13 : decode cX8_hasBidder 13 = .ok (.goto 4, 3) := by decide +kernel
theorem dX8_hasBidder_16 : decode cX8_hasBidder 16 = .ok (.iconst 0, 1) := by decide +kernel
theorem dX8_hasBidder_17 : decode cX8_hasBidder 17 = .ok (.ireturn, 1) := by decide +kernel
theorem dX8_everyBell_0 : decode cX8_everyBell 0 = .ok (.iconst 1, 1) := by decide +kernel
theorem dX8_everyBell_1 : decode cX8_everyBell 1 = .ok (.aload_n 0, 1) := by decide +kernel
theorem dX8_everyBell_2 : decode cX8_everyBell 2 = .ok (.getfield 9, 3) := by decide +kernel
theorem dX8_everyBell_5 : decode cX8_everyBell 5 = .ok (.ishl, 1) := by decide +kernel
theorem dX8_everyBell_6 : decode cX8_everyBell 6 = .ok (.iconst 1, 1) := by decide +kernel
theorem dX8_everyBell_7 : decode cX8_everyBell 7 = .ok (.isub, 1) := by decide +kernel
theorem dX8_everyBell_8 : decode cX8_everyBell 8 = .ok (.ireturn, 1) := by decide +kernel
theorem dX8_everyone_0 : decode cX8_everyone 0 = .ok (.iconst 1, 1) := by decide +kernel
theorem dX8_everyone_1 : decode cX8_everyone 1 = .ok (.aload_n 0, 1) := by decide +kernel
theorem dX8_everyone_2 : decode cX8_everyone 2 = .ok (.getfield 15, 3) := by decide +kernel
theorem dX8_everyone_5 : decode cX8_everyone 5 = .ok (.ishl, 1) := by decide +kernel
theorem dX8_everyone_6 : decode cX8_everyone 6 = .ok (.iconst 1, 1) := by decide +kernel
theorem dX8_everyone_7 : decode cX8_everyone 7 = .ok (.isub, 1) := by decide +kernel
theorem dX8_everyone_8 : decode cX8_everyone 8 = .ok (.ireturn, 1) := by decide +kernel
theorem dX8_mayBegin_0 : decode cX8_mayBegin 0 = .ok (.iload_n 1, 1) := by decide +kernel
theorem dX8_mayBegin_1 : decode cX8_mayBegin 1 = .ok (.ifCond .lt 36, 3) := by decide +kernel
theorem dX8_mayBegin_4 : decode cX8_mayBegin 4 = .ok (.iload_n 1, 1) := by decide +kernel
theorem dX8_mayBegin_5 : decode cX8_mayBegin 5 = .ok (.iconst 5, 1) := by decide +kernel
theorem dX8_mayBegin_6 : decode cX8_mayBegin 6 = .ok (.if_icmp .ge 31, 3) := by decide +kernel
theorem dX8_mayBegin_9 : decode cX8_mayBegin 9 = .ok (.iload_n 2, 1) := by decide +kernel
theorem dX8_mayBegin_10 : decode cX8_mayBegin 10 = .ok (.ifCond .lt 27, 3) := by decide +kernel
theorem dX8_mayBegin_13 : decode cX8_mayBegin 13 = .ok (.iload_n 2, 1) := by decide +kernel
theorem dX8_mayBegin_14 : decode cX8_mayBegin 14 = .ok (.bipush 10, 2) := by decide +kernel
theorem dX8_mayBegin_16 : decode cX8_mayBegin 16 = .ok (.if_icmp .ge 21, 3) := by decide +kernel
theorem dX8_mayBegin_19 : decode cX8_mayBegin 19 = .ok (.aload_n 0, 1) := by decide +kernel
theorem dX8_mayBegin_20 : decode cX8_mayBegin 20 = .ok (.getfield 43, 3) := by decide +kernel
theorem dX8_mayBegin_23 : decode cX8_mayBegin 23 = .ok (.iload_n 1, 1) := by decide +kernel
theorem dX8_mayBegin_24 : decode cX8_mayBegin 24 = .ok (.iaload, 1) := by decide +kernel
theorem dX8_mayBegin_25 : decode cX8_mayBegin 25 = .ok (.iload_n 2, 1) := by decide +kernel
theorem dX8_mayBegin_26 : decode cX8_mayBegin 26 = .ok (.iushr, 1) := by decide +kernel
theorem dX8_mayBegin_27 : decode cX8_mayBegin 27 = .ok (.iconst 1, 1) := by decide +kernel
theorem dX8_mayBegin_28 : decode cX8_mayBegin 28 = .ok (.iand, 1) := by decide +kernel
theorem dX8_mayBegin_29 : decode cX8_mayBegin 29 = .ok (.iconst 1, 1) := by decide +kernel
theorem dX8_mayBegin_30 : decode cX8_mayBegin 30 = .ok (.if_icmp .ne 7, 3) := by decide +kernel
theorem dX8_mayBegin_33 : decode cX8_mayBegin 33 = .ok (.iconst 1, 1) := by decide +kernel
theorem dX8_mayBegin_34 : decode cX8_mayBegin 34 = .ok (.goto 4, 3) := by decide +kernel
theorem dX8_mayBegin_37 : decode cX8_mayBegin 37 = .ok (.iconst 0, 1) := by decide +kernel
theorem dX8_mayBegin_38 : decode cX8_mayBegin 38 = .ok (.ireturn, 1) := by decide +kernel
theorem dX8_isQuiet_0 : decode cX8_isQuiet 0 = .ok (.aload_n 0, 1) := by decide +kernel
theorem dX8_isQuiet_1 : decode cX8_isQuiet 1 = .ok (.iload_n 1, 1) := by decide +kernel
theorem dX8_isQuiet_2 : decode cX8_isQuiet 2 = .ok (.invokevirtual 56, 3) := by decide +kernel
theorem dX8_isQuiet_5 : decode cX8_isQuiet 5 = .ok (.ifCond .eq 20, 3) := by decide +kernel
theorem dX8_isQuiet_8 : decode cX8_isQuiet 8 = .ok (.aload_n 0, 1) := by decide +kernel
theorem dX8_isQuiet_9 : decode cX8_isQuiet 9 = .ok (.getfield 25, 3) := by decide +kernel
theorem dX8_isQuiet_12 : decode cX8_isQuiet 12 = .ok (.iload_n 1, 1) := by decide +kernel
theorem dX8_isQuiet_13 : decode cX8_isQuiet 13 = .ok (.invokestatic 60, 3) := by decide +kernel
theorem dX8_isQuiet_16 : decode cX8_isQuiet 16 = .ok (.bipush (-9), 2) := by decide +kernel
theorem dX8_isQuiet_18 : decode cX8_isQuiet 18 = .ok (.if_icmp .ne 7, 3) := by decide +kernel
theorem dX8_isQuiet_21 : decode cX8_isQuiet 21 = .ok (.iconst 1, 1) := by decide +kernel
theorem dX8_isQuiet_22 : decode cX8_isQuiet 22 = .ok (.goto 4, 3) := by decide +kernel
theorem dX8_isQuiet_25 : decode cX8_isQuiet 25 = .ok (.iconst 0, 1) := by decide +kernel
theorem dX8_isQuiet_26 : decode cX8_isQuiet 26 = .ok (.ireturn, 1) := by decide +kernel
theorem dX8_isPealOf_0 : decode cX8_isPealOf 0 = .ok (.aload_n 0, 1) := by decide +kernel
theorem dX8_isPealOf_1 : decode cX8_isPealOf 1 = .ok (.iload_n 1, 1) := by decide +kernel
theorem dX8_isPealOf_2 : decode cX8_isPealOf 2 = .ok (.invokevirtual 56, 3) := by decide +kernel
theorem dX8_isPealOf_5 : decode cX8_isPealOf 5 = .ok (.ifCond .eq 19, 3) := by decide +kernel
theorem dX8_isPealOf_8 : decode cX8_isPealOf 8 = .ok (.aload_n 0, 1) := by decide +kernel
theorem dX8_isPealOf_9 : decode cX8_isPealOf 9 = .ok (.getfield 25, 3) := by decide +kernel
theorem dX8_isPealOf_12 : decode cX8_isPealOf 12 = .ok (.iload_n 1, 1) := by decide +kernel
theorem dX8_isPealOf_13 : decode cX8_isPealOf 13 = .ok (.invokestatic 60, 3) := by decide +kernel
theorem dX8_isPealOf_16 : decode cX8_isPealOf 16 = .ok (.iload_n 2, 1) := by decide +kernel
theorem dX8_isPealOf_17 : decode cX8_isPealOf 17 = .ok (.if_icmp .ne 7, 3) := by decide +kernel
theorem dX8_isPealOf_20 : decode cX8_isPealOf 20 = .ok (.iconst 1, 1) := by decide +kernel
theorem dX8_isPealOf_21 : decode cX8_isPealOf 21 = .ok (.goto 4, 3) := by decide +kernel
theorem dX8_isPealOf_24 : decode cX8_isPealOf 24 = .ok (.iconst 0, 1) := by decide +kernel
theorem dX8_isPealOf_25 : decode cX8_isPealOf 25 = .ok (.ireturn, 1) := by decide +kernel
theorem dX8_takes_0 : decode cX8_takes 0 = .ok (.iload_n 1, 1) := by decide +kernel
theorem dX8_takes_1 : decode cX8_takes 1 = .ok (.ifCond .lt 22, 3) := by decide +kernel
theorem dX8_takes_4 : decode cX8_takes 4 = .ok (.iload_n 1, 1) := by decide +kernel
theorem dX8_takes_5 : decode cX8_takes 5 = .ok (.iconst 5, 1) := by decide +kernel
theorem dX8_takes_6 : decode cX8_takes 6 = .ok (.if_icmp .ge 17, 3) := by decide +kernel
theorem dX8_takes_9 : decode cX8_takes 9 = .ok (.iload_n 2, 1) := by decide +kernel
theorem dX8_takes_10 : decode cX8_takes 10 = .ok (.ifCond .lt 13, 3) := by decide +kernel
theorem dX8_takes_13 : decode cX8_takes 13 = .ok (.iload_n 2, 1) := by decide +kernel
theorem dX8_takes_14 : decode cX8_takes 14 = .ok (.bipush 10, 2) := by decide +kernel
theorem dX8_takes_16 : decode cX8_takes 16 = .ok (.if_icmp .ge 7, 3) := by decide +kernel
theorem dX8_takes_19 : decode cX8_takes 19 = .ok (.iconst 1, 1) := by decide +kernel
theorem dX8_takes_20 : decode cX8_takes 20 = .ok (.goto 4, 3) := by decide +kernel
theorem dX8_takes_23 : decode cX8_takes 23 = .ok (.iconst 0, 1) := by decide +kernel
theorem dX8_takes_24 : decode cX8_takes 24 = .ok (.istore_n 3, 1) := by decide +kernel
theorem dX8_takes_25 : decode cX8_takes 25 = .ok (.iload_n 3, 1) := by decide +kernel
theorem dX8_takes_26 : decode cX8_takes 26 = .ok (.ifCond .eq 17, 3) := by decide +kernel
theorem dX8_takes_29 : decode cX8_takes 29 = .ok (.aload_n 0, 1) := by decide +kernel
theorem dX8_takes_30 : decode cX8_takes 30 = .ok (.getfield 49, 3) := by decide +kernel
theorem dX8_takes_33 : decode cX8_takes 33 = .ok (.bipush 10, 2) := by decide +kernel
theorem dX8_takes_35 : decode cX8_takes 35 = .ok (.iload_n 1, 1) := by decide +kernel
theorem dX8_takes_36 : decode cX8_takes 36 = .ok (.imul, 1) := by decide +kernel
theorem dX8_takes_37 : decode cX8_takes 37 = .ok (.iload_n 2, 1) := by decide +kernel
theorem dX8_takes_38 : decode cX8_takes 38 = .ok (.iadd, 1) := by decide +kernel
theorem dX8_takes_39 : decode cX8_takes 39 = .ok (.laload, 1) := by decide +kernel
theorem dX8_takes_40 : decode cX8_takes 40 = .ok (.goto 4, 3) := by decide +kernel
theorem dX8_takes_43 : decode cX8_takes 43 = .ok (.lconst 0, 1) := by decide +kernel
theorem dX8_takes_44 : decode cX8_takes 44 = .ok (.lreturn, 1) := by decide +kernel
theorem dX8_ringing_0 : decode cX8_ringing 0 = .ok (.iload_n 1, 1) := by decide +kernel
theorem dX8_ringing_1 : decode cX8_ringing 1 = .ok (.ifCond .lt 22, 3) := by decide +kernel
theorem dX8_ringing_4 : decode cX8_ringing 4 = .ok (.iload_n 1, 1) := by decide +kernel
theorem dX8_ringing_5 : decode cX8_ringing 5 = .ok (.iconst 5, 1) := by decide +kernel
theorem dX8_ringing_6 : decode cX8_ringing 6 = .ok (.if_icmp .ge 17, 3) := by decide +kernel
theorem dX8_ringing_9 : decode cX8_ringing 9 = .ok (.iload_n 2, 1) := by decide +kernel
theorem dX8_ringing_10 : decode cX8_ringing 10 = .ok (.ifCond .lt 13, 3) := by decide +kernel
theorem dX8_ringing_13 : decode cX8_ringing 13 = .ok (.iload_n 2, 1) := by decide +kernel
theorem dX8_ringing_14 : decode cX8_ringing 14 = .ok (.bipush 10, 2) := by decide +kernel
theorem dX8_ringing_16 : decode cX8_ringing 16 = .ok (.if_icmp .ge 7, 3) := by decide +kernel
theorem dX8_ringing_19 : decode cX8_ringing 19 = .ok (.iconst 1, 1) := by decide +kernel
theorem dX8_ringing_20 : decode cX8_ringing 20 = .ok (.goto 4, 3) := by decide +kernel
theorem dX8_ringing_23 : decode cX8_ringing 23 = .ok (.iconst 0, 1) := by decide +kernel
theorem dX8_ringing_24 : decode cX8_ringing 24 = .ok (.istore_n 3, 1) := by decide +kernel
theorem dX8_ringing_25 : decode cX8_ringing 25 = .ok (.iload_n 3, 1) := by decide +kernel
theorem dX8_ringing_26 : decode cX8_ringing 26 = .ok (.ifCond .eq 17, 3) := by decide +kernel
theorem dX8_ringing_29 : decode cX8_ringing 29 = .ok (.aload_n 0, 1) := by decide +kernel
theorem dX8_ringing_30 : decode cX8_ringing 30 = .ok (.getfield 53, 3) := by decide +kernel
theorem dX8_ringing_33 : decode cX8_ringing 33 = .ok (.bipush 10, 2) := by decide +kernel
theorem dX8_ringing_35 : decode cX8_ringing 35 = .ok (.iload_n 1, 1) := by decide +kernel
theorem dX8_ringing_36 : decode cX8_ringing 36 = .ok (.imul, 1) := by decide +kernel
theorem dX8_ringing_37 : decode cX8_ringing 37 = .ok (.iload_n 2, 1) := by decide +kernel
theorem dX8_ringing_38 : decode cX8_ringing 38 = .ok (.iadd, 1) := by decide +kernel
theorem dX8_ringing_39 : decode cX8_ringing 39 = .ok (.iaload, 1) := by decide +kernel
theorem dX8_ringing_40 : decode cX8_ringing 40 = .ok (.goto 4, 3) := by decide +kernel
theorem dX8_ringing_43 : decode cX8_ringing 43 = .ok (.iconst 0, 1) := by decide +kernel
theorem dX8_ringing_44 : decode cX8_ringing 44 = .ok (.ireturn, 1) := by decide +kernel
theorem dX8_wants_0 : decode cX8_wants 0 = .ok (.iload_n 1, 1) := by decide +kernel
theorem dX8_wants_1 : decode cX8_wants 1 = .ok (.ifCond .lt 17, 3) := by decide +kernel
theorem dX8_wants_4 : decode cX8_wants 4 = .ok (.iload_n 1, 1) := by decide +kernel
theorem dX8_wants_5 : decode cX8_wants 5 = .ok (.iconst 5, 1) := by decide +kernel
theorem dX8_wants_6 : decode cX8_wants 6 = .ok (.if_icmp .ge 12, 3) := by decide +kernel
theorem dX8_wants_9 : decode cX8_wants 9 = .ok (.aload_n 0, 1) := by decide +kernel
theorem dX8_wants_10 : decode cX8_wants 10 = .ok (.getfield 46, 3) := by decide +kernel
theorem dX8_wants_13 : decode cX8_wants 13 = .ok (.iload_n 1, 1) := by decide +kernel
theorem dX8_wants_14 : decode cX8_wants 14 = .ok (.iaload, 1) := by decide +kernel
theorem dX8_wants_15 : decode cX8_wants 15 = .ok (.goto 4, 3) := by decide +kernel
theorem dX8_wants_18 : decode cX8_wants 18 = .ok (.iconst 0, 1) := by decide +kernel
theorem dX8_wants_19 : decode cX8_wants 19 = .ok (.ireturn, 1) := by decide +kernel
theorem dX8_wantedSeconds_0 : decode cX8_wantedSeconds 0 = .ok (.iconst 0, 1) := by decide +kernel
theorem dX8_wantedSeconds_1 : decode cX8_wantedSeconds 1 = .ok (.istore_n 1, 1) := by decide +kernel
theorem dX8_wantedSeconds_2 : decode cX8_wantedSeconds 2 = .ok (.iconst 0, 1) := by decide +kernel
theorem dX8_wantedSeconds_3 : decode cX8_wantedSeconds 3 = .ok (.istore_n 2, 1) := by decide +kernel
theorem dX8_wantedSeconds_4 : decode cX8_wantedSeconds 4 = .ok (.iload_n 2, 1) := by decide +kernel
theorem dX8_wantedSeconds_5 : decode cX8_wantedSeconds 5 = .ok (.iconst 5, 1) := by decide +kernel
theorem dX8_wantedSeconds_6 : decode cX8_wantedSeconds 6 = .ok (.if_icmp .ge 46, 3) := by decide +kernel
theorem dX8_wantedSeconds_9 : decode cX8_wantedSeconds 9 = .ok (.iload_n 1, 1) := by decide +kernel
theorem dX8_wantedSeconds_10 : decode cX8_wantedSeconds 10 = .ok (.aload_n 0, 1) := by decide +kernel
theorem dX8_wantedSeconds_11 : decode cX8_wantedSeconds 11 = .ok (.iload_n 2, 1) := by decide +kernel
theorem dX8_wantedSeconds_12 : decode cX8_wantedSeconds 12 = .ok (.invokevirtual 64, 3) := by decide +kernel
theorem dX8_wantedSeconds_15 : decode cX8_wantedSeconds 15 = .ok (.invokestatic 68, 3) := by decide +kernel
theorem dX8_wantedSeconds_18 : decode cX8_wantedSeconds 18 = .ok (.ior, 1) := by decide +kernel
theorem dX8_wantedSeconds_19 : decode cX8_wantedSeconds 19 = .ok (.istore_n 1, 1) := by decide +kernel
theorem dX8_wantedSeconds_20 : decode cX8_wantedSeconds 20 = .ok (.iconst 0, 1) := by decide +kernel
theorem dX8_wantedSeconds_21 : decode cX8_wantedSeconds 21 = .ok (.istore_n 3, 1) := by decide +kernel
theorem dX8_wantedSeconds_22 : decode cX8_wantedSeconds 22 = .ok (.iload_n 3, 1) := by decide +kernel
theorem dX8_wantedSeconds_23 : decode cX8_wantedSeconds 23 = .ok (.bipush 10, 2) := by decide +kernel
theorem dX8_wantedSeconds_25 : decode cX8_wantedSeconds 25 = .ok (.if_icmp .ge 21, 3) := by decide +kernel
theorem dX8_wantedSeconds_28 : decode cX8_wantedSeconds 28 = .ok (.iload_n 1, 1) := by decide +kernel
theorem dX8_wantedSeconds_29 : decode cX8_wantedSeconds 29 = .ok (.aload_n 0, 1) := by decide +kernel
theorem dX8_wantedSeconds_30 : decode cX8_wantedSeconds 30 = .ok (.iload_n 2, 1) := by decide +kernel
theorem dX8_wantedSeconds_31 : decode cX8_wantedSeconds 31 = .ok (.iload_n 3, 1) := by decide +kernel
theorem dX8_wantedSeconds_32 : decode cX8_wantedSeconds 32 = .ok (.invokevirtual 71, 3) := by decide +kernel
theorem dX8_wantedSeconds_35 : decode cX8_wantedSeconds 35 = .ok (.invokestatic 68, 3) := by decide +kernel
theorem dX8_wantedSeconds_38 : decode cX8_wantedSeconds 38 = .ok (.ior, 1) := by decide +kernel
theorem dX8_wantedSeconds_39 : decode cX8_wantedSeconds 39 = .ok (.istore_n 1, 1) := by decide +kernel
theorem dX8_wantedSeconds_40 : decode cX8_wantedSeconds 40 = .ok (.iinc 3 1, 3) := by decide +kernel
theorem dX8_wantedSeconds_43 : decode cX8_wantedSeconds 43 = .ok (.goto (-21), 3) := by decide +kernel
theorem dX8_wantedSeconds_46 : decode cX8_wantedSeconds 46 = .ok (.iinc 2 1, 3) := by decide +kernel
theorem dX8_wantedSeconds_49 : decode cX8_wantedSeconds 49 = .ok (.goto (-45), 3) := by decide +kernel
theorem dX8_wantedSeconds_52 : decode cX8_wantedSeconds 52 = .ok (.iload_n 1, 1) := by decide +kernel
theorem dX8_wantedSeconds_53 : decode cX8_wantedSeconds 53 = .ok (.ireturn, 1) := by decide +kernel
theorem dX8_build_0 : decode cX8_build 0 = .ok (.aload_n 0, 1) := by decide +kernel
theorem dX8_build_1 : decode cX8_build 1 = .ok (.invokevirtual 75, 3) := by decide +kernel
theorem dX8_build_4 : decode cX8_build 4 = .ok (.iconst 1, 1) := by decide +kernel
theorem dX8_build_5 : decode cX8_build 5 = .ok (.istore_n 2, 1) := by decide +kernel
theorem dX8_build_6 : decode cX8_build 6 = .ok (.iconst 0, 1) := by decide +kernel
theorem dX8_build_7 : decode cX8_build 7 = .ok (.istore_n 3, 1) := by decide +kernel
theorem dX8_build_8 : decode cX8_build 8 = .ok (.iload_n 3, 1) := by decide +kernel
theorem dX8_build_9 : decode cX8_build 9 = .ok (.bipush 48, 2) := by decide +kernel
theorem dX8_build_11 : decode cX8_build 11 = .ok (.if_icmp .ge 68, 3) := by decide +kernel
theorem dX8_build_14 : decode cX8_build 14 = .ok (.iload_n 2, 1) := by decide +kernel
theorem dX8_build_15 : decode cX8_build 15 = .ok (.aload_n 1, 1) := by decide +kernel
theorem dX8_build_16 : decode cX8_build 16 = .ok (.getfield 78, 3) := by decide +kernel
theorem dX8_build_19 : decode cX8_build 19 = .ok (.if_icmp .ge 60, 3) := by decide +kernel
theorem dX8_build_22 : decode cX8_build 22 = .ok (.aload_n 1, 1) := by decide +kernel
theorem dX8_build_23 : decode cX8_build 23 = .ok (.iload_n 2, 1) := by decide +kernel
theorem dX8_build_24 : decode cX8_build 24 = .ok (.invokevirtual 83, 3) := by decide +kernel
theorem dX8_build_27 : decode cX8_build 27 = .ok (.istore 4, 2) := by decide +kernel
theorem dX8_build_29 : decode cX8_build 29 = .ok (.iload 4, 2) := by decide +kernel
theorem dX8_build_31 : decode cX8_build 31 = .ok (.bipush 66, 2) := by decide +kernel
theorem dX8_build_33 : decode cX8_build 33 = .ok (.if_icmp .ne 24, 3) := by decide +kernel
theorem dX8_build_36 : decode cX8_build 36 = .ok (.aload_n 0, 1) := by decide +kernel
theorem dX8_build_37 : decode cX8_build 37 = .ok (.aload_n 1, 1) := by decide +kernel
theorem dX8_build_38 : decode cX8_build 38 = .ok (.iload_n 2, 1) := by decide +kernel
theorem dX8_build_39 : decode cX8_build 39 = .ok (.iconst 1, 1) := by decide +kernel
theorem dX8_build_40 : decode cX8_build 40 = .ok (.iadd, 1) := by decide +kernel
theorem dX8_build_41 : decode cX8_build 41 = .ok (.invokevirtual 86, 3) := by decide +kernel
theorem dX8_build_44 : decode cX8_build 44 = .ok (.aload_n 1, 1) := by decide +kernel
theorem dX8_build_45 : decode cX8_build 45 = .ok (.iload_n 2, 1) := by decide +kernel
theorem dX8_build_46 : decode cX8_build 46 = .ok (.iconst 2, 1) := by decide +kernel
theorem dX8_build_47 : decode cX8_build 47 = .ok (.iadd, 1) := by decide +kernel
theorem dX8_build_48 : decode cX8_build 48 = .ok (.invokevirtual 86, 3) := by decide +kernel
theorem dX8_build_51 : decode cX8_build 51 = .ok (.invokevirtual 89, 3) := by decide +kernel
theorem dX8_build_54 : decode cX8_build 54 = .ok (.goto 11, 3) := by decide +kernel
theorem dX8_build_57 : decode cX8_build 57 = .ok (.aload_n 0, 1) := by decide +kernel
theorem dX8_build_58 : decode cX8_build 58 = .ok (.iload 4, 2) := by decide +kernel
theorem dX8_build_60 : decode cX8_build 60 = .ok (.aload_n 1, 1) := by decide +kernel
theorem dX8_build_61 : decode cX8_build 61 = .ok (.iload_n 2, 1) := by decide +kernel
theorem dX8_build_62 : decode cX8_build 62 = .ok (.invokevirtual 93, 3) := by decide +kernel
theorem dX8_build_65 : decode cX8_build 65 = .ok (.iload_n 2, 1) := by decide +kernel
theorem dX8_build_66 : decode cX8_build 66 = .ok (.iload 4, 2) := by decide +kernel
theorem dX8_build_68 : decode cX8_build 68 = .ok (.invokestatic 97, 3) := by decide +kernel
theorem dX8_build_71 : decode cX8_build 71 = .ok (.iadd, 1) := by decide +kernel
theorem dX8_build_72 : decode cX8_build 72 = .ok (.istore_n 2, 1) := by decide +kernel
theorem dX8_build_73 : decode cX8_build 73 = .ok (.iinc 3 1, 3) := by decide +kernel
theorem dX8_build_76 : decode cX8_build 76 = .ok (.goto (-68), 3) := by decide +kernel
theorem dX8_build_79 : decode cX8_build 79 = .ok (.return_, 1) := by decide +kernel
theorem dX8_clear_0 : decode cX8_clear 0 = .ok (.aload_n 0, 1) := by decide +kernel
theorem dX8_clear_1 : decode cX8_clear 1 = .ok (.iconst 0, 1) := by decide +kernel
theorem dX8_clear_2 : decode cX8_clear 2 = .ok (.putfield 9, 3) := by decide +kernel
theorem dX8_clear_5 : decode cX8_clear 5 = .ok (.aload_n 0, 1) := by decide +kernel
theorem dX8_clear_6 : decode cX8_clear 6 = .ok (.iconst 0, 1) := by decide +kernel
theorem dX8_clear_7 : decode cX8_clear 7 = .ok (.putfield 15, 3) := by decide +kernel
theorem dX8_clear_10 : decode cX8_clear 10 = .ok (.iconst 0, 1) := by decide +kernel
theorem dX8_clear_11 : decode cX8_clear 11 = .ok (.istore_n 1, 1) := by decide +kernel
theorem dX8_clear_12 : decode cX8_clear 12 = .ok (.iload_n 1, 1) := by decide +kernel
theorem dX8_clear_13 : decode cX8_clear 13 = .ok (.iconst 5, 1) := by decide +kernel
theorem dX8_clear_14 : decode cX8_clear 14 = .ok (.if_icmp .ge 45, 3) := by decide +kernel
theorem dX8_clear_17 : decode cX8_clear 17 = .ok (.aload_n 0, 1) := by decide +kernel
theorem dX8_clear_18 : decode cX8_clear 18 = .ok (.getfield 43, 3) := by decide +kernel
theorem dX8_clear_21 : decode cX8_clear 21 = .ok (.iload_n 1, 1) := by decide +kernel
theorem dX8_clear_22 : decode cX8_clear 22 = .ok (.iconst 0, 1) := by decide +kernel
theorem dX8_clear_23 : decode cX8_clear 23 = .ok (.iastore, 1) := by decide +kernel
theorem dX8_clear_24 : decode cX8_clear 24 = .ok (.aload_n 0, 1) := by decide +kernel
theorem dX8_clear_25 : decode cX8_clear 25 = .ok (.getfield 46, 3) := by decide +kernel
theorem dX8_clear_28 : decode cX8_clear 28 = .ok (.iload_n 1, 1) := by decide +kernel
theorem dX8_clear_29 : decode cX8_clear 29 = .ok (.iconst 0, 1) := by decide +kernel
theorem dX8_clear_30 : decode cX8_clear 30 = .ok (.iastore, 1) := by decide +kernel
theorem dX8_clear_31 : decode cX8_clear 31 = .ok (.iconst 0, 1) := by decide +kernel
theorem dX8_clear_32 : decode cX8_clear 32 = .ok (.istore_n 2, 1) := by decide +kernel
theorem dX8_clear_33 : decode cX8_clear 33 = .ok (.iload_n 2, 1) := by decide +kernel
theorem dX8_clear_34 : decode cX8_clear 34 = .ok (.bipush 10, 2) := by decide +kernel
theorem dX8_clear_36 : decode cX8_clear 36 = .ok (.if_icmp .ge 17, 3) := by decide +kernel
theorem dX8_clear_39 : decode cX8_clear 39 = .ok (.aload_n 0, 1) := by decide +kernel
theorem dX8_clear_40 : decode cX8_clear 40 = .ok (.iload_n 1, 1) := by decide +kernel
theorem dX8_clear_41 : decode cX8_clear 41 = .ok (.iload_n 2, 1) := by decide +kernel
theorem dX8_clear_42 : decode cX8_clear 42 = .ok (.lconst 0, 1) := by decide +kernel
theorem dX8_clear_43 : decode cX8_clear 43 = .ok (.iconst 0, 1) := by decide +kernel
theorem dX8_clear_44 : decode cX8_clear 44 = .ok (.invokevirtual 100, 3) := by decide +kernel
theorem dX8_clear_47 : decode cX8_clear 47 = .ok (.iinc 2 1, 3) := by decide +kernel
theorem dX8_clear_50 : decode cX8_clear 50 = .ok (.goto (-17), 3) := by decide +kernel
theorem dX8_clear_53 : decode cX8_clear 53 = .ok (.iinc 1 1, 3) := by decide +kernel
theorem dX8_clear_56 : decode cX8_clear 56 = .ok (.goto (-44), 3) := by decide +kernel
theorem dX8_clear_59 : decode cX8_clear 59 = .ok (.return_, 1) := by decide +kernel
theorem dX8_addBell_0 : decode cX8_addBell 0 = .ok (.aload_n 0, 1) := by decide +kernel
theorem dX8_addBell_1 : decode cX8_addBell 1 = .ok (.getfield 9, 3) := by decide +kernel
theorem dX8_addBell_4 : decode cX8_addBell 4 = .ok (.ifCond .lt 11, 3) := by decide +kernel
theorem dX8_addBell_7 : decode cX8_addBell 7 = .ok (.aload_n 0, 1) := by decide +kernel
theorem dX8_addBell_8 : decode cX8_addBell 8 = .ok (.getfield 9, 3) := by decide +kernel
theorem dX8_addBell_11 : decode cX8_addBell 11 = .ok (.iconst 3, 1) := by decide +kernel
theorem dX8_addBell_12 : decode cX8_addBell 12 = .ok (.if_icmp .lt 4, 3) := by decide +kernel
theorem dX8_addBell_15 : decode cX8_addBell 15 = .ok (.return_, 1) := by decide +kernel
theorem dX8_addBell_16 : decode cX8_addBell 16 = .ok (.aload_n 0, 1) := by decide +kernel
theorem dX8_addBell_17 : decode cX8_addBell 17 = .ok (.getfield 18, 3) := by decide +kernel
theorem dX8_addBell_20 : decode cX8_addBell 20 = .ok (.aload_n 0, 1) := by decide +kernel
theorem dX8_addBell_21 : decode cX8_addBell 21 = .ok (.getfield 9, 3) := by decide +kernel
theorem dX8_addBell_24 : decode cX8_addBell 24 = .ok (.iload_n 1, 1) := by decide +kernel
theorem dX8_addBell_25 : decode cX8_addBell 25 = .ok (.iastore, 1) := by decide +kernel
theorem dX8_addBell_26 : decode cX8_addBell 26 = .ok (.aload_n 0, 1) := by decide +kernel
theorem dX8_addBell_27 : decode cX8_addBell 27 = .ok (.getfield 22, 3) := by decide +kernel
theorem dX8_addBell_30 : decode cX8_addBell 30 = .ok (.aload_n 0, 1) := by decide +kernel
theorem dX8_addBell_31 : decode cX8_addBell 31 = .ok (.getfield 9, 3) := by decide +kernel
theorem dX8_addBell_34 : decode cX8_addBell 34 = .ok (.iload_n 2, 1) := by decide +kernel
theorem dX8_addBell_35 : decode cX8_addBell 35 = .ok (.iastore, 1) := by decide +kernel
theorem dX8_addBell_36 : decode cX8_addBell 36 = .ok (.aload_n 0, 1) := by decide +kernel
theorem dX8_addBell_37 : decode cX8_addBell 37 = .ok (.dup, 1) := by decide +kernel
theorem dX8_addBell_38 : decode cX8_addBell 38 = .ok (.getfield 9, 3) := by decide +kernel
theorem dX8_addBell_41 : decode cX8_addBell 41 = .ok (.iconst 1, 1) := by decide +kernel
theorem dX8_addBell_42 : decode cX8_addBell 42 = .ok (.iadd, 1) := by decide +kernel
theorem dX8_addBell_43 : decode cX8_addBell 43 = .ok (.putfield 9, 3) := by decide +kernel
theorem dX8_addBell_46 : decode cX8_addBell 46 = .ok (.return_, 1) := by decide +kernel
theorem dX8_addBidder_0 : decode cX8_addBidder 0 = .ok (.aload_n 0, 1) := by decide +kernel
theorem dX8_addBidder_1 : decode cX8_addBidder 1 = .ok (.getfield 15, 3) := by decide +kernel
theorem dX8_addBidder_4 : decode cX8_addBidder 4 = .ok (.istore 4, 2) := by decide +kernel
theorem dX8_addBidder_6 : decode cX8_addBidder 6 = .ok (.iload 4, 2) := by decide +kernel
theorem dX8_addBidder_8 : decode cX8_addBidder 8 = .ok (.ifCond .lt 9, 3) := by decide +kernel
theorem dX8_addBidder_11 : decode cX8_addBidder 11 = .ok (.iload 4, 2) := by decide +kernel
theorem dX8_addBidder_13 : decode cX8_addBidder 13 = .ok (.iconst 5, 1) := by decide +kernel
theorem dX8_addBidder_14 : decode cX8_addBidder 14 = .ok (.if_icmp .lt 4, 3) := by decide +kernel
theorem dX8_addBidder_17 : decode cX8_addBidder 17 = .ok (.return_, 1) := by decide +kernel
theorem dX8_addBidder_18 : decode cX8_addBidder 18 = .ok (.iload_n 1, 1) := by decide +kernel
theorem dX8_addBidder_19 : decode cX8_addBidder 19 = .ok (.bipush 80, 2) := by decide +kernel
theorem dX8_addBidder_21 : decode cX8_addBidder 21 = .ok (.if_icmp .ne 7, 3) := by decide +kernel
theorem dX8_addBidder_24 : decode cX8_addBidder 24 = .ok (.iconst 1, 1) := by decide +kernel
theorem dX8_addBidder_25 : decode cX8_addBidder 25 = .ok (.goto 4, 3) := by decide +kernel
theorem dX8_addBidder_28 : decode cX8_addBidder 28 = .ok (.iconst 0, 1) := by decide +kernel
theorem dX8_addBidder_29 : decode cX8_addBidder 29 = .ok (.istore 5, 2) := by decide +kernel
theorem dX8_addBidder_31 : decode cX8_addBidder 31 = .ok (.iload 5, 2) := by decide +kernel
theorem dX8_addBidder_33 : decode cX8_addBidder 33 = .ok (.ifCond .eq 9, 3) := by decide +kernel
theorem dX8_addBidder_36 : decode cX8_addBidder 36 = .ok (.iload_n 3, 1) := by decide +kernel
theorem dX8_addBidder_37 : decode cX8_addBidder 37 = .ok (.iconst 4, 1) := by decide +kernel
theorem dX8_addBidder_38 : decode cX8_addBidder 38 = .ok (.iadd, 1) := by decide +kernel
theorem dX8_addBidder_39 : decode cX8_addBidder 39 = .ok (.goto 6, 3) := by decide +kernel
theorem dX8_addBidder_42 : decode cX8_addBidder 42 = .ok (.iload_n 3, 1) := by decide +kernel
theorem dX8_addBidder_43 : decode cX8_addBidder 43 = .ok (.iconst 1, 1) := by decide +kernel
theorem dX8_addBidder_44 : decode cX8_addBidder 44 = .ok (.iadd, 1) := by decide +kernel
theorem dX8_addBidder_45 : decode cX8_addBidder 45 = .ok (.istore 6, 2) := by decide +kernel
theorem dX8_addBidder_47 : decode cX8_addBidder 47 = .ok (.aload_n 0, 1) := by decide +kernel
theorem dX8_addBidder_48 : decode cX8_addBidder 48 = .ok (.getfield 25, 3) := by decide +kernel
theorem dX8_addBidder_51 : decode cX8_addBidder 51 = .ok (.iload 4, 2) := by decide +kernel
theorem dX8_addBidder_53 : decode cX8_addBidder 53 = .ok (.iload 5, 2) := by decide +kernel
theorem dX8_addBidder_55 : decode cX8_addBidder 55 = .ok (.ifCond .eq 13, 3) := by decide +kernel
theorem dX8_addBidder_58 : decode cX8_addBidder 58 = .ok (.aload_n 2, 1) := by decide +kernel
theorem dX8_addBidder_59 : decode cX8_addBidder 59 = .ok (.iload_n 3, 1) := by decide +kernel
theorem dX8_addBidder_60 : decode cX8_addBidder 60 = .ok (.iconst 1, 1) := by decide +kernel
theorem dX8_addBidder_61 : decode cX8_addBidder 61 = .ok (.iadd, 1) := by decide +kernel
theorem dX8_addBidder_62 : decode cX8_addBidder 62 = .ok (.invokevirtual 86, 3) := by decide +kernel
theorem dX8_addBidder_65 : decode cX8_addBidder 65 = .ok (.goto 5, 3) := by decide +kernel
theorem dX8_addBidder_68 : decode cX8_addBidder 68 = .ok (.bipush (-9), 2) := by decide +kernel
theorem dX8_addBidder_70 : decode cX8_addBidder 70 = .ok (.iastore, 1) := by decide +kernel
theorem dX8_addBidder_71 : decode cX8_addBidder 71 = .ok (.aload_n 0, 1) := by decide +kernel
theorem dX8_addBidder_72 : decode cX8_addBidder 72 = .ok (.getfield 28, 3) := by decide +kernel
theorem dX8_addBidder_75 : decode cX8_addBidder 75 = .ok (.iload 4, 2) := by decide +kernel
theorem dX8_addBidder_77 : decode cX8_addBidder 77 = .ok (.iload 5, 2) := by decide +kernel
theorem dX8_addBidder_79 : decode cX8_addBidder 79 = .ok (.ifCond .eq 13, 3) := by decide +kernel
theorem dX8_addBidder_82 : decode cX8_addBidder 82 = .ok (.aload_n 2, 1) := by decide +kernel
theorem dX8_addBidder_83 : decode cX8_addBidder 83 = .ok (.iload_n 3, 1) := by decide +kernel
theorem dX8_addBidder_84 : decode cX8_addBidder 84 = .ok (.iconst 2, 1) := by decide +kernel
theorem dX8_addBidder_85 : decode cX8_addBidder 85 = .ok (.iadd, 1) := by decide +kernel
theorem dX8_addBidder_86 : decode cX8_addBidder 86 = .ok (.invokevirtual 86, 3) := by decide +kernel
theorem dX8_addBidder_89 : decode cX8_addBidder 89 = .ok (.goto 4, 3) := by decide +kernel
theorem dX8_addBidder_92 : decode cX8_addBidder 92 = .ok (.iconst 0, 1) := by decide +kernel
theorem dX8_addBidder_93 : decode cX8_addBidder 93 = .ok (.iastore, 1) := by decide +kernel
theorem dX8_addBidder_94 : decode cX8_addBidder 94 = .ok (.aload_n 0, 1) := by decide +kernel
theorem dX8_addBidder_95 : decode cX8_addBidder 95 = .ok (.getfield 31, 3) := by decide +kernel
theorem dX8_addBidder_98 : decode cX8_addBidder 98 = .ok (.iload 4, 2) := by decide +kernel
theorem dX8_addBidder_100 : decode cX8_addBidder 100 = .ok (.iload 5, 2) := by decide +kernel
theorem dX8_addBidder_102 : decode cX8_addBidder 102 = .ok (.ifCond .eq 13, 3) := by decide +kernel
theorem dX8_addBidder_105 : decode cX8_addBidder 105 = .ok (.aload_n 2, 1) := by decide +kernel
theorem dX8_addBidder_106 : decode cX8_addBidder 106 = .ok (.iload_n 3, 1) := by decide +kernel
theorem dX8_addBidder_107 : decode cX8_addBidder 107 = .ok (.iconst 3, 1) := by decide +kernel
theorem dX8_addBidder_108 : decode cX8_addBidder 108 = .ok (.iadd, 1) := by decide +kernel
theorem dX8_addBidder_109 : decode cX8_addBidder 109 = .ok (.invokevirtual 86, 3) := by decide +kernel
theorem dX8_addBidder_112 : decode cX8_addBidder 112 = .ok (.goto 4, 3) := by decide +kernel
theorem dX8_addBidder_115 : decode cX8_addBidder 115 = .ok (.iconst 0, 1) := by decide +kernel
theorem dX8_addBidder_116 : decode cX8_addBidder 116 = .ok (.iastore, 1) := by decide +kernel
theorem dX8_addBidder_117 : decode cX8_addBidder 117 = .ok (.aload_n 0, 1) := by decide +kernel
theorem dX8_addBidder_118 : decode cX8_addBidder 118 = .ok (.getfield 34, 3) := by decide +kernel
theorem dX8_addBidder_121 : decode cX8_addBidder 121 = .ok (.iload 4, 2) := by decide +kernel
theorem dX8_addBidder_123 : decode cX8_addBidder 123 = .ok (.aload_n 2, 1) := by decide +kernel
theorem dX8_addBidder_124 : decode cX8_addBidder 124 = .ok (.iload 6, 2) := by decide +kernel
theorem dX8_addBidder_126 : decode cX8_addBidder 126 = .ok (.invokevirtual 86, 3) := by decide +kernel
theorem dX8_addBidder_129 : decode cX8_addBidder 129 = .ok (.iastore, 1) := by decide +kernel
theorem dX8_addBidder_130 : decode cX8_addBidder 130 = .ok (.aload_n 0, 1) := by decide +kernel
theorem dX8_addBidder_131 : decode cX8_addBidder 131 = .ok (.getfield 37, 3) := by decide +kernel
theorem dX8_addBidder_134 : decode cX8_addBidder 134 = .ok (.iload 4, 2) := by decide +kernel
theorem dX8_addBidder_136 : decode cX8_addBidder 136 = .ok (.aload_n 2, 1) := by decide +kernel
theorem dX8_addBidder_137 : decode cX8_addBidder 137 = .ok (.iload 6, 2) := by decide +kernel
theorem dX8_addBidder_139 : decode cX8_addBidder 139 = .ok (.iconst 1, 1) := by decide +kernel
theorem dX8_addBidder_140 : decode cX8_addBidder 140 = .ok (.iadd, 1) := by decide +kernel
theorem dX8_addBidder_141 : decode cX8_addBidder 141 = .ok (.invokevirtual 86, 3) := by decide +kernel
theorem dX8_addBidder_144 : decode cX8_addBidder 144 = .ok (.iastore, 1) := by decide +kernel
theorem dX8_addBidder_145 : decode cX8_addBidder 145 = .ok (.aload_n 0, 1) := by decide +kernel
theorem dX8_addBidder_146 : decode cX8_addBidder 146 = .ok (.getfield 40, 3) := by decide +kernel
theorem dX8_addBidder_149 : decode cX8_addBidder 149 = .ok (.iload 4, 2) := by decide +kernel
theorem dX8_addBidder_151 : decode cX8_addBidder 151 = .ok (.aload_n 2, 1) := by decide +kernel
theorem dX8_addBidder_152 : decode cX8_addBidder 152 = .ok (.iload 6, 2) := by decide +kernel
theorem dX8_addBidder_154 : decode cX8_addBidder 154 = .ok (.iconst 2, 1) := by decide +kernel
theorem dX8_addBidder_155 : decode cX8_addBidder 155 = .ok (.iadd, 1) := by decide +kernel
theorem dX8_addBidder_156 : decode cX8_addBidder 156 = .ok (.invokevirtual 86, 3) := by decide +kernel
theorem dX8_addBidder_159 : decode cX8_addBidder 159 = .ok (.iastore, 1) := by decide +kernel
theorem dX8_addBidder_160 : decode cX8_addBidder 160 = .ok (.aload_n 0, 1) := by decide +kernel
theorem dX8_addBidder_161 : decode cX8_addBidder 161 = .ok (.dup, 1) := by decide +kernel
theorem dX8_addBidder_162 : decode cX8_addBidder 162 = .ok (.getfield 15, 3) := by decide +kernel
theorem dX8_addBidder_165 : decode cX8_addBidder 165 = .ok (.iconst 1, 1) := by decide +kernel
theorem dX8_addBidder_166 : decode cX8_addBidder 166 = .ok (.iadd, 1) := by decide +kernel
theorem dX8_addBidder_167 : decode cX8_addBidder 167 = .ok (.putfield 15, 3) := by decide +kernel
theorem dX8_addBidder_170 : decode cX8_addBidder 170 = .ok (.iload 5, 2) := by decide +kernel
theorem dX8_addBidder_172 : decode cX8_addBidder 172 = .ok (.ifCond .eq 12, 3) := by decide +kernel
theorem dX8_addBidder_175 : decode cX8_addBidder 175 = .ok (.aload_n 0, 1) := by decide +kernel
theorem dX8_addBidder_176 : decode cX8_addBidder 176 = .ok (.iload 4, 2) := by decide +kernel
theorem dX8_addBidder_178 : decode cX8_addBidder 178 = .ok (.invokevirtual 104, 3) := by decide +kernel
theorem dX8_addBidder_181 : decode cX8_addBidder 181 = .ok (.goto 56, 3) := by decide +kernel
theorem dX8_addBidder_184 : decode cX8_addBidder 184 = .ok (.aload_n 0, 1) := by decide +kernel
theorem dX8_addBidder_185 : decode cX8_addBidder 185 = .ok (.getfield 46, 3) := by decide +kernel
theorem dX8_addBidder_188 : decode cX8_addBidder 188 = .ok (.iload 4, 2) := by decide +kernel
theorem dX8_addBidder_190 : decode cX8_addBidder 190 = .ok (.aload_n 0, 1) := by decide +kernel
theorem dX8_addBidder_191 : decode cX8_addBidder 191 = .ok (.getfield 34, 3) := by decide +kernel
theorem dX8_addBidder_194 : decode cX8_addBidder 194 = .ok (.iload 4, 2) := by decide +kernel
theorem dX8_addBidder_196 : decode cX8_addBidder 196 = .ok (.iaload, 1) := by decide +kernel
theorem dX8_addBidder_197 : decode cX8_addBidder 197 = .ok (.aload_n 0, 1) := by decide +kernel
theorem dX8_addBidder_198 : decode cX8_addBidder 198 = .ok (.getfield 37, 3) := by decide +kernel
theorem dX8_addBidder_201 : decode cX8_addBidder 201 = .ok (.iload 4, 2) := by decide +kernel
theorem dX8_addBidder_203 : decode cX8_addBidder 203 = .ok (.iaload, 1) := by decide +kernel
theorem dX8_addBidder_204 : decode cX8_addBidder 204 = .ok (.aload_n 0, 1) := by decide +kernel
theorem dX8_addBidder_205 : decode cX8_addBidder 205 = .ok (.getfield 34, 3) := by decide +kernel
theorem dX8_addBidder_208 : decode cX8_addBidder 208 = .ok (.iload 4, 2) := by decide +kernel
theorem dX8_addBidder_210 : decode cX8_addBidder 210 = .ok (.iaload, 1) := by decide +kernel
theorem dX8_addBidder_211 : decode cX8_addBidder 211 = .ok (.isub, 1) := by decide +kernel
theorem dX8_addBidder_212 : decode cX8_addBidder 212 = .ok (.iconst 1, 1) := by decide +kernel
theorem dX8_addBidder_213 : decode cX8_addBidder 213 = .ok (.iadd, 1) := by decide +kernel
theorem dX8_addBidder_214 : decode cX8_addBidder 214 = .ok (.invokestatic 108, 3) := by decide +kernel
theorem dX8_addBidder_217 : decode cX8_addBidder 217 = .ok (.ldc 111, 2) := by decide +kernel
theorem dX8_addBidder_219 : decode cX8_addBidder 219 = .ok (.imul, 1) := by decide +kernel
theorem dX8_addBidder_220 : decode cX8_addBidder 220 = .ok (.iastore, 1) := by decide +kernel
theorem dX8_addBidder_221 : decode cX8_addBidder 221 = .ok (.aload_n 0, 1) := by decide +kernel
theorem dX8_addBidder_222 : decode cX8_addBidder 222 = .ok (.getfield 43, 3) := by decide +kernel
theorem dX8_addBidder_225 : decode cX8_addBidder 225 = .ok (.iload 4, 2) := by decide +kernel
theorem dX8_addBidder_227 : decode cX8_addBidder 227 = .ok (.iconst 1, 1) := by decide +kernel
theorem dX8_addBidder_228 : decode cX8_addBidder 228 = .ok (.aload_n 0, 1) := by decide +kernel
theorem dX8_addBidder_229 : decode cX8_addBidder 229 = .ok (.getfield 34, 3) := by decide +kernel
theorem dX8_addBidder_232 : decode cX8_addBidder 232 = .ok (.iload 4, 2) := by decide +kernel
theorem dX8_addBidder_234 : decode cX8_addBidder 234 = .ok (.iaload, 1) := by decide +kernel
theorem dX8_addBidder_235 : decode cX8_addBidder 235 = .ok (.ishl, 1) := by decide +kernel
theorem dX8_addBidder_236 : decode cX8_addBidder 236 = .ok (.iastore, 1) := by decide +kernel
theorem dX8_addBidder_237 : decode cX8_addBidder 237 = .ok (.return_, 1) := by decide +kernel
theorem dX8_layPeal_0 : decode cX8_layPeal 0 = .ok (.aload_n 0, 1) := by decide +kernel
theorem dX8_layPeal_1 : decode cX8_layPeal 1 = .ok (.getfield 25, 3) := by decide +kernel
theorem dX8_layPeal_4 : decode cX8_layPeal 4 = .ok (.iload_n 1, 1) := by decide +kernel
theorem dX8_layPeal_5 : decode cX8_layPeal 5 = .ok (.invokestatic 60, 3) := by decide +kernel
theorem dX8_layPeal_8 : decode cX8_layPeal 8 = .ok (.istore_n 2, 1) := by decide +kernel
theorem dX8_layPeal_9 : decode cX8_layPeal 9 = .ok (.aload_n 0, 1) := by decide +kernel
theorem dX8_layPeal_10 : decode cX8_layPeal 10 = .ok (.getfield 28, 3) := by decide +kernel
theorem dX8_layPeal_13 : decode cX8_layPeal 13 = .ok (.iload_n 1, 1) := by decide +kernel
theorem dX8_layPeal_14 : decode cX8_layPeal 14 = .ok (.invokestatic 60, 3) := by decide +kernel
theorem dX8_layPeal_17 : decode cX8_layPeal 17 = .ok (.istore_n 3, 1) := by decide +kernel
theorem dX8_layPeal_18 : decode cX8_layPeal 18 = .ok (.aload_n 0, 1) := by decide +kernel
theorem dX8_layPeal_19 : decode cX8_layPeal 19 = .ok (.getfield 31, 3) := by decide +kernel
theorem dX8_layPeal_22 : decode cX8_layPeal 22 = .ok (.iload_n 1, 1) := by decide +kernel
theorem dX8_layPeal_23 : decode cX8_layPeal 23 = .ok (.invokestatic 60, 3) := by decide +kernel
theorem dX8_layPeal_26 : decode cX8_layPeal 26 = .ok (.istore 4, 2) := by decide +kernel
theorem dX8_layPeal_28 : decode cX8_layPeal 28 = .ok (.aload_n 0, 1) := by decide +kernel
theorem dX8_layPeal_29 : decode cX8_layPeal 29 = .ok (.getfield 18, 3) := by decide +kernel
theorem dX8_layPeal_32 : decode cX8_layPeal 32 = .ok (.iload_n 2, 1) := by decide +kernel
theorem dX8_layPeal_33 : decode cX8_layPeal 33 = .ok (.invokestatic 60, 3) := by decide +kernel
theorem dX8_layPeal_36 : decode cX8_layPeal 36 = .ok (.istore 5, 2) := by decide +kernel
theorem dX8_layPeal_38 : decode cX8_layPeal 38 = .ok (.aload_n 0, 1) := by decide +kernel
theorem dX8_layPeal_39 : decode cX8_layPeal 39 = .ok (.getfield 22, 3) := by decide +kernel
theorem dX8_layPeal_42 : decode cX8_layPeal 42 = .ok (.iload_n 2, 1) := by decide +kernel
theorem dX8_layPeal_43 : decode cX8_layPeal 43 = .ok (.invokestatic 60, 3) := by decide +kernel
theorem dX8_layPeal_46 : decode cX8_layPeal 46 = .ok (.istore 6, 2) := by decide +kernel
theorem dX8_layPeal_48 : decode cX8_layPeal 48 = .ok (.iload_n 3, 1) := by decide +kernel
theorem dX8_layPeal_49 : decode cX8_layPeal 49 = .ok (.iload 5, 2) := by decide +kernel
theorem dX8_layPeal_51 : decode cX8_layPeal 51 = .ok (.imul, 1) := by decide +kernel
theorem dX8_layPeal_52 : decode cX8_layPeal 52 = .ok (.iload_n 3, 1) := by decide +kernel
theorem dX8_layPeal_53 : decode cX8_layPeal 53 = .ok (.iconst 1, 1) := by decide +kernel
theorem dX8_layPeal_54 : decode cX8_layPeal 54 = .ok (.isub, 1) := by decide +kernel
theorem dX8_layPeal_55 : decode cX8_layPeal 55 = .ok (.iload 4, 2) := by decide +kernel
theorem dX8_layPeal_57 : decode cX8_layPeal 57 = .ok (.imul, 1) := by decide +kernel
theorem dX8_layPeal_58 : decode cX8_layPeal 58 = .ok (.iadd, 1) := by decide +kernel
theorem dX8_layPeal_59 : decode cX8_layPeal 59 = .ok (.istore 7, 2) := by decide +kernel
theorem dX8_layPeal_61 : decode cX8_layPeal 61 = .ok (.iload_n 3, 1) := by decide +kernel
theorem dX8_layPeal_62 : decode cX8_layPeal 62 = .ok (.iconst 1, 1) := by decide +kernel
theorem dX8_layPeal_63 : decode cX8_layPeal 63 = .ok (.if_icmp .le 15, 3) := by decide +kernel
theorem dX8_layPeal_66 : decode cX8_layPeal 66 = .ok (.iload 4, 2) := by decide +kernel
theorem dX8_layPeal_68 : decode cX8_layPeal 68 = .ok (.iload 6, 2) := by decide +kernel
theorem dX8_layPeal_70 : decode cX8_layPeal 70 = .ok (.if_icmp .ge 8, 3) := by decide +kernel
theorem dX8_layPeal_73 : decode cX8_layPeal 73 = .ok (.bipush (-9), 2) := by decide +kernel
theorem dX8_layPeal_75 : decode cX8_layPeal 75 = .ok (.goto 16, 3) := by decide +kernel
theorem dX8_layPeal_78 : decode cX8_layPeal 78 = .ok (.aload_n 0, 1) := by decide +kernel
theorem dX8_layPeal_79 : decode cX8_layPeal 79 = .ok (.getfield 37, 3) := by decide +kernel
theorem dX8_layPeal_82 : decode cX8_layPeal 82 = .ok (.iload_n 1, 1) := by decide +kernel
theorem dX8_layPeal_83 : decode cX8_layPeal 83 = .ok (.invokestatic 60, 3) := by decide +kernel
theorem dX8_layPeal_86 : decode cX8_layPeal 86 = .ok (.iconst 1, 1) := by decide +kernel
theorem dX8_layPeal_87 : decode cX8_layPeal 87 = .ok (.iadd, 1) := by decide +kernel
theorem dX8_layPeal_88 : decode cX8_layPeal 88 = .ok (.iload 7, 2) := by decide +kernel
theorem dX8_layPeal_90 : decode cX8_layPeal 90 = .ok (.isub, 1) := by decide +kernel
theorem dX8_layPeal_91 : decode cX8_layPeal 91 = .ok (.istore 8, 2) := by decide +kernel
theorem dX8_layPeal_93 : decode cX8_layPeal 93 = .ok (.iconst 0, 1) := by decide +kernel
theorem dX8_layPeal_94 : decode cX8_layPeal 94 = .ok (.istore 9, 2) := by decide +kernel
theorem dX8_layPeal_96 : decode cX8_layPeal 96 = .ok (.aload_n 0, 1) := by decide +kernel
theorem dX8_layPeal_97 : decode cX8_layPeal 97 = .ok (.getfield 34, 3) := by decide +kernel
theorem dX8_layPeal_100 : decode cX8_layPeal 100 = .ok (.iload_n 1, 1) := by decide +kernel
theorem dX8_layPeal_101 : decode cX8_layPeal 101 = .ok (.invokestatic 60, 3) := by decide +kernel
theorem dX8_layPeal_104 : decode cX8_layPeal 104 = .ok (.istore 10, 2) := by decide +kernel
theorem dX8_layPeal_106 : decode cX8_layPeal 106 = .ok (.iload 10, 2) := by decide +kernel
theorem dX8_layPeal_108 : decode cX8_layPeal 108 = .ok (.iload 8, 2) := by decide +kernel
theorem dX8_layPeal_110 : decode cX8_layPeal 110 = .ok (.if_icmp .gt 113, 3) := by decide +kernel
theorem dX8_layPeal_113 : decode cX8_layPeal 113 = .ok (.iload 10, 2) := by decide +kernel
theorem dX8_layPeal_115 : decode cX8_layPeal 115 = .ok (.bipush 10, 2) := by decide +kernel
theorem dX8_layPeal_117 : decode cX8_layPeal 117 = .ok (.if_icmp .ge 106, 3) := by decide +kernel
theorem dX8_layPeal_120 : decode cX8_layPeal 120 = .ok (.iconst 0, 1) := by decide +kernel
theorem dX8_layPeal_121 : decode cX8_layPeal 121 = .ok (.istore 11, 2) := by decide +kernel
theorem dX8_layPeal_123 : decode cX8_layPeal 123 = .ok (.iconst 0, 1) := by decide +kernel
theorem dX8_layPeal_124 : decode cX8_layPeal 124 = .ok (.istore 12, 2) := by decide +kernel
theorem dX8_layPeal_126 : decode cX8_layPeal 126 = .ok (.iconst 0, 1) := by decide +kernel
theorem dX8_layPeal_127 : decode cX8_layPeal 127 = .ok (.istore 13, 2) := by decide +kernel
theorem dX8_layPeal_129 : decode cX8_layPeal 129 = .ok (.iload 13, 2) := by decide +kernel
theorem dX8_layPeal_131 : decode cX8_layPeal 131 = .ok (.iload_n 3, 1) := by decide +kernel
theorem dX8_layPeal_132 : decode cX8_layPeal 132 = .ok (.if_icmp .ge 54, 3) := by decide +kernel
theorem dX8_layPeal_135 : decode cX8_layPeal 135 = .ok (.iload 11, 2) := by decide +kernel
theorem dX8_layPeal_137 : decode cX8_layPeal 137 = .ok (.iload 10, 2) := by decide +kernel
theorem dX8_layPeal_139 : decode cX8_layPeal 139 = .ok (.iload 13, 2) := by decide +kernel
theorem dX8_layPeal_141 : decode cX8_layPeal 141 = .ok (.iload 5, 2) := by decide +kernel
theorem dX8_layPeal_143 : decode cX8_layPeal 143 = .ok (.iload 4, 2) := by decide +kernel
theorem dX8_layPeal_145 : decode cX8_layPeal 145 = .ok (.iadd, 1) := by decide +kernel
theorem dX8_layPeal_146 : decode cX8_layPeal 146 = .ok (.imul, 1) := by decide +kernel
theorem dX8_layPeal_147 : decode cX8_layPeal 147 = .ok (.iadd, 1) := by decide +kernel
theorem dX8_layPeal_148 : decode cX8_layPeal 148 = .ok (.iload 5, 2) := by decide +kernel
theorem dX8_layPeal_150 : decode cX8_layPeal 150 = .ok (.invokestatic 108, 3) := by decide +kernel
theorem dX8_layPeal_153 : decode cX8_layPeal 153 = .ok (.ior, 1) := by decide +kernel
theorem dX8_layPeal_154 : decode cX8_layPeal 154 = .ok (.istore 11, 2) := by decide +kernel
theorem dX8_layPeal_156 : decode cX8_layPeal 156 = .ok (.iload 12, 2) := by decide +kernel
theorem dX8_layPeal_158 : decode cX8_layPeal 158 = .ok (.iload 10, 2) := by decide +kernel
theorem dX8_layPeal_160 : decode cX8_layPeal 160 = .ok (.iload 13, 2) := by decide +kernel
theorem dX8_layPeal_162 : decode cX8_layPeal 162 = .ok (.iload 5, 2) := by decide +kernel
theorem dX8_layPeal_164 : decode cX8_layPeal 164 = .ok (.iload 4, 2) := by decide +kernel
theorem dX8_layPeal_166 : decode cX8_layPeal 166 = .ok (.iadd, 1) := by decide +kernel
theorem dX8_layPeal_167 : decode cX8_layPeal 167 = .ok (.imul, 1) := by decide +kernel
theorem dX8_layPeal_168 : decode cX8_layPeal 168 = .ok (.iadd, 1) := by decide +kernel
theorem dX8_layPeal_169 : decode cX8_layPeal 169 = .ok (.iload 5, 2) := by decide +kernel
theorem dX8_layPeal_171 : decode cX8_layPeal 171 = .ok (.iload 6, 2) := by decide +kernel
theorem dX8_layPeal_173 : decode cX8_layPeal 173 = .ok (.iadd, 1) := by decide +kernel
theorem dX8_layPeal_174 : decode cX8_layPeal 174 = .ok (.invokestatic 108, 3) := by decide +kernel
theorem dX8_layPeal_177 : decode cX8_layPeal 177 = .ok (.ior, 1) := by decide +kernel
theorem dX8_layPeal_178 : decode cX8_layPeal 178 = .ok (.istore 12, 2) := by decide +kernel
theorem dX8_layPeal_180 : decode cX8_layPeal 180 = .ok (.iinc 13 1, 3) := by decide +kernel
theorem dX8_layPeal_183 : decode cX8_layPeal 183 = .ok (.goto (-54), 3) := by decide +kernel
theorem dX8_layPeal_186 : decode cX8_layPeal 186 = .ok (.aload_n 0, 1) := by decide +kernel
theorem dX8_layPeal_187 : decode cX8_layPeal 187 = .ok (.iload_n 1, 1) := by decide +kernel
theorem dX8_layPeal_188 : decode cX8_layPeal 188 = .ok (.iload 10, 2) := by decide +kernel
theorem dX8_layPeal_190 : decode cX8_layPeal 190 = .ok (.iload 12, 2) := by decide +kernel
theorem dX8_layPeal_192 : decode cX8_layPeal 192 = .ok (.i2l, 1) := by decide +kernel
theorem dX8_layPeal_193 : decode cX8_layPeal 193 = .ok (.bipush 12, 2) := by decide +kernel
theorem dX8_layPeal_195 : decode cX8_layPeal 195 = .ok (.iload_n 2, 1) := by decide +kernel
theorem dX8_layPeal_196 : decode cX8_layPeal 196 = .ok (.imul, 1) := by decide +kernel
theorem dX8_layPeal_197 : decode cX8_layPeal 197 = .ok (.lshl, 1) := by decide +kernel
theorem dX8_layPeal_198 : decode cX8_layPeal 198 = .ok (.iload 11, 2) := by decide +kernel
theorem dX8_layPeal_200 : decode cX8_layPeal 200 = .ok (.bipush 10, 2) := by decide +kernel
theorem dX8_layPeal_202 : decode cX8_layPeal 202 = .ok (.iload_n 2, 1) := by decide +kernel
theorem dX8_layPeal_203 : decode cX8_layPeal 203 = .ok (.imul, 1) := by decide +kernel
theorem dX8_layPeal_204 : decode cX8_layPeal 204 = .ok (.ishl, 1) := by decide +kernel
theorem dX8_layPeal_205 : decode cX8_layPeal 205 = .ok (.invokevirtual 100, 3) := by decide +kernel
theorem dX8_layPeal_208 : decode cX8_layPeal 208 = .ok (.iload 9, 2) := by decide +kernel
theorem dX8_layPeal_210 : decode cX8_layPeal 210 = .ok (.iconst 1, 1) := by decide +kernel
theorem dX8_layPeal_211 : decode cX8_layPeal 211 = .ok (.iload 10, 2) := by decide +kernel
theorem dX8_layPeal_213 : decode cX8_layPeal 213 = .ok (.ishl, 1) := by decide +kernel
theorem dX8_layPeal_214 : decode cX8_layPeal 214 = .ok (.ior, 1) := by decide +kernel
theorem dX8_layPeal_215 : decode cX8_layPeal 215 = .ok (.istore 9, 2) := by decide +kernel
theorem dX8_layPeal_217 : decode cX8_layPeal 217 = .ok (.iinc 10 1, 3) := by decide +kernel
theorem dX8_layPeal_220 : decode cX8_layPeal 220 = .ok (.goto (-114), 3) := by decide +kernel
theorem dX8_layPeal_223 : decode cX8_layPeal 223 = .ok (.aload_n 0, 1) := by decide +kernel
theorem dX8_layPeal_224 : decode cX8_layPeal 224 = .ok (.getfield 43, 3) := by decide +kernel
theorem dX8_layPeal_227 : decode cX8_layPeal 227 = .ok (.iload_n 1, 1) := by decide +kernel
theorem dX8_layPeal_228 : decode cX8_layPeal 228 = .ok (.iload 9, 2) := by decide +kernel
theorem dX8_layPeal_230 : decode cX8_layPeal 230 = .ok (.iastore, 1) := by decide +kernel
theorem dX8_layPeal_231 : decode cX8_layPeal 231 = .ok (.return_, 1) := by decide +kernel
theorem dX8_layPlace_0 : decode cX8_layPlace 0 = .ok (.iload_n 1, 1) := by decide +kernel
theorem dX8_layPlace_1 : decode cX8_layPlace 1 = .ok (.ifCond .lt 43, 3) := by decide +kernel
theorem dX8_layPlace_4 : decode cX8_layPlace 4 = .ok (.iload_n 1, 1) := by decide +kernel
theorem dX8_layPlace_5 : decode cX8_layPlace 5 = .ok (.iconst 5, 1) := by decide +kernel
theorem dX8_layPlace_6 : decode cX8_layPlace 6 = .ok (.if_icmp .ge 38, 3) := by decide +kernel
theorem dX8_layPlace_9 : decode cX8_layPlace 9 = .ok (.iload_n 2, 1) := by decide +kernel
theorem dX8_layPlace_10 : decode cX8_layPlace 10 = .ok (.ifCond .lt 34, 3) := by decide +kernel
theorem dX8_layPlace_13 : decode cX8_layPlace 13 = .ok (.iload_n 2, 1) := by decide +kernel
theorem dX8_layPlace_14 : decode cX8_layPlace 14 = .ok (.bipush 10, 2) := by decide +kernel
theorem dX8_layPlace_16 : decode cX8_layPlace 16 = .ok (.if_icmp .ge 28, 3) := by decide +kernel
theorem dX8_layPlace_19 : decode cX8_layPlace 19 = .ok (.aload_n 0, 1) := by decide +kernel
theorem dX8_layPlace_20 : decode cX8_layPlace 20 = .ok (.getfield 49, 3) := by decide +kernel
theorem dX8_layPlace_23 : decode cX8_layPlace 23 = .ok (.bipush 10, 2) := by decide +kernel
theorem dX8_layPlace_25 : decode cX8_layPlace 25 = .ok (.iload_n 1, 1) := by decide +kernel
theorem dX8_layPlace_26 : decode cX8_layPlace 26 = .ok (.imul, 1) := by decide +kernel
theorem dX8_layPlace_27 : decode cX8_layPlace 27 = .ok (.iload_n 2, 1) := by decide +kernel
theorem dX8_layPlace_28 : decode cX8_layPlace 28 = .ok (.iadd, 1) := by decide +kernel
theorem dX8_layPlace_29 : decode cX8_layPlace 29 = .ok (.lload_n 3, 1) := by decide +kernel
theorem dX8_layPlace_30 : decode cX8_layPlace 30 = .ok (.lastore, 1) := by decide +kernel
theorem dX8_layPlace_31 : decode cX8_layPlace 31 = .ok (.aload_n 0, 1) := by decide +kernel
theorem dX8_layPlace_32 : decode cX8_layPlace 32 = .ok (.getfield 53, 3) := by decide +kernel
theorem dX8_layPlace_35 : decode cX8_layPlace 35 = .ok (.bipush 10, 2) := by decide +kernel
theorem dX8_layPlace_37 : decode cX8_layPlace 37 = .ok (.iload_n 1, 1) := by decide +kernel
theorem dX8_layPlace_38 : decode cX8_layPlace 38 = .ok (.imul, 1) := by decide +kernel
theorem dX8_layPlace_39 : decode cX8_layPlace 39 = .ok (.iload_n 2, 1) := by decide +kernel
theorem dX8_layPlace_40 : decode cX8_layPlace 40 = .ok (.iadd, 1) := by decide +kernel
theorem dX8_layPlace_41 : decode cX8_layPlace 41 = .ok (.iload 5, 2) := by decide +kernel
theorem dX8_layPlace_43 : decode cX8_layPlace 43 = .ok (.iastore, 1) := by decide +kernel
theorem dX8_layPlace_44 : decode cX8_layPlace 44 = .ok (.return_, 1) := by decide +kernel
theorem dX8_clash_0 : decode cX8_clash 0 = .ok (.aload_n 0, 1) := by decide +kernel
theorem dX8_clash_1 : decode cX8_clash 1 = .ok (.iload_n 1, 1) := by decide +kernel
theorem dX8_clash_2 : decode cX8_clash 2 = .ok (.iload_n 2, 1) := by decide +kernel
theorem dX8_clash_3 : decode cX8_clash 3 = .ok (.invokevirtual 112, 3) := by decide +kernel
theorem dX8_clash_6 : decode cX8_clash 6 = .ok (.aload_n 0, 1) := by decide +kernel
theorem dX8_clash_7 : decode cX8_clash 7 = .ok (.iload_n 3, 1) := by decide +kernel
theorem dX8_clash_8 : decode cX8_clash 8 = .ok (.iload 4, 2) := by decide +kernel
theorem dX8_clash_10 : decode cX8_clash 10 = .ok (.invokevirtual 112, 3) := by decide +kernel
theorem dX8_clash_13 : decode cX8_clash 13 = .ok (.land, 1) := by decide +kernel
theorem dX8_clash_14 : decode cX8_clash 14 = .ok (.lconst 0, 1) := by decide +kernel
theorem dX8_clash_15 : decode cX8_clash 15 = .ok (.lcmp, 1) := by decide +kernel
theorem dX8_clash_16 : decode cX8_clash 16 = .ok (.ifCond .ne 34, 3) := by decide +kernel
theorem dX8_clash_19 : decode cX8_clash 19 = .ok (.aload_n 0, 1) := by decide +kernel
theorem dX8_clash_20 : decode cX8_clash 20 = .ok (.iload_n 1, 1) := by decide +kernel
theorem dX8_clash_21 : decode cX8_clash 21 = .ok (.iload_n 2, 1) := by decide +kernel
theorem dX8_clash_22 : decode cX8_clash 22 = .ok (.invokevirtual 71, 3) := by decide +kernel
theorem dX8_clash_25 : decode cX8_clash 25 = .ok (.aload_n 0, 1) := by decide +kernel
theorem dX8_clash_26 : decode cX8_clash 26 = .ok (.iload_n 3, 1) := by decide +kernel
theorem dX8_clash_27 : decode cX8_clash 27 = .ok (.invokevirtual 64, 3) := by decide +kernel
theorem dX8_clash_30 : decode cX8_clash 30 = .ok (.iand, 1) := by decide +kernel
theorem dX8_clash_31 : decode cX8_clash 31 = .ok (.ifCond .ne 19, 3) := by decide +kernel
theorem dX8_clash_34 : decode cX8_clash 34 = .ok (.aload_n 0, 1) := by decide +kernel
theorem dX8_clash_35 : decode cX8_clash 35 = .ok (.iload_n 3, 1) := by decide +kernel
theorem dX8_clash_36 : decode cX8_clash 36 = .ok (.iload 4, 2) := by decide +kernel
theorem dX8_clash_38 : decode cX8_clash 38 = .ok (.invokevirtual 71, 3) := by decide +kernel
theorem dX8_clash_41 : decode cX8_clash 41 = .ok (.aload_n 0, 1) := by decide +kernel
theorem dX8_clash_42 : decode cX8_clash 42 = .ok (.iload_n 1, 1) := by decide +kernel
theorem dX8_clash_43 : decode cX8_clash 43 = .ok (.invokevirtual 64, 3) := by decide +kernel
theorem dX8_clash_46 : decode cX8_clash 46 = .ok (.iand, 1) := by decide +kernel
theorem dX8_clash_47 : decode cX8_clash 47 = .ok (.ifCond .eq 7, 3) := by decide +kernel
theorem dX8_clash_50 : decode cX8_clash 50 = .ok (.iconst 1, 1) := by decide +kernel
theorem dX8_clash_51 : decode cX8_clash 51 = .ok (.goto 4, 3) := by decide +kernel
theorem dX8_clash_54 : decode cX8_clash 54 = .ok (.iconst 0, 1) := by decide +kernel
theorem dX8_clash_55 : decode cX8_clash 55 = .ok (.ireturn, 1) := by decide +kernel
