theorem dX1_init_0 : decode cX1_init 0 = .ok (.aload_n 0, 1) := by decide +kernel
theorem dX1_init_1 : decode cX1_init 1 = .ok (.invokespecial 3, 3) := by decide +kernel
theorem dX1_init_4 : decode cX1_init 4 = .ok (.aload_n 0, 1) := by decide +kernel
theorem dX1_init_5 : decode cX1_init 5 = .ok (.iconst 5, 1) := by decide +kernel
theorem dX1_init_6 : decode cX1_init 6 = .ok (.newarray .int, 2) := by decide +kernel
theorem dX1_init_8 : decode cX1_init 8 = .ok (.putfield 9, 3) := by decide +kernel
theorem dX1_init_11 : decode cX1_init 11 = .ok (.aload_n 0, 1) := by decide +kernel
theorem dX1_init_12 : decode cX1_init 12 = .ok (.aload_n 1, 1) := by decide +kernel
theorem dX1_init_13 : decode cX1_init 13 = .ok (.putfield 15, 3) := by decide +kernel
theorem dX1_init_16 : decode cX1_init 16 = .ok (.return_, 1) := by decide +kernel
theorem dX1_clear_0 : decode cX1_clear 0 = .ok (.iconst 0, 1) := by decide +kernel
theorem dX1_clear_1 : decode cX1_clear 1 = .ok (.istore_n 1, 1) := by decide +kernel
theorem dX1_clear_2 : decode cX1_clear 2 = .ok (.iload_n 1, 1) := by decide +kernel
theorem dX1_clear_3 : decode cX1_clear 3 = .ok (.iconst 5, 1) := by decide +kernel
theorem dX1_clear_4 : decode cX1_clear 4 = .ok (.if_icmp .ge 16, 3) := by decide +kernel
theorem dX1_clear_7 : decode cX1_clear 7 = .ok (.aload_n 0, 1) := by decide +kernel
theorem dX1_clear_8 : decode cX1_clear 8 = .ok (.getfield 9, 3) := by decide +kernel
theorem dX1_clear_11 : decode cX1_clear 11 = .ok (.iload_n 1, 1) := by decide +kernel
theorem dX1_clear_12 : decode cX1_clear 12 = .ok (.iconst 0, 1) := by decide +kernel
theorem dX1_clear_13 : decode cX1_clear 13 = .ok (.iastore, 1) := by decide +kernel
theorem dX1_clear_14 : decode cX1_clear 14 = .ok (.iinc 1 1, 3) := by decide +kernel
theorem dX1_clear_17 : decode cX1_clear 17 = .ok (.goto (-15), 3) := by decide +kernel
theorem dX1_clear_20 : decode cX1_clear 20 = .ok (.return_, 1) := by decide +kernel
theorem dX1_copy_0 : decode cX1_copy 0 = .ok (.iconst 0, 1) := by decide +kernel
theorem dX1_copy_1 : decode cX1_copy 1 = .ok (.istore_n 2, 1) := by decide +kernel
theorem dX1_copy_2 : decode cX1_copy 2 = .ok (.iload_n 2, 1) := by decide +kernel
theorem dX1_copy_3 : decode cX1_copy 3 = .ok (.iconst 5, 1) := by decide +kernel
theorem dX1_copy_4 : decode cX1_copy 4 = .ok (.if_icmp .ge 21, 3) := by decide +kernel
theorem dX1_copy_7 : decode cX1_copy 7 = .ok (.aload_n 0, 1) := by decide +kernel
theorem dX1_copy_8 : decode cX1_copy 8 = .ok (.getfield 9, 3) := by decide +kernel
theorem dX1_copy_11 : decode cX1_copy 11 = .ok (.iload_n 2, 1) := by decide +kernel
theorem dX1_copy_12 : decode cX1_copy 12 = .ok (.aload_n 1, 1) := by decide +kernel
theorem dX1_copy_13 : decode cX1_copy 13 = .ok (.getfield 9, 3) := by decide +kernel
theorem dX1_copy_16 : decode cX1_copy 16 = .ok (.iload_n 2, 1) := by decide +kernel
theorem dX1_copy_17 : decode cX1_copy 17 = .ok (.iaload, 1) := by decide +kernel
theorem dX1_copy_18 : decode cX1_copy 18 = .ok (.iastore, 1) := by decide +kernel
theorem dX1_copy_19 : decode cX1_copy 19 = .ok (.iinc 2 1, 3) := by decide +kernel
theorem dX1_copy_22 : decode cX1_copy 22 = .ok (.goto (-20), 3) := by decide +kernel
theorem dX1_copy_25 : decode cX1_copy 25 = .ok (.return_, 1) := by decide +kernel
theorem dX1_tell_0 : decode cX1_tell 0 = .ok (.iload_n 1, 1) := by decide +kernel
theorem dX1_tell_1 : decode cX1_tell 1 = .ok (.ifCond .lt 15, 3) := by decide +kernel
theorem dX1_tell_4 : decode cX1_tell 4 = .ok (.iload_n 1, 1) := by decide +kernel
theorem dX1_tell_5 : decode cX1_tell 5 = .ok (.iconst 5, 1) := by decide +kernel
theorem dX1_tell_6 : decode cX1_tell 6 = .ok (.if_icmp .ge 10, 3) := by decide +kernel
theorem dX1_tell_9 : decode cX1_tell 9 = .ok (.aload_n 0, 1) := by decide +kernel
theorem dX1_tell_10 : decode cX1_tell 10 = .ok (.getfield 9, 3) := by decide +kernel
theorem dX1_tell_13 : decode cX1_tell 13 = .ok (.iload_n 1, 1) := by decide +kernel
theorem dX1_tell_14 : decode cX1_tell 14 = .ok (.iload_n 2, 1) := by decide +kernel
theorem dX1_tell_15 : decode cX1_tell 15 = .ok (.iastore, 1) := by decide +kernel
theorem dX1_tell_16 : decode cX1_tell 16 = .ok (.return_, 1) := by decide +kernel
theorem dX1_toldOf_0 : decode cX1_toldOf 0 = .ok (.iload_n 1, 1) := by decide +kernel
theorem dX1_toldOf_1 : decode cX1_toldOf 1 = .ok (.ifCond .lt 17, 3) := by decide +kernel
theorem dX1_toldOf_4 : decode cX1_toldOf 4 = .ok (.iload_n 1, 1) := by decide +kernel
theorem dX1_toldOf_5 : decode cX1_toldOf 5 = .ok (.iconst 5, 1) := by decide +kernel
theorem dX1_toldOf_6 : decode cX1_toldOf 6 = .ok (.if_icmp .ge 12, 3) := by decide +kernel
theorem dX1_toldOf_9 : decode cX1_toldOf 9 = .ok (.aload_n 0, 1) := by decide +kernel
theorem dX1_toldOf_10 : decode cX1_toldOf 10 = .ok (.getfield 9, 3) := by decide +kernel
theorem dX1_toldOf_13 : decode cX1_toldOf 13 = .ok (.iload_n 1, 1) := by decide +kernel
theorem dX1_toldOf_14 : decode cX1_toldOf 14 = .ok (.iaload, 1) := by decide +kernel
theorem dX1_toldOf_15 : decode cX1_toldOf 15 = .ok (.goto 4, 3) := by decide +kernel
theorem dX1_toldOf_18 : decode cX1_toldOf 18 = .ok (.iconst 0, 1) := by decide +kernel
theorem dX1_toldOf_19 : decode cX1_toldOf 19 = .ok (.ireturn, 1) := by decide +kernel
theorem dX1_isLet_0 : decode cX1_isLet 0 = .ok (.aload_n 0, 1) := by decide +kernel
theorem dX1_isLet_1 : decode cX1_isLet 1 = .ok (.iload_n 1, 1) := by decide +kernel
theorem dX1_isLet_2 : decode cX1_isLet 2 = .ok (.invokevirtual 19, 3) := by decide +kernel
theorem dX1_isLet_5 : decode cX1_isLet 5 = .ok (.ifCond .eq 7, 3) := by decide +kernel
theorem dX1_isLet_8 : decode cX1_isLet 8 = .ok (.iconst 1, 1) := by decide +kernel
theorem dX1_isLet_9 : decode cX1_isLet 9 = .ok (.goto 4, 3) := by decide +kernel
theorem dX1_isLet_12 : decode cX1_isLet 12 = .ok (.iconst 0, 1) := by decide +kernel
theorem dX1_isLet_13 : decode cX1_isLet 13 = .ok (.ireturn, 1) := by decide +kernel
theorem dX1_secondOf_0 : decode cX1_secondOf 0 = .ok (.aload_n 0, 1) := by decide +kernel
theorem dX1_secondOf_1 : decode cX1_secondOf 1 = .ok (.iload_n 1, 1) := by decide +kernel
theorem dX1_secondOf_2 : decode cX1_secondOf 2 = .ok (.invokevirtual 19, 3) := by decide +kernel
theorem dX1_secondOf_5 : decode cX1_secondOf 5 = .ok (.istore_n 2, 1) := by decide +kernel
theorem dX1_secondOf_6 : decode cX1_secondOf 6 = .ok (.iload_n 2, 1) := by decide +kernel
theorem dX1_secondOf_7 : decode cX1_secondOf 7 = .ok (.ifCond .eq 9, 3) := by decide +kernel
theorem dX1_secondOf_10 : decode cX1_secondOf 10 = .ok (.iload_n 2, 1) := by decide +kernel
theorem dX1_secondOf_11 : decode cX1_secondOf 11 = .ok (.iconst 1, 1) := by decide +kernel
theorem dX1_secondOf_12 : decode cX1_secondOf 12 = .ok (.isub, 1) := by decide +kernel
theorem dX1_secondOf_13 : decode cX1_secondOf 13 = .ok (.goto 5, 3) := by decide +kernel
theorem dX1_secondOf_16 : decode cX1_secondOf 16 = .ok (.bipush (-9), 2) := by decide +kernel
theorem dX1_secondOf_18 : decode cX1_secondOf 18 = .ok (.ireturn, 1) := by decide +kernel
theorem dX1_everyoneLet_0 : decode cX1_everyoneLet 0 = .ok (.iconst 0, 1) := by decide +kernel
theorem dX1_everyoneLet_1 : decode cX1_everyoneLet 1 = .ok (.istore_n 1, 1) := by decide +kernel
theorem dX1_everyoneLet_2 : decode cX1_everyoneLet 2 = .ok (.iconst 0, 1) := by decide +kernel
theorem dX1_everyoneLet_3 : decode cX1_everyoneLet 3 = .ok (.istore_n 2, 1) := by decide +kernel
theorem dX1_everyoneLet_4 : decode cX1_everyoneLet 4 = .ok (.iload_n 2, 1) := by decide +kernel
theorem dX1_everyoneLet_5 : decode cX1_everyoneLet 5 = .ok (.iconst 5, 1) := by decide +kernel
theorem dX1_everyoneLet_6 : decode cX1_everyoneLet 6 = .ok (.if_icmp .ge 27, 3) := by decide +kernel
theorem dX1_everyoneLet_9 : decode cX1_everyoneLet 9 = .ok (.iload_n 1, 1) := by decide +kernel
theorem dX1_everyoneLet_10 : decode cX1_everyoneLet 10 = .ok (.aload_n 0, 1) := by decide +kernel
theorem dX1_everyoneLet_11 : decode cX1_everyoneLet 11 = .ok (.iload_n 2, 1) := by decide +kernel
theorem dX1_everyoneLet_12 : decode cX1_everyoneLet 12 = .ok (.invokevirtual 23, 3) := by decide +kernel
theorem dX1_everyoneLet_15 : decode cX1_everyoneLet 15 = .ok (.ifCond .eq 9, 3) := by decide +kernel
theorem dX1_everyoneLet_18 : decode cX1_everyoneLet 18 = .ok (.iconst 1, 1) := by decide +kernel
theorem dX1_everyoneLet_19 : decode cX1_everyoneLet 19 = .ok (.iload_n 2, 1) := by decide +kernel
theorem dX1_everyoneLet_20 : decode cX1_everyoneLet 20 = .ok (.ishl, 1) := by decide +kernel
theorem dX1_everyoneLet_21 : decode cX1_everyoneLet 21 = .ok (.goto 4, 3) := by decide +kernel
theorem dX1_everyoneLet_24 : decode cX1_everyoneLet 24 = .ok (.iconst 0, 1) := by decide +kernel
theorem dX1_everyoneLet_25 : decode cX1_everyoneLet 25 = .ok (.ior, 1) := by decide +kernel
theorem dX1_everyoneLet_26 : decode cX1_everyoneLet 26 = .ok (.istore_n 1, 1) := by decide +kernel
theorem dX1_everyoneLet_27 : decode cX1_everyoneLet 27 = .ok (.iinc 2 1, 3) := by decide +kernel
theorem dX1_everyoneLet_30 : decode cX1_everyoneLet 30 = .ok (.goto (-26), 3) := by decide +kernel
theorem dX1_everyoneLet_33 : decode cX1_everyoneLet 33 = .ok (.iload_n 1, 1) := by decide +kernel
theorem dX1_everyoneLet_34 : decode cX1_everyoneLet 34 = .ok (.ireturn, 1) := by decide +kernel
theorem dX1_worth_0 : decode cX1_worth 0 = .ok (.aload_n 0, 1) := by decide +kernel
theorem dX1_worth_1 : decode cX1_worth 1 = .ok (.aload_n 0, 1) := by decide +kernel
theorem dX1_worth_2 : decode cX1_worth 2 = .ok (.invokevirtual 27, 3) := by decide +kernel
theorem dX1_worth_5 : decode cX1_worth 5 = .ok (.invokevirtual 31, 3) := by decide +kernel
theorem dX1_worth_8 : decode cX1_worth 8 = .ok (.ireturn, 1) := by decide +kernel
theorem dX1_worthOf_0 : decode cX1_worthOf 0 = .ok (.iconst 0, 1) := by decide +kernel
theorem dX1_worthOf_1 : decode cX1_worthOf 1 = .ok (.istore_n 2, 1) := by decide +kernel
theorem dX1_worthOf_2 : decode cX1_worthOf 2 = .ok (.iconst 0, 1) := by decide +kernel
theorem dX1_worthOf_3 : decode cX1_worthOf 3 = .ok (.istore_n 3, 1) := by decide +kernel
theorem dX1_worthOf_4 : decode cX1_worthOf 4 = .ok (.iload_n 3, 1) := by decide +kernel
theorem dX1_worthOf_5 : decode cX1_worthOf 5 = .ok (.iconst 5, 1) := by decide +kernel
theorem dX1_worthOf_6 : decode cX1_worthOf 6 = .ok (.if_icmp .ge 27, 3) := by decide +kernel
theorem dX1_worthOf_9 : decode cX1_worthOf 9 = .ok (.iload_n 2, 1) := by decide +kernel
theorem dX1_worthOf_10 : decode cX1_worthOf 10 = .ok (.iload_n 1, 1) := by decide +kernel
theorem dX1_worthOf_11 : decode cX1_worthOf 11 = .ok (.iload_n 3, 1) := by decide +kernel
theorem dX1_worthOf_12 : decode cX1_worthOf 12 = .ok (.iushr, 1) := by decide +kernel
theorem dX1_worthOf_13 : decode cX1_worthOf 13 = .ok (.iconst 1, 1) := by decide +kernel
theorem dX1_worthOf_14 : decode cX1_worthOf 14 = .ok (.iand, 1) := by decide +kernel
theorem dX1_worthOf_15 : decode cX1_worthOf 15 = .ok (.aload_n 0, 1) := by decide +kernel
theorem dX1_worthOf_16 : decode cX1_worthOf 16 = .ok (.getfield 15, 3) := by decide +kernel
theorem dX1_worthOf_19 : decode cX1_worthOf 19 = .ok (.getfield 34, 3) := by decide +kernel
theorem dX1_worthOf_22 : decode cX1_worthOf 22 = .ok (.iload_n 3, 1) := by decide +kernel
theorem dX1_worthOf_23 : decode cX1_worthOf 23 = .ok (.iaload, 1) := by decide +kernel
theorem dX1_worthOf_24 : decode cX1_worthOf 24 = .ok (.imul, 1) := by decide +kernel
theorem dX1_worthOf_25 : decode cX1_worthOf 25 = .ok (.iadd, 1) := by decide +kernel
theorem dX1_worthOf_26 : decode cX1_worthOf 26 = .ok (.istore_n 2, 1) := by decide +kernel
theorem dX1_worthOf_27 : decode cX1_worthOf 27 = .ok (.iinc 3 1, 3) := by decide +kernel
theorem dX1_worthOf_30 : decode cX1_worthOf 30 = .ok (.goto (-26), 3) := by decide +kernel
theorem dX1_worthOf_33 : decode cX1_worthOf 33 = .ok (.iload_n 2, 1) := by decide +kernel
theorem dX1_worthOf_34 : decode cX1_worthOf 34 = .ok (.ireturn, 1) := by decide +kernel
theorem dX1_ringing_0 : decode cX1_ringing 0 = .ok (.iconst 0, 1) := by decide +kernel
theorem dX1_ringing_1 : decode cX1_ringing 1 = .ok (.istore_n 1, 1) := by decide +kernel
theorem dX1_ringing_2 : decode cX1_ringing 2 = .ok (.iconst 0, 1) := by decide +kernel
theorem dX1_ringing_3 : decode cX1_ringing 3 = .ok (.istore_n 2, 1) := by decide +kernel
theorem dX1_ringing_4 : decode cX1_ringing 4 = .ok (.iload_n 2, 1) := by decide +kernel
theorem dX1_ringing_5 : decode cX1_ringing 5 = .ok (.iconst 5, 1) := by decide +kernel
theorem dX1_ringing_6 : decode cX1_ringing 6 = .ok (.if_icmp .ge 25, 3) := by decide +kernel
theorem dX1_ringing_9 : decode cX1_ringing 9 = .ok (.iload_n 1, 1) := by decide +kernel
theorem dX1_ringing_10 : decode cX1_ringing 10 = .ok (.aload_n 0, 1) := by decide +kernel
theorem dX1_ringing_11 : decode cX1_ringing 11 = .ok (.getfield 15, 3) := by decide +kernel
theorem dX1_ringing_14 : decode cX1_ringing 14 = .ok (.iload_n 2, 1) := by decide +kernel
theorem dX1_ringing_15 : decode cX1_ringing 15 = .ok (.aload_n 0, 1) := by decide +kernel
theorem dX1_ringing_16 : decode cX1_ringing 16 = .ok (.iload_n 2, 1) := by decide +kernel
theorem dX1_ringing_17 : decode cX1_ringing 17 = .ok (.invokevirtual 39, 3) := by decide +kernel
theorem dX1_ringing_20 : decode cX1_ringing 20 = .ok (.invokevirtual 42, 3) := by decide +kernel
theorem dX1_ringing_23 : decode cX1_ringing 23 = .ok (.ior, 1) := by decide +kernel
theorem dX1_ringing_24 : decode cX1_ringing 24 = .ok (.istore_n 1, 1) := by decide +kernel
theorem dX1_ringing_25 : decode cX1_ringing 25 = .ok (.iinc 2 1, 3) := by decide +kernel
theorem dX1_ringing_28 : decode cX1_ringing 28 = .ok (.goto (-24), 3) := by decide +kernel
theorem dX1_ringing_31 : decode cX1_ringing 31 = .ok (.iload_n 1, 1) := by decide +kernel
theorem dX1_ringing_32 : decode cX1_ringing 32 = .ok (.ireturn, 1) := by decide +kernel
theorem dX1_clashing_0 : decode cX1_clashing 0 = .ok (.iconst 0, 1) := by decide +kernel
theorem dX1_clashing_1 : decode cX1_clashing 1 = .ok (.istore_n 3, 1) := by decide +kernel
theorem dX1_clashing_2 : decode cX1_clashing 2 = .ok (.iconst 0, 1) := by decide +kernel
theorem dX1_clashing_3 : decode cX1_clashing 3 = .ok (.istore 4, 2) := by decide +kernel
theorem dX1_clashing_5 : decode cX1_clashing 5 = .ok (.iload 4, 2) := by decide +kernel
theorem dX1_clashing_7 : decode cX1_clashing 7 = .ok (.iconst 5, 1) := by decide +kernel
theorem dX1_clashing_8 : decode cX1_clashing 8 = .ok (.if_icmp .ge 55, 3) := by decide +kernel
theorem dX1_clashing_11 : decode cX1_clashing 11 = .ok (.iload 4, 2) := by decide +kernel
theorem dX1_clashing_13 : decode cX1_clashing 13 = .ok (.iload_n 1, 1) := by decide +kernel
theorem dX1_clashing_14 : decode cX1_clashing 14 = .ok (.if_icmp .eq 43, 3) := by decide +kernel
theorem dX1_clashing_17 : decode cX1_clashing 17 = .ok (.aload_n 0, 1) := by decide +kernel
theorem dX1_clashing_18 : decode cX1_clashing 18 = .ok (.getfield 9, 3) := by decide +kernel
theorem dX1_clashing_21 : decode cX1_clashing 21 = .ok (.iload 4, 2) := by decide +kernel
theorem dX1_clashing_23 : decode cX1_clashing 23 = .ok (.iaload, 1) := by decide +kernel
theorem dX1_clashing_24 : decode cX1_clashing 24 = .ok (.ifCond .eq 33, 3) := by decide +kernel
theorem dX1_clashing_27 : decode cX1_clashing 27 = .ok (.aload_n 0, 1) := by decide +kernel
theorem dX1_clashing_28 : decode cX1_clashing 28 = .ok (.getfield 15, 3) := by decide +kernel
theorem dX1_clashing_31 : decode cX1_clashing 31 = .ok (.iload_n 1, 1) := by decide +kernel
theorem dX1_clashing_32 : decode cX1_clashing 32 = .ok (.iload_n 2, 1) := by decide +kernel
theorem dX1_clashing_33 : decode cX1_clashing 33 = .ok (.iload 4, 2) := by decide +kernel
theorem dX1_clashing_35 : decode cX1_clashing 35 = .ok (.aload_n 0, 1) := by decide +kernel
theorem dX1_clashing_36 : decode cX1_clashing 36 = .ok (.getfield 9, 3) := by decide +kernel
theorem dX1_clashing_39 : decode cX1_clashing 39 = .ok (.iload 4, 2) := by decide +kernel
theorem dX1_clashing_41 : decode cX1_clashing 41 = .ok (.iaload, 1) := by decide +kernel
theorem dX1_clashing_42 : decode cX1_clashing 42 = .ok (.iconst 1, 1) := by decide +kernel
theorem dX1_clashing_43 : decode cX1_clashing 43 = .ok (.isub, 1) := by decide +kernel
theorem dX1_clashing_44 : decode cX1_clashing 44 = .ok (.invokevirtual 46, 3) := by decide +kernel
theorem dX1_clashing_47 : decode cX1_clashing 47 = .ok (.ifCond .eq 10, 3) := by decide +kernel
theorem dX1_clashing_50 : decode cX1_clashing 50 = .ok (.iload_n 3, 1) := by decide +kernel
theorem dX1_clashing_51 : decode cX1_clashing 51 = .ok (.iconst 1, 1) := by decide +kernel
theorem dX1_clashing_52 : decode cX1_clashing 52 = .ok (.iload 4, 2) := by decide +kernel
theorem dX1_clashing_54 : decode cX1_clashing 54 = .ok (.ishl, 1) := by decide +kernel
theorem dX1_clashing_55 : decode cX1_clashing 55 = .ok (.ior, 1) := by decide +kernel
theorem dX1_clashing_56 : decode cX1_clashing 56 = .ok (.istore_n 3, 1) := by decide +kernel
theorem dX1_clashing_57 : decode cX1_clashing 57 = .ok (.iinc 4 1, 3) := by decide +kernel
theorem dX1_clashing_60 : decode cX1_clashing 60 = .ok (.goto (-55), 3) := by decide +kernel
theorem dX1_clashing_63 : decode cX1_clashing 63 = .ok (.iload_n 3, 1) := by decide +kernel
theorem dX1_clashing_64 : decode cX1_clashing 64 = .ok (.ireturn, 1) := by decide +kernel
theorem dX1_fits_0 : decode cX1_fits 0 = .ok (.aload_n 0, 1) := by decide +kernel
theorem dX1_fits_1 : decode cX1_fits 1 = .ok (.getfield 15, 3) := by decide +kernel
theorem dX1_fits_4 : decode cX1_fits 4 = .ok (.iload_n 1, 1) := by decide +kernel
theorem dX1_fits_5 : decode cX1_fits 5 = .ok (.iload_n 2, 1) := by decide +kernel
theorem dX1_fits_6 : decode cX1_fits 6 = .ok (.invokevirtual 50, 3) := by decide +kernel
theorem dX1_fits_9 : decode cX1_fits 9 = .ok (.ifCond .eq 16, 3) := by decide +kernel
theorem dX1_fits_12 : decode cX1_fits 12 = .ok (.aload_n 0, 1) := by decide +kernel
theorem dX1_fits_13 : decode cX1_fits 13 = .ok (.iload_n 1, 1) := by decide +kernel
theorem dX1_fits_14 : decode cX1_fits 14 = .ok (.iload_n 2, 1) := by decide +kernel
theorem dX1_fits_15 : decode cX1_fits 15 = .ok (.invokevirtual 54, 3) := by decide +kernel
theorem dX1_fits_18 : decode cX1_fits 18 = .ok (.ifCond .ne 7, 3) := by decide +kernel
theorem dX1_fits_21 : decode cX1_fits 21 = .ok (.iconst 1, 1) := by decide +kernel
theorem dX1_fits_22 : decode cX1_fits 22 = .ok (.goto 4, 3) := by decide +kernel
theorem dX1_fits_25 : decode cX1_fits 25 = .ok (.iconst 0, 1) := by decide +kernel
theorem dX1_fits_26 : decode cX1_fits 26 = .ok (.ireturn, 1) := by decide +kernel
theorem dX1_letIfCan_0 : decode cX1_letIfCan 0 = .ok (.aload_n 0, 1) := by decide +kernel
theorem dX1_letIfCan_1 : decode cX1_letIfCan 1 = .ok (.iload_n 1, 1) := by decide +kernel
theorem dX1_letIfCan_2 : decode cX1_letIfCan 2 = .ok (.invokevirtual 23, 3) := by decide +kernel
theorem dX1_letIfCan_5 : decode cX1_letIfCan 5 = .ok (.ifCond .ne 16, 3) := by decide +kernel
theorem dX1_letIfCan_8 : decode cX1_letIfCan 8 = .ok (.aload_n 0, 1) := by decide +kernel
theorem dX1_letIfCan_9 : decode cX1_letIfCan 9 = .ok (.iload_n 1, 1) := by decide +kernel
theorem dX1_letIfCan_10 : decode cX1_letIfCan 10 = .ok (.iload_n 2, 1) := by decide +kernel
theorem dX1_letIfCan_11 : decode cX1_letIfCan 11 = .ok (.invokevirtual 57, 3) := by decide +kernel
theorem dX1_letIfCan_14 : decode cX1_letIfCan 14 = .ok (.ifCond .eq 7, 3) := by decide +kernel
theorem dX1_letIfCan_17 : decode cX1_letIfCan 17 = .ok (.iconst 1, 1) := by decide +kernel
theorem dX1_letIfCan_18 : decode cX1_letIfCan 18 = .ok (.goto 4, 3) := by decide +kernel
theorem dX1_letIfCan_21 : decode cX1_letIfCan 21 = .ok (.iconst 0, 1) := by decide +kernel
theorem dX1_letIfCan_22 : decode cX1_letIfCan 22 = .ok (.istore_n 3, 1) := by decide +kernel
theorem dX1_letIfCan_23 : decode cX1_letIfCan 23 = .ok (.iload_n 3, 1) := by decide +kernel
theorem dX1_letIfCan_24 : decode cX1_letIfCan 24 = .ok (.ifCond .eq 11, 3) := by decide +kernel
theorem dX1_letIfCan_27 : decode cX1_letIfCan 27 = .ok (.aload_n 0, 1) := by decide +kernel
theorem dX1_letIfCan_28 : decode cX1_letIfCan 28 = .ok (.iload_n 1, 1) := by decide +kernel
theorem dX1_letIfCan_29 : decode cX1_letIfCan 29 = .ok (.iload_n 2, 1) := by decide +kernel
theorem dX1_letIfCan_30 : decode cX1_letIfCan 30 = .ok (.iconst 1, 1) := by decide +kernel
theorem dX1_letIfCan_31 : decode cX1_letIfCan 31 = .ok (.iadd, 1) := by decide +kernel
theorem dX1_letIfCan_32 : decode cX1_letIfCan 32 = .ok (.invokevirtual 60, 3) := by decide +kernel
theorem dX1_letIfCan_35 : decode cX1_letIfCan 35 = .ok (.iload_n 3, 1) := by decide +kernel
theorem dX1_letIfCan_36 : decode cX1_letIfCan 36 = .ok (.ireturn, 1) := by decide +kernel
theorem dX1_cheapestBegin_0 : decode cX1_cheapestBegin 0 = .ok (.iconst 0, 1) := by decide +kernel
theorem dX1_cheapestBegin_1 : decode cX1_cheapestBegin 1 = .ok (.istore_n 2, 1) := by decide +kernel
theorem dX1_cheapestBegin_2 : decode cX1_cheapestBegin 2 = .ok (.bipush (-9), 2) := by decide +kernel
theorem dX1_cheapestBegin_4 : decode cX1_cheapestBegin 4 = .ok (.istore_n 3, 1) := by decide +kernel
theorem dX1_cheapestBegin_5 : decode cX1_cheapestBegin 5 = .ok (.iconst 0, 1) := by decide +kernel
theorem dX1_cheapestBegin_6 : decode cX1_cheapestBegin 6 = .ok (.istore 4, 2) := by decide +kernel
theorem dX1_cheapestBegin_8 : decode cX1_cheapestBegin 8 = .ok (.iload 4, 2) := by decide +kernel
theorem dX1_cheapestBegin_10 : decode cX1_cheapestBegin 10 = .ok (.bipush 10, 2) := by decide +kernel
theorem dX1_cheapestBegin_12 : decode cX1_cheapestBegin 12 = .ok (.if_icmp .ge 53, 3) := by decide +kernel
theorem dX1_cheapestBegin_15 : decode cX1_cheapestBegin 15 = .ok (.aload_n 0, 1) := by decide +kernel
theorem dX1_cheapestBegin_16 : decode cX1_cheapestBegin 16 = .ok (.getfield 15, 3) := by decide +kernel
theorem dX1_cheapestBegin_19 : decode cX1_cheapestBegin 19 = .ok (.iload_n 1, 1) := by decide +kernel
theorem dX1_cheapestBegin_20 : decode cX1_cheapestBegin 20 = .ok (.iload 4, 2) := by decide +kernel
theorem dX1_cheapestBegin_22 : decode cX1_cheapestBegin 22 = .ok (.invokevirtual 50, 3) := by decide +kernel
theorem dX1_cheapestBegin_25 : decode cX1_cheapestBegin 25 = .ok (.ifCond .eq 34, 3) := by decide +kernel
theorem dX1_cheapestBegin_28 : decode cX1_cheapestBegin 28 = .ok (.aload_n 0, 1) := by decide +kernel
theorem dX1_cheapestBegin_29 : decode cX1_cheapestBegin 29 = .ok (.aload_n 0, 1) := by decide +kernel
theorem dX1_cheapestBegin_30 : decode cX1_cheapestBegin 30 = .ok (.iload_n 1, 1) := by decide +kernel
theorem dX1_cheapestBegin_31 : decode cX1_cheapestBegin 31 = .ok (.iload 4, 2) := by decide +kernel
theorem dX1_cheapestBegin_33 : decode cX1_cheapestBegin 33 = .ok (.invokevirtual 54, 3) := by decide +kernel
theorem dX1_cheapestBegin_36 : decode cX1_cheapestBegin 36 = .ok (.invokevirtual 31, 3) := by decide +kernel
theorem dX1_cheapestBegin_39 : decode cX1_cheapestBegin 39 = .ok (.istore 5, 2) := by decide +kernel
theorem dX1_cheapestBegin_41 : decode cX1_cheapestBegin 41 = .ok (.iload_n 3, 1) := by decide +kernel
theorem dX1_cheapestBegin_42 : decode cX1_cheapestBegin 42 = .ok (.bipush (-9), 2) := by decide +kernel
theorem dX1_cheapestBegin_44 : decode cX1_cheapestBegin 44 = .ok (.if_icmp .eq 9, 3) := by decide +kernel
theorem dX1_cheapestBegin_47 : decode cX1_cheapestBegin 47 = .ok (.iload 5, 2) := by decide +kernel
theorem dX1_cheapestBegin_49 : decode cX1_cheapestBegin 49 = .ok (.iload_n 2, 1) := by decide +kernel
theorem dX1_cheapestBegin_50 : decode cX1_cheapestBegin 50 = .ok (.if_icmp .ge 9, 3) := by decide +kernel
theorem dX1_cheapestBegin_53 : decode cX1_cheapestBegin 53 = .ok (.iload 5, 2) := by decide +kernel
theorem dX1_cheapestBegin_55 : decode cX1_cheapestBegin 55 = .ok (.istore_n 2, 1) := by decide +kernel
theorem dX1_cheapestBegin_56 : decode cX1_cheapestBegin 56 = .ok (.iload 4, 2) := by decide +kernel
theorem dX1_cheapestBegin_58 : decode cX1_cheapestBegin 58 = .ok (.istore_n 3, 1) := by decide +kernel
theorem dX1_cheapestBegin_59 : decode cX1_cheapestBegin 59 = .ok (.iinc 4 1, 3) := by decide +kernel
theorem dX1_cheapestBegin_62 : decode cX1_cheapestBegin 62 = .ok (.goto (-54), 3) := by decide +kernel
theorem dX1_cheapestBegin_65 : decode cX1_cheapestBegin 65 = .ok (.iload_n 3, 1) := by decide +kernel
theorem dX1_cheapestBegin_66 : decode cX1_cheapestBegin 66 = .ok (.ireturn, 1) := by decide +kernel
