theorem dX9_init_0 : decode cX9_init 0 = .ok (.aload_n 0, 1) := by decide +kernel
theorem dX9_init_1 : decode cX9_init 1 = .ok (.invokespecial 1, 3) := by decide +kernel
theorem dX9_init_4 : decode cX9_init 4 = .ok (.aload_n 0, 1) := by decide +kernel
theorem dX9_init_5 : decode cX9_init 5 = .ok (.new 7, 3) := by decide +kernel
theorem dX9_init_8 : decode cX9_init 8 = .ok (.dup, 1) := by decide +kernel
theorem dX9_init_9 : decode cX9_init 9 = .ok (.invokespecial 9, 3) := by decide +kernel
theorem dX9_init_12 : decode cX9_init 12 = .ok (.putfield 10, 3) := by decide +kernel
theorem dX9_init_15 : decode cX9_init 15 = .ok (.aload_n 0, 1) := by decide +kernel
theorem dX9_init_16 : decode cX9_init 16 = .ok (.new 16, 3) := by decide +kernel
theorem dX9_init_19 : decode cX9_init 19 = .ok (.dup, 1) := by decide +kernel
theorem dX9_init_20 : decode cX9_init 20 = .ok (.invokespecial 18, 3) := by decide +kernel
theorem dX9_init_23 : decode cX9_init 23 = .ok (.putfield 19, 3) := by decide +kernel
theorem dX9_init_26 : decode cX9_init 26 = .ok (.aload_n 0, 1) := by decide +kernel
theorem dX9_init_27 : decode cX9_init 27 = .ok (.new 23, 3) := by decide +kernel
theorem dX9_init_30 : decode cX9_init 30 = .ok (.dup, 1) := by decide +kernel
theorem dX9_init_31 : decode cX9_init 31 = .ok (.aload_n 0, 1) := by decide +kernel
theorem dX9_init_32 : decode cX9_init 32 = .ok (.getfield 19, 3) := by decide +kernel
theorem dX9_init_35 : decode cX9_init 35 = .ok (.invokespecial 25, 3) := by decide +kernel
theorem dX9_init_38 : decode cX9_init 38 = .ok (.putfield 28, 3) := by decide +kernel
theorem dX9_init_41 : decode cX9_init 41 = .ok (.aload_n 0, 1) := by decide +kernel
theorem dX9_init_42 : decode cX9_init 42 = .ok (.new 23, 3) := by decide +kernel
theorem dX9_init_45 : decode cX9_init 45 = .ok (.dup, 1) := by decide +kernel
theorem dX9_init_46 : decode cX9_init 46 = .ok (.aload_n 0, 1) := by decide +kernel
theorem dX9_init_47 : decode cX9_init 47 = .ok (.getfield 19, 3) := by decide +kernel
theorem dX9_init_50 : decode cX9_init 50 = .ok (.invokespecial 25, 3) := by decide +kernel
theorem dX9_init_53 : decode cX9_init 53 = .ok (.putfield 32, 3) := by decide +kernel
theorem dX9_init_56 : decode cX9_init 56 = .ok (.aload_n 0, 1) := by decide +kernel
theorem dX9_init_57 : decode cX9_init 57 = .ok (.new 35, 3) := by decide +kernel
theorem dX9_init_60 : decode cX9_init 60 = .ok (.dup, 1) := by decide +kernel
theorem dX9_init_61 : decode cX9_init 61 = .ok (.aload_n 0, 1) := by decide +kernel
theorem dX9_init_62 : decode cX9_init 62 = .ok (.getfield 19, 3) := by decide +kernel
theorem dX9_init_65 : decode cX9_init 65 = .ok (.invokespecial 37, 3) := by decide +kernel
theorem dX9_init_68 : decode cX9_init 68 = .ok (.putfield 38, 3) := by decide +kernel
theorem dX9_init_71 : decode cX9_init 71 = .ok (.aload_n 0, 1) := by decide +kernel
theorem dX9_init_72 : decode cX9_init 72 = .ok (.new 35, 3) := by decide +kernel
theorem dX9_init_75 : decode cX9_init 75 = .ok (.dup, 1) := by decide +kernel
theorem dX9_init_76 : decode cX9_init 76 = .ok (.aload_n 0, 1) := by decide +kernel
theorem dX9_init_77 : decode cX9_init 77 = .ok (.getfield 19, 3) := by decide +kernel
theorem dX9_init_80 : decode cX9_init 80 = .ok (.invokespecial 37, 3) := by decide +kernel
theorem dX9_init_83 : decode cX9_init 83 = .ok (.putfield 42, 3) := by decide +kernel
theorem dX9_init_86 : decode cX9_init 86 = .ok (.aload_n 0, 1) := by decide +kernel
theorem dX9_init_87 : decode cX9_init 87 = .ok (.new 45, 3) := by decide +kernel
theorem dX9_init_90 : decode cX9_init 90 = .ok (.dup, 1) := by decide +kernel
theorem dX9_init_91 : decode cX9_init 91 = .ok (.invokespecial 47, 3) := by decide +kernel
theorem dX9_init_94 : decode cX9_init 94 = .ok (.putfield 48, 3) := by decide +kernel
theorem dX9_init_97 : decode cX9_init 97 = .ok (.aload_n 0, 1) := by decide +kernel
theorem dX9_init_98 : decode cX9_init 98 = .ok (.new 52, 3) := by decide +kernel
theorem dX9_init_101 : decode cX9_init 101 = .ok (.dup, 1) := by decide +kernel
theorem dX9_init_102 : decode cX9_init 102 = .ok (.aload_n 0, 1) := by decide +kernel
theorem dX9_init_103 : decode cX9_init 103 = .ok (.getfield 19, 3) := by decide +kernel
theorem dX9_init_106 : decode cX9_init 106 = .ok (.invokespecial 54, 3) := by decide +kernel
theorem dX9_init_109 : decode cX9_init 109 = .ok (.putfield 55, 3) := by decide +kernel
theorem dX9_init_112 : decode cX9_init 112 = .ok (.aload_n 0, 1) := by decide +kernel
theorem dX9_init_113 : decode cX9_init 113 = .ok (.new 59, 3) := by decide +kernel
theorem dX9_init_116 : decode cX9_init 116 = .ok (.dup, 1) := by decide +kernel
theorem dX9_init_117 : decode cX9_init 117 = .ok (.invokespecial 61, 3) := by decide +kernel
theorem dX9_init_120 : decode cX9_init 120 = .ok (.putfield 62, 3) := by decide +kernel
theorem dX9_init_123 : decode cX9_init 123 = .ok (.aload_n 0, 1) := by decide +kernel
theorem dX9_init_124 : decode cX9_init 124 = .ok (.new 66, 3) := by decide +kernel
theorem dX9_init_127 : decode cX9_init 127 = .ok (.dup, 1) := by decide +kernel
theorem dX9_init_128 : decode cX9_init 128 = .ok (.aload_n 0, 1) := by decide +kernel
theorem dX9_init_129 : decode cX9_init 129 = .ok (.getfield 19, 3) := by decide +kernel
theorem dX9_init_132 : decode cX9_init 132 = .ok (.invokespecial 68, 3) := by decide +kernel
theorem dX9_init_135 : decode cX9_init 135 = .ok (.putfield 69, 3) := by decide +kernel
theorem dX9_init_138 : decode cX9_init 138 = .ok (.aload_n 0, 1) := by decide +kernel
theorem dX9_init_139 : decode cX9_init 139 = .ok (.new 73, 3) := by decide +kernel
theorem dX9_init_142 : decode cX9_init 142 = .ok (.dup, 1) := by decide +kernel
theorem dX9_init_143 : decode cX9_init 143 = .ok (.aload_n 0, 1) := by decide +kernel
theorem dX9_init_144 : decode cX9_init 144 = .ok (.getfield 19, 3) := by decide +kernel
theorem dX9_init_147 : decode cX9_init 147 = .ok (.invokespecial 75, 3) := by decide +kernel
theorem dX9_init_150 : decode cX9_init 150 = .ok (.putfield 76, 3) := by decide +kernel
theorem dX9_init_153 : decode cX9_init 153 = .ok (.aload_n 0, 1) := by decide +kernel
theorem dX9_init_154 : decode cX9_init 154 = .ok (.iconst 5, 1) := by decide +kernel
theorem dX9_init_155 : decode cX9_init 155 = .ok (.newarray .int, 2) := by decide +kernel
theorem dX9_init_157 : decode cX9_init 157 = .ok (.putfield 80, 3) := by decide +kernel
theorem dX9_init_160 : decode cX9_init 160 = .ok (.aload_n 0, 1) := by decide +kernel
theorem dX9_init_161 : decode cX9_init 161 = .ok (.lconst 0, 1) := by decide +kernel
theorem dX9_init_162 : decode cX9_init 162 = .ok (.putfield 84, 3) := by decide +kernel
theorem dX9_init_165 : decode cX9_init 165 = .ok (.return_, 1) := by decide +kernel
theorem dX9_write_0 : decode cX9_write 0 = .ok (.iload_n 1, 1) := by decide +kernel
theorem dX9_write_1 : decode cX9_write 1 = .ok (.ifCond .lt 10, 3) := by decide +kernel
theorem dX9_write_4 : decode cX9_write 4 = .ok (.iload_n 1, 1) := by decide +kernel
theorem dX9_write_5 : decode cX9_write 5 = .ok (.sipush 255, 3) := by decide +kernel
theorem dX9_write_8 : decode cX9_write 8 = .ok (.if_icmp .le 6, 3) := by decide +kernel
theorem dX9_write_11 : decode cX9_write 11 = .ok (.bipush (-2), 2) := by decide +kernel
theorem dX9_write_13 : decode cX9_write 13 = .ok (.ireturn, 1) := by decide +kernel
theorem dX9_write_14 : decode cX9_write 14 = .ok (.aload_n 0, 1) := by decide +kernel
theorem dX9_write_15 : decode cX9_write 15 = .ok (.getfield 10, 3) := by decide +kernel
theorem dX9_write_18 : decode cX9_write 18 = .ok (.iload_n 1, 1) := by decide +kernel
theorem dX9_write_19 : decode cX9_write 19 = .ok (.invokevirtual 88, 3) := by decide +kernel
theorem dX9_write_22 : decode cX9_write 22 = .ok (.ireturn, 1) := by decide +kernel
theorem dX9_wipe_0 : decode cX9_wipe 0 = .ok (.aload_n 0, 1) := by decide +kernel
theorem dX9_wipe_1 : decode cX9_wipe 1 = .ok (.getfield 10, 3) := by decide +kernel
theorem dX9_wipe_4 : decode cX9_wipe 4 = .ok (.invokevirtual 92, 3) := by decide +kernel
theorem dX9_wipe_7 : decode cX9_wipe 7 = .ok (.ireturn, 1) := by decide +kernel
theorem dX9_fault_0 : decode cX9_fault 0 = .ok (.aload_n 0, 1) := by decide +kernel
theorem dX9_fault_1 : decode cX9_fault 1 = .ok (.getfield 10, 3) := by decide +kernel
theorem dX9_fault_4 : decode cX9_fault 4 = .ok (.invokevirtual 96, 3) := by decide +kernel
theorem dX9_fault_7 : decode cX9_fault 7 = .ok (.ireturn, 1) := by decide +kernel
theorem dX9_tower_0 : decode cX9_tower 0 = .ok (.aload_n 0, 1) := by decide +kernel
theorem dX9_tower_1 : decode cX9_tower 1 = .ok (.getfield 10, 3) := by decide +kernel
theorem dX9_tower_4 : decode cX9_tower 4 = .ok (.invokevirtual 96, 3) := by decide +kernel
theorem dX9_tower_7 : decode cX9_tower 7 = .ok (.bipush (-9), 2) := by decide +kernel
theorem dX9_tower_9 : decode cX9_tower 9 = .ok (.if_icmp .eq 6, 3) := by decide +kernel
theorem dX9_tower_12 : decode cX9_tower 12 = .ok (.bipush (-3), 2) := by decide +kernel
theorem dX9_tower_14 : decode cX9_tower 14 = .ok (.ireturn, 1) := by decide +kernel
theorem dX9_tower_15 : decode cX9_tower 15 = .ok (.aload_n 0, 1) := by decide +kernel
theorem dX9_tower_16 : decode cX9_tower 16 = .ok (.getfield 19, 3) := by decide +kernel
theorem dX9_tower_19 : decode cX9_tower 19 = .ok (.aload_n 0, 1) := by decide +kernel
theorem dX9_tower_20 : decode cX9_tower 20 = .ok (.getfield 10, 3) := by decide +kernel
theorem dX9_tower_23 : decode cX9_tower 23 = .ok (.invokevirtual 99, 3) := by decide +kernel
theorem dX9_tower_26 : decode cX9_tower 26 = .ok (.aload_n 0, 1) := by decide +kernel
theorem dX9_tower_27 : decode cX9_tower 27 = .ok (.getfield 28, 3) := by decide +kernel
theorem dX9_tower_30 : decode cX9_tower 30 = .ok (.invokevirtual 103, 3) := by decide +kernel
theorem dX9_tower_33 : decode cX9_tower 33 = .ok (.aload_n 0, 1) := by decide +kernel
theorem dX9_tower_34 : decode cX9_tower 34 = .ok (.getfield 48, 3) := by decide +kernel
theorem dX9_tower_37 : decode cX9_tower 37 = .ok (.invokevirtual 105, 3) := by decide +kernel
theorem dX9_tower_40 : decode cX9_tower 40 = .ok (.aload_n 0, 1) := by decide +kernel
theorem dX9_tower_41 : decode cX9_tower 41 = .ok (.getfield 38, 3) := by decide +kernel
theorem dX9_tower_44 : decode cX9_tower 44 = .ok (.invokevirtual 106, 3) := by decide +kernel
theorem dX9_tower_47 : decode cX9_tower 47 = .ok (.aload_n 0, 1) := by decide +kernel
theorem dX9_tower_48 : decode cX9_tower 48 = .ok (.getfield 42, 3) := by decide +kernel
theorem dX9_tower_51 : decode cX9_tower 51 = .ok (.invokevirtual 106, 3) := by decide +kernel
theorem dX9_tower_54 : decode cX9_tower 54 = .ok (.bipush 10, 2) := by decide +kernel
theorem dX9_tower_56 : decode cX9_tower 56 = .ok (.aload_n 0, 1) := by decide +kernel
theorem dX9_tower_57 : decode cX9_tower 57 = .ok (.getfield 19, 3) := by decide +kernel
theorem dX9_tower_60 : decode cX9_tower 60 = .ok (.getfield 109, 3) := by decide +kernel
theorem dX9_tower_63 : decode cX9_tower 63 = .ok (.imul, 1) := by decide +kernel
theorem dX9_tower_64 : decode cX9_tower 64 = .ok (.aload_n 0, 1) := by decide +kernel
theorem dX9_tower_65 : decode cX9_tower 65 = .ok (.getfield 19, 3) := by decide +kernel
theorem dX9_tower_68 : decode cX9_tower 68 = .ok (.getfield 113, 3) := by decide +kernel
theorem dX9_tower_71 : decode cX9_tower 71 = .ok (.iadd, 1) := by decide +kernel
theorem dX9_tower_72 : decode cX9_tower 72 = .ok (.ireturn, 1) := by decide +kernel
theorem dX9_bell_0 : decode cX9_bell 0 = .ok (.aload_n 0, 1) := by decide +kernel
theorem dX9_bell_1 : decode cX9_bell 1 = .ok (.getfield 19, 3) := by decide +kernel
theorem dX9_bell_4 : decode cX9_bell 4 = .ok (.iload_n 1, 1) := by decide +kernel
theorem dX9_bell_5 : decode cX9_bell 5 = .ok (.invokevirtual 116, 3) := by decide +kernel
theorem dX9_bell_8 : decode cX9_bell 8 = .ok (.ifCond .ne 5, 3) := by decide +kernel
theorem dX9_bell_11 : decode cX9_bell 11 = .ok (.iconst (-1), 1) := by decide +kernel
theorem dX9_bell_12 : decode cX9_bell 12 = .ok (.ireturn, 1) := by decide +kernel
theorem dX9_bell_13 : decode cX9_bell 13 = .ok (.iload_n 2, 1) := by decide +kernel
theorem dX9_bell_14 : decode cX9_bell 14 = .ok (.tableswitch 62 0 2 #[26, 38, 50], 26) := by decide +kernel
theorem dX9_bell_40 : decode cX9_bell 40 = .ok (.aload_n 0, 1) := by decide +kernel
theorem dX9_bell_41 : decode cX9_bell 41 = .ok (.getfield 19, 3) := by decide +kernel
theorem dX9_bell_44 : decode cX9_bell 44 = .ok (.getfield 120, 3) := by decide +kernel
theorem dX9_bell_47 : decode cX9_bell 47 = .ok (.iload_n 1, 1) := by decide +kernel
theorem dX9_bell_48 : decode cX9_bell 48 = .ok (.invokestatic 123, 3) := by decide +kernel
theorem dX9_bell_51 : decode cX9_bell 51 = .ok (.ireturn, 1) := by decide +kernel
theorem dX9_bell_52 : decode cX9_bell 52 = .ok (.aload_n 0, 1) := by decide +kernel
theorem dX9_bell_53 : decode cX9_bell 53 = .ok (.getfield 19, 3) := by decide +kernel
theorem dX9_bell_56 : decode cX9_bell 56 = .ok (.getfield 127, 3) := by decide +kernel
theorem dX9_bell_59 : decode cX9_bell 59 = .ok (.iload_n 1, 1) := by decide +kernel
theorem dX9_bell_60 : decode cX9_bell 60 = .ok (.invokestatic 123, 3) := by decide +kernel
theorem dX9_bell_63 : decode cX9_bell 63 = .ok (.ireturn, 1) := by decide +kernel
theorem dX9_bell_64 : decode cX9_bell 64 = .ok (.aload_n 0, 1) := by decide +kernel
theorem dX9_bell_65 : decode cX9_bell 65 = .ok (.getfield 28, 3) := by decide +kernel
theorem dX9_bell_68 : decode cX9_bell 68 = .ok (.invokevirtual 130, 3) := by decide +kernel
theorem dX9_bell_71 : decode cX9_bell 71 = .ok (.iload_n 1, 1) := by decide +kernel
theorem dX9_bell_72 : decode cX9_bell 72 = .ok (.invokestatic 133, 3) := by decide +kernel
theorem dX9_bell_75 : decode cX9_bell 75 = .ok (.ireturn, 1) := by decide +kernel
theorem dX9_bell_76 : decode cX9_bell 76 = .ok (.bipush (-2), 2) := by decide +kernel
theorem dX9_bell_78 : decode cX9_bell 78 = .ok (.ireturn, 1) := by decide +kernel
theorem dX9_bidder_0 : decode cX9_bidder 0 = .ok (.aload_n 0, 1) := by decide +kernel
theorem dX9_bidder_1 : decode cX9_bidder 1 = .ok (.getfield 19, 3) := by decide +kernel
theorem dX9_bidder_4 : decode cX9_bidder 4 = .ok (.iload_n 1, 1) := by decide +kernel
theorem dX9_bidder_5 : decode cX9_bidder 5 = .ok (.invokevirtual 137, 3) := by decide +kernel
theorem dX9_bidder_8 : decode cX9_bidder 8 = .ok (.ifCond .ne 5, 3) := by decide +kernel
theorem dX9_bidder_11 : decode cX9_bidder 11 = .ok (.iconst (-1), 1) := by decide +kernel
theorem dX9_bidder_12 : decode cX9_bidder 12 = .ok (.ireturn, 1) := by decide +kernel
theorem dX9_bidder_13 : decode cX9_bidder 13 = .ok (.iload_n 2, 1) := by decide +kernel
theorem dX9_bidder_14 : decode cX9_bidder 14 = .ok (.tableswitch 139 0 7 #[46, 58, 70, 82, 94, 106, 118, 127], 46) := by decide +kernel
theorem dX9_bidder_60 : decode cX9_bidder 60 = .ok (.aload_n 0, 1) := by decide +kernel
theorem dX9_bidder_61 : decode cX9_bidder 61 = .ok (.getfield 19, 3) := by decide +kernel
theorem dX9_bidder_64 : decode cX9_bidder 64 = .ok (.getfield 140, 3) := by decide +kernel
theorem dX9_bidder_67 : decode cX9_bidder 67 = .ok (.iload_n 1, 1) := by decide +kernel
theorem dX9_bidder_68 : decode cX9_bidder 68 = .ok (.invokestatic 123, 3) := by decide +kernel
theorem dX9_bidder_71 : decode cX9_bidder 71 = .ok (.ireturn, 1) := by decide +kernel
theorem dX9_bidder_72 : decode cX9_bidder 72 = .ok (.aload_n 0, 1) := by decide +kernel
theorem dX9_bidder_73 : decode cX9_bidder 73 = .ok (.getfield 19, 3) := by decide +kernel
theorem dX9_bidder_76 : decode cX9_bidder 76 = .ok (.getfield 143, 3) := by decide +kernel
theorem dX9_bidder_79 : decode cX9_bidder 79 = .ok (.iload_n 1, 1) := by decide +kernel
theorem dX9_bidder_80 : decode cX9_bidder 80 = .ok (.invokestatic 123, 3) := by decide +kernel
theorem dX9_bidder_83 : decode cX9_bidder 83 = .ok (.ireturn, 1) := by decide +kernel
theorem dX9_bidder_84 : decode cX9_bidder 84 = .ok (.aload_n 0, 1) := by decide +kernel
theorem dX9_bidder_85 : decode cX9_bidder 85 = .ok (.getfield 19, 3) := by decide +kernel
theorem dX9_bidder_88 : decode cX9_bidder 88 = .ok (.getfield 146, 3) := by decide +kernel
theorem dX9_bidder_91 : decode cX9_bidder 91 = .ok (.iload_n 1, 1) := by decide +kernel
theorem dX9_bidder_92 : decode cX9_bidder 92 = .ok (.invokestatic 123, 3) := by decide +kernel
theorem dX9_bidder_95 : decode cX9_bidder 95 = .ok (.ireturn, 1) := by decide +kernel
theorem dX9_bidder_96 : decode cX9_bidder 96 = .ok (.aload_n 0, 1) := by decide +kernel
theorem dX9_bidder_97 : decode cX9_bidder 97 = .ok (.getfield 19, 3) := by decide +kernel
theorem dX9_bidder_100 : decode cX9_bidder 100 = .ok (.getfield 149, 3) := by decide +kernel
theorem dX9_bidder_103 : decode cX9_bidder 103 = .ok (.iload_n 1, 1) := by decide +kernel
theorem dX9_bidder_104 : decode cX9_bidder 104 = .ok (.invokestatic 123, 3) := by decide +kernel
theorem dX9_bidder_107 : decode cX9_bidder 107 = .ok (.ireturn, 1) := by decide +kernel
theorem dX9_bidder_108 : decode cX9_bidder 108 = .ok (.aload_n 0, 1) := by decide +kernel
theorem dX9_bidder_109 : decode cX9_bidder 109 = .ok (.getfield 19, 3) := by decide +kernel
theorem dX9_bidder_112 : decode cX9_bidder 112 = .ok (.getfield 152, 3) := by decide +kernel
theorem dX9_bidder_115 : decode cX9_bidder 115 = .ok (.iload_n 1, 1) := by decide +kernel
theorem dX9_bidder_116 : decode cX9_bidder 116 = .ok (.invokestatic 123, 3) := by decide +kernel
theorem dX9_bidder_119 : decode cX9_bidder 119 = .ok (.ireturn, 1) := by decide +kernel
theorem dX9_bidder_120 : decode cX9_bidder 120 = .ok (.aload_n 0, 1) := by decide +kernel
theorem dX9_bidder_121 : decode cX9_bidder 121 = .ok (.getfield 19, 3) := by decide +kernel
theorem dX9_bidder_124 : decode cX9_bidder 124 = .ok (.getfield 155, 3) := by decide +kernel
theorem dX9_bidder_127 : decode cX9_bidder 127 = .ok (.iload_n 1, 1) := by decide +kernel
theorem dX9_bidder_128 : decode cX9_bidder 128 = .ok (.invokestatic 123, 3) := by decide +kernel
theorem dX9_bidder_131 : decode cX9_bidder 131 = .ok (.ireturn, 1) := by decide +kernel
theorem dX9_bidder_132 : decode cX9_bidder 132 = .ok (.aload_n 0, 1) := by decide +kernel
theorem dX9_bidder_133 : decode cX9_bidder 133 = .ok (.getfield 28, 3) := by decide +kernel
theorem dX9_bidder_136 : decode cX9_bidder 136 = .ok (.iload_n 1, 1) := by decide +kernel
theorem dX9_bidder_137 : decode cX9_bidder 137 = .ok (.invokevirtual 158, 3) := by decide +kernel
theorem dX9_bidder_140 : decode cX9_bidder 140 = .ok (.ireturn, 1) := by decide +kernel
theorem dX9_bidder_141 : decode cX9_bidder 141 = .ok (.aload_n 0, 1) := by decide +kernel
theorem dX9_bidder_142 : decode cX9_bidder 142 = .ok (.getfield 19, 3) := by decide +kernel
theorem dX9_bidder_145 : decode cX9_bidder 145 = .ok (.getfield 161, 3) := by decide +kernel
theorem dX9_bidder_148 : decode cX9_bidder 148 = .ok (.iload_n 1, 1) := by decide +kernel
theorem dX9_bidder_149 : decode cX9_bidder 149 = .ok (.invokestatic 123, 3) := by decide +kernel
theorem dX9_bidder_152 : decode cX9_bidder 152 = .ok (.ireturn, 1) := by decide +kernel
theorem dX9_bidder_153 : decode cX9_bidder 153 = .ok (.bipush (-2), 2) := by decide +kernel
theorem dX9_bidder_155 : decode cX9_bidder 155 = .ok (.ireturn, 1) := by decide +kernel
theorem dX9_rings_0 : decode cX9_rings 0 = .ok (.iload_n 1, 1) := by decide +kernel
theorem dX9_rings_1 : decode cX9_rings 1 = .ok (.invokestatic 164, 3) := by decide +kernel
theorem dX9_rings_4 : decode cX9_rings 4 = .ok (.ifCond .ne 6, 3) := by decide +kernel
theorem dX9_rings_7 : decode cX9_rings 7 = .ok (.bipush (-2), 2) := by decide +kernel
theorem dX9_rings_9 : decode cX9_rings 9 = .ok (.ireturn, 1) := by decide +kernel
theorem dX9_rings_10 : decode cX9_rings 10 = .ok (.aload_n 0, 1) := by decide +kernel
theorem dX9_rings_11 : decode cX9_rings 11 = .ok (.getfield 28, 3) := by decide +kernel
theorem dX9_rings_14 : decode cX9_rings 14 = .ok (.invokevirtual 130, 3) := by decide +kernel
theorem dX9_rings_17 : decode cX9_rings 17 = .ok (.iload_n 1, 1) := by decide +kernel
theorem dX9_rings_18 : decode cX9_rings 18 = .ok (.invokestatic 167, 3) := by decide +kernel
theorem dX9_rings_21 : decode cX9_rings 21 = .ok (.ireturn, 1) := by decide +kernel
theorem dX9_clashes_0 : decode cX9_clashes 0 = .ok (.aload_n 0, 1) := by decide +kernel
theorem dX9_clashes_1 : decode cX9_clashes 1 = .ok (.getfield 19, 3) := by decide +kernel
theorem dX9_clashes_4 : decode cX9_clashes 4 = .ok (.iload_n 1, 1) := by decide +kernel
theorem dX9_clashes_5 : decode cX9_clashes 5 = .ok (.invokevirtual 137, 3) := by decide +kernel
theorem dX9_clashes_8 : decode cX9_clashes 8 = .ok (.ifCond .ne 5, 3) := by decide +kernel
theorem dX9_clashes_11 : decode cX9_clashes 11 = .ok (.iconst (-1), 1) := by decide +kernel
theorem dX9_clashes_12 : decode cX9_clashes 12 = .ok (.ireturn, 1) := by decide +kernel
theorem dX9_clashes_13 : decode cX9_clashes 13 = .ok (.iload_n 2, 1) := by decide +kernel
theorem dX9_clashes_14 : decode cX9_clashes 14 = .ok (.invokestatic 164, 3) := by decide +kernel
theorem dX9_clashes_17 : decode cX9_clashes 17 = .ok (.ifCond .ne 6, 3) := by decide +kernel
theorem dX9_clashes_20 : decode cX9_clashes 20 = .ok (.bipush (-2), 2) := by decide +kernel
theorem dX9_clashes_22 : decode cX9_clashes 22 = .ok (.ireturn, 1) := by decide +kernel
theorem dX9_clashes_23 : decode cX9_clashes 23 = .ok (.aload_n 0, 1) := by decide +kernel
theorem dX9_clashes_24 : decode cX9_clashes 24 = .ok (.getfield 19, 3) := by decide +kernel
theorem dX9_clashes_27 : decode cX9_clashes 27 = .ok (.iload_n 1, 1) := by decide +kernel
theorem dX9_clashes_28 : decode cX9_clashes 28 = .ok (.iload_n 2, 1) := by decide +kernel
theorem dX9_clashes_29 : decode cX9_clashes 29 = .ok (.invokevirtual 170, 3) := by decide +kernel
theorem dX9_clashes_32 : decode cX9_clashes 32 = .ok (.ifCond .ne 6, 3) := by decide +kernel
theorem dX9_clashes_35 : decode cX9_clashes 35 = .ok (.bipush (-3), 2) := by decide +kernel
theorem dX9_clashes_37 : decode cX9_clashes 37 = .ok (.ireturn, 1) := by decide +kernel
theorem dX9_clashes_38 : decode cX9_clashes 38 = .ok (.aload_n 0, 1) := by decide +kernel
theorem dX9_clashes_39 : decode cX9_clashes 39 = .ok (.getfield 28, 3) := by decide +kernel
theorem dX9_clashes_42 : decode cX9_clashes 42 = .ok (.iload_n 1, 1) := by decide +kernel
theorem dX9_clashes_43 : decode cX9_clashes 43 = .ok (.iload_n 2, 1) := by decide +kernel
theorem dX9_clashes_44 : decode cX9_clashes 44 = .ok (.invokevirtual 174, 3) := by decide +kernel
theorem dX9_clashes_47 : decode cX9_clashes 47 = .ok (.ireturn, 1) := by decide +kernel
theorem dX9_let_0 : decode cX9_let 0 = .ok (.aload_n 0, 1) := by decide +kernel
theorem dX9_let_1 : decode cX9_let 1 = .ok (.getfield 19, 3) := by decide +kernel
theorem dX9_let_4 : decode cX9_let 4 = .ok (.iload_n 1, 1) := by decide +kernel
theorem dX9_let_5 : decode cX9_let 5 = .ok (.invokevirtual 137, 3) := by decide +kernel
theorem dX9_let_8 : decode cX9_let 8 = .ok (.ifCond .ne 5, 3) := by decide +kernel
theorem dX9_let_11 : decode cX9_let 11 = .ok (.iconst (-1), 1) := by decide +kernel
theorem dX9_let_12 : decode cX9_let 12 = .ok (.ireturn, 1) := by decide +kernel
theorem dX9_let_13 : decode cX9_let 13 = .ok (.iload_n 2, 1) := by decide +kernel
theorem dX9_let_14 : decode cX9_let 14 = .ok (.invokestatic 164, 3) := by decide +kernel
theorem dX9_let_17 : decode cX9_let 17 = .ok (.ifCond .ne 6, 3) := by decide +kernel
theorem dX9_let_20 : decode cX9_let 20 = .ok (.bipush (-2), 2) := by decide +kernel
theorem dX9_let_22 : decode cX9_let 22 = .ok (.ireturn, 1) := by decide +kernel
theorem dX9_let_23 : decode cX9_let 23 = .ok (.aload_n 0, 1) := by decide +kernel
theorem dX9_let_24 : decode cX9_let 24 = .ok (.getfield 28, 3) := by decide +kernel
theorem dX9_let_27 : decode cX9_let 27 = .ok (.iload_n 1, 1) := by decide +kernel
theorem dX9_let_28 : decode cX9_let 28 = .ok (.invokevirtual 177, 3) := by decide +kernel
theorem dX9_let_31 : decode cX9_let 31 = .ok (.ifCond .ne 15, 3) := by decide +kernel
theorem dX9_let_34 : decode cX9_let 34 = .ok (.aload_n 0, 1) := by decide +kernel
theorem dX9_let_35 : decode cX9_let 35 = .ok (.getfield 28, 3) := by decide +kernel
theorem dX9_let_38 : decode cX9_let 38 = .ok (.iload_n 1, 1) := by decide +kernel
theorem dX9_let_39 : decode cX9_let 39 = .ok (.iload_n 2, 1) := by decide +kernel
theorem dX9_let_40 : decode cX9_let 40 = .ok (.invokevirtual 180, 3) := by decide +kernel
theorem dX9_let_43 : decode cX9_let 43 = .ok (.ifCond .ne 6, 3) := by decide +kernel
theorem dX9_let_46 : decode cX9_let 46 = .ok (.bipush (-3), 2) := by decide +kernel
theorem dX9_let_48 : decode cX9_let 48 = .ok (.ireturn, 1) := by decide +kernel
theorem dX9_let_49 : decode cX9_let 49 = .ok (.aload_n 0, 1) := by decide +kernel
theorem dX9_let_50 : decode cX9_let 50 = .ok (.iload_n 1, 1) := by decide +kernel
theorem dX9_let_51 : decode cX9_let 51 = .ok (.iload_n 2, 1) := by decide +kernel
theorem dX9_let_52 : decode cX9_let 52 = .ok (.iconst 1, 1) := by decide +kernel
theorem dX9_let_53 : decode cX9_let 53 = .ok (.iadd, 1) := by decide +kernel
theorem dX9_let_54 : decode cX9_let 54 = .ok (.invokevirtual 183, 3) := by decide +kernel
theorem dX9_let_57 : decode cX9_let 57 = .ok (.aload_n 0, 1) := by decide +kernel
theorem dX9_let_58 : decode cX9_let 58 = .ok (.getfield 28, 3) := by decide +kernel
theorem dX9_let_61 : decode cX9_let 61 = .ok (.invokevirtual 187, 3) := by decide +kernel
theorem dX9_let_64 : decode cX9_let 64 = .ok (.ireturn, 1) := by decide +kernel
theorem dX9_revoke_0 : decode cX9_revoke 0 = .ok (.aload_n 0, 1) := by decide +kernel
theorem dX9_revoke_1 : decode cX9_revoke 1 = .ok (.getfield 19, 3) := by decide +kernel
theorem dX9_revoke_4 : decode cX9_revoke 4 = .ok (.iload_n 1, 1) := by decide +kernel
theorem dX9_revoke_5 : decode cX9_revoke 5 = .ok (.invokevirtual 137, 3) := by decide +kernel
theorem dX9_revoke_8 : decode cX9_revoke 8 = .ok (.ifCond .ne 5, 3) := by decide +kernel
theorem dX9_revoke_11 : decode cX9_revoke 11 = .ok (.iconst (-1), 1) := by decide +kernel
theorem dX9_revoke_12 : decode cX9_revoke 12 = .ok (.ireturn, 1) := by decide +kernel
theorem dX9_revoke_13 : decode cX9_revoke 13 = .ok (.aload_n 0, 1) := by decide +kernel
theorem dX9_revoke_14 : decode cX9_revoke 14 = .ok (.getfield 28, 3) := by decide +kernel
theorem dX9_revoke_17 : decode cX9_revoke 17 = .ok (.iload_n 1, 1) := by decide +kernel
theorem dX9_revoke_18 : decode cX9_revoke 18 = .ok (.invokevirtual 177, 3) := by decide +kernel
theorem dX9_revoke_21 : decode cX9_revoke 21 = .ok (.ifCond .ne 6, 3) := by decide +kernel
theorem dX9_revoke_24 : decode cX9_revoke 24 = .ok (.bipush (-3), 2) := by decide +kernel
theorem dX9_revoke_26 : decode cX9_revoke 26 = .ok (.ireturn, 1) := by decide +kernel
theorem dX9_revoke_27 : decode cX9_revoke 27 = .ok (.aload_n 0, 1) := by decide +kernel
theorem dX9_revoke_28 : decode cX9_revoke 28 = .ok (.iload_n 1, 1) := by decide +kernel
theorem dX9_revoke_29 : decode cX9_revoke 29 = .ok (.iconst 0, 1) := by decide +kernel
theorem dX9_revoke_30 : decode cX9_revoke 30 = .ok (.invokevirtual 183, 3) := by decide +kernel
theorem dX9_revoke_33 : decode cX9_revoke 33 = .ok (.aload_n 0, 1) := by decide +kernel
theorem dX9_revoke_34 : decode cX9_revoke 34 = .ok (.getfield 28, 3) := by decide +kernel
theorem dX9_revoke_37 : decode cX9_revoke 37 = .ok (.invokevirtual 187, 3) := by decide +kernel
theorem dX9_revoke_40 : decode cX9_revoke 40 = .ok (.ireturn, 1) := by decide +kernel
theorem dX9_move_0 : decode cX9_move 0 = .ok (.aload_n 0, 1) := by decide +kernel
theorem dX9_move_1 : decode cX9_move 1 = .ok (.getfield 19, 3) := by decide +kernel
theorem dX9_move_4 : decode cX9_move 4 = .ok (.iload_n 1, 1) := by decide +kernel
theorem dX9_move_5 : decode cX9_move 5 = .ok (.invokevirtual 137, 3) := by decide +kernel
theorem dX9_move_8 : decode cX9_move 8 = .ok (.ifCond .ne 5, 3) := by decide +kernel
theorem dX9_move_11 : decode cX9_move 11 = .ok (.iconst (-1), 1) := by decide +kernel
theorem dX9_move_12 : decode cX9_move 12 = .ok (.ireturn, 1) := by decide +kernel
theorem dX9_move_13 : decode cX9_move 13 = .ok (.iload_n 2, 1) := by decide +kernel
theorem dX9_move_14 : decode cX9_move 14 = .ok (.invokestatic 164, 3) := by decide +kernel
theorem dX9_move_17 : decode cX9_move 17 = .ok (.ifCond .ne 6, 3) := by decide +kernel
theorem dX9_move_20 : decode cX9_move 20 = .ok (.bipush (-2), 2) := by decide +kernel
theorem dX9_move_22 : decode cX9_move 22 = .ok (.ireturn, 1) := by decide +kernel
theorem dX9_move_23 : decode cX9_move 23 = .ok (.aload_n 0, 1) := by decide +kernel
theorem dX9_move_24 : decode cX9_move 24 = .ok (.getfield 28, 3) := by decide +kernel
theorem dX9_move_27 : decode cX9_move 27 = .ok (.iload_n 1, 1) := by decide +kernel
theorem dX9_move_28 : decode cX9_move 28 = .ok (.invokevirtual 177, 3) := by decide +kernel
theorem dX9_move_31 : decode cX9_move 31 = .ok (.ifCond .eq 27, 3) := by decide +kernel
theorem dX9_move_34 : decode cX9_move 34 = .ok (.aload_n 0, 1) := by decide +kernel
theorem dX9_move_35 : decode cX9_move 35 = .ok (.getfield 28, 3) := by decide +kernel
theorem dX9_move_38 : decode cX9_move 38 = .ok (.iload_n 1, 1) := by decide +kernel
theorem dX9_move_39 : decode cX9_move 39 = .ok (.invokevirtual 158, 3) := by decide +kernel
theorem dX9_move_42 : decode cX9_move 42 = .ok (.iload_n 2, 1) := by decide +kernel
theorem dX9_move_43 : decode cX9_move 43 = .ok (.if_icmp .eq 15, 3) := by decide +kernel
theorem dX9_move_46 : decode cX9_move 46 = .ok (.aload_n 0, 1) := by decide +kernel
theorem dX9_move_47 : decode cX9_move 47 = .ok (.getfield 28, 3) := by decide +kernel
theorem dX9_move_50 : decode cX9_move 50 = .ok (.iload_n 1, 1) := by decide +kernel
theorem dX9_move_51 : decode cX9_move 51 = .ok (.iload_n 2, 1) := by decide +kernel
theorem dX9_move_52 : decode cX9_move 52 = .ok (.invokevirtual 180, 3) := by decide +kernel
theorem dX9_move_55 : decode cX9_move 55 = .ok (.ifCond .ne 6, 3) := by decide +kernel
theorem dX9_move_58 : decode cX9_move 58 = .ok (.bipush (-3), 2) := by decide +kernel
theorem dX9_move_60 : decode cX9_move 60 = .ok (.ireturn, 1) := by decide +kernel
theorem dX9_move_61 : decode cX9_move 61 = .ok (.aload_n 0, 1) := by decide +kernel
theorem dX9_move_62 : decode cX9_move 62 = .ok (.getfield 28, 3) := by decide +kernel
theorem dX9_move_65 : decode cX9_move 65 = .ok (.iload_n 1, 1) := by decide +kernel
theorem dX9_move_66 : decode cX9_move 66 = .ok (.invokevirtual 158, 3) := by decide +kernel
theorem dX9_move_69 : decode cX9_move 69 = .ok (.istore_n 3, 1) := by decide +kernel
theorem dX9_move_70 : decode cX9_move 70 = .ok (.aload_n 0, 1) := by decide +kernel
theorem dX9_move_71 : decode cX9_move 71 = .ok (.iload_n 1, 1) := by decide +kernel
theorem dX9_move_72 : decode cX9_move 72 = .ok (.iload_n 2, 1) := by decide +kernel
theorem dX9_move_73 : decode cX9_move 73 = .ok (.iconst 1, 1) := by decide +kernel
theorem dX9_move_74 : decode cX9_move 74 = .ok (.iadd, 1) := by decide +kernel
theorem dX9_move_75 : decode cX9_move 75 = .ok (.invokevirtual 183, 3) := by decide +kernel
theorem dX9_move_78 : decode cX9_move 78 = .ok (.iload_n 3, 1) := by decide +kernel
theorem dX9_move_79 : decode cX9_move 79 = .ok (.ireturn, 1) := by decide +kernel
theorem dX9_undo_0 : decode cX9_undo 0 = .ok (.aload_n 0, 1) := by decide +kernel
theorem dX9_undo_1 : decode cX9_undo 1 = .ok (.getfield 48, 3) := by decide +kernel
theorem dX9_undo_4 : decode cX9_undo 4 = .ok (.getfield 190, 3) := by decide +kernel
theorem dX9_undo_7 : decode cX9_undo 7 = .ok (.ifCond .ne 6, 3) := by decide +kernel
theorem dX9_undo_10 : decode cX9_undo 10 = .ok (.bipush (-3), 2) := by decide +kernel
theorem dX9_undo_12 : decode cX9_undo 12 = .ok (.ireturn, 1) := by decide +kernel
theorem dX9_undo_13 : decode cX9_undo 13 = .ok (.aload_n 0, 1) := by decide +kernel
theorem dX9_undo_14 : decode cX9_undo 14 = .ok (.getfield 48, 3) := by decide +kernel
theorem dX9_undo_17 : decode cX9_undo 17 = .ok (.aload_n 0, 1) := by decide +kernel
theorem dX9_undo_18 : decode cX9_undo 18 = .ok (.getfield 28, 3) := by decide +kernel
theorem dX9_undo_21 : decode cX9_undo 21 = .ok (.invokevirtual 193, 3) := by decide +kernel
theorem dX9_undo_24 : decode cX9_undo 24 = .ok (.aload_n 0, 1) := by decide +kernel
theorem dX9_undo_25 : decode cX9_undo 25 = .ok (.getfield 48, 3) := by decide +kernel
theorem dX9_undo_28 : decode cX9_undo 28 = .ok (.getfield 190, 3) := by decide +kernel
theorem dX9_undo_31 : decode cX9_undo 31 = .ok (.ireturn, 1) := by decide +kernel
theorem dX9_act_0 : decode cX9_act 0 = .ok (.aload_n 0, 1) := by decide +kernel
theorem dX9_act_1 : decode cX9_act 1 = .ok (.getfield 48, 3) := by decide +kernel
theorem dX9_act_4 : decode cX9_act 4 = .ok (.iload_n 1, 1) := by decide +kernel
theorem dX9_act_5 : decode cX9_act 5 = .ok (.aload_n 0, 1) := by decide +kernel
theorem dX9_act_6 : decode cX9_act 6 = .ok (.getfield 28, 3) := by decide +kernel
theorem dX9_act_9 : decode cX9_act 9 = .ok (.iload_n 1, 1) := by decide +kernel
theorem dX9_act_10 : decode cX9_act 10 = .ok (.invokevirtual 197, 3) := by decide +kernel
theorem dX9_act_13 : decode cX9_act 13 = .ok (.invokevirtual 200, 3) := by decide +kernel
theorem dX9_act_16 : decode cX9_act 16 = .ok (.aload_n 0, 1) := by decide +kernel
theorem dX9_act_17 : decode cX9_act 17 = .ok (.getfield 28, 3) := by decide +kernel
theorem dX9_act_20 : decode cX9_act 20 = .ok (.iload_n 1, 1) := by decide +kernel
theorem dX9_act_21 : decode cX9_act 21 = .ok (.iload_n 2, 1) := by decide +kernel
theorem dX9_act_22 : decode cX9_act 22 = .ok (.invokevirtual 202, 3) := by decide +kernel
theorem dX9_act_25 : decode cX9_act 25 = .ok (.return_, 1) := by decide +kernel
theorem dX9_best_0 : decode cX9_best 0 = .ok (.iload_n 1, 1) := by decide +kernel
theorem dX9_best_1 : decode cX9_best 1 = .ok (.ifCond .lt 14, 3) := by decide +kernel
theorem dX9_best_4 : decode cX9_best 4 = .ok (.iload_n 1, 1) := by decide +kernel
theorem dX9_best_5 : decode cX9_best 5 = .ok (.aload_n 0, 1) := by decide +kernel
theorem dX9_best_6 : decode cX9_best 6 = .ok (.getfield 19, 3) := by decide +kernel
theorem dX9_best_9 : decode cX9_best 9 = .ok (.invokevirtual 205, 3) := by decide +kernel
theorem dX9_best_12 : decode cX9_best 12 = .ok (.if_icmp .le 6, 3) := by decide +kernel
theorem dX9_best_15 : decode cX9_best 15 = .ok (.bipush (-2), 2) := by decide +kernel
theorem dX9_best_17 : decode cX9_best 17 = .ok (.ireturn, 1) := by decide +kernel
theorem dX9_best_18 : decode cX9_best 18 = .ok (.aload_n 0, 1) := by decide +kernel
theorem dX9_best_19 : decode cX9_best 19 = .ok (.getfield 55, 3) := by decide +kernel
theorem dX9_best_22 : decode cX9_best 22 = .ok (.iload_n 1, 1) := by decide +kernel
theorem dX9_best_23 : decode cX9_best 23 = .ok (.invokevirtual 208, 3) := by decide +kernel
theorem dX9_best_26 : decode cX9_best 26 = .ok (.ireturn, 1) := by decide +kernel
theorem dX9_bestOf_0 : decode cX9_bestOf 0 = .ok (.aload_n 0, 1) := by decide +kernel
theorem dX9_bestOf_1 : decode cX9_bestOf 1 = .ok (.getfield 19, 3) := by decide +kernel
theorem dX9_bestOf_4 : decode cX9_bestOf 4 = .ok (.iload_n 1, 1) := by decide +kernel
theorem dX9_bestOf_5 : decode cX9_bestOf 5 = .ok (.invokevirtual 137, 3) := by decide +kernel
theorem dX9_bestOf_8 : decode cX9_bestOf 8 = .ok (.ifCond .ne 5, 3) := by decide +kernel
theorem dX9_bestOf_11 : decode cX9_bestOf 11 = .ok (.iconst (-1), 1) := by decide +kernel
theorem dX9_bestOf_12 : decode cX9_bestOf 12 = .ok (.ireturn, 1) := by decide +kernel
theorem dX9_bestOf_13 : decode cX9_bestOf 13 = .ok (.aload_n 0, 1) := by decide +kernel
theorem dX9_bestOf_14 : decode cX9_bestOf 14 = .ok (.getfield 55, 3) := by decide +kernel
theorem dX9_bestOf_17 : decode cX9_bestOf 17 = .ok (.aload_n 0, 1) := by decide +kernel
theorem dX9_bestOf_18 : decode cX9_bestOf 18 = .ok (.getfield 19, 3) := by decide +kernel
theorem dX9_bestOf_21 : decode cX9_bestOf 21 = .ok (.invokevirtual 205, 3) := by decide +kernel
theorem dX9_bestOf_24 : decode cX9_bestOf 24 = .ok (.invokevirtual 208, 3) := by decide +kernel
theorem dX9_bestOf_27 : decode cX9_bestOf 27 = .ok (.pop, 1) := by decide +kernel
theorem dX9_bestOf_28 : decode cX9_bestOf 28 = .ok (.aload_n 0, 1) := by decide +kernel
theorem dX9_bestOf_29 : decode cX9_bestOf 29 = .ok (.getfield 55, 3) := by decide +kernel
theorem dX9_bestOf_32 : decode cX9_bestOf 32 = .ok (.getfield 211, 3) := by decide +kernel
theorem dX9_bestOf_35 : decode cX9_bestOf 35 = .ok (.iload_n 1, 1) := by decide +kernel
theorem dX9_bestOf_36 : decode cX9_bestOf 36 = .ok (.invokevirtual 158, 3) := by decide +kernel
theorem dX9_bestOf_39 : decode cX9_bestOf 39 = .ok (.ireturn, 1) := by decide +kernel
theorem dX9_beside_0 : decode cX9_beside 0 = .ok (.aload_n 0, 1) := by decide +kernel
theorem dX9_beside_1 : decode cX9_beside 1 = .ok (.getfield 55, 3) := by decide +kernel
theorem dX9_beside_4 : decode cX9_beside 4 = .ok (.aload_n 0, 1) := by decide +kernel
theorem dX9_beside_5 : decode cX9_beside 5 = .ok (.getfield 28, 3) := by decide +kernel
theorem dX9_beside_8 : decode cX9_beside 8 = .ok (.invokevirtual 214, 3) := by decide +kernel
theorem dX9_beside_11 : decode cX9_beside 11 = .ok (.ireturn, 1) := by decide +kernel
theorem dX9_price_0 : decode cX9_price 0 = .ok (.aload_n 0, 1) := by decide +kernel
theorem dX9_price_1 : decode cX9_price 1 = .ok (.getfield 19, 3) := by decide +kernel
theorem dX9_price_4 : decode cX9_price 4 = .ok (.iload_n 1, 1) := by decide +kernel
theorem dX9_price_5 : decode cX9_price 5 = .ok (.invokevirtual 137, 3) := by decide +kernel
theorem dX9_price_8 : decode cX9_price 8 = .ok (.ifCond .ne 5, 3) := by decide +kernel
theorem dX9_price_11 : decode cX9_price 11 = .ok (.iconst (-1), 1) := by decide +kernel
theorem dX9_price_12 : decode cX9_price 12 = .ok (.ireturn, 1) := by decide +kernel
theorem dX9_price_13 : decode cX9_price 13 = .ok (.aload_n 0, 1) := by decide +kernel
theorem dX9_price_14 : decode cX9_price 14 = .ok (.getfield 55, 3) := by decide +kernel
theorem dX9_price_17 : decode cX9_price 17 = .ok (.aload_n 0, 1) := by decide +kernel
theorem dX9_price_18 : decode cX9_price 18 = .ok (.getfield 19, 3) := by decide +kernel
theorem dX9_price_21 : decode cX9_price 21 = .ok (.invokevirtual 205, 3) := by decide +kernel
theorem dX9_price_24 : decode cX9_price 24 = .ok (.invokevirtual 208, 3) := by decide +kernel
theorem dX9_price_27 : decode cX9_price 27 = .ok (.istore_n 2, 1) := by decide +kernel
theorem dX9_price_28 : decode cX9_price 28 = .ok (.aload_n 0, 1) := by decide +kernel
theorem dX9_price_29 : decode cX9_price 29 = .ok (.getfield 55, 3) := by decide +kernel
theorem dX9_price_32 : decode cX9_price 32 = .ok (.getfield 211, 3) := by decide +kernel
theorem dX9_price_35 : decode cX9_price 35 = .ok (.iload_n 1, 1) := by decide +kernel
theorem dX9_price_36 : decode cX9_price 36 = .ok (.invokevirtual 177, 3) := by decide +kernel
theorem dX9_price_39 : decode cX9_price 39 = .ok (.ifCond .ne 6, 3) := by decide +kernel
theorem dX9_price_42 : decode cX9_price 42 = .ok (.bipush (-9), 2) := by decide +kernel
theorem dX9_price_44 : decode cX9_price 44 = .ok (.ireturn, 1) := by decide +kernel
theorem dX9_price_45 : decode cX9_price 45 = .ok (.iload_n 2, 1) := by decide +kernel
theorem dX9_price_46 : decode cX9_price 46 = .ok (.aload_n 0, 1) := by decide +kernel
theorem dX9_price_47 : decode cX9_price 47 = .ok (.getfield 19, 3) := by decide +kernel
theorem dX9_price_50 : decode cX9_price 50 = .ok (.getfield 155, 3) := by decide +kernel
theorem dX9_price_53 : decode cX9_price 53 = .ok (.iload_n 1, 1) := by decide +kernel
theorem dX9_price_54 : decode cX9_price 54 = .ok (.invokestatic 123, 3) := by decide +kernel
theorem dX9_price_57 : decode cX9_price 57 = .ok (.isub, 1) := by decide +kernel
theorem dX9_price_58 : decode cX9_price 58 = .ok (.istore_n 3, 1) := by decide +kernel
theorem dX9_price_59 : decode cX9_price 59 = .ok (.aload_n 0, 1) := by decide +kernel
theorem dX9_price_60 : decode cX9_price 60 = .ok (.getfield 55, 3) := by decide +kernel
theorem dX9_price_63 : decode cX9_price 63 = .ok (.aload_n 0, 1) := by decide +kernel
theorem dX9_price_64 : decode cX9_price 64 = .ok (.getfield 19, 3) := by decide +kernel
theorem dX9_price_67 : decode cX9_price 67 = .ok (.invokevirtual 205, 3) := by decide +kernel
theorem dX9_price_70 : decode cX9_price 70 = .ok (.iconst 1, 1) := by decide +kernel
theorem dX9_price_71 : decode cX9_price 71 = .ok (.iload_n 1, 1) := by decide +kernel
theorem dX9_price_72 : decode cX9_price 72 = .ok (.ishl, 1) := by decide +kernel
theorem dX9_price_73 : decode cX9_price 73 = .ok (.iconst (-1), 1) := by decide +kernel
theorem dX9_price_74 : decode cX9_price 74 = .ok (.ixor, 1) := by decide +kernel
theorem dX9_price_75 : decode cX9_price 75 = .ok (.iand, 1) := by decide +kernel
theorem dX9_price_76 : decode cX9_price 76 = .ok (.invokevirtual 208, 3) := by decide +kernel
theorem dX9_price_79 : decode cX9_price 79 = .ok (.iload_n 3, 1) := by decide +kernel
theorem dX9_price_80 : decode cX9_price 80 = .ok (.isub, 1) := by decide +kernel
theorem dX9_price_81 : decode cX9_price 81 = .ok (.ireturn, 1) := by decide +kernel
theorem dX9_many_0 : decode cX9_many 0 = .ok (.aload_n 0, 1) := by decide +kernel
theorem dX9_many_1 : decode cX9_many 1 = .ok (.getfield 55, 3) := by decide +kernel
theorem dX9_many_4 : decode cX9_many 4 = .ok (.invokevirtual 218, 3) := by decide +kernel
theorem dX9_many_7 : decode cX9_many 7 = .ok (.ireturn, 1) := by decide +kernel
theorem dX9_room_0 : decode cX9_room 0 = .ok (.aload_n 0, 1) := by decide +kernel
theorem dX9_room_1 : decode cX9_room 1 = .ok (.getfield 19, 3) := by decide +kernel
theorem dX9_room_4 : decode cX9_room 4 = .ok (.iload_n 1, 1) := by decide +kernel
theorem dX9_room_5 : decode cX9_room 5 = .ok (.invokevirtual 137, 3) := by decide +kernel
theorem dX9_room_8 : decode cX9_room 8 = .ok (.ifCond .ne 5, 3) := by decide +kernel
theorem dX9_room_11 : decode cX9_room 11 = .ok (.iconst (-1), 1) := by decide +kernel
theorem dX9_room_12 : decode cX9_room 12 = .ok (.ireturn, 1) := by decide +kernel
theorem dX9_room_13 : decode cX9_room 13 = .ok (.iload_n 2, 1) := by decide +kernel
theorem dX9_room_14 : decode cX9_room 14 = .ok (.ifCond .lt 8, 3) := by decide +kernel
theorem dX9_room_17 : decode cX9_room 17 = .ok (.iload_n 2, 1) := by decide +kernel
theorem dX9_room_18 : decode cX9_room 18 = .ok (.iconst 1, 1) := by decide +kernel
theorem dX9_room_19 : decode cX9_room 19 = .ok (.if_icmp .le 6, 3) := by decide +kernel
theorem dX9_room_22 : decode cX9_room 22 = .ok (.bipush (-2), 2) := by decide +kernel
theorem dX9_room_24 : decode cX9_room 24 = .ok (.ireturn, 1) := by decide +kernel
theorem dX9_room_25 : decode cX9_room 25 = .ok (.aload_n 0, 1) := by decide +kernel
theorem dX9_room_26 : decode cX9_room 26 = .ok (.getfield 28, 3) := by decide +kernel
theorem dX9_room_29 : decode cX9_room 29 = .ok (.iload_n 1, 1) := by decide +kernel
theorem dX9_room_30 : decode cX9_room 30 = .ok (.invokevirtual 177, 3) := by decide +kernel
theorem dX9_room_33 : decode cX9_room 33 = .ok (.ifCond .eq 6, 3) := by decide +kernel
theorem dX9_room_36 : decode cX9_room 36 = .ok (.bipush (-3), 2) := by decide +kernel
theorem dX9_room_38 : decode cX9_room 38 = .ok (.ireturn, 1) := by decide +kernel
theorem dX9_room_39 : decode cX9_room 39 = .ok (.aload_n 0, 1) := by decide +kernel
theorem dX9_room_40 : decode cX9_room 40 = .ok (.getfield 28, 3) := by decide +kernel
theorem dX9_room_43 : decode cX9_room 43 = .ok (.iload_n 1, 1) := by decide +kernel
theorem dX9_room_44 : decode cX9_room 44 = .ok (.invokevirtual 221, 3) := by decide +kernel
theorem dX9_room_47 : decode cX9_room 47 = .ok (.istore_n 3, 1) := by decide +kernel
theorem dX9_room_48 : decode cX9_room 48 = .ok (.iload_n 3, 1) := by decide +kernel
theorem dX9_room_49 : decode cX9_room 49 = .ok (.bipush (-9), 2) := by decide +kernel
theorem dX9_room_51 : decode cX9_room 51 = .ok (.if_icmp .eq 8, 3) := by decide +kernel
theorem dX9_room_54 : decode cX9_room 54 = .ok (.iload_n 2, 1) := by decide +kernel
theorem dX9_room_55 : decode cX9_room 55 = .ok (.iconst 1, 1) := by decide +kernel
theorem dX9_room_56 : decode cX9_room 56 = .ok (.if_icmp .ne 7, 3) := by decide +kernel
theorem dX9_room_59 : decode cX9_room 59 = .ok (.iload_n 3, 1) := by decide +kernel
theorem dX9_room_60 : decode cX9_room 60 = .ok (.goto 19, 3) := by decide +kernel
theorem dX9_room_63 : decode cX9_room 63 = .ok (.aload_n 0, 1) := by decide +kernel
theorem dX9_room_64 : decode cX9_room 64 = .ok (.getfield 28, 3) := by decide +kernel
theorem dX9_room_67 : decode cX9_room 67 = .ok (.aload_n 0, 1) := by decide +kernel
theorem dX9_room_68 : decode cX9_room 68 = .ok (.getfield 28, 3) := by decide +kernel
theorem dX9_room_71 : decode cX9_room 71 = .ok (.iload_n 1, 1) := by decide +kernel
theorem dX9_room_72 : decode cX9_room 72 = .ok (.iload_n 3, 1) := by decide +kernel
theorem dX9_room_73 : decode cX9_room 73 = .ok (.invokevirtual 174, 3) := by decide +kernel
theorem dX9_room_76 : decode cX9_room 76 = .ok (.invokevirtual 224, 3) := by decide +kernel
theorem dX9_room_79 : decode cX9_room 79 = .ok (.ireturn, 1) := by decide +kernel
theorem dX9_hands_0 : decode cX9_hands 0 = .ok (.aload_n 0, 1) := by decide +kernel
theorem dX9_hands_1 : decode cX9_hands 1 = .ok (.getfield 76, 3) := by decide +kernel
theorem dX9_hands_4 : decode cX9_hands 4 = .ok (.aload_n 0, 1) := by decide +kernel
theorem dX9_hands_5 : decode cX9_hands 5 = .ok (.getfield 28, 3) := by decide +kernel
theorem dX9_hands_8 : decode cX9_hands 8 = .ok (.invokevirtual 227, 3) := by decide +kernel
theorem dX9_hands_11 : decode cX9_hands 11 = .ok (.ireturn, 1) := by decide +kernel
theorem dX9_judge_0 : decode cX9_judge 0 = .ok (.iload_n 1, 1) := by decide +kernel
theorem dX9_judge_1 : decode cX9_judge 1 = .ok (.iconst 1, 1) := by decide +kernel
theorem dX9_judge_2 : decode cX9_judge 2 = .ok (.if_icmp .lt 14, 3) := by decide +kernel
theorem dX9_judge_5 : decode cX9_judge 5 = .ok (.iload_n 1, 1) := by decide +kernel
theorem dX9_judge_6 : decode cX9_judge 6 = .ok (.iconst 5, 1) := by decide +kernel
theorem dX9_judge_7 : decode cX9_judge 7 = .ok (.if_icmp .gt 9, 3) := by decide +kernel
theorem dX9_judge_10 : decode cX9_judge 10 = .ok (.lload_n 2, 1) := by decide +kernel
theorem dX9_judge_11 : decode cX9_judge 11 = .ok (.lconst 0, 1) := by decide +kernel
theorem dX9_judge_12 : decode cX9_judge 12 = .ok (.lcmp, 1) := by decide +kernel
theorem dX9_judge_13 : decode cX9_judge 13 = .ok (.ifCond .ge 6, 3) := by decide +kernel
theorem dX9_judge_16 : decode cX9_judge 16 = .ok (.bipush (-2), 2) := by decide +kernel
theorem dX9_judge_18 : decode cX9_judge 18 = .ok (.ireturn, 1) := by decide +kernel
theorem dX9_judge_19 : decode cX9_judge 19 = .ok (.lload_n 2, 1) := by decide +kernel
theorem dX9_judge_20 : decode cX9_judge 20 = .ok (.lstore 4, 2) := by decide +kernel
theorem dX9_judge_22 : decode cX9_judge 22 = .ok (.iconst 4, 1) := by decide +kernel
theorem dX9_judge_23 : decode cX9_judge 23 = .ok (.istore 6, 2) := by decide +kernel
theorem dX9_judge_25 : decode cX9_judge 25 = .ok (.iload 6, 2) := by decide +kernel
theorem dX9_judge_27 : decode cX9_judge 27 = .ok (.ifCond .lt 37, 3) := by decide +kernel
theorem dX9_judge_30 : decode cX9_judge 30 = .ok (.iload 6, 2) := by decide +kernel
theorem dX9_judge_32 : decode cX9_judge 32 = .ok (.iload_n 1, 1) := by decide +kernel
theorem dX9_judge_33 : decode cX9_judge 33 = .ok (.if_icmp .ge 25, 3) := by decide +kernel
theorem dX9_judge_36 : decode cX9_judge 36 = .ok (.aload_n 0, 1) := by decide +kernel
theorem dX9_judge_37 : decode cX9_judge 37 = .ok (.getfield 80, 3) := by decide +kernel
theorem dX9_judge_40 : decode cX9_judge 40 = .ok (.iload 6, 2) := by decide +kernel
theorem dX9_judge_42 : decode cX9_judge 42 = .ok (.lload 4, 2) := by decide +kernel
theorem dX9_judge_44 : decode cX9_judge 44 = .ok (.ldc2_w 230, 3) := by decide +kernel
theorem dX9_judge_47 : decode cX9_judge 47 = .ok (.lrem, 1) := by decide +kernel
theorem dX9_judge_48 : decode cX9_judge 48 = .ok (.l2i, 1) := by decide +kernel
theorem dX9_judge_49 : decode cX9_judge 49 = .ok (.iastore, 1) := by decide +kernel
theorem dX9_judge_50 : decode cX9_judge 50 = .ok (.lload 4, 2) := by decide +kernel
theorem dX9_judge_52 : decode cX9_judge 52 = .ok (.ldc2_w 230, 3) := by decide +kernel
theorem dX9_judge_55 : decode cX9_judge 55 = .ok (.ldiv, 1) := by decide +kernel
theorem dX9_judge_56 : decode cX9_judge 56 = .ok (.lstore 4, 2) := by decide +kernel
theorem dX9_judge_58 : decode cX9_judge 58 = .ok (.iinc 6 (-1), 3) := by decide +kernel
theorem dX9_judge_61 : decode cX9_judge 61 = .ok (.goto (-36), 3) := by decide +kernel
theorem dX9_judge_64 : decode cX9_judge 64 = .ok (.lload 4, 2) := by decide +kernel
theorem dX9_judge_66 : decode cX9_judge 66 = .ok (.lconst 0, 1) := by decide +kernel
theorem dX9_judge_67 : decode cX9_judge 67 = .ok (.lcmp, 1) := by decide +kernel
theorem dX9_judge_68 : decode cX9_judge 68 = .ok (.ifCond .eq 6, 3) := by decide +kernel
theorem dX9_judge_71 : decode cX9_judge 71 = .ok (.bipush (-2), 2) := by decide +kernel
theorem dX9_judge_73 : decode cX9_judge 73 = .ok (.ireturn, 1) := by decide +kernel
theorem dX9_judge_74 : decode cX9_judge 74 = .ok (.aload_n 0, 1) := by decide +kernel
theorem dX9_judge_75 : decode cX9_judge 75 = .ok (.iload_n 1, 1) := by decide +kernel
theorem dX9_judge_76 : decode cX9_judge 76 = .ok (.invokevirtual 232, 3) := by decide +kernel
theorem dX9_judge_79 : decode cX9_judge 79 = .ok (.ireturn, 1) := by decide +kernel
theorem dX9_firstThatCanNotBe_0 : decode cX9_firstThatCanNotBe 0 = .ok (.aload_n 0, 1) := by decide +kernel
theorem dX9_firstThatCanNotBe_1 : decode cX9_firstThatCanNotBe 1 = .ok (.getfield 32, 3) := by decide +kernel
theorem dX9_firstThatCanNotBe_4 : decode cX9_firstThatCanNotBe 4 = .ok (.aload_n 0, 1) := by decide +kernel
theorem dX9_firstThatCanNotBe_5 : decode cX9_firstThatCanNotBe 5 = .ok (.getfield 28, 3) := by decide +kernel
theorem dX9_firstThatCanNotBe_8 : decode cX9_firstThatCanNotBe 8 = .ok (.invokevirtual 235, 3) := by decide +kernel
theorem dX9_firstThatCanNotBe_11 : decode cX9_firstThatCanNotBe 11 = .ok (.iconst 0, 1) := by decide +kernel
theorem dX9_firstThatCanNotBe_12 : decode cX9_firstThatCanNotBe 12 = .ok (.istore_n 2, 1) := by decide +kernel
theorem dX9_firstThatCanNotBe_13 : decode cX9_firstThatCanNotBe 13 = .ok (.iload_n 2, 1) := by decide +kernel
theorem dX9_firstThatCanNotBe_14 : decode cX9_firstThatCanNotBe 14 = .ok (.iconst 5, 1) := by decide +kernel
theorem dX9_firstThatCanNotBe_15 : decode cX9_firstThatCanNotBe 15 = .ok (.if_icmp .ge 44, 3) := by decide +kernel
theorem dX9_firstThatCanNotBe_18 : decode cX9_firstThatCanNotBe 18 = .ok (.iload_n 2, 1) := by decide +kernel
theorem dX9_firstThatCanNotBe_19 : decode cX9_firstThatCanNotBe 19 = .ok (.iload_n 1, 1) := by decide +kernel
theorem dX9_firstThatCanNotBe_20 : decode cX9_firstThatCanNotBe 20 = .ok (.if_icmp .ge 39, 3) := by decide +kernel
theorem dX9_firstThatCanNotBe_23 : decode cX9_firstThatCanNotBe 23 = .ok (.aload_n 0, 1) := by decide +kernel
theorem dX9_firstThatCanNotBe_24 : decode cX9_firstThatCanNotBe 24 = .ok (.getfield 32, 3) := by decide +kernel
theorem dX9_firstThatCanNotBe_27 : decode cX9_firstThatCanNotBe 27 = .ok (.aload_n 0, 1) := by decide +kernel
theorem dX9_firstThatCanNotBe_28 : decode cX9_firstThatCanNotBe 28 = .ok (.getfield 80, 3) := by decide +kernel
theorem dX9_firstThatCanNotBe_31 : decode cX9_firstThatCanNotBe 31 = .ok (.iload_n 2, 1) := by decide +kernel
theorem dX9_firstThatCanNotBe_32 : decode cX9_firstThatCanNotBe 32 = .ok (.iaload, 1) := by decide +kernel
theorem dX9_firstThatCanNotBe_33 : decode cX9_firstThatCanNotBe 33 = .ok (.bipush 10, 2) := by decide +kernel
theorem dX9_firstThatCanNotBe_35 : decode cX9_firstThatCanNotBe 35 = .ok (.idiv, 1) := by decide +kernel
theorem dX9_firstThatCanNotBe_36 : decode cX9_firstThatCanNotBe 36 = .ok (.aload_n 0, 1) := by decide +kernel
theorem dX9_firstThatCanNotBe_37 : decode cX9_firstThatCanNotBe 37 = .ok (.getfield 80, 3) := by decide +kernel
theorem dX9_firstThatCanNotBe_40 : decode cX9_firstThatCanNotBe 40 = .ok (.iload_n 2, 1) := by decide +kernel
theorem dX9_firstThatCanNotBe_41 : decode cX9_firstThatCanNotBe 41 = .ok (.iaload, 1) := by decide +kernel
theorem dX9_firstThatCanNotBe_42 : decode cX9_firstThatCanNotBe 42 = .ok (.bipush 10, 2) := by decide +kernel
theorem dX9_firstThatCanNotBe_44 : decode cX9_firstThatCanNotBe 44 = .ok (.irem, 1) := by decide +kernel
theorem dX9_firstThatCanNotBe_45 : decode cX9_firstThatCanNotBe 45 = .ok (.invokevirtual 238, 3) := by decide +kernel
theorem dX9_firstThatCanNotBe_48 : decode cX9_firstThatCanNotBe 48 = .ok (.ifCond .ne 5, 3) := by decide +kernel
theorem dX9_firstThatCanNotBe_51 : decode cX9_firstThatCanNotBe 51 = .ok (.iload_n 2, 1) := by decide +kernel
theorem dX9_firstThatCanNotBe_52 : decode cX9_firstThatCanNotBe 52 = .ok (.ireturn, 1) := by decide +kernel
theorem dX9_firstThatCanNotBe_53 : decode cX9_firstThatCanNotBe 53 = .ok (.iinc 2 1, 3) := by decide +kernel
theorem dX9_firstThatCanNotBe_56 : decode cX9_firstThatCanNotBe 56 = .ok (.goto (-43), 3) := by decide +kernel
theorem dX9_firstThatCanNotBe_59 : decode cX9_firstThatCanNotBe 59 = .ok (.bipush (-9), 2) := by decide +kernel
theorem dX9_firstThatCanNotBe_61 : decode cX9_firstThatCanNotBe 61 = .ok (.ireturn, 1) := by decide +kernel
theorem dX9_hear_0 : decode cX9_hear 0 = .ok (.iload_n 1, 1) := by decide +kernel
theorem dX9_hear_1 : decode cX9_hear 1 = .ok (.invokestatic 164, 3) := by decide +kernel
theorem dX9_hear_4 : decode cX9_hear 4 = .ok (.ifCond .eq 18, 3) := by decide +kernel
theorem dX9_hear_7 : decode cX9_hear 7 = .ok (.iload_n 2, 1) := by decide +kernel
theorem dX9_hear_8 : decode cX9_hear 8 = .ok (.ifCond .lt 14, 3) := by decide +kernel
theorem dX9_hear_11 : decode cX9_hear 11 = .ok (.iload_n 2, 1) := by decide +kernel
theorem dX9_hear_12 : decode cX9_hear 12 = .ok (.aload_n 0, 1) := by decide +kernel
theorem dX9_hear_13 : decode cX9_hear 13 = .ok (.getfield 19, 3) := by decide +kernel
theorem dX9_hear_16 : decode cX9_hear 16 = .ok (.invokevirtual 241, 3) := by decide +kernel
theorem dX9_hear_19 : decode cX9_hear 19 = .ok (.if_icmp .le 6, 3) := by decide +kernel
theorem dX9_hear_22 : decode cX9_hear 22 = .ok (.bipush (-2), 2) := by decide +kernel
theorem dX9_hear_24 : decode cX9_hear 24 = .ok (.ireturn, 1) := by decide +kernel
theorem dX9_hear_25 : decode cX9_hear 25 = .ok (.aload_n 0, 1) := by decide +kernel
theorem dX9_hear_26 : decode cX9_hear 26 = .ok (.getfield 62, 3) := by decide +kernel
theorem dX9_hear_29 : decode cX9_hear 29 = .ok (.iload_n 1, 1) := by decide +kernel
theorem dX9_hear_30 : decode cX9_hear 30 = .ok (.iload_n 2, 1) := by decide +kernel
theorem dX9_hear_31 : decode cX9_hear 31 = .ok (.invokevirtual 244, 3) := by decide +kernel
theorem dX9_hear_34 : decode cX9_hear 34 = .ok (.ireturn, 1) := by decide +kernel
theorem dX9_unhear_0 : decode cX9_unhear 0 = .ok (.aload_n 0, 1) := by decide +kernel
theorem dX9_unhear_1 : decode cX9_unhear 1 = .ok (.getfield 62, 3) := by decide +kernel
theorem dX9_unhear_4 : decode cX9_unhear 4 = .ok (.invokevirtual 246, 3) := by decide +kernel
theorem dX9_unhear_7 : decode cX9_unhear 7 = .ok (.ireturn, 1) := by decide +kernel
theorem dX9_fit_0 : decode cX9_fit 0 = .ok (.iload_n 1, 1) := by decide +kernel
theorem dX9_fit_1 : decode cX9_fit 1 = .ok (.ifCond .lt 8, 3) := by decide +kernel
theorem dX9_fit_4 : decode cX9_fit 4 = .ok (.iload_n 1, 1) := by decide +kernel
theorem dX9_fit_5 : decode cX9_fit 5 = .ok (.iconst 2, 1) := by decide +kernel
theorem dX9_fit_6 : decode cX9_fit 6 = .ok (.if_icmp .le 6, 3) := by decide +kernel
theorem dX9_fit_9 : decode cX9_fit 9 = .ok (.bipush (-2), 2) := by decide +kernel
theorem dX9_fit_11 : decode cX9_fit 11 = .ok (.ireturn, 1) := by decide +kernel
theorem dX9_fit_12 : decode cX9_fit 12 = .ok (.aload_n 0, 1) := by decide +kernel
theorem dX9_fit_13 : decode cX9_fit 13 = .ok (.getfield 69, 3) := by decide +kernel
theorem dX9_fit_16 : decode cX9_fit 16 = .ok (.aload_n 0, 1) := by decide +kernel
theorem dX9_fit_17 : decode cX9_fit 17 = .ok (.getfield 62, 3) := by decide +kernel
theorem dX9_fit_20 : decode cX9_fit 20 = .ok (.iconst 0, 1) := by decide +kernel
theorem dX9_fit_21 : decode cX9_fit 21 = .ok (.invokevirtual 247, 3) := by decide +kernel
theorem dX9_fit_24 : decode cX9_fit 24 = .ok (.iload_n 1, 1) := by decide +kernel
theorem dX9_fit_25 : decode cX9_fit 25 = .ok (.ifCond .ne 11, 3) := by decide +kernel
theorem dX9_fit_28 : decode cX9_fit 28 = .ok (.aload_n 0, 1) := by decide +kernel
theorem dX9_fit_29 : decode cX9_fit 29 = .ok (.getfield 69, 3) := by decide +kernel
theorem dX9_fit_32 : decode cX9_fit 32 = .ok (.getfield 251, 3) := by decide +kernel
theorem dX9_fit_35 : decode cX9_fit 35 = .ok (.ireturn, 1) := by decide +kernel
theorem dX9_fit_36 : decode cX9_fit 36 = .ok (.aload_n 0, 1) := by decide +kernel
theorem dX9_fit_37 : decode cX9_fit 37 = .ok (.getfield 69, 3) := by decide +kernel
theorem dX9_fit_40 : decode cX9_fit 40 = .ok (.getfield 251, 3) := by decide +kernel
theorem dX9_fit_43 : decode cX9_fit 43 = .ok (.ifCond .ne 6, 3) := by decide +kernel
theorem dX9_fit_46 : decode cX9_fit 46 = .ok (.bipush (-9), 2) := by decide +kernel
theorem dX9_fit_48 : decode cX9_fit 48 = .ok (.ireturn, 1) := by decide +kernel
theorem dX9_fit_49 : decode cX9_fit 49 = .ok (.iload_n 1, 1) := by decide +kernel
theorem dX9_fit_50 : decode cX9_fit 50 = .ok (.iconst 1, 1) := by decide +kernel
theorem dX9_fit_51 : decode cX9_fit 51 = .ok (.if_icmp .ne 13, 3) := by decide +kernel
theorem dX9_fit_54 : decode cX9_fit 54 = .ok (.aload_n 0, 1) := by decide +kernel
theorem dX9_fit_55 : decode cX9_fit 55 = .ok (.getfield 69, 3) := by decide +kernel
theorem dX9_fit_58 : decode cX9_fit 58 = .ok (.getfield 254, 3) := by decide +kernel
theorem dX9_fit_61 : decode cX9_fit 61 = .ok (.goto 20, 3) := by decide +kernel
theorem dX9_fit_64 : decode cX9_fit 64 = .ok (.aload_n 0, 1) := by decide +kernel
theorem dX9_fit_65 : decode cX9_fit 65 = .ok (.getfield 19, 3) := by decide +kernel
theorem dX9_fit_68 : decode cX9_fit 68 = .ok (.invokevirtual 205, 3) := by decide +kernel
theorem dX9_fit_71 : decode cX9_fit 71 = .ok (.aload_n 0, 1) := by decide +kernel
theorem dX9_fit_72 : decode cX9_fit 72 = .ok (.getfield 69, 3) := by decide +kernel
theorem dX9_fit_75 : decode cX9_fit 75 = .ok (.getfield 257, 3) := by decide +kernel
theorem dX9_fit_78 : decode cX9_fit 78 = .ok (.iconst (-1), 1) := by decide +kernel
theorem dX9_fit_79 : decode cX9_fit 79 = .ok (.ixor, 1) := by decide +kernel
theorem dX9_fit_80 : decode cX9_fit 80 = .ok (.iand, 1) := by decide +kernel
theorem dX9_fit_81 : decode cX9_fit 81 = .ok (.ireturn, 1) := by decide +kernel
theorem dX9_likely_0 : decode cX9_likely 0 = .ok (.iload_n 1, 1) := by decide +kernel
theorem dX9_likely_1 : decode cX9_likely 1 = .ok (.invokestatic 164, 3) := by decide +kernel
theorem dX9_likely_4 : decode cX9_likely 4 = .ok (.ifCond .ne 6, 3) := by decide +kernel
theorem dX9_likely_7 : decode cX9_likely 7 = .ok (.bipush (-2), 2) := by decide +kernel
theorem dX9_likely_9 : decode cX9_likely 9 = .ok (.ireturn, 1) := by decide +kernel
theorem dX9_likely_10 : decode cX9_likely 10 = .ok (.aload_n 0, 1) := by decide +kernel
theorem dX9_likely_11 : decode cX9_likely 11 = .ok (.getfield 69, 3) := by decide +kernel
theorem dX9_likely_14 : decode cX9_likely 14 = .ok (.aload_n 0, 1) := by decide +kernel
theorem dX9_likely_15 : decode cX9_likely 15 = .ok (.getfield 62, 3) := by decide +kernel
theorem dX9_likely_18 : decode cX9_likely 18 = .ok (.ldc_w 260, 3) := by decide +kernel
theorem dX9_likely_21 : decode cX9_likely 21 = .ok (.iload_n 1, 1) := by decide +kernel
theorem dX9_likely_22 : decode cX9_likely 22 = .ok (.ishl, 1) := by decide +kernel
theorem dX9_likely_23 : decode cX9_likely 23 = .ok (.invokevirtual 247, 3) := by decide +kernel
theorem dX9_likely_26 : decode cX9_likely 26 = .ok (.aload_n 0, 1) := by decide +kernel
theorem dX9_likely_27 : decode cX9_likely 27 = .ok (.getfield 69, 3) := by decide +kernel
theorem dX9_likely_30 : decode cX9_likely 30 = .ok (.getfield 251, 3) := by decide +kernel
theorem dX9_likely_33 : decode cX9_likely 33 = .ok (.ifCond .ne 6, 3) := by decide +kernel
theorem dX9_likely_36 : decode cX9_likely 36 = .ok (.bipush (-3), 2) := by decide +kernel
theorem dX9_likely_38 : decode cX9_likely 38 = .ok (.ireturn, 1) := by decide +kernel
theorem dX9_likely_39 : decode cX9_likely 39 = .ok (.aload_n 0, 1) := by decide +kernel
theorem dX9_likely_40 : decode cX9_likely 40 = .ok (.getfield 69, 3) := by decide +kernel
theorem dX9_likely_43 : decode cX9_likely 43 = .ok (.getfield 251, 3) := by decide +kernel
theorem dX9_likely_46 : decode cX9_likely 46 = .ok (.aload_n 0, 1) := by decide +kernel
theorem dX9_likely_47 : decode cX9_likely 47 = .ok (.getfield 69, 3) := by decide +kernel
theorem dX9_likely_50 : decode cX9_likely 50 = .ok (.getfield 261, 3) := by decide +kernel
theorem dX9_likely_53 : decode cX9_likely 53 = .ok (.isub, 1) := by decide +kernel
theorem dX9_likely_54 : decode cX9_likely 54 = .ok (.istore_n 3, 1) := by decide +kernel
theorem dX9_likely_55 : decode cX9_likely 55 = .ok (.aload_n 0, 1) := by decide +kernel
theorem dX9_likely_56 : decode cX9_likely 56 = .ok (.getfield 69, 3) := by decide +kernel
theorem dX9_likely_59 : decode cX9_likely 59 = .ok (.getfield 251, 3) := by decide +kernel
theorem dX9_likely_62 : decode cX9_likely 62 = .ok (.iload_n 3, 1) := by decide +kernel
theorem dX9_likely_63 : decode cX9_likely 63 = .ok (.invokestatic 264, 3) := by decide +kernel
theorem dX9_likely_66 : decode cX9_likely 66 = .ok (.istore 4, 2) := by decide +kernel
theorem dX9_likely_68 : decode cX9_likely 68 = .ok (.iload 4, 2) := by decide +kernel
theorem dX9_likely_70 : decode cX9_likely 70 = .ok (.iconst 1, 1) := by decide +kernel
theorem dX9_likely_71 : decode cX9_likely 71 = .ok (.if_icmp .ge 6, 3) := by decide +kernel
theorem dX9_likely_74 : decode cX9_likely 74 = .ok (.bipush (-3), 2) := by decide +kernel
theorem dX9_likely_76 : decode cX9_likely 76 = .ok (.ireturn, 1) := by decide +kernel
theorem dX9_likely_77 : decode cX9_likely 77 = .ok (.iload_n 2, 1) := by decide +kernel
theorem dX9_likely_78 : decode cX9_likely 78 = .ok (.ifCond .eq 7, 3) := by decide +kernel
theorem dX9_likely_81 : decode cX9_likely 81 = .ok (.iload_n 3, 1) := by decide +kernel
theorem dX9_likely_82 : decode cX9_likely 82 = .ok (.goto 10, 3) := by decide +kernel
theorem dX9_likely_85 : decode cX9_likely 85 = .ok (.aload_n 0, 1) := by decide +kernel
theorem dX9_likely_86 : decode cX9_likely 86 = .ok (.getfield 69, 3) := by decide +kernel
theorem dX9_likely_89 : decode cX9_likely 89 = .ok (.getfield 251, 3) := by decide +kernel
theorem dX9_likely_92 : decode cX9_likely 92 = .ok (.iload 4, 2) := by decide +kernel
theorem dX9_likely_94 : decode cX9_likely 94 = .ok (.idiv, 1) := by decide +kernel
theorem dX9_likely_95 : decode cX9_likely 95 = .ok (.ireturn, 1) := by decide +kernel
theorem dX9_unwanted_0 : decode cX9_unwanted 0 = .ok (.sipush 1023, 3) := by decide +kernel
theorem dX9_unwanted_3 : decode cX9_unwanted 3 = .ok (.aload_n 0, 1) := by decide +kernel
theorem dX9_unwanted_4 : decode cX9_unwanted 4 = .ok (.getfield 19, 3) := by decide +kernel
theorem dX9_unwanted_7 : decode cX9_unwanted 7 = .ok (.invokevirtual 267, 3) := by decide +kernel
theorem dX9_unwanted_10 : decode cX9_unwanted 10 = .ok (.iconst (-1), 1) := by decide +kernel
theorem dX9_unwanted_11 : decode cX9_unwanted 11 = .ok (.ixor, 1) := by decide +kernel
theorem dX9_unwanted_12 : decode cX9_unwanted 12 = .ok (.iand, 1) := by decide +kernel
theorem dX9_unwanted_13 : decode cX9_unwanted 13 = .ok (.ireturn, 1) := by decide +kernel
theorem dX9_sealed_0 : decode cX9_sealed 0 = .ok (.iload_n 1, 1) := by decide +kernel
theorem dX9_sealed_1 : decode cX9_sealed 1 = .ok (.invokestatic 270, 3) := by decide +kernel
theorem dX9_sealed_4 : decode cX9_sealed 4 = .ok (.ifCond .eq 19, 3) := by decide +kernel
theorem dX9_sealed_7 : decode cX9_sealed 7 = .ok (.iload_n 2, 1) := by decide +kernel
theorem dX9_sealed_8 : decode cX9_sealed 8 = .ok (.invokestatic 270, 3) := by decide +kernel
theorem dX9_sealed_11 : decode cX9_sealed 11 = .ok (.ifCond .eq 12, 3) := by decide +kernel
theorem dX9_sealed_14 : decode cX9_sealed 14 = .ok (.iload_n 3, 1) := by decide +kernel
theorem dX9_sealed_15 : decode cX9_sealed 15 = .ok (.ifCond .lt 8, 3) := by decide +kernel
theorem dX9_sealed_18 : decode cX9_sealed 18 = .ok (.iload_n 3, 1) := by decide +kernel
theorem dX9_sealed_19 : decode cX9_sealed 19 = .ok (.iconst 1, 1) := by decide +kernel
theorem dX9_sealed_20 : decode cX9_sealed 20 = .ok (.if_icmp .le 6, 3) := by decide +kernel
theorem dX9_sealed_23 : decode cX9_sealed 23 = .ok (.bipush (-2), 2) := by decide +kernel
theorem dX9_sealed_25 : decode cX9_sealed 25 = .ok (.ireturn, 1) := by decide +kernel
theorem dX9_sealed_26 : decode cX9_sealed 26 = .ok (.iconst 0, 1) := by decide +kernel
theorem dX9_sealed_27 : decode cX9_sealed 27 = .ok (.istore 4, 2) := by decide +kernel
theorem dX9_sealed_29 : decode cX9_sealed 29 = .ok (.bipush (-9), 2) := by decide +kernel
theorem dX9_sealed_31 : decode cX9_sealed 31 = .ok (.istore 5, 2) := by decide +kernel
theorem dX9_sealed_33 : decode cX9_sealed 33 = .ok (.iconst 0, 1) := by decide +kernel
theorem dX9_sealed_34 : decode cX9_sealed 34 = .ok (.istore 6, 2) := by decide +kernel
theorem dX9_sealed_36 : decode cX9_sealed 36 = .ok (.iload 6, 2) := by decide +kernel
theorem dX9_sealed_38 : decode cX9_sealed 38 = .ok (.bipush 9, 2) := by decide +kernel
theorem dX9_sealed_40 : decode cX9_sealed 40 = .ok (.if_icmp .gt 62, 3) := by decide +kernel
theorem dX9_sealed_43 : decode cX9_sealed 43 = .ok (.iconst 0, 1) := by decide +kernel
theorem dX9_sealed_44 : decode cX9_sealed 44 = .ok (.istore 7, 2) := by decide +kernel
theorem dX9_sealed_46 : decode cX9_sealed 46 = .ok (.iload 7, 2) := by decide +kernel
theorem dX9_sealed_48 : decode cX9_sealed 48 = .ok (.bipush 9, 2) := by decide +kernel
theorem dX9_sealed_50 : decode cX9_sealed 50 = .ok (.if_icmp .gt 46, 3) := by decide +kernel
theorem dX9_sealed_53 : decode cX9_sealed 53 = .ok (.iload_n 1, 1) := by decide +kernel
theorem dX9_sealed_54 : decode cX9_sealed 54 = .ok (.iload_n 2, 1) := by decide +kernel
theorem dX9_sealed_55 : decode cX9_sealed 55 = .ok (.iload 6, 2) := by decide +kernel
theorem dX9_sealed_57 : decode cX9_sealed 57 = .ok (.iload 7, 2) := by decide +kernel
theorem dX9_sealed_59 : decode cX9_sealed 59 = .ok (.invokestatic 273, 3) := by decide +kernel
theorem dX9_sealed_62 : decode cX9_sealed 62 = .ok (.ifCond .eq 28, 3) := by decide +kernel
theorem dX9_sealed_65 : decode cX9_sealed 65 = .ok (.iinc 4 1, 3) := by decide +kernel
theorem dX9_sealed_68 : decode cX9_sealed 68 = .ok (.iload 5, 2) := by decide +kernel
theorem dX9_sealed_70 : decode cX9_sealed 70 = .ok (.bipush (-9), 2) := by decide +kernel
theorem dX9_sealed_72 : decode cX9_sealed 72 = .ok (.if_icmp .ne 14, 3) := by decide +kernel
theorem dX9_sealed_75 : decode cX9_sealed 75 = .ok (.bipush 10, 2) := by decide +kernel
theorem dX9_sealed_77 : decode cX9_sealed 77 = .ok (.iload 6, 2) := by decide +kernel
theorem dX9_sealed_79 : decode cX9_sealed 79 = .ok (.imul, 1) := by decide +kernel
theorem dX9_sealed_80 : decode cX9_sealed 80 = .ok (.iload 7, 2) := by decide +kernel
theorem dX9_sealed_82 : decode cX9_sealed 82 = .ok (.iadd, 1) := by decide +kernel
theorem dX9_sealed_83 : decode cX9_sealed 83 = .ok (.goto 5, 3) := by decide +kernel
theorem dX9_sealed_86 : decode cX9_sealed 86 = .ok (.iload 5, 2) := by decide +kernel
theorem dX9_sealed_88 : decode cX9_sealed 88 = .ok (.istore 5, 2) := by decide +kernel
theorem dX9_sealed_90 : decode cX9_sealed 90 = .ok (.iinc 7 1, 3) := by decide +kernel
theorem dX9_sealed_93 : decode cX9_sealed 93 = .ok (.goto (-47), 3) := by decide +kernel
theorem dX9_sealed_96 : decode cX9_sealed 96 = .ok (.iinc 6 1, 3) := by decide +kernel
theorem dX9_sealed_99 : decode cX9_sealed 99 = .ok (.goto (-63), 3) := by decide +kernel
theorem dX9_sealed_102 : decode cX9_sealed 102 = .ok (.iload_n 3, 1) := by decide +kernel
theorem dX9_sealed_103 : decode cX9_sealed 103 = .ok (.ifCond .ne 8, 3) := by decide +kernel
theorem dX9_sealed_106 : decode cX9_sealed 106 = .ok (.iload 4, 2) := by decide +kernel
theorem dX9_sealed_108 : decode cX9_sealed 108 = .ok (.goto 5, 3) := by decide +kernel
theorem dX9_sealed_111 : decode cX9_sealed 111 = .ok (.iload 5, 2) := by decide +kernel
theorem dX9_sealed_113 : decode cX9_sealed 113 = .ok (.ireturn, 1) := by decide +kernel
theorem dX9_seed_0 : decode cX9_seed 0 = .ok (.aload_n 0, 1) := by decide +kernel
theorem dX9_seed_1 : decode cX9_seed 1 = .ok (.getfield 84, 3) := by decide +kernel
theorem dX9_seed_4 : decode cX9_seed 4 = .ok (.lstore_n 3, 1) := by decide +kernel
theorem dX9_seed_5 : decode cX9_seed 5 = .ok (.aload_n 0, 1) := by decide +kernel
theorem dX9_seed_6 : decode cX9_seed 6 = .ok (.lload_n 1, 1) := by decide +kernel
theorem dX9_seed_7 : decode cX9_seed 7 = .ok (.putfield 84, 3) := by decide +kernel
theorem dX9_seed_10 : decode cX9_seed 10 = .ok (.lload_n 3, 1) := by decide +kernel
theorem dX9_seed_11 : decode cX9_seed 11 = .ok (.lreturn, 1) := by decide +kernel
theorem dX9_day_0 : decode cX9_day 0 = .ok (.iload_n 1, 1) := by decide +kernel
theorem dX9_day_1 : decode cX9_day 1 = .ok (.iconst 1, 1) := by decide +kernel
theorem dX9_day_2 : decode cX9_day 2 = .ok (.if_icmp .lt 9, 3) := by decide +kernel
theorem dX9_day_5 : decode cX9_day 5 = .ok (.iload_n 1, 1) := by decide +kernel
theorem dX9_day_6 : decode cX9_day 6 = .ok (.bipush 20, 2) := by decide +kernel
theorem dX9_day_8 : decode cX9_day 8 = .ok (.if_icmp .le 6, 3) := by decide +kernel
theorem dX9_day_11 : decode cX9_day 11 = .ok (.bipush (-2), 2) := by decide +kernel
theorem dX9_day_13 : decode cX9_day 13 = .ok (.ireturn, 1) := by decide +kernel
theorem dX9_day_14 : decode cX9_day 14 = .ok (.aload_n 0, 1) := by decide +kernel
theorem dX9_day_15 : decode cX9_day 15 = .ok (.getfield 32, 3) := by decide +kernel
theorem dX9_day_18 : decode cX9_day 18 = .ok (.aload_n 0, 1) := by decide +kernel
theorem dX9_day_19 : decode cX9_day 19 = .ok (.getfield 28, 3) := by decide +kernel
