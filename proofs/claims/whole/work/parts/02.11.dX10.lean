theorem dX10_init_0 : decode cX10_init 0 = .ok (.aload_n 0, 1) := by decide +kernel
theorem dX10_init_1 : decode cX10_init 1 = .ok (.invokespecial 1, 3) := by decide +kernel
theorem dX10_init_4 : decode cX10_init 4 = .ok (.aload_n 0, 1) := by decide +kernel
theorem dX10_init_5 : decode cX10_init 5 = .ok (.iconst 3, 1) := by decide +kernel
theorem dX10_init_6 : decode cX10_init 6 = .ok (.newarray .int, 2) := by decide +kernel
theorem dX10_init_8 : decode cX10_init 8 = .ok (.putfield 7, 3) := by decide +kernel
theorem dX10_init_11 : decode cX10_init 11 = .ok (.aload_n 0, 1) := by decide +kernel
theorem dX10_init_12 : decode cX10_init 12 = .ok (.iconst 3, 1) := by decide +kernel
theorem dX10_init_13 : decode cX10_init 13 = .ok (.newarray .int, 2) := by decide +kernel
theorem dX10_init_15 : decode cX10_init 15 = .ok (.putfield 13, 3) := by decide +kernel
theorem dX10_init_18 : decode cX10_init 18 = .ok (.aload_n 0, 1) := by decide +kernel
theorem dX10_init_19 : decode cX10_init 19 = .ok (.bipush 30, 2) := by decide +kernel
theorem dX10_init_21 : decode cX10_init 21 = .ok (.newarray .int, 2) := by decide +kernel
theorem dX10_init_23 : decode cX10_init 23 = .ok (.putfield 16, 3) := by decide +kernel
theorem dX10_init_26 : decode cX10_init 26 = .ok (.aload_n 0, 1) := by decide +kernel
theorem dX10_init_27 : decode cX10_init 27 = .ok (.bipush 6, 2) := by decide +kernel
theorem dX10_init_29 : decode cX10_init 29 = .ok (.newarray .int, 2) := by decide +kernel
theorem dX10_init_31 : decode cX10_init 31 = .ok (.putfield 19, 3) := by decide +kernel
theorem dX10_init_34 : decode cX10_init 34 = .ok (.aload_n 0, 1) := by decide +kernel
theorem dX10_init_35 : decode cX10_init 35 = .ok (.bipush 30, 2) := by decide +kernel
theorem dX10_init_37 : decode cX10_init 37 = .ok (.newarray .int, 2) := by decide +kernel
theorem dX10_init_39 : decode cX10_init 39 = .ok (.putfield 22, 3) := by decide +kernel
theorem dX10_init_42 : decode cX10_init 42 = .ok (.aload_n 0, 1) := by decide +kernel
theorem dX10_init_43 : decode cX10_init 43 = .ok (.iconst 5, 1) := by decide +kernel
theorem dX10_init_44 : decode cX10_init 44 = .ok (.newarray .int, 2) := by decide +kernel
theorem dX10_init_46 : decode cX10_init 46 = .ok (.putfield 25, 3) := by decide +kernel
theorem dX10_init_49 : decode cX10_init 49 = .ok (.aload_n 0, 1) := by decide +kernel
theorem dX10_init_50 : decode cX10_init 50 = .ok (.bipush 48, 2) := by decide +kernel
theorem dX10_init_52 : decode cX10_init 52 = .ok (.newarray .int, 2) := by decide +kernel
theorem dX10_init_54 : decode cX10_init 54 = .ok (.putfield 28, 3) := by decide +kernel
theorem dX10_init_57 : decode cX10_init 57 = .ok (.aload_n 0, 1) := by decide +kernel
theorem dX10_init_58 : decode cX10_init 58 = .ok (.bipush 80, 2) := by decide +kernel
theorem dX10_init_60 : decode cX10_init 60 = .ok (.newarray .int, 2) := by decide +kernel
theorem dX10_init_62 : decode cX10_init 62 = .ok (.putfield 31, 3) := by decide +kernel
theorem dX10_init_65 : decode cX10_init 65 = .ok (.aload_n 0, 1) := by decide +kernel
theorem dX10_init_66 : decode cX10_init 66 = .ok (.iconst 5, 1) := by decide +kernel
theorem dX10_init_67 : decode cX10_init 67 = .ok (.newarray .int, 2) := by decide +kernel
theorem dX10_init_69 : decode cX10_init 69 = .ok (.putfield 34, 3) := by decide +kernel
theorem dX10_init_72 : decode cX10_init 72 = .ok (.aload_n 0, 1) := by decide +kernel
theorem dX10_init_73 : decode cX10_init 73 = .ok (.iconst 5, 1) := by decide +kernel
theorem dX10_init_74 : decode cX10_init 74 = .ok (.newarray .int, 2) := by decide +kernel
theorem dX10_init_76 : decode cX10_init 76 = .ok (.putfield 37, 3) := by decide +kernel
theorem dX10_init_79 : decode cX10_init 79 = .ok (.aload_n 0, 1) := by decide +kernel
theorem dX10_init_80 : decode cX10_init 80 = .ok (.bipush 32, 2) := by decide +kernel
theorem dX10_init_82 : decode cX10_init 82 = .ok (.newarray .boolean, 2) := by decide +kernel
theorem dX10_init_84 : decode cX10_init 84 = .ok (.putfield 40, 3) := by decide +kernel
theorem dX10_init_87 : decode cX10_init 87 = .ok (.aload_n 0, 1) := by decide +kernel
theorem dX10_init_88 : decode cX10_init 88 = .ok (.bipush 10, 2) := by decide +kernel
theorem dX10_init_90 : decode cX10_init 90 = .ok (.newarray .int, 2) := by decide +kernel
theorem dX10_init_92 : decode cX10_init 92 = .ok (.putfield 44, 3) := by decide +kernel
theorem dX10_init_95 : decode cX10_init 95 = .ok (.aload_n 0, 1) := by decide +kernel
theorem dX10_init_96 : decode cX10_init 96 = .ok (.bipush 50, 2) := by decide +kernel
theorem dX10_init_98 : decode cX10_init 98 = .ok (.newarray .boolean, 2) := by decide +kernel
theorem dX10_init_100 : decode cX10_init 100 = .ok (.putfield 47, 3) := by decide +kernel
theorem dX10_init_103 : decode cX10_init 103 = .ok (.aload_n 0, 1) := by decide +kernel
theorem dX10_init_104 : decode cX10_init 104 = .ok (.bipush 50, 2) := by decide +kernel
theorem dX10_init_106 : decode cX10_init 106 = .ok (.newarray .int, 2) := by decide +kernel
theorem dX10_init_108 : decode cX10_init 108 = .ok (.putfield 50, 3) := by decide +kernel
theorem dX10_init_111 : decode cX10_init 111 = .ok (.aload_n 0, 1) := by decide +kernel
theorem dX10_init_112 : decode cX10_init 112 = .ok (.bipush 50, 2) := by decide +kernel
theorem dX10_init_114 : decode cX10_init 114 = .ok (.newarray .int, 2) := by decide +kernel
theorem dX10_init_116 : decode cX10_init 116 = .ok (.putfield 53, 3) := by decide +kernel
theorem dX10_init_119 : decode cX10_init 119 = .ok (.aload_n 0, 1) := by decide +kernel
theorem dX10_init_120 : decode cX10_init 120 = .ok (.iconst 3, 1) := by decide +kernel
theorem dX10_init_121 : decode cX10_init 121 = .ok (.newarray .int, 2) := by decide +kernel
theorem dX10_init_123 : decode cX10_init 123 = .ok (.putfield 56, 3) := by decide +kernel
theorem dX10_init_126 : decode cX10_init 126 = .ok (.aload_n 0, 1) := by decide +kernel
theorem dX10_init_127 : decode cX10_init 127 = .ok (.bipush 15, 2) := by decide +kernel
theorem dX10_init_129 : decode cX10_init 129 = .ok (.newarray .int, 2) := by decide +kernel
theorem dX10_init_131 : decode cX10_init 131 = .ok (.putfield 59, 3) := by decide +kernel
theorem dX10_init_134 : decode cX10_init 134 = .ok (.aload_n 0, 1) := by decide +kernel
theorem dX10_init_135 : decode cX10_init 135 = .ok (.bipush 15, 2) := by decide +kernel
theorem dX10_init_137 : decode cX10_init 137 = .ok (.newarray .int, 2) := by decide +kernel
theorem dX10_init_139 : decode cX10_init 139 = .ok (.putfield 62, 3) := by decide +kernel
theorem dX10_init_142 : decode cX10_init 142 = .ok (.aload_n 0, 1) := by decide +kernel
theorem dX10_init_143 : decode cX10_init 143 = .ok (.bipush 15, 2) := by decide +kernel
theorem dX10_init_145 : decode cX10_init 145 = .ok (.newarray .int, 2) := by decide +kernel
theorem dX10_init_147 : decode cX10_init 147 = .ok (.putfield 65, 3) := by decide +kernel
theorem dX10_init_150 : decode cX10_init 150 = .ok (.aload_n 0, 1) := by decide +kernel
theorem dX10_init_151 : decode cX10_init 151 = .ok (.bipush 15, 2) := by decide +kernel
theorem dX10_init_153 : decode cX10_init 153 = .ok (.newarray .int, 2) := by decide +kernel
theorem dX10_init_155 : decode cX10_init 155 = .ok (.putfield 68, 3) := by decide +kernel
theorem dX10_init_158 : decode cX10_init 158 = .ok (.aload_n 0, 1) := by decide +kernel
theorem dX10_init_159 : decode cX10_init 159 = .ok (.bipush 15, 2) := by decide +kernel
theorem dX10_init_161 : decode cX10_init 161 = .ok (.newarray .int, 2) := by decide +kernel
theorem dX10_init_163 : decode cX10_init 163 = .ok (.putfield 71, 3) := by decide +kernel
theorem dX10_init_166 : decode cX10_init 166 = .ok (.aload_n 0, 1) := by decide +kernel
theorem dX10_init_167 : decode cX10_init 167 = .ok (.bipush 15, 2) := by decide +kernel
theorem dX10_init_169 : decode cX10_init 169 = .ok (.newarray .int, 2) := by decide +kernel
theorem dX10_init_171 : decode cX10_init 171 = .ok (.putfield 74, 3) := by decide +kernel
theorem dX10_init_174 : decode cX10_init 174 = .ok (.aload_n 0, 1) := by decide +kernel
theorem dX10_init_175 : decode cX10_init 175 = .ok (.bipush 15, 2) := by decide +kernel
theorem dX10_init_177 : decode cX10_init 177 = .ok (.newarray .int, 2) := by decide +kernel
theorem dX10_init_179 : decode cX10_init 179 = .ok (.putfield 77, 3) := by decide +kernel
theorem dX10_init_182 : decode cX10_init 182 = .ok (.aload_n 0, 1) := by decide +kernel
theorem dX10_init_183 : decode cX10_init 183 = .ok (.iconst 5, 1) := by decide +kernel
theorem dX10_init_184 : decode cX10_init 184 = .ok (.newarray .int, 2) := by decide +kernel
theorem dX10_init_186 : decode cX10_init 186 = .ok (.putfield 80, 3) := by decide +kernel
theorem dX10_init_189 : decode cX10_init 189 = .ok (.aload_n 0, 1) := by decide +kernel
theorem dX10_init_190 : decode cX10_init 190 = .ok (.bipush 6, 2) := by decide +kernel
theorem dX10_init_192 : decode cX10_init 192 = .ok (.newarray .int, 2) := by decide +kernel
theorem dX10_init_194 : decode cX10_init 194 = .ok (.putfield 83, 3) := by decide +kernel
theorem dX10_init_197 : decode cX10_init 197 = .ok (.aload_n 0, 1) := by decide +kernel
theorem dX10_init_198 : decode cX10_init 198 = .ok (.bipush 6, 2) := by decide +kernel
theorem dX10_init_200 : decode cX10_init 200 = .ok (.newarray .int, 2) := by decide +kernel
theorem dX10_init_202 : decode cX10_init 202 = .ok (.putfield 86, 3) := by decide +kernel
theorem dX10_init_205 : decode cX10_init 205 = .ok (.aload_n 0, 1) := by decide +kernel
theorem dX10_init_206 : decode cX10_init 206 = .ok (.iconst 2, 1) := by decide +kernel
theorem dX10_init_207 : decode cX10_init 207 = .ok (.newarray .boolean, 2) := by decide +kernel
theorem dX10_init_209 : decode cX10_init 209 = .ok (.putfield 89, 3) := by decide +kernel
theorem dX10_init_212 : decode cX10_init 212 = .ok (.aload_n 0, 1) := by decide +kernel
theorem dX10_init_213 : decode cX10_init 213 = .ok (.bipush 10, 2) := by decide +kernel
theorem dX10_init_215 : decode cX10_init 215 = .ok (.newarray .int, 2) := by decide +kernel
theorem dX10_init_217 : decode cX10_init 217 = .ok (.putfield 92, 3) := by decide +kernel
theorem dX10_init_220 : decode cX10_init 220 = .ok (.iconst 0, 1) := by decide +kernel
theorem dX10_init_221 : decode cX10_init 221 = .ok (.istore_n 1, 1) := by decide +kernel
theorem dX10_init_222 : decode cX10_init 222 = .ok (.iload_n 1, 1) := by decide +kernel
theorem dX10_init_223 : decode cX10_init 223 = .ok (.iconst 5, 1) := by decide +kernel
theorem dX10_init_224 : decode cX10_init 224 = .ok (.if_icmp .ge 17, 3) := by decide +kernel
theorem dX10_init_227 : decode cX10_init 227 = .ok (.aload_n 0, 1) := by decide +kernel
theorem dX10_init_228 : decode cX10_init 228 = .ok (.getfield 25, 3) := by decide +kernel
theorem dX10_init_231 : decode cX10_init 231 = .ok (.iload_n 1, 1) := by decide +kernel
theorem dX10_init_232 : decode cX10_init 232 = .ok (.bipush (-9), 2) := by decide +kernel
theorem dX10_init_234 : decode cX10_init 234 = .ok (.iastore, 1) := by decide +kernel
theorem dX10_init_235 : decode cX10_init 235 = .ok (.iinc 1 1, 3) := by decide +kernel
theorem dX10_init_238 : decode cX10_init 238 = .ok (.goto (-16), 3) := by decide +kernel
theorem dX10_init_241 : decode cX10_init 241 = .ok (.return_, 1) := by decide +kernel
theorem dX10_in_0 : decode cX10_in 0 = .ok (.lload_n 0, 1) := by decide +kernel
theorem dX10_in_1 : decode cX10_in 1 = .ok (.lload_n 2, 1) := by decide +kernel
theorem dX10_in_2 : decode cX10_in 2 = .ok (.lcmp, 1) := by decide +kernel
theorem dX10_in_3 : decode cX10_in 3 = .ok (.ifCond .lt 14, 3) := by decide +kernel
theorem dX10_in_6 : decode cX10_in 6 = .ok (.lload_n 0, 1) := by decide +kernel
theorem dX10_in_7 : decode cX10_in 7 = .ok (.lload 4, 2) := by decide +kernel
theorem dX10_in_9 : decode cX10_in 9 = .ok (.lcmp, 1) := by decide +kernel
theorem dX10_in_10 : decode cX10_in 10 = .ok (.ifCond .gt 7, 3) := by decide +kernel
theorem dX10_in_13 : decode cX10_in 13 = .ok (.iconst 1, 1) := by decide +kernel
theorem dX10_in_14 : decode cX10_in 14 = .ok (.goto 4, 3) := by decide +kernel
theorem dX10_in_17 : decode cX10_in 17 = .ok (.iconst 0, 1) := by decide +kernel
theorem dX10_in_18 : decode cX10_in 18 = .ok (.ireturn, 1) := by decide +kernel
theorem dX10_has_0 : decode cX10_has 0 = .ok (.iload_n 0, 1) := by decide +kernel
theorem dX10_has_1 : decode cX10_has 1 = .ok (.iload_n 1, 1) := by decide +kernel
theorem dX10_has_2 : decode cX10_has 2 = .ok (.ishr, 1) := by decide +kernel
theorem dX10_has_3 : decode cX10_has 3 = .ok (.iconst 1, 1) := by decide +kernel
theorem dX10_has_4 : decode cX10_has 4 = .ok (.iand, 1) := by decide +kernel
theorem dX10_has_5 : decode cX10_has 5 = .ok (.iconst 1, 1) := by decide +kernel
theorem dX10_has_6 : decode cX10_has 6 = .ok (.if_icmp .ne 7, 3) := by decide +kernel
theorem dX10_has_9 : decode cX10_has 9 = .ok (.iconst 1, 1) := by decide +kernel
theorem dX10_has_10 : decode cX10_has 10 = .ok (.goto 4, 3) := by decide +kernel
theorem dX10_has_13 : decode cX10_has 13 = .ok (.iconst 0, 1) := by decide +kernel
theorem dX10_has_14 : decode cX10_has 14 = .ok (.ireturn, 1) := by decide +kernel
theorem dX10_ones_0 : decode cX10_ones 0 = .ok (.iconst 0, 1) := by decide +kernel
theorem dX10_ones_1 : decode cX10_ones 1 = .ok (.istore_n 1, 1) := by decide +kernel
theorem dX10_ones_2 : decode cX10_ones 2 = .ok (.iconst 0, 1) := by decide +kernel
theorem dX10_ones_3 : decode cX10_ones 3 = .ok (.istore_n 2, 1) := by decide +kernel
theorem dX10_ones_4 : decode cX10_ones 4 = .ok (.iload_n 2, 1) := by decide +kernel
theorem dX10_ones_5 : decode cX10_ones 5 = .ok (.bipush 12, 2) := by decide +kernel
theorem dX10_ones_7 : decode cX10_ones 7 = .ok (.if_icmp .ge 17, 3) := by decide +kernel
theorem dX10_ones_10 : decode cX10_ones 10 = .ok (.iload_n 1, 1) := by decide +kernel
theorem dX10_ones_11 : decode cX10_ones 11 = .ok (.iload_n 0, 1) := by decide +kernel
theorem dX10_ones_12 : decode cX10_ones 12 = .ok (.iload_n 2, 1) := by decide +kernel
theorem dX10_ones_13 : decode cX10_ones 13 = .ok (.ishr, 1) := by decide +kernel
theorem dX10_ones_14 : decode cX10_ones 14 = .ok (.iconst 1, 1) := by decide +kernel
theorem dX10_ones_15 : decode cX10_ones 15 = .ok (.iand, 1) := by decide +kernel
theorem dX10_ones_16 : decode cX10_ones 16 = .ok (.iadd, 1) := by decide +kernel
theorem dX10_ones_17 : decode cX10_ones 17 = .ok (.istore_n 1, 1) := by decide +kernel
theorem dX10_ones_18 : decode cX10_ones 18 = .ok (.iinc 2 1, 3) := by decide +kernel
theorem dX10_ones_21 : decode cX10_ones 21 = .ok (.goto (-17), 3) := by decide +kernel
theorem dX10_ones_24 : decode cX10_ones 24 = .ok (.iload_n 1, 1) := by decide +kernel
theorem dX10_ones_25 : decode cX10_ones 25 = .ok (.ireturn, 1) := by decide +kernel
theorem dX10_write_0 : decode cX10_write 0 = .ok (.iload_n 1, 1) := by decide +kernel
theorem dX10_write_1 : decode cX10_write 1 = .ok (.i2l, 1) := by decide +kernel
theorem dX10_write_2 : decode cX10_write 2 = .ok (.lconst 0, 1) := by decide +kernel
theorem dX10_write_3 : decode cX10_write 3 = .ok (.ldc2_w 95, 3) := by decide +kernel
theorem dX10_write_6 : decode cX10_write 6 = .ok (.invokestatic 97, 3) := by decide +kernel
theorem dX10_write_9 : decode cX10_write 9 = .ok (.ifCond .ne 6, 3) := by decide +kernel
theorem dX10_write_12 : decode cX10_write 12 = .ok (.bipush (-2), 2) := by decide +kernel
theorem dX10_write_14 : decode cX10_write 14 = .ok (.ireturn, 1) := by decide +kernel
theorem dX10_write_15 : decode cX10_write 15 = .ok (.aload_n 0, 1) := by decide +kernel
theorem dX10_write_16 : decode cX10_write 16 = .ok (.getfield 101, 3) := by decide +kernel
theorem dX10_write_19 : decode cX10_write 19 = .ok (.bipush 48, 2) := by decide +kernel
theorem dX10_write_21 : decode cX10_write 21 = .ok (.if_icmp .ne 6, 3) := by decide +kernel
theorem dX10_write_24 : decode cX10_write 24 = .ok (.bipush (-4), 2) := by decide +kernel
theorem dX10_write_26 : decode cX10_write 26 = .ok (.ireturn, 1) := by decide +kernel
theorem dX10_write_27 : decode cX10_write 27 = .ok (.aload_n 0, 1) := by decide +kernel
theorem dX10_write_28 : decode cX10_write 28 = .ok (.getfield 28, 3) := by decide +kernel
theorem dX10_write_31 : decode cX10_write 31 = .ok (.aload_n 0, 1) := by decide +kernel
theorem dX10_write_32 : decode cX10_write 32 = .ok (.getfield 101, 3) := by decide +kernel
theorem dX10_write_35 : decode cX10_write 35 = .ok (.iload_n 1, 1) := by decide +kernel
theorem dX10_write_36 : decode cX10_write 36 = .ok (.iastore, 1) := by decide +kernel
theorem dX10_write_37 : decode cX10_write 37 = .ok (.aload_n 0, 1) := by decide +kernel
theorem dX10_write_38 : decode cX10_write 38 = .ok (.dup, 1) := by decide +kernel
theorem dX10_write_39 : decode cX10_write 39 = .ok (.getfield 101, 3) := by decide +kernel
theorem dX10_write_42 : decode cX10_write 42 = .ok (.iconst 1, 1) := by decide +kernel
theorem dX10_write_43 : decode cX10_write 43 = .ok (.iadd, 1) := by decide +kernel
theorem dX10_write_44 : decode cX10_write 44 = .ok (.putfield 101, 3) := by decide +kernel
theorem dX10_write_47 : decode cX10_write 47 = .ok (.aload_n 0, 1) := by decide +kernel
theorem dX10_write_48 : decode cX10_write 48 = .ok (.getfield 101, 3) := by decide +kernel
theorem dX10_write_51 : decode cX10_write 51 = .ok (.ireturn, 1) := by decide +kernel
theorem dX10_wipe_0 : decode cX10_wipe 0 = .ok (.aload_n 0, 1) := by decide +kernel
theorem dX10_wipe_1 : decode cX10_wipe 1 = .ok (.getfield 101, 3) := by decide +kernel
theorem dX10_wipe_4 : decode cX10_wipe 4 = .ok (.istore_n 1, 1) := by decide +kernel
theorem dX10_wipe_5 : decode cX10_wipe 5 = .ok (.aload_n 0, 1) := by decide +kernel
theorem dX10_wipe_6 : decode cX10_wipe 6 = .ok (.iconst 0, 1) := by decide +kernel
theorem dX10_wipe_7 : decode cX10_wipe 7 = .ok (.putfield 101, 3) := by decide +kernel
theorem dX10_wipe_10 : decode cX10_wipe 10 = .ok (.iload_n 1, 1) := by decide +kernel
theorem dX10_wipe_11 : decode cX10_wipe 11 = .ok (.ireturn, 1) := by decide +kernel
theorem dX10_figure_0 : decode cX10_figure 0 = .ok (.aload_n 0, 1) := by decide +kernel
theorem dX10_figure_1 : decode cX10_figure 1 = .ok (.getfield 105, 3) := by decide +kernel
theorem dX10_figure_4 : decode cX10_figure 4 = .ok (.bipush (-9), 2) := by decide +kernel
theorem dX10_figure_6 : decode cX10_figure 6 = .ok (.if_icmp .ne 29, 3) := by decide +kernel
theorem dX10_figure_9 : decode cX10_figure 9 = .ok (.aload_n 0, 1) := by decide +kernel
theorem dX10_figure_10 : decode cX10_figure 10 = .ok (.getfield 108, 3) := by decide +kernel
theorem dX10_figure_13 : decode cX10_figure 13 = .ok (.aload_n 0, 1) := by decide +kernel
theorem dX10_figure_14 : decode cX10_figure 14 = .ok (.getfield 101, 3) := by decide +kernel
theorem dX10_figure_17 : decode cX10_figure 17 = .ok (.if_icmp .ge 18, 3) := by decide +kernel
theorem dX10_figure_20 : decode cX10_figure 20 = .ok (.aload_n 0, 1) := by decide +kernel
theorem dX10_figure_21 : decode cX10_figure 21 = .ok (.getfield 28, 3) := by decide +kernel
theorem dX10_figure_24 : decode cX10_figure 24 = .ok (.aload_n 0, 1) := by decide +kernel
theorem dX10_figure_25 : decode cX10_figure 25 = .ok (.getfield 108, 3) := by decide +kernel
theorem dX10_figure_28 : decode cX10_figure 28 = .ok (.iaload, 1) := by decide +kernel
theorem dX10_figure_29 : decode cX10_figure 29 = .ok (.bipush 48, 2) := by decide +kernel
theorem dX10_figure_31 : decode cX10_figure 31 = .ok (.isub, 1) := by decide +kernel
theorem dX10_figure_32 : decode cX10_figure 32 = .ok (.goto 5, 3) := by decide +kernel
theorem dX10_figure_35 : decode cX10_figure 35 = .ok (.bipush (-9), 2) := by decide +kernel
theorem dX10_figure_37 : decode cX10_figure 37 = .ok (.istore_n 3, 1) := by decide +kernel
theorem dX10_figure_38 : decode cX10_figure 38 = .ok (.iload_n 3, 1) := by decide +kernel
theorem dX10_figure_39 : decode cX10_figure 39 = .ok (.i2l, 1) := by decide +kernel
theorem dX10_figure_40 : decode cX10_figure 40 = .ok (.iload_n 1, 1) := by decide +kernel
theorem dX10_figure_41 : decode cX10_figure 41 = .ok (.i2l, 1) := by decide +kernel
theorem dX10_figure_42 : decode cX10_figure 42 = .ok (.iload_n 2, 1) := by decide +kernel
theorem dX10_figure_43 : decode cX10_figure 43 = .ok (.i2l, 1) := by decide +kernel
theorem dX10_figure_44 : decode cX10_figure 44 = .ok (.invokestatic 97, 3) := by decide +kernel
theorem dX10_figure_47 : decode cX10_figure 47 = .ok (.ifCond .ne 29, 3) := by decide +kernel
theorem dX10_figure_50 : decode cX10_figure 50 = .ok (.aload_n 0, 1) := by decide +kernel
theorem dX10_figure_51 : decode cX10_figure 51 = .ok (.aload_n 0, 1) := by decide +kernel
theorem dX10_figure_52 : decode cX10_figure 52 = .ok (.getfield 105, 3) := by decide +kernel
theorem dX10_figure_55 : decode cX10_figure 55 = .ok (.bipush (-9), 2) := by decide +kernel
theorem dX10_figure_57 : decode cX10_figure 57 = .ok (.if_icmp .ne 10, 3) := by decide +kernel
theorem dX10_figure_60 : decode cX10_figure 60 = .ok (.aload_n 0, 1) := by decide +kernel
theorem dX10_figure_61 : decode cX10_figure 61 = .ok (.getfield 108, 3) := by decide +kernel
theorem dX10_figure_64 : decode cX10_figure 64 = .ok (.goto 7, 3) := by decide +kernel
theorem dX10_figure_67 : decode cX10_figure 67 = .ok (.aload_n 0, 1) := by decide +kernel
theorem dX10_figure_68 : decode cX10_figure 68 = .ok (.getfield 105, 3) := by decide +kernel
theorem dX10_figure_71 : decode cX10_figure 71 = .ok (.putfield 105, 3) := by decide +kernel
theorem dX10_figure_74 : decode cX10_figure 74 = .ok (.iload_n 1, 1) := by decide +kernel
theorem dX10_figure_75 : decode cX10_figure 75 = .ok (.ireturn, 1) := by decide +kernel
theorem dX10_figure_76 : decode cX10_figure 76 = .ok (.aload_n 0, 1) := by decide +kernel
theorem dX10_figure_77 : decode cX10_figure 77 = .ok (.dup, 1) := by decide +kernel
theorem dX10_figure_78 : decode cX10_figure 78 = .ok (.getfield 108, 3) := by decide +kernel
theorem dX10_figure_81 : decode cX10_figure 81 = .ok (.iconst 1, 1) := by decide +kernel
theorem dX10_figure_82 : decode cX10_figure 82 = .ok (.iadd, 1) := by decide +kernel
theorem dX10_figure_83 : decode cX10_figure 83 = .ok (.putfield 108, 3) := by decide +kernel
theorem dX10_figure_86 : decode cX10_figure 86 = .ok (.iload_n 3, 1) := by decide +kernel
theorem dX10_figure_87 : decode cX10_figure 87 = .ok (.ireturn, 1) := by decide +kernel
theorem dX10_readText_0 : decode cX10_readText 0 = .ok (.aload_n 0, 1) := by decide +kernel
theorem dX10_readText_1 : decode cX10_readText 1 = .ok (.iconst 0, 1) := by decide +kernel
theorem dX10_readText_2 : decode cX10_readText 2 = .ok (.putfield 108, 3) := by decide +kernel
theorem dX10_readText_5 : decode cX10_readText 5 = .ok (.aload_n 0, 1) := by decide +kernel
theorem dX10_readText_6 : decode cX10_readText 6 = .ok (.bipush (-9), 2) := by decide +kernel
theorem dX10_readText_8 : decode cX10_readText 8 = .ok (.putfield 105, 3) := by decide +kernel
theorem dX10_readText_11 : decode cX10_readText 11 = .ok (.aload_n 0, 1) := by decide +kernel
theorem dX10_readText_12 : decode cX10_readText 12 = .ok (.iconst 0, 1) := by decide +kernel
theorem dX10_readText_13 : decode cX10_readText 13 = .ok (.putfield 111, 3) := by decide +kernel
theorem dX10_readText_16 : decode cX10_readText 16 = .ok (.aload_n 0, 1) := by decide +kernel
theorem dX10_readText_17 : decode cX10_readText 17 = .ok (.iconst 0, 1) := by decide +kernel
theorem dX10_readText_18 : decode cX10_readText 18 = .ok (.putfield 114, 3) := by decide +kernel
theorem dX10_readText_21 : decode cX10_readText 21 = .ok (.aload_n 0, 1) := by decide +kernel
theorem dX10_readText_22 : decode cX10_readText 22 = .ok (.getfield 101, 3) := by decide +kernel
theorem dX10_readText_25 : decode cX10_readText 25 = .ok (.ifCond .eq 14, 3) := by decide +kernel
theorem dX10_readText_28 : decode cX10_readText 28 = .ok (.aload_n 0, 1) := by decide +kernel
theorem dX10_readText_29 : decode cX10_readText 29 = .ok (.getfield 28, 3) := by decide +kernel
theorem dX10_readText_32 : decode cX10_readText 32 = .ok (.iconst 0, 1) := by decide +kernel
theorem dX10_readText_33 : decode cX10_readText 33 = .ok (.iaload, 1) := by decide +kernel
theorem dX10_readText_34 : decode cX10_readText 34 = .ok (.bipush 84, 2) := by decide +kernel
theorem dX10_readText_36 : decode cX10_readText 36 = .ok (.if_icmp .eq 5, 3) := by decide +kernel
theorem dX10_readText_39 : decode cX10_readText 39 = .ok (.iconst 0, 1) := by decide +kernel
theorem dX10_readText_40 : decode cX10_readText 40 = .ok (.ireturn, 1) := by decide +kernel
theorem dX10_readText_41 : decode cX10_readText 41 = .ok (.aload_n 0, 1) := by decide +kernel
theorem dX10_readText_42 : decode cX10_readText 42 = .ok (.iconst 1, 1) := by decide +kernel
theorem dX10_readText_43 : decode cX10_readText 43 = .ok (.putfield 108, 3) := by decide +kernel
theorem dX10_readText_46 : decode cX10_readText 46 = .ok (.aload_n 0, 1) := by decide +kernel
theorem dX10_readText_47 : decode cX10_readText 47 = .ok (.getfield 105, 3) := by decide +kernel
theorem dX10_readText_50 : decode cX10_readText 50 = .ok (.bipush (-9), 2) := by decide +kernel
theorem dX10_readText_52 : decode cX10_readText 52 = .ok (.if_icmp .ne 30, 3) := by decide +kernel
theorem dX10_readText_55 : decode cX10_readText 55 = .ok (.aload_n 0, 1) := by decide +kernel
theorem dX10_readText_56 : decode cX10_readText 56 = .ok (.getfield 108, 3) := by decide +kernel
theorem dX10_readText_59 : decode cX10_readText 59 = .ok (.aload_n 0, 1) := by decide +kernel
theorem dX10_readText_60 : decode cX10_readText 60 = .ok (.getfield 101, 3) := by decide +kernel
theorem dX10_readText_63 : decode cX10_readText 63 = .ok (.if_icmp .ge 19, 3) := by decide +kernel
theorem dX10_readText_66 : decode cX10_readText 66 = .ok (.aload_n 0, 1) := by decide +kernel
theorem dX10_readText_67 : decode cX10_readText 67 = .ok (.aload_n 0, 1) := by decide +kernel
theorem dX10_readText_68 : decode cX10_readText 68 = .ok (.getfield 28, 3) := by decide +kernel
theorem dX10_readText_71 : decode cX10_readText 71 = .ok (.aload_n 0, 1) := by decide +kernel
theorem dX10_readText_72 : decode cX10_readText 72 = .ok (.getfield 108, 3) := by decide +kernel
theorem dX10_readText_75 : decode cX10_readText 75 = .ok (.iaload, 1) := by decide +kernel
theorem dX10_readText_76 : decode cX10_readText 76 = .ok (.invokevirtual 117, 3) := by decide +kernel
theorem dX10_readText_79 : decode cX10_readText 79 = .ok (.goto (-33), 3) := by decide +kernel
theorem dX10_readText_82 : decode cX10_readText 82 = .ok (.aload_n 0, 1) := by decide +kernel
theorem dX10_readText_83 : decode cX10_readText 83 = .ok (.getfield 105, 3) := by decide +kernel
theorem dX10_readText_86 : decode cX10_readText 86 = .ok (.ireturn, 1) := by decide +kernel
theorem dX10_readPart_0 : decode cX10_readPart 0 = .ok (.bipush 6, 2) := by decide +kernel
theorem dX10_readPart_2 : decode cX10_readPart 2 = .ok (.aload_n 0, 1) := by decide +kernel
theorem dX10_readPart_3 : decode cX10_readPart 3 = .ok (.getfield 114, 3) := by decide +kernel
theorem dX10_readPart_6 : decode cX10_readPart 6 = .ok (.imul, 1) := by decide +kernel
theorem dX10_readPart_7 : decode cX10_readPart 7 = .ok (.istore_n 2, 1) := by decide +kernel
theorem dX10_readPart_8 : decode cX10_readPart 8 = .ok (.iload_n 1, 1) := by decide +kernel
theorem dX10_readPart_9 : decode cX10_readPart 9 = .ok (.bipush 66, 2) := by decide +kernel
theorem dX10_readPart_11 : decode cX10_readPart 11 = .ok (.if_icmp .ne 70, 3) := by decide +kernel
theorem dX10_readPart_14 : decode cX10_readPart 14 = .ok (.aload_n 0, 1) := by decide +kernel
theorem dX10_readPart_15 : decode cX10_readPart 15 = .ok (.getfield 111, 3) := by decide +kernel
theorem dX10_readPart_18 : decode cX10_readPart 18 = .ok (.iconst 3, 1) := by decide +kernel
theorem dX10_readPart_19 : decode cX10_readPart 19 = .ok (.if_icmp .ge 62, 3) := by decide +kernel
theorem dX10_readPart_22 : decode cX10_readPart 22 = .ok (.aload_n 0, 1) := by decide +kernel
theorem dX10_readPart_23 : decode cX10_readPart 23 = .ok (.dup, 1) := by decide +kernel
theorem dX10_readPart_24 : decode cX10_readPart 24 = .ok (.getfield 108, 3) := by decide +kernel
theorem dX10_readPart_27 : decode cX10_readPart 27 = .ok (.iconst 1, 1) := by decide +kernel
theorem dX10_readPart_28 : decode cX10_readPart 28 = .ok (.iadd, 1) := by decide +kernel
theorem dX10_readPart_29 : decode cX10_readPart 29 = .ok (.putfield 108, 3) := by decide +kernel
theorem dX10_readPart_32 : decode cX10_readPart 32 = .ok (.aload_n 0, 1) := by decide +kernel
theorem dX10_readPart_33 : decode cX10_readPart 33 = .ok (.getfield 19, 3) := by decide +kernel
theorem dX10_readPart_36 : decode cX10_readPart 36 = .ok (.iconst 2, 1) := by decide +kernel
theorem dX10_readPart_37 : decode cX10_readPart 37 = .ok (.aload_n 0, 1) := by decide +kernel
theorem dX10_readPart_38 : decode cX10_readPart 38 = .ok (.getfield 111, 3) := by decide +kernel
theorem dX10_readPart_41 : decode cX10_readPart 41 = .ok (.imul, 1) := by decide +kernel
theorem dX10_readPart_42 : decode cX10_readPart 42 = .ok (.aload_n 0, 1) := by decide +kernel
theorem dX10_readPart_43 : decode cX10_readPart 43 = .ok (.iconst 1, 1) := by decide +kernel
theorem dX10_readPart_44 : decode cX10_readPart 44 = .ok (.iconst 3, 1) := by decide +kernel
theorem dX10_readPart_45 : decode cX10_readPart 45 = .ok (.invokevirtual 121, 3) := by decide +kernel
theorem dX10_readPart_48 : decode cX10_readPart 48 = .ok (.iastore, 1) := by decide +kernel
theorem dX10_readPart_49 : decode cX10_readPart 49 = .ok (.aload_n 0, 1) := by decide +kernel
theorem dX10_readPart_50 : decode cX10_readPart 50 = .ok (.getfield 19, 3) := by decide +kernel
theorem dX10_readPart_53 : decode cX10_readPart 53 = .ok (.iconst 2, 1) := by decide +kernel
theorem dX10_readPart_54 : decode cX10_readPart 54 = .ok (.aload_n 0, 1) := by decide +kernel
theorem dX10_readPart_55 : decode cX10_readPart 55 = .ok (.getfield 111, 3) := by decide +kernel
theorem dX10_readPart_58 : decode cX10_readPart 58 = .ok (.imul, 1) := by decide +kernel
theorem dX10_readPart_59 : decode cX10_readPart 59 = .ok (.iconst 1, 1) := by decide +kernel
theorem dX10_readPart_60 : decode cX10_readPart 60 = .ok (.iadd, 1) := by decide +kernel
theorem dX10_readPart_61 : decode cX10_readPart 61 = .ok (.aload_n 0, 1) := by decide +kernel
theorem dX10_readPart_62 : decode cX10_readPart 62 = .ok (.iconst 0, 1) := by decide +kernel
theorem dX10_readPart_63 : decode cX10_readPart 63 = .ok (.iconst 2, 1) := by decide +kernel
theorem dX10_readPart_64 : decode cX10_readPart 64 = .ok (.invokevirtual 121, 3) := by decide +kernel
theorem dX10_readPart_67 : decode cX10_readPart 67 = .ok (.iastore, 1) := by decide +kernel
theorem dX10_readPart_68 : decode cX10_readPart 68 = .ok (.aload_n 0, 1) := by decide +kernel
theorem dX10_readPart_69 : decode cX10_readPart 69 = .ok (.dup, 1) := by decide +kernel
theorem dX10_readPart_70 : decode cX10_readPart 70 = .ok (.getfield 111, 3) := by decide +kernel
theorem dX10_readPart_73 : decode cX10_readPart 73 = .ok (.iconst 1, 1) := by decide +kernel
theorem dX10_readPart_74 : decode cX10_readPart 74 = .ok (.iadd, 1) := by decide +kernel
theorem dX10_readPart_75 : decode cX10_readPart 75 = .ok (.putfield 111, 3) := by decide +kernel
theorem dX10_readPart_78 : decode cX10_readPart 78 = .ok (.goto 153, 3) := by decide +kernel
theorem dX10_readPart_81 : decode cX10_readPart 81 = .ok (.iload_n 1, 1) := by decide +kernel
theorem dX10_readPart_82 : decode cX10_readPart 82 = .ok (.bipush 80, 2) := by decide +kernel
theorem dX10_readPart_84 : decode cX10_readPart 84 = .ok (.if_icmp .ne 81, 3) := by decide +kernel
theorem dX10_readPart_87 : decode cX10_readPart 87 = .ok (.aload_n 0, 1) := by decide +kernel
theorem dX10_readPart_88 : decode cX10_readPart 88 = .ok (.getfield 114, 3) := by decide +kernel
theorem dX10_readPart_91 : decode cX10_readPart 91 = .ok (.iconst 5, 1) := by decide +kernel
theorem dX10_readPart_92 : decode cX10_readPart 92 = .ok (.if_icmp .ge 73, 3) := by decide +kernel
theorem dX10_readPart_95 : decode cX10_readPart 95 = .ok (.aload_n 0, 1) := by decide +kernel
theorem dX10_readPart_96 : decode cX10_readPart 96 = .ok (.getfield 111, 3) := by decide +kernel
theorem dX10_readPart_99 : decode cX10_readPart 99 = .ok (.ifCond .le 66, 3) := by decide +kernel
theorem dX10_readPart_102 : decode cX10_readPart 102 = .ok (.aload_n 0, 1) := by decide +kernel
theorem dX10_readPart_103 : decode cX10_readPart 103 = .ok (.dup, 1) := by decide +kernel
theorem dX10_readPart_104 : decode cX10_readPart 104 = .ok (.getfield 108, 3) := by decide +kernel
theorem dX10_readPart_107 : decode cX10_readPart 107 = .ok (.iconst 1, 1) := by decide +kernel
theorem dX10_readPart_108 : decode cX10_readPart 108 = .ok (.iadd, 1) := by decide +kernel
theorem dX10_readPart_109 : decode cX10_readPart 109 = .ok (.putfield 108, 3) := by decide +kernel
theorem dX10_readPart_112 : decode cX10_readPart 112 = .ok (.aload_n 0, 1) := by decide +kernel
theorem dX10_readPart_113 : decode cX10_readPart 113 = .ok (.getfield 22, 3) := by decide +kernel
theorem dX10_readPart_116 : decode cX10_readPart 116 = .ok (.iload_n 2, 1) := by decide +kernel
theorem dX10_readPart_117 : decode cX10_readPart 117 = .ok (.aload_n 0, 1) := by decide +kernel
theorem dX10_readPart_118 : decode cX10_readPart 118 = .ok (.iconst 0, 1) := by decide +kernel
theorem dX10_readPart_119 : decode cX10_readPart 119 = .ok (.aload_n 0, 1) := by decide +kernel
theorem dX10_readPart_120 : decode cX10_readPart 120 = .ok (.getfield 111, 3) := by decide +kernel
theorem dX10_readPart_123 : decode cX10_readPart 123 = .ok (.iconst 1, 1) := by decide +kernel
theorem dX10_readPart_124 : decode cX10_readPart 124 = .ok (.isub, 1) := by decide +kernel
theorem dX10_readPart_125 : decode cX10_readPart 125 = .ok (.invokevirtual 121, 3) := by decide +kernel
theorem dX10_readPart_128 : decode cX10_readPart 128 = .ok (.iastore, 1) := by decide +kernel
theorem dX10_readPart_129 : decode cX10_readPart 129 = .ok (.aload_n 0, 1) := by decide +kernel
theorem dX10_readPart_130 : decode cX10_readPart 130 = .ok (.getfield 22, 3) := by decide +kernel
theorem dX10_readPart_133 : decode cX10_readPart 133 = .ok (.iload_n 2, 1) := by decide +kernel
theorem dX10_readPart_134 : decode cX10_readPart 134 = .ok (.iconst 1, 1) := by decide +kernel
theorem dX10_readPart_135 : decode cX10_readPart 135 = .ok (.iadd, 1) := by decide +kernel
theorem dX10_readPart_136 : decode cX10_readPart 136 = .ok (.aload_n 0, 1) := by decide +kernel
theorem dX10_readPart_137 : decode cX10_readPart 137 = .ok (.iconst 1, 1) := by decide +kernel
theorem dX10_readPart_138 : decode cX10_readPart 138 = .ok (.iconst 3, 1) := by decide +kernel
theorem dX10_readPart_139 : decode cX10_readPart 139 = .ok (.invokevirtual 121, 3) := by decide +kernel
theorem dX10_readPart_142 : decode cX10_readPart 142 = .ok (.iastore, 1) := by decide +kernel
theorem dX10_readPart_143 : decode cX10_readPart 143 = .ok (.aload_n 0, 1) := by decide +kernel
theorem dX10_readPart_144 : decode cX10_readPart 144 = .ok (.getfield 22, 3) := by decide +kernel
theorem dX10_readPart_147 : decode cX10_readPart 147 = .ok (.iload_n 2, 1) := by decide +kernel
theorem dX10_readPart_148 : decode cX10_readPart 148 = .ok (.iconst 2, 1) := by decide +kernel
theorem dX10_readPart_149 : decode cX10_readPart 149 = .ok (.iadd, 1) := by decide +kernel
theorem dX10_readPart_150 : decode cX10_readPart 150 = .ok (.aload_n 0, 1) := by decide +kernel
theorem dX10_readPart_151 : decode cX10_readPart 151 = .ok (.iconst 0, 1) := by decide +kernel
theorem dX10_readPart_152 : decode cX10_readPart 152 = .ok (.iconst 3, 1) := by decide +kernel
theorem dX10_readPart_153 : decode cX10_readPart 153 = .ok (.invokevirtual 121, 3) := by decide +kernel
theorem dX10_readPart_156 : decode cX10_readPart 156 = .ok (.iastore, 1) := by decide +kernel
theorem dX10_readPart_157 : decode cX10_readPart 157 = .ok (.aload_n 0, 1) := by decide +kernel
theorem dX10_readPart_158 : decode cX10_readPart 158 = .ok (.iload_n 2, 1) := by decide +kernel
theorem dX10_readPart_159 : decode cX10_readPart 159 = .ok (.invokevirtual 125, 3) := by decide +kernel
theorem dX10_readPart_162 : decode cX10_readPart 162 = .ok (.goto 69, 3) := by decide +kernel
theorem dX10_readPart_165 : decode cX10_readPart 165 = .ok (.iload_n 1, 1) := by decide +kernel
theorem dX10_readPart_166 : decode cX10_readPart 166 = .ok (.bipush 81, 2) := by decide +kernel
theorem dX10_readPart_168 : decode cX10_readPart 168 = .ok (.if_icmp .ne 55, 3) := by decide +kernel
theorem dX10_readPart_171 : decode cX10_readPart 171 = .ok (.aload_n 0, 1) := by decide +kernel
theorem dX10_readPart_172 : decode cX10_readPart 172 = .ok (.getfield 114, 3) := by decide +kernel
theorem dX10_readPart_175 : decode cX10_readPart 175 = .ok (.iconst 5, 1) := by decide +kernel
theorem dX10_readPart_176 : decode cX10_readPart 176 = .ok (.if_icmp .ge 47, 3) := by decide +kernel
theorem dX10_readPart_179 : decode cX10_readPart 179 = .ok (.aload_n 0, 1) := by decide +kernel
theorem dX10_readPart_180 : decode cX10_readPart 180 = .ok (.dup, 1) := by decide +kernel
theorem dX10_readPart_181 : decode cX10_readPart 181 = .ok (.getfield 108, 3) := by decide +kernel
theorem dX10_readPart_184 : decode cX10_readPart 184 = .ok (.iconst 1, 1) := by decide +kernel
theorem dX10_readPart_185 : decode cX10_readPart 185 = .ok (.iadd, 1) := by decide +kernel
theorem dX10_readPart_186 : decode cX10_readPart 186 = .ok (.putfield 108, 3) := by decide +kernel
theorem dX10_readPart_189 : decode cX10_readPart 189 = .ok (.aload_n 0, 1) := by decide +kernel
theorem dX10_readPart_190 : decode cX10_readPart 190 = .ok (.getfield 22, 3) := by decide +kernel
theorem dX10_readPart_193 : decode cX10_readPart 193 = .ok (.iload_n 2, 1) := by decide +kernel
theorem dX10_readPart_194 : decode cX10_readPart 194 = .ok (.bipush (-9), 2) := by decide +kernel
theorem dX10_readPart_196 : decode cX10_readPart 196 = .ok (.iastore, 1) := by decide +kernel
theorem dX10_readPart_197 : decode cX10_readPart 197 = .ok (.aload_n 0, 1) := by decide +kernel
theorem dX10_readPart_198 : decode cX10_readPart 198 = .ok (.getfield 22, 3) := by decide +kernel
theorem dX10_readPart_201 : decode cX10_readPart 201 = .ok (.iload_n 2, 1) := by decide +kernel
theorem dX10_readPart_202 : decode cX10_readPart 202 = .ok (.iconst 1, 1) := by decide +kernel
theorem dX10_readPart_203 : decode cX10_readPart 203 = .ok (.iadd, 1) := by decide +kernel
theorem dX10_readPart_204 : decode cX10_readPart 204 = .ok (.iconst 0, 1) := by decide +kernel
theorem dX10_readPart_205 : decode cX10_readPart 205 = .ok (.iastore, 1) := by decide +kernel
theorem dX10_readPart_206 : decode cX10_readPart 206 = .ok (.aload_n 0, 1) := by decide +kernel
theorem dX10_readPart_207 : decode cX10_readPart 207 = .ok (.getfield 22, 3) := by decide +kernel
theorem dX10_readPart_210 : decode cX10_readPart 210 = .ok (.iload_n 2, 1) := by decide +kernel
theorem dX10_readPart_211 : decode cX10_readPart 211 = .ok (.iconst 2, 1) := by decide +kernel
theorem dX10_readPart_212 : decode cX10_readPart 212 = .ok (.iadd, 1) := by decide +kernel
theorem dX10_readPart_213 : decode cX10_readPart 213 = .ok (.iconst 0, 1) := by decide +kernel
theorem dX10_readPart_214 : decode cX10_readPart 214 = .ok (.iastore, 1) := by decide +kernel
theorem dX10_readPart_215 : decode cX10_readPart 215 = .ok (.aload_n 0, 1) := by decide +kernel
theorem dX10_readPart_216 : decode cX10_readPart 216 = .ok (.iload_n 2, 1) := by decide +kernel
theorem dX10_readPart_217 : decode cX10_readPart 217 = .ok (.invokevirtual 125, 3) := by decide +kernel
theorem dX10_readPart_220 : decode cX10_readPart 220 = .ok (.goto 11, 3) := by decide +kernel
theorem dX10_readPart_223 : decode cX10_readPart 223 = .ok (.aload_n 0, 1) := by decide +kernel
theorem dX10_readPart_224 : decode cX10_readPart 224 = .ok (.aload_n 0, 1) := by decide +kernel
theorem dX10_readPart_225 : decode cX10_readPart 225 = .ok (.getfield 108, 3) := by decide +kernel
theorem dX10_readPart_228 : decode cX10_readPart 228 = .ok (.putfield 105, 3) := by decide +kernel
theorem dX10_readPart_231 : decode cX10_readPart 231 = .ok (.return_, 1) := by decide +kernel
theorem dX10_readSpan_0 : decode cX10_readSpan 0 = .ok (.aload_n 0, 1) := by decide +kernel
theorem dX10_readSpan_1 : decode cX10_readSpan 1 = .ok (.getfield 22, 3) := by decide +kernel
theorem dX10_readSpan_4 : decode cX10_readSpan 4 = .ok (.iload_n 1, 1) := by decide +kernel
theorem dX10_readSpan_5 : decode cX10_readSpan 5 = .ok (.iconst 3, 1) := by decide +kernel
theorem dX10_readSpan_6 : decode cX10_readSpan 6 = .ok (.iadd, 1) := by decide +kernel
theorem dX10_readSpan_7 : decode cX10_readSpan 7 = .ok (.aload_n 0, 1) := by decide +kernel
theorem dX10_readSpan_8 : decode cX10_readSpan 8 = .ok (.iconst 0, 1) := by decide +kernel
theorem dX10_readSpan_9 : decode cX10_readSpan 9 = .ok (.bipush 9, 2) := by decide +kernel
theorem dX10_readSpan_11 : decode cX10_readSpan 11 = .ok (.invokevirtual 121, 3) := by decide +kernel
theorem dX10_readSpan_14 : decode cX10_readSpan 14 = .ok (.iastore, 1) := by decide +kernel
theorem dX10_readSpan_15 : decode cX10_readSpan 15 = .ok (.aload_n 0, 1) := by decide +kernel
theorem dX10_readSpan_16 : decode cX10_readSpan 16 = .ok (.getfield 22, 3) := by decide +kernel
theorem dX10_readSpan_19 : decode cX10_readSpan 19 = .ok (.iload_n 1, 1) := by decide +kernel
theorem dX10_readSpan_20 : decode cX10_readSpan 20 = .ok (.iconst 4, 1) := by decide +kernel
theorem dX10_readSpan_21 : decode cX10_readSpan 21 = .ok (.iadd, 1) := by decide +kernel
theorem dX10_readSpan_22 : decode cX10_readSpan 22 = .ok (.aload_n 0, 1) := by decide +kernel
theorem dX10_readSpan_23 : decode cX10_readSpan 23 = .ok (.aload_n 0, 1) := by decide +kernel
theorem dX10_readSpan_24 : decode cX10_readSpan 24 = .ok (.getfield 22, 3) := by decide +kernel
theorem dX10_readSpan_27 : decode cX10_readSpan 27 = .ok (.iload_n 1, 1) := by decide +kernel
theorem dX10_readSpan_28 : decode cX10_readSpan 28 = .ok (.iconst 3, 1) := by decide +kernel
theorem dX10_readSpan_29 : decode cX10_readSpan 29 = .ok (.iadd, 1) := by decide +kernel
theorem dX10_readSpan_30 : decode cX10_readSpan 30 = .ok (.iaload, 1) := by decide +kernel
theorem dX10_readSpan_31 : decode cX10_readSpan 31 = .ok (.bipush 9, 2) := by decide +kernel
theorem dX10_readSpan_33 : decode cX10_readSpan 33 = .ok (.invokevirtual 121, 3) := by decide +kernel
theorem dX10_readSpan_36 : decode cX10_readSpan 36 = .ok (.iastore, 1) := by decide +kernel
theorem dX10_readSpan_37 : decode cX10_readSpan 37 = .ok (.aload_n 0, 1) := by decide +kernel
theorem dX10_readSpan_38 : decode cX10_readSpan 38 = .ok (.getfield 22, 3) := by decide +kernel
theorem dX10_readSpan_41 : decode cX10_readSpan 41 = .ok (.iload_n 1, 1) := by decide +kernel
theorem dX10_readSpan_42 : decode cX10_readSpan 42 = .ok (.iconst 5, 1) := by decide +kernel
theorem dX10_readSpan_43 : decode cX10_readSpan 43 = .ok (.iadd, 1) := by decide +kernel
theorem dX10_readSpan_44 : decode cX10_readSpan 44 = .ok (.aload_n 0, 1) := by decide +kernel
theorem dX10_readSpan_45 : decode cX10_readSpan 45 = .ok (.iconst 1, 1) := by decide +kernel
theorem dX10_readSpan_46 : decode cX10_readSpan 46 = .ok (.bipush 9, 2) := by decide +kernel
theorem dX10_readSpan_48 : decode cX10_readSpan 48 = .ok (.invokevirtual 121, 3) := by decide +kernel
theorem dX10_readSpan_51 : decode cX10_readSpan 51 = .ok (.iastore, 1) := by decide +kernel
theorem dX10_readSpan_52 : decode cX10_readSpan 52 = .ok (.aload_n 0, 1) := by decide +kernel
theorem dX10_readSpan_53 : decode cX10_readSpan 53 = .ok (.dup, 1) := by decide +kernel
theorem dX10_readSpan_54 : decode cX10_readSpan 54 = .ok (.getfield 114, 3) := by decide +kernel
theorem dX10_readSpan_57 : decode cX10_readSpan 57 = .ok (.iconst 1, 1) := by decide +kernel
theorem dX10_readSpan_58 : decode cX10_readSpan 58 = .ok (.iadd, 1) := by decide +kernel
theorem dX10_readSpan_59 : decode cX10_readSpan 59 = .ok (.putfield 114, 3) := by decide +kernel
theorem dX10_readSpan_62 : decode cX10_readSpan 62 = .ok (.return_, 1) := by decide +kernel
theorem dX10_fault_0 : decode cX10_fault 0 = .ok (.aload_n 0, 1) := by decide +kernel
theorem dX10_fault_1 : decode cX10_fault 1 = .ok (.invokevirtual 128, 3) := by decide +kernel
theorem dX10_fault_4 : decode cX10_fault 4 = .ok (.ireturn, 1) := by decide +kernel
theorem dX10_tower_0 : decode cX10_tower 0 = .ok (.aload_n 0, 1) := by decide +kernel
theorem dX10_tower_1 : decode cX10_tower 1 = .ok (.invokevirtual 128, 3) := by decide +kernel
theorem dX10_tower_4 : decode cX10_tower 4 = .ok (.bipush (-9), 2) := by decide +kernel
theorem dX10_tower_6 : decode cX10_tower 6 = .ok (.if_icmp .eq 6, 3) := by decide +kernel
theorem dX10_tower_9 : decode cX10_tower 9 = .ok (.bipush (-3), 2) := by decide +kernel
theorem dX10_tower_11 : decode cX10_tower 11 = .ok (.ireturn, 1) := by decide +kernel
theorem dX10_tower_12 : decode cX10_tower 12 = .ok (.aload_n 0, 1) := by decide +kernel
theorem dX10_tower_13 : decode cX10_tower 13 = .ok (.aload_n 0, 1) := by decide +kernel
theorem dX10_tower_14 : decode cX10_tower 14 = .ok (.getfield 111, 3) := by decide +kernel
theorem dX10_tower_17 : decode cX10_tower 17 = .ok (.putfield 132, 3) := by decide +kernel
theorem dX10_tower_20 : decode cX10_tower 20 = .ok (.aload_n 0, 1) := by decide +kernel
theorem dX10_tower_21 : decode cX10_tower 21 = .ok (.aload_n 0, 1) := by decide +kernel
theorem dX10_tower_22 : decode cX10_tower 22 = .ok (.getfield 114, 3) := by decide +kernel
theorem dX10_tower_25 : decode cX10_tower 25 = .ok (.putfield 135, 3) := by decide +kernel
theorem dX10_tower_28 : decode cX10_tower 28 = .ok (.iconst 0, 1) := by decide +kernel
theorem dX10_tower_29 : decode cX10_tower 29 = .ok (.istore_n 1, 1) := by decide +kernel
theorem dX10_tower_30 : decode cX10_tower 30 = .ok (.iload_n 1, 1) := by decide +kernel
theorem dX10_tower_31 : decode cX10_tower 31 = .ok (.iconst 3, 1) := by decide +kernel
theorem dX10_tower_32 : decode cX10_tower 32 = .ok (.if_icmp .ge 39, 3) := by decide +kernel
theorem dX10_tower_35 : decode cX10_tower 35 = .ok (.aload_n 0, 1) := by decide +kernel
theorem dX10_tower_36 : decode cX10_tower 36 = .ok (.getfield 7, 3) := by decide +kernel
theorem dX10_tower_39 : decode cX10_tower 39 = .ok (.iload_n 1, 1) := by decide +kernel
theorem dX10_tower_40 : decode cX10_tower 40 = .ok (.aload_n 0, 1) := by decide +kernel
theorem dX10_tower_41 : decode cX10_tower 41 = .ok (.getfield 19, 3) := by decide +kernel
theorem dX10_tower_44 : decode cX10_tower 44 = .ok (.iconst 2, 1) := by decide +kernel
theorem dX10_tower_45 : decode cX10_tower 45 = .ok (.iload_n 1, 1) := by decide +kernel
theorem dX10_tower_46 : decode cX10_tower 46 = .ok (.imul, 1) := by decide +kernel
theorem dX10_tower_47 : decode cX10_tower 47 = .ok (.iaload, 1) := by decide +kernel
theorem dX10_tower_48 : decode cX10_tower 48 = .ok (.iastore, 1) := by decide +kernel
theorem dX10_tower_49 : decode cX10_tower 49 = .ok (.aload_n 0, 1) := by decide +kernel
theorem dX10_tower_50 : decode cX10_tower 50 = .ok (.getfield 13, 3) := by decide +kernel
theorem dX10_tower_53 : decode cX10_tower 53 = .ok (.iload_n 1, 1) := by decide +kernel
theorem dX10_tower_54 : decode cX10_tower 54 = .ok (.aload_n 0, 1) := by decide +kernel
theorem dX10_tower_55 : decode cX10_tower 55 = .ok (.getfield 19, 3) := by decide +kernel
theorem dX10_tower_58 : decode cX10_tower 58 = .ok (.iconst 2, 1) := by decide +kernel
theorem dX10_tower_59 : decode cX10_tower 59 = .ok (.iload_n 1, 1) := by decide +kernel
theorem dX10_tower_60 : decode cX10_tower 60 = .ok (.imul, 1) := by decide +kernel
theorem dX10_tower_61 : decode cX10_tower 61 = .ok (.iconst 1, 1) := by decide +kernel
theorem dX10_tower_62 : decode cX10_tower 62 = .ok (.iadd, 1) := by decide +kernel
theorem dX10_tower_63 : decode cX10_tower 63 = .ok (.iaload, 1) := by decide +kernel
theorem dX10_tower_64 : decode cX10_tower 64 = .ok (.iastore, 1) := by decide +kernel
theorem dX10_tower_65 : decode cX10_tower 65 = .ok (.iinc 1 1, 3) := by decide +kernel
theorem dX10_tower_68 : decode cX10_tower 68 = .ok (.goto (-38), 3) := by decide +kernel
theorem dX10_tower_71 : decode cX10_tower 71 = .ok (.iconst 0, 1) := by decide +kernel
theorem dX10_tower_72 : decode cX10_tower 72 = .ok (.istore_n 1, 1) := by decide +kernel
theorem dX10_tower_73 : decode cX10_tower 73 = .ok (.iload_n 1, 1) := by decide +kernel
theorem dX10_tower_74 : decode cX10_tower 74 = .ok (.bipush 30, 2) := by decide +kernel
theorem dX10_tower_76 : decode cX10_tower 76 = .ok (.if_icmp .ge 21, 3) := by decide +kernel
theorem dX10_tower_79 : decode cX10_tower 79 = .ok (.aload_n 0, 1) := by decide +kernel
theorem dX10_tower_80 : decode cX10_tower 80 = .ok (.getfield 16, 3) := by decide +kernel
theorem dX10_tower_83 : decode cX10_tower 83 = .ok (.iload_n 1, 1) := by decide +kernel
theorem dX10_tower_84 : decode cX10_tower 84 = .ok (.aload_n 0, 1) := by decide +kernel
theorem dX10_tower_85 : decode cX10_tower 85 = .ok (.getfield 22, 3) := by decide +kernel
theorem dX10_tower_88 : decode cX10_tower 88 = .ok (.iload_n 1, 1) := by decide +kernel
theorem dX10_tower_89 : decode cX10_tower 89 = .ok (.iaload, 1) := by decide +kernel
theorem dX10_tower_90 : decode cX10_tower 90 = .ok (.iastore, 1) := by decide +kernel
theorem dX10_tower_91 : decode cX10_tower 91 = .ok (.iinc 1 1, 3) := by decide +kernel
theorem dX10_tower_94 : decode cX10_tower 94 = .ok (.goto (-21), 3) := by decide +kernel
theorem dX10_tower_97 : decode cX10_tower 97 = .ok (.iconst 0, 1) := by decide +kernel
theorem dX10_tower_98 : decode cX10_tower 98 = .ok (.istore_n 1, 1) := by decide +kernel
theorem dX10_tower_99 : decode cX10_tower 99 = .ok (.iload_n 1, 1) := by decide +kernel
theorem dX10_tower_100 : decode cX10_tower 100 = .ok (.iconst 5, 1) := by decide +kernel
theorem dX10_tower_101 : decode cX10_tower 101 = .ok (.if_icmp .ge 17, 3) := by decide +kernel
theorem dX10_tower_104 : decode cX10_tower 104 = .ok (.aload_n 0, 1) := by decide +kernel
theorem dX10_tower_105 : decode cX10_tower 105 = .ok (.getfield 25, 3) := by decide +kernel
theorem dX10_tower_108 : decode cX10_tower 108 = .ok (.iload_n 1, 1) := by decide +kernel
theorem dX10_tower_109 : decode cX10_tower 109 = .ok (.bipush (-9), 2) := by decide +kernel
theorem dX10_tower_111 : decode cX10_tower 111 = .ok (.iastore, 1) := by decide +kernel
theorem dX10_tower_112 : decode cX10_tower 112 = .ok (.iinc 1 1, 3) := by decide +kernel
theorem dX10_tower_115 : decode cX10_tower 115 = .ok (.goto (-16), 3) := by decide +kernel
theorem dX10_tower_118 : decode cX10_tower 118 = .ok (.aload_n 0, 1) := by decide +kernel
theorem dX10_tower_119 : decode cX10_tower 119 = .ok (.iconst 0, 1) := by decide +kernel
theorem dX10_tower_120 : decode cX10_tower 120 = .ok (.putfield 138, 3) := by decide +kernel
theorem dX10_tower_123 : decode cX10_tower 123 = .ok (.aload_n 0, 1) := by decide +kernel
theorem dX10_tower_124 : decode cX10_tower 124 = .ok (.getfield 89, 3) := by decide +kernel
theorem dX10_tower_127 : decode cX10_tower 127 = .ok (.iconst 0, 1) := by decide +kernel
theorem dX10_tower_128 : decode cX10_tower 128 = .ok (.iconst 0, 1) := by decide +kernel
theorem dX10_tower_129 : decode cX10_tower 129 = .ok (.bastore, 1) := by decide +kernel
theorem dX10_tower_130 : decode cX10_tower 130 = .ok (.aload_n 0, 1) := by decide +kernel
theorem dX10_tower_131 : decode cX10_tower 131 = .ok (.getfield 89, 3) := by decide +kernel
theorem dX10_tower_134 : decode cX10_tower 134 = .ok (.iconst 1, 1) := by decide +kernel
theorem dX10_tower_135 : decode cX10_tower 135 = .ok (.iconst 0, 1) := by decide +kernel
theorem dX10_tower_136 : decode cX10_tower 136 = .ok (.bastore, 1) := by decide +kernel
theorem dX10_tower_137 : decode cX10_tower 137 = .ok (.bipush 10, 2) := by decide +kernel
theorem dX10_tower_139 : decode cX10_tower 139 = .ok (.aload_n 0, 1) := by decide +kernel
theorem dX10_tower_140 : decode cX10_tower 140 = .ok (.getfield 132, 3) := by decide +kernel
theorem dX10_tower_143 : decode cX10_tower 143 = .ok (.imul, 1) := by decide +kernel
theorem dX10_tower_144 : decode cX10_tower 144 = .ok (.aload_n 0, 1) := by decide +kernel
theorem dX10_tower_145 : decode cX10_tower 145 = .ok (.getfield 135, 3) := by decide +kernel
theorem dX10_tower_148 : decode cX10_tower 148 = .ok (.iadd, 1) := by decide +kernel
theorem dX10_tower_149 : decode cX10_tower 149 = .ok (.ireturn, 1) := by decide +kernel
theorem dX10_isBell_0 : decode cX10_isBell 0 = .ok (.iload_n 1, 1) := by decide +kernel
theorem dX10_isBell_1 : decode cX10_isBell 1 = .ok (.i2l, 1) := by decide +kernel
theorem dX10_isBell_2 : decode cX10_isBell 2 = .ok (.lconst 0, 1) := by decide +kernel
theorem dX10_isBell_3 : decode cX10_isBell 3 = .ok (.aload_n 0, 1) := by decide +kernel
theorem dX10_isBell_4 : decode cX10_isBell 4 = .ok (.getfield 132, 3) := by decide +kernel
theorem dX10_isBell_7 : decode cX10_isBell 7 = .ok (.iconst 1, 1) := by decide +kernel
theorem dX10_isBell_8 : decode cX10_isBell 8 = .ok (.isub, 1) := by decide +kernel
theorem dX10_isBell_9 : decode cX10_isBell 9 = .ok (.i2l, 1) := by decide +kernel
theorem dX10_isBell_10 : decode cX10_isBell 10 = .ok (.invokestatic 97, 3) := by decide +kernel
theorem dX10_isBell_13 : decode cX10_isBell 13 = .ok (.ireturn, 1) := by decide +kernel
theorem dX10_isBidder_0 : decode cX10_isBidder 0 = .ok (.iload_n 1, 1) := by decide +kernel
theorem dX10_isBidder_1 : decode cX10_isBidder 1 = .ok (.i2l, 1) := by decide +kernel
theorem dX10_isBidder_2 : decode cX10_isBidder 2 = .ok (.lconst 0, 1) := by decide +kernel
theorem dX10_isBidder_3 : decode cX10_isBidder 3 = .ok (.aload_n 0, 1) := by decide +kernel
theorem dX10_isBidder_4 : decode cX10_isBidder 4 = .ok (.getfield 135, 3) := by decide +kernel
theorem dX10_isBidder_7 : decode cX10_isBidder 7 = .ok (.iconst 1, 1) := by decide +kernel
theorem dX10_isBidder_8 : decode cX10_isBidder 8 = .ok (.isub, 1) := by decide +kernel
theorem dX10_isBidder_9 : decode cX10_isBidder 9 = .ok (.i2l, 1) := by decide +kernel
theorem dX10_isBidder_10 : decode cX10_isBidder 10 = .ok (.invokestatic 97, 3) := by decide +kernel
theorem dX10_isBidder_13 : decode cX10_isBidder 13 = .ok (.ireturn, 1) := by decide +kernel
theorem dX10_isQuiet_0 : decode cX10_isQuiet 0 = .ok (.aload_n 0, 1) := by decide +kernel
theorem dX10_isQuiet_1 : decode cX10_isQuiet 1 = .ok (.getfield 16, 3) := by decide +kernel
theorem dX10_isQuiet_4 : decode cX10_isQuiet 4 = .ok (.bipush 6, 2) := by decide +kernel
theorem dX10_isQuiet_6 : decode cX10_isQuiet 6 = .ok (.iload_n 1, 1) := by decide +kernel
theorem dX10_isQuiet_7 : decode cX10_isQuiet 7 = .ok (.imul, 1) := by decide +kernel
theorem dX10_isQuiet_8 : decode cX10_isQuiet 8 = .ok (.iaload, 1) := by decide +kernel
theorem dX10_isQuiet_9 : decode cX10_isQuiet 9 = .ok (.bipush (-9), 2) := by decide +kernel
theorem dX10_isQuiet_11 : decode cX10_isQuiet 11 = .ok (.if_icmp .ne 7, 3) := by decide +kernel
theorem dX10_isQuiet_14 : decode cX10_isQuiet 14 = .ok (.iconst 1, 1) := by decide +kernel
theorem dX10_isQuiet_15 : decode cX10_isQuiet 15 = .ok (.goto 4, 3) := by decide +kernel
theorem dX10_isQuiet_18 : decode cX10_isQuiet 18 = .ok (.iconst 0, 1) := by decide +kernel
theorem dX10_isQuiet_19 : decode cX10_isQuiet 19 = .ok (.ireturn, 1) := by decide +kernel
theorem dX10_strokeAt_0 : decode cX10_strokeAt 0 = .ok (.iload_n 2, 1) := by decide +kernel
theorem dX10_strokeAt_1 : decode cX10_strokeAt 1 = .ok (.iload_n 3, 1) := by decide +kernel
theorem dX10_strokeAt_2 : decode cX10_strokeAt 2 = .ok (.aload_n 0, 1) := by decide +kernel
theorem dX10_strokeAt_3 : decode cX10_strokeAt 3 = .ok (.getfield 7, 3) := by decide +kernel
theorem dX10_strokeAt_6 : decode cX10_strokeAt 6 = .ok (.aload_n 0, 1) := by decide +kernel
theorem dX10_strokeAt_7 : decode cX10_strokeAt 7 = .ok (.getfield 16, 3) := by decide +kernel
theorem dX10_strokeAt_10 : decode cX10_strokeAt 10 = .ok (.bipush 6, 2) := by decide +kernel
theorem dX10_strokeAt_12 : decode cX10_strokeAt 12 = .ok (.iload_n 1, 1) := by decide +kernel
theorem dX10_strokeAt_13 : decode cX10_strokeAt 13 = .ok (.imul, 1) := by decide +kernel
theorem dX10_strokeAt_14 : decode cX10_strokeAt 14 = .ok (.iaload, 1) := by decide +kernel
theorem dX10_strokeAt_15 : decode cX10_strokeAt 15 = .ok (.iaload, 1) := by decide +kernel
theorem dX10_strokeAt_16 : decode cX10_strokeAt 16 = .ok (.aload_n 0, 1) := by decide +kernel
theorem dX10_strokeAt_17 : decode cX10_strokeAt 17 = .ok (.getfield 16, 3) := by decide +kernel
theorem dX10_strokeAt_20 : decode cX10_strokeAt 20 = .ok (.bipush 6, 2) := by decide +kernel
theorem dX10_strokeAt_22 : decode cX10_strokeAt 22 = .ok (.iload_n 1, 1) := by decide +kernel
theorem dX10_strokeAt_23 : decode cX10_strokeAt 23 = .ok (.imul, 1) := by decide +kernel
theorem dX10_strokeAt_24 : decode cX10_strokeAt 24 = .ok (.iconst 2, 1) := by decide +kernel
theorem dX10_strokeAt_25 : decode cX10_strokeAt 25 = .ok (.iadd, 1) := by decide +kernel
theorem dX10_strokeAt_26 : decode cX10_strokeAt 26 = .ok (.iaload, 1) := by decide +kernel
theorem dX10_strokeAt_27 : decode cX10_strokeAt 27 = .ok (.iadd, 1) := by decide +kernel
theorem dX10_strokeAt_28 : decode cX10_strokeAt 28 = .ok (.imul, 1) := by decide +kernel
theorem dX10_strokeAt_29 : decode cX10_strokeAt 29 = .ok (.iadd, 1) := by decide +kernel
theorem dX10_strokeAt_30 : decode cX10_strokeAt 30 = .ok (.ireturn, 1) := by decide +kernel
theorem dX10_mayBegin_0 : decode cX10_mayBegin 0 = .ok (.aload_n 0, 1) := by decide +kernel
theorem dX10_mayBegin_1 : decode cX10_mayBegin 1 = .ok (.iload_n 1, 1) := by decide +kernel
theorem dX10_mayBegin_2 : decode cX10_mayBegin 2 = .ok (.invokevirtual 141, 3) := by decide +kernel
theorem dX10_mayBegin_5 : decode cX10_mayBegin 5 = .ok (.ifCond .eq 24, 3) := by decide +kernel
theorem dX10_mayBegin_8 : decode cX10_mayBegin 8 = .ok (.iload_n 2, 1) := by decide +kernel
theorem dX10_mayBegin_9 : decode cX10_mayBegin 9 = .ok (.aload_n 0, 1) := by decide +kernel
theorem dX10_mayBegin_10 : decode cX10_mayBegin 10 = .ok (.getfield 16, 3) := by decide +kernel
theorem dX10_mayBegin_13 : decode cX10_mayBegin 13 = .ok (.bipush 6, 2) := by decide +kernel
theorem dX10_mayBegin_15 : decode cX10_mayBegin 15 = .ok (.iload_n 1, 1) := by decide +kernel
theorem dX10_mayBegin_16 : decode cX10_mayBegin 16 = .ok (.imul, 1) := by decide +kernel
theorem dX10_mayBegin_17 : decode cX10_mayBegin 17 = .ok (.iconst 3, 1) := by decide +kernel
theorem dX10_mayBegin_18 : decode cX10_mayBegin 18 = .ok (.iadd, 1) := by decide +kernel
theorem dX10_mayBegin_19 : decode cX10_mayBegin 19 = .ok (.iaload, 1) := by decide +kernel
theorem dX10_mayBegin_20 : decode cX10_mayBegin 20 = .ok (.if_icmp .ne 7, 3) := by decide +kernel
theorem dX10_mayBegin_23 : decode cX10_mayBegin 23 = .ok (.iconst 1, 1) := by decide +kernel
theorem dX10_mayBegin_24 : decode cX10_mayBegin 24 = .ok (.goto 4, 3) := by decide +kernel
theorem dX10_mayBegin_27 : decode cX10_mayBegin 27 = .ok (.iconst 0, 1) := by decide +kernel
theorem dX10_mayBegin_28 : decode cX10_mayBegin 28 = .ok (.ireturn, 1) := by decide +kernel
theorem dX10_mayBegin_29 : decode cX10_mayBegin 29 = .ok (.aload_n 0, 1) := by decide +kernel
theorem dX10_mayBegin_30 : decode cX10_mayBegin 30 = .ok (.getfield 16, 3) := by decide +kernel
theorem dX10_mayBegin_33 : decode cX10_mayBegin 33 = .ok (.bipush 6, 2) := by decide +kernel
theorem dX10_mayBegin_35 : decode cX10_mayBegin 35 = .ok (.iload_n 1, 1) := by decide +kernel
theorem dX10_mayBegin_36 : decode cX10_mayBegin 36 = .ok (.imul, 1) := by decide +kernel
theorem dX10_mayBegin_37 : decode cX10_mayBegin 37 = .ok (.iconst 1, 1) := by decide +kernel
theorem dX10_mayBegin_38 : decode cX10_mayBegin 38 = .ok (.iadd, 1) := by decide +kernel
theorem dX10_mayBegin_39 : decode cX10_mayBegin 39 = .ok (.iaload, 1) := by decide +kernel
theorem dX10_mayBegin_40 : decode cX10_mayBegin 40 = .ok (.istore_n 3, 1) := by decide +kernel
theorem dX10_mayBegin_41 : decode cX10_mayBegin 41 = .ok (.iload_n 3, 1) := by decide +kernel
theorem dX10_mayBegin_42 : decode cX10_mayBegin 42 = .ok (.iconst 1, 1) := by decide +kernel
theorem dX10_mayBegin_43 : decode cX10_mayBegin 43 = .ok (.if_icmp .le 35, 3) := by decide +kernel
theorem dX10_mayBegin_46 : decode cX10_mayBegin 46 = .ok (.aload_n 0, 1) := by decide +kernel
theorem dX10_mayBegin_47 : decode cX10_mayBegin 47 = .ok (.getfield 16, 3) := by decide +kernel
theorem dX10_mayBegin_50 : decode cX10_mayBegin 50 = .ok (.bipush 6, 2) := by decide +kernel
theorem dX10_mayBegin_52 : decode cX10_mayBegin 52 = .ok (.iload_n 1, 1) := by decide +kernel
theorem dX10_mayBegin_53 : decode cX10_mayBegin 53 = .ok (.imul, 1) := by decide +kernel
theorem dX10_mayBegin_54 : decode cX10_mayBegin 54 = .ok (.iconst 2, 1) := by decide +kernel
theorem dX10_mayBegin_55 : decode cX10_mayBegin 55 = .ok (.iadd, 1) := by decide +kernel
theorem dX10_mayBegin_56 : decode cX10_mayBegin 56 = .ok (.iaload, 1) := by decide +kernel
theorem dX10_mayBegin_57 : decode cX10_mayBegin 57 = .ok (.aload_n 0, 1) := by decide +kernel
theorem dX10_mayBegin_58 : decode cX10_mayBegin 58 = .ok (.getfield 13, 3) := by decide +kernel
theorem dX10_mayBegin_61 : decode cX10_mayBegin 61 = .ok (.aload_n 0, 1) := by decide +kernel
theorem dX10_mayBegin_62 : decode cX10_mayBegin 62 = .ok (.getfield 16, 3) := by decide +kernel
theorem dX10_mayBegin_65 : decode cX10_mayBegin 65 = .ok (.bipush 6, 2) := by decide +kernel
theorem dX10_mayBegin_67 : decode cX10_mayBegin 67 = .ok (.iload_n 1, 1) := by decide +kernel
theorem dX10_mayBegin_68 : decode cX10_mayBegin 68 = .ok (.imul, 1) := by decide +kernel
theorem dX10_mayBegin_69 : decode cX10_mayBegin 69 = .ok (.iaload, 1) := by decide +kernel
theorem dX10_mayBegin_70 : decode cX10_mayBegin 70 = .ok (.iaload, 1) := by decide +kernel
theorem dX10_mayBegin_71 : decode cX10_mayBegin 71 = .ok (.if_icmp .ge 7, 3) := by decide +kernel
theorem dX10_mayBegin_74 : decode cX10_mayBegin 74 = .ok (.iconst 1, 1) := by decide +kernel
theorem dX10_mayBegin_75 : decode cX10_mayBegin 75 = .ok (.goto 4, 3) := by decide +kernel
theorem dX10_mayBegin_78 : decode cX10_mayBegin 78 = .ok (.iconst 0, 1) := by decide +kernel
theorem dX10_mayBegin_79 : decode cX10_mayBegin 79 = .ok (.istore 4, 2) := by decide +kernel
theorem dX10_mayBegin_81 : decode cX10_mayBegin 81 = .ok (.iload 4, 2) := by decide +kernel
theorem dX10_mayBegin_83 : decode cX10_mayBegin 83 = .ok (.ifCond .ne 62, 3) := by decide +kernel
theorem dX10_mayBegin_86 : decode cX10_mayBegin 86 = .ok (.iload_n 2, 1) := by decide +kernel
theorem dX10_mayBegin_87 : decode cX10_mayBegin 87 = .ok (.aload_n 0, 1) := by decide +kernel
theorem dX10_mayBegin_88 : decode cX10_mayBegin 88 = .ok (.getfield 16, 3) := by decide +kernel
theorem dX10_mayBegin_91 : decode cX10_mayBegin 91 = .ok (.bipush 6, 2) := by decide +kernel
theorem dX10_mayBegin_93 : decode cX10_mayBegin 93 = .ok (.iload_n 1, 1) := by decide +kernel
theorem dX10_mayBegin_94 : decode cX10_mayBegin 94 = .ok (.imul, 1) := by decide +kernel
theorem dX10_mayBegin_95 : decode cX10_mayBegin 95 = .ok (.iconst 3, 1) := by decide +kernel
theorem dX10_mayBegin_96 : decode cX10_mayBegin 96 = .ok (.iadd, 1) := by decide +kernel
theorem dX10_mayBegin_97 : decode cX10_mayBegin 97 = .ok (.iaload, 1) := by decide +kernel
theorem dX10_mayBegin_98 : decode cX10_mayBegin 98 = .ok (.if_icmp .lt 47, 3) := by decide +kernel
theorem dX10_mayBegin_101 : decode cX10_mayBegin 101 = .ok (.aload_n 0, 1) := by decide +kernel
theorem dX10_mayBegin_102 : decode cX10_mayBegin 102 = .ok (.iload_n 1, 1) := by decide +kernel
theorem dX10_mayBegin_103 : decode cX10_mayBegin 103 = .ok (.iload_n 2, 1) := by decide +kernel
theorem dX10_mayBegin_104 : decode cX10_mayBegin 104 = .ok (.iload_n 3, 1) := by decide +kernel
theorem dX10_mayBegin_105 : decode cX10_mayBegin 105 = .ok (.iconst 1, 1) := by decide +kernel
theorem dX10_mayBegin_106 : decode cX10_mayBegin 106 = .ok (.isub, 1) := by decide +kernel
theorem dX10_mayBegin_107 : decode cX10_mayBegin 107 = .ok (.invokevirtual 145, 3) := by decide +kernel
theorem dX10_mayBegin_110 : decode cX10_mayBegin 110 = .ok (.aload_n 0, 1) := by decide +kernel
theorem dX10_mayBegin_111 : decode cX10_mayBegin 111 = .ok (.getfield 7, 3) := by decide +kernel
theorem dX10_mayBegin_114 : decode cX10_mayBegin 114 = .ok (.aload_n 0, 1) := by decide +kernel
theorem dX10_mayBegin_115 : decode cX10_mayBegin 115 = .ok (.getfield 16, 3) := by decide +kernel
theorem dX10_mayBegin_118 : decode cX10_mayBegin 118 = .ok (.bipush 6, 2) := by decide +kernel
theorem dX10_mayBegin_120 : decode cX10_mayBegin 120 = .ok (.iload_n 1, 1) := by decide +kernel
theorem dX10_mayBegin_121 : decode cX10_mayBegin 121 = .ok (.imul, 1) := by decide +kernel
theorem dX10_mayBegin_122 : decode cX10_mayBegin 122 = .ok (.iaload, 1) := by decide +kernel
theorem dX10_mayBegin_123 : decode cX10_mayBegin 123 = .ok (.iaload, 1) := by decide +kernel
theorem dX10_mayBegin_124 : decode cX10_mayBegin 124 = .ok (.iadd, 1) := by decide +kernel
theorem dX10_mayBegin_125 : decode cX10_mayBegin 125 = .ok (.iconst 1, 1) := by decide +kernel
theorem dX10_mayBegin_126 : decode cX10_mayBegin 126 = .ok (.isub, 1) := by decide +kernel
theorem dX10_mayBegin_127 : decode cX10_mayBegin 127 = .ok (.aload_n 0, 1) := by decide +kernel
theorem dX10_mayBegin_128 : decode cX10_mayBegin 128 = .ok (.getfield 16, 3) := by decide +kernel
theorem dX10_mayBegin_131 : decode cX10_mayBegin 131 = .ok (.bipush 6, 2) := by decide +kernel
theorem dX10_mayBegin_133 : decode cX10_mayBegin 133 = .ok (.iload_n 1, 1) := by decide +kernel
theorem dX10_mayBegin_134 : decode cX10_mayBegin 134 = .ok (.imul, 1) := by decide +kernel
theorem dX10_mayBegin_135 : decode cX10_mayBegin 135 = .ok (.iconst 4, 1) := by decide +kernel
theorem dX10_mayBegin_136 : decode cX10_mayBegin 136 = .ok (.iadd, 1) := by decide +kernel
theorem dX10_mayBegin_137 : decode cX10_mayBegin 137 = .ok (.iaload, 1) := by decide +kernel
theorem dX10_mayBegin_138 : decode cX10_mayBegin 138 = .ok (.if_icmp .gt 7, 3) := by decide +kernel
theorem dX10_mayBegin_141 : decode cX10_mayBegin 141 = .ok (.iconst 1, 1) := by decide +kernel
theorem dX10_mayBegin_142 : decode cX10_mayBegin 142 = .ok (.goto 4, 3) := by decide +kernel
theorem dX10_mayBegin_145 : decode cX10_mayBegin 145 = .ok (.iconst 0, 1) := by decide +kernel
theorem dX10_mayBegin_146 : decode cX10_mayBegin 146 = .ok (.ireturn, 1) := by decide +kernel
theorem dX10_span_0 : decode cX10_span 0 = .ok (.iconst 1, 1) := by decide +kernel
theorem dX10_span_1 : decode cX10_span 1 = .ok (.iload_n 1, 1) := by decide +kernel
theorem dX10_span_2 : decode cX10_span 2 = .ok (.ishl, 1) := by decide +kernel
theorem dX10_span_3 : decode cX10_span 3 = .ok (.iconst 1, 1) := by decide +kernel
theorem dX10_span_4 : decode cX10_span 4 = .ok (.isub, 1) := by decide +kernel
theorem dX10_span_5 : decode cX10_span 5 = .ok (.iload_n 0, 1) := by decide +kernel
theorem dX10_span_6 : decode cX10_span 6 = .ok (.ishl, 1) := by decide +kernel
theorem dX10_span_7 : decode cX10_span 7 = .ok (.ireturn, 1) := by decide +kernel
theorem dX10_seconds_0 : decode cX10_seconds 0 = .ok (.aload_n 0, 1) := by decide +kernel
theorem dX10_seconds_1 : decode cX10_seconds 1 = .ok (.iload_n 1, 1) := by decide +kernel
theorem dX10_seconds_2 : decode cX10_seconds 2 = .ok (.invokevirtual 141, 3) := by decide +kernel
theorem dX10_seconds_5 : decode cX10_seconds 5 = .ok (.ifCond .eq 43, 3) := by decide +kernel
theorem dX10_seconds_8 : decode cX10_seconds 8 = .ok (.aload_n 0, 1) := by decide +kernel
theorem dX10_seconds_9 : decode cX10_seconds 9 = .ok (.getfield 16, 3) := by decide +kernel
theorem dX10_seconds_12 : decode cX10_seconds 12 = .ok (.bipush 6, 2) := by decide +kernel
theorem dX10_seconds_14 : decode cX10_seconds 14 = .ok (.iload_n 1, 1) := by decide +kernel
theorem dX10_seconds_15 : decode cX10_seconds 15 = .ok (.imul, 1) := by decide +kernel
theorem dX10_seconds_16 : decode cX10_seconds 16 = .ok (.iconst 3, 1) := by decide +kernel
theorem dX10_seconds_17 : decode cX10_seconds 17 = .ok (.iadd, 1) := by decide +kernel
theorem dX10_seconds_18 : decode cX10_seconds 18 = .ok (.iaload, 1) := by decide +kernel
theorem dX10_seconds_19 : decode cX10_seconds 19 = .ok (.aload_n 0, 1) := by decide +kernel
theorem dX10_seconds_20 : decode cX10_seconds 20 = .ok (.getfield 16, 3) := by decide +kernel
theorem dX10_seconds_23 : decode cX10_seconds 23 = .ok (.bipush 6, 2) := by decide +kernel
theorem dX10_seconds_25 : decode cX10_seconds 25 = .ok (.iload_n 1, 1) := by decide +kernel
theorem dX10_seconds_26 : decode cX10_seconds 26 = .ok (.imul, 1) := by decide +kernel
theorem dX10_seconds_27 : decode cX10_seconds 27 = .ok (.iconst 4, 1) := by decide +kernel
theorem dX10_seconds_28 : decode cX10_seconds 28 = .ok (.iadd, 1) := by decide +kernel
theorem dX10_seconds_29 : decode cX10_seconds 29 = .ok (.iaload, 1) := by decide +kernel
theorem dX10_seconds_30 : decode cX10_seconds 30 = .ok (.aload_n 0, 1) := by decide +kernel
theorem dX10_seconds_31 : decode cX10_seconds 31 = .ok (.getfield 16, 3) := by decide +kernel
theorem dX10_seconds_34 : decode cX10_seconds 34 = .ok (.bipush 6, 2) := by decide +kernel
theorem dX10_seconds_36 : decode cX10_seconds 36 = .ok (.iload_n 1, 1) := by decide +kernel
theorem dX10_seconds_37 : decode cX10_seconds 37 = .ok (.imul, 1) := by decide +kernel
theorem dX10_seconds_38 : decode cX10_seconds 38 = .ok (.iconst 3, 1) := by decide +kernel
theorem dX10_seconds_39 : decode cX10_seconds 39 = .ok (.iadd, 1) := by decide +kernel
theorem dX10_seconds_40 : decode cX10_seconds 40 = .ok (.iaload, 1) := by decide +kernel
theorem dX10_seconds_41 : decode cX10_seconds 41 = .ok (.isub, 1) := by decide +kernel
theorem dX10_seconds_42 : decode cX10_seconds 42 = .ok (.iconst 1, 1) := by decide +kernel
theorem dX10_seconds_43 : decode cX10_seconds 43 = .ok (.iadd, 1) := by decide +kernel
theorem dX10_seconds_44 : decode cX10_seconds 44 = .ok (.invokestatic 149, 3) := by decide +kernel
theorem dX10_seconds_47 : decode cX10_seconds 47 = .ok (.ireturn, 1) := by decide +kernel
theorem dX10_seconds_48 : decode cX10_seconds 48 = .ok (.aload_n 0, 1) := by decide +kernel
theorem dX10_seconds_49 : decode cX10_seconds 49 = .ok (.getfield 16, 3) := by decide +kernel
theorem dX10_seconds_52 : decode cX10_seconds 52 = .ok (.bipush 6, 2) := by decide +kernel
theorem dX10_seconds_54 : decode cX10_seconds 54 = .ok (.iload_n 1, 1) := by decide +kernel
theorem dX10_seconds_55 : decode cX10_seconds 55 = .ok (.imul, 1) := by decide +kernel
theorem dX10_seconds_56 : decode cX10_seconds 56 = .ok (.iaload, 1) := by decide +kernel
theorem dX10_seconds_57 : decode cX10_seconds 57 = .ok (.istore 4, 2) := by decide +kernel
theorem dX10_seconds_59 : decode cX10_seconds 59 = .ok (.iconst 0, 1) := by decide +kernel
theorem dX10_seconds_60 : decode cX10_seconds 60 = .ok (.istore 5, 2) := by decide +kernel
theorem dX10_seconds_62 : decode cX10_seconds 62 = .ok (.iconst 0, 1) := by decide +kernel
theorem dX10_seconds_63 : decode cX10_seconds 63 = .ok (.istore 6, 2) := by decide +kernel
theorem dX10_seconds_65 : decode cX10_seconds 65 = .ok (.iload 6, 2) := by decide +kernel
theorem dX10_seconds_67 : decode cX10_seconds 67 = .ok (.aload_n 0, 1) := by decide +kernel
theorem dX10_seconds_68 : decode cX10_seconds 68 = .ok (.getfield 16, 3) := by decide +kernel
theorem dX10_seconds_71 : decode cX10_seconds 71 = .ok (.bipush 6, 2) := by decide +kernel
theorem dX10_seconds_73 : decode cX10_seconds 73 = .ok (.iload_n 1, 1) := by decide +kernel
theorem dX10_seconds_74 : decode cX10_seconds 74 = .ok (.imul, 1) := by decide +kernel
theorem dX10_seconds_75 : decode cX10_seconds 75 = .ok (.iconst 1, 1) := by decide +kernel
theorem dX10_seconds_76 : decode cX10_seconds 76 = .ok (.iadd, 1) := by decide +kernel
theorem dX10_seconds_77 : decode cX10_seconds 77 = .ok (.iaload, 1) := by decide +kernel
theorem dX10_seconds_78 : decode cX10_seconds 78 = .ok (.if_icmp .ge 48, 3) := by decide +kernel
theorem dX10_seconds_81 : decode cX10_seconds 81 = .ok (.iload 5, 2) := by decide +kernel
theorem dX10_seconds_83 : decode cX10_seconds 83 = .ok (.aload_n 0, 1) := by decide +kernel
theorem dX10_seconds_84 : decode cX10_seconds 84 = .ok (.iload_n 1, 1) := by decide +kernel
theorem dX10_seconds_85 : decode cX10_seconds 85 = .ok (.iload_n 2, 1) := by decide +kernel
theorem dX10_seconds_86 : decode cX10_seconds 86 = .ok (.iload 6, 2) := by decide +kernel
theorem dX10_seconds_88 : decode cX10_seconds 88 = .ok (.invokevirtual 145, 3) := by decide +kernel
theorem dX10_seconds_91 : decode cX10_seconds 91 = .ok (.aload_n 0, 1) := by decide +kernel
theorem dX10_seconds_92 : decode cX10_seconds 92 = .ok (.getfield 7, 3) := by decide +kernel
theorem dX10_seconds_95 : decode cX10_seconds 95 = .ok (.iload 4, 2) := by decide +kernel
theorem dX10_seconds_97 : decode cX10_seconds 97 = .ok (.iaload, 1) := by decide +kernel
