theorem dX11_init_0 : decode cX11_init 0 = .ok (.aload_n 0, 1) := by decide +kernel
theorem dX11_init_1 : decode cX11_init 1 = .ok (.invokespecial 1, 3) := by decide +kernel
theorem dX11_init_4 : decode cX11_init 4 = .ok (.aload_n 0, 1) := by decide +kernel
theorem dX11_init_5 : decode cX11_init 5 = .ok (.sipush 4000, 3) := by decide +kernel
theorem dX11_init_8 : decode cX11_init 8 = .ok (.newarray .int, 2) := by decide +kernel
theorem dX11_init_10 : decode cX11_init 10 = .ok (.putfield 7, 3) := by decide +kernel
theorem dX11_init_13 : decode cX11_init 13 = .ok (.aload_n 0, 1) := by decide +kernel
theorem dX11_init_14 : decode cX11_init 14 = .ok (.iconst 2, 1) := by decide +kernel
theorem dX11_init_15 : decode cX11_init 15 = .ok (.newarray .boolean, 2) := by decide +kernel
theorem dX11_init_17 : decode cX11_init 17 = .ok (.putfield 13, 3) := by decide +kernel
theorem dX11_init_20 : decode cX11_init 20 = .ok (.aload_n 0, 1) := by decide +kernel
theorem dX11_init_21 : decode cX11_init 21 = .ok (.iconst 3, 1) := by decide +kernel
theorem dX11_init_22 : decode cX11_init 22 = .ok (.putfield 17, 3) := by decide +kernel
theorem dX11_init_25 : decode cX11_init 25 = .ok (.aload_n 0, 1) := by decide +kernel
theorem dX11_init_26 : decode cX11_init 26 = .ok (.bipush 20, 2) := by decide +kernel
theorem dX11_init_28 : decode cX11_init 28 = .ok (.putfield 21, 3) := by decide +kernel
theorem dX11_init_31 : decode cX11_init 31 = .ok (.aload_n 0, 1) := by decide +kernel
theorem dX11_init_32 : decode cX11_init 32 = .ok (.bipush 48, 2) := by decide +kernel
theorem dX11_init_34 : decode cX11_init 34 = .ok (.newarray .int, 2) := by decide +kernel
theorem dX11_init_36 : decode cX11_init 36 = .ok (.putfield 24, 3) := by decide +kernel
theorem dX11_init_39 : decode cX11_init 39 = .ok (.aload_n 0, 1) := by decide +kernel
theorem dX11_init_40 : decode cX11_init 40 = .ok (.bipush 48, 2) := by decide +kernel
theorem dX11_init_42 : decode cX11_init 42 = .ok (.newarray .boolean, 2) := by decide +kernel
theorem dX11_init_44 : decode cX11_init 44 = .ok (.putfield 27, 3) := by decide +kernel
theorem dX11_init_47 : decode cX11_init 47 = .ok (.aload_n 0, 1) := by decide +kernel
theorem dX11_init_48 : decode cX11_init 48 = .ok (.bipush 48, 2) := by decide +kernel
theorem dX11_init_50 : decode cX11_init 50 = .ok (.newarray .int, 2) := by decide +kernel
theorem dX11_init_52 : decode cX11_init 52 = .ok (.putfield 30, 3) := by decide +kernel
theorem dX11_init_55 : decode cX11_init 55 = .ok (.aload_n 0, 1) := by decide +kernel
theorem dX11_init_56 : decode cX11_init 56 = .ok (.iconst 2, 1) := by decide +kernel
theorem dX11_init_57 : decode cX11_init 57 = .ok (.newarray .int, 2) := by decide +kernel
theorem dX11_init_59 : decode cX11_init 59 = .ok (.putfield 33, 3) := by decide +kernel
theorem dX11_init_62 : decode cX11_init 62 = .ok (.aload_n 0, 1) := by decide +kernel
theorem dX11_init_63 : decode cX11_init 63 = .ok (.bipush 120, 2) := by decide +kernel
theorem dX11_init_65 : decode cX11_init 65 = .ok (.newarray .int, 2) := by decide +kernel
theorem dX11_init_67 : decode cX11_init 67 = .ok (.putfield 36, 3) := by decide +kernel
theorem dX11_init_70 : decode cX11_init 70 = .ok (.aload_n 0, 1) := by decide +kernel
theorem dX11_init_71 : decode cX11_init 71 = .ok (.bipush 120, 2) := by decide +kernel
theorem dX11_init_73 : decode cX11_init 73 = .ok (.newarray .int, 2) := by decide +kernel
theorem dX11_init_75 : decode cX11_init 75 = .ok (.putfield 39, 3) := by decide +kernel
theorem dX11_init_78 : decode cX11_init 78 = .ok (.aload_n 0, 1) := by decide +kernel
theorem dX11_init_79 : decode cX11_init 79 = .ok (.bipush 120, 2) := by decide +kernel
theorem dX11_init_81 : decode cX11_init 81 = .ok (.newarray .int, 2) := by decide +kernel
theorem dX11_init_83 : decode cX11_init 83 = .ok (.putfield 42, 3) := by decide +kernel
theorem dX11_init_86 : decode cX11_init 86 = .ok (.aload_n 0, 1) := by decide +kernel
theorem dX11_init_87 : decode cX11_init 87 = .ok (.iconst 2, 1) := by decide +kernel
theorem dX11_init_88 : decode cX11_init 88 = .ok (.newarray .int, 2) := by decide +kernel
theorem dX11_init_90 : decode cX11_init 90 = .ok (.putfield 45, 3) := by decide +kernel
theorem dX11_init_93 : decode cX11_init 93 = .ok (.aload_n 0, 1) := by decide +kernel
theorem dX11_init_94 : decode cX11_init 94 = .ok (.bipush 12, 2) := by decide +kernel
theorem dX11_init_96 : decode cX11_init 96 = .ok (.newarray .int, 2) := by decide +kernel
theorem dX11_init_98 : decode cX11_init 98 = .ok (.putfield 48, 3) := by decide +kernel
theorem dX11_init_101 : decode cX11_init 101 = .ok (.aload_n 0, 1) := by decide +kernel
theorem dX11_init_102 : decode cX11_init 102 = .ok (.bipush 12, 2) := by decide +kernel
theorem dX11_init_104 : decode cX11_init 104 = .ok (.newarray .int, 2) := by decide +kernel
theorem dX11_init_106 : decode cX11_init 106 = .ok (.putfield 51, 3) := by decide +kernel
theorem dX11_init_109 : decode cX11_init 109 = .ok (.aload_n 0, 1) := by decide +kernel
theorem dX11_init_110 : decode cX11_init 110 = .ok (.bipush 12, 2) := by decide +kernel
theorem dX11_init_112 : decode cX11_init 112 = .ok (.newarray .int, 2) := by decide +kernel
theorem dX11_init_114 : decode cX11_init 114 = .ok (.putfield 54, 3) := by decide +kernel
theorem dX11_init_117 : decode cX11_init 117 = .ok (.aload_n 0, 1) := by decide +kernel
theorem dX11_init_118 : decode cX11_init 118 = .ok (.bipush 12, 2) := by decide +kernel
theorem dX11_init_120 : decode cX11_init 120 = .ok (.newarray .int, 2) := by decide +kernel
theorem dX11_init_122 : decode cX11_init 122 = .ok (.putfield 57, 3) := by decide +kernel
theorem dX11_init_125 : decode cX11_init 125 = .ok (.aload_n 0, 1) := by decide +kernel
theorem dX11_init_126 : decode cX11_init 126 = .ok (.bipush 12, 2) := by decide +kernel
theorem dX11_init_128 : decode cX11_init 128 = .ok (.newarray .int, 2) := by decide +kernel
theorem dX11_init_130 : decode cX11_init 130 = .ok (.putfield 60, 3) := by decide +kernel
theorem dX11_init_133 : decode cX11_init 133 = .ok (.aload_n 0, 1) := by decide +kernel
theorem dX11_init_134 : decode cX11_init 134 = .ok (.iconst 2, 1) := by decide +kernel
theorem dX11_init_135 : decode cX11_init 135 = .ok (.newarray .int, 2) := by decide +kernel
theorem dX11_init_137 : decode cX11_init 137 = .ok (.putfield 63, 3) := by decide +kernel
theorem dX11_init_140 : decode cX11_init 140 = .ok (.aload_n 0, 1) := by decide +kernel
theorem dX11_init_141 : decode cX11_init 141 = .ok (.sipush 600, 3) := by decide +kernel
theorem dX11_init_144 : decode cX11_init 144 = .ok (.newarray .int, 2) := by decide +kernel
theorem dX11_init_146 : decode cX11_init 146 = .ok (.putfield 66, 3) := by decide +kernel
theorem dX11_init_149 : decode cX11_init 149 = .ok (.aload_n 0, 1) := by decide +kernel
theorem dX11_init_150 : decode cX11_init 150 = .ok (.iconst (-1), 1) := by decide +kernel
theorem dX11_init_151 : decode cX11_init 151 = .ok (.putfield 69, 3) := by decide +kernel
theorem dX11_init_154 : decode cX11_init 154 = .ok (.aload_n 0, 1) := by decide +kernel
theorem dX11_init_155 : decode cX11_init 155 = .ok (.sipush 150, 3) := by decide +kernel
theorem dX11_init_158 : decode cX11_init 158 = .ok (.newarray .int, 2) := by decide +kernel
theorem dX11_init_160 : decode cX11_init 160 = .ok (.putfield 72, 3) := by decide +kernel
theorem dX11_init_163 : decode cX11_init 163 = .ok (.aload_n 0, 1) := by decide +kernel
theorem dX11_init_164 : decode cX11_init 164 = .ok (.bipush 26, 2) := by decide +kernel
theorem dX11_init_166 : decode cX11_init 166 = .ok (.newarray .int, 2) := by decide +kernel
theorem dX11_init_168 : decode cX11_init 168 = .ok (.putfield 75, 3) := by decide +kernel
theorem dX11_init_171 : decode cX11_init 171 = .ok (.aload_n 0, 1) := by decide +kernel
theorem dX11_init_172 : decode cX11_init 172 = .ok (.bipush 24, 2) := by decide +kernel
theorem dX11_init_174 : decode cX11_init 174 = .ok (.newarray .int, 2) := by decide +kernel
theorem dX11_init_176 : decode cX11_init 176 = .ok (.putfield 78, 3) := by decide +kernel
theorem dX11_init_179 : decode cX11_init 179 = .ok (.aload_n 0, 1) := by decide +kernel
theorem dX11_init_180 : decode cX11_init 180 = .ok (.bipush 24, 2) := by decide +kernel
theorem dX11_init_182 : decode cX11_init 182 = .ok (.newarray .int, 2) := by decide +kernel
theorem dX11_init_184 : decode cX11_init 184 = .ok (.putfield 81, 3) := by decide +kernel
theorem dX11_init_187 : decode cX11_init 187 = .ok (.aload_n 0, 1) := by decide +kernel
theorem dX11_init_188 : decode cX11_init 188 = .ok (.sipush 1024, 3) := by decide +kernel
theorem dX11_init_191 : decode cX11_init 191 = .ok (.newarray .int, 2) := by decide +kernel
theorem dX11_init_193 : decode cX11_init 193 = .ok (.putfield 84, 3) := by decide +kernel
theorem dX11_init_196 : decode cX11_init 196 = .ok (.aload_n 0, 1) := by decide +kernel
theorem dX11_init_197 : decode cX11_init 197 = .ok (.sipush 1024, 3) := by decide +kernel
theorem dX11_init_200 : decode cX11_init 200 = .ok (.newarray .int, 2) := by decide +kernel
theorem dX11_init_202 : decode cX11_init 202 = .ok (.putfield 87, 3) := by decide +kernel
theorem dX11_init_205 : decode cX11_init 205 = .ok (.aload_n 0, 1) := by decide +kernel
theorem dX11_init_206 : decode cX11_init 206 = .ok (.sipush 1024, 3) := by decide +kernel
theorem dX11_init_209 : decode cX11_init 209 = .ok (.newarray .int, 2) := by decide +kernel
theorem dX11_init_211 : decode cX11_init 211 = .ok (.putfield 90, 3) := by decide +kernel
theorem dX11_init_214 : decode cX11_init 214 = .ok (.aload_n 0, 1) := by decide +kernel
theorem dX11_init_215 : decode cX11_init 215 = .ok (.sipush 144, 3) := by decide +kernel
theorem dX11_init_218 : decode cX11_init 218 = .ok (.newarray .int, 2) := by decide +kernel
theorem dX11_init_220 : decode cX11_init 220 = .ok (.putfield 93, 3) := by decide +kernel
theorem dX11_init_223 : decode cX11_init 223 = .ok (.aload_n 0, 1) := by decide +kernel
theorem dX11_init_224 : decode cX11_init 224 = .ok (.sipush 144, 3) := by decide +kernel
theorem dX11_init_227 : decode cX11_init 227 = .ok (.newarray .int, 2) := by decide +kernel
theorem dX11_init_229 : decode cX11_init 229 = .ok (.putfield 96, 3) := by decide +kernel
theorem dX11_init_232 : decode cX11_init 232 = .ok (.aload_n 0, 1) := by decide +kernel
theorem dX11_init_233 : decode cX11_init 233 = .ok (.bipush 12, 2) := by decide +kernel
theorem dX11_init_235 : decode cX11_init 235 = .ok (.newarray .int, 2) := by decide +kernel
theorem dX11_init_237 : decode cX11_init 237 = .ok (.putfield 99, 3) := by decide +kernel
theorem dX11_init_240 : decode cX11_init 240 = .ok (.return_, 1) := by decide +kernel
theorem dX11_in_0 : decode cX11_in 0 = .ok (.lload_n 0, 1) := by decide +kernel
theorem dX11_in_1 : decode cX11_in 1 = .ok (.lload_n 2, 1) := by decide +kernel
theorem dX11_in_2 : decode cX11_in 2 = .ok (.lcmp, 1) := by decide +kernel
theorem dX11_in_3 : decode cX11_in 3 = .ok (.ifCond .lt 14, 3) := by decide +kernel
theorem dX11_in_6 : decode cX11_in 6 = .ok (.lload_n 0, 1) := by decide +kernel
theorem dX11_in_7 : decode cX11_in 7 = .ok (.lload 4, 2) := by decide +kernel
theorem dX11_in_9 : decode cX11_in 9 = .ok (.lcmp, 1) := by decide +kernel
theorem dX11_in_10 : decode cX11_in 10 = .ok (.ifCond .gt 7, 3) := by decide +kernel
theorem dX11_in_13 : decode cX11_in 13 = .ok (.iconst 1, 1) := by decide +kernel
theorem dX11_in_14 : decode cX11_in 14 = .ok (.goto 4, 3) := by decide +kernel
theorem dX11_in_17 : decode cX11_in 17 = .ok (.iconst 0, 1) := by decide +kernel
theorem dX11_in_18 : decode cX11_in 18 = .ok (.ireturn, 1) := by decide +kernel
theorem dX11_one_0 : decode cX11_one 0 = .ok (.iload_n 0, 1) := by decide +kernel
theorem dX11_one_1 : decode cX11_one 1 = .ok (.ifCond .eq 7, 3) := by decide +kernel
theorem dX11_one_4 : decode cX11_one 4 = .ok (.iconst 1, 1) := by decide +kernel
theorem dX11_one_5 : decode cX11_one 5 = .ok (.goto 4, 3) := by decide +kernel
theorem dX11_one_8 : decode cX11_one 8 = .ok (.iconst 0, 1) := by decide +kernel
theorem dX11_one_9 : decode cX11_one 9 = .ok (.ireturn, 1) := by decide +kernel
theorem dX11_has_0 : decode cX11_has 0 = .ok (.iload_n 0, 1) := by decide +kernel
theorem dX11_has_1 : decode cX11_has 1 = .ok (.iload_n 1, 1) := by decide +kernel
theorem dX11_has_2 : decode cX11_has 2 = .ok (.ishr, 1) := by decide +kernel
theorem dX11_has_3 : decode cX11_has 3 = .ok (.iconst 1, 1) := by decide +kernel
theorem dX11_has_4 : decode cX11_has 4 = .ok (.iand, 1) := by decide +kernel
theorem dX11_has_5 : decode cX11_has 5 = .ok (.iconst 1, 1) := by decide +kernel
theorem dX11_has_6 : decode cX11_has 6 = .ok (.if_icmp .ne 7, 3) := by decide +kernel
theorem dX11_has_9 : decode cX11_has 9 = .ok (.iconst 1, 1) := by decide +kernel
theorem dX11_has_10 : decode cX11_has 10 = .ok (.goto 4, 3) := by decide +kernel
theorem dX11_has_13 : decode cX11_has 13 = .ok (.iconst 0, 1) := by decide +kernel
theorem dX11_has_14 : decode cX11_has 14 = .ok (.ireturn, 1) := by decide +kernel
theorem dX11_ones_0 : decode cX11_ones 0 = .ok (.iconst 0, 1) := by decide +kernel
theorem dX11_ones_1 : decode cX11_ones 1 = .ok (.istore_n 1, 1) := by decide +kernel
theorem dX11_ones_2 : decode cX11_ones 2 = .ok (.iconst 0, 1) := by decide +kernel
theorem dX11_ones_3 : decode cX11_ones 3 = .ok (.istore_n 2, 1) := by decide +kernel
theorem dX11_ones_4 : decode cX11_ones 4 = .ok (.iload_n 2, 1) := by decide +kernel
theorem dX11_ones_5 : decode cX11_ones 5 = .ok (.bipush 24, 2) := by decide +kernel
theorem dX11_ones_7 : decode cX11_ones 7 = .ok (.if_icmp .ge 17, 3) := by decide +kernel
theorem dX11_ones_10 : decode cX11_ones 10 = .ok (.iload_n 1, 1) := by decide +kernel
theorem dX11_ones_11 : decode cX11_ones 11 = .ok (.iload_n 0, 1) := by decide +kernel
theorem dX11_ones_12 : decode cX11_ones 12 = .ok (.iload_n 2, 1) := by decide +kernel
theorem dX11_ones_13 : decode cX11_ones 13 = .ok (.ishr, 1) := by decide +kernel
theorem dX11_ones_14 : decode cX11_ones 14 = .ok (.iconst 1, 1) := by decide +kernel
theorem dX11_ones_15 : decode cX11_ones 15 = .ok (.iand, 1) := by decide +kernel
theorem dX11_ones_16 : decode cX11_ones 16 = .ok (.iadd, 1) := by decide +kernel
theorem dX11_ones_17 : decode cX11_ones 17 = .ok (.istore_n 1, 1) := by decide +kernel
theorem dX11_ones_18 : decode cX11_ones 18 = .ok (.iinc 2 1, 3) := by decide +kernel
theorem dX11_ones_21 : decode cX11_ones 21 = .ok (.goto (-17), 3) := by decide +kernel
theorem dX11_ones_24 : decode cX11_ones 24 = .ok (.iload_n 1, 1) := by decide +kernel
theorem dX11_ones_25 : decode cX11_ones 25 = .ok (.ireturn, 1) := by decide +kernel
theorem dX11_feed_0 : decode cX11_feed 0 = .ok (.iload_n 1, 1) := by decide +kernel
theorem dX11_feed_1 : decode cX11_feed 1 = .ok (.i2l, 1) := by decide +kernel
theorem dX11_feed_2 : decode cX11_feed 2 = .ok (.lconst 1, 1) := by decide +kernel
theorem dX11_feed_3 : decode cX11_feed 3 = .ok (.ldc2_w 102, 3) := by decide +kernel
theorem dX11_feed_6 : decode cX11_feed 6 = .ok (.invokestatic 104, 3) := by decide +kernel
theorem dX11_feed_9 : decode cX11_feed 9 = .ok (.ifCond .ne 6, 3) := by decide +kernel
theorem dX11_feed_12 : decode cX11_feed 12 = .ok (.ldc 108, 2) := by decide +kernel
theorem dX11_feed_14 : decode cX11_feed 14 = .ok (.ireturn, 1) := by decide +kernel
theorem dX11_feed_15 : decode cX11_feed 15 = .ok (.aload_n 0, 1) := by decide +kernel
theorem dX11_feed_16 : decode cX11_feed 16 = .ok (.getfield 109, 3) := by decide +kernel
theorem dX11_feed_19 : decode cX11_feed 19 = .ok (.iload_n 1, 1) := by decide +kernel
theorem dX11_feed_20 : decode cX11_feed 20 = .ok (.iadd, 1) := by decide +kernel
theorem dX11_feed_21 : decode cX11_feed 21 = .ok (.sipush 600, 3) := by decide +kernel
theorem dX11_feed_24 : decode cX11_feed 24 = .ok (.if_icmp .le 6, 3) := by decide +kernel
theorem dX11_feed_27 : decode cX11_feed 27 = .ok (.ldc 112, 2) := by decide +kernel
theorem dX11_feed_29 : decode cX11_feed 29 = .ok (.ireturn, 1) := by decide +kernel
theorem dX11_feed_30 : decode cX11_feed 30 = .ok (.iload_n 1, 1) := by decide +kernel
theorem dX11_feed_31 : decode cX11_feed 31 = .ok (.iconst 1, 1) := by decide +kernel
theorem dX11_feed_32 : decode cX11_feed 32 = .ok (.isub, 1) := by decide +kernel
theorem dX11_feed_33 : decode cX11_feed 33 = .ok (.istore 4, 2) := by decide +kernel
theorem dX11_feed_35 : decode cX11_feed 35 = .ok (.iload 4, 2) := by decide +kernel
theorem dX11_feed_37 : decode cX11_feed 37 = .ok (.ifCond .lt 40, 3) := by decide +kernel
theorem dX11_feed_40 : decode cX11_feed 40 = .ok (.aload_n 0, 1) := by decide +kernel
theorem dX11_feed_41 : decode cX11_feed 41 = .ok (.getfield 66, 3) := by decide +kernel
theorem dX11_feed_44 : decode cX11_feed 44 = .ok (.aload_n 0, 1) := by decide +kernel
theorem dX11_feed_45 : decode cX11_feed 45 = .ok (.getfield 109, 3) := by decide +kernel
theorem dX11_feed_48 : decode cX11_feed 48 = .ok (.lload_n 2, 1) := by decide +kernel
theorem dX11_feed_49 : decode cX11_feed 49 = .ok (.bipush 8, 2) := by decide +kernel
theorem dX11_feed_51 : decode cX11_feed 51 = .ok (.iload 4, 2) := by decide +kernel
theorem dX11_feed_53 : decode cX11_feed 53 = .ok (.imul, 1) := by decide +kernel
theorem dX11_feed_54 : decode cX11_feed 54 = .ok (.lshr, 1) := by decide +kernel
theorem dX11_feed_55 : decode cX11_feed 55 = .ok (.ldc2_w 113, 3) := by decide +kernel
theorem dX11_feed_58 : decode cX11_feed 58 = .ok (.land, 1) := by decide +kernel
theorem dX11_feed_59 : decode cX11_feed 59 = .ok (.l2i, 1) := by decide +kernel
theorem dX11_feed_60 : decode cX11_feed 60 = .ok (.iastore, 1) := by decide +kernel
theorem dX11_feed_61 : decode cX11_feed 61 = .ok (.aload_n 0, 1) := by decide +kernel
theorem dX11_feed_62 : decode cX11_feed 62 = .ok (.dup, 1) := by decide +kernel
theorem dX11_feed_63 : decode cX11_feed 63 = .ok (.getfield 109, 3) := by decide +kernel
theorem dX11_feed_66 : decode cX11_feed 66 = .ok (.iconst 1, 1) := by decide +kernel
theorem dX11_feed_67 : decode cX11_feed 67 = .ok (.iadd, 1) := by decide +kernel
theorem dX11_feed_68 : decode cX11_feed 68 = .ok (.putfield 109, 3) := by decide +kernel
theorem dX11_feed_71 : decode cX11_feed 71 = .ok (.iinc 4 (-1), 3) := by decide +kernel
theorem dX11_feed_74 : decode cX11_feed 74 = .ok (.goto (-39), 3) := by decide +kernel
theorem dX11_feed_77 : decode cX11_feed 77 = .ok (.aload_n 0, 1) := by decide +kernel
theorem dX11_feed_78 : decode cX11_feed 78 = .ok (.getfield 109, 3) := by decide +kernel
theorem dX11_feed_81 : decode cX11_feed 81 = .ok (.ireturn, 1) := by decide +kernel
theorem dX11_here_0 : decode cX11_here 0 = .ok (.aload_n 0, 1) := by decide +kernel
theorem dX11_here_1 : decode cX11_here 1 = .ok (.getfield 115, 3) := by decide +kernel
theorem dX11_here_4 : decode cX11_here 4 = .ok (.aload_n 0, 1) := by decide +kernel
theorem dX11_here_5 : decode cX11_here 5 = .ok (.getfield 109, 3) := by decide +kernel
theorem dX11_here_8 : decode cX11_here 8 = .ok (.if_icmp .ge 30, 3) := by decide +kernel
theorem dX11_here_11 : decode cX11_here 11 = .ok (.aload_n 0, 1) := by decide +kernel
theorem dX11_here_12 : decode cX11_here 12 = .ok (.getfield 66, 3) := by decide +kernel
theorem dX11_here_15 : decode cX11_here 15 = .ok (.aload_n 0, 1) := by decide +kernel
theorem dX11_here_16 : decode cX11_here 16 = .ok (.getfield 115, 3) := by decide +kernel
theorem dX11_here_19 : decode cX11_here 19 = .ok (.iaload, 1) := by decide +kernel
theorem dX11_here_20 : decode cX11_here 20 = .ok (.bipush 32, 2) := by decide +kernel
theorem dX11_here_22 : decode cX11_here 22 = .ok (.if_icmp .ne 16, 3) := by decide +kernel
theorem dX11_here_25 : decode cX11_here 25 = .ok (.aload_n 0, 1) := by decide +kernel
theorem dX11_here_26 : decode cX11_here 26 = .ok (.dup, 1) := by decide +kernel
theorem dX11_here_27 : decode cX11_here 27 = .ok (.getfield 115, 3) := by decide +kernel
theorem dX11_here_30 : decode cX11_here 30 = .ok (.iconst 1, 1) := by decide +kernel
theorem dX11_here_31 : decode cX11_here 31 = .ok (.iadd, 1) := by decide +kernel
theorem dX11_here_32 : decode cX11_here 32 = .ok (.putfield 115, 3) := by decide +kernel
theorem dX11_here_35 : decode cX11_here 35 = .ok (.goto (-35), 3) := by decide +kernel
theorem dX11_here_38 : decode cX11_here 38 = .ok (.aload_n 0, 1) := by decide +kernel
theorem dX11_here_39 : decode cX11_here 39 = .ok (.getfield 115, 3) := by decide +kernel
theorem dX11_here_42 : decode cX11_here 42 = .ok (.aload_n 0, 1) := by decide +kernel
theorem dX11_here_43 : decode cX11_here 43 = .ok (.getfield 109, 3) := by decide +kernel
theorem dX11_here_46 : decode cX11_here 46 = .ok (.if_icmp .ge 15, 3) := by decide +kernel
theorem dX11_here_49 : decode cX11_here 49 = .ok (.aload_n 0, 1) := by decide +kernel
theorem dX11_here_50 : decode cX11_here 50 = .ok (.getfield 66, 3) := by decide +kernel
theorem dX11_here_53 : decode cX11_here 53 = .ok (.aload_n 0, 1) := by decide +kernel
theorem dX11_here_54 : decode cX11_here 54 = .ok (.getfield 115, 3) := by decide +kernel
theorem dX11_here_57 : decode cX11_here 57 = .ok (.iaload, 1) := by decide +kernel
theorem dX11_here_58 : decode cX11_here 58 = .ok (.goto 4, 3) := by decide +kernel
theorem dX11_here_61 : decode cX11_here 61 = .ok (.iconst (-1), 1) := by decide +kernel
theorem dX11_here_62 : decode cX11_here 62 = .ok (.ireturn, 1) := by decide +kernel
theorem dX11_want_0 : decode cX11_want 0 = .ok (.iload_n 1, 1) := by decide +kernel
theorem dX11_want_1 : decode cX11_want 1 = .ok (.ifCond .ne 20, 3) := by decide +kernel
theorem dX11_want_4 : decode cX11_want 4 = .ok (.aload_n 0, 1) := by decide +kernel
theorem dX11_want_5 : decode cX11_want 5 = .ok (.getfield 118, 3) := by decide +kernel
theorem dX11_want_8 : decode cX11_want 8 = .ok (.ifCond .ne 13, 3) := by decide +kernel
theorem dX11_want_11 : decode cX11_want 11 = .ok (.aload_n 0, 1) := by decide +kernel
theorem dX11_want_12 : decode cX11_want 12 = .ok (.iload_n 2, 1) := by decide +kernel
theorem dX11_want_13 : decode cX11_want 13 = .ok (.putfield 118, 3) := by decide +kernel
theorem dX11_want_16 : decode cX11_want 16 = .ok (.aload_n 0, 1) := by decide +kernel
theorem dX11_want_17 : decode cX11_want 17 = .ok (.iload_n 3, 1) := by decide +kernel
theorem dX11_want_18 : decode cX11_want 18 = .ok (.putfield 69, 3) := by decide +kernel
theorem dX11_want_21 : decode cX11_want 21 = .ok (.aload_n 0, 1) := by decide +kernel
theorem dX11_want_22 : decode cX11_want 22 = .ok (.getfield 118, 3) := by decide +kernel
theorem dX11_want_25 : decode cX11_want 25 = .ok (.ifCond .ne 7, 3) := by decide +kernel
theorem dX11_want_28 : decode cX11_want 28 = .ok (.iconst 1, 1) := by decide +kernel
theorem dX11_want_29 : decode cX11_want 29 = .ok (.goto 4, 3) := by decide +kernel
theorem dX11_want_32 : decode cX11_want 32 = .ok (.iconst 0, 1) := by decide +kernel
theorem dX11_want_33 : decode cX11_want 33 = .ok (.ireturn, 1) := by decide +kernel
theorem dX11_takeWord_0 : decode cX11_takeWord 0 = .ok (.aload_n 0, 1) := by decide +kernel
theorem dX11_takeWord_1 : decode cX11_takeWord 1 = .ok (.invokevirtual 121, 3) := by decide +kernel
theorem dX11_takeWord_4 : decode cX11_takeWord 4 = .ok (.istore_n 1, 1) := by decide +kernel
theorem dX11_takeWord_5 : decode cX11_takeWord 5 = .ok (.aload_n 0, 1) := by decide +kernel
theorem dX11_takeWord_6 : decode cX11_takeWord 6 = .ok (.aload_n 0, 1) := by decide +kernel
theorem dX11_takeWord_7 : decode cX11_takeWord 7 = .ok (.getfield 115, 3) := by decide +kernel
theorem dX11_takeWord_10 : decode cX11_takeWord 10 = .ok (.putfield 125, 3) := by decide +kernel
theorem dX11_takeWord_13 : decode cX11_takeWord 13 = .ok (.aload_n 0, 1) := by decide +kernel
theorem dX11_takeWord_14 : decode cX11_takeWord 14 = .ok (.getfield 115, 3) := by decide +kernel
theorem dX11_takeWord_17 : decode cX11_takeWord 17 = .ok (.aload_n 0, 1) := by decide +kernel
theorem dX11_takeWord_18 : decode cX11_takeWord 18 = .ok (.getfield 109, 3) := by decide +kernel
theorem dX11_takeWord_21 : decode cX11_takeWord 21 = .ok (.if_icmp .ge 38, 3) := by decide +kernel
theorem dX11_takeWord_24 : decode cX11_takeWord 24 = .ok (.aload_n 0, 1) := by decide +kernel
theorem dX11_takeWord_25 : decode cX11_takeWord 25 = .ok (.getfield 66, 3) := by decide +kernel
theorem dX11_takeWord_28 : decode cX11_takeWord 28 = .ok (.aload_n 0, 1) := by decide +kernel
theorem dX11_takeWord_29 : decode cX11_takeWord 29 = .ok (.getfield 115, 3) := by decide +kernel
theorem dX11_takeWord_32 : decode cX11_takeWord 32 = .ok (.iaload, 1) := by decide +kernel
theorem dX11_takeWord_33 : decode cX11_takeWord 33 = .ok (.i2l, 1) := by decide +kernel
theorem dX11_takeWord_34 : decode cX11_takeWord 34 = .ok (.ldc2_w 128, 3) := by decide +kernel
theorem dX11_takeWord_37 : decode cX11_takeWord 37 = .ok (.ldc2_w 130, 3) := by decide +kernel
theorem dX11_takeWord_40 : decode cX11_takeWord 40 = .ok (.invokestatic 104, 3) := by decide +kernel
theorem dX11_takeWord_43 : decode cX11_takeWord 43 = .ok (.ifCond .eq 16, 3) := by decide +kernel
theorem dX11_takeWord_46 : decode cX11_takeWord 46 = .ok (.aload_n 0, 1) := by decide +kernel
theorem dX11_takeWord_47 : decode cX11_takeWord 47 = .ok (.dup, 1) := by decide +kernel
theorem dX11_takeWord_48 : decode cX11_takeWord 48 = .ok (.getfield 115, 3) := by decide +kernel
theorem dX11_takeWord_51 : decode cX11_takeWord 51 = .ok (.iconst 1, 1) := by decide +kernel
theorem dX11_takeWord_52 : decode cX11_takeWord 52 = .ok (.iadd, 1) := by decide +kernel
theorem dX11_takeWord_53 : decode cX11_takeWord 53 = .ok (.putfield 115, 3) := by decide +kernel
theorem dX11_takeWord_56 : decode cX11_takeWord 56 = .ok (.goto (-43), 3) := by decide +kernel
theorem dX11_takeWord_59 : decode cX11_takeWord 59 = .ok (.aload_n 0, 1) := by decide +kernel
theorem dX11_takeWord_60 : decode cX11_takeWord 60 = .ok (.aload_n 0, 1) := by decide +kernel
theorem dX11_takeWord_61 : decode cX11_takeWord 61 = .ok (.getfield 115, 3) := by decide +kernel
theorem dX11_takeWord_64 : decode cX11_takeWord 64 = .ok (.aload_n 0, 1) := by decide +kernel
theorem dX11_takeWord_65 : decode cX11_takeWord 65 = .ok (.getfield 125, 3) := by decide +kernel
theorem dX11_takeWord_68 : decode cX11_takeWord 68 = .ok (.isub, 1) := by decide +kernel
theorem dX11_takeWord_69 : decode cX11_takeWord 69 = .ok (.putfield 132, 3) := by decide +kernel
theorem dX11_takeWord_72 : decode cX11_takeWord 72 = .ok (.return_, 1) := by decide +kernel
theorem dX11_isWord_0 : decode cX11_isWord 0 = .ok (.aload_n 0, 1) := by decide +kernel
theorem dX11_isWord_1 : decode cX11_isWord 1 = .ok (.getfield 132, 3) := by decide +kernel
theorem dX11_isWord_4 : decode cX11_isWord 4 = .ok (.iload_n 1, 1) := by decide +kernel
theorem dX11_isWord_5 : decode cX11_isWord 5 = .ok (.if_icmp .ne 7, 3) := by decide +kernel
theorem dX11_isWord_8 : decode cX11_isWord 8 = .ok (.iconst 1, 1) := by decide +kernel
theorem dX11_isWord_9 : decode cX11_isWord 9 = .ok (.goto 4, 3) := by decide +kernel
theorem dX11_isWord_12 : decode cX11_isWord 12 = .ok (.iconst 0, 1) := by decide +kernel
theorem dX11_isWord_13 : decode cX11_isWord 13 = .ok (.istore 6, 2) := by decide +kernel
theorem dX11_isWord_15 : decode cX11_isWord 15 = .ok (.iconst 0, 1) := by decide +kernel
theorem dX11_isWord_16 : decode cX11_isWord 16 = .ok (.istore 7, 2) := by decide +kernel
theorem dX11_isWord_18 : decode cX11_isWord 18 = .ok (.iload 7, 2) := by decide +kernel
theorem dX11_isWord_20 : decode cX11_isWord 20 = .ok (.iload_n 1, 1) := by decide +kernel
theorem dX11_isWord_21 : decode cX11_isWord 21 = .ok (.if_icmp .ge 74, 3) := by decide +kernel
theorem dX11_isWord_24 : decode cX11_isWord 24 = .ok (.iload 7, 2) := by decide +kernel
theorem dX11_isWord_26 : decode cX11_isWord 26 = .ok (.iconst 4, 1) := by decide +kernel
theorem dX11_isWord_27 : decode cX11_isWord 27 = .ok (.if_icmp .ge 68, 3) := by decide +kernel
theorem dX11_isWord_30 : decode cX11_isWord 30 = .ok (.iload 6, 2) := by decide +kernel
theorem dX11_isWord_32 : decode cX11_isWord 32 = .ok (.ifCond .eq 63, 3) := by decide +kernel
theorem dX11_isWord_35 : decode cX11_isWord 35 = .ok (.aload_n 0, 1) := by decide +kernel
theorem dX11_isWord_36 : decode cX11_isWord 36 = .ok (.getfield 66, 3) := by decide +kernel
theorem dX11_isWord_39 : decode cX11_isWord 39 = .ok (.aload_n 0, 1) := by decide +kernel
theorem dX11_isWord_40 : decode cX11_isWord 40 = .ok (.getfield 125, 3) := by decide +kernel
theorem dX11_isWord_43 : decode cX11_isWord 43 = .ok (.iload 7, 2) := by decide +kernel
theorem dX11_isWord_45 : decode cX11_isWord 45 = .ok (.iadd, 1) := by decide +kernel
theorem dX11_isWord_46 : decode cX11_isWord 46 = .ok (.iaload, 1) := by decide +kernel
theorem dX11_isWord_47 : decode cX11_isWord 47 = .ok (.iload 7, 2) := by decide +kernel
theorem dX11_isWord_49 : decode cX11_isWord 49 = .ok (.ifCond .ne 7, 3) := by decide +kernel
theorem dX11_isWord_52 : decode cX11_isWord 52 = .ok (.iload_n 2, 1) := by decide +kernel
theorem dX11_isWord_53 : decode cX11_isWord 53 = .ok (.goto 26, 3) := by decide +kernel
theorem dX11_isWord_56 : decode cX11_isWord 56 = .ok (.iload 7, 2) := by decide +kernel
theorem dX11_isWord_58 : decode cX11_isWord 58 = .ok (.iconst 1, 1) := by decide +kernel
theorem dX11_isWord_59 : decode cX11_isWord 59 = .ok (.if_icmp .ne 7, 3) := by decide +kernel
theorem dX11_isWord_62 : decode cX11_isWord 62 = .ok (.iload_n 3, 1) := by decide +kernel
theorem dX11_isWord_63 : decode cX11_isWord 63 = .ok (.goto 16, 3) := by decide +kernel
theorem dX11_isWord_66 : decode cX11_isWord 66 = .ok (.iload 7, 2) := by decide +kernel
theorem dX11_isWord_68 : decode cX11_isWord 68 = .ok (.iconst 2, 1) := by decide +kernel
theorem dX11_isWord_69 : decode cX11_isWord 69 = .ok (.if_icmp .ne 8, 3) := by decide +kernel
theorem dX11_isWord_72 : decode cX11_isWord 72 = .ok (.iload 4, 2) := by decide +kernel
theorem dX11_isWord_74 : decode cX11_isWord 74 = .ok (.goto 5, 3) := by decide +kernel
theorem dX11_isWord_77 : decode cX11_isWord 77 = .ok (.iload 5, 2) := by decide +kernel
theorem dX11_isWord_79 : decode cX11_isWord 79 = .ok (.if_icmp .ne 7, 3) := by decide +kernel
theorem dX11_isWord_82 : decode cX11_isWord 82 = .ok (.iconst 1, 1) := by decide +kernel
theorem dX11_isWord_83 : decode cX11_isWord 83 = .ok (.goto 4, 3) := by decide +kernel
theorem dX11_isWord_86 : decode cX11_isWord 86 = .ok (.iconst 0, 1) := by decide +kernel
theorem dX11_isWord_87 : decode cX11_isWord 87 = .ok (.istore 6, 2) := by decide +kernel
theorem dX11_isWord_89 : decode cX11_isWord 89 = .ok (.iinc 7 1, 3) := by decide +kernel
theorem dX11_isWord_92 : decode cX11_isWord 92 = .ok (.goto (-74), 3) := by decide +kernel
theorem dX11_isWord_95 : decode cX11_isWord 95 = .ok (.iload 6, 2) := by decide +kernel
theorem dX11_isWord_97 : decode cX11_isWord 97 = .ok (.ireturn, 1) := by decide +kernel
theorem dX11_isTail_0 : decode cX11_isTail 0 = .ok (.iconst 1, 1) := by decide +kernel
theorem dX11_isTail_1 : decode cX11_isTail 1 = .ok (.istore 4, 2) := by decide +kernel
theorem dX11_isTail_3 : decode cX11_isTail 3 = .ok (.iconst 4, 1) := by decide +kernel
theorem dX11_isTail_4 : decode cX11_isTail 4 = .ok (.istore 5, 2) := by decide +kernel
theorem dX11_isTail_6 : decode cX11_isTail 6 = .ok (.iload 5, 2) := by decide +kernel
theorem dX11_isTail_8 : decode cX11_isTail 8 = .ok (.aload_n 0, 1) := by decide +kernel
theorem dX11_isTail_9 : decode cX11_isTail 9 = .ok (.getfield 132, 3) := by decide +kernel
theorem dX11_isTail_12 : decode cX11_isTail 12 = .ok (.if_icmp .ge 57, 3) := by decide +kernel
theorem dX11_isTail_15 : decode cX11_isTail 15 = .ok (.iload 4, 2) := by decide +kernel
theorem dX11_isTail_17 : decode cX11_isTail 17 = .ok (.ifCond .eq 52, 3) := by decide +kernel
theorem dX11_isTail_20 : decode cX11_isTail 20 = .ok (.aload_n 0, 1) := by decide +kernel
theorem dX11_isTail_21 : decode cX11_isTail 21 = .ok (.getfield 66, 3) := by decide +kernel
theorem dX11_isTail_24 : decode cX11_isTail 24 = .ok (.aload_n 0, 1) := by decide +kernel
theorem dX11_isTail_25 : decode cX11_isTail 25 = .ok (.getfield 125, 3) := by decide +kernel
theorem dX11_isTail_28 : decode cX11_isTail 28 = .ok (.iload 5, 2) := by decide +kernel
theorem dX11_isTail_30 : decode cX11_isTail 30 = .ok (.iadd, 1) := by decide +kernel
theorem dX11_isTail_31 : decode cX11_isTail 31 = .ok (.iaload, 1) := by decide +kernel
theorem dX11_isTail_32 : decode cX11_isTail 32 = .ok (.iload 5, 2) := by decide +kernel
theorem dX11_isTail_34 : decode cX11_isTail 34 = .ok (.iconst 4, 1) := by decide +kernel
theorem dX11_isTail_35 : decode cX11_isTail 35 = .ok (.if_icmp .ne 7, 3) := by decide +kernel
theorem dX11_isTail_38 : decode cX11_isTail 38 = .ok (.iload_n 1, 1) := by decide +kernel
theorem dX11_isTail_39 : decode cX11_isTail 39 = .ok (.goto 14, 3) := by decide +kernel
theorem dX11_isTail_42 : decode cX11_isTail 42 = .ok (.iload 5, 2) := by decide +kernel
theorem dX11_isTail_44 : decode cX11_isTail 44 = .ok (.iconst 5, 1) := by decide +kernel
theorem dX11_isTail_45 : decode cX11_isTail 45 = .ok (.if_icmp .ne 7, 3) := by decide +kernel
theorem dX11_isTail_48 : decode cX11_isTail 48 = .ok (.iload_n 2, 1) := by decide +kernel
theorem dX11_isTail_49 : decode cX11_isTail 49 = .ok (.goto 4, 3) := by decide +kernel
theorem dX11_isTail_52 : decode cX11_isTail 52 = .ok (.iload_n 3, 1) := by decide +kernel
theorem dX11_isTail_53 : decode cX11_isTail 53 = .ok (.if_icmp .ne 7, 3) := by decide +kernel
theorem dX11_isTail_56 : decode cX11_isTail 56 = .ok (.iconst 1, 1) := by decide +kernel
theorem dX11_isTail_57 : decode cX11_isTail 57 = .ok (.goto 4, 3) := by decide +kernel
theorem dX11_isTail_60 : decode cX11_isTail 60 = .ok (.iconst 0, 1) := by decide +kernel
theorem dX11_isTail_61 : decode cX11_isTail 61 = .ok (.istore 4, 2) := by decide +kernel
theorem dX11_isTail_63 : decode cX11_isTail 63 = .ok (.iinc 5 1, 3) := by decide +kernel
theorem dX11_isTail_66 : decode cX11_isTail 66 = .ok (.goto (-60), 3) := by decide +kernel
theorem dX11_isTail_69 : decode cX11_isTail 69 = .ok (.iload 4, 2) := by decide +kernel
theorem dX11_isTail_71 : decode cX11_isTail 71 = .ok (.ireturn, 1) := by decide +kernel
theorem dX11_isNext_0 : decode cX11_isNext 0 = .ok (.aload_n 0, 1) := by decide +kernel
theorem dX11_isNext_1 : decode cX11_isNext 1 = .ok (.getfield 118, 3) := by decide +kernel
theorem dX11_isNext_4 : decode cX11_isNext 4 = .ok (.ifCond .le 5, 3) := by decide +kernel
theorem dX11_isNext_7 : decode cX11_isNext 7 = .ok (.iconst 0, 1) := by decide +kernel
theorem dX11_isNext_8 : decode cX11_isNext 8 = .ok (.ireturn, 1) := by decide +kernel
theorem dX11_isNext_9 : decode cX11_isNext 9 = .ok (.aload_n 0, 1) := by decide +kernel
theorem dX11_isNext_10 : decode cX11_isNext 10 = .ok (.invokevirtual 135, 3) := by decide +kernel
theorem dX11_isNext_13 : decode cX11_isNext 13 = .ok (.aload_n 0, 1) := by decide +kernel
theorem dX11_isNext_14 : decode cX11_isNext 14 = .ok (.iload_n 1, 1) := by decide +kernel
theorem dX11_isNext_15 : decode cX11_isNext 15 = .ok (.iload_n 2, 1) := by decide +kernel
theorem dX11_isNext_16 : decode cX11_isNext 16 = .ok (.iload_n 3, 1) := by decide +kernel
theorem dX11_isNext_17 : decode cX11_isNext 17 = .ok (.iload 4, 2) := by decide +kernel
theorem dX11_isNext_19 : decode cX11_isNext 19 = .ok (.iload 5, 2) := by decide +kernel
theorem dX11_isNext_21 : decode cX11_isNext 21 = .ok (.invokevirtual 138, 3) := by decide +kernel
theorem dX11_isNext_24 : decode cX11_isNext 24 = .ok (.ifCond .eq 20, 3) := by decide +kernel
theorem dX11_isNext_27 : decode cX11_isNext 27 = .ok (.aload_n 0, 1) := by decide +kernel
theorem dX11_isNext_28 : decode cX11_isNext 28 = .ok (.iload 6, 2) := by decide +kernel
theorem dX11_isNext_30 : decode cX11_isNext 30 = .ok (.iload 7, 2) := by decide +kernel
theorem dX11_isNext_32 : decode cX11_isNext 32 = .ok (.iload 8, 2) := by decide +kernel
theorem dX11_isNext_34 : decode cX11_isNext 34 = .ok (.invokevirtual 142, 3) := by decide +kernel
theorem dX11_isNext_37 : decode cX11_isNext 37 = .ok (.ifCond .eq 7, 3) := by decide +kernel
theorem dX11_isNext_40 : decode cX11_isNext 40 = .ok (.iconst 1, 1) := by decide +kernel
theorem dX11_isNext_41 : decode cX11_isNext 41 = .ok (.goto 4, 3) := by decide +kernel
theorem dX11_isNext_44 : decode cX11_isNext 44 = .ok (.iconst 0, 1) := by decide +kernel
theorem dX11_isNext_45 : decode cX11_isNext 45 = .ok (.istore 9, 2) := by decide +kernel
theorem dX11_isNext_47 : decode cX11_isNext 47 = .ok (.aload_n 0, 1) := by decide +kernel
theorem dX11_isNext_48 : decode cX11_isNext 48 = .ok (.iload 9, 2) := by decide +kernel
theorem dX11_isNext_50 : decode cX11_isNext 50 = .ok (.ifCond .eq 10, 3) := by decide +kernel
theorem dX11_isNext_53 : decode cX11_isNext 53 = .ok (.aload_n 0, 1) := by decide +kernel
theorem dX11_isNext_54 : decode cX11_isNext 54 = .ok (.getfield 115, 3) := by decide +kernel
theorem dX11_isNext_57 : decode cX11_isNext 57 = .ok (.goto 7, 3) := by decide +kernel
theorem dX11_isNext_60 : decode cX11_isNext 60 = .ok (.aload_n 0, 1) := by decide +kernel
theorem dX11_isNext_61 : decode cX11_isNext 61 = .ok (.getfield 125, 3) := by decide +kernel
theorem dX11_isNext_64 : decode cX11_isNext 64 = .ok (.putfield 115, 3) := by decide +kernel
theorem dX11_isNext_67 : decode cX11_isNext 67 = .ok (.iload 9, 2) := by decide +kernel
theorem dX11_isNext_69 : decode cX11_isNext 69 = .ok (.ireturn, 1) := by decide +kernel
theorem dX11_takeNumber_0 : decode cX11_takeNumber 0 = .ok (.aload_n 0, 1) := by decide +kernel
theorem dX11_takeNumber_1 : decode cX11_takeNumber 1 = .ok (.getfield 118, 3) := by decide +kernel
theorem dX11_takeNumber_4 : decode cX11_takeNumber 4 = .ok (.ifCond .le 5, 3) := by decide +kernel
theorem dX11_takeNumber_7 : decode cX11_takeNumber 7 = .ok (.iconst 0, 1) := by decide +kernel
theorem dX11_takeNumber_8 : decode cX11_takeNumber 8 = .ok (.ireturn, 1) := by decide +kernel
theorem dX11_takeNumber_9 : decode cX11_takeNumber 9 = .ok (.aload_n 0, 1) := by decide +kernel
theorem dX11_takeNumber_10 : decode cX11_takeNumber 10 = .ok (.invokevirtual 121, 3) := by decide +kernel
theorem dX11_takeNumber_13 : decode cX11_takeNumber 13 = .ok (.istore_n 3, 1) := by decide +kernel
theorem dX11_takeNumber_14 : decode cX11_takeNumber 14 = .ok (.aload_n 0, 1) := by decide +kernel
theorem dX11_takeNumber_15 : decode cX11_takeNumber 15 = .ok (.aload_n 0, 1) := by decide +kernel
theorem dX11_takeNumber_16 : decode cX11_takeNumber 16 = .ok (.getfield 115, 3) := by decide +kernel
theorem dX11_takeNumber_19 : decode cX11_takeNumber 19 = .ok (.putfield 125, 3) := by decide +kernel
theorem dX11_takeNumber_22 : decode cX11_takeNumber 22 = .ok (.aload_n 0, 1) := by decide +kernel
theorem dX11_takeNumber_23 : decode cX11_takeNumber 23 = .ok (.iload_n 3, 1) := by decide +kernel
theorem dX11_takeNumber_24 : decode cX11_takeNumber 24 = .ok (.i2l, 1) := by decide +kernel
theorem dX11_takeNumber_25 : decode cX11_takeNumber 25 = .ok (.ldc2_w 146, 3) := by decide +kernel
theorem dX11_takeNumber_28 : decode cX11_takeNumber 28 = .ok (.ldc2_w 148, 3) := by decide +kernel
theorem dX11_takeNumber_31 : decode cX11_takeNumber 31 = .ok (.invokestatic 104, 3) := by decide +kernel
theorem dX11_takeNumber_34 : decode cX11_takeNumber 34 = .ok (.iconst 1, 1) := by decide +kernel
theorem dX11_takeNumber_35 : decode cX11_takeNumber 35 = .ok (.aload_n 0, 1) := by decide +kernel
theorem dX11_takeNumber_36 : decode cX11_takeNumber 36 = .ok (.getfield 115, 3) := by decide +kernel
theorem dX11_takeNumber_39 : decode cX11_takeNumber 39 = .ok (.invokevirtual 150, 3) := by decide +kernel
theorem dX11_takeNumber_42 : decode cX11_takeNumber 42 = .ok (.ifCond .ne 5, 3) := by decide +kernel
theorem dX11_takeNumber_45 : decode cX11_takeNumber 45 = .ok (.iconst 0, 1) := by decide +kernel
theorem dX11_takeNumber_46 : decode cX11_takeNumber 46 = .ok (.ireturn, 1) := by decide +kernel
theorem dX11_takeNumber_47 : decode cX11_takeNumber 47 = .ok (.iconst 0, 1) := by decide +kernel
theorem dX11_takeNumber_48 : decode cX11_takeNumber 48 = .ok (.istore 4, 2) := by decide +kernel
theorem dX11_takeNumber_50 : decode cX11_takeNumber 50 = .ok (.aload_n 0, 1) := by decide +kernel
theorem dX11_takeNumber_51 : decode cX11_takeNumber 51 = .ok (.getfield 115, 3) := by decide +kernel
theorem dX11_takeNumber_54 : decode cX11_takeNumber 54 = .ok (.aload_n 0, 1) := by decide +kernel
theorem dX11_takeNumber_55 : decode cX11_takeNumber 55 = .ok (.getfield 109, 3) := by decide +kernel
theorem dX11_takeNumber_58 : decode cX11_takeNumber 58 = .ok (.if_icmp .ge 70, 3) := by decide +kernel
theorem dX11_takeNumber_61 : decode cX11_takeNumber 61 = .ok (.aload_n 0, 1) := by decide +kernel
theorem dX11_takeNumber_62 : decode cX11_takeNumber 62 = .ok (.getfield 66, 3) := by decide +kernel
theorem dX11_takeNumber_65 : decode cX11_takeNumber 65 = .ok (.aload_n 0, 1) := by decide +kernel
theorem dX11_takeNumber_66 : decode cX11_takeNumber 66 = .ok (.getfield 115, 3) := by decide +kernel
theorem dX11_takeNumber_69 : decode cX11_takeNumber 69 = .ok (.iaload, 1) := by decide +kernel
theorem dX11_takeNumber_70 : decode cX11_takeNumber 70 = .ok (.i2l, 1) := by decide +kernel
theorem dX11_takeNumber_71 : decode cX11_takeNumber 71 = .ok (.ldc2_w 146, 3) := by decide +kernel
theorem dX11_takeNumber_74 : decode cX11_takeNumber 74 = .ok (.ldc2_w 148, 3) := by decide +kernel
theorem dX11_takeNumber_77 : decode cX11_takeNumber 77 = .ok (.invokestatic 104, 3) := by decide +kernel
theorem dX11_takeNumber_80 : decode cX11_takeNumber 80 = .ok (.ifCond .eq 48, 3) := by decide +kernel
theorem dX11_takeNumber_83 : decode cX11_takeNumber 83 = .ok (.iload 4, 2) := by decide +kernel
theorem dX11_takeNumber_85 : decode cX11_takeNumber 85 = .ok (.ldc 154, 2) := by decide +kernel
theorem dX11_takeNumber_87 : decode cX11_takeNumber 87 = .ok (.if_icmp .le 8, 3) := by decide +kernel
theorem dX11_takeNumber_90 : decode cX11_takeNumber 90 = .ok (.iload 4, 2) := by decide +kernel
theorem dX11_takeNumber_92 : decode cX11_takeNumber 92 = .ok (.goto 21, 3) := by decide +kernel
theorem dX11_takeNumber_95 : decode cX11_takeNumber 95 = .ok (.bipush 10, 2) := by decide +kernel
theorem dX11_takeNumber_97 : decode cX11_takeNumber 97 = .ok (.iload 4, 2) := by decide +kernel
theorem dX11_takeNumber_99 : decode cX11_takeNumber 99 = .ok (.imul, 1) := by decide +kernel
theorem dX11_takeNumber_100 : decode cX11_takeNumber 100 = .ok (.aload_n 0, 1) := by decide +kernel
theorem dX11_takeNumber_101 : decode cX11_takeNumber 101 = .ok (.getfield 66, 3) := by decide +kernel
theorem dX11_takeNumber_104 : decode cX11_takeNumber 104 = .ok (.aload_n 0, 1) := by decide +kernel
theorem dX11_takeNumber_105 : decode cX11_takeNumber 105 = .ok (.getfield 115, 3) := by decide +kernel
theorem dX11_takeNumber_108 : decode cX11_takeNumber 108 = .ok (.iaload, 1) := by decide +kernel
theorem dX11_takeNumber_109 : decode cX11_takeNumber 109 = .ok (.iadd, 1) := by decide +kernel
theorem dX11_takeNumber_110 : decode cX11_takeNumber 110 = .ok (.bipush 48, 2) := by decide +kernel
theorem dX11_takeNumber_112 : decode cX11_takeNumber 112 = .ok (.isub, 1) := by decide +kernel
theorem dX11_takeNumber_113 : decode cX11_takeNumber 113 = .ok (.istore 4, 2) := by decide +kernel
theorem dX11_takeNumber_115 : decode cX11_takeNumber 115 = .ok (.aload_n 0, 1) := by decide +kernel
theorem dX11_takeNumber_116 : decode cX11_takeNumber 116 = .ok (.dup, 1) := by decide +kernel
theorem dX11_takeNumber_117 : decode cX11_takeNumber 117 = .ok (.getfield 115, 3) := by decide +kernel
theorem dX11_takeNumber_120 : decode cX11_takeNumber 120 = .ok (.iconst 1, 1) := by decide +kernel
theorem dX11_takeNumber_121 : decode cX11_takeNumber 121 = .ok (.iadd, 1) := by decide +kernel
theorem dX11_takeNumber_122 : decode cX11_takeNumber 122 = .ok (.putfield 115, 3) := by decide +kernel
theorem dX11_takeNumber_125 : decode cX11_takeNumber 125 = .ok (.goto (-75), 3) := by decide +kernel
theorem dX11_takeNumber_128 : decode cX11_takeNumber 128 = .ok (.aload_n 0, 1) := by decide +kernel
theorem dX11_takeNumber_129 : decode cX11_takeNumber 129 = .ok (.aload_n 0, 1) := by decide +kernel
theorem dX11_takeNumber_130 : decode cX11_takeNumber 130 = .ok (.getfield 115, 3) := by decide +kernel
theorem dX11_takeNumber_133 : decode cX11_takeNumber 133 = .ok (.aload_n 0, 1) := by decide +kernel
theorem dX11_takeNumber_134 : decode cX11_takeNumber 134 = .ok (.getfield 125, 3) := by decide +kernel
theorem dX11_takeNumber_137 : decode cX11_takeNumber 137 = .ok (.isub, 1) := by decide +kernel
theorem dX11_takeNumber_138 : decode cX11_takeNumber 138 = .ok (.iconst 4, 1) := by decide +kernel
theorem dX11_takeNumber_139 : decode cX11_takeNumber 139 = .ok (.if_icmp .ge 20, 3) := by decide +kernel
theorem dX11_takeNumber_142 : decode cX11_takeNumber 142 = .ok (.iload 4, 2) := by decide +kernel
theorem dX11_takeNumber_144 : decode cX11_takeNumber 144 = .ok (.i2l, 1) := by decide +kernel
theorem dX11_takeNumber_145 : decode cX11_takeNumber 145 = .ok (.iload_n 1, 1) := by decide +kernel
theorem dX11_takeNumber_146 : decode cX11_takeNumber 146 = .ok (.i2l, 1) := by decide +kernel
theorem dX11_takeNumber_147 : decode cX11_takeNumber 147 = .ok (.iload_n 2, 1) := by decide +kernel
theorem dX11_takeNumber_148 : decode cX11_takeNumber 148 = .ok (.i2l, 1) := by decide +kernel
theorem dX11_takeNumber_149 : decode cX11_takeNumber 149 = .ok (.invokestatic 104, 3) := by decide +kernel
theorem dX11_takeNumber_152 : decode cX11_takeNumber 152 = .ok (.ifCond .eq 7, 3) := by decide +kernel
theorem dX11_takeNumber_155 : decode cX11_takeNumber 155 = .ok (.iconst 1, 1) := by decide +kernel
theorem dX11_takeNumber_156 : decode cX11_takeNumber 156 = .ok (.goto 4, 3) := by decide +kernel
theorem dX11_takeNumber_159 : decode cX11_takeNumber 159 = .ok (.iconst 0, 1) := by decide +kernel
theorem dX11_takeNumber_160 : decode cX11_takeNumber 160 = .ok (.iconst 2, 1) := by decide +kernel
theorem dX11_takeNumber_161 : decode cX11_takeNumber 161 = .ok (.aload_n 0, 1) := by decide +kernel
theorem dX11_takeNumber_162 : decode cX11_takeNumber 162 = .ok (.getfield 125, 3) := by decide +kernel
theorem dX11_takeNumber_165 : decode cX11_takeNumber 165 = .ok (.invokevirtual 150, 3) := by decide +kernel
theorem dX11_takeNumber_168 : decode cX11_takeNumber 168 = .ok (.istore 5, 2) := by decide +kernel
theorem dX11_takeNumber_170 : decode cX11_takeNumber 170 = .ok (.iload 4, 2) := by decide +kernel
theorem dX11_takeNumber_172 : decode cX11_takeNumber 172 = .ok (.ireturn, 1) := by decide +kernel
theorem dX11_takeEnd_0 : decode cX11_takeEnd 0 = .ok (.aload_n 0, 1) := by decide +kernel
theorem dX11_takeEnd_1 : decode cX11_takeEnd 1 = .ok (.getfield 118, 3) := by decide +kernel
theorem dX11_takeEnd_4 : decode cX11_takeEnd 4 = .ok (.ifCond .ne 39, 3) := by decide +kernel
theorem dX11_takeEnd_7 : decode cX11_takeEnd 7 = .ok (.aload_n 0, 1) := by decide +kernel
theorem dX11_takeEnd_8 : decode cX11_takeEnd 8 = .ok (.aload_n 0, 1) := by decide +kernel
theorem dX11_takeEnd_9 : decode cX11_takeEnd 9 = .ok (.invokevirtual 121, 3) := by decide +kernel
theorem dX11_takeEnd_12 : decode cX11_takeEnd 12 = .ok (.bipush 59, 2) := by decide +kernel
theorem dX11_takeEnd_14 : decode cX11_takeEnd 14 = .ok (.if_icmp .ne 7, 3) := by decide +kernel
theorem dX11_takeEnd_17 : decode cX11_takeEnd 17 = .ok (.iconst 1, 1) := by decide +kernel
theorem dX11_takeEnd_18 : decode cX11_takeEnd 18 = .ok (.goto 4, 3) := by decide +kernel
theorem dX11_takeEnd_21 : decode cX11_takeEnd 21 = .ok (.iconst 0, 1) := by decide +kernel
theorem dX11_takeEnd_22 : decode cX11_takeEnd 22 = .ok (.iconst 1, 1) := by decide +kernel
theorem dX11_takeEnd_23 : decode cX11_takeEnd 23 = .ok (.aload_n 0, 1) := by decide +kernel
theorem dX11_takeEnd_24 : decode cX11_takeEnd 24 = .ok (.getfield 115, 3) := by decide +kernel
theorem dX11_takeEnd_27 : decode cX11_takeEnd 27 = .ok (.invokevirtual 150, 3) := by decide +kernel
theorem dX11_takeEnd_30 : decode cX11_takeEnd 30 = .ok (.ifCond .eq 13, 3) := by decide +kernel
theorem dX11_takeEnd_33 : decode cX11_takeEnd 33 = .ok (.aload_n 0, 1) := by decide +kernel
theorem dX11_takeEnd_34 : decode cX11_takeEnd 34 = .ok (.dup, 1) := by decide +kernel
theorem dX11_takeEnd_35 : decode cX11_takeEnd 35 = .ok (.getfield 115, 3) := by decide +kernel
theorem dX11_takeEnd_38 : decode cX11_takeEnd 38 = .ok (.iconst 1, 1) := by decide +kernel
theorem dX11_takeEnd_39 : decode cX11_takeEnd 39 = .ok (.iadd, 1) := by decide +kernel
theorem dX11_takeEnd_40 : decode cX11_takeEnd 40 = .ok (.putfield 115, 3) := by decide +kernel
theorem dX11_takeEnd_43 : decode cX11_takeEnd 43 = .ok (.return_, 1) := by decide +kernel
theorem dX11_beginReading_0 : decode cX11_beginReading 0 = .ok (.aload_n 0, 1) := by decide +kernel
theorem dX11_beginReading_1 : decode cX11_beginReading 1 = .ok (.iconst 0, 1) := by decide +kernel
theorem dX11_beginReading_2 : decode cX11_beginReading 2 = .ok (.putfield 115, 3) := by decide +kernel
theorem dX11_beginReading_5 : decode cX11_beginReading 5 = .ok (.aload_n 0, 1) := by decide +kernel
theorem dX11_beginReading_6 : decode cX11_beginReading 6 = .ok (.iconst 0, 1) := by decide +kernel
theorem dX11_beginReading_7 : decode cX11_beginReading 7 = .ok (.putfield 118, 3) := by decide +kernel
theorem dX11_beginReading_10 : decode cX11_beginReading 10 = .ok (.aload_n 0, 1) := by decide +kernel
theorem dX11_beginReading_11 : decode cX11_beginReading 11 = .ok (.iconst (-1), 1) := by decide +kernel
theorem dX11_beginReading_12 : decode cX11_beginReading 12 = .ok (.putfield 69, 3) := by decide +kernel
theorem dX11_beginReading_15 : decode cX11_beginReading 15 = .ok (.return_, 1) := by decide +kernel
theorem dX11_takePerson_0 : decode cX11_takePerson 0 = .ok (.aload_n 0, 1) := by decide +kernel
theorem dX11_takePerson_1 : decode cX11_takePerson 1 = .ok (.getfield 33, 3) := by decide +kernel
theorem dX11_takePerson_4 : decode cX11_takePerson 4 = .ok (.iconst 1, 1) := by decide +kernel
theorem dX11_takePerson_5 : decode cX11_takePerson 5 = .ok (.iaload, 1) := by decide +kernel
theorem dX11_takePerson_6 : decode cX11_takePerson 6 = .ok (.istore_n 2, 1) := by decide +kernel
theorem dX11_takePerson_7 : decode cX11_takePerson 7 = .ok (.aload_n 0, 1) := by decide +kernel
theorem dX11_takePerson_8 : decode cX11_takePerson 8 = .ok (.iload_n 2, 1) := by decide +kernel
theorem dX11_takePerson_9 : decode cX11_takePerson 9 = .ok (.bipush 24, 2) := by decide +kernel
theorem dX11_takePerson_11 : decode cX11_takePerson 11 = .ok (.if_icmp .ge 7, 3) := by decide +kernel
theorem dX11_takePerson_14 : decode cX11_takePerson 14 = .ok (.iconst 1, 1) := by decide +kernel
theorem dX11_takePerson_15 : decode cX11_takePerson 15 = .ok (.goto 4, 3) := by decide +kernel
theorem dX11_takePerson_18 : decode cX11_takePerson 18 = .ok (.iconst 0, 1) := by decide +kernel
theorem dX11_takePerson_19 : decode cX11_takePerson 19 = .ok (.iconst 3, 1) := by decide +kernel
theorem dX11_takePerson_20 : decode cX11_takePerson 20 = .ok (.iload_n 1, 1) := by decide +kernel
theorem dX11_takePerson_21 : decode cX11_takePerson 21 = .ok (.invokevirtual 150, 3) := by decide +kernel
theorem dX11_takePerson_24 : decode cX11_takePerson 24 = .ok (.ifCond .eq 92, 3) := by decide +kernel
theorem dX11_takePerson_27 : decode cX11_takePerson 27 = .ok (.aload_n 0, 1) := by decide +kernel
theorem dX11_takePerson_28 : decode cX11_takePerson 28 = .ok (.getfield 24, 3) := by decide +kernel
theorem dX11_takePerson_31 : decode cX11_takePerson 31 = .ok (.bipush 24, 2) := by decide +kernel
theorem dX11_takePerson_33 : decode cX11_takePerson 33 = .ok (.iload_n 2, 1) := by decide +kernel
theorem dX11_takePerson_34 : decode cX11_takePerson 34 = .ok (.iadd, 1) := by decide +kernel
theorem dX11_takePerson_35 : decode cX11_takePerson 35 = .ok (.aload_n 0, 1) := by decide +kernel
theorem dX11_takePerson_36 : decode cX11_takePerson 36 = .ok (.iconst 0, 1) := by decide +kernel
theorem dX11_takePerson_37 : decode cX11_takePerson 37 = .ok (.bipush 100, 2) := by decide +kernel
theorem dX11_takePerson_39 : decode cX11_takePerson 39 = .ok (.invokevirtual 155, 3) := by decide +kernel
theorem dX11_takePerson_42 : decode cX11_takePerson 42 = .ok (.iastore, 1) := by decide +kernel
theorem dX11_takePerson_43 : decode cX11_takePerson 43 = .ok (.aload_n 0, 1) := by decide +kernel
theorem dX11_takePerson_44 : decode cX11_takePerson 44 = .ok (.getfield 27, 3) := by decide +kernel
theorem dX11_takePerson_47 : decode cX11_takePerson 47 = .ok (.bipush 24, 2) := by decide +kernel
theorem dX11_takePerson_49 : decode cX11_takePerson 49 = .ok (.iload_n 2, 1) := by decide +kernel
theorem dX11_takePerson_50 : decode cX11_takePerson 50 = .ok (.iadd, 1) := by decide +kernel
theorem dX11_takePerson_51 : decode cX11_takePerson 51 = .ok (.aload_n 0, 1) := by decide +kernel
theorem dX11_takePerson_52 : decode cX11_takePerson 52 = .ok (.bipush 6, 2) := by decide +kernel
theorem dX11_takePerson_54 : decode cX11_takePerson 54 = .ok (.bipush 115, 2) := by decide +kernel
theorem dX11_takePerson_56 : decode cX11_takePerson 56 = .ok (.bipush 105, 2) := by decide +kernel
theorem dX11_takePerson_58 : decode cX11_takePerson 58 = .ok (.bipush 108, 2) := by decide +kernel
theorem dX11_takePerson_60 : decode cX11_takePerson 60 = .ok (.bipush 101, 2) := by decide +kernel
theorem dX11_takePerson_62 : decode cX11_takePerson 62 = .ok (.bipush 110, 2) := by decide +kernel
theorem dX11_takePerson_64 : decode cX11_takePerson 64 = .ok (.bipush 116, 2) := by decide +kernel
theorem dX11_takePerson_66 : decode cX11_takePerson 66 = .ok (.iconst 0, 1) := by decide +kernel
theorem dX11_takePerson_67 : decode cX11_takePerson 67 = .ok (.invokevirtual 159, 3) := by decide +kernel
theorem dX11_takePerson_70 : decode cX11_takePerson 70 = .ok (.bastore, 1) := by decide +kernel
theorem dX11_takePerson_71 : decode cX11_takePerson 71 = .ok (.aload_n 0, 1) := by decide +kernel
theorem dX11_takePerson_72 : decode cX11_takePerson 72 = .ok (.getfield 30, 3) := by decide +kernel
theorem dX11_takePerson_75 : decode cX11_takePerson 75 = .ok (.bipush 24, 2) := by decide +kernel
theorem dX11_takePerson_77 : decode cX11_takePerson 77 = .ok (.iload_n 2, 1) := by decide +kernel
theorem dX11_takePerson_78 : decode cX11_takePerson 78 = .ok (.iadd, 1) := by decide +kernel
theorem dX11_takePerson_79 : decode cX11_takePerson 79 = .ok (.aload_n 0, 1) := by decide +kernel
theorem dX11_takePerson_80 : decode cX11_takePerson 80 = .ok (.iconst 2, 1) := by decide +kernel
theorem dX11_takePerson_81 : decode cX11_takePerson 81 = .ok (.bipush 97, 2) := by decide +kernel
theorem dX11_takePerson_83 : decode cX11_takePerson 83 = .ok (.bipush 116, 2) := by decide +kernel
theorem dX11_takePerson_85 : decode cX11_takePerson 85 = .ok (.iconst 0, 1) := by decide +kernel
theorem dX11_takePerson_86 : decode cX11_takePerson 86 = .ok (.iconst 0, 1) := by decide +kernel
theorem dX11_takePerson_87 : decode cX11_takePerson 87 = .ok (.iconst 0, 1) := by decide +kernel
theorem dX11_takePerson_88 : decode cX11_takePerson 88 = .ok (.iconst 0, 1) := by decide +kernel
theorem dX11_takePerson_89 : decode cX11_takePerson 89 = .ok (.iconst 0, 1) := by decide +kernel
theorem dX11_takePerson_90 : decode cX11_takePerson 90 = .ok (.invokevirtual 159, 3) := by decide +kernel
theorem dX11_takePerson_93 : decode cX11_takePerson 93 = .ok (.ifCond .eq 12, 3) := by decide +kernel
theorem dX11_takePerson_96 : decode cX11_takePerson 96 = .ok (.aload_n 0, 1) := by decide +kernel
theorem dX11_takePerson_97 : decode cX11_takePerson 97 = .ok (.iconst 0, 1) := by decide +kernel
theorem dX11_takePerson_98 : decode cX11_takePerson 98 = .ok (.iconst 3, 1) := by decide +kernel
theorem dX11_takePerson_99 : decode cX11_takePerson 99 = .ok (.invokevirtual 155, 3) := by decide +kernel
theorem dX11_takePerson_102 : decode cX11_takePerson 102 = .ok (.goto 4, 3) := by decide +kernel
theorem dX11_takePerson_105 : decode cX11_takePerson 105 = .ok (.iconst (-1), 1) := by decide +kernel
theorem dX11_takePerson_106 : decode cX11_takePerson 106 = .ok (.iastore, 1) := by decide +kernel
theorem dX11_takePerson_107 : decode cX11_takePerson 107 = .ok (.aload_n 0, 1) := by decide +kernel
theorem dX11_takePerson_108 : decode cX11_takePerson 108 = .ok (.getfield 33, 3) := by decide +kernel
theorem dX11_takePerson_111 : decode cX11_takePerson 111 = .ok (.iconst 1, 1) := by decide +kernel
theorem dX11_takePerson_112 : decode cX11_takePerson 112 = .ok (.iload_n 2, 1) := by decide +kernel
theorem dX11_takePerson_113 : decode cX11_takePerson 113 = .ok (.iconst 1, 1) := by decide +kernel
theorem dX11_takePerson_114 : decode cX11_takePerson 114 = .ok (.iadd, 1) := by decide +kernel
theorem dX11_takePerson_115 : decode cX11_takePerson 115 = .ok (.iastore, 1) := by decide +kernel
theorem dX11_takePerson_116 : decode cX11_takePerson 116 = .ok (.return_, 1) := by decide +kernel
theorem dX11_takeTie_0 : decode cX11_takeTie 0 = .ok (.aload_n 0, 1) := by decide +kernel
theorem dX11_takeTie_1 : decode cX11_takeTie 1 = .ok (.getfield 45, 3) := by decide +kernel
theorem dX11_takeTie_4 : decode cX11_takeTie 4 = .ok (.iconst 1, 1) := by decide +kernel
theorem dX11_takeTie_5 : decode cX11_takeTie 5 = .ok (.iaload, 1) := by decide +kernel
theorem dX11_takeTie_6 : decode cX11_takeTie 6 = .ok (.istore_n 2, 1) := by decide +kernel
theorem dX11_takeTie_7 : decode cX11_takeTie 7 = .ok (.aload_n 0, 1) := by decide +kernel
theorem dX11_takeTie_8 : decode cX11_takeTie 8 = .ok (.iload_n 2, 1) := by decide +kernel
theorem dX11_takeTie_9 : decode cX11_takeTie 9 = .ok (.bipush 60, 2) := by decide +kernel
theorem dX11_takeTie_11 : decode cX11_takeTie 11 = .ok (.if_icmp .ge 7, 3) := by decide +kernel
theorem dX11_takeTie_14 : decode cX11_takeTie 14 = .ok (.iconst 1, 1) := by decide +kernel
theorem dX11_takeTie_15 : decode cX11_takeTie 15 = .ok (.goto 4, 3) := by decide +kernel
theorem dX11_takeTie_18 : decode cX11_takeTie 18 = .ok (.iconst 0, 1) := by decide +kernel
theorem dX11_takeTie_19 : decode cX11_takeTie 19 = .ok (.iconst 3, 1) := by decide +kernel
theorem dX11_takeTie_20 : decode cX11_takeTie 20 = .ok (.iload_n 1, 1) := by decide +kernel
theorem dX11_takeTie_21 : decode cX11_takeTie 21 = .ok (.invokevirtual 150, 3) := by decide +kernel
theorem dX11_takeTie_24 : decode cX11_takeTie 24 = .ok (.ifCond .eq 197, 3) := by decide +kernel
theorem dX11_takeTie_27 : decode cX11_takeTie 27 = .ok (.aload_n 0, 1) := by decide +kernel
theorem dX11_takeTie_28 : decode cX11_takeTie 28 = .ok (.iconst 0, 1) := by decide +kernel
theorem dX11_takeTie_29 : decode cX11_takeTie 29 = .ok (.aload_n 0, 1) := by decide +kernel
theorem dX11_takeTie_30 : decode cX11_takeTie 30 = .ok (.getfield 33, 3) := by decide +kernel
theorem dX11_takeTie_33 : decode cX11_takeTie 33 = .ok (.iconst 1, 1) := by decide +kernel
theorem dX11_takeTie_34 : decode cX11_takeTie 34 = .ok (.iaload, 1) := by decide +kernel
theorem dX11_takeTie_35 : decode cX11_takeTie 35 = .ok (.iconst 1, 1) := by decide +kernel
theorem dX11_takeTie_36 : decode cX11_takeTie 36 = .ok (.isub, 1) := by decide +kernel
theorem dX11_takeTie_37 : decode cX11_takeTie 37 = .ok (.invokevirtual 155, 3) := by decide +kernel
theorem dX11_takeTie_40 : decode cX11_takeTie 40 = .ok (.istore_n 3, 1) := by decide +kernel
theorem dX11_takeTie_41 : decode cX11_takeTie 41 = .ok (.aload_n 0, 1) := by decide +kernel
theorem dX11_takeTie_42 : decode cX11_takeTie 42 = .ok (.iconst 0, 1) := by decide +kernel
theorem dX11_takeTie_43 : decode cX11_takeTie 43 = .ok (.aload_n 0, 1) := by decide +kernel
theorem dX11_takeTie_44 : decode cX11_takeTie 44 = .ok (.getfield 33, 3) := by decide +kernel
theorem dX11_takeTie_47 : decode cX11_takeTie 47 = .ok (.iconst 1, 1) := by decide +kernel
theorem dX11_takeTie_48 : decode cX11_takeTie 48 = .ok (.iaload, 1) := by decide +kernel
theorem dX11_takeTie_49 : decode cX11_takeTie 49 = .ok (.iconst 1, 1) := by decide +kernel
theorem dX11_takeTie_50 : decode cX11_takeTie 50 = .ok (.isub, 1) := by decide +kernel
theorem dX11_takeTie_51 : decode cX11_takeTie 51 = .ok (.invokevirtual 155, 3) := by decide +kernel
theorem dX11_takeTie_54 : decode cX11_takeTie 54 = .ok (.istore 4, 2) := by decide +kernel
theorem dX11_takeTie_56 : decode cX11_takeTie 56 = .ok (.iload_n 3, 1) := by decide +kernel
theorem dX11_takeTie_57 : decode cX11_takeTie 57 = .ok (.iload 4, 2) := by decide +kernel
theorem dX11_takeTie_59 : decode cX11_takeTie 59 = .ok (.if_icmp .ne 7, 3) := by decide +kernel
theorem dX11_takeTie_62 : decode cX11_takeTie 62 = .ok (.iconst 1, 1) := by decide +kernel
theorem dX11_takeTie_63 : decode cX11_takeTie 63 = .ok (.goto 4, 3) := by decide +kernel
theorem dX11_takeTie_66 : decode cX11_takeTie 66 = .ok (.iconst 0, 1) := by decide +kernel
theorem dX11_takeTie_67 : decode cX11_takeTie 67 = .ok (.istore 5, 2) := by decide +kernel
theorem dX11_takeTie_69 : decode cX11_takeTie 69 = .ok (.bipush 60, 2) := by decide +kernel
theorem dX11_takeTie_71 : decode cX11_takeTie 71 = .ok (.istore 6, 2) := by decide +kernel
theorem dX11_takeTie_73 : decode cX11_takeTie 73 = .ok (.iload 6, 2) := by decide +kernel
theorem dX11_takeTie_75 : decode cX11_takeTie 75 = .ok (.bipush 60, 2) := by decide +kernel
theorem dX11_takeTie_77 : decode cX11_takeTie 77 = .ok (.iload_n 2, 1) := by decide +kernel
theorem dX11_takeTie_78 : decode cX11_takeTie 78 = .ok (.iadd, 1) := by decide +kernel
theorem dX11_takeTie_79 : decode cX11_takeTie 79 = .ok (.if_icmp .ge 67, 3) := by decide +kernel
theorem dX11_takeTie_82 : decode cX11_takeTie 82 = .ok (.iload 5, 2) := by decide +kernel
theorem dX11_takeTie_84 : decode cX11_takeTie 84 = .ok (.ifCond .ne 49, 3) := by decide +kernel
theorem dX11_takeTie_87 : decode cX11_takeTie 87 = .ok (.aload_n 0, 1) := by decide +kernel
theorem dX11_takeTie_88 : decode cX11_takeTie 88 = .ok (.getfield 36, 3) := by decide +kernel
theorem dX11_takeTie_91 : decode cX11_takeTie 91 = .ok (.iload 6, 2) := by decide +kernel
theorem dX11_takeTie_93 : decode cX11_takeTie 93 = .ok (.iaload, 1) := by decide +kernel
theorem dX11_takeTie_94 : decode cX11_takeTie 94 = .ok (.iload_n 3, 1) := by decide +kernel
theorem dX11_takeTie_95 : decode cX11_takeTie 95 = .ok (.if_icmp .ne 15, 3) := by decide +kernel
theorem dX11_takeTie_98 : decode cX11_takeTie 98 = .ok (.aload_n 0, 1) := by decide +kernel
theorem dX11_takeTie_99 : decode cX11_takeTie 99 = .ok (.getfield 39, 3) := by decide +kernel
theorem dX11_takeTie_102 : decode cX11_takeTie 102 = .ok (.iload 6, 2) := by decide +kernel
theorem dX11_takeTie_104 : decode cX11_takeTie 104 = .ok (.iaload, 1) := by decide +kernel
theorem dX11_takeTie_105 : decode cX11_takeTie 105 = .ok (.iload 4, 2) := by decide +kernel
theorem dX11_takeTie_107 : decode cX11_takeTie 107 = .ok (.if_icmp .eq 26, 3) := by decide +kernel
theorem dX11_takeTie_110 : decode cX11_takeTie 110 = .ok (.aload_n 0, 1) := by decide +kernel
theorem dX11_takeTie_111 : decode cX11_takeTie 111 = .ok (.getfield 36, 3) := by decide +kernel
theorem dX11_takeTie_114 : decode cX11_takeTie 114 = .ok (.iload 6, 2) := by decide +kernel
theorem dX11_takeTie_116 : decode cX11_takeTie 116 = .ok (.iaload, 1) := by decide +kernel
theorem dX11_takeTie_117 : decode cX11_takeTie 117 = .ok (.iload 4, 2) := by decide +kernel
theorem dX11_takeTie_119 : decode cX11_takeTie 119 = .ok (.if_icmp .ne 18, 3) := by decide +kernel
theorem dX11_takeTie_122 : decode cX11_takeTie 122 = .ok (.aload_n 0, 1) := by decide +kernel
theorem dX11_takeTie_123 : decode cX11_takeTie 123 = .ok (.getfield 39, 3) := by decide +kernel
theorem dX11_takeTie_126 : decode cX11_takeTie 126 = .ok (.iload 6, 2) := by decide +kernel
theorem dX11_takeTie_128 : decode cX11_takeTie 128 = .ok (.iaload, 1) := by decide +kernel
theorem dX11_takeTie_129 : decode cX11_takeTie 129 = .ok (.iload_n 3, 1) := by decide +kernel
theorem dX11_takeTie_130 : decode cX11_takeTie 130 = .ok (.if_icmp .ne 7, 3) := by decide +kernel
theorem dX11_takeTie_133 : decode cX11_takeTie 133 = .ok (.iconst 1, 1) := by decide +kernel
theorem dX11_takeTie_134 : decode cX11_takeTie 134 = .ok (.goto 4, 3) := by decide +kernel
theorem dX11_takeTie_137 : decode cX11_takeTie 137 = .ok (.iconst 0, 1) := by decide +kernel
theorem dX11_takeTie_138 : decode cX11_takeTie 138 = .ok (.istore 5, 2) := by decide +kernel
theorem dX11_takeTie_140 : decode cX11_takeTie 140 = .ok (.iinc 6 1, 3) := by decide +kernel
theorem dX11_takeTie_143 : decode cX11_takeTie 143 = .ok (.goto (-70), 3) := by decide +kernel
theorem dX11_takeTie_146 : decode cX11_takeTie 146 = .ok (.aload_n 0, 1) := by decide +kernel
theorem dX11_takeTie_147 : decode cX11_takeTie 147 = .ok (.getfield 118, 3) := by decide +kernel
theorem dX11_takeTie_150 : decode cX11_takeTie 150 = .ok (.ifCond .ne 71, 3) := by decide +kernel
theorem dX11_takeTie_153 : decode cX11_takeTie 153 = .ok (.aload_n 0, 1) := by decide +kernel
theorem dX11_takeTie_154 : decode cX11_takeTie 154 = .ok (.iload 5, 2) := by decide +kernel
theorem dX11_takeTie_156 : decode cX11_takeTie 156 = .ok (.ifCond .ne 7, 3) := by decide +kernel
theorem dX11_takeTie_159 : decode cX11_takeTie 159 = .ok (.iconst 1, 1) := by decide +kernel
theorem dX11_takeTie_160 : decode cX11_takeTie 160 = .ok (.goto 4, 3) := by decide +kernel
theorem dX11_takeTie_163 : decode cX11_takeTie 163 = .ok (.iconst 0, 1) := by decide +kernel
theorem dX11_takeTie_164 : decode cX11_takeTie 164 = .ok (.iconst 4, 1) := by decide +kernel
theorem dX11_takeTie_165 : decode cX11_takeTie 165 = .ok (.aload_n 0, 1) := by decide +kernel
theorem dX11_takeTie_166 : decode cX11_takeTie 166 = .ok (.getfield 125, 3) := by decide +kernel
theorem dX11_takeTie_169 : decode cX11_takeTie 169 = .ok (.invokevirtual 150, 3) := by decide +kernel
theorem dX11_takeTie_172 : decode cX11_takeTie 172 = .ok (.ifCond .eq 49, 3) := by decide +kernel
theorem dX11_takeTie_175 : decode cX11_takeTie 175 = .ok (.aload_n 0, 1) := by decide +kernel
theorem dX11_takeTie_176 : decode cX11_takeTie 176 = .ok (.getfield 36, 3) := by decide +kernel
theorem dX11_takeTie_179 : decode cX11_takeTie 179 = .ok (.bipush 60, 2) := by decide +kernel
theorem dX11_takeTie_181 : decode cX11_takeTie 181 = .ok (.iload_n 2, 1) := by decide +kernel
theorem dX11_takeTie_182 : decode cX11_takeTie 182 = .ok (.iadd, 1) := by decide +kernel
theorem dX11_takeTie_183 : decode cX11_takeTie 183 = .ok (.iload_n 3, 1) := by decide +kernel
theorem dX11_takeTie_184 : decode cX11_takeTie 184 = .ok (.iastore, 1) := by decide +kernel
theorem dX11_takeTie_185 : decode cX11_takeTie 185 = .ok (.aload_n 0, 1) := by decide +kernel
theorem dX11_takeTie_186 : decode cX11_takeTie 186 = .ok (.getfield 39, 3) := by decide +kernel
theorem dX11_takeTie_189 : decode cX11_takeTie 189 = .ok (.bipush 60, 2) := by decide +kernel
theorem dX11_takeTie_191 : decode cX11_takeTie 191 = .ok (.iload_n 2, 1) := by decide +kernel
theorem dX11_takeTie_192 : decode cX11_takeTie 192 = .ok (.iadd, 1) := by decide +kernel
theorem dX11_takeTie_193 : decode cX11_takeTie 193 = .ok (.iload 4, 2) := by decide +kernel
theorem dX11_takeTie_195 : decode cX11_takeTie 195 = .ok (.iastore, 1) := by decide +kernel
theorem dX11_takeTie_196 : decode cX11_takeTie 196 = .ok (.aload_n 0, 1) := by decide +kernel
theorem dX11_takeTie_197 : decode cX11_takeTie 197 = .ok (.getfield 42, 3) := by decide +kernel
theorem dX11_takeTie_200 : decode cX11_takeTie 200 = .ok (.bipush 60, 2) := by decide +kernel
theorem dX11_takeTie_202 : decode cX11_takeTie 202 = .ok (.iload_n 2, 1) := by decide +kernel
theorem dX11_takeTie_203 : decode cX11_takeTie 203 = .ok (.iadd, 1) := by decide +kernel
theorem dX11_takeTie_204 : decode cX11_takeTie 204 = .ok (.aload_n 0, 1) := by decide +kernel
theorem dX11_takeTie_205 : decode cX11_takeTie 205 = .ok (.iconst 1, 1) := by decide +kernel
theorem dX11_takeTie_206 : decode cX11_takeTie 206 = .ok (.bipush 9, 2) := by decide +kernel
theorem dX11_takeTie_208 : decode cX11_takeTie 208 = .ok (.invokevirtual 155, 3) := by decide +kernel
theorem dX11_takeTie_211 : decode cX11_takeTie 211 = .ok (.iastore, 1) := by decide +kernel
theorem dX11_takeTie_212 : decode cX11_takeTie 212 = .ok (.aload_n 0, 1) := by decide +kernel
theorem dX11_takeTie_213 : decode cX11_takeTie 213 = .ok (.getfield 45, 3) := by decide +kernel
theorem dX11_takeTie_216 : decode cX11_takeTie 216 = .ok (.iconst 1, 1) := by decide +kernel
theorem dX11_takeTie_217 : decode cX11_takeTie 217 = .ok (.iload_n 2, 1) := by decide +kernel
theorem dX11_takeTie_218 : decode cX11_takeTie 218 = .ok (.iconst 1, 1) := by decide +kernel
theorem dX11_takeTie_219 : decode cX11_takeTie 219 = .ok (.iadd, 1) := by decide +kernel
theorem dX11_takeTie_220 : decode cX11_takeTie 220 = .ok (.iastore, 1) := by decide +kernel
theorem dX11_takeTie_221 : decode cX11_takeTie 221 = .ok (.return_, 1) := by decide +kernel
theorem dX11_clearRow_0 : decode cX11_clearRow 0 = .ok (.aload_n 0, 1) := by decide +kernel
theorem dX11_clearRow_1 : decode cX11_clearRow 1 = .ok (.getfield 7, 3) := by decide +kernel
theorem dX11_clearRow_4 : decode cX11_clearRow 4 = .ok (.sipush 866, 3) := by decide +kernel
theorem dX11_clearRow_7 : decode cX11_clearRow 7 = .ok (.iaload, 1) := by decide +kernel
theorem dX11_clearRow_8 : decode cX11_clearRow 8 = .ok (.istore_n 1, 1) := by decide +kernel
theorem dX11_clearRow_9 : decode cX11_clearRow 9 = .ok (.iconst 0, 1) := by decide +kernel
theorem dX11_clearRow_10 : decode cX11_clearRow 10 = .ok (.istore_n 2, 1) := by decide +kernel
theorem dX11_clearRow_11 : decode cX11_clearRow 11 = .ok (.iload_n 2, 1) := by decide +kernel
theorem dX11_clearRow_12 : decode cX11_clearRow 12 = .ok (.sipush 1000, 3) := by decide +kernel
theorem dX11_clearRow_15 : decode cX11_clearRow 15 = .ok (.if_icmp .ge 16, 3) := by decide +kernel
theorem dX11_clearRow_18 : decode cX11_clearRow 18 = .ok (.aload_n 0, 1) := by decide +kernel
theorem dX11_clearRow_19 : decode cX11_clearRow 19 = .ok (.getfield 7, 3) := by decide +kernel
theorem dX11_clearRow_22 : decode cX11_clearRow 22 = .ok (.iload_n 2, 1) := by decide +kernel
theorem dX11_clearRow_23 : decode cX11_clearRow 23 = .ok (.iconst 0, 1) := by decide +kernel
theorem dX11_clearRow_24 : decode cX11_clearRow 24 = .ok (.iastore, 1) := by decide +kernel
theorem dX11_clearRow_25 : decode cX11_clearRow 25 = .ok (.iinc 2 1, 3) := by decide +kernel
theorem dX11_clearRow_28 : decode cX11_clearRow 28 = .ok (.goto (-17), 3) := by decide +kernel
theorem dX11_clearRow_31 : decode cX11_clearRow 31 = .ok (.aload_n 0, 1) := by decide +kernel
theorem dX11_clearRow_32 : decode cX11_clearRow 32 = .ok (.getfield 7, 3) := by decide +kernel
theorem dX11_clearRow_35 : decode cX11_clearRow 35 = .ok (.sipush 866, 3) := by decide +kernel
theorem dX11_clearRow_38 : decode cX11_clearRow 38 = .ok (.iload_n 1, 1) := by decide +kernel
theorem dX11_clearRow_39 : decode cX11_clearRow 39 = .ok (.iastore, 1) := by decide +kernel
theorem dX11_clearRow_40 : decode cX11_clearRow 40 = .ok (.aload_n 0, 1) := by decide +kernel
theorem dX11_clearRow_41 : decode cX11_clearRow 41 = .ok (.getfield 13, 3) := by decide +kernel
theorem dX11_clearRow_44 : decode cX11_clearRow 44 = .ok (.iconst 0, 1) := by decide +kernel
theorem dX11_clearRow_45 : decode cX11_clearRow 45 = .ok (.iconst 0, 1) := by decide +kernel
theorem dX11_clearRow_46 : decode cX11_clearRow 46 = .ok (.bastore, 1) := by decide +kernel
theorem dX11_clearRow_47 : decode cX11_clearRow 47 = .ok (.aload_n 0, 1) := by decide +kernel
theorem dX11_clearRow_48 : decode cX11_clearRow 48 = .ok (.getfield 13, 3) := by decide +kernel
theorem dX11_clearRow_51 : decode cX11_clearRow 51 = .ok (.iconst 1, 1) := by decide +kernel
theorem dX11_clearRow_52 : decode cX11_clearRow 52 = .ok (.iconst 0, 1) := by decide +kernel
theorem dX11_clearRow_53 : decode cX11_clearRow 53 = .ok (.bastore, 1) := by decide +kernel
theorem dX11_clearRow_54 : decode cX11_clearRow 54 = .ok (.return_, 1) := by decide +kernel
theorem dX11_town_0 : decode cX11_town 0 = .ok (.aload_n 0, 1) := by decide +kernel
theorem dX11_town_1 : decode cX11_town 1 = .ok (.invokevirtual 163, 3) := by decide +kernel
theorem dX11_town_4 : decode cX11_town 4 = .ok (.aload_n 0, 1) := by decide +kernel
theorem dX11_town_5 : decode cX11_town 5 = .ok (.getfield 33, 3) := by decide +kernel
theorem dX11_town_8 : decode cX11_town 8 = .ok (.iconst 1, 1) := by decide +kernel
theorem dX11_town_9 : decode cX11_town 9 = .ok (.iconst 0, 1) := by decide +kernel
theorem dX11_town_10 : decode cX11_town 10 = .ok (.iastore, 1) := by decide +kernel
theorem dX11_town_11 : decode cX11_town 11 = .ok (.aload_n 0, 1) := by decide +kernel
theorem dX11_town_12 : decode cX11_town 12 = .ok (.getfield 45, 3) := by decide +kernel
theorem dX11_town_15 : decode cX11_town 15 = .ok (.iconst 1, 1) := by decide +kernel
theorem dX11_town_16 : decode cX11_town 16 = .ok (.iconst 0, 1) := by decide +kernel
theorem dX11_town_17 : decode cX11_town 17 = .ok (.iastore, 1) := by decide +kernel
theorem dX11_town_18 : decode cX11_town 18 = .ok (.aload_n 0, 1) := by decide +kernel
theorem dX11_town_19 : decode cX11_town 19 = .ok (.getfield 118, 3) := by decide +kernel
theorem dX11_town_22 : decode cX11_town 22 = .ok (.ifCond .ne 89, 3) := by decide +kernel
theorem dX11_town_25 : decode cX11_town 25 = .ok (.aload_n 0, 1) := by decide +kernel
theorem dX11_town_26 : decode cX11_town 26 = .ok (.invokevirtual 121, 3) := by decide +kernel
theorem dX11_town_29 : decode cX11_town 29 = .ok (.ifCond .lt 82, 3) := by decide +kernel
theorem dX11_town_32 : decode cX11_town 32 = .ok (.aload_n 0, 1) := by decide +kernel
theorem dX11_town_33 : decode cX11_town 33 = .ok (.invokevirtual 135, 3) := by decide +kernel
theorem dX11_town_36 : decode cX11_town 36 = .ok (.aload_n 0, 1) := by decide +kernel
theorem dX11_town_37 : decode cX11_town 37 = .ok (.getfield 125, 3) := by decide +kernel
theorem dX11_town_40 : decode cX11_town 40 = .ok (.istore_n 1, 1) := by decide +kernel
theorem dX11_town_41 : decode cX11_town 41 = .ok (.aload_n 0, 1) := by decide +kernel
theorem dX11_town_42 : decode cX11_town 42 = .ok (.bipush 6, 2) := by decide +kernel
theorem dX11_town_44 : decode cX11_town 44 = .ok (.bipush 112, 2) := by decide +kernel
theorem dX11_town_46 : decode cX11_town 46 = .ok (.bipush 101, 2) := by decide +kernel
theorem dX11_town_48 : decode cX11_town 48 = .ok (.bipush 114, 2) := by decide +kernel
theorem dX11_town_50 : decode cX11_town 50 = .ok (.bipush 115, 2) := by decide +kernel
theorem dX11_town_52 : decode cX11_town 52 = .ok (.invokevirtual 138, 3) := by decide +kernel
theorem dX11_town_55 : decode cX11_town 55 = .ok (.ifCond .eq 23, 3) := by decide +kernel
theorem dX11_town_58 : decode cX11_town 58 = .ok (.aload_n 0, 1) := by decide +kernel
theorem dX11_town_59 : decode cX11_town 59 = .ok (.bipush 111, 2) := by decide +kernel
theorem dX11_town_61 : decode cX11_town 61 = .ok (.bipush 110, 2) := by decide +kernel
theorem dX11_town_63 : decode cX11_town 63 = .ok (.iconst 0, 1) := by decide +kernel
theorem dX11_town_64 : decode cX11_town 64 = .ok (.invokevirtual 142, 3) := by decide +kernel
theorem dX11_town_67 : decode cX11_town 67 = .ok (.ifCond .eq 11, 3) := by decide +kernel
theorem dX11_town_70 : decode cX11_town 70 = .ok (.aload_n 0, 1) := by decide +kernel
theorem dX11_town_71 : decode cX11_town 71 = .ok (.iload_n 1, 1) := by decide +kernel
theorem dX11_town_72 : decode cX11_town 72 = .ok (.invokevirtual 166, 3) := by decide +kernel
theorem dX11_town_75 : decode cX11_town 75 = .ok (.goto 29, 3) := by decide +kernel
theorem dX11_town_78 : decode cX11_town 78 = .ok (.aload_n 0, 1) := by decide +kernel
theorem dX11_town_79 : decode cX11_town 79 = .ok (.aload_n 0, 1) := by decide +kernel
theorem dX11_town_80 : decode cX11_town 80 = .ok (.iconst 3, 1) := by decide +kernel
theorem dX11_town_81 : decode cX11_town 81 = .ok (.bipush 116, 2) := by decide +kernel
theorem dX11_town_83 : decode cX11_town 83 = .ok (.bipush 105, 2) := by decide +kernel
theorem dX11_town_85 : decode cX11_town 85 = .ok (.bipush 101, 2) := by decide +kernel
theorem dX11_town_87 : decode cX11_town 87 = .ok (.iconst 0, 1) := by decide +kernel
theorem dX11_town_88 : decode cX11_town 88 = .ok (.invokevirtual 138, 3) := by decide +kernel
theorem dX11_town_91 : decode cX11_town 91 = .ok (.iconst 1, 1) := by decide +kernel
theorem dX11_town_92 : decode cX11_town 92 = .ok (.iload_n 1, 1) := by decide +kernel
theorem dX11_town_93 : decode cX11_town 93 = .ok (.invokevirtual 150, 3) := by decide +kernel
theorem dX11_town_96 : decode cX11_town 96 = .ok (.ifCond .eq 8, 3) := by decide +kernel
theorem dX11_town_99 : decode cX11_town 99 = .ok (.aload_n 0, 1) := by decide +kernel
theorem dX11_town_100 : decode cX11_town 100 = .ok (.iload_n 1, 1) := by decide +kernel
theorem dX11_town_101 : decode cX11_town 101 = .ok (.invokevirtual 170, 3) := by decide +kernel
theorem dX11_town_104 : decode cX11_town 104 = .ok (.aload_n 0, 1) := by decide +kernel
theorem dX11_town_105 : decode cX11_town 105 = .ok (.invokevirtual 173, 3) := by decide +kernel
theorem dX11_town_108 : decode cX11_town 108 = .ok (.goto (-90), 3) := by decide +kernel
theorem dX11_town_111 : decode cX11_town 111 = .ok (.aload_n 0, 1) := by decide +kernel
theorem dX11_town_112 : decode cX11_town 112 = .ok (.iconst 0, 1) := by decide +kernel
theorem dX11_town_113 : decode cX11_town 113 = .ok (.putfield 109, 3) := by decide +kernel
theorem dX11_town_116 : decode cX11_town 116 = .ok (.aload_n 0, 1) := by decide +kernel
theorem dX11_town_117 : decode cX11_town 117 = .ok (.getfield 118, 3) := by decide +kernel
theorem dX11_town_120 : decode cX11_town 120 = .ok (.ifCond .le 11, 3) := by decide +kernel
theorem dX11_town_123 : decode cX11_town 123 = .ok (.bipush (-10), 2) := by decide +kernel
theorem dX11_town_125 : decode cX11_town 125 = .ok (.aload_n 0, 1) := by decide +kernel
theorem dX11_town_126 : decode cX11_town 126 = .ok (.getfield 118, 3) := by decide +kernel
theorem dX11_town_129 : decode cX11_town 129 = .ok (.isub, 1) := by decide +kernel
theorem dX11_town_130 : decode cX11_town 130 = .ok (.ireturn, 1) := by decide +kernel
theorem dX11_town_131 : decode cX11_town 131 = .ok (.aload_n 0, 1) := by decide +kernel
theorem dX11_town_132 : decode cX11_town 132 = .ok (.getfield 33, 3) := by decide +kernel
theorem dX11_town_135 : decode cX11_town 135 = .ok (.iconst 0, 1) := by decide +kernel
theorem dX11_town_136 : decode cX11_town 136 = .ok (.aload_n 0, 1) := by decide +kernel
theorem dX11_town_137 : decode cX11_town 137 = .ok (.getfield 33, 3) := by decide +kernel
theorem dX11_town_140 : decode cX11_town 140 = .ok (.iconst 1, 1) := by decide +kernel
theorem dX11_town_141 : decode cX11_town 141 = .ok (.iaload, 1) := by decide +kernel
theorem dX11_town_142 : decode cX11_town 142 = .ok (.iastore, 1) := by decide +kernel
theorem dX11_town_143 : decode cX11_town 143 = .ok (.iconst 0, 1) := by decide +kernel
theorem dX11_town_144 : decode cX11_town 144 = .ok (.istore_n 1, 1) := by decide +kernel
theorem dX11_town_145 : decode cX11_town 145 = .ok (.iload_n 1, 1) := by decide +kernel
theorem dX11_town_146 : decode cX11_town 146 = .ok (.bipush 24, 2) := by decide +kernel
theorem dX11_town_148 : decode cX11_town 148 = .ok (.if_icmp .ge 54, 3) := by decide +kernel
theorem dX11_town_151 : decode cX11_town 151 = .ok (.aload_n 0, 1) := by decide +kernel
theorem dX11_town_152 : decode cX11_town 152 = .ok (.getfield 24, 3) := by decide +kernel
theorem dX11_town_155 : decode cX11_town 155 = .ok (.iload_n 1, 1) := by decide +kernel
theorem dX11_town_156 : decode cX11_town 156 = .ok (.aload_n 0, 1) := by decide +kernel
theorem dX11_town_157 : decode cX11_town 157 = .ok (.getfield 24, 3) := by decide +kernel
theorem dX11_town_160 : decode cX11_town 160 = .ok (.bipush 24, 2) := by decide +kernel
theorem dX11_town_162 : decode cX11_town 162 = .ok (.iload_n 1, 1) := by decide +kernel
theorem dX11_town_163 : decode cX11_town 163 = .ok (.iadd, 1) := by decide +kernel
theorem dX11_town_164 : decode cX11_town 164 = .ok (.iaload, 1) := by decide +kernel
theorem dX11_town_165 : decode cX11_town 165 = .ok (.iastore, 1) := by decide +kernel
theorem dX11_town_166 : decode cX11_town 166 = .ok (.aload_n 0, 1) := by decide +kernel
theorem dX11_town_167 : decode cX11_town 167 = .ok (.getfield 27, 3) := by decide +kernel
theorem dX11_town_170 : decode cX11_town 170 = .ok (.iload_n 1, 1) := by decide +kernel
theorem dX11_town_171 : decode cX11_town 171 = .ok (.aload_n 0, 1) := by decide +kernel
theorem dX11_town_172 : decode cX11_town 172 = .ok (.getfield 27, 3) := by decide +kernel
theorem dX11_town_175 : decode cX11_town 175 = .ok (.bipush 24, 2) := by decide +kernel
theorem dX11_town_177 : decode cX11_town 177 = .ok (.iload_n 1, 1) := by decide +kernel
theorem dX11_town_178 : decode cX11_town 178 = .ok (.iadd, 1) := by decide +kernel
theorem dX11_town_179 : decode cX11_town 179 = .ok (.baload, 1) := by decide +kernel
theorem dX11_town_180 : decode cX11_town 180 = .ok (.bastore, 1) := by decide +kernel
theorem dX11_town_181 : decode cX11_town 181 = .ok (.aload_n 0, 1) := by decide +kernel
theorem dX11_town_182 : decode cX11_town 182 = .ok (.getfield 30, 3) := by decide +kernel
theorem dX11_town_185 : decode cX11_town 185 = .ok (.iload_n 1, 1) := by decide +kernel
theorem dX11_town_186 : decode cX11_town 186 = .ok (.aload_n 0, 1) := by decide +kernel
theorem dX11_town_187 : decode cX11_town 187 = .ok (.getfield 30, 3) := by decide +kernel
theorem dX11_town_190 : decode cX11_town 190 = .ok (.bipush 24, 2) := by decide +kernel
theorem dX11_town_192 : decode cX11_town 192 = .ok (.iload_n 1, 1) := by decide +kernel
theorem dX11_town_193 : decode cX11_town 193 = .ok (.iadd, 1) := by decide +kernel
theorem dX11_town_194 : decode cX11_town 194 = .ok (.iaload, 1) := by decide +kernel
theorem dX11_town_195 : decode cX11_town 195 = .ok (.iastore, 1) := by decide +kernel
theorem dX11_town_196 : decode cX11_town 196 = .ok (.iinc 1 1, 3) := by decide +kernel
theorem dX11_town_199 : decode cX11_town 199 = .ok (.goto (-54), 3) := by decide +kernel
theorem dX11_town_202 : decode cX11_town 202 = .ok (.aload_n 0, 1) := by decide +kernel
theorem dX11_town_203 : decode cX11_town 203 = .ok (.getfield 45, 3) := by decide +kernel
theorem dX11_town_206 : decode cX11_town 206 = .ok (.iconst 0, 1) := by decide +kernel
theorem dX11_town_207 : decode cX11_town 207 = .ok (.aload_n 0, 1) := by decide +kernel
theorem dX11_town_208 : decode cX11_town 208 = .ok (.getfield 45, 3) := by decide +kernel
theorem dX11_town_211 : decode cX11_town 211 = .ok (.iconst 1, 1) := by decide +kernel
theorem dX11_town_212 : decode cX11_town 212 = .ok (.iaload, 1) := by decide +kernel
theorem dX11_town_213 : decode cX11_town 213 = .ok (.iastore, 1) := by decide +kernel
theorem dX11_town_214 : decode cX11_town 214 = .ok (.iconst 0, 1) := by decide +kernel
theorem dX11_town_215 : decode cX11_town 215 = .ok (.istore_n 1, 1) := by decide +kernel
theorem dX11_town_216 : decode cX11_town 216 = .ok (.iload_n 1, 1) := by decide +kernel
theorem dX11_town_217 : decode cX11_town 217 = .ok (.bipush 60, 2) := by decide +kernel
theorem dX11_town_219 : decode cX11_town 219 = .ok (.if_icmp .ge 54, 3) := by decide +kernel
theorem dX11_town_222 : decode cX11_town 222 = .ok (.aload_n 0, 1) := by decide +kernel
theorem dX11_town_223 : decode cX11_town 223 = .ok (.getfield 36, 3) := by decide +kernel
theorem dX11_town_226 : decode cX11_town 226 = .ok (.iload_n 1, 1) := by decide +kernel
theorem dX11_town_227 : decode cX11_town 227 = .ok (.aload_n 0, 1) := by decide +kernel
theorem dX11_town_228 : decode cX11_town 228 = .ok (.getfield 36, 3) := by decide +kernel
theorem dX11_town_231 : decode cX11_town 231 = .ok (.bipush 60, 2) := by decide +kernel
theorem dX11_town_233 : decode cX11_town 233 = .ok (.iload_n 1, 1) := by decide +kernel
theorem dX11_town_234 : decode cX11_town 234 = .ok (.iadd, 1) := by decide +kernel
theorem dX11_town_235 : decode cX11_town 235 = .ok (.iaload, 1) := by decide +kernel
theorem dX11_town_236 : decode cX11_town 236 = .ok (.iastore, 1) := by decide +kernel
theorem dX11_town_237 : decode cX11_town 237 = .ok (.aload_n 0, 1) := by decide +kernel
theorem dX11_town_238 : decode cX11_town 238 = .ok (.getfield 39, 3) := by decide +kernel
theorem dX11_town_241 : decode cX11_town 241 = .ok (.iload_n 1, 1) := by decide +kernel
theorem dX11_town_242 : decode cX11_town 242 = .ok (.aload_n 0, 1) := by decide +kernel
theorem dX11_town_243 : decode cX11_town 243 = .ok (.getfield 39, 3) := by decide +kernel
theorem dX11_town_246 : decode cX11_town 246 = .ok (.bipush 60, 2) := by decide +kernel
theorem dX11_town_248 : decode cX11_town 248 = .ok (.iload_n 1, 1) := by decide +kernel
theorem dX11_town_249 : decode cX11_town 249 = .ok (.iadd, 1) := by decide +kernel
theorem dX11_town_250 : decode cX11_town 250 = .ok (.iaload, 1) := by decide +kernel
theorem dX11_town_251 : decode cX11_town 251 = .ok (.iastore, 1) := by decide +kernel
theorem dX11_town_252 : decode cX11_town 252 = .ok (.aload_n 0, 1) := by decide +kernel
theorem dX11_town_253 : decode cX11_town 253 = .ok (.getfield 42, 3) := by decide +kernel
theorem dX11_town_256 : decode cX11_town 256 = .ok (.iload_n 1, 1) := by decide +kernel
theorem dX11_town_257 : decode cX11_town 257 = .ok (.aload_n 0, 1) := by decide +kernel
theorem dX11_town_258 : decode cX11_town 258 = .ok (.getfield 42, 3) := by decide +kernel
theorem dX11_town_261 : decode cX11_town 261 = .ok (.bipush 60, 2) := by decide +kernel
theorem dX11_town_263 : decode cX11_town 263 = .ok (.iload_n 1, 1) := by decide +kernel
theorem dX11_town_264 : decode cX11_town 264 = .ok (.iadd, 1) := by decide +kernel
theorem dX11_town_265 : decode cX11_town 265 = .ok (.iaload, 1) := by decide +kernel
theorem dX11_town_266 : decode cX11_town 266 = .ok (.iastore, 1) := by decide +kernel
theorem dX11_town_267 : decode cX11_town 267 = .ok (.iinc 1 1, 3) := by decide +kernel
theorem dX11_town_270 : decode cX11_town 270 = .ok (.goto (-54), 3) := by decide +kernel
theorem dX11_town_273 : decode cX11_town 273 = .ok (.aload_n 0, 1) := by decide +kernel
theorem dX11_town_274 : decode cX11_town 274 = .ok (.invokevirtual 176, 3) := by decide +kernel
theorem dX11_town_277 : decode cX11_town 277 = .ok (.aload_n 0, 1) := by decide +kernel
theorem dX11_town_278 : decode cX11_town 278 = .ok (.iconst 0, 1) := by decide +kernel
theorem dX11_town_279 : decode cX11_town 279 = .ok (.putfield 179, 3) := by decide +kernel
theorem dX11_town_282 : decode cX11_town 282 = .ok (.aload_n 0, 1) := by decide +kernel
theorem dX11_town_283 : decode cX11_town 283 = .ok (.getfield 33, 3) := by decide +kernel
theorem dX11_town_286 : decode cX11_town 286 = .ok (.iconst 0, 1) := by decide +kernel
theorem dX11_town_287 : decode cX11_town 287 = .ok (.iaload, 1) := by decide +kernel
theorem dX11_town_288 : decode cX11_town 288 = .ok (.ireturn, 1) := by decide +kernel
theorem dX11_takeSaying_0 : decode cX11_takeSaying 0 = .ok (.aload_n 0, 1) := by decide +kernel
theorem dX11_takeSaying_1 : decode cX11_takeSaying 1 = .ok (.getfield 63, 3) := by decide +kernel
theorem dX11_takeSaying_4 : decode cX11_takeSaying 4 = .ok (.iconst 1, 1) := by decide +kernel
theorem dX11_takeSaying_5 : decode cX11_takeSaying 5 = .ok (.iaload, 1) := by decide +kernel
theorem dX11_takeSaying_6 : decode cX11_takeSaying 6 = .ok (.istore_n 1, 1) := by decide +kernel
theorem dX11_takeSaying_7 : decode cX11_takeSaying 7 = .ok (.bipush 6, 2) := by decide +kernel
theorem dX11_takeSaying_9 : decode cX11_takeSaying 9 = .ok (.iload_n 1, 1) := by decide +kernel
theorem dX11_takeSaying_10 : decode cX11_takeSaying 10 = .ok (.iadd, 1) := by decide +kernel
theorem dX11_takeSaying_11 : decode cX11_takeSaying 11 = .ok (.istore_n 2, 1) := by decide +kernel
theorem dX11_takeSaying_12 : decode cX11_takeSaying 12 = .ok (.aload_n 0, 1) := by decide +kernel
theorem dX11_takeSaying_13 : decode cX11_takeSaying 13 = .ok (.getfield 48, 3) := by decide +kernel
theorem dX11_takeSaying_16 : decode cX11_takeSaying 16 = .ok (.iload_n 2, 1) := by decide +kernel
theorem dX11_takeSaying_17 : decode cX11_takeSaying 17 = .ok (.aload_n 0, 1) := by decide +kernel
theorem dX11_takeSaying_18 : decode cX11_takeSaying 18 = .ok (.iconst 4, 1) := by decide +kernel
theorem dX11_takeSaying_19 : decode cX11_takeSaying 19 = .ok (.bipush 97, 2) := by decide +kernel
theorem dX11_takeSaying_21 : decode cX11_takeSaying 21 = .ok (.bipush 115, 2) := by decide +kernel
theorem dX11_takeSaying_23 : decode cX11_takeSaying 23 = .ok (.bipush 107, 2) := by decide +kernel
theorem dX11_takeSaying_25 : decode cX11_takeSaying 25 = .ok (.bipush 115, 2) := by decide +kernel
theorem dX11_takeSaying_27 : decode cX11_takeSaying 27 = .ok (.iconst 0, 1) := by decide +kernel
theorem dX11_takeSaying_28 : decode cX11_takeSaying 28 = .ok (.iconst 0, 1) := by decide +kernel
theorem dX11_takeSaying_29 : decode cX11_takeSaying 29 = .ok (.iconst 0, 1) := by decide +kernel
theorem dX11_takeSaying_30 : decode cX11_takeSaying 30 = .ok (.invokevirtual 159, 3) := by decide +kernel
theorem dX11_takeSaying_33 : decode cX11_takeSaying 33 = .ok (.ifCond .eq 13, 3) := by decide +kernel
theorem dX11_takeSaying_36 : decode cX11_takeSaying 36 = .ok (.aload_n 0, 1) := by decide +kernel
theorem dX11_takeSaying_37 : decode cX11_takeSaying 37 = .ok (.iconst 0, 1) := by decide +kernel
theorem dX11_takeSaying_38 : decode cX11_takeSaying 38 = .ok (.bipush 9, 2) := by decide +kernel
theorem dX11_takeSaying_40 : decode cX11_takeSaying 40 = .ok (.invokevirtual 155, 3) := by decide +kernel
theorem dX11_takeSaying_43 : decode cX11_takeSaying 43 = .ok (.goto 4, 3) := by decide +kernel
theorem dX11_takeSaying_46 : decode cX11_takeSaying 46 = .ok (.iconst (-1), 1) := by decide +kernel
theorem dX11_takeSaying_47 : decode cX11_takeSaying 47 = .ok (.iastore, 1) := by decide +kernel
theorem dX11_takeSaying_48 : decode cX11_takeSaying 48 = .ok (.aload_n 0, 1) := by decide +kernel
theorem dX11_takeSaying_49 : decode cX11_takeSaying 49 = .ok (.getfield 51, 3) := by decide +kernel
theorem dX11_takeSaying_52 : decode cX11_takeSaying 52 = .ok (.iload_n 2, 1) := by decide +kernel
theorem dX11_takeSaying_53 : decode cX11_takeSaying 53 = .ok (.aload_n 0, 1) := by decide +kernel
theorem dX11_takeSaying_54 : decode cX11_takeSaying 54 = .ok (.bipush 7, 2) := by decide +kernel
theorem dX11_takeSaying_56 : decode cX11_takeSaying 56 = .ok (.bipush 97, 2) := by decide +kernel
theorem dX11_takeSaying_58 : decode cX11_takeSaying 58 = .ok (.bipush 110, 2) := by decide +kernel
theorem dX11_takeSaying_60 : decode cX11_takeSaying 60 = .ok (.bipush 115, 2) := by decide +kernel
theorem dX11_takeSaying_62 : decode cX11_takeSaying 62 = .ok (.bipush 119, 2) := by decide +kernel
theorem dX11_takeSaying_64 : decode cX11_takeSaying 64 = .ok (.bipush 101, 2) := by decide +kernel
theorem dX11_takeSaying_66 : decode cX11_takeSaying 66 = .ok (.bipush 114, 2) := by decide +kernel
theorem dX11_takeSaying_68 : decode cX11_takeSaying 68 = .ok (.bipush 115, 2) := by decide +kernel
theorem dX11_takeSaying_70 : decode cX11_takeSaying 70 = .ok (.invokevirtual 159, 3) := by decide +kernel
theorem dX11_takeSaying_73 : decode cX11_takeSaying 73 = .ok (.ifCond .eq 13, 3) := by decide +kernel
theorem dX11_takeSaying_76 : decode cX11_takeSaying 76 = .ok (.aload_n 0, 1) := by decide +kernel
theorem dX11_takeSaying_77 : decode cX11_takeSaying 77 = .ok (.iconst 0, 1) := by decide +kernel
theorem dX11_takeSaying_78 : decode cX11_takeSaying 78 = .ok (.bipush 9, 2) := by decide +kernel
theorem dX11_takeSaying_80 : decode cX11_takeSaying 80 = .ok (.invokevirtual 155, 3) := by decide +kernel
theorem dX11_takeSaying_83 : decode cX11_takeSaying 83 = .ok (.goto 4, 3) := by decide +kernel
theorem dX11_takeSaying_86 : decode cX11_takeSaying 86 = .ok (.iconst (-1), 1) := by decide +kernel
theorem dX11_takeSaying_87 : decode cX11_takeSaying 87 = .ok (.iastore, 1) := by decide +kernel
theorem dX11_takeSaying_88 : decode cX11_takeSaying 88 = .ok (.aload_n 0, 1) := by decide +kernel
theorem dX11_takeSaying_89 : decode cX11_takeSaying 89 = .ok (.getfield 54, 3) := by decide +kernel
theorem dX11_takeSaying_92 : decode cX11_takeSaying 92 = .ok (.iload_n 2, 1) := by decide +kernel
theorem dX11_takeSaying_93 : decode cX11_takeSaying 93 = .ok (.iconst 0, 1) := by decide +kernel
theorem dX11_takeSaying_94 : decode cX11_takeSaying 94 = .ok (.iastore, 1) := by decide +kernel
theorem dX11_takeSaying_95 : decode cX11_takeSaying 95 = .ok (.aload_n 0, 1) := by decide +kernel
theorem dX11_takeSaying_96 : decode cX11_takeSaying 96 = .ok (.iconst 4, 1) := by decide +kernel
theorem dX11_takeSaying_97 : decode cX11_takeSaying 97 = .ok (.bipush 98, 2) := by decide +kernel
theorem dX11_takeSaying_99 : decode cX11_takeSaying 99 = .ok (.bipush 97, 2) := by decide +kernel
theorem dX11_takeSaying_101 : decode cX11_takeSaying 101 = .ok (.bipush 114, 2) := by decide +kernel
theorem dX11_takeSaying_103 : decode cX11_takeSaying 103 = .ok (.bipush 115, 2) := by decide +kernel
theorem dX11_takeSaying_105 : decode cX11_takeSaying 105 = .ok (.iconst 0, 1) := by decide +kernel
theorem dX11_takeSaying_106 : decode cX11_takeSaying 106 = .ok (.iconst 0, 1) := by decide +kernel
theorem dX11_takeSaying_107 : decode cX11_takeSaying 107 = .ok (.iconst 0, 1) := by decide +kernel
theorem dX11_takeSaying_108 : decode cX11_takeSaying 108 = .ok (.invokevirtual 159, 3) := by decide +kernel
theorem dX11_takeSaying_111 : decode cX11_takeSaying 111 = .ok (.istore_n 3, 1) := by decide +kernel
theorem dX11_takeSaying_112 : decode cX11_takeSaying 112 = .ok (.iload_n 3, 1) := by decide +kernel
theorem dX11_takeSaying_113 : decode cX11_takeSaying 113 = .ok (.ifCond .eq 102, 3) := by decide +kernel
theorem dX11_takeSaying_116 : decode cX11_takeSaying 116 = .ok (.aload_n 0, 1) := by decide +kernel
theorem dX11_takeSaying_117 : decode cX11_takeSaying 117 = .ok (.getfield 118, 3) := by decide +kernel
theorem dX11_takeSaying_120 : decode cX11_takeSaying 120 = .ok (.ifCond .ne 95, 3) := by decide +kernel
theorem dX11_takeSaying_123 : decode cX11_takeSaying 123 = .ok (.aload_n 0, 1) := by decide +kernel
theorem dX11_takeSaying_124 : decode cX11_takeSaying 124 = .ok (.iconst 0, 1) := by decide +kernel
theorem dX11_takeSaying_125 : decode cX11_takeSaying 125 = .ok (.iload_n 1, 1) := by decide +kernel
theorem dX11_takeSaying_126 : decode cX11_takeSaying 126 = .ok (.iconst 1, 1) := by decide +kernel
theorem dX11_takeSaying_127 : decode cX11_takeSaying 127 = .ok (.isub, 1) := by decide +kernel
theorem dX11_takeSaying_128 : decode cX11_takeSaying 128 = .ok (.invokevirtual 155, 3) := by decide +kernel
theorem dX11_takeSaying_131 : decode cX11_takeSaying 131 = .ok (.istore 4, 2) := by decide +kernel
theorem dX11_takeSaying_133 : decode cX11_takeSaying 133 = .ok (.aload_n 0, 1) := by decide +kernel
theorem dX11_takeSaying_134 : decode cX11_takeSaying 134 = .ok (.getfield 118, 3) := by decide +kernel
theorem dX11_takeSaying_137 : decode cX11_takeSaying 137 = .ok (.ifCond .ne 75, 3) := by decide +kernel
theorem dX11_takeSaying_140 : decode cX11_takeSaying 140 = .ok (.aload_n 0, 1) := by decide +kernel
theorem dX11_takeSaying_141 : decode cX11_takeSaying 141 = .ok (.aload_n 0, 1) := by decide +kernel
theorem dX11_takeSaying_142 : decode cX11_takeSaying 142 = .ok (.getfield 54, 3) := by decide +kernel
theorem dX11_takeSaying_145 : decode cX11_takeSaying 145 = .ok (.iload_n 2, 1) := by decide +kernel
theorem dX11_takeSaying_146 : decode cX11_takeSaying 146 = .ok (.iaload, 1) := by decide +kernel
theorem dX11_takeSaying_147 : decode cX11_takeSaying 147 = .ok (.iload 4, 2) := by decide +kernel
theorem dX11_takeSaying_149 : decode cX11_takeSaying 149 = .ok (.invokestatic 182, 3) := by decide +kernel
theorem dX11_takeSaying_152 : decode cX11_takeSaying 152 = .ok (.ifCond .ne 7, 3) := by decide +kernel
theorem dX11_takeSaying_155 : decode cX11_takeSaying 155 = .ok (.iconst 1, 1) := by decide +kernel
theorem dX11_takeSaying_156 : decode cX11_takeSaying 156 = .ok (.goto 4, 3) := by decide +kernel
theorem dX11_takeSaying_159 : decode cX11_takeSaying 159 = .ok (.iconst 0, 1) := by decide +kernel
theorem dX11_takeSaying_160 : decode cX11_takeSaying 160 = .ok (.iconst 4, 1) := by decide +kernel
theorem dX11_takeSaying_161 : decode cX11_takeSaying 161 = .ok (.aload_n 0, 1) := by decide +kernel
theorem dX11_takeSaying_162 : decode cX11_takeSaying 162 = .ok (.getfield 125, 3) := by decide +kernel
theorem dX11_takeSaying_165 : decode cX11_takeSaying 165 = .ok (.invokevirtual 150, 3) := by decide +kernel
theorem dX11_takeSaying_168 : decode cX11_takeSaying 168 = .ok (.ifCond .eq 44, 3) := by decide +kernel
theorem dX11_takeSaying_171 : decode cX11_takeSaying 171 = .ok (.aload_n 0, 1) := by decide +kernel
theorem dX11_takeSaying_172 : decode cX11_takeSaying 172 = .ok (.getfield 54, 3) := by decide +kernel
theorem dX11_takeSaying_175 : decode cX11_takeSaying 175 = .ok (.iload_n 2, 1) := by decide +kernel
theorem dX11_takeSaying_176 : decode cX11_takeSaying 176 = .ok (.dup2, 1) := by decide +kernel
theorem dX11_takeSaying_177 : decode cX11_takeSaying 177 = .ok (.iaload, 1) := by decide +kernel
theorem dX11_takeSaying_178 : decode cX11_takeSaying 178 = .ok (.iconst 1, 1) := by decide +kernel
theorem dX11_takeSaying_179 : decode cX11_takeSaying 179 = .ok (.iload 4, 2) := by decide +kernel
theorem dX11_takeSaying_181 : decode cX11_takeSaying 181 = .ok (.ishl, 1) := by decide +kernel
theorem dX11_takeSaying_182 : decode cX11_takeSaying 182 = .ok (.ior, 1) := by decide +kernel
theorem dX11_takeSaying_183 : decode cX11_takeSaying 183 = .ok (.iastore, 1) := by decide +kernel
theorem dX11_takeSaying_184 : decode cX11_takeSaying 184 = .ok (.aload_n 0, 1) := by decide +kernel
theorem dX11_takeSaying_185 : decode cX11_takeSaying 185 = .ok (.invokevirtual 121, 3) := by decide +kernel
theorem dX11_takeSaying_188 : decode cX11_takeSaying 188 = .ok (.bipush 44, 2) := by decide +kernel
theorem dX11_takeSaying_190 : decode cX11_takeSaying 190 = .ok (.if_icmp .ne 7, 3) := by decide +kernel
theorem dX11_takeSaying_193 : decode cX11_takeSaying 193 = .ok (.iconst 1, 1) := by decide +kernel
theorem dX11_takeSaying_194 : decode cX11_takeSaying 194 = .ok (.goto 4, 3) := by decide +kernel
theorem dX11_takeSaying_197 : decode cX11_takeSaying 197 = .ok (.iconst 0, 1) := by decide +kernel
theorem dX11_takeSaying_198 : decode cX11_takeSaying 198 = .ok (.istore_n 3, 1) := by decide +kernel
theorem dX11_takeSaying_199 : decode cX11_takeSaying 199 = .ok (.aload_n 0, 1) := by decide +kernel
theorem dX11_takeSaying_200 : decode cX11_takeSaying 200 = .ok (.dup, 1) := by decide +kernel
theorem dX11_takeSaying_201 : decode cX11_takeSaying 201 = .ok (.getfield 115, 3) := by decide +kernel
theorem dX11_takeSaying_204 : decode cX11_takeSaying 204 = .ok (.iload_n 3, 1) := by decide +kernel
theorem dX11_takeSaying_205 : decode cX11_takeSaying 205 = .ok (.invokestatic 186, 3) := by decide +kernel
theorem dX11_takeSaying_208 : decode cX11_takeSaying 208 = .ok (.iadd, 1) := by decide +kernel
theorem dX11_takeSaying_209 : decode cX11_takeSaying 209 = .ok (.putfield 115, 3) := by decide +kernel
theorem dX11_takeSaying_212 : decode cX11_takeSaying 212 = .ok (.goto (-100), 3) := by decide +kernel
theorem dX11_takeSaying_215 : decode cX11_takeSaying 215 = .ok (.aload_n 0, 1) := by decide +kernel
theorem dX11_takeSaying_216 : decode cX11_takeSaying 216 = .ok (.getfield 57, 3) := by decide +kernel
theorem dX11_takeSaying_219 : decode cX11_takeSaying 219 = .ok (.iload_n 2, 1) := by decide +kernel
theorem dX11_takeSaying_220 : decode cX11_takeSaying 220 = .ok (.iconst (-1), 1) := by decide +kernel
theorem dX11_takeSaying_221 : decode cX11_takeSaying 221 = .ok (.iastore, 1) := by decide +kernel
theorem dX11_takeSaying_222 : decode cX11_takeSaying 222 = .ok (.aload_n 0, 1) := by decide +kernel
theorem dX11_takeSaying_223 : decode cX11_takeSaying 223 = .ok (.getfield 60, 3) := by decide +kernel
theorem dX11_takeSaying_226 : decode cX11_takeSaying 226 = .ok (.iload_n 2, 1) := by decide +kernel
theorem dX11_takeSaying_227 : decode cX11_takeSaying 227 = .ok (.iconst (-1), 1) := by decide +kernel
theorem dX11_takeSaying_228 : decode cX11_takeSaying 228 = .ok (.iastore, 1) := by decide +kernel
theorem dX11_takeSaying_229 : decode cX11_takeSaying 229 = .ok (.aload_n 0, 1) := by decide +kernel
theorem dX11_takeSaying_230 : decode cX11_takeSaying 230 = .ok (.iconst 5, 1) := by decide +kernel
theorem dX11_takeSaying_231 : decode cX11_takeSaying 231 = .ok (.bipush 106, 2) := by decide +kernel
theorem dX11_takeSaying_233 : decode cX11_takeSaying 233 = .ok (.bipush 111, 2) := by decide +kernel
theorem dX11_takeSaying_235 : decode cX11_takeSaying 235 = .ok (.bipush 105, 2) := by decide +kernel
theorem dX11_takeSaying_237 : decode cX11_takeSaying 237 = .ok (.bipush 110, 2) := by decide +kernel
theorem dX11_takeSaying_239 : decode cX11_takeSaying 239 = .ok (.bipush 115, 2) := by decide +kernel
theorem dX11_takeSaying_241 : decode cX11_takeSaying 241 = .ok (.iconst 0, 1) := by decide +kernel
theorem dX11_takeSaying_242 : decode cX11_takeSaying 242 = .ok (.iconst 0, 1) := by decide +kernel
theorem dX11_takeSaying_243 : decode cX11_takeSaying 243 = .ok (.invokevirtual 159, 3) := by decide +kernel
theorem dX11_takeSaying_246 : decode cX11_takeSaying 246 = .ok (.ifCond .eq 77, 3) := by decide +kernel
theorem dX11_takeSaying_249 : decode cX11_takeSaying 249 = .ok (.aload_n 0, 1) := by decide +kernel
theorem dX11_takeSaying_250 : decode cX11_takeSaying 250 = .ok (.getfield 57, 3) := by decide +kernel
theorem dX11_takeSaying_253 : decode cX11_takeSaying 253 = .ok (.iload_n 2, 1) := by decide +kernel
theorem dX11_takeSaying_254 : decode cX11_takeSaying 254 = .ok (.aload_n 0, 1) := by decide +kernel
theorem dX11_takeSaying_255 : decode cX11_takeSaying 255 = .ok (.iconst 0, 1) := by decide +kernel
theorem dX11_takeSaying_256 : decode cX11_takeSaying 256 = .ok (.iload_n 1, 1) := by decide +kernel
theorem dX11_takeSaying_257 : decode cX11_takeSaying 257 = .ok (.iconst 1, 1) := by decide +kernel
theorem dX11_takeSaying_258 : decode cX11_takeSaying 258 = .ok (.isub, 1) := by decide +kernel
theorem dX11_takeSaying_259 : decode cX11_takeSaying 259 = .ok (.invokevirtual 155, 3) := by decide +kernel
theorem dX11_takeSaying_262 : decode cX11_takeSaying 262 = .ok (.iastore, 1) := by decide +kernel
theorem dX11_takeSaying_263 : decode cX11_takeSaying 263 = .ok (.aload_n 0, 1) := by decide +kernel
theorem dX11_takeSaying_264 : decode cX11_takeSaying 264 = .ok (.getfield 60, 3) := by decide +kernel
theorem dX11_takeSaying_267 : decode cX11_takeSaying 267 = .ok (.iload_n 2, 1) := by decide +kernel
theorem dX11_takeSaying_268 : decode cX11_takeSaying 268 = .ok (.aload_n 0, 1) := by decide +kernel
theorem dX11_takeSaying_269 : decode cX11_takeSaying 269 = .ok (.iconst 0, 1) := by decide +kernel
theorem dX11_takeSaying_270 : decode cX11_takeSaying 270 = .ok (.iload_n 1, 1) := by decide +kernel
theorem dX11_takeSaying_271 : decode cX11_takeSaying 271 = .ok (.iconst 1, 1) := by decide +kernel
theorem dX11_takeSaying_272 : decode cX11_takeSaying 272 = .ok (.isub, 1) := by decide +kernel
theorem dX11_takeSaying_273 : decode cX11_takeSaying 273 = .ok (.invokevirtual 155, 3) := by decide +kernel
theorem dX11_takeSaying_276 : decode cX11_takeSaying 276 = .ok (.iastore, 1) := by decide +kernel
theorem dX11_takeSaying_277 : decode cX11_takeSaying 277 = .ok (.aload_n 0, 1) := by decide +kernel
theorem dX11_takeSaying_278 : decode cX11_takeSaying 278 = .ok (.getfield 118, 3) := by decide +kernel
theorem dX11_takeSaying_281 : decode cX11_takeSaying 281 = .ok (.ifCond .ne 39, 3) := by decide +kernel
theorem dX11_takeSaying_284 : decode cX11_takeSaying 284 = .ok (.aload_n 0, 1) := by decide +kernel
theorem dX11_takeSaying_285 : decode cX11_takeSaying 285 = .ok (.aload_n 0, 1) := by decide +kernel
theorem dX11_takeSaying_286 : decode cX11_takeSaying 286 = .ok (.getfield 57, 3) := by decide +kernel
theorem dX11_takeSaying_289 : decode cX11_takeSaying 289 = .ok (.iload_n 2, 1) := by decide +kernel
theorem dX11_takeSaying_290 : decode cX11_takeSaying 290 = .ok (.iaload, 1) := by decide +kernel
theorem dX11_takeSaying_291 : decode cX11_takeSaying 291 = .ok (.aload_n 0, 1) := by decide +kernel
theorem dX11_takeSaying_292 : decode cX11_takeSaying 292 = .ok (.getfield 60, 3) := by decide +kernel
theorem dX11_takeSaying_295 : decode cX11_takeSaying 295 = .ok (.iload_n 2, 1) := by decide +kernel
theorem dX11_takeSaying_296 : decode cX11_takeSaying 296 = .ok (.iaload, 1) := by decide +kernel
theorem dX11_takeSaying_297 : decode cX11_takeSaying 297 = .ok (.if_icmp .eq 7, 3) := by decide +kernel
theorem dX11_takeSaying_300 : decode cX11_takeSaying 300 = .ok (.iconst 1, 1) := by decide +kernel
theorem dX11_takeSaying_301 : decode cX11_takeSaying 301 = .ok (.goto 4, 3) := by decide +kernel
theorem dX11_takeSaying_304 : decode cX11_takeSaying 304 = .ok (.iconst 0, 1) := by decide +kernel
theorem dX11_takeSaying_305 : decode cX11_takeSaying 305 = .ok (.iconst 4, 1) := by decide +kernel
theorem dX11_takeSaying_306 : decode cX11_takeSaying 306 = .ok (.aload_n 0, 1) := by decide +kernel
theorem dX11_takeSaying_307 : decode cX11_takeSaying 307 = .ok (.getfield 125, 3) := by decide +kernel
theorem dX11_takeSaying_310 : decode cX11_takeSaying 310 = .ok (.invokevirtual 150, 3) := by decide +kernel
theorem dX11_takeSaying_313 : decode cX11_takeSaying 313 = .ok (.ifCond .eq 7, 3) := by decide +kernel
theorem dX11_takeSaying_316 : decode cX11_takeSaying 316 = .ok (.iconst 1, 1) := by decide +kernel
theorem dX11_takeSaying_317 : decode cX11_takeSaying 317 = .ok (.goto 4, 3) := by decide +kernel
theorem dX11_takeSaying_320 : decode cX11_takeSaying 320 = .ok (.iconst 0, 1) := by decide +kernel
theorem dX11_takeSaying_321 : decode cX11_takeSaying 321 = .ok (.istore 4, 2) := by decide +kernel
theorem dX11_takeSaying_323 : decode cX11_takeSaying 323 = .ok (.aload_n 0, 1) := by decide +kernel
theorem dX11_takeSaying_324 : decode cX11_takeSaying 324 = .ok (.getfield 63, 3) := by decide +kernel
theorem dX11_takeSaying_327 : decode cX11_takeSaying 327 = .ok (.iconst 1, 1) := by decide +kernel
theorem dX11_takeSaying_328 : decode cX11_takeSaying 328 = .ok (.iload_n 1, 1) := by decide +kernel
theorem dX11_takeSaying_329 : decode cX11_takeSaying 329 = .ok (.iconst 1, 1) := by decide +kernel
theorem dX11_takeSaying_330 : decode cX11_takeSaying 330 = .ok (.iadd, 1) := by decide +kernel
theorem dX11_takeSaying_331 : decode cX11_takeSaying 331 = .ok (.iastore, 1) := by decide +kernel
theorem dX11_takeSaying_332 : decode cX11_takeSaying 332 = .ok (.return_, 1) := by decide +kernel
theorem dX11_sayings_0 : decode cX11_sayings 0 = .ok (.aload_n 0, 1) := by decide +kernel
theorem dX11_sayings_1 : decode cX11_sayings 1 = .ok (.getfield 109, 3) := by decide +kernel
theorem dX11_sayings_4 : decode cX11_sayings 4 = .ok (.sipush 300, 3) := by decide +kernel
theorem dX11_sayings_7 : decode cX11_sayings 7 = .ok (.if_icmp .le 6, 3) := by decide +kernel
theorem dX11_sayings_10 : decode cX11_sayings 10 = .ok (.ldc 190, 2) := by decide +kernel
theorem dX11_sayings_12 : decode cX11_sayings 12 = .ok (.ireturn, 1) := by decide +kernel
theorem dX11_sayings_13 : decode cX11_sayings 13 = .ok (.aload_n 0, 1) := by decide +kernel
theorem dX11_sayings_14 : decode cX11_sayings 14 = .ok (.invokevirtual 163, 3) := by decide +kernel
theorem dX11_sayings_17 : decode cX11_sayings 17 = .ok (.aload_n 0, 1) := by decide +kernel
theorem dX11_sayings_18 : decode cX11_sayings 18 = .ok (.getfield 63, 3) := by decide +kernel
theorem dX11_sayings_21 : decode cX11_sayings 21 = .ok (.iconst 1, 1) := by decide +kernel
theorem dX11_sayings_22 : decode cX11_sayings 22 = .ok (.iconst 0, 1) := by decide +kernel
theorem dX11_sayings_23 : decode cX11_sayings 23 = .ok (.iastore, 1) := by decide +kernel
theorem dX11_sayings_24 : decode cX11_sayings 24 = .ok (.aload_n 0, 1) := by decide +kernel
theorem dX11_sayings_25 : decode cX11_sayings 25 = .ok (.getfield 118, 3) := by decide +kernel
theorem dX11_sayings_28 : decode cX11_sayings 28 = .ok (.ifCond .ne 77, 3) := by decide +kernel
theorem dX11_sayings_31 : decode cX11_sayings 31 = .ok (.aload_n 0, 1) := by decide +kernel
theorem dX11_sayings_32 : decode cX11_sayings 32 = .ok (.invokevirtual 121, 3) := by decide +kernel
theorem dX11_sayings_35 : decode cX11_sayings 35 = .ok (.ifCond .lt 70, 3) := by decide +kernel
theorem dX11_sayings_38 : decode cX11_sayings 38 = .ok (.aload_n 0, 1) := by decide +kernel
theorem dX11_sayings_39 : decode cX11_sayings 39 = .ok (.invokevirtual 135, 3) := by decide +kernel
theorem dX11_sayings_42 : decode cX11_sayings 42 = .ok (.aload_n 0, 1) := by decide +kernel
theorem dX11_sayings_43 : decode cX11_sayings 43 = .ok (.aload_n 0, 1) := by decide +kernel
theorem dX11_sayings_44 : decode cX11_sayings 44 = .ok (.iconst 3, 1) := by decide +kernel
theorem dX11_sayings_45 : decode cX11_sayings 45 = .ok (.bipush 115, 2) := by decide +kernel
theorem dX11_sayings_47 : decode cX11_sayings 47 = .ok (.bipush 97, 2) := by decide +kernel
theorem dX11_sayings_49 : decode cX11_sayings 49 = .ok (.bipush 121, 2) := by decide +kernel
theorem dX11_sayings_51 : decode cX11_sayings 51 = .ok (.iconst 0, 1) := by decide +kernel
theorem dX11_sayings_52 : decode cX11_sayings 52 = .ok (.invokevirtual 138, 3) := by decide +kernel
theorem dX11_sayings_55 : decode cX11_sayings 55 = .ok (.iconst 1, 1) := by decide +kernel
theorem dX11_sayings_56 : decode cX11_sayings 56 = .ok (.aload_n 0, 1) := by decide +kernel
theorem dX11_sayings_57 : decode cX11_sayings 57 = .ok (.getfield 125, 3) := by decide +kernel
theorem dX11_sayings_60 : decode cX11_sayings 60 = .ok (.invokevirtual 150, 3) := by decide +kernel
theorem dX11_sayings_63 : decode cX11_sayings 63 = .ok (.ifCond .eq 35, 3) := by decide +kernel
theorem dX11_sayings_66 : decode cX11_sayings 66 = .ok (.aload_n 0, 1) := by decide +kernel
theorem dX11_sayings_67 : decode cX11_sayings 67 = .ok (.aload_n 0, 1) := by decide +kernel
theorem dX11_sayings_68 : decode cX11_sayings 68 = .ok (.getfield 63, 3) := by decide +kernel
theorem dX11_sayings_71 : decode cX11_sayings 71 = .ok (.iconst 1, 1) := by decide +kernel
theorem dX11_sayings_72 : decode cX11_sayings 72 = .ok (.iaload, 1) := by decide +kernel
theorem dX11_sayings_73 : decode cX11_sayings 73 = .ok (.bipush 6, 2) := by decide +kernel
theorem dX11_sayings_75 : decode cX11_sayings 75 = .ok (.if_icmp .ge 7, 3) := by decide +kernel
theorem dX11_sayings_78 : decode cX11_sayings 78 = .ok (.iconst 1, 1) := by decide +kernel
theorem dX11_sayings_79 : decode cX11_sayings 79 = .ok (.goto 4, 3) := by decide +kernel
theorem dX11_sayings_82 : decode cX11_sayings 82 = .ok (.iconst 0, 1) := by decide +kernel
theorem dX11_sayings_83 : decode cX11_sayings 83 = .ok (.iconst 3, 1) := by decide +kernel
theorem dX11_sayings_84 : decode cX11_sayings 84 = .ok (.aload_n 0, 1) := by decide +kernel
theorem dX11_sayings_85 : decode cX11_sayings 85 = .ok (.getfield 125, 3) := by decide +kernel
theorem dX11_sayings_88 : decode cX11_sayings 88 = .ok (.invokevirtual 150, 3) := by decide +kernel
theorem dX11_sayings_91 : decode cX11_sayings 91 = .ok (.ifCond .eq 7, 3) := by decide +kernel
theorem dX11_sayings_94 : decode cX11_sayings 94 = .ok (.aload_n 0, 1) := by decide +kernel
theorem dX11_sayings_95 : decode cX11_sayings 95 = .ok (.invokevirtual 191, 3) := by decide +kernel
theorem dX11_sayings_98 : decode cX11_sayings 98 = .ok (.aload_n 0, 1) := by decide +kernel
theorem dX11_sayings_99 : decode cX11_sayings 99 = .ok (.invokevirtual 173, 3) := by decide +kernel
theorem dX11_sayings_102 : decode cX11_sayings 102 = .ok (.goto (-78), 3) := by decide +kernel
theorem dX11_sayings_105 : decode cX11_sayings 105 = .ok (.aload_n 0, 1) := by decide +kernel
theorem dX11_sayings_106 : decode cX11_sayings 106 = .ok (.iconst 0, 1) := by decide +kernel
theorem dX11_sayings_107 : decode cX11_sayings 107 = .ok (.putfield 109, 3) := by decide +kernel
theorem dX11_sayings_110 : decode cX11_sayings 110 = .ok (.aload_n 0, 1) := by decide +kernel
theorem dX11_sayings_111 : decode cX11_sayings 111 = .ok (.getfield 118, 3) := by decide +kernel
theorem dX11_sayings_114 : decode cX11_sayings 114 = .ok (.ifCond .le 11, 3) := by decide +kernel
theorem dX11_sayings_117 : decode cX11_sayings 117 = .ok (.bipush (-10), 2) := by decide +kernel
theorem dX11_sayings_119 : decode cX11_sayings 119 = .ok (.aload_n 0, 1) := by decide +kernel
theorem dX11_sayings_120 : decode cX11_sayings 120 = .ok (.getfield 118, 3) := by decide +kernel
theorem dX11_sayings_123 : decode cX11_sayings 123 = .ok (.isub, 1) := by decide +kernel
theorem dX11_sayings_124 : decode cX11_sayings 124 = .ok (.ireturn, 1) := by decide +kernel
theorem dX11_sayings_125 : decode cX11_sayings 125 = .ok (.aload_n 0, 1) := by decide +kernel
theorem dX11_sayings_126 : decode cX11_sayings 126 = .ok (.getfield 63, 3) := by decide +kernel
theorem dX11_sayings_129 : decode cX11_sayings 129 = .ok (.iconst 0, 1) := by decide +kernel
theorem dX11_sayings_130 : decode cX11_sayings 130 = .ok (.aload_n 0, 1) := by decide +kernel
theorem dX11_sayings_131 : decode cX11_sayings 131 = .ok (.getfield 63, 3) := by decide +kernel
theorem dX11_sayings_134 : decode cX11_sayings 134 = .ok (.iconst 1, 1) := by decide +kernel
theorem dX11_sayings_135 : decode cX11_sayings 135 = .ok (.iaload, 1) := by decide +kernel
theorem dX11_sayings_136 : decode cX11_sayings 136 = .ok (.iastore, 1) := by decide +kernel
theorem dX11_sayings_137 : decode cX11_sayings 137 = .ok (.iconst 0, 1) := by decide +kernel
theorem dX11_sayings_138 : decode cX11_sayings 138 = .ok (.istore_n 1, 1) := by decide +kernel
theorem dX11_sayings_139 : decode cX11_sayings 139 = .ok (.iload_n 1, 1) := by decide +kernel
theorem dX11_sayings_140 : decode cX11_sayings 140 = .ok (.bipush 6, 2) := by decide +kernel
theorem dX11_sayings_142 : decode cX11_sayings 142 = .ok (.if_icmp .ge 84, 3) := by decide +kernel
theorem dX11_sayings_145 : decode cX11_sayings 145 = .ok (.aload_n 0, 1) := by decide +kernel
theorem dX11_sayings_146 : decode cX11_sayings 146 = .ok (.getfield 48, 3) := by decide +kernel
theorem dX11_sayings_149 : decode cX11_sayings 149 = .ok (.iload_n 1, 1) := by decide +kernel
theorem dX11_sayings_150 : decode cX11_sayings 150 = .ok (.aload_n 0, 1) := by decide +kernel
theorem dX11_sayings_151 : decode cX11_sayings 151 = .ok (.getfield 48, 3) := by decide +kernel
theorem dX11_sayings_154 : decode cX11_sayings 154 = .ok (.bipush 6, 2) := by decide +kernel
theorem dX11_sayings_156 : decode cX11_sayings 156 = .ok (.iload_n 1, 1) := by decide +kernel
theorem dX11_sayings_157 : decode cX11_sayings 157 = .ok (.iadd, 1) := by decide +kernel
theorem dX11_sayings_158 : decode cX11_sayings 158 = .ok (.iaload, 1) := by decide +kernel
theorem dX11_sayings_159 : decode cX11_sayings 159 = .ok (.iastore, 1) := by decide +kernel
theorem dX11_sayings_160 : decode cX11_sayings 160 = .ok (.aload_n 0, 1) := by decide +kernel
theorem dX11_sayings_161 : decode cX11_sayings 161 = .ok (.getfield 51, 3) := by decide +kernel
theorem dX11_sayings_164 : decode cX11_sayings 164 = .ok (.iload_n 1, 1) := by decide +kernel
theorem dX11_sayings_165 : decode cX11_sayings 165 = .ok (.aload_n 0, 1) := by decide +kernel
theorem dX11_sayings_166 : decode cX11_sayings 166 = .ok (.getfield 51, 3) := by decide +kernel
theorem dX11_sayings_169 : decode cX11_sayings 169 = .ok (.bipush 6, 2) := by decide +kernel
theorem dX11_sayings_171 : decode cX11_sayings 171 = .ok (.iload_n 1, 1) := by decide +kernel
theorem dX11_sayings_172 : decode cX11_sayings 172 = .ok (.iadd, 1) := by decide +kernel
theorem dX11_sayings_173 : decode cX11_sayings 173 = .ok (.iaload, 1) := by decide +kernel
theorem dX11_sayings_174 : decode cX11_sayings 174 = .ok (.iastore, 1) := by decide +kernel
theorem dX11_sayings_175 : decode cX11_sayings 175 = .ok (.aload_n 0, 1) := by decide +kernel
theorem dX11_sayings_176 : decode cX11_sayings 176 = .ok (.getfield 54, 3) := by decide +kernel
theorem dX11_sayings_179 : decode cX11_sayings 179 = .ok (.iload_n 1, 1) := by decide +kernel
theorem dX11_sayings_180 : decode cX11_sayings 180 = .ok (.aload_n 0, 1) := by decide +kernel
theorem dX11_sayings_181 : decode cX11_sayings 181 = .ok (.getfield 54, 3) := by decide +kernel
theorem dX11_sayings_184 : decode cX11_sayings 184 = .ok (.bipush 6, 2) := by decide +kernel
theorem dX11_sayings_186 : decode cX11_sayings 186 = .ok (.iload_n 1, 1) := by decide +kernel
theorem dX11_sayings_187 : decode cX11_sayings 187 = .ok (.iadd, 1) := by decide +kernel
theorem dX11_sayings_188 : decode cX11_sayings 188 = .ok (.iaload, 1) := by decide +kernel
theorem dX11_sayings_189 : decode cX11_sayings 189 = .ok (.iastore, 1) := by decide +kernel
theorem dX11_sayings_190 : decode cX11_sayings 190 = .ok (.aload_n 0, 1) := by decide +kernel
theorem dX11_sayings_191 : decode cX11_sayings 191 = .ok (.getfield 57, 3) := by decide +kernel
theorem dX11_sayings_194 : decode cX11_sayings 194 = .ok (.iload_n 1, 1) := by decide +kernel
theorem dX11_sayings_195 : decode cX11_sayings 195 = .ok (.aload_n 0, 1) := by decide +kernel
theorem dX11_sayings_196 : decode cX11_sayings 196 = .ok (.getfield 57, 3) := by decide +kernel
theorem dX11_sayings_199 : decode cX11_sayings 199 = .ok (.bipush 6, 2) := by decide +kernel
theorem dX11_sayings_201 : decode cX11_sayings 201 = .ok (.iload_n 1, 1) := by decide +kernel
theorem dX11_sayings_202 : decode cX11_sayings 202 = .ok (.iadd, 1) := by decide +kernel
theorem dX11_sayings_203 : decode cX11_sayings 203 = .ok (.iaload, 1) := by decide +kernel
theorem dX11_sayings_204 : decode cX11_sayings 204 = .ok (.iastore, 1) := by decide +kernel
theorem dX11_sayings_205 : decode cX11_sayings 205 = .ok (.aload_n 0, 1) := by decide +kernel
theorem dX11_sayings_206 : decode cX11_sayings 206 = .ok (.getfield 60, 3) := by decide +kernel
theorem dX11_sayings_209 : decode cX11_sayings 209 = .ok (.iload_n 1, 1) := by decide +kernel
theorem dX11_sayings_210 : decode cX11_sayings 210 = .ok (.aload_n 0, 1) := by decide +kernel
theorem dX11_sayings_211 : decode cX11_sayings 211 = .ok (.getfield 60, 3) := by decide +kernel
theorem dX11_sayings_214 : decode cX11_sayings 214 = .ok (.bipush 6, 2) := by decide +kernel
theorem dX11_sayings_216 : decode cX11_sayings 216 = .ok (.iload_n 1, 1) := by decide +kernel
theorem dX11_sayings_217 : decode cX11_sayings 217 = .ok (.iadd, 1) := by decide +kernel
theorem dX11_sayings_218 : decode cX11_sayings 218 = .ok (.iaload, 1) := by decide +kernel
theorem dX11_sayings_219 : decode cX11_sayings 219 = .ok (.iastore, 1) := by decide +kernel
theorem dX11_sayings_220 : decode cX11_sayings 220 = .ok (.iinc 1 1, 3) := by decide +kernel
theorem dX11_sayings_223 : decode cX11_sayings 223 = .ok (.goto (-84), 3) := by decide +kernel
theorem dX11_sayings_226 : decode cX11_sayings 226 = .ok (.aload_n 0, 1) := by decide +kernel
theorem dX11_sayings_227 : decode cX11_sayings 227 = .ok (.invokevirtual 176, 3) := by decide +kernel
theorem dX11_sayings_230 : decode cX11_sayings 230 = .ok (.aload_n 0, 1) := by decide +kernel
theorem dX11_sayings_231 : decode cX11_sayings 231 = .ok (.getfield 63, 3) := by decide +kernel
theorem dX11_sayings_234 : decode cX11_sayings 234 = .ok (.iconst 0, 1) := by decide +kernel
theorem dX11_sayings_235 : decode cX11_sayings 235 = .ok (.iaload, 1) := by decide +kernel
theorem dX11_sayings_236 : decode cX11_sayings 236 = .ok (.ireturn, 1) := by decide +kernel
theorem dX11_fault_0 : decode cX11_fault 0 = .ok (.aload_n 0, 1) := by decide +kernel
theorem dX11_fault_1 : decode cX11_fault 1 = .ok (.getfield 69, 3) := by decide +kernel
theorem dX11_fault_4 : decode cX11_fault 4 = .ok (.ireturn, 1) := by decide +kernel
theorem dX11_isPerson_0 : decode cX11_isPerson 0 = .ok (.iload_n 1, 1) := by decide +kernel
theorem dX11_isPerson_1 : decode cX11_isPerson 1 = .ok (.i2l, 1) := by decide +kernel
theorem dX11_isPerson_2 : decode cX11_isPerson 2 = .ok (.lconst 0, 1) := by decide +kernel
theorem dX11_isPerson_3 : decode cX11_isPerson 3 = .ok (.aload_n 0, 1) := by decide +kernel
theorem dX11_isPerson_4 : decode cX11_isPerson 4 = .ok (.getfield 33, 3) := by decide +kernel
theorem dX11_isPerson_7 : decode cX11_isPerson 7 = .ok (.iconst 0, 1) := by decide +kernel
theorem dX11_isPerson_8 : decode cX11_isPerson 8 = .ok (.iaload, 1) := by decide +kernel
theorem dX11_isPerson_9 : decode cX11_isPerson 9 = .ok (.iconst 1, 1) := by decide +kernel
theorem dX11_isPerson_10 : decode cX11_isPerson 10 = .ok (.isub, 1) := by decide +kernel
theorem dX11_isPerson_11 : decode cX11_isPerson 11 = .ok (.i2l, 1) := by decide +kernel
theorem dX11_isPerson_12 : decode cX11_isPerson 12 = .ok (.invokestatic 104, 3) := by decide +kernel
theorem dX11_isPerson_15 : decode cX11_isPerson 15 = .ok (.ireturn, 1) := by decide +kernel
theorem dX11_isSaying_0 : decode cX11_isSaying 0 = .ok (.iload_n 1, 1) := by decide +kernel
theorem dX11_isSaying_1 : decode cX11_isSaying 1 = .ok (.i2l, 1) := by decide +kernel
theorem dX11_isSaying_2 : decode cX11_isSaying 2 = .ok (.lconst 0, 1) := by decide +kernel
theorem dX11_isSaying_3 : decode cX11_isSaying 3 = .ok (.aload_n 0, 1) := by decide +kernel
theorem dX11_isSaying_4 : decode cX11_isSaying 4 = .ok (.getfield 63, 3) := by decide +kernel
theorem dX11_isSaying_7 : decode cX11_isSaying 7 = .ok (.iconst 0, 1) := by decide +kernel
theorem dX11_isSaying_8 : decode cX11_isSaying 8 = .ok (.iaload, 1) := by decide +kernel
theorem dX11_isSaying_9 : decode cX11_isSaying 9 = .ok (.iconst 1, 1) := by decide +kernel
theorem dX11_isSaying_10 : decode cX11_isSaying 10 = .ok (.isub, 1) := by decide +kernel
theorem dX11_isSaying_11 : decode cX11_isSaying 11 = .ok (.i2l, 1) := by decide +kernel
theorem dX11_isSaying_12 : decode cX11_isSaying 12 = .ok (.invokestatic 104, 3) := by decide +kernel
theorem dX11_isSaying_15 : decode cX11_isSaying 15 = .ok (.ireturn, 1) := by decide +kernel
theorem dX11_count_0 : decode cX11_count 0 = .ok (.iload_n 1, 1) := by decide +kernel
theorem dX11_count_1 : decode cX11_count 1 = .ok (.tableswitch 108 0 7 #[47, 54, 61, 68, 73, 82, 91, 99], 47) := by decide +kernel
theorem dX11_count_48 : decode cX11_count 48 = .ok (.aload_n 0, 1) := by decide +kernel
theorem dX11_count_49 : decode cX11_count 49 = .ok (.getfield 33, 3) := by decide +kernel
theorem dX11_count_52 : decode cX11_count 52 = .ok (.iconst 0, 1) := by decide +kernel
theorem dX11_count_53 : decode cX11_count 53 = .ok (.iaload, 1) := by decide +kernel
theorem dX11_count_54 : decode cX11_count 54 = .ok (.ireturn, 1) := by decide +kernel
theorem dX11_count_55 : decode cX11_count 55 = .ok (.aload_n 0, 1) := by decide +kernel
theorem dX11_count_56 : decode cX11_count 56 = .ok (.getfield 45, 3) := by decide +kernel
theorem dX11_count_59 : decode cX11_count 59 = .ok (.iconst 0, 1) := by decide +kernel
theorem dX11_count_60 : decode cX11_count 60 = .ok (.iaload, 1) := by decide +kernel
theorem dX11_count_61 : decode cX11_count 61 = .ok (.ireturn, 1) := by decide +kernel
theorem dX11_count_62 : decode cX11_count 62 = .ok (.aload_n 0, 1) := by decide +kernel
theorem dX11_count_63 : decode cX11_count 63 = .ok (.getfield 63, 3) := by decide +kernel
theorem dX11_count_66 : decode cX11_count 66 = .ok (.iconst 0, 1) := by decide +kernel
theorem dX11_count_67 : decode cX11_count 67 = .ok (.iaload, 1) := by decide +kernel
theorem dX11_count_68 : decode cX11_count 68 = .ok (.ireturn, 1) := by decide +kernel
theorem dX11_count_69 : decode cX11_count 69 = .ok (.aload_n 0, 1) := by decide +kernel
theorem dX11_count_70 : decode cX11_count 70 = .ok (.getfield 109, 3) := by decide +kernel
theorem dX11_count_73 : decode cX11_count 73 = .ok (.ireturn, 1) := by decide +kernel
theorem dX11_count_74 : decode cX11_count 74 = .ok (.aload_n 0, 1) := by decide +kernel
theorem dX11_count_75 : decode cX11_count 75 = .ok (.getfield 7, 3) := by decide +kernel
theorem dX11_count_78 : decode cX11_count 78 = .ok (.sipush 864, 3) := by decide +kernel
theorem dX11_count_81 : decode cX11_count 81 = .ok (.iaload, 1) := by decide +kernel
theorem dX11_count_82 : decode cX11_count 82 = .ok (.ireturn, 1) := by decide +kernel
theorem dX11_count_83 : decode cX11_count 83 = .ok (.aload_n 0, 1) := by decide +kernel
theorem dX11_count_84 : decode cX11_count 84 = .ok (.getfield 7, 3) := by decide +kernel
theorem dX11_count_87 : decode cX11_count 87 = .ok (.sipush 865, 3) := by decide +kernel
theorem dX11_count_90 : decode cX11_count 90 = .ok (.iaload, 1) := by decide +kernel
theorem dX11_count_91 : decode cX11_count 91 = .ok (.ireturn, 1) := by decide +kernel
theorem dX11_count_92 : decode cX11_count 92 = .ok (.aload_n 0, 1) := by decide +kernel
theorem dX11_count_93 : decode cX11_count 93 = .ok (.getfield 179, 3) := by decide +kernel
theorem dX11_count_96 : decode cX11_count 96 = .ok (.invokestatic 194, 3) := by decide +kernel
theorem dX11_count_99 : decode cX11_count 99 = .ok (.ireturn, 1) := by decide +kernel
theorem dX11_count_100 : decode cX11_count 100 = .ok (.aload_n 0, 1) := by decide +kernel
theorem dX11_count_101 : decode cX11_count 101 = .ok (.getfield 7, 3) := by decide +kernel
theorem dX11_count_104 : decode cX11_count 104 = .ok (.sipush 867, 3) := by decide +kernel
theorem dX11_count_107 : decode cX11_count 107 = .ok (.iaload, 1) := by decide +kernel
theorem dX11_count_108 : decode cX11_count 108 = .ok (.ireturn, 1) := by decide +kernel
theorem dX11_count_109 : decode cX11_count 109 = .ok (.ldc 108, 2) := by decide +kernel
theorem dX11_count_111 : decode cX11_count 111 = .ok (.ireturn, 1) := by decide +kernel
theorem dX11_isOf_0 : decode cX11_isOf 0 = .ok (.aload_n 0, 1) := by decide +kernel
theorem dX11_isOf_1 : decode cX11_isOf 1 = .ok (.getfield 36, 3) := by decide +kernel
theorem dX11_isOf_4 : decode cX11_isOf 4 = .ok (.iload_n 1, 1) := by decide +kernel
theorem dX11_isOf_5 : decode cX11_isOf 5 = .ok (.iaload, 1) := by decide +kernel
theorem dX11_isOf_6 : decode cX11_isOf 6 = .ok (.iload_n 2, 1) := by decide +kernel
theorem dX11_isOf_7 : decode cX11_isOf 7 = .ok (.if_icmp .eq 13, 3) := by decide +kernel
theorem dX11_isOf_10 : decode cX11_isOf 10 = .ok (.aload_n 0, 1) := by decide +kernel
theorem dX11_isOf_11 : decode cX11_isOf 11 = .ok (.getfield 39, 3) := by decide +kernel
theorem dX11_isOf_14 : decode cX11_isOf 14 = .ok (.iload_n 1, 1) := by decide +kernel
theorem dX11_isOf_15 : decode cX11_isOf 15 = .ok (.iaload, 1) := by decide +kernel
theorem dX11_isOf_16 : decode cX11_isOf 16 = .ok (.iload_n 2, 1) := by decide +kernel
theorem dX11_isOf_17 : decode cX11_isOf 17 = .ok (.if_icmp .ne 7, 3) := by decide +kernel
theorem dX11_isOf_20 : decode cX11_isOf 20 = .ok (.iconst 1, 1) := by decide +kernel
theorem dX11_isOf_21 : decode cX11_isOf 21 = .ok (.goto 4, 3) := by decide +kernel
theorem dX11_isOf_24 : decode cX11_isOf 24 = .ok (.iconst 0, 1) := by decide +kernel
theorem dX11_isOf_25 : decode cX11_isOf 25 = .ok (.ireturn, 1) := by decide +kernel
theorem dX11_tieMany_0 : decode cX11_tieMany 0 = .ok (.iconst 0, 1) := by decide +kernel
theorem dX11_tieMany_1 : decode cX11_tieMany 1 = .ok (.istore_n 2, 1) := by decide +kernel
theorem dX11_tieMany_2 : decode cX11_tieMany 2 = .ok (.iconst 0, 1) := by decide +kernel
theorem dX11_tieMany_3 : decode cX11_tieMany 3 = .ok (.istore_n 3, 1) := by decide +kernel
theorem dX11_tieMany_4 : decode cX11_tieMany 4 = .ok (.iload_n 3, 1) := by decide +kernel
theorem dX11_tieMany_5 : decode cX11_tieMany 5 = .ok (.aload_n 0, 1) := by decide +kernel
theorem dX11_tieMany_6 : decode cX11_tieMany 6 = .ok (.getfield 45, 3) := by decide +kernel
theorem dX11_tieMany_9 : decode cX11_tieMany 9 = .ok (.iconst 0, 1) := by decide +kernel
theorem dX11_tieMany_10 : decode cX11_tieMany 10 = .ok (.iaload, 1) := by decide +kernel
theorem dX11_tieMany_11 : decode cX11_tieMany 11 = .ok (.if_icmp .ge 21, 3) := by decide +kernel
theorem dX11_tieMany_14 : decode cX11_tieMany 14 = .ok (.iload_n 2, 1) := by decide +kernel
theorem dX11_tieMany_15 : decode cX11_tieMany 15 = .ok (.aload_n 0, 1) := by decide +kernel
theorem dX11_tieMany_16 : decode cX11_tieMany 16 = .ok (.iload_n 3, 1) := by decide +kernel
theorem dX11_tieMany_17 : decode cX11_tieMany 17 = .ok (.iload_n 1, 1) := by decide +kernel
theorem dX11_tieMany_18 : decode cX11_tieMany 18 = .ok (.invokevirtual 198, 3) := by decide +kernel
theorem dX11_tieMany_21 : decode cX11_tieMany 21 = .ok (.invokestatic 186, 3) := by decide +kernel
theorem dX11_tieMany_24 : decode cX11_tieMany 24 = .ok (.iadd, 1) := by decide +kernel
theorem dX11_tieMany_25 : decode cX11_tieMany 25 = .ok (.istore_n 2, 1) := by decide +kernel
theorem dX11_tieMany_26 : decode cX11_tieMany 26 = .ok (.iinc 3 1, 3) := by decide +kernel
theorem dX11_tieMany_29 : decode cX11_tieMany 29 = .ok (.goto (-25), 3) := by decide +kernel
theorem dX11_tieMany_32 : decode cX11_tieMany 32 = .ok (.iload_n 2, 1) := by decide +kernel
theorem dX11_tieMany_33 : decode cX11_tieMany 33 = .ok (.ireturn, 1) := by decide +kernel
theorem dX11_tieSum_0 : decode cX11_tieSum 0 = .ok (.iconst 0, 1) := by decide +kernel
theorem dX11_tieSum_1 : decode cX11_tieSum 1 = .ok (.istore_n 2, 1) := by decide +kernel
theorem dX11_tieSum_2 : decode cX11_tieSum 2 = .ok (.iconst 0, 1) := by decide +kernel
theorem dX11_tieSum_3 : decode cX11_tieSum 3 = .ok (.istore_n 3, 1) := by decide +kernel
theorem dX11_tieSum_4 : decode cX11_tieSum 4 = .ok (.iload_n 3, 1) := by decide +kernel
theorem dX11_tieSum_5 : decode cX11_tieSum 5 = .ok (.aload_n 0, 1) := by decide +kernel
theorem dX11_tieSum_6 : decode cX11_tieSum 6 = .ok (.getfield 45, 3) := by decide +kernel
theorem dX11_tieSum_9 : decode cX11_tieSum 9 = .ok (.iconst 0, 1) := by decide +kernel
theorem dX11_tieSum_10 : decode cX11_tieSum 10 = .ok (.iaload, 1) := by decide +kernel
theorem dX11_tieSum_11 : decode cX11_tieSum 11 = .ok (.if_icmp .ge 31, 3) := by decide +kernel
theorem dX11_tieSum_14 : decode cX11_tieSum 14 = .ok (.iload_n 2, 1) := by decide +kernel
theorem dX11_tieSum_15 : decode cX11_tieSum 15 = .ok (.aload_n 0, 1) := by decide +kernel
theorem dX11_tieSum_16 : decode cX11_tieSum 16 = .ok (.iload_n 3, 1) := by decide +kernel
theorem dX11_tieSum_17 : decode cX11_tieSum 17 = .ok (.iload_n 1, 1) := by decide +kernel
theorem dX11_tieSum_18 : decode cX11_tieSum 18 = .ok (.invokevirtual 198, 3) := by decide +kernel
theorem dX11_tieSum_21 : decode cX11_tieSum 21 = .ok (.ifCond .eq 12, 3) := by decide +kernel
theorem dX11_tieSum_24 : decode cX11_tieSum 24 = .ok (.aload_n 0, 1) := by decide +kernel
theorem dX11_tieSum_25 : decode cX11_tieSum 25 = .ok (.getfield 42, 3) := by decide +kernel
theorem dX11_tieSum_28 : decode cX11_tieSum 28 = .ok (.iload_n 3, 1) := by decide +kernel
theorem dX11_tieSum_29 : decode cX11_tieSum 29 = .ok (.iaload, 1) := by decide +kernel
theorem dX11_tieSum_30 : decode cX11_tieSum 30 = .ok (.goto 4, 3) := by decide +kernel
theorem dX11_tieSum_33 : decode cX11_tieSum 33 = .ok (.iconst 0, 1) := by decide +kernel
theorem dX11_tieSum_34 : decode cX11_tieSum 34 = .ok (.iadd, 1) := by decide +kernel
theorem dX11_tieSum_35 : decode cX11_tieSum 35 = .ok (.istore_n 2, 1) := by decide +kernel
theorem dX11_tieSum_36 : decode cX11_tieSum 36 = .ok (.iinc 3 1, 3) := by decide +kernel
theorem dX11_tieSum_39 : decode cX11_tieSum 39 = .ok (.goto (-35), 3) := by decide +kernel
theorem dX11_tieSum_42 : decode cX11_tieSum 42 = .ok (.iload_n 2, 1) := by decide +kernel
theorem dX11_tieSum_43 : decode cX11_tieSum 43 = .ok (.ireturn, 1) := by decide +kernel
theorem dX11_strength_0 : decode cX11_strength 0 = .ok (.iconst 0, 1) := by decide +kernel
theorem dX11_strength_1 : decode cX11_strength 1 = .ok (.istore_n 3, 1) := by decide +kernel
theorem dX11_strength_2 : decode cX11_strength 2 = .ok (.iconst 0, 1) := by decide +kernel
theorem dX11_strength_3 : decode cX11_strength 3 = .ok (.istore 4, 2) := by decide +kernel
theorem dX11_strength_5 : decode cX11_strength 5 = .ok (.iload 4, 2) := by decide +kernel
theorem dX11_strength_7 : decode cX11_strength 7 = .ok (.aload_n 0, 1) := by decide +kernel
theorem dX11_strength_8 : decode cX11_strength 8 = .ok (.getfield 45, 3) := by decide +kernel
theorem dX11_strength_11 : decode cX11_strength 11 = .ok (.iconst 0, 1) := by decide +kernel
theorem dX11_strength_12 : decode cX11_strength 12 = .ok (.iaload, 1) := by decide +kernel
theorem dX11_strength_13 : decode cX11_strength 13 = .ok (.if_icmp .ge 46, 3) := by decide +kernel
theorem dX11_strength_16 : decode cX11_strength 16 = .ok (.iload_n 1, 1) := by decide +kernel
theorem dX11_strength_17 : decode cX11_strength 17 = .ok (.iload_n 2, 1) := by decide +kernel
theorem dX11_strength_18 : decode cX11_strength 18 = .ok (.if_icmp .eq 33, 3) := by decide +kernel
theorem dX11_strength_21 : decode cX11_strength 21 = .ok (.aload_n 0, 1) := by decide +kernel
theorem dX11_strength_22 : decode cX11_strength 22 = .ok (.iload 4, 2) := by decide +kernel
theorem dX11_strength_24 : decode cX11_strength 24 = .ok (.iload_n 1, 1) := by decide +kernel
theorem dX11_strength_25 : decode cX11_strength 25 = .ok (.invokevirtual 198, 3) := by decide +kernel
theorem dX11_strength_28 : decode cX11_strength 28 = .ok (.ifCond .eq 23, 3) := by decide +kernel
theorem dX11_strength_31 : decode cX11_strength 31 = .ok (.aload_n 0, 1) := by decide +kernel
theorem dX11_strength_32 : decode cX11_strength 32 = .ok (.iload 4, 2) := by decide +kernel
theorem dX11_strength_34 : decode cX11_strength 34 = .ok (.iload_n 2, 1) := by decide +kernel
theorem dX11_strength_35 : decode cX11_strength 35 = .ok (.invokevirtual 198, 3) := by decide +kernel
theorem dX11_strength_38 : decode cX11_strength 38 = .ok (.ifCond .eq 13, 3) := by decide +kernel
theorem dX11_strength_41 : decode cX11_strength 41 = .ok (.aload_n 0, 1) := by decide +kernel
theorem dX11_strength_42 : decode cX11_strength 42 = .ok (.getfield 42, 3) := by decide +kernel
theorem dX11_strength_45 : decode cX11_strength 45 = .ok (.iload 4, 2) := by decide +kernel
theorem dX11_strength_47 : decode cX11_strength 47 = .ok (.iaload, 1) := by decide +kernel
theorem dX11_strength_48 : decode cX11_strength 48 = .ok (.goto 4, 3) := by decide +kernel
theorem dX11_strength_51 : decode cX11_strength 51 = .ok (.iload_n 3, 1) := by decide +kernel
theorem dX11_strength_52 : decode cX11_strength 52 = .ok (.istore_n 3, 1) := by decide +kernel
theorem dX11_strength_53 : decode cX11_strength 53 = .ok (.iinc 4 1, 3) := by decide +kernel
theorem dX11_strength_56 : decode cX11_strength 56 = .ok (.goto (-51), 3) := by decide +kernel
theorem dX11_strength_59 : decode cX11_strength 59 = .ok (.iload_n 3, 1) := by decide +kernel
theorem dX11_strength_60 : decode cX11_strength 60 = .ok (.ireturn, 1) := by decide +kernel
theorem dX11_person_0 : decode cX11_person 0 = .ok (.aload_n 0, 1) := by decide +kernel
theorem dX11_person_1 : decode cX11_person 1 = .ok (.iload_n 1, 1) := by decide +kernel
theorem dX11_person_2 : decode cX11_person 2 = .ok (.invokevirtual 201, 3) := by decide +kernel
theorem dX11_person_5 : decode cX11_person 5 = .ok (.ifCond .ne 6, 3) := by decide +kernel
theorem dX11_person_8 : decode cX11_person 8 = .ok (.ldc 205, 2) := by decide +kernel
theorem dX11_person_10 : decode cX11_person 10 = .ok (.ireturn, 1) := by decide +kernel
theorem dX11_person_11 : decode cX11_person 11 = .ok (.iload_n 2, 1) := by decide +kernel
theorem dX11_person_12 : decode cX11_person 12 = .ok (.tableswitch 72 0 4 #[36, 43, 53, 60, 66], 36) := by decide +kernel
theorem dX11_person_48 : decode cX11_person 48 = .ok (.aload_n 0, 1) := by decide +kernel
theorem dX11_person_49 : decode cX11_person 49 = .ok (.getfield 24, 3) := by decide +kernel
theorem dX11_person_52 : decode cX11_person 52 = .ok (.iload_n 1, 1) := by decide +kernel
theorem dX11_person_53 : decode cX11_person 53 = .ok (.iaload, 1) := by decide +kernel
theorem dX11_person_54 : decode cX11_person 54 = .ok (.ireturn, 1) := by decide +kernel
theorem dX11_person_55 : decode cX11_person 55 = .ok (.aload_n 0, 1) := by decide +kernel
theorem dX11_person_56 : decode cX11_person 56 = .ok (.getfield 27, 3) := by decide +kernel
theorem dX11_person_59 : decode cX11_person 59 = .ok (.iload_n 1, 1) := by decide +kernel
theorem dX11_person_60 : decode cX11_person 60 = .ok (.baload, 1) := by decide +kernel
theorem dX11_person_61 : decode cX11_person 61 = .ok (.invokestatic 186, 3) := by decide +kernel
theorem dX11_person_64 : decode cX11_person 64 = .ok (.ireturn, 1) := by decide +kernel
theorem dX11_person_65 : decode cX11_person 65 = .ok (.aload_n 0, 1) := by decide +kernel
theorem dX11_person_66 : decode cX11_person 66 = .ok (.getfield 30, 3) := by decide +kernel
theorem dX11_person_69 : decode cX11_person 69 = .ok (.iload_n 1, 1) := by decide +kernel
theorem dX11_person_70 : decode cX11_person 70 = .ok (.iaload, 1) := by decide +kernel
theorem dX11_person_71 : decode cX11_person 71 = .ok (.ireturn, 1) := by decide +kernel
theorem dX11_person_72 : decode cX11_person 72 = .ok (.aload_n 0, 1) := by decide +kernel
theorem dX11_person_73 : decode cX11_person 73 = .ok (.iload_n 1, 1) := by decide +kernel
theorem dX11_person_74 : decode cX11_person 74 = .ok (.invokevirtual 206, 3) := by decide +kernel
theorem dX11_person_77 : decode cX11_person 77 = .ok (.ireturn, 1) := by decide +kernel
theorem dX11_person_78 : decode cX11_person 78 = .ok (.aload_n 0, 1) := by decide +kernel
theorem dX11_person_79 : decode cX11_person 79 = .ok (.iload_n 1, 1) := by decide +kernel
theorem dX11_person_80 : decode cX11_person 80 = .ok (.invokevirtual 209, 3) := by decide +kernel
theorem dX11_person_83 : decode cX11_person 83 = .ok (.ireturn, 1) := by decide +kernel
theorem dX11_person_84 : decode cX11_person 84 = .ok (.ldc 108, 2) := by decide +kernel
theorem dX11_person_86 : decode cX11_person 86 = .ok (.ireturn, 1) := by decide +kernel
theorem dX11_tie_0 : decode cX11_tie 0 = .ok (.aload_n 0, 1) := by decide +kernel
theorem dX11_tie_1 : decode cX11_tie 1 = .ok (.iload_n 1, 1) := by decide +kernel
theorem dX11_tie_2 : decode cX11_tie 2 = .ok (.invokevirtual 201, 3) := by decide +kernel
theorem dX11_tie_5 : decode cX11_tie 5 = .ok (.ifCond .eq 20, 3) := by decide +kernel
theorem dX11_tie_8 : decode cX11_tie 8 = .ok (.aload_n 0, 1) := by decide +kernel
theorem dX11_tie_9 : decode cX11_tie 9 = .ok (.iload_n 2, 1) := by decide +kernel
theorem dX11_tie_10 : decode cX11_tie 10 = .ok (.invokevirtual 201, 3) := by decide +kernel
theorem dX11_tie_13 : decode cX11_tie 13 = .ok (.ifCond .eq 12, 3) := by decide +kernel
theorem dX11_tie_16 : decode cX11_tie 16 = .ok (.aload_n 0, 1) := by decide +kernel
theorem dX11_tie_17 : decode cX11_tie 17 = .ok (.iload_n 1, 1) := by decide +kernel
theorem dX11_tie_18 : decode cX11_tie 18 = .ok (.iload_n 2, 1) := by decide +kernel
theorem dX11_tie_19 : decode cX11_tie 19 = .ok (.invokevirtual 212, 3) := by decide +kernel
theorem dX11_tie_22 : decode cX11_tie 22 = .ok (.goto 5, 3) := by decide +kernel
theorem dX11_tie_25 : decode cX11_tie 25 = .ok (.ldc 205, 2) := by decide +kernel
theorem dX11_tie_27 : decode cX11_tie 27 = .ok (.ireturn, 1) := by decide +kernel
theorem dX11_saying_0 : decode cX11_saying 0 = .ok (.aload_n 0, 1) := by decide +kernel
theorem dX11_saying_1 : decode cX11_saying 1 = .ok (.iload_n 1, 1) := by decide +kernel
theorem dX11_saying_2 : decode cX11_saying 2 = .ok (.invokevirtual 215, 3) := by decide +kernel
theorem dX11_saying_5 : decode cX11_saying 5 = .ok (.ifCond .ne 6, 3) := by decide +kernel
theorem dX11_saying_8 : decode cX11_saying 8 = .ok (.ldc 205, 2) := by decide +kernel
theorem dX11_saying_10 : decode cX11_saying 10 = .ok (.ireturn, 1) := by decide +kernel
theorem dX11_saying_11 : decode cX11_saying 11 = .ok (.iload_n 2, 1) := by decide +kernel
theorem dX11_saying_12 : decode cX11_saying 12 = .ok (.ifCond .ne 12, 3) := by decide +kernel
theorem dX11_saying_15 : decode cX11_saying 15 = .ok (.aload_n 0, 1) := by decide +kernel
theorem dX11_saying_16 : decode cX11_saying 16 = .ok (.getfield 48, 3) := by decide +kernel
theorem dX11_saying_19 : decode cX11_saying 19 = .ok (.iload_n 1, 1) := by decide +kernel
theorem dX11_saying_20 : decode cX11_saying 20 = .ok (.iaload, 1) := by decide +kernel
theorem dX11_saying_21 : decode cX11_saying 21 = .ok (.goto 33, 3) := by decide +kernel
theorem dX11_saying_24 : decode cX11_saying 24 = .ok (.iload_n 2, 1) := by decide +kernel
theorem dX11_saying_25 : decode cX11_saying 25 = .ok (.iconst 1, 1) := by decide +kernel
theorem dX11_saying_26 : decode cX11_saying 26 = .ok (.if_icmp .ne 12, 3) := by decide +kernel
theorem dX11_saying_29 : decode cX11_saying 29 = .ok (.aload_n 0, 1) := by decide +kernel
theorem dX11_saying_30 : decode cX11_saying 30 = .ok (.getfield 51, 3) := by decide +kernel
theorem dX11_saying_33 : decode cX11_saying 33 = .ok (.iload_n 1, 1) := by decide +kernel
theorem dX11_saying_34 : decode cX11_saying 34 = .ok (.iaload, 1) := by decide +kernel
theorem dX11_saying_35 : decode cX11_saying 35 = .ok (.goto 19, 3) := by decide +kernel
theorem dX11_saying_38 : decode cX11_saying 38 = .ok (.iload_n 2, 1) := by decide +kernel
theorem dX11_saying_39 : decode cX11_saying 39 = .ok (.iconst 2, 1) := by decide +kernel
theorem dX11_saying_40 : decode cX11_saying 40 = .ok (.if_icmp .ne 12, 3) := by decide +kernel
theorem dX11_saying_43 : decode cX11_saying 43 = .ok (.aload_n 0, 1) := by decide +kernel
theorem dX11_saying_44 : decode cX11_saying 44 = .ok (.getfield 54, 3) := by decide +kernel
theorem dX11_saying_47 : decode cX11_saying 47 = .ok (.iload_n 1, 1) := by decide +kernel
theorem dX11_saying_48 : decode cX11_saying 48 = .ok (.iaload, 1) := by decide +kernel
theorem dX11_saying_49 : decode cX11_saying 49 = .ok (.goto 5, 3) := by decide +kernel
theorem dX11_saying_52 : decode cX11_saying 52 = .ok (.ldc 108, 2) := by decide +kernel
theorem dX11_saying_54 : decode cX11_saying 54 = .ok (.ireturn, 1) := by decide +kernel
theorem dX11_isBarred_0 : decode cX11_isBarred 0 = .ok (.aload_n 0, 1) := by decide +kernel
theorem dX11_isBarred_1 : decode cX11_isBarred 1 = .ok (.getfield 54, 3) := by decide +kernel
theorem dX11_isBarred_4 : decode cX11_isBarred 4 = .ok (.iload_n 1, 1) := by decide +kernel
theorem dX11_isBarred_5 : decode cX11_isBarred 5 = .ok (.iaload, 1) := by decide +kernel
theorem dX11_isBarred_6 : decode cX11_isBarred 6 = .ok (.iload_n 2, 1) := by decide +kernel
theorem dX11_isBarred_7 : decode cX11_isBarred 7 = .ok (.invokestatic 182, 3) := by decide +kernel
theorem dX11_isBarred_10 : decode cX11_isBarred 10 = .ok (.ifCond .ne 16, 3) := by decide +kernel
theorem dX11_isBarred_13 : decode cX11_isBarred 13 = .ok (.aload_n 0, 1) := by decide +kernel
theorem dX11_isBarred_14 : decode cX11_isBarred 14 = .ok (.getfield 54, 3) := by decide +kernel
theorem dX11_isBarred_17 : decode cX11_isBarred 17 = .ok (.iload_n 2, 1) := by decide +kernel
theorem dX11_isBarred_18 : decode cX11_isBarred 18 = .ok (.iaload, 1) := by decide +kernel
theorem dX11_isBarred_19 : decode cX11_isBarred 19 = .ok (.iload_n 1, 1) := by decide +kernel
theorem dX11_isBarred_20 : decode cX11_isBarred 20 = .ok (.invokestatic 182, 3) := by decide +kernel
theorem dX11_isBarred_23 : decode cX11_isBarred 23 = .ok (.ifCond .eq 7, 3) := by decide +kernel
theorem dX11_isBarred_26 : decode cX11_isBarred 26 = .ok (.iconst 1, 1) := by decide +kernel
theorem dX11_isBarred_27 : decode cX11_isBarred 27 = .ok (.goto 4, 3) := by decide +kernel
theorem dX11_isBarred_30 : decode cX11_isBarred 30 = .ok (.iconst 0, 1) := by decide +kernel
theorem dX11_isBarred_31 : decode cX11_isBarred 31 = .ok (.ireturn, 1) := by decide +kernel
theorem dX11_joinOf_0 : decode cX11_joinOf 0 = .ok (.iconst 0, 1) := by decide +kernel
theorem dX11_joinOf_1 : decode cX11_joinOf 1 = .ok (.istore_n 3, 1) := by decide +kernel
theorem dX11_joinOf_2 : decode cX11_joinOf 2 = .ok (.iload_n 3, 1) := by decide +kernel
theorem dX11_joinOf_3 : decode cX11_joinOf 3 = .ok (.aload_n 0, 1) := by decide +kernel
theorem dX11_joinOf_4 : decode cX11_joinOf 4 = .ok (.getfield 63, 3) := by decide +kernel
theorem dX11_joinOf_7 : decode cX11_joinOf 7 = .ok (.iconst 0, 1) := by decide +kernel
theorem dX11_joinOf_8 : decode cX11_joinOf 8 = .ok (.iaload, 1) := by decide +kernel
theorem dX11_joinOf_9 : decode cX11_joinOf 9 = .ok (.if_icmp .ge 51, 3) := by decide +kernel
theorem dX11_joinOf_12 : decode cX11_joinOf 12 = .ok (.aload_n 0, 1) := by decide +kernel
theorem dX11_joinOf_13 : decode cX11_joinOf 13 = .ok (.getfield 57, 3) := by decide +kernel
theorem dX11_joinOf_16 : decode cX11_joinOf 16 = .ok (.iload_n 3, 1) := by decide +kernel
theorem dX11_joinOf_17 : decode cX11_joinOf 17 = .ok (.iaload, 1) := by decide +kernel
theorem dX11_joinOf_18 : decode cX11_joinOf 18 = .ok (.iload_n 1, 1) := by decide +kernel
theorem dX11_joinOf_19 : decode cX11_joinOf 19 = .ok (.if_icmp .ne 13, 3) := by decide +kernel
theorem dX11_joinOf_22 : decode cX11_joinOf 22 = .ok (.aload_n 0, 1) := by decide +kernel
theorem dX11_joinOf_23 : decode cX11_joinOf 23 = .ok (.getfield 60, 3) := by decide +kernel
theorem dX11_joinOf_26 : decode cX11_joinOf 26 = .ok (.iload_n 3, 1) := by decide +kernel
theorem dX11_joinOf_27 : decode cX11_joinOf 27 = .ok (.iaload, 1) := by decide +kernel
theorem dX11_joinOf_28 : decode cX11_joinOf 28 = .ok (.iload_n 2, 1) := by decide +kernel
theorem dX11_joinOf_29 : decode cX11_joinOf 29 = .ok (.if_icmp .eq 23, 3) := by decide +kernel
theorem dX11_joinOf_32 : decode cX11_joinOf 32 = .ok (.aload_n 0, 1) := by decide +kernel
theorem dX11_joinOf_33 : decode cX11_joinOf 33 = .ok (.getfield 57, 3) := by decide +kernel
theorem dX11_joinOf_36 : decode cX11_joinOf 36 = .ok (.iload_n 3, 1) := by decide +kernel
theorem dX11_joinOf_37 : decode cX11_joinOf 37 = .ok (.iaload, 1) := by decide +kernel
theorem dX11_joinOf_38 : decode cX11_joinOf 38 = .ok (.iload_n 2, 1) := by decide +kernel
theorem dX11_joinOf_39 : decode cX11_joinOf 39 = .ok (.if_icmp .ne 15, 3) := by decide +kernel
theorem dX11_joinOf_42 : decode cX11_joinOf 42 = .ok (.aload_n 0, 1) := by decide +kernel
theorem dX11_joinOf_43 : decode cX11_joinOf 43 = .ok (.getfield 60, 3) := by decide +kernel
theorem dX11_joinOf_46 : decode cX11_joinOf 46 = .ok (.iload_n 3, 1) := by decide +kernel
theorem dX11_joinOf_47 : decode cX11_joinOf 47 = .ok (.iaload, 1) := by decide +kernel
theorem dX11_joinOf_48 : decode cX11_joinOf 48 = .ok (.iload_n 1, 1) := by decide +kernel
theorem dX11_joinOf_49 : decode cX11_joinOf 49 = .ok (.if_icmp .ne 5, 3) := by decide +kernel
theorem dX11_joinOf_52 : decode cX11_joinOf 52 = .ok (.iload_n 3, 1) := by decide +kernel
theorem dX11_joinOf_53 : decode cX11_joinOf 53 = .ok (.ireturn, 1) := by decide +kernel
theorem dX11_joinOf_54 : decode cX11_joinOf 54 = .ok (.iinc 3 1, 3) := by decide +kernel
theorem dX11_joinOf_57 : decode cX11_joinOf 57 = .ok (.goto (-55), 3) := by decide +kernel
theorem dX11_joinOf_60 : decode cX11_joinOf 60 = .ok (.iconst (-1), 1) := by decide +kernel
theorem dX11_joinOf_61 : decode cX11_joinOf 61 = .ok (.ireturn, 1) := by decide +kernel
theorem dX11_pair_0 : decode cX11_pair 0 = .ok (.aload_n 0, 1) := by decide +kernel
theorem dX11_pair_1 : decode cX11_pair 1 = .ok (.iload_n 1, 1) := by decide +kernel
theorem dX11_pair_2 : decode cX11_pair 2 = .ok (.invokevirtual 215, 3) := by decide +kernel
theorem dX11_pair_5 : decode cX11_pair 5 = .ok (.ifCond .eq 11, 3) := by decide +kernel
theorem dX11_pair_8 : decode cX11_pair 8 = .ok (.aload_n 0, 1) := by decide +kernel
theorem dX11_pair_9 : decode cX11_pair 9 = .ok (.iload_n 2, 1) := by decide +kernel
theorem dX11_pair_10 : decode cX11_pair 10 = .ok (.invokevirtual 215, 3) := by decide +kernel
theorem dX11_pair_13 : decode cX11_pair 13 = .ok (.ifCond .ne 6, 3) := by decide +kernel
theorem dX11_pair_16 : decode cX11_pair 16 = .ok (.ldc 205, 2) := by decide +kernel
theorem dX11_pair_18 : decode cX11_pair 18 = .ok (.ireturn, 1) := by decide +kernel
theorem dX11_pair_19 : decode cX11_pair 19 = .ok (.iload_n 3, 1) := by decide +kernel
theorem dX11_pair_20 : decode cX11_pair 20 = .ok (.ifCond .ne 15, 3) := by decide +kernel
theorem dX11_pair_23 : decode cX11_pair 23 = .ok (.aload_n 0, 1) := by decide +kernel
theorem dX11_pair_24 : decode cX11_pair 24 = .ok (.iload_n 1, 1) := by decide +kernel
theorem dX11_pair_25 : decode cX11_pair 25 = .ok (.iload_n 2, 1) := by decide +kernel
theorem dX11_pair_26 : decode cX11_pair 26 = .ok (.invokevirtual 218, 3) := by decide +kernel
theorem dX11_pair_29 : decode cX11_pair 29 = .ok (.invokestatic 186, 3) := by decide +kernel
theorem dX11_pair_32 : decode cX11_pair 32 = .ok (.goto 19, 3) := by decide +kernel
theorem dX11_pair_35 : decode cX11_pair 35 = .ok (.iload_n 3, 1) := by decide +kernel
theorem dX11_pair_36 : decode cX11_pair 36 = .ok (.iconst 1, 1) := by decide +kernel
theorem dX11_pair_37 : decode cX11_pair 37 = .ok (.if_icmp .ne 12, 3) := by decide +kernel
theorem dX11_pair_40 : decode cX11_pair 40 = .ok (.aload_n 0, 1) := by decide +kernel
theorem dX11_pair_41 : decode cX11_pair 41 = .ok (.iload_n 1, 1) := by decide +kernel
theorem dX11_pair_42 : decode cX11_pair 42 = .ok (.iload_n 2, 1) := by decide +kernel
theorem dX11_pair_43 : decode cX11_pair 43 = .ok (.invokevirtual 221, 3) := by decide +kernel
theorem dX11_pair_46 : decode cX11_pair 46 = .ok (.goto 5, 3) := by decide +kernel
theorem dX11_pair_49 : decode cX11_pair 49 = .ok (.ldc 108, 2) := by decide +kernel
theorem dX11_pair_51 : decode cX11_pair 51 = .ok (.ireturn, 1) := by decide +kernel
theorem dX11_rule_0 : decode cX11_rule 0 = .ok (.iload_n 1, 1) := by decide +kernel
theorem dX11_rule_1 : decode cX11_rule 1 = .ok (.i2l, 1) := by decide +kernel
theorem dX11_rule_2 : decode cX11_rule 2 = .ok (.lconst 0, 1) := by decide +kernel
theorem dX11_rule_3 : decode cX11_rule 3 = .ok (.lconst 1, 1) := by decide +kernel
theorem dX11_rule_4 : decode cX11_rule 4 = .ok (.invokestatic 104, 3) := by decide +kernel
theorem dX11_rule_7 : decode cX11_rule 7 = .ok (.ifCond .eq 28, 3) := by decide +kernel
theorem dX11_rule_10 : decode cX11_rule 10 = .ok (.iload_n 2, 1) := by decide +kernel
theorem dX11_rule_11 : decode cX11_rule 11 = .ok (.i2l, 1) := by decide +kernel
theorem dX11_rule_12 : decode cX11_rule 12 = .ok (.iconst 1, 1) := by decide +kernel
theorem dX11_rule_13 : decode cX11_rule 13 = .ok (.iload_n 1, 1) := by decide +kernel
theorem dX11_rule_14 : decode cX11_rule 14 = .ok (.isub, 1) := by decide +kernel
theorem dX11_rule_15 : decode cX11_rule 15 = .ok (.i2l, 1) := by decide +kernel
theorem dX11_rule_16 : decode cX11_rule 16 = .ok (.iload_n 1, 1) := by decide +kernel
theorem dX11_rule_17 : decode cX11_rule 17 = .ok (.ifCond .ne 9, 3) := by decide +kernel
theorem dX11_rule_20 : decode cX11_rule 20 = .ok (.ldc2_w 224, 3) := by decide +kernel
theorem dX11_rule_23 : decode cX11_rule 23 = .ok (.goto 6, 3) := by decide +kernel
theorem dX11_rule_26 : decode cX11_rule 26 = .ok (.ldc2_w 226, 3) := by decide +kernel
theorem dX11_rule_29 : decode cX11_rule 29 = .ok (.invokestatic 104, 3) := by decide +kernel
theorem dX11_rule_32 : decode cX11_rule 32 = .ok (.ifCond .ne 6, 3) := by decide +kernel
theorem dX11_rule_35 : decode cX11_rule 35 = .ok (.ldc 108, 2) := by decide +kernel
theorem dX11_rule_37 : decode cX11_rule 37 = .ok (.ireturn, 1) := by decide +kernel
theorem dX11_rule_38 : decode cX11_rule 38 = .ok (.iload_n 1, 1) := by decide +kernel
theorem dX11_rule_39 : decode cX11_rule 39 = .ok (.ifCond .ne 10, 3) := by decide +kernel
theorem dX11_rule_42 : decode cX11_rule 42 = .ok (.aload_n 0, 1) := by decide +kernel
theorem dX11_rule_43 : decode cX11_rule 43 = .ok (.getfield 17, 3) := by decide +kernel
theorem dX11_rule_46 : decode cX11_rule 46 = .ok (.goto 7, 3) := by decide +kernel
theorem dX11_rule_49 : decode cX11_rule 49 = .ok (.aload_n 0, 1) := by decide +kernel
theorem dX11_rule_50 : decode cX11_rule 50 = .ok (.getfield 21, 3) := by decide +kernel
theorem dX11_rule_53 : decode cX11_rule 53 = .ok (.istore_n 3, 1) := by decide +kernel
theorem dX11_rule_54 : decode cX11_rule 54 = .ok (.aload_n 0, 1) := by decide +kernel
theorem dX11_rule_55 : decode cX11_rule 55 = .ok (.iload_n 1, 1) := by decide +kernel
theorem dX11_rule_56 : decode cX11_rule 56 = .ok (.ifCond .ne 7, 3) := by decide +kernel
theorem dX11_rule_59 : decode cX11_rule 59 = .ok (.iload_n 2, 1) := by decide +kernel
theorem dX11_rule_60 : decode cX11_rule 60 = .ok (.goto 7, 3) := by decide +kernel
theorem dX11_rule_63 : decode cX11_rule 63 = .ok (.aload_n 0, 1) := by decide +kernel
theorem dX11_rule_64 : decode cX11_rule 64 = .ok (.getfield 17, 3) := by decide +kernel
theorem dX11_rule_67 : decode cX11_rule 67 = .ok (.putfield 17, 3) := by decide +kernel
theorem dX11_rule_70 : decode cX11_rule 70 = .ok (.aload_n 0, 1) := by decide +kernel
theorem dX11_rule_71 : decode cX11_rule 71 = .ok (.iload_n 1, 1) := by decide +kernel
theorem dX11_rule_72 : decode cX11_rule 72 = .ok (.iconst 1, 1) := by decide +kernel
theorem dX11_rule_73 : decode cX11_rule 73 = .ok (.if_icmp .ne 7, 3) := by decide +kernel
theorem dX11_rule_76 : decode cX11_rule 76 = .ok (.iload_n 2, 1) := by decide +kernel
theorem dX11_rule_77 : decode cX11_rule 77 = .ok (.goto 7, 3) := by decide +kernel
theorem dX11_rule_80 : decode cX11_rule 80 = .ok (.aload_n 0, 1) := by decide +kernel
theorem dX11_rule_81 : decode cX11_rule 81 = .ok (.getfield 21, 3) := by decide +kernel
theorem dX11_rule_84 : decode cX11_rule 84 = .ok (.putfield 21, 3) := by decide +kernel
theorem dX11_rule_87 : decode cX11_rule 87 = .ok (.iload_n 3, 1) := by decide +kernel
theorem dX11_rule_88 : decode cX11_rule 88 = .ok (.ireturn, 1) := by decide +kernel
theorem dX11_cell_0 : decode cX11_cell 0 = .ok (.bipush 6, 2) := by decide +kernel
theorem dX11_cell_2 : decode cX11_cell 2 = .ok (.iload_n 0, 1) := by decide +kernel
theorem dX11_cell_3 : decode cX11_cell 3 = .ok (.imul, 1) := by decide +kernel
theorem dX11_cell_4 : decode cX11_cell 4 = .ok (.iload_n 1, 1) := by decide +kernel
theorem dX11_cell_5 : decode cX11_cell 5 = .ok (.iadd, 1) := by decide +kernel
theorem dX11_cell_6 : decode cX11_cell 6 = .ok (.ireturn, 1) := by decide +kernel
theorem dX11_draw_0 : decode cX11_draw 0 = .ok (.aload_n 0, 1) := by decide +kernel
theorem dX11_draw_1 : decode cX11_draw 1 = .ok (.getfield 7, 3) := by decide +kernel
theorem dX11_draw_4 : decode cX11_draw 4 = .ok (.iload_n 1, 1) := by decide +kernel
theorem dX11_draw_5 : decode cX11_draw 5 = .ok (.sipush 866, 3) := by decide +kernel
theorem dX11_draw_8 : decode cX11_draw 8 = .ok (.iadd, 1) := by decide +kernel
theorem dX11_draw_9 : decode cX11_draw 9 = .ok (.aload_n 0, 1) := by decide +kernel
theorem dX11_draw_10 : decode cX11_draw 10 = .ok (.getfield 7, 3) := by decide +kernel
theorem dX11_draw_13 : decode cX11_draw 13 = .ok (.iload_n 1, 1) := by decide +kernel
theorem dX11_draw_14 : decode cX11_draw 14 = .ok (.sipush 866, 3) := by decide +kernel
theorem dX11_draw_17 : decode cX11_draw 17 = .ok (.iadd, 1) := by decide +kernel
theorem dX11_draw_18 : decode cX11_draw 18 = .ok (.iaload, 1) := by decide +kernel
theorem dX11_draw_19 : decode cX11_draw 19 = .ok (.i2l, 1) := by decide +kernel
theorem dX11_draw_20 : decode cX11_draw 20 = .ok (.ldc2_w 228, 3) := by decide +kernel
theorem dX11_draw_23 : decode cX11_draw 23 = .ok (.lmul, 1) := by decide +kernel
theorem dX11_draw_24 : decode cX11_draw 24 = .ok (.ldc2_w 230, 3) := by decide +kernel
theorem dX11_draw_27 : decode cX11_draw 27 = .ok (.ladd, 1) := by decide +kernel
theorem dX11_draw_28 : decode cX11_draw 28 = .ok (.ldc2_w 232, 3) := by decide +kernel
theorem dX11_draw_31 : decode cX11_draw 31 = .ok (.lrem, 1) := by decide +kernel
theorem dX11_draw_32 : decode cX11_draw 32 = .ok (.l2i, 1) := by decide +kernel
theorem dX11_draw_33 : decode cX11_draw 33 = .ok (.iastore, 1) := by decide +kernel
theorem dX11_draw_34 : decode cX11_draw 34 = .ok (.aload_n 0, 1) := by decide +kernel
theorem dX11_draw_35 : decode cX11_draw 35 = .ok (.getfield 7, 3) := by decide +kernel
theorem dX11_draw_38 : decode cX11_draw 38 = .ok (.iload_n 1, 1) := by decide +kernel
theorem dX11_draw_39 : decode cX11_draw 39 = .ok (.sipush 866, 3) := by decide +kernel
theorem dX11_draw_42 : decode cX11_draw 42 = .ok (.iadd, 1) := by decide +kernel
theorem dX11_draw_43 : decode cX11_draw 43 = .ok (.iaload, 1) := by decide +kernel
theorem dX11_draw_44 : decode cX11_draw 44 = .ok (.ldc 234, 2) := by decide +kernel
theorem dX11_draw_46 : decode cX11_draw 46 = .ok (.idiv, 1) := by decide +kernel
theorem dX11_draw_47 : decode cX11_draw 47 = .ok (.iload_n 2, 1) := by decide +kernel
theorem dX11_draw_48 : decode cX11_draw 48 = .ok (.irem, 1) := by decide +kernel
theorem dX11_draw_49 : decode cX11_draw 49 = .ok (.ireturn, 1) := by decide +kernel
theorem dX11_come_0 : decode cX11_come 0 = .ok (.iload_n 1, 1) := by decide +kernel
theorem dX11_come_1 : decode cX11_come 1 = .ok (.iload_n 2, 1) := by decide +kernel
theorem dX11_come_2 : decode cX11_come 2 = .ok (.iload_n 3, 1) := by decide +kernel
theorem dX11_come_3 : decode cX11_come 3 = .ok (.invokestatic 235, 3) := by decide +kernel
theorem dX11_come_6 : decode cX11_come 6 = .ok (.iadd, 1) := by decide +kernel
theorem dX11_come_7 : decode cX11_come 7 = .ok (.istore 6, 2) := by decide +kernel
theorem dX11_come_9 : decode cX11_come 9 = .ok (.aload_n 0, 1) := by decide +kernel
theorem dX11_come_10 : decode cX11_come 10 = .ok (.getfield 7, 3) := by decide +kernel
theorem dX11_come_13 : decode cX11_come 13 = .ok (.iload 6, 2) := by decide +kernel
theorem dX11_come_15 : decode cX11_come 15 = .ok (.iconst 0, 1) := by decide +kernel
theorem dX11_come_16 : decode cX11_come 16 = .ok (.iadd, 1) := by decide +kernel
theorem dX11_come_17 : decode cX11_come 17 = .ok (.iconst 1, 1) := by decide +kernel
theorem dX11_come_18 : decode cX11_come 18 = .ok (.iastore, 1) := by decide +kernel
theorem dX11_come_19 : decode cX11_come 19 = .ok (.aload_n 0, 1) := by decide +kernel
theorem dX11_come_20 : decode cX11_come 20 = .ok (.getfield 7, 3) := by decide +kernel
theorem dX11_come_23 : decode cX11_come 23 = .ok (.iload 6, 2) := by decide +kernel
theorem dX11_come_25 : decode cX11_come 25 = .ok (.sipush 144, 3) := by decide +kernel
theorem dX11_come_28 : decode cX11_come 28 = .ok (.iadd, 1) := by decide +kernel
theorem dX11_come_29 : decode cX11_come 29 = .ok (.iload 4, 2) := by decide +kernel
theorem dX11_come_31 : decode cX11_come 31 = .ok (.iastore, 1) := by decide +kernel
theorem dX11_come_32 : decode cX11_come 32 = .ok (.aload_n 0, 1) := by decide +kernel
theorem dX11_come_33 : decode cX11_come 33 = .ok (.getfield 7, 3) := by decide +kernel
theorem dX11_come_36 : decode cX11_come 36 = .ok (.iload 6, 2) := by decide +kernel
theorem dX11_come_38 : decode cX11_come 38 = .ok (.sipush 288, 3) := by decide +kernel
theorem dX11_come_41 : decode cX11_come 41 = .ok (.iadd, 1) := by decide +kernel
theorem dX11_come_42 : decode cX11_come 42 = .ok (.aload_n 0, 1) := by decide +kernel
theorem dX11_come_43 : decode cX11_come 43 = .ok (.getfield 7, 3) := by decide +kernel
theorem dX11_come_46 : decode cX11_come 46 = .ok (.iload_n 1, 1) := by decide +kernel
theorem dX11_come_47 : decode cX11_come 47 = .ok (.sipush 864, 3) := by decide +kernel
theorem dX11_come_50 : decode cX11_come 50 = .ok (.iadd, 1) := by decide +kernel
theorem dX11_come_51 : decode cX11_come 51 = .ok (.iaload, 1) := by decide +kernel
theorem dX11_come_52 : decode cX11_come 52 = .ok (.iastore, 1) := by decide +kernel
theorem dX11_come_53 : decode cX11_come 53 = .ok (.aload_n 0, 1) := by decide +kernel
theorem dX11_come_54 : decode cX11_come 54 = .ok (.getfield 7, 3) := by decide +kernel
theorem dX11_come_57 : decode cX11_come 57 = .ok (.iload 6, 2) := by decide +kernel
theorem dX11_come_59 : decode cX11_come 59 = .ok (.sipush 720, 3) := by decide +kernel
theorem dX11_come_62 : decode cX11_come 62 = .ok (.iadd, 1) := by decide +kernel
theorem dX11_come_63 : decode cX11_come 63 = .ok (.iload 5, 2) := by decide +kernel
theorem dX11_come_65 : decode cX11_come 65 = .ok (.iastore, 1) := by decide +kernel
theorem dX11_come_66 : decode cX11_come 66 = .ok (.return_, 1) := by decide +kernel
theorem dX11_isHeld_0 : decode cX11_isHeld 0 = .ok (.aload_n 0, 1) := by decide +kernel
theorem dX11_isHeld_1 : decode cX11_isHeld 1 = .ok (.getfield 7, 3) := by decide +kernel
theorem dX11_isHeld_4 : decode cX11_isHeld 4 = .ok (.iload_n 1, 1) := by decide +kernel
theorem dX11_isHeld_5 : decode cX11_isHeld 5 = .ok (.iconst 0, 1) := by decide +kernel
theorem dX11_isHeld_6 : decode cX11_isHeld 6 = .ok (.iadd, 1) := by decide +kernel
theorem dX11_isHeld_7 : decode cX11_isHeld 7 = .ok (.iload_n 2, 1) := by decide +kernel
theorem dX11_isHeld_8 : decode cX11_isHeld 8 = .ok (.iload_n 3, 1) := by decide +kernel
theorem dX11_isHeld_9 : decode cX11_isHeld 9 = .ok (.invokestatic 235, 3) := by decide +kernel
theorem dX11_isHeld_12 : decode cX11_isHeld 12 = .ok (.iadd, 1) := by decide +kernel
theorem dX11_isHeld_13 : decode cX11_isHeld 13 = .ok (.iaload, 1) := by decide +kernel
theorem dX11_isHeld_14 : decode cX11_isHeld 14 = .ok (.ifCond .le 7, 3) := by decide +kernel
theorem dX11_isHeld_17 : decode cX11_isHeld 17 = .ok (.iconst 1, 1) := by decide +kernel
theorem dX11_isHeld_18 : decode cX11_isHeld 18 = .ok (.goto 4, 3) := by decide +kernel
theorem dX11_isHeld_21 : decode cX11_isHeld 21 = .ok (.iconst 0, 1) := by decide +kernel
theorem dX11_isHeld_22 : decode cX11_isHeld 22 = .ok (.ireturn, 1) := by decide +kernel
theorem dX11_latest_0 : decode cX11_latest 0 = .ok (.iconst (-1), 1) := by decide +kernel
theorem dX11_latest_1 : decode cX11_latest 1 = .ok (.istore_n 3, 1) := by decide +kernel
theorem dX11_latest_2 : decode cX11_latest 2 = .ok (.iconst 0, 1) := by decide +kernel
theorem dX11_latest_3 : decode cX11_latest 3 = .ok (.istore 4, 2) := by decide +kernel
theorem dX11_latest_5 : decode cX11_latest 5 = .ok (.iload 4, 2) := by decide +kernel
theorem dX11_latest_7 : decode cX11_latest 7 = .ok (.aload_n 0, 1) := by decide +kernel
theorem dX11_latest_8 : decode cX11_latest 8 = .ok (.getfield 63, 3) := by decide +kernel
theorem dX11_latest_11 : decode cX11_latest 11 = .ok (.iconst 0, 1) := by decide +kernel
theorem dX11_latest_12 : decode cX11_latest 12 = .ok (.iaload, 1) := by decide +kernel
theorem dX11_latest_13 : decode cX11_latest 13 = .ok (.if_icmp .ge 87, 3) := by decide +kernel
theorem dX11_latest_16 : decode cX11_latest 16 = .ok (.aload_n 0, 1) := by decide +kernel
theorem dX11_latest_17 : decode cX11_latest 17 = .ok (.getfield 7, 3) := by decide +kernel
theorem dX11_latest_20 : decode cX11_latest 20 = .ok (.iload_n 1, 1) := by decide +kernel
theorem dX11_latest_21 : decode cX11_latest 21 = .ok (.iconst 0, 1) := by decide +kernel
theorem dX11_latest_22 : decode cX11_latest 22 = .ok (.iadd, 1) := by decide +kernel
theorem dX11_latest_23 : decode cX11_latest 23 = .ok (.iload_n 2, 1) := by decide +kernel
theorem dX11_latest_24 : decode cX11_latest 24 = .ok (.iload 4, 2) := by decide +kernel
theorem dX11_latest_26 : decode cX11_latest 26 = .ok (.invokestatic 235, 3) := by decide +kernel
theorem dX11_latest_29 : decode cX11_latest 29 = .ok (.iadd, 1) := by decide +kernel
theorem dX11_latest_30 : decode cX11_latest 30 = .ok (.iaload, 1) := by decide +kernel
theorem dX11_latest_31 : decode cX11_latest 31 = .ok (.iconst 1, 1) := by decide +kernel
theorem dX11_latest_32 : decode cX11_latest 32 = .ok (.if_icmp .ne 7, 3) := by decide +kernel
theorem dX11_latest_35 : decode cX11_latest 35 = .ok (.iconst 1, 1) := by decide +kernel
theorem dX11_latest_36 : decode cX11_latest 36 = .ok (.goto 4, 3) := by decide +kernel
theorem dX11_latest_39 : decode cX11_latest 39 = .ok (.iconst 0, 1) := by decide +kernel
theorem dX11_latest_40 : decode cX11_latest 40 = .ok (.istore 5, 2) := by decide +kernel
theorem dX11_latest_42 : decode cX11_latest 42 = .ok (.iload 5, 2) := by decide +kernel
theorem dX11_latest_44 : decode cX11_latest 44 = .ok (.ifCond .eq 48, 3) := by decide +kernel
theorem dX11_latest_47 : decode cX11_latest 47 = .ok (.iload_n 3, 1) := by decide +kernel
theorem dX11_latest_48 : decode cX11_latest 48 = .ok (.ifCond .lt 39, 3) := by decide +kernel
theorem dX11_latest_51 : decode cX11_latest 51 = .ok (.aload_n 0, 1) := by decide +kernel
theorem dX11_latest_52 : decode cX11_latest 52 = .ok (.getfield 7, 3) := by decide +kernel
theorem dX11_latest_55 : decode cX11_latest 55 = .ok (.iload_n 1, 1) := by decide +kernel
theorem dX11_latest_56 : decode cX11_latest 56 = .ok (.sipush 288, 3) := by decide +kernel
theorem dX11_latest_59 : decode cX11_latest 59 = .ok (.iadd, 1) := by decide +kernel
theorem dX11_latest_60 : decode cX11_latest 60 = .ok (.iload_n 2, 1) := by decide +kernel
theorem dX11_latest_61 : decode cX11_latest 61 = .ok (.iload 4, 2) := by decide +kernel
theorem dX11_latest_63 : decode cX11_latest 63 = .ok (.invokestatic 235, 3) := by decide +kernel
theorem dX11_latest_66 : decode cX11_latest 66 = .ok (.iadd, 1) := by decide +kernel
theorem dX11_latest_67 : decode cX11_latest 67 = .ok (.iaload, 1) := by decide +kernel
theorem dX11_latest_68 : decode cX11_latest 68 = .ok (.aload_n 0, 1) := by decide +kernel
theorem dX11_latest_69 : decode cX11_latest 69 = .ok (.getfield 7, 3) := by decide +kernel
theorem dX11_latest_72 : decode cX11_latest 72 = .ok (.iload_n 1, 1) := by decide +kernel
theorem dX11_latest_73 : decode cX11_latest 73 = .ok (.sipush 288, 3) := by decide +kernel
theorem dX11_latest_76 : decode cX11_latest 76 = .ok (.iadd, 1) := by decide +kernel
theorem dX11_latest_77 : decode cX11_latest 77 = .ok (.iload_n 2, 1) := by decide +kernel
theorem dX11_latest_78 : decode cX11_latest 78 = .ok (.iload_n 3, 1) := by decide +kernel
theorem dX11_latest_79 : decode cX11_latest 79 = .ok (.invokestatic 235, 3) := by decide +kernel
theorem dX11_latest_82 : decode cX11_latest 82 = .ok (.iadd, 1) := by decide +kernel
theorem dX11_latest_83 : decode cX11_latest 83 = .ok (.iaload, 1) := by decide +kernel
theorem dX11_latest_84 : decode cX11_latest 84 = .ok (.if_icmp .lt 8, 3) := by decide +kernel
theorem dX11_latest_87 : decode cX11_latest 87 = .ok (.iload 4, 2) := by decide +kernel
theorem dX11_latest_89 : decode cX11_latest 89 = .ok (.goto 4, 3) := by decide +kernel
theorem dX11_latest_92 : decode cX11_latest 92 = .ok (.iload_n 3, 1) := by decide +kernel
theorem dX11_latest_93 : decode cX11_latest 93 = .ok (.istore_n 3, 1) := by decide +kernel
theorem dX11_latest_94 : decode cX11_latest 94 = .ok (.iinc 4 1, 3) := by decide +kernel
theorem dX11_latest_97 : decode cX11_latest 97 = .ok (.goto (-92), 3) := by decide +kernel
theorem dX11_latest_100 : decode cX11_latest 100 = .ok (.iload_n 3, 1) := by decide +kernel
theorem dX11_latest_101 : decode cX11_latest 101 = .ok (.ireturn, 1) := by decide +kernel
theorem dX11_listener_0 : decode cX11_listener 0 = .ok (.aload_n 0, 1) := by decide +kernel
theorem dX11_listener_1 : decode cX11_listener 1 = .ok (.iload_n 1, 1) := by decide +kernel
theorem dX11_listener_2 : decode cX11_listener 2 = .ok (.aload_n 0, 1) := by decide +kernel
theorem dX11_listener_3 : decode cX11_listener 3 = .ok (.iload_n 2, 1) := by decide +kernel
theorem dX11_listener_4 : decode cX11_listener 4 = .ok (.invokevirtual 209, 3) := by decide +kernel
theorem dX11_listener_7 : decode cX11_listener 7 = .ok (.invokevirtual 238, 3) := by decide +kernel
theorem dX11_listener_10 : decode cX11_listener 10 = .ok (.istore_n 3, 1) := by decide +kernel
theorem dX11_listener_11 : decode cX11_listener 11 = .ok (.iconst 0, 1) := by decide +kernel
theorem dX11_listener_12 : decode cX11_listener 12 = .ok (.istore 4, 2) := by decide +kernel
theorem dX11_listener_14 : decode cX11_listener 14 = .ok (.iload 4, 2) := by decide +kernel
theorem dX11_listener_16 : decode cX11_listener 16 = .ok (.aload_n 0, 1) := by decide +kernel
theorem dX11_listener_17 : decode cX11_listener 17 = .ok (.getfield 45, 3) := by decide +kernel
theorem dX11_listener_20 : decode cX11_listener 20 = .ok (.iconst 0, 1) := by decide +kernel
theorem dX11_listener_21 : decode cX11_listener 21 = .ok (.iaload, 1) := by decide +kernel
theorem dX11_listener_22 : decode cX11_listener 22 = .ok (.if_icmp .ge 62, 3) := by decide +kernel
theorem dX11_listener_25 : decode cX11_listener 25 = .ok (.aload_n 0, 1) := by decide +kernel
theorem dX11_listener_26 : decode cX11_listener 26 = .ok (.iload 4, 2) := by decide +kernel
theorem dX11_listener_28 : decode cX11_listener 28 = .ok (.iload_n 2, 1) := by decide +kernel
theorem dX11_listener_29 : decode cX11_listener 29 = .ok (.invokevirtual 198, 3) := by decide +kernel
theorem dX11_listener_32 : decode cX11_listener 32 = .ok (.ifCond .eq 46, 3) := by decide +kernel
theorem dX11_listener_35 : decode cX11_listener 35 = .ok (.iload_n 3, 1) := by decide +kernel
theorem dX11_listener_36 : decode cX11_listener 36 = .ok (.aload_n 0, 1) := by decide +kernel
theorem dX11_listener_37 : decode cX11_listener 37 = .ok (.getfield 42, 3) := by decide +kernel
theorem dX11_listener_40 : decode cX11_listener 40 = .ok (.iload 4, 2) := by decide +kernel
theorem dX11_listener_42 : decode cX11_listener 42 = .ok (.iaload, 1) := by decide +kernel
theorem dX11_listener_43 : decode cX11_listener 43 = .ok (.isub, 1) := by decide +kernel
theorem dX11_listener_44 : decode cX11_listener 44 = .ok (.istore_n 3, 1) := by decide +kernel
theorem dX11_listener_45 : decode cX11_listener 45 = .ok (.iload_n 3, 1) := by decide +kernel
theorem dX11_listener_46 : decode cX11_listener 46 = .ok (.ifCond .ge 32, 3) := by decide +kernel
theorem dX11_listener_49 : decode cX11_listener 49 = .ok (.aload_n 0, 1) := by decide +kernel
theorem dX11_listener_50 : decode cX11_listener 50 = .ok (.getfield 36, 3) := by decide +kernel
theorem dX11_listener_53 : decode cX11_listener 53 = .ok (.iload 4, 2) := by decide +kernel
theorem dX11_listener_55 : decode cX11_listener 55 = .ok (.iaload, 1) := by decide +kernel
theorem dX11_listener_56 : decode cX11_listener 56 = .ok (.iload_n 2, 1) := by decide +kernel
theorem dX11_listener_57 : decode cX11_listener 57 = .ok (.if_icmp .ne 13, 3) := by decide +kernel
theorem dX11_listener_60 : decode cX11_listener 60 = .ok (.aload_n 0, 1) := by decide +kernel
theorem dX11_listener_61 : decode cX11_listener 61 = .ok (.getfield 39, 3) := by decide +kernel
theorem dX11_listener_64 : decode cX11_listener 64 = .ok (.iload 4, 2) := by decide +kernel
theorem dX11_listener_66 : decode cX11_listener 66 = .ok (.iaload, 1) := by decide +kernel
theorem dX11_listener_67 : decode cX11_listener 67 = .ok (.goto 10, 3) := by decide +kernel
theorem dX11_listener_70 : decode cX11_listener 70 = .ok (.aload_n 0, 1) := by decide +kernel
theorem dX11_listener_71 : decode cX11_listener 71 = .ok (.getfield 36, 3) := by decide +kernel
theorem dX11_listener_74 : decode cX11_listener 74 = .ok (.iload 4, 2) := by decide +kernel
theorem dX11_listener_76 : decode cX11_listener 76 = .ok (.iaload, 1) := by decide +kernel
theorem dX11_listener_77 : decode cX11_listener 77 = .ok (.ireturn, 1) := by decide +kernel
theorem dX11_listener_78 : decode cX11_listener 78 = .ok (.iinc 4 1, 3) := by decide +kernel
theorem dX11_listener_81 : decode cX11_listener 81 = .ok (.goto (-67), 3) := by decide +kernel
theorem dX11_listener_84 : decode cX11_listener 84 = .ok (.iconst (-1), 1) := by decide +kernel
theorem dX11_listener_85 : decode cX11_listener 85 = .ok (.ireturn, 1) := by decide +kernel
theorem dX11_heedOf_0 : decode cX11_heedOf 0 = .ok (.iconst 0, 1) := by decide +kernel
theorem dX11_heedOf_1 : decode cX11_heedOf 1 = .ok (.istore 4, 2) := by decide +kernel
theorem dX11_heedOf_3 : decode cX11_heedOf 3 = .ok (.iconst 0, 1) := by decide +kernel
theorem dX11_heedOf_4 : decode cX11_heedOf 4 = .ok (.istore 5, 2) := by decide +kernel
theorem dX11_heedOf_6 : decode cX11_heedOf 6 = .ok (.iload 5, 2) := by decide +kernel
theorem dX11_heedOf_8 : decode cX11_heedOf 8 = .ok (.aload_n 0, 1) := by decide +kernel
theorem dX11_heedOf_9 : decode cX11_heedOf 9 = .ok (.getfield 63, 3) := by decide +kernel
theorem dX11_heedOf_12 : decode cX11_heedOf 12 = .ok (.iconst 0, 1) := by decide +kernel
theorem dX11_heedOf_13 : decode cX11_heedOf 13 = .ok (.iaload, 1) := by decide +kernel
theorem dX11_heedOf_14 : decode cX11_heedOf 14 = .ok (.if_icmp .ge 58, 3) := by decide +kernel
theorem dX11_heedOf_17 : decode cX11_heedOf 17 = .ok (.iload 4, 2) := by decide +kernel
theorem dX11_heedOf_19 : decode cX11_heedOf 19 = .ok (.ifCond .ne 40, 3) := by decide +kernel
theorem dX11_heedOf_22 : decode cX11_heedOf 22 = .ok (.aload_n 0, 1) := by decide +kernel
theorem dX11_heedOf_23 : decode cX11_heedOf 23 = .ok (.iload_n 1, 1) := by decide +kernel
theorem dX11_heedOf_24 : decode cX11_heedOf 24 = .ok (.iload_n 2, 1) := by decide +kernel
theorem dX11_heedOf_25 : decode cX11_heedOf 25 = .ok (.iload 5, 2) := by decide +kernel
theorem dX11_heedOf_27 : decode cX11_heedOf 27 = .ok (.invokevirtual 241, 3) := by decide +kernel
theorem dX11_heedOf_30 : decode cX11_heedOf 30 = .ok (.ifCond .eq 33, 3) := by decide +kernel
theorem dX11_heedOf_33 : decode cX11_heedOf 33 = .ok (.aload_n 0, 1) := by decide +kernel
theorem dX11_heedOf_34 : decode cX11_heedOf 34 = .ok (.getfield 48, 3) := by decide +kernel
theorem dX11_heedOf_37 : decode cX11_heedOf 37 = .ok (.iload 5, 2) := by decide +kernel
theorem dX11_heedOf_39 : decode cX11_heedOf 39 = .ok (.iaload, 1) := by decide +kernel
theorem dX11_heedOf_40 : decode cX11_heedOf 40 = .ok (.ifCond .lt 23, 3) := by decide +kernel
theorem dX11_heedOf_43 : decode cX11_heedOf 43 = .ok (.aload_n 0, 1) := by decide +kernel
theorem dX11_heedOf_44 : decode cX11_heedOf 44 = .ok (.getfield 48, 3) := by decide +kernel
theorem dX11_heedOf_47 : decode cX11_heedOf 47 = .ok (.iload 5, 2) := by decide +kernel
theorem dX11_heedOf_49 : decode cX11_heedOf 49 = .ok (.iaload, 1) := by decide +kernel
theorem dX11_heedOf_50 : decode cX11_heedOf 50 = .ok (.aload_n 0, 1) := by decide +kernel
theorem dX11_heedOf_51 : decode cX11_heedOf 51 = .ok (.getfield 51, 3) := by decide +kernel
theorem dX11_heedOf_54 : decode cX11_heedOf 54 = .ok (.iload_n 3, 1) := by decide +kernel
theorem dX11_heedOf_55 : decode cX11_heedOf 55 = .ok (.iaload, 1) := by decide +kernel
theorem dX11_heedOf_56 : decode cX11_heedOf 56 = .ok (.if_icmp .ne 7, 3) := by decide +kernel
theorem dX11_heedOf_59 : decode cX11_heedOf 59 = .ok (.iconst 1, 1) := by decide +kernel
theorem dX11_heedOf_60 : decode cX11_heedOf 60 = .ok (.goto 4, 3) := by decide +kernel
theorem dX11_heedOf_63 : decode cX11_heedOf 63 = .ok (.iconst 0, 1) := by decide +kernel
theorem dX11_heedOf_64 : decode cX11_heedOf 64 = .ok (.istore 4, 2) := by decide +kernel
theorem dX11_heedOf_66 : decode cX11_heedOf 66 = .ok (.iinc 5 1, 3) := by decide +kernel
theorem dX11_heedOf_69 : decode cX11_heedOf 69 = .ok (.goto (-63), 3) := by decide +kernel
theorem dX11_heedOf_72 : decode cX11_heedOf 72 = .ok (.aload_n 0, 1) := by decide +kernel
theorem dX11_heedOf_73 : decode cX11_heedOf 73 = .ok (.getfield 24, 3) := by decide +kernel
theorem dX11_heedOf_76 : decode cX11_heedOf 76 = .ok (.iload_n 2, 1) := by decide +kernel
theorem dX11_heedOf_77 : decode cX11_heedOf 77 = .ok (.iaload, 1) := by decide +kernel
theorem dX11_heedOf_78 : decode cX11_heedOf 78 = .ok (.iload 4, 2) := by decide +kernel
theorem dX11_heedOf_80 : decode cX11_heedOf 80 = .ok (.ifCond .eq 10, 3) := by decide +kernel
theorem dX11_heedOf_83 : decode cX11_heedOf 83 = .ok (.aload_n 0, 1) := by decide +kernel
theorem dX11_heedOf_84 : decode cX11_heedOf 84 = .ok (.getfield 21, 3) := by decide +kernel
theorem dX11_heedOf_87 : decode cX11_heedOf 87 = .ok (.goto 4, 3) := by decide +kernel
theorem dX11_heedOf_90 : decode cX11_heedOf 90 = .ok (.iconst 0, 1) := by decide +kernel
theorem dX11_heedOf_91 : decode cX11_heedOf 91 = .ok (.iadd, 1) := by decide +kernel
theorem dX11_heedOf_92 : decode cX11_heedOf 92 = .ok (.istore 5, 2) := by decide +kernel
theorem dX11_heedOf_94 : decode cX11_heedOf 94 = .ok (.iload 5, 2) := by decide +kernel
theorem dX11_heedOf_96 : decode cX11_heedOf 96 = .ok (.bipush 100, 2) := by decide +kernel
theorem dX11_heedOf_98 : decode cX11_heedOf 98 = .ok (.if_icmp .le 8, 3) := by decide +kernel
theorem dX11_heedOf_101 : decode cX11_heedOf 101 = .ok (.bipush 100, 2) := by decide +kernel
theorem dX11_heedOf_103 : decode cX11_heedOf 103 = .ok (.goto 5, 3) := by decide +kernel
theorem dX11_heedOf_106 : decode cX11_heedOf 106 = .ok (.iload 5, 2) := by decide +kernel
theorem dX11_heedOf_108 : decode cX11_heedOf 108 = .ok (.ireturn, 1) := by decide +kernel
theorem dX11_tellTo_0 : decode cX11_tellTo 0 = .ok (.aload_n 0, 1) := by decide +kernel
theorem dX11_tellTo_1 : decode cX11_tellTo 1 = .ok (.getfield 7, 3) := by decide +kernel
theorem dX11_tellTo_4 : decode cX11_tellTo 4 = .ok (.iload_n 1, 1) := by decide +kernel
theorem dX11_tellTo_5 : decode cX11_tellTo 5 = .ok (.sipush 576, 3) := by decide +kernel
theorem dX11_tellTo_8 : decode cX11_tellTo 8 = .ok (.iadd, 1) := by decide +kernel
theorem dX11_tellTo_9 : decode cX11_tellTo 9 = .ok (.iload 4, 2) := by decide +kernel
theorem dX11_tellTo_11 : decode cX11_tellTo 11 = .ok (.iload_n 3, 1) := by decide +kernel
theorem dX11_tellTo_12 : decode cX11_tellTo 12 = .ok (.invokestatic 235, 3) := by decide +kernel
theorem dX11_tellTo_15 : decode cX11_tellTo 15 = .ok (.iadd, 1) := by decide +kernel
theorem dX11_tellTo_16 : decode cX11_tellTo 16 = .ok (.dup2, 1) := by decide +kernel
theorem dX11_tellTo_17 : decode cX11_tellTo 17 = .ok (.iaload, 1) := by decide +kernel
theorem dX11_tellTo_18 : decode cX11_tellTo 18 = .ok (.iconst 1, 1) := by decide +kernel
theorem dX11_tellTo_19 : decode cX11_tellTo 19 = .ok (.iload_n 2, 1) := by decide +kernel
theorem dX11_tellTo_20 : decode cX11_tellTo 20 = .ok (.ishl, 1) := by decide +kernel
theorem dX11_tellTo_21 : decode cX11_tellTo 21 = .ok (.ior, 1) := by decide +kernel
theorem dX11_tellTo_22 : decode cX11_tellTo 22 = .ok (.iastore, 1) := by decide +kernel
theorem dX11_tellTo_23 : decode cX11_tellTo 23 = .ok (.aload_n 0, 1) := by decide +kernel
theorem dX11_tellTo_24 : decode cX11_tellTo 24 = .ok (.iload_n 1, 1) := by decide +kernel
theorem dX11_tellTo_25 : decode cX11_tellTo 25 = .ok (.iload 4, 2) := by decide +kernel
theorem dX11_tellTo_27 : decode cX11_tellTo 27 = .ok (.iload_n 3, 1) := by decide +kernel
theorem dX11_tellTo_28 : decode cX11_tellTo 28 = .ok (.invokevirtual 241, 3) := by decide +kernel
theorem dX11_tellTo_31 : decode cX11_tellTo 31 = .ok (.ifCond .eq 67, 3) := by decide +kernel
theorem dX11_tellTo_34 : decode cX11_tellTo 34 = .ok (.aload_n 0, 1) := by decide +kernel
theorem dX11_tellTo_35 : decode cX11_tellTo 35 = .ok (.getfield 7, 3) := by decide +kernel
theorem dX11_tellTo_38 : decode cX11_tellTo 38 = .ok (.iload_n 1, 1) := by decide +kernel
theorem dX11_tellTo_39 : decode cX11_tellTo 39 = .ok (.sipush 432, 3) := by decide +kernel
theorem dX11_tellTo_42 : decode cX11_tellTo 42 = .ok (.iadd, 1) := by decide +kernel
theorem dX11_tellTo_43 : decode cX11_tellTo 43 = .ok (.iload_n 2, 1) := by decide +kernel
theorem dX11_tellTo_44 : decode cX11_tellTo 44 = .ok (.iload_n 3, 1) := by decide +kernel
theorem dX11_tellTo_45 : decode cX11_tellTo 45 = .ok (.invokestatic 235, 3) := by decide +kernel
theorem dX11_tellTo_48 : decode cX11_tellTo 48 = .ok (.iadd, 1) := by decide +kernel
theorem dX11_tellTo_49 : decode cX11_tellTo 49 = .ok (.dup2, 1) := by decide +kernel
theorem dX11_tellTo_50 : decode cX11_tellTo 50 = .ok (.iaload, 1) := by decide +kernel
theorem dX11_tellTo_51 : decode cX11_tellTo 51 = .ok (.iconst 1, 1) := by decide +kernel
theorem dX11_tellTo_52 : decode cX11_tellTo 52 = .ok (.iadd, 1) := by decide +kernel
theorem dX11_tellTo_53 : decode cX11_tellTo 53 = .ok (.iastore, 1) := by decide +kernel
theorem dX11_tellTo_54 : decode cX11_tellTo 54 = .ok (.aload_n 0, 1) := by decide +kernel
theorem dX11_tellTo_55 : decode cX11_tellTo 55 = .ok (.getfield 7, 3) := by decide +kernel
theorem dX11_tellTo_58 : decode cX11_tellTo 58 = .ok (.iload_n 1, 1) := by decide +kernel
theorem dX11_tellTo_59 : decode cX11_tellTo 59 = .ok (.iconst 0, 1) := by decide +kernel
theorem dX11_tellTo_60 : decode cX11_tellTo 60 = .ok (.iadd, 1) := by decide +kernel
theorem dX11_tellTo_61 : decode cX11_tellTo 61 = .ok (.iload_n 2, 1) := by decide +kernel
theorem dX11_tellTo_62 : decode cX11_tellTo 62 = .ok (.iload_n 3, 1) := by decide +kernel
theorem dX11_tellTo_63 : decode cX11_tellTo 63 = .ok (.invokestatic 235, 3) := by decide +kernel
theorem dX11_tellTo_66 : decode cX11_tellTo 66 = .ok (.iadd, 1) := by decide +kernel
theorem dX11_tellTo_67 : decode cX11_tellTo 67 = .ok (.aload_n 0, 1) := by decide +kernel
theorem dX11_tellTo_68 : decode cX11_tellTo 68 = .ok (.getfield 7, 3) := by decide +kernel
theorem dX11_tellTo_71 : decode cX11_tellTo 71 = .ok (.iload_n 1, 1) := by decide +kernel
theorem dX11_tellTo_72 : decode cX11_tellTo 72 = .ok (.sipush 432, 3) := by decide +kernel
theorem dX11_tellTo_75 : decode cX11_tellTo 75 = .ok (.iadd, 1) := by decide +kernel
theorem dX11_tellTo_76 : decode cX11_tellTo 76 = .ok (.iload_n 2, 1) := by decide +kernel
theorem dX11_tellTo_77 : decode cX11_tellTo 77 = .ok (.iload_n 3, 1) := by decide +kernel
theorem dX11_tellTo_78 : decode cX11_tellTo 78 = .ok (.invokestatic 235, 3) := by decide +kernel
theorem dX11_tellTo_81 : decode cX11_tellTo 81 = .ok (.iadd, 1) := by decide +kernel
theorem dX11_tellTo_82 : decode cX11_tellTo 82 = .ok (.iaload, 1) := by decide +kernel
theorem dX11_tellTo_83 : decode cX11_tellTo 83 = .ok (.aload_n 0, 1) := by decide +kernel
theorem dX11_tellTo_84 : decode cX11_tellTo 84 = .ok (.getfield 17, 3) := by decide +kernel
theorem dX11_tellTo_87 : decode cX11_tellTo 87 = .ok (.if_icmp .lt 7, 3) := by decide +kernel
theorem dX11_tellTo_90 : decode cX11_tellTo 90 = .ok (.iconst 2, 1) := by decide +kernel
theorem dX11_tellTo_91 : decode cX11_tellTo 91 = .ok (.goto 4, 3) := by decide +kernel
theorem dX11_tellTo_94 : decode cX11_tellTo 94 = .ok (.iconst 1, 1) := by decide +kernel
theorem dX11_tellTo_95 : decode cX11_tellTo 95 = .ok (.iastore, 1) := by decide +kernel
theorem dX11_tellTo_96 : decode cX11_tellTo 96 = .ok (.iconst 0, 1) := by decide +kernel
theorem dX11_tellTo_97 : decode cX11_tellTo 97 = .ok (.ireturn, 1) := by decide +kernel
theorem dX11_tellTo_98 : decode cX11_tellTo 98 = .ok (.iconst 0, 1) := by decide +kernel
theorem dX11_tellTo_99 : decode cX11_tellTo 99 = .ok (.istore 5, 2) := by decide +kernel
theorem dX11_tellTo_101 : decode cX11_tellTo 101 = .ok (.iload 5, 2) := by decide +kernel
theorem dX11_tellTo_103 : decode cX11_tellTo 103 = .ok (.aload_n 0, 1) := by decide +kernel
theorem dX11_tellTo_104 : decode cX11_tellTo 104 = .ok (.getfield 63, 3) := by decide +kernel
theorem dX11_tellTo_107 : decode cX11_tellTo 107 = .ok (.iconst 0, 1) := by decide +kernel
theorem dX11_tellTo_108 : decode cX11_tellTo 108 = .ok (.iaload, 1) := by decide +kernel
theorem dX11_tellTo_109 : decode cX11_tellTo 109 = .ok (.if_icmp .ge 86, 3) := by decide +kernel
theorem dX11_tellTo_112 : decode cX11_tellTo 112 = .ok (.aload_n 0, 1) := by decide +kernel
theorem dX11_tellTo_113 : decode cX11_tellTo 113 = .ok (.iload_n 1, 1) := by decide +kernel
theorem dX11_tellTo_114 : decode cX11_tellTo 114 = .ok (.iload 4, 2) := by decide +kernel
theorem dX11_tellTo_116 : decode cX11_tellTo 116 = .ok (.iload 5, 2) := by decide +kernel
theorem dX11_tellTo_118 : decode cX11_tellTo 118 = .ok (.invokevirtual 241, 3) := by decide +kernel
theorem dX11_tellTo_121 : decode cX11_tellTo 121 = .ok (.ifCond .eq 68, 3) := by decide +kernel
theorem dX11_tellTo_124 : decode cX11_tellTo 124 = .ok (.aload_n 0, 1) := by decide +kernel
theorem dX11_tellTo_125 : decode cX11_tellTo 125 = .ok (.iload 5, 2) := by decide +kernel
theorem dX11_tellTo_127 : decode cX11_tellTo 127 = .ok (.iload_n 3, 1) := by decide +kernel
theorem dX11_tellTo_128 : decode cX11_tellTo 128 = .ok (.invokevirtual 218, 3) := by decide +kernel
theorem dX11_tellTo_131 : decode cX11_tellTo 131 = .ok (.ifCond .eq 58, 3) := by decide +kernel
theorem dX11_tellTo_134 : decode cX11_tellTo 134 = .ok (.aload_n 0, 1) := by decide +kernel
theorem dX11_tellTo_135 : decode cX11_tellTo 135 = .ok (.iload 5, 2) := by decide +kernel
theorem dX11_tellTo_137 : decode cX11_tellTo 137 = .ok (.iload_n 3, 1) := by decide +kernel
theorem dX11_tellTo_138 : decode cX11_tellTo 138 = .ok (.invokevirtual 221, 3) := by decide +kernel
theorem dX11_tellTo_141 : decode cX11_tellTo 141 = .ok (.istore 6, 2) := by decide +kernel
theorem dX11_tellTo_143 : decode cX11_tellTo 143 = .ok (.iload 6, 2) := by decide +kernel
theorem dX11_tellTo_145 : decode cX11_tellTo 145 = .ok (.ifCond .lt 15, 3) := by decide +kernel
theorem dX11_tellTo_148 : decode cX11_tellTo 148 = .ok (.aload_n 0, 1) := by decide +kernel
theorem dX11_tellTo_149 : decode cX11_tellTo 149 = .ok (.iload_n 1, 1) := by decide +kernel
theorem dX11_tellTo_150 : decode cX11_tellTo 150 = .ok (.iload 4, 2) := by decide +kernel
theorem dX11_tellTo_152 : decode cX11_tellTo 152 = .ok (.iload 6, 2) := by decide +kernel
theorem dX11_tellTo_154 : decode cX11_tellTo 154 = .ok (.invokevirtual 241, 3) := by decide +kernel
theorem dX11_tellTo_157 : decode cX11_tellTo 157 = .ok (.ifCond .eq 19, 3) := by decide +kernel
theorem dX11_tellTo_160 : decode cX11_tellTo 160 = .ok (.aload_n 0, 1) := by decide +kernel
theorem dX11_tellTo_161 : decode cX11_tellTo 161 = .ok (.getfield 7, 3) := by decide +kernel
theorem dX11_tellTo_164 : decode cX11_tellTo 164 = .ok (.iload_n 1, 1) := by decide +kernel
theorem dX11_tellTo_165 : decode cX11_tellTo 165 = .ok (.sipush 865, 3) := by decide +kernel
theorem dX11_tellTo_168 : decode cX11_tellTo 168 = .ok (.iadd, 1) := by decide +kernel
theorem dX11_tellTo_169 : decode cX11_tellTo 169 = .ok (.dup2, 1) := by decide +kernel
theorem dX11_tellTo_170 : decode cX11_tellTo 170 = .ok (.iaload, 1) := by decide +kernel
theorem dX11_tellTo_171 : decode cX11_tellTo 171 = .ok (.iconst 1, 1) := by decide +kernel
theorem dX11_tellTo_172 : decode cX11_tellTo 172 = .ok (.iadd, 1) := by decide +kernel
theorem dX11_tellTo_173 : decode cX11_tellTo 173 = .ok (.iastore, 1) := by decide +kernel
theorem dX11_tellTo_174 : decode cX11_tellTo 174 = .ok (.iconst 0, 1) := by decide +kernel
theorem dX11_tellTo_175 : decode cX11_tellTo 175 = .ok (.ireturn, 1) := by decide +kernel
theorem dX11_tellTo_176 : decode cX11_tellTo 176 = .ok (.aload_n 0, 1) := by decide +kernel
theorem dX11_tellTo_177 : decode cX11_tellTo 177 = .ok (.iload_n 1, 1) := by decide +kernel
theorem dX11_tellTo_178 : decode cX11_tellTo 178 = .ok (.iload 4, 2) := by decide +kernel
theorem dX11_tellTo_180 : decode cX11_tellTo 180 = .ok (.iload 6, 2) := by decide +kernel
theorem dX11_tellTo_182 : decode cX11_tellTo 182 = .ok (.iload_n 2, 1) := by decide +kernel
theorem dX11_tellTo_183 : decode cX11_tellTo 183 = .ok (.iload_n 3, 1) := by decide +kernel
theorem dX11_tellTo_184 : decode cX11_tellTo 184 = .ok (.invokevirtual 244, 3) := by decide +kernel
theorem dX11_tellTo_187 : decode cX11_tellTo 187 = .ok (.iconst 1, 1) := by decide +kernel
theorem dX11_tellTo_188 : decode cX11_tellTo 188 = .ok (.ireturn, 1) := by decide +kernel
theorem dX11_tellTo_189 : decode cX11_tellTo 189 = .ok (.iinc 5 1, 3) := by decide +kernel
theorem dX11_tellTo_192 : decode cX11_tellTo 192 = .ok (.goto (-91), 3) := by decide +kernel
theorem dX11_tellTo_195 : decode cX11_tellTo 195 = .ok (.aload_n 0, 1) := by decide +kernel
theorem dX11_tellTo_196 : decode cX11_tellTo 196 = .ok (.iload_n 1, 1) := by decide +kernel
theorem dX11_tellTo_197 : decode cX11_tellTo 197 = .ok (.bipush 100, 2) := by decide +kernel
theorem dX11_tellTo_199 : decode cX11_tellTo 199 = .ok (.invokevirtual 238, 3) := by decide +kernel
theorem dX11_tellTo_202 : decode cX11_tellTo 202 = .ok (.aload_n 0, 1) := by decide +kernel
theorem dX11_tellTo_203 : decode cX11_tellTo 203 = .ok (.iload_n 1, 1) := by decide +kernel
theorem dX11_tellTo_204 : decode cX11_tellTo 204 = .ok (.iload 4, 2) := by decide +kernel
theorem dX11_tellTo_206 : decode cX11_tellTo 206 = .ok (.iload_n 3, 1) := by decide +kernel
theorem dX11_tellTo_207 : decode cX11_tellTo 207 = .ok (.invokevirtual 248, 3) := by decide +kernel
theorem dX11_tellTo_210 : decode cX11_tellTo 210 = .ok (.if_icmp .ge 15, 3) := by decide +kernel
theorem dX11_tellTo_213 : decode cX11_tellTo 213 = .ok (.aload_n 0, 1) := by decide +kernel
theorem dX11_tellTo_214 : decode cX11_tellTo 214 = .ok (.iload_n 1, 1) := by decide +kernel
theorem dX11_tellTo_215 : decode cX11_tellTo 215 = .ok (.iload 4, 2) := by decide +kernel
theorem dX11_tellTo_217 : decode cX11_tellTo 217 = .ok (.iload_n 3, 1) := by decide +kernel
theorem dX11_tellTo_218 : decode cX11_tellTo 218 = .ok (.iload_n 2, 1) := by decide +kernel
theorem dX11_tellTo_219 : decode cX11_tellTo 219 = .ok (.iload_n 3, 1) := by decide +kernel
theorem dX11_tellTo_220 : decode cX11_tellTo 220 = .ok (.invokevirtual 244, 3) := by decide +kernel
theorem dX11_tellTo_223 : decode cX11_tellTo 223 = .ok (.iconst 1, 1) := by decide +kernel
theorem dX11_tellTo_224 : decode cX11_tellTo 224 = .ok (.ireturn, 1) := by decide +kernel
theorem dX11_tellTo_225 : decode cX11_tellTo 225 = .ok (.iconst 0, 1) := by decide +kernel
theorem dX11_tellTo_226 : decode cX11_tellTo 226 = .ok (.ireturn, 1) := by decide +kernel
theorem dX11_tick_0 : decode cX11_tick 0 = .ok (.iconst 0, 1) := by decide +kernel
theorem dX11_tick_1 : decode cX11_tick 1 = .ok (.istore_n 2, 1) := by decide +kernel
theorem dX11_tick_2 : decode cX11_tick 2 = .ok (.iconst 0, 1) := by decide +kernel
theorem dX11_tick_3 : decode cX11_tick 3 = .ok (.istore_n 3, 1) := by decide +kernel
theorem dX11_tick_4 : decode cX11_tick 4 = .ok (.iload_n 3, 1) := by decide +kernel
theorem dX11_tick_5 : decode cX11_tick 5 = .ok (.aload_n 0, 1) := by decide +kernel
theorem dX11_tick_6 : decode cX11_tick 6 = .ok (.getfield 33, 3) := by decide +kernel
theorem dX11_tick_9 : decode cX11_tick 9 = .ok (.iconst 0, 1) := by decide +kernel
theorem dX11_tick_10 : decode cX11_tick 10 = .ok (.iaload, 1) := by decide +kernel
theorem dX11_tick_11 : decode cX11_tick 11 = .ok (.if_icmp .ge 48, 3) := by decide +kernel
theorem dX11_tick_14 : decode cX11_tick 14 = .ok (.iload_n 2, 1) := by decide +kernel
theorem dX11_tick_15 : decode cX11_tick 15 = .ok (.aload_n 0, 1) := by decide +kernel
theorem dX11_tick_16 : decode cX11_tick 16 = .ok (.getfield 27, 3) := by decide +kernel
theorem dX11_tick_19 : decode cX11_tick 19 = .ok (.iload_n 3, 1) := by decide +kernel
theorem dX11_tick_20 : decode cX11_tick 20 = .ok (.baload, 1) := by decide +kernel
theorem dX11_tick_21 : decode cX11_tick 21 = .ok (.ifCond .ne 24, 3) := by decide +kernel
theorem dX11_tick_24 : decode cX11_tick 24 = .ok (.aload_n 0, 1) := by decide +kernel
theorem dX11_tick_25 : decode cX11_tick 25 = .ok (.iload_n 3, 1) := by decide +kernel
theorem dX11_tick_26 : decode cX11_tick 26 = .ok (.invokevirtual 206, 3) := by decide +kernel
theorem dX11_tick_29 : decode cX11_tick 29 = .ok (.ifCond .le 16, 3) := by decide +kernel
theorem dX11_tick_32 : decode cX11_tick 32 = .ok (.aload_n 0, 1) := by decide +kernel
theorem dX11_tick_33 : decode cX11_tick 33 = .ok (.iload_n 1, 1) := by decide +kernel
theorem dX11_tick_34 : decode cX11_tick 34 = .ok (.iload_n 3, 1) := by decide +kernel
theorem dX11_tick_35 : decode cX11_tick 35 = .ok (.invokevirtual 252, 3) := by decide +kernel
theorem dX11_tick_38 : decode cX11_tick 38 = .ok (.ifCond .lt 7, 3) := by decide +kernel
theorem dX11_tick_41 : decode cX11_tick 41 = .ok (.iconst 1, 1) := by decide +kernel
theorem dX11_tick_42 : decode cX11_tick 42 = .ok (.goto 4, 3) := by decide +kernel
theorem dX11_tick_45 : decode cX11_tick 45 = .ok (.iconst 0, 1) := by decide +kernel
theorem dX11_tick_46 : decode cX11_tick 46 = .ok (.invokestatic 186, 3) := by decide +kernel
theorem dX11_tick_49 : decode cX11_tick 49 = .ok (.iload_n 3, 1) := by decide +kernel
theorem dX11_tick_50 : decode cX11_tick 50 = .ok (.ishl, 1) := by decide +kernel
theorem dX11_tick_51 : decode cX11_tick 51 = .ok (.ior, 1) := by decide +kernel
theorem dX11_tick_52 : decode cX11_tick 52 = .ok (.istore_n 2, 1) := by decide +kernel
theorem dX11_tick_53 : decode cX11_tick 53 = .ok (.iinc 3 1, 3) := by decide +kernel
theorem dX11_tick_56 : decode cX11_tick 56 = .ok (.goto (-52), 3) := by decide +kernel
theorem dX11_tick_59 : decode cX11_tick 59 = .ok (.iconst 0, 1) := by decide +kernel
theorem dX11_tick_60 : decode cX11_tick 60 = .ok (.istore_n 3, 1) := by decide +kernel
theorem dX11_tick_61 : decode cX11_tick 61 = .ok (.iconst 0, 1) := by decide +kernel
theorem dX11_tick_62 : decode cX11_tick 62 = .ok (.istore 4, 2) := by decide +kernel
theorem dX11_tick_64 : decode cX11_tick 64 = .ok (.iload 4, 2) := by decide +kernel
theorem dX11_tick_66 : decode cX11_tick 66 = .ok (.aload_n 0, 1) := by decide +kernel
theorem dX11_tick_67 : decode cX11_tick 67 = .ok (.getfield 33, 3) := by decide +kernel
theorem dX11_tick_70 : decode cX11_tick 70 = .ok (.iconst 0, 1) := by decide +kernel
theorem dX11_tick_71 : decode cX11_tick 71 = .ok (.iaload, 1) := by decide +kernel
theorem dX11_tick_72 : decode cX11_tick 72 = .ok (.if_icmp .ge 59, 3) := by decide +kernel
theorem dX11_tick_75 : decode cX11_tick 75 = .ok (.iload_n 2, 1) := by decide +kernel
theorem dX11_tick_76 : decode cX11_tick 76 = .ok (.iload 4, 2) := by decide +kernel
theorem dX11_tick_78 : decode cX11_tick 78 = .ok (.invokestatic 182, 3) := by decide +kernel
theorem dX11_tick_81 : decode cX11_tick 81 = .ok (.ifCond .eq 44, 3) := by decide +kernel
theorem dX11_tick_84 : decode cX11_tick 84 = .ok (.aload_n 0, 1) := by decide +kernel
theorem dX11_tick_85 : decode cX11_tick 85 = .ok (.iload_n 1, 1) := by decide +kernel
theorem dX11_tick_86 : decode cX11_tick 86 = .ok (.iload 4, 2) := by decide +kernel
theorem dX11_tick_88 : decode cX11_tick 88 = .ok (.invokevirtual 255, 3) := by decide +kernel
theorem dX11_tick_91 : decode cX11_tick 91 = .ok (.istore 5, 2) := by decide +kernel
theorem dX11_tick_93 : decode cX11_tick 93 = .ok (.aload_n 0, 1) := by decide +kernel
theorem dX11_tick_94 : decode cX11_tick 94 = .ok (.iload_n 1, 1) := by decide +kernel
theorem dX11_tick_95 : decode cX11_tick 95 = .ok (.iload 4, 2) := by decide +kernel
theorem dX11_tick_97 : decode cX11_tick 97 = .ok (.invokevirtual 252, 3) := by decide +kernel
theorem dX11_tick_100 : decode cX11_tick 100 = .ok (.istore 6, 2) := by decide +kernel
theorem dX11_tick_102 : decode cX11_tick 102 = .ok (.iload_n 3, 1) := by decide +kernel
theorem dX11_tick_103 : decode cX11_tick 103 = .ok (.iload 6, 2) := by decide +kernel
theorem dX11_tick_105 : decode cX11_tick 105 = .ok (.ifCond .ge 7, 3) := by decide +kernel
theorem dX11_tick_108 : decode cX11_tick 108 = .ok (.iconst 0, 1) := by decide +kernel
theorem dX11_tick_109 : decode cX11_tick 109 = .ok (.goto 14, 3) := by decide +kernel
theorem dX11_tick_112 : decode cX11_tick 112 = .ok (.aload_n 0, 1) := by decide +kernel
theorem dX11_tick_113 : decode cX11_tick 113 = .ok (.iload_n 1, 1) := by decide +kernel
theorem dX11_tick_114 : decode cX11_tick 114 = .ok (.iload 4, 2) := by decide +kernel
theorem dX11_tick_116 : decode cX11_tick 116 = .ok (.iload 6, 2) := by decide +kernel
theorem dX11_tick_118 : decode cX11_tick 118 = .ok (.iload 5, 2) := by decide +kernel
theorem dX11_tick_120 : decode cX11_tick 120 = .ok (.invokevirtual 258, 3) := by decide +kernel
theorem dX11_tick_123 : decode cX11_tick 123 = .ok (.iadd, 1) := by decide +kernel
theorem dX11_tick_124 : decode cX11_tick 124 = .ok (.istore_n 3, 1) := by decide +kernel
theorem dX11_tick_125 : decode cX11_tick 125 = .ok (.iinc 4 1, 3) := by decide +kernel
theorem dX11_tick_128 : decode cX11_tick 128 = .ok (.goto (-64), 3) := by decide +kernel
theorem dX11_tick_131 : decode cX11_tick 131 = .ok (.aload_n 0, 1) := by decide +kernel
theorem dX11_tick_132 : decode cX11_tick 132 = .ok (.getfield 7, 3) := by decide +kernel
theorem dX11_tick_135 : decode cX11_tick 135 = .ok (.iload_n 1, 1) := by decide +kernel
theorem dX11_tick_136 : decode cX11_tick 136 = .ok (.sipush 864, 3) := by decide +kernel
theorem dX11_tick_139 : decode cX11_tick 139 = .ok (.iadd, 1) := by decide +kernel
theorem dX11_tick_140 : decode cX11_tick 140 = .ok (.dup2, 1) := by decide +kernel
theorem dX11_tick_141 : decode cX11_tick 141 = .ok (.iaload, 1) := by decide +kernel
theorem dX11_tick_142 : decode cX11_tick 142 = .ok (.iconst 1, 1) := by decide +kernel
theorem dX11_tick_143 : decode cX11_tick 143 = .ok (.iadd, 1) := by decide +kernel
theorem dX11_tick_144 : decode cX11_tick 144 = .ok (.iastore, 1) := by decide +kernel
theorem dX11_tick_145 : decode cX11_tick 145 = .ok (.iload_n 3, 1) := by decide +kernel
theorem dX11_tick_146 : decode cX11_tick 146 = .ok (.ireturn, 1) := by decide +kernel
theorem dX11_holdersOf_0 : decode cX11_holdersOf 0 = .ok (.iconst 0, 1) := by decide +kernel
theorem dX11_holdersOf_1 : decode cX11_holdersOf 1 = .ok (.istore_n 3, 1) := by decide +kernel
theorem dX11_holdersOf_2 : decode cX11_holdersOf 2 = .ok (.iconst 0, 1) := by decide +kernel
theorem dX11_holdersOf_3 : decode cX11_holdersOf 3 = .ok (.istore 4, 2) := by decide +kernel
theorem dX11_holdersOf_5 : decode cX11_holdersOf 5 = .ok (.iload 4, 2) := by decide +kernel
theorem dX11_holdersOf_7 : decode cX11_holdersOf 7 = .ok (.aload_n 0, 1) := by decide +kernel
theorem dX11_holdersOf_8 : decode cX11_holdersOf 8 = .ok (.getfield 33, 3) := by decide +kernel
theorem dX11_holdersOf_11 : decode cX11_holdersOf 11 = .ok (.iconst 0, 1) := by decide +kernel
theorem dX11_holdersOf_12 : decode cX11_holdersOf 12 = .ok (.iaload, 1) := by decide +kernel
theorem dX11_holdersOf_13 : decode cX11_holdersOf 13 = .ok (.if_icmp .ge 26, 3) := by decide +kernel
theorem dX11_holdersOf_16 : decode cX11_holdersOf 16 = .ok (.iload_n 3, 1) := by decide +kernel
theorem dX11_holdersOf_17 : decode cX11_holdersOf 17 = .ok (.aload_n 0, 1) := by decide +kernel
theorem dX11_holdersOf_18 : decode cX11_holdersOf 18 = .ok (.iload_n 1, 1) := by decide +kernel
theorem dX11_holdersOf_19 : decode cX11_holdersOf 19 = .ok (.iload 4, 2) := by decide +kernel
theorem dX11_holdersOf_21 : decode cX11_holdersOf 21 = .ok (.iload_n 2, 1) := by decide +kernel
theorem dX11_holdersOf_22 : decode cX11_holdersOf 22 = .ok (.invokevirtual 241, 3) := by decide +kernel
theorem dX11_holdersOf_25 : decode cX11_holdersOf 25 = .ok (.invokestatic 186, 3) := by decide +kernel
theorem dX11_holdersOf_28 : decode cX11_holdersOf 28 = .ok (.iload 4, 2) := by decide +kernel
theorem dX11_holdersOf_30 : decode cX11_holdersOf 30 = .ok (.ishl, 1) := by decide +kernel
theorem dX11_holdersOf_31 : decode cX11_holdersOf 31 = .ok (.ior, 1) := by decide +kernel
theorem dX11_holdersOf_32 : decode cX11_holdersOf 32 = .ok (.istore_n 3, 1) := by decide +kernel
theorem dX11_holdersOf_33 : decode cX11_holdersOf 33 = .ok (.iinc 4 1, 3) := by decide +kernel
theorem dX11_holdersOf_36 : decode cX11_holdersOf 36 = .ok (.goto (-31), 3) := by decide +kernel
theorem dX11_holdersOf_39 : decode cX11_holdersOf 39 = .ok (.iload_n 3, 1) := by decide +kernel
theorem dX11_holdersOf_40 : decode cX11_holdersOf 40 = .ok (.ireturn, 1) := by decide +kernel
theorem dX11_begin_0 : decode cX11_begin 0 = .ok (.aload_n 0, 1) := by decide +kernel
theorem dX11_begin_1 : decode cX11_begin 1 = .ok (.iload_n 1, 1) := by decide +kernel
theorem dX11_begin_2 : decode cX11_begin 2 = .ok (.invokevirtual 201, 3) := by decide +kernel
theorem dX11_begin_5 : decode cX11_begin 5 = .ok (.ifCond .eq 11, 3) := by decide +kernel
theorem dX11_begin_8 : decode cX11_begin 8 = .ok (.aload_n 0, 1) := by decide +kernel
theorem dX11_begin_9 : decode cX11_begin 9 = .ok (.iload_n 2, 1) := by decide +kernel
theorem dX11_begin_10 : decode cX11_begin 10 = .ok (.invokevirtual 215, 3) := by decide +kernel
theorem dX11_begin_13 : decode cX11_begin 13 = .ok (.ifCond .ne 6, 3) := by decide +kernel
theorem dX11_begin_16 : decode cX11_begin 16 = .ok (.ldc 205, 2) := by decide +kernel
theorem dX11_begin_18 : decode cX11_begin 18 = .ok (.ireturn, 1) := by decide +kernel
theorem dX11_begin_19 : decode cX11_begin 19 = .ok (.aload_n 0, 1) := by decide +kernel
theorem dX11_begin_20 : decode cX11_begin 20 = .ok (.iconst 0, 1) := by decide +kernel
theorem dX11_begin_21 : decode cX11_begin 21 = .ok (.iload_n 1, 1) := by decide +kernel
theorem dX11_begin_22 : decode cX11_begin 22 = .ok (.iload_n 2, 1) := by decide +kernel
theorem dX11_begin_23 : decode cX11_begin 23 = .ok (.invokevirtual 241, 3) := by decide +kernel
theorem dX11_begin_26 : decode cX11_begin 26 = .ok (.ifCond .eq 6, 3) := by decide +kernel
theorem dX11_begin_29 : decode cX11_begin 29 = .ok (.ldc 190, 2) := by decide +kernel
theorem dX11_begin_31 : decode cX11_begin 31 = .ok (.ireturn, 1) := by decide +kernel
theorem dX11_begin_32 : decode cX11_begin 32 = .ok (.aload_n 0, 1) := by decide +kernel
theorem dX11_begin_33 : decode cX11_begin 33 = .ok (.getfield 7, 3) := by decide +kernel
theorem dX11_begin_36 : decode cX11_begin 36 = .ok (.sipush 867, 3) := by decide +kernel
theorem dX11_begin_39 : decode cX11_begin 39 = .ok (.iaload, 1) := by decide +kernel
theorem dX11_begin_40 : decode cX11_begin 40 = .ok (.istore_n 3, 1) := by decide +kernel
theorem dX11_begin_41 : decode cX11_begin 41 = .ok (.iload_n 3, 1) := by decide +kernel
theorem dX11_begin_42 : decode cX11_begin 42 = .ok (.bipush 40, 2) := by decide +kernel
theorem dX11_begin_44 : decode cX11_begin 44 = .ok (.if_icmp .ne 6, 3) := by decide +kernel
theorem dX11_begin_47 : decode cX11_begin 47 = .ok (.ldc 112, 2) := by decide +kernel
theorem dX11_begin_49 : decode cX11_begin 49 = .ok (.ireturn, 1) := by decide +kernel
theorem dX11_begin_50 : decode cX11_begin 50 = .ok (.aload_n 0, 1) := by decide +kernel
theorem dX11_begin_51 : decode cX11_begin 51 = .ok (.getfield 7, 3) := by decide +kernel
theorem dX11_begin_54 : decode cX11_begin 54 = .ok (.sipush 868, 3) := by decide +kernel
theorem dX11_begin_57 : decode cX11_begin 57 = .ok (.iconst 3, 1) := by decide +kernel
theorem dX11_begin_58 : decode cX11_begin 58 = .ok (.iload_n 3, 1) := by decide +kernel
theorem dX11_begin_59 : decode cX11_begin 59 = .ok (.imul, 1) := by decide +kernel
theorem dX11_begin_60 : decode cX11_begin 60 = .ok (.iadd, 1) := by decide +kernel
theorem dX11_begin_61 : decode cX11_begin 61 = .ok (.iload_n 1, 1) := by decide +kernel
theorem dX11_begin_62 : decode cX11_begin 62 = .ok (.iastore, 1) := by decide +kernel
theorem dX11_begin_63 : decode cX11_begin 63 = .ok (.aload_n 0, 1) := by decide +kernel
theorem dX11_begin_64 : decode cX11_begin 64 = .ok (.getfield 7, 3) := by decide +kernel
theorem dX11_begin_67 : decode cX11_begin 67 = .ok (.sipush 868, 3) := by decide +kernel
theorem dX11_begin_70 : decode cX11_begin 70 = .ok (.iconst 3, 1) := by decide +kernel
theorem dX11_begin_71 : decode cX11_begin 71 = .ok (.iload_n 3, 1) := by decide +kernel
theorem dX11_begin_72 : decode cX11_begin 72 = .ok (.imul, 1) := by decide +kernel
theorem dX11_begin_73 : decode cX11_begin 73 = .ok (.iadd, 1) := by decide +kernel
theorem dX11_begin_74 : decode cX11_begin 74 = .ok (.iconst 1, 1) := by decide +kernel
theorem dX11_begin_75 : decode cX11_begin 75 = .ok (.iadd, 1) := by decide +kernel
theorem dX11_begin_76 : decode cX11_begin 76 = .ok (.iload_n 2, 1) := by decide +kernel
theorem dX11_begin_77 : decode cX11_begin 77 = .ok (.iastore, 1) := by decide +kernel
theorem dX11_begin_78 : decode cX11_begin 78 = .ok (.aload_n 0, 1) := by decide +kernel
theorem dX11_begin_79 : decode cX11_begin 79 = .ok (.getfield 7, 3) := by decide +kernel
theorem dX11_begin_82 : decode cX11_begin 82 = .ok (.sipush 868, 3) := by decide +kernel
theorem dX11_begin_85 : decode cX11_begin 85 = .ok (.iconst 3, 1) := by decide +kernel
theorem dX11_begin_86 : decode cX11_begin 86 = .ok (.iload_n 3, 1) := by decide +kernel
theorem dX11_begin_87 : decode cX11_begin 87 = .ok (.imul, 1) := by decide +kernel
theorem dX11_begin_88 : decode cX11_begin 88 = .ok (.iadd, 1) := by decide +kernel
theorem dX11_begin_89 : decode cX11_begin 89 = .ok (.iconst 2, 1) := by decide +kernel
theorem dX11_begin_90 : decode cX11_begin 90 = .ok (.iadd, 1) := by decide +kernel
theorem dX11_begin_91 : decode cX11_begin 91 = .ok (.aload_n 0, 1) := by decide +kernel
theorem dX11_begin_92 : decode cX11_begin 92 = .ok (.getfield 7, 3) := by decide +kernel
theorem dX11_begin_95 : decode cX11_begin 95 = .ok (.sipush 864, 3) := by decide +kernel
theorem dX11_begin_98 : decode cX11_begin 98 = .ok (.iaload, 1) := by decide +kernel
theorem dX11_begin_99 : decode cX11_begin 99 = .ok (.iastore, 1) := by decide +kernel
theorem dX11_begin_100 : decode cX11_begin 100 = .ok (.aload_n 0, 1) := by decide +kernel
theorem dX11_begin_101 : decode cX11_begin 101 = .ok (.getfield 7, 3) := by decide +kernel
theorem dX11_begin_104 : decode cX11_begin 104 = .ok (.sipush 867, 3) := by decide +kernel
theorem dX11_begin_107 : decode cX11_begin 107 = .ok (.iload_n 3, 1) := by decide +kernel
theorem dX11_begin_108 : decode cX11_begin 108 = .ok (.iconst 1, 1) := by decide +kernel
theorem dX11_begin_109 : decode cX11_begin 109 = .ok (.iadd, 1) := by decide +kernel
theorem dX11_begin_110 : decode cX11_begin 110 = .ok (.iastore, 1) := by decide +kernel
theorem dX11_begin_111 : decode cX11_begin 111 = .ok (.aload_n 0, 1) := by decide +kernel
theorem dX11_begin_112 : decode cX11_begin 112 = .ok (.iconst 0, 1) := by decide +kernel
theorem dX11_begin_113 : decode cX11_begin 113 = .ok (.iload_n 1, 1) := by decide +kernel
theorem dX11_begin_114 : decode cX11_begin 114 = .ok (.iload_n 2, 1) := by decide +kernel
theorem dX11_begin_115 : decode cX11_begin 115 = .ok (.bipush (-2), 2) := by decide +kernel
theorem dX11_begin_117 : decode cX11_begin 117 = .ok (.iload_n 2, 1) := by decide +kernel
theorem dX11_begin_118 : decode cX11_begin 118 = .ok (.invokevirtual 244, 3) := by decide +kernel
theorem dX11_begin_121 : decode cX11_begin 121 = .ok (.aload_n 0, 1) := by decide +kernel
theorem dX11_begin_122 : decode cX11_begin 122 = .ok (.iconst 0, 1) := by decide +kernel
theorem dX11_begin_123 : decode cX11_begin 123 = .ok (.iload_n 2, 1) := by decide +kernel
theorem dX11_begin_124 : decode cX11_begin 124 = .ok (.invokevirtual 262, 3) := by decide +kernel
theorem dX11_begin_127 : decode cX11_begin 127 = .ok (.invokestatic 194, 3) := by decide +kernel
theorem dX11_begin_130 : decode cX11_begin 130 = .ok (.ireturn, 1) := by decide +kernel
theorem dX11_go_0 : decode cX11_go 0 = .ok (.iload_n 1, 1) := by decide +kernel
theorem dX11_go_1 : decode cX11_go 1 = .ok (.i2l, 1) := by decide +kernel
theorem dX11_go_2 : decode cX11_go 2 = .ok (.lconst 1, 1) := by decide +kernel
theorem dX11_go_3 : decode cX11_go 3 = .ok (.ldc2_w 265, 3) := by decide +kernel
theorem dX11_go_6 : decode cX11_go 6 = .ok (.invokestatic 104, 3) := by decide +kernel
theorem dX11_go_9 : decode cX11_go 9 = .ok (.ifCond .ne 6, 3) := by decide +kernel
theorem dX11_go_12 : decode cX11_go 12 = .ok (.ldc 108, 2) := by decide +kernel
theorem dX11_go_14 : decode cX11_go 14 = .ok (.ireturn, 1) := by decide +kernel
theorem dX11_go_15 : decode cX11_go 15 = .ok (.iconst 0, 1) := by decide +kernel
theorem dX11_go_16 : decode cX11_go 16 = .ok (.istore_n 2, 1) := by decide +kernel
theorem dX11_go_17 : decode cX11_go 17 = .ok (.iconst 0, 1) := by decide +kernel
theorem dX11_go_18 : decode cX11_go 18 = .ok (.istore_n 3, 1) := by decide +kernel
theorem dX11_go_19 : decode cX11_go 19 = .ok (.iload_n 3, 1) := by decide +kernel
theorem dX11_go_20 : decode cX11_go 20 = .ok (.iload_n 1, 1) := by decide +kernel
theorem dX11_go_21 : decode cX11_go 21 = .ok (.if_icmp .ge 17, 3) := by decide +kernel
theorem dX11_go_24 : decode cX11_go 24 = .ok (.iload_n 2, 1) := by decide +kernel
theorem dX11_go_25 : decode cX11_go 25 = .ok (.aload_n 0, 1) := by decide +kernel
theorem dX11_go_26 : decode cX11_go 26 = .ok (.iconst 0, 1) := by decide +kernel
theorem dX11_go_27 : decode cX11_go 27 = .ok (.invokevirtual 267, 3) := by decide +kernel
theorem dX11_go_30 : decode cX11_go 30 = .ok (.iadd, 1) := by decide +kernel
theorem dX11_go_31 : decode cX11_go 31 = .ok (.istore_n 2, 1) := by decide +kernel
theorem dX11_go_32 : decode cX11_go 32 = .ok (.iinc 3 1, 3) := by decide +kernel
theorem dX11_go_35 : decode cX11_go 35 = .ok (.goto (-16), 3) := by decide +kernel
theorem dX11_go_38 : decode cX11_go 38 = .ok (.iload_n 2, 1) := by decide +kernel
theorem dX11_go_39 : decode cX11_go 39 = .ok (.ireturn, 1) := by decide +kernel
theorem dX11_hang_0 : decode cX11_hang 0 = .ok (.iconst 0, 1) := by decide +kernel
theorem dX11_hang_1 : decode cX11_hang 1 = .ok (.istore 5, 2) := by decide +kernel
theorem dX11_hang_3 : decode cX11_hang 3 = .ok (.iconst 0, 1) := by decide +kernel
theorem dX11_hang_4 : decode cX11_hang 4 = .ok (.istore 6, 2) := by decide +kernel
theorem dX11_hang_6 : decode cX11_hang 6 = .ok (.iload 6, 2) := by decide +kernel
theorem dX11_hang_8 : decode cX11_hang 8 = .ok (.aload_n 0, 1) := by decide +kernel
theorem dX11_hang_9 : decode cX11_hang 9 = .ok (.getfield 33, 3) := by decide +kernel
theorem dX11_hang_12 : decode cX11_hang 12 = .ok (.iconst 0, 1) := by decide +kernel
theorem dX11_hang_13 : decode cX11_hang 13 = .ok (.iaload, 1) := by decide +kernel
theorem dX11_hang_14 : decode cX11_hang 14 = .ok (.if_icmp .ge 116, 3) := by decide +kernel
theorem dX11_hang_17 : decode cX11_hang 17 = .ok (.aload_n 0, 1) := by decide +kernel
theorem dX11_hang_18 : decode cX11_hang 18 = .ok (.getfield 30, 3) := by decide +kernel
theorem dX11_hang_21 : decode cX11_hang 21 = .ok (.iload 6, 2) := by decide +kernel
theorem dX11_hang_23 : decode cX11_hang 23 = .ok (.iaload, 1) := by decide +kernel
theorem dX11_hang_24 : decode cX11_hang 24 = .ok (.iload_n 2, 1) := by decide +kernel
theorem dX11_hang_25 : decode cX11_hang 25 = .ok (.if_icmp .ne 99, 3) := by decide +kernel
theorem dX11_hang_28 : decode cX11_hang 28 = .ok (.aload_n 0, 1) := by decide +kernel
theorem dX11_hang_29 : decode cX11_hang 29 = .ok (.iload_n 1, 1) := by decide +kernel
theorem dX11_hang_30 : decode cX11_hang 30 = .ok (.bipush 100, 2) := by decide +kernel
theorem dX11_hang_32 : decode cX11_hang 32 = .ok (.invokevirtual 238, 3) := by decide +kernel
theorem dX11_hang_35 : decode cX11_hang 35 = .ok (.iload 4, 2) := by decide +kernel
theorem dX11_hang_37 : decode cX11_hang 37 = .ok (.if_icmp .ge 87, 3) := by decide +kernel
theorem dX11_hang_40 : decode cX11_hang 40 = .ok (.aload_n 0, 1) := by decide +kernel
theorem dX11_hang_41 : decode cX11_hang 41 = .ok (.iload_n 1, 1) := by decide +kernel
theorem dX11_hang_42 : decode cX11_hang 42 = .ok (.iload 6, 2) := by decide +kernel
theorem dX11_hang_44 : decode cX11_hang 44 = .ok (.iload_n 3, 1) := by decide +kernel
theorem dX11_hang_45 : decode cX11_hang 45 = .ok (.invokevirtual 241, 3) := by decide +kernel
theorem dX11_hang_48 : decode cX11_hang 48 = .ok (.ifCond .ne 17, 3) := by decide +kernel
theorem dX11_hang_51 : decode cX11_hang 51 = .ok (.aload_n 0, 1) := by decide +kernel
theorem dX11_hang_52 : decode cX11_hang 52 = .ok (.iload_n 1, 1) := by decide +kernel
theorem dX11_hang_53 : decode cX11_hang 53 = .ok (.iload 6, 2) := by decide +kernel
theorem dX11_hang_55 : decode cX11_hang 55 = .ok (.iload_n 3, 1) := by decide +kernel
theorem dX11_hang_56 : decode cX11_hang 56 = .ok (.bipush 24, 2) := by decide +kernel
theorem dX11_hang_58 : decode cX11_hang 58 = .ok (.iload_n 3, 1) := by decide +kernel
theorem dX11_hang_59 : decode cX11_hang 59 = .ok (.invokevirtual 244, 3) := by decide +kernel
theorem dX11_hang_62 : decode cX11_hang 62 = .ok (.iinc 5 1, 3) := by decide +kernel
theorem dX11_hang_65 : decode cX11_hang 65 = .ok (.iconst 0, 1) := by decide +kernel
theorem dX11_hang_66 : decode cX11_hang 66 = .ok (.istore 7, 2) := by decide +kernel
theorem dX11_hang_68 : decode cX11_hang 68 = .ok (.iload 7, 2) := by decide +kernel
theorem dX11_hang_70 : decode cX11_hang 70 = .ok (.aload_n 0, 1) := by decide +kernel
theorem dX11_hang_71 : decode cX11_hang 71 = .ok (.getfield 63, 3) := by decide +kernel
theorem dX11_hang_74 : decode cX11_hang 74 = .ok (.iconst 0, 1) := by decide +kernel
theorem dX11_hang_75 : decode cX11_hang 75 = .ok (.iaload, 1) := by decide +kernel
theorem dX11_hang_76 : decode cX11_hang 76 = .ok (.if_icmp .ge 48, 3) := by decide +kernel
theorem dX11_hang_79 : decode cX11_hang 79 = .ok (.aload_n 0, 1) := by decide +kernel
theorem dX11_hang_80 : decode cX11_hang 80 = .ok (.iload_n 1, 1) := by decide +kernel
theorem dX11_hang_81 : decode cX11_hang 81 = .ok (.iload 6, 2) := by decide +kernel
theorem dX11_hang_83 : decode cX11_hang 83 = .ok (.iload 7, 2) := by decide +kernel
theorem dX11_hang_85 : decode cX11_hang 85 = .ok (.invokevirtual 241, 3) := by decide +kernel
theorem dX11_hang_88 : decode cX11_hang 88 = .ok (.ifCond .eq 30, 3) := by decide +kernel
theorem dX11_hang_91 : decode cX11_hang 91 = .ok (.aload_n 0, 1) := by decide +kernel
theorem dX11_hang_92 : decode cX11_hang 92 = .ok (.iload 7, 2) := by decide +kernel
theorem dX11_hang_94 : decode cX11_hang 94 = .ok (.iload_n 3, 1) := by decide +kernel
theorem dX11_hang_95 : decode cX11_hang 95 = .ok (.invokevirtual 218, 3) := by decide +kernel
theorem dX11_hang_98 : decode cX11_hang 98 = .ok (.ifCond .eq 20, 3) := by decide +kernel
theorem dX11_hang_101 : decode cX11_hang 101 = .ok (.aload_n 0, 1) := by decide +kernel
theorem dX11_hang_102 : decode cX11_hang 102 = .ok (.getfield 7, 3) := by decide +kernel
theorem dX11_hang_105 : decode cX11_hang 105 = .ok (.iload_n 1, 1) := by decide +kernel
theorem dX11_hang_106 : decode cX11_hang 106 = .ok (.iconst 0, 1) := by decide +kernel
theorem dX11_hang_107 : decode cX11_hang 107 = .ok (.iadd, 1) := by decide +kernel
theorem dX11_hang_108 : decode cX11_hang 108 = .ok (.iload 6, 2) := by decide +kernel
theorem dX11_hang_110 : decode cX11_hang 110 = .ok (.iload 7, 2) := by decide +kernel
theorem dX11_hang_112 : decode cX11_hang 112 = .ok (.invokestatic 235, 3) := by decide +kernel
theorem dX11_hang_115 : decode cX11_hang 115 = .ok (.iadd, 1) := by decide +kernel
theorem dX11_hang_116 : decode cX11_hang 116 = .ok (.iconst 2, 1) := by decide +kernel
theorem dX11_hang_117 : decode cX11_hang 117 = .ok (.iastore, 1) := by decide +kernel
theorem dX11_hang_118 : decode cX11_hang 118 = .ok (.iinc 7 1, 3) := by decide +kernel
theorem dX11_hang_121 : decode cX11_hang 121 = .ok (.goto (-53), 3) := by decide +kernel
theorem dX11_hang_124 : decode cX11_hang 124 = .ok (.iinc 6 1, 3) := by decide +kernel
theorem dX11_hang_127 : decode cX11_hang 127 = .ok (.goto (-121), 3) := by decide +kernel
theorem dX11_hang_130 : decode cX11_hang 130 = .ok (.iload 5, 2) := by decide +kernel
theorem dX11_hang_132 : decode cX11_hang 132 = .ok (.ireturn, 1) := by decide +kernel
theorem dX11_notice_0 : decode cX11_notice 0 = .ok (.iload_n 1, 1) := by decide +kernel
theorem dX11_notice_1 : decode cX11_notice 1 = .ok (.i2l, 1) := by decide +kernel
theorem dX11_notice_2 : decode cX11_notice 2 = .ok (.lconst 0, 1) := by decide +kernel
theorem dX11_notice_3 : decode cX11_notice 3 = .ok (.ldc2_w 270, 3) := by decide +kernel
theorem dX11_notice_6 : decode cX11_notice 6 = .ok (.invokestatic 104, 3) := by decide +kernel
theorem dX11_notice_9 : decode cX11_notice 9 = .ok (.ifCond .eq 11, 3) := by decide +kernel
theorem dX11_notice_12 : decode cX11_notice 12 = .ok (.aload_n 0, 1) := by decide +kernel
theorem dX11_notice_13 : decode cX11_notice 13 = .ok (.iload_n 2, 1) := by decide +kernel
theorem dX11_notice_14 : decode cX11_notice 14 = .ok (.invokevirtual 215, 3) := by decide +kernel
theorem dX11_notice_17 : decode cX11_notice 17 = .ok (.ifCond .ne 6, 3) := by decide +kernel
theorem dX11_notice_20 : decode cX11_notice 20 = .ok (.ldc 205, 2) := by decide +kernel
theorem dX11_notice_22 : decode cX11_notice 22 = .ok (.ireturn, 1) := by decide +kernel
theorem dX11_notice_23 : decode cX11_notice 23 = .ok (.iload_n 3, 1) := by decide +kernel
theorem dX11_notice_24 : decode cX11_notice 24 = .ok (.i2l, 1) := by decide +kernel
theorem dX11_notice_25 : decode cX11_notice 25 = .ok (.lconst 0, 1) := by decide +kernel
theorem dX11_notice_26 : decode cX11_notice 26 = .ok (.ldc2_w 226, 3) := by decide +kernel
theorem dX11_notice_29 : decode cX11_notice 29 = .ok (.invokestatic 104, 3) := by decide +kernel
theorem dX11_notice_32 : decode cX11_notice 32 = .ok (.ifCond .eq 14, 3) := by decide +kernel
theorem dX11_notice_35 : decode cX11_notice 35 = .ok (.aload_n 0, 1) := by decide +kernel
theorem dX11_notice_36 : decode cX11_notice 36 = .ok (.iconst 0, 1) := by decide +kernel
theorem dX11_notice_37 : decode cX11_notice 37 = .ok (.iload_n 1, 1) := by decide +kernel
theorem dX11_notice_38 : decode cX11_notice 38 = .ok (.iload_n 2, 1) := by decide +kernel
theorem dX11_notice_39 : decode cX11_notice 39 = .ok (.iload_n 3, 1) := by decide +kernel
theorem dX11_notice_40 : decode cX11_notice 40 = .ok (.invokevirtual 272, 3) := by decide +kernel
theorem dX11_notice_43 : decode cX11_notice 43 = .ok (.goto 5, 3) := by decide +kernel
theorem dX11_notice_46 : decode cX11_notice 46 = .ok (.ldc 108, 2) := by decide +kernel
theorem dX11_notice_48 : decode cX11_notice 48 = .ok (.ireturn, 1) := by decide +kernel
theorem dX11_holds_0 : decode cX11_holds 0 = .ok (.aload_n 0, 1) := by decide +kernel
theorem dX11_holds_1 : decode cX11_holds 1 = .ok (.iload_n 1, 1) := by decide +kernel
theorem dX11_holds_2 : decode cX11_holds 2 = .ok (.invokevirtual 201, 3) := by decide +kernel
theorem dX11_holds_5 : decode cX11_holds 5 = .ok (.ifCond .eq 11, 3) := by decide +kernel
theorem dX11_holds_8 : decode cX11_holds 8 = .ok (.aload_n 0, 1) := by decide +kernel
theorem dX11_holds_9 : decode cX11_holds 9 = .ok (.iload_n 2, 1) := by decide +kernel
theorem dX11_holds_10 : decode cX11_holds 10 = .ok (.invokevirtual 215, 3) := by decide +kernel
theorem dX11_holds_13 : decode cX11_holds 13 = .ok (.ifCond .ne 6, 3) := by decide +kernel
theorem dX11_holds_16 : decode cX11_holds 16 = .ok (.ldc 205, 2) := by decide +kernel
theorem dX11_holds_18 : decode cX11_holds 18 = .ok (.ireturn, 1) := by decide +kernel
theorem dX11_holds_19 : decode cX11_holds 19 = .ok (.iload_n 1, 1) := by decide +kernel
theorem dX11_holds_20 : decode cX11_holds 20 = .ok (.iload_n 2, 1) := by decide +kernel
theorem dX11_holds_21 : decode cX11_holds 21 = .ok (.invokestatic 235, 3) := by decide +kernel
theorem dX11_holds_24 : decode cX11_holds 24 = .ok (.istore 4, 2) := by decide +kernel
theorem dX11_holds_26 : decode cX11_holds 26 = .ok (.aload_n 0, 1) := by decide +kernel
theorem dX11_holds_27 : decode cX11_holds 27 = .ok (.iconst 0, 1) := by decide +kernel
theorem dX11_holds_28 : decode cX11_holds 28 = .ok (.iload_n 1, 1) := by decide +kernel
theorem dX11_holds_29 : decode cX11_holds 29 = .ok (.iload_n 2, 1) := by decide +kernel
theorem dX11_holds_30 : decode cX11_holds 30 = .ok (.invokevirtual 241, 3) := by decide +kernel
theorem dX11_holds_33 : decode cX11_holds 33 = .ok (.istore 5, 2) := by decide +kernel
theorem dX11_holds_35 : decode cX11_holds 35 = .ok (.iload_n 3, 1) := by decide +kernel
theorem dX11_holds_36 : decode cX11_holds 36 = .ok (.tableswitch 112 0 4 #[36, 46, 67, 88, 100], 36) := by decide +kernel
theorem dX11_holds_72 : decode cX11_holds 72 = .ok (.aload_n 0, 1) := by decide +kernel
theorem dX11_holds_73 : decode cX11_holds 73 = .ok (.getfield 7, 3) := by decide +kernel
theorem dX11_holds_76 : decode cX11_holds 76 = .ok (.iconst 0, 1) := by decide +kernel
theorem dX11_holds_77 : decode cX11_holds 77 = .ok (.iload 4, 2) := by decide +kernel
theorem dX11_holds_79 : decode cX11_holds 79 = .ok (.iadd, 1) := by decide +kernel
theorem dX11_holds_80 : decode cX11_holds 80 = .ok (.iaload, 1) := by decide +kernel
theorem dX11_holds_81 : decode cX11_holds 81 = .ok (.ireturn, 1) := by decide +kernel
theorem dX11_holds_82 : decode cX11_holds 82 = .ok (.iload 5, 2) := by decide +kernel
theorem dX11_holds_84 : decode cX11_holds 84 = .ok (.ifCond .eq 17, 3) := by decide +kernel
theorem dX11_holds_87 : decode cX11_holds 87 = .ok (.aload_n 0, 1) := by decide +kernel
theorem dX11_holds_88 : decode cX11_holds 88 = .ok (.getfield 7, 3) := by decide +kernel
theorem dX11_holds_91 : decode cX11_holds 91 = .ok (.sipush 144, 3) := by decide +kernel
theorem dX11_holds_94 : decode cX11_holds 94 = .ok (.iload 4, 2) := by decide +kernel
theorem dX11_holds_96 : decode cX11_holds 96 = .ok (.iadd, 1) := by decide +kernel
theorem dX11_holds_97 : decode cX11_holds 97 = .ok (.iaload, 1) := by decide +kernel
theorem dX11_holds_98 : decode cX11_holds 98 = .ok (.goto 4, 3) := by decide +kernel
theorem dX11_holds_101 : decode cX11_holds 101 = .ok (.iconst (-1), 1) := by decide +kernel
theorem dX11_holds_102 : decode cX11_holds 102 = .ok (.ireturn, 1) := by decide +kernel
theorem dX11_holds_103 : decode cX11_holds 103 = .ok (.iload 5, 2) := by decide +kernel
theorem dX11_holds_105 : decode cX11_holds 105 = .ok (.ifCond .eq 17, 3) := by decide +kernel
theorem dX11_holds_108 : decode cX11_holds 108 = .ok (.aload_n 0, 1) := by decide +kernel
theorem dX11_holds_109 : decode cX11_holds 109 = .ok (.getfield 7, 3) := by decide +kernel
theorem dX11_holds_112 : decode cX11_holds 112 = .ok (.sipush 288, 3) := by decide +kernel
theorem dX11_holds_115 : decode cX11_holds 115 = .ok (.iload 4, 2) := by decide +kernel
theorem dX11_holds_117 : decode cX11_holds 117 = .ok (.iadd, 1) := by decide +kernel
theorem dX11_holds_118 : decode cX11_holds 118 = .ok (.iaload, 1) := by decide +kernel
theorem dX11_holds_119 : decode cX11_holds 119 = .ok (.goto 4, 3) := by decide +kernel
theorem dX11_holds_122 : decode cX11_holds 122 = .ok (.iconst (-1), 1) := by decide +kernel
theorem dX11_holds_123 : decode cX11_holds 123 = .ok (.ireturn, 1) := by decide +kernel
theorem dX11_holds_124 : decode cX11_holds 124 = .ok (.aload_n 0, 1) := by decide +kernel
theorem dX11_holds_125 : decode cX11_holds 125 = .ok (.getfield 7, 3) := by decide +kernel
theorem dX11_holds_128 : decode cX11_holds 128 = .ok (.sipush 432, 3) := by decide +kernel
theorem dX11_holds_131 : decode cX11_holds 131 = .ok (.iload 4, 2) := by decide +kernel
theorem dX11_holds_133 : decode cX11_holds 133 = .ok (.iadd, 1) := by decide +kernel
theorem dX11_holds_134 : decode cX11_holds 134 = .ok (.iaload, 1) := by decide +kernel
theorem dX11_holds_135 : decode cX11_holds 135 = .ok (.ireturn, 1) := by decide +kernel
theorem dX11_holds_136 : decode cX11_holds 136 = .ok (.aload_n 0, 1) := by decide +kernel
theorem dX11_holds_137 : decode cX11_holds 137 = .ok (.getfield 7, 3) := by decide +kernel
theorem dX11_holds_140 : decode cX11_holds 140 = .ok (.sipush 576, 3) := by decide +kernel
theorem dX11_holds_143 : decode cX11_holds 143 = .ok (.iload 4, 2) := by decide +kernel
theorem dX11_holds_145 : decode cX11_holds 145 = .ok (.iadd, 1) := by decide +kernel
theorem dX11_holds_146 : decode cX11_holds 146 = .ok (.iaload, 1) := by decide +kernel
theorem dX11_holds_147 : decode cX11_holds 147 = .ok (.ireturn, 1) := by decide +kernel
theorem dX11_holds_148 : decode cX11_holds 148 = .ok (.ldc 108, 2) := by decide +kernel
theorem dX11_holds_150 : decode cX11_holds 150 = .ok (.ireturn, 1) := by decide +kernel
theorem dX11_holders_0 : decode cX11_holders 0 = .ok (.aload_n 0, 1) := by decide +kernel
theorem dX11_holders_1 : decode cX11_holders 1 = .ok (.iload_n 1, 1) := by decide +kernel
theorem dX11_holders_2 : decode cX11_holders 2 = .ok (.invokevirtual 215, 3) := by decide +kernel
theorem dX11_holders_5 : decode cX11_holders 5 = .ok (.ifCond .eq 12, 3) := by decide +kernel
theorem dX11_holders_8 : decode cX11_holders 8 = .ok (.aload_n 0, 1) := by decide +kernel
theorem dX11_holders_9 : decode cX11_holders 9 = .ok (.iconst 0, 1) := by decide +kernel
theorem dX11_holders_10 : decode cX11_holders 10 = .ok (.iload_n 1, 1) := by decide +kernel
theorem dX11_holders_11 : decode cX11_holders 11 = .ok (.invokevirtual 262, 3) := by decide +kernel
theorem dX11_holders_14 : decode cX11_holders 14 = .ok (.goto 5, 3) := by decide +kernel
theorem dX11_holders_17 : decode cX11_holders 17 = .ok (.ldc 205, 2) := by decide +kernel
theorem dX11_holders_19 : decode cX11_holders 19 = .ok (.ireturn, 1) := by decide +kernel
theorem dX11_findWay_0 : decode cX11_findWay 0 = .ok (.aload_n 0, 1) := by decide +kernel
theorem dX11_findWay_1 : decode cX11_findWay 1 = .ok (.iconst 0, 1) := by decide +kernel
theorem dX11_findWay_2 : decode cX11_findWay 2 = .ok (.putfield 275, 3) := by decide +kernel
theorem dX11_findWay_5 : decode cX11_findWay 5 = .ok (.iload_n 1, 1) := by decide +kernel
theorem dX11_findWay_6 : decode cX11_findWay 6 = .ok (.istore_n 3, 1) := by decide +kernel
theorem dX11_findWay_7 : decode cX11_findWay 7 = .ok (.iload_n 2, 1) := by decide +kernel
theorem dX11_findWay_8 : decode cX11_findWay 8 = .ok (.istore 4, 2) := by decide +kernel
theorem dX11_findWay_10 : decode cX11_findWay 10 = .ok (.aload_n 0, 1) := by decide +kernel
theorem dX11_findWay_11 : decode cX11_findWay 11 = .ok (.iconst 0, 1) := by decide +kernel
theorem dX11_findWay_12 : decode cX11_findWay 12 = .ok (.iload_n 1, 1) := by decide +kernel
theorem dX11_findWay_13 : decode cX11_findWay 13 = .ok (.iload_n 2, 1) := by decide +kernel
theorem dX11_findWay_14 : decode cX11_findWay 14 = .ok (.invokevirtual 241, 3) := by decide +kernel
theorem dX11_findWay_17 : decode cX11_findWay 17 = .ok (.istore 5, 2) := by decide +kernel
theorem dX11_findWay_19 : decode cX11_findWay 19 = .ok (.iload 5, 2) := by decide +kernel
theorem dX11_findWay_21 : decode cX11_findWay 21 = .ok (.ifCond .eq 97, 3) := by decide +kernel
theorem dX11_findWay_24 : decode cX11_findWay 24 = .ok (.aload_n 0, 1) := by decide +kernel
theorem dX11_findWay_25 : decode cX11_findWay 25 = .ok (.getfield 72, 3) := by decide +kernel
theorem dX11_findWay_28 : decode cX11_findWay 28 = .ok (.aload_n 0, 1) := by decide +kernel
theorem dX11_findWay_29 : decode cX11_findWay 29 = .ok (.getfield 275, 3) := by decide +kernel
theorem dX11_findWay_32 : decode cX11_findWay 32 = .ok (.iload_n 3, 1) := by decide +kernel
theorem dX11_findWay_33 : decode cX11_findWay 33 = .ok (.iastore, 1) := by decide +kernel
theorem dX11_findWay_34 : decode cX11_findWay 34 = .ok (.aload_n 0, 1) := by decide +kernel
theorem dX11_findWay_35 : decode cX11_findWay 35 = .ok (.dup, 1) := by decide +kernel
theorem dX11_findWay_36 : decode cX11_findWay 36 = .ok (.getfield 275, 3) := by decide +kernel
theorem dX11_findWay_39 : decode cX11_findWay 39 = .ok (.iconst 1, 1) := by decide +kernel
theorem dX11_findWay_40 : decode cX11_findWay 40 = .ok (.iadd, 1) := by decide +kernel
theorem dX11_findWay_41 : decode cX11_findWay 41 = .ok (.putfield 275, 3) := by decide +kernel
theorem dX11_findWay_44 : decode cX11_findWay 44 = .ok (.aload_n 0, 1) := by decide +kernel
theorem dX11_findWay_45 : decode cX11_findWay 45 = .ok (.getfield 7, 3) := by decide +kernel
theorem dX11_findWay_48 : decode cX11_findWay 48 = .ok (.sipush 144, 3) := by decide +kernel
theorem dX11_findWay_51 : decode cX11_findWay 51 = .ok (.iload_n 3, 1) := by decide +kernel
theorem dX11_findWay_52 : decode cX11_findWay 52 = .ok (.iload 4, 2) := by decide +kernel
theorem dX11_findWay_54 : decode cX11_findWay 54 = .ok (.invokestatic 235, 3) := by decide +kernel
theorem dX11_findWay_57 : decode cX11_findWay 57 = .ok (.iadd, 1) := by decide +kernel
theorem dX11_findWay_58 : decode cX11_findWay 58 = .ok (.iaload, 1) := by decide +kernel
theorem dX11_findWay_59 : decode cX11_findWay 59 = .ok (.istore 6, 2) := by decide +kernel
theorem dX11_findWay_61 : decode cX11_findWay 61 = .ok (.aload_n 0, 1) := by decide +kernel
theorem dX11_findWay_62 : decode cX11_findWay 62 = .ok (.getfield 7, 3) := by decide +kernel
theorem dX11_findWay_65 : decode cX11_findWay 65 = .ok (.sipush 720, 3) := by decide +kernel
theorem dX11_findWay_68 : decode cX11_findWay 68 = .ok (.iload_n 3, 1) := by decide +kernel
theorem dX11_findWay_69 : decode cX11_findWay 69 = .ok (.iload 4, 2) := by decide +kernel
theorem dX11_findWay_71 : decode cX11_findWay 71 = .ok (.invokestatic 235, 3) := by decide +kernel
theorem dX11_findWay_74 : decode cX11_findWay 74 = .ok (.iadd, 1) := by decide +kernel
theorem dX11_findWay_75 : decode cX11_findWay 75 = .ok (.iaload, 1) := by decide +kernel
theorem dX11_findWay_76 : decode cX11_findWay 76 = .ok (.istore 7, 2) := by decide +kernel
theorem dX11_findWay_78 : decode cX11_findWay 78 = .ok (.iload 6, 2) := by decide +kernel
theorem dX11_findWay_80 : decode cX11_findWay 80 = .ok (.i2l, 1) := by decide +kernel
theorem dX11_findWay_81 : decode cX11_findWay 81 = .ok (.lconst 0, 1) := by decide +kernel
theorem dX11_findWay_82 : decode cX11_findWay 82 = .ok (.ldc2_w 278, 3) := by decide +kernel
theorem dX11_findWay_85 : decode cX11_findWay 85 = .ok (.invokestatic 104, 3) := by decide +kernel
theorem dX11_findWay_88 : decode cX11_findWay 88 = .ok (.ifCond .eq 17, 3) := by decide +kernel
theorem dX11_findWay_91 : decode cX11_findWay 91 = .ok (.aload_n 0, 1) := by decide +kernel
theorem dX11_findWay_92 : decode cX11_findWay 92 = .ok (.getfield 275, 3) := by decide +kernel
theorem dX11_findWay_95 : decode cX11_findWay 95 = .ok (.sipush 149, 3) := by decide +kernel
theorem dX11_findWay_98 : decode cX11_findWay 98 = .ok (.if_icmp .ge 7, 3) := by decide +kernel
theorem dX11_findWay_101 : decode cX11_findWay 101 = .ok (.iconst 1, 1) := by decide +kernel
theorem dX11_findWay_102 : decode cX11_findWay 102 = .ok (.goto 4, 3) := by decide +kernel
theorem dX11_findWay_105 : decode cX11_findWay 105 = .ok (.iconst 0, 1) := by decide +kernel
theorem dX11_findWay_106 : decode cX11_findWay 106 = .ok (.istore 5, 2) := by decide +kernel
theorem dX11_findWay_108 : decode cX11_findWay 108 = .ok (.iload 6, 2) := by decide +kernel
theorem dX11_findWay_110 : decode cX11_findWay 110 = .ok (.istore_n 3, 1) := by decide +kernel
theorem dX11_findWay_111 : decode cX11_findWay 111 = .ok (.iload 7, 2) := by decide +kernel
theorem dX11_findWay_113 : decode cX11_findWay 113 = .ok (.istore 4, 2) := by decide +kernel
theorem dX11_findWay_115 : decode cX11_findWay 115 = .ok (.goto (-96), 3) := by decide +kernel
theorem dX11_findWay_118 : decode cX11_findWay 118 = .ok (.return_, 1) := by decide +kernel
theorem dX11_isOnWay_0 : decode cX11_isOnWay 0 = .ok (.iconst 0, 1) := by decide +kernel
theorem dX11_isOnWay_1 : decode cX11_isOnWay 1 = .ok (.istore_n 2, 1) := by decide +kernel
theorem dX11_isOnWay_2 : decode cX11_isOnWay 2 = .ok (.iconst 0, 1) := by decide +kernel
theorem dX11_isOnWay_3 : decode cX11_isOnWay 3 = .ok (.istore_n 3, 1) := by decide +kernel
theorem dX11_isOnWay_4 : decode cX11_isOnWay 4 = .ok (.iload_n 3, 1) := by decide +kernel
theorem dX11_isOnWay_5 : decode cX11_isOnWay 5 = .ok (.aload_n 0, 1) := by decide +kernel
theorem dX11_isOnWay_6 : decode cX11_isOnWay 6 = .ok (.getfield 275, 3) := by decide +kernel
theorem dX11_isOnWay_9 : decode cX11_isOnWay 9 = .ok (.if_icmp .ge 29, 3) := by decide +kernel
theorem dX11_isOnWay_12 : decode cX11_isOnWay 12 = .ok (.iload_n 2, 1) := by decide +kernel
theorem dX11_isOnWay_13 : decode cX11_isOnWay 13 = .ok (.ifCond .ne 13, 3) := by decide +kernel
theorem dX11_isOnWay_16 : decode cX11_isOnWay 16 = .ok (.aload_n 0, 1) := by decide +kernel
theorem dX11_isOnWay_17 : decode cX11_isOnWay 17 = .ok (.getfield 72, 3) := by decide +kernel
theorem dX11_isOnWay_20 : decode cX11_isOnWay 20 = .ok (.iload_n 3, 1) := by decide +kernel
theorem dX11_isOnWay_21 : decode cX11_isOnWay 21 = .ok (.iaload, 1) := by decide +kernel
theorem dX11_isOnWay_22 : decode cX11_isOnWay 22 = .ok (.iload_n 1, 1) := by decide +kernel
theorem dX11_isOnWay_23 : decode cX11_isOnWay 23 = .ok (.if_icmp .ne 7, 3) := by decide +kernel
theorem dX11_isOnWay_26 : decode cX11_isOnWay 26 = .ok (.iconst 1, 1) := by decide +kernel
theorem dX11_isOnWay_27 : decode cX11_isOnWay 27 = .ok (.goto 4, 3) := by decide +kernel
theorem dX11_isOnWay_30 : decode cX11_isOnWay 30 = .ok (.iconst 0, 1) := by decide +kernel
theorem dX11_isOnWay_31 : decode cX11_isOnWay 31 = .ok (.istore_n 2, 1) := by decide +kernel
theorem dX11_isOnWay_32 : decode cX11_isOnWay 32 = .ok (.iinc 3 1, 3) := by decide +kernel
theorem dX11_isOnWay_35 : decode cX11_isOnWay 35 = .ok (.goto (-31), 3) := by decide +kernel
theorem dX11_isOnWay_38 : decode cX11_isOnWay 38 = .ok (.iload_n 2, 1) := by decide +kernel
theorem dX11_isOnWay_39 : decode cX11_isOnWay 39 = .ok (.ireturn, 1) := by decide +kernel
theorem dX11_way_0 : decode cX11_way 0 = .ok (.aload_n 0, 1) := by decide +kernel
theorem dX11_way_1 : decode cX11_way 1 = .ok (.iload_n 1, 1) := by decide +kernel
theorem dX11_way_2 : decode cX11_way 2 = .ok (.invokevirtual 201, 3) := by decide +kernel
theorem dX11_way_5 : decode cX11_way 5 = .ok (.ifCond .eq 11, 3) := by decide +kernel
theorem dX11_way_8 : decode cX11_way 8 = .ok (.aload_n 0, 1) := by decide +kernel
theorem dX11_way_9 : decode cX11_way 9 = .ok (.iload_n 2, 1) := by decide +kernel
theorem dX11_way_10 : decode cX11_way 10 = .ok (.invokevirtual 215, 3) := by decide +kernel
theorem dX11_way_13 : decode cX11_way 13 = .ok (.ifCond .ne 6, 3) := by decide +kernel
theorem dX11_way_16 : decode cX11_way 16 = .ok (.ldc 205, 2) := by decide +kernel
theorem dX11_way_18 : decode cX11_way 18 = .ok (.ireturn, 1) := by decide +kernel
theorem dX11_way_19 : decode cX11_way 19 = .ok (.aload_n 0, 1) := by decide +kernel
theorem dX11_way_20 : decode cX11_way 20 = .ok (.iload_n 1, 1) := by decide +kernel
theorem dX11_way_21 : decode cX11_way 21 = .ok (.iload_n 2, 1) := by decide +kernel
theorem dX11_way_22 : decode cX11_way 22 = .ok (.invokevirtual 280, 3) := by decide +kernel
theorem dX11_way_25 : decode cX11_way 25 = .ok (.aload_n 0, 1) := by decide +kernel
theorem dX11_way_26 : decode cX11_way 26 = .ok (.getfield 275, 3) := by decide +kernel
theorem dX11_way_29 : decode cX11_way 29 = .ok (.ifCond .ne 7, 3) := by decide +kernel
theorem dX11_way_32 : decode cX11_way 32 = .ok (.iconst (-1), 1) := by decide +kernel
theorem dX11_way_33 : decode cX11_way 33 = .ok (.goto 41, 3) := by decide +kernel
theorem dX11_way_36 : decode cX11_way 36 = .ok (.iload_n 3, 1) := by decide +kernel
theorem dX11_way_37 : decode cX11_way 37 = .ok (.iconst (-1), 1) := by decide +kernel
theorem dX11_way_38 : decode cX11_way 38 = .ok (.if_icmp .ne 10, 3) := by decide +kernel
theorem dX11_way_41 : decode cX11_way 41 = .ok (.aload_n 0, 1) := by decide +kernel
theorem dX11_way_42 : decode cX11_way 42 = .ok (.getfield 275, 3) := by decide +kernel
theorem dX11_way_45 : decode cX11_way 45 = .ok (.goto 29, 3) := by decide +kernel
theorem dX11_way_48 : decode cX11_way 48 = .ok (.iload_n 3, 1) := by decide +kernel
theorem dX11_way_49 : decode cX11_way 49 = .ok (.i2l, 1) := by decide +kernel
theorem dX11_way_50 : decode cX11_way 50 = .ok (.lconst 0, 1) := by decide +kernel
theorem dX11_way_51 : decode cX11_way 51 = .ok (.aload_n 0, 1) := by decide +kernel
theorem dX11_way_52 : decode cX11_way 52 = .ok (.getfield 275, 3) := by decide +kernel
theorem dX11_way_55 : decode cX11_way 55 = .ok (.iconst 1, 1) := by decide +kernel
theorem dX11_way_56 : decode cX11_way 56 = .ok (.isub, 1) := by decide +kernel
theorem dX11_way_57 : decode cX11_way 57 = .ok (.i2l, 1) := by decide +kernel
theorem dX11_way_58 : decode cX11_way 58 = .ok (.invokestatic 104, 3) := by decide +kernel
theorem dX11_way_61 : decode cX11_way 61 = .ok (.ifCond .eq 12, 3) := by decide +kernel
theorem dX11_way_64 : decode cX11_way 64 = .ok (.aload_n 0, 1) := by decide +kernel
theorem dX11_way_65 : decode cX11_way 65 = .ok (.getfield 72, 3) := by decide +kernel
theorem dX11_way_68 : decode cX11_way 68 = .ok (.iload_n 3, 1) := by decide +kernel
theorem dX11_way_69 : decode cX11_way 69 = .ok (.iaload, 1) := by decide +kernel
theorem dX11_way_70 : decode cX11_way 70 = .ok (.goto 4, 3) := by decide +kernel
theorem dX11_way_73 : decode cX11_way 73 = .ok (.iconst (-1), 1) := by decide +kernel
theorem dX11_way_74 : decode cX11_way 74 = .ok (.ireturn, 1) := by decide +kernel
theorem dX11_nine_0 : decode cX11_nine 0 = .ok (.aload_n 0, 1) := by decide +kernel
theorem dX11_nine_1 : decode cX11_nine 1 = .ok (.iload_n 1, 1) := by decide +kernel
theorem dX11_nine_2 : decode cX11_nine 2 = .ok (.invokevirtual 201, 3) := by decide +kernel
theorem dX11_nine_5 : decode cX11_nine 5 = .ok (.ifCond .eq 11, 3) := by decide +kernel
theorem dX11_nine_8 : decode cX11_nine 8 = .ok (.aload_n 0, 1) := by decide +kernel
theorem dX11_nine_9 : decode cX11_nine 9 = .ok (.iload_n 2, 1) := by decide +kernel
theorem dX11_nine_10 : decode cX11_nine 10 = .ok (.invokevirtual 215, 3) := by decide +kernel
theorem dX11_nine_13 : decode cX11_nine 13 = .ok (.ifCond .ne 6, 3) := by decide +kernel
theorem dX11_nine_16 : decode cX11_nine 16 = .ok (.ldc 205, 2) := by decide +kernel
theorem dX11_nine_18 : decode cX11_nine 18 = .ok (.ireturn, 1) := by decide +kernel
theorem dX11_nine_19 : decode cX11_nine 19 = .ok (.iload_n 3, 1) := by decide +kernel
theorem dX11_nine_20 : decode cX11_nine 20 = .ok (.i2l, 1) := by decide +kernel
theorem dX11_nine_21 : decode cX11_nine 21 = .ok (.lconst 0, 1) := by decide +kernel
theorem dX11_nine_22 : decode cX11_nine 22 = .ok (.lconst 1, 1) := by decide +kernel
theorem dX11_nine_23 : decode cX11_nine 23 = .ok (.invokestatic 104, 3) := by decide +kernel
theorem dX11_nine_26 : decode cX11_nine 26 = .ok (.ifCond .ne 6, 3) := by decide +kernel
theorem dX11_nine_29 : decode cX11_nine 29 = .ok (.ldc 108, 2) := by decide +kernel
theorem dX11_nine_31 : decode cX11_nine 31 = .ok (.ireturn, 1) := by decide +kernel
theorem dX11_nine_32 : decode cX11_nine 32 = .ok (.iconst 0, 1) := by decide +kernel
theorem dX11_nine_33 : decode cX11_nine 33 = .ok (.istore 4, 2) := by decide +kernel
theorem dX11_nine_35 : decode cX11_nine 35 = .ok (.iload 4, 2) := by decide +kernel
theorem dX11_nine_37 : decode cX11_nine 37 = .ok (.bipush 26, 2) := by decide +kernel
theorem dX11_nine_39 : decode cX11_nine 39 = .ok (.if_icmp .ge 17, 3) := by decide +kernel
theorem dX11_nine_42 : decode cX11_nine 42 = .ok (.aload_n 0, 1) := by decide +kernel
theorem dX11_nine_43 : decode cX11_nine 43 = .ok (.getfield 75, 3) := by decide +kernel
theorem dX11_nine_46 : decode cX11_nine 46 = .ok (.iload 4, 2) := by decide +kernel
theorem dX11_nine_48 : decode cX11_nine 48 = .ok (.iconst 0, 1) := by decide +kernel
theorem dX11_nine_49 : decode cX11_nine 49 = .ok (.iastore, 1) := by decide +kernel
theorem dX11_nine_50 : decode cX11_nine 50 = .ok (.iinc 4 1, 3) := by decide +kernel
theorem dX11_nine_53 : decode cX11_nine 53 = .ok (.goto (-18), 3) := by decide +kernel
theorem dX11_nine_56 : decode cX11_nine 56 = .ok (.iconst 0, 1) := by decide +kernel
theorem dX11_nine_57 : decode cX11_nine 57 = .ok (.istore 4, 2) := by decide +kernel
theorem dX11_nine_59 : decode cX11_nine 59 = .ok (.iconst 0, 1) := by decide +kernel
theorem dX11_nine_60 : decode cX11_nine 60 = .ok (.istore 5, 2) := by decide +kernel
theorem dX11_nine_62 : decode cX11_nine 62 = .ok (.iconst 0, 1) := by decide +kernel
theorem dX11_nine_63 : decode cX11_nine 63 = .ok (.istore 6, 2) := by decide +kernel
theorem dX11_nine_65 : decode cX11_nine 65 = .ok (.iload 6, 2) := by decide +kernel
theorem dX11_nine_67 : decode cX11_nine 67 = .ok (.aload_n 0, 1) := by decide +kernel
theorem dX11_nine_68 : decode cX11_nine 68 = .ok (.getfield 33, 3) := by decide +kernel
theorem dX11_nine_71 : decode cX11_nine 71 = .ok (.iconst 0, 1) := by decide +kernel
theorem dX11_nine_72 : decode cX11_nine 72 = .ok (.iaload, 1) := by decide +kernel
theorem dX11_nine_73 : decode cX11_nine 73 = .ok (.if_icmp .ge 148, 3) := by decide +kernel
theorem dX11_nine_76 : decode cX11_nine 76 = .ok (.aload_n 0, 1) := by decide +kernel
theorem dX11_nine_77 : decode cX11_nine 77 = .ok (.iload 6, 2) := by decide +kernel
theorem dX11_nine_79 : decode cX11_nine 79 = .ok (.iload_n 2, 1) := by decide +kernel
theorem dX11_nine_80 : decode cX11_nine 80 = .ok (.invokevirtual 280, 3) := by decide +kernel
theorem dX11_nine_83 : decode cX11_nine 83 = .ok (.aload_n 0, 1) := by decide +kernel
theorem dX11_nine_84 : decode cX11_nine 84 = .ok (.getfield 7, 3) := by decide +kernel
theorem dX11_nine_87 : decode cX11_nine 87 = .ok (.sipush 576, 3) := by decide +kernel
theorem dX11_nine_90 : decode cX11_nine 90 = .ok (.iload_n 1, 1) := by decide +kernel
theorem dX11_nine_91 : decode cX11_nine 91 = .ok (.iload_n 2, 1) := by decide +kernel
theorem dX11_nine_92 : decode cX11_nine 92 = .ok (.invokestatic 235, 3) := by decide +kernel
theorem dX11_nine_95 : decode cX11_nine 95 = .ok (.iadd, 1) := by decide +kernel
theorem dX11_nine_96 : decode cX11_nine 96 = .ok (.iaload, 1) := by decide +kernel
theorem dX11_nine_97 : decode cX11_nine 97 = .ok (.iload 6, 2) := by decide +kernel
theorem dX11_nine_99 : decode cX11_nine 99 = .ok (.invokestatic 182, 3) := by decide +kernel
theorem dX11_nine_102 : decode cX11_nine 102 = .ok (.ifCond .eq 113, 3) := by decide +kernel
theorem dX11_nine_105 : decode cX11_nine 105 = .ok (.aload_n 0, 1) := by decide +kernel
theorem dX11_nine_106 : decode cX11_nine 106 = .ok (.getfield 275, 3) := by decide +kernel
theorem dX11_nine_109 : decode cX11_nine 109 = .ok (.ifCond .le 106, 3) := by decide +kernel
theorem dX11_nine_112 : decode cX11_nine 112 = .ok (.aload_n 0, 1) := by decide +kernel
theorem dX11_nine_113 : decode cX11_nine 113 = .ok (.iload_n 1, 1) := by decide +kernel
theorem dX11_nine_114 : decode cX11_nine 114 = .ok (.invokevirtual 284, 3) := by decide +kernel
theorem dX11_nine_117 : decode cX11_nine 117 = .ok (.ifCond .ne 98, 3) := by decide +kernel
theorem dX11_nine_120 : decode cX11_nine 120 = .ok (.iload 4, 2) := by decide +kernel
theorem dX11_nine_122 : decode cX11_nine 122 = .ok (.iconst 1, 1) := by decide +kernel
theorem dX11_nine_123 : decode cX11_nine 123 = .ok (.aload_n 0, 1) := by decide +kernel
theorem dX11_nine_124 : decode cX11_nine 124 = .ok (.getfield 72, 3) := by decide +kernel
theorem dX11_nine_127 : decode cX11_nine 127 = .ok (.aload_n 0, 1) := by decide +kernel
theorem dX11_nine_128 : decode cX11_nine 128 = .ok (.getfield 275, 3) := by decide +kernel
theorem dX11_nine_131 : decode cX11_nine 131 = .ok (.iconst 1, 1) := by decide +kernel
theorem dX11_nine_132 : decode cX11_nine 132 = .ok (.isub, 1) := by decide +kernel
theorem dX11_nine_133 : decode cX11_nine 133 = .ok (.iaload, 1) := by decide +kernel
theorem dX11_nine_134 : decode cX11_nine 134 = .ok (.ishl, 1) := by decide +kernel
theorem dX11_nine_135 : decode cX11_nine 135 = .ok (.ior, 1) := by decide +kernel
theorem dX11_nine_136 : decode cX11_nine 136 = .ok (.istore 4, 2) := by decide +kernel
theorem dX11_nine_138 : decode cX11_nine 138 = .ok (.aload_n 0, 1) := by decide +kernel
theorem dX11_nine_139 : decode cX11_nine 139 = .ok (.getfield 7, 3) := by decide +kernel
theorem dX11_nine_142 : decode cX11_nine 142 = .ok (.sipush 144, 3) := by decide +kernel
theorem dX11_nine_145 : decode cX11_nine 145 = .ok (.iload 6, 2) := by decide +kernel
theorem dX11_nine_147 : decode cX11_nine 147 = .ok (.iload_n 2, 1) := by decide +kernel
theorem dX11_nine_148 : decode cX11_nine 148 = .ok (.invokestatic 235, 3) := by decide +kernel
theorem dX11_nine_151 : decode cX11_nine 151 = .ok (.iadd, 1) := by decide +kernel
theorem dX11_nine_152 : decode cX11_nine 152 = .ok (.iaload, 1) := by decide +kernel
theorem dX11_nine_153 : decode cX11_nine 153 = .ok (.istore 7, 2) := by decide +kernel
theorem dX11_nine_155 : decode cX11_nine 155 = .ok (.iload 7, 2) := by decide +kernel
theorem dX11_nine_157 : decode cX11_nine 157 = .ok (.bipush (-2), 2) := by decide +kernel
theorem dX11_nine_159 : decode cX11_nine 159 = .ok (.if_icmp .ne 8, 3) := by decide +kernel
theorem dX11_nine_162 : decode cX11_nine 162 = .ok (.bipush 25, 2) := by decide +kernel
theorem dX11_nine_164 : decode cX11_nine 164 = .ok (.goto 5, 3) := by decide +kernel
theorem dX11_nine_167 : decode cX11_nine 167 = .ok (.iload 7, 2) := by decide +kernel
theorem dX11_nine_169 : decode cX11_nine 169 = .ok (.istore 8, 2) := by decide +kernel
theorem dX11_nine_171 : decode cX11_nine 171 = .ok (.aload_n 0, 1) := by decide +kernel
theorem dX11_nine_172 : decode cX11_nine 172 = .ok (.getfield 75, 3) := by decide +kernel
theorem dX11_nine_175 : decode cX11_nine 175 = .ok (.iload 8, 2) := by decide +kernel
theorem dX11_nine_177 : decode cX11_nine 177 = .ok (.dup2, 1) := by decide +kernel
theorem dX11_nine_178 : decode cX11_nine 178 = .ok (.iaload, 1) := by decide +kernel
theorem dX11_nine_179 : decode cX11_nine 179 = .ok (.iconst 1, 1) := by decide +kernel
theorem dX11_nine_180 : decode cX11_nine 180 = .ok (.iadd, 1) := by decide +kernel
theorem dX11_nine_181 : decode cX11_nine 181 = .ok (.iastore, 1) := by decide +kernel
theorem dX11_nine_182 : decode cX11_nine 182 = .ok (.iload 8, 2) := by decide +kernel
theorem dX11_nine_184 : decode cX11_nine 184 = .ok (.bipush 24, 2) := by decide +kernel
theorem dX11_nine_186 : decode cX11_nine 186 = .ok (.if_icmp .ge 25, 3) := by decide +kernel
theorem dX11_nine_189 : decode cX11_nine 189 = .ok (.aload_n 0, 1) := by decide +kernel
theorem dX11_nine_190 : decode cX11_nine 190 = .ok (.getfield 75, 3) := by decide +kernel
theorem dX11_nine_193 : decode cX11_nine 193 = .ok (.iload 8, 2) := by decide +kernel
theorem dX11_nine_195 : decode cX11_nine 195 = .ok (.iaload, 1) := by decide +kernel
theorem dX11_nine_196 : decode cX11_nine 196 = .ok (.iload 5, 2) := by decide +kernel
theorem dX11_nine_198 : decode cX11_nine 198 = .ok (.if_icmp .le 13, 3) := by decide +kernel
theorem dX11_nine_201 : decode cX11_nine 201 = .ok (.aload_n 0, 1) := by decide +kernel
theorem dX11_nine_202 : decode cX11_nine 202 = .ok (.getfield 75, 3) := by decide +kernel
theorem dX11_nine_205 : decode cX11_nine 205 = .ok (.iload 8, 2) := by decide +kernel
theorem dX11_nine_207 : decode cX11_nine 207 = .ok (.iaload, 1) := by decide +kernel
theorem dX11_nine_208 : decode cX11_nine 208 = .ok (.goto 5, 3) := by decide +kernel
theorem dX11_nine_211 : decode cX11_nine 211 = .ok (.iload 5, 2) := by decide +kernel
theorem dX11_nine_213 : decode cX11_nine 213 = .ok (.istore 5, 2) := by decide +kernel
theorem dX11_nine_215 : decode cX11_nine 215 = .ok (.iinc 6 1, 3) := by decide +kernel
theorem dX11_nine_218 : decode cX11_nine 218 = .ok (.goto (-153), 3) := by decide +kernel
theorem dX11_nine_221 : decode cX11_nine 221 = .ok (.iload_n 3, 1) := by decide +kernel
theorem dX11_nine_222 : decode cX11_nine 222 = .ok (.ifCond .ne 11, 3) := by decide +kernel
theorem dX11_nine_225 : decode cX11_nine 225 = .ok (.iload 4, 2) := by decide +kernel
theorem dX11_nine_227 : decode cX11_nine 227 = .ok (.invokestatic 194, 3) := by decide +kernel
theorem dX11_nine_230 : decode cX11_nine 230 = .ok (.goto 5, 3) := by decide +kernel
theorem dX11_nine_233 : decode cX11_nine 233 = .ok (.iload 5, 2) := by decide +kernel
theorem dX11_nine_235 : decode cX11_nine 235 = .ok (.ireturn, 1) := by decide +kernel
theorem dX11_below_0 : decode cX11_below 0 = .ok (.aload_n 0, 1) := by decide +kernel
theorem dX11_below_1 : decode cX11_below 1 = .ok (.iload_n 1, 1) := by decide +kernel
theorem dX11_below_2 : decode cX11_below 2 = .ok (.invokevirtual 201, 3) := by decide +kernel
theorem dX11_below_5 : decode cX11_below 5 = .ok (.ifCond .eq 11, 3) := by decide +kernel
theorem dX11_below_8 : decode cX11_below 8 = .ok (.aload_n 0, 1) := by decide +kernel
theorem dX11_below_9 : decode cX11_below 9 = .ok (.iload_n 2, 1) := by decide +kernel
theorem dX11_below_10 : decode cX11_below 10 = .ok (.invokevirtual 215, 3) := by decide +kernel
theorem dX11_below_13 : decode cX11_below 13 = .ok (.ifCond .ne 6, 3) := by decide +kernel
theorem dX11_below_16 : decode cX11_below 16 = .ok (.ldc 205, 2) := by decide +kernel
theorem dX11_below_18 : decode cX11_below 18 = .ok (.ireturn, 1) := by decide +kernel
theorem dX11_below_19 : decode cX11_below 19 = .ok (.iconst 0, 1) := by decide +kernel
theorem dX11_below_20 : decode cX11_below 20 = .ok (.istore_n 3, 1) := by decide +kernel
theorem dX11_below_21 : decode cX11_below 21 = .ok (.iconst 0, 1) := by decide +kernel
theorem dX11_below_22 : decode cX11_below 22 = .ok (.istore 4, 2) := by decide +kernel
theorem dX11_below_24 : decode cX11_below 24 = .ok (.iload 4, 2) := by decide +kernel
theorem dX11_below_26 : decode cX11_below 26 = .ok (.aload_n 0, 1) := by decide +kernel
theorem dX11_below_27 : decode cX11_below 27 = .ok (.getfield 33, 3) := by decide +kernel
theorem dX11_below_30 : decode cX11_below 30 = .ok (.iconst 0, 1) := by decide +kernel
theorem dX11_below_31 : decode cX11_below 31 = .ok (.iaload, 1) := by decide +kernel
theorem dX11_below_32 : decode cX11_below 32 = .ok (.if_icmp .ge 44, 3) := by decide +kernel
theorem dX11_below_35 : decode cX11_below 35 = .ok (.aload_n 0, 1) := by decide +kernel
theorem dX11_below_36 : decode cX11_below 36 = .ok (.iload 4, 2) := by decide +kernel
theorem dX11_below_38 : decode cX11_below 38 = .ok (.iload_n 2, 1) := by decide +kernel
theorem dX11_below_39 : decode cX11_below 39 = .ok (.invokevirtual 280, 3) := by decide +kernel
theorem dX11_below_42 : decode cX11_below 42 = .ok (.iload_n 3, 1) := by decide +kernel
theorem dX11_below_43 : decode cX11_below 43 = .ok (.iload 4, 2) := by decide +kernel
theorem dX11_below_45 : decode cX11_below 45 = .ok (.iload_n 1, 1) := by decide +kernel
theorem dX11_below_46 : decode cX11_below 46 = .ok (.if_icmp .eq 15, 3) := by decide +kernel
theorem dX11_below_49 : decode cX11_below 49 = .ok (.aload_n 0, 1) := by decide +kernel
theorem dX11_below_50 : decode cX11_below 50 = .ok (.iload_n 1, 1) := by decide +kernel
theorem dX11_below_51 : decode cX11_below 51 = .ok (.invokevirtual 284, 3) := by decide +kernel
theorem dX11_below_54 : decode cX11_below 54 = .ok (.ifCond .eq 7, 3) := by decide +kernel
theorem dX11_below_57 : decode cX11_below 57 = .ok (.iconst 1, 1) := by decide +kernel
theorem dX11_below_58 : decode cX11_below 58 = .ok (.goto 4, 3) := by decide +kernel
theorem dX11_below_61 : decode cX11_below 61 = .ok (.iconst 0, 1) := by decide +kernel
theorem dX11_below_62 : decode cX11_below 62 = .ok (.invokestatic 186, 3) := by decide +kernel
theorem dX11_below_65 : decode cX11_below 65 = .ok (.iload 4, 2) := by decide +kernel
theorem dX11_below_67 : decode cX11_below 67 = .ok (.ishl, 1) := by decide +kernel
theorem dX11_below_68 : decode cX11_below 68 = .ok (.ior, 1) := by decide +kernel
theorem dX11_below_69 : decode cX11_below 69 = .ok (.istore_n 3, 1) := by decide +kernel
theorem dX11_below_70 : decode cX11_below 70 = .ok (.iinc 4 1, 3) := by decide +kernel
theorem dX11_below_73 : decode cX11_below 73 = .ok (.goto (-49), 3) := by decide +kernel
theorem dX11_below_76 : decode cX11_below 76 = .ok (.iload_n 3, 1) := by decide +kernel
theorem dX11_below_77 : decode cX11_below 77 = .ok (.ireturn, 1) := by decide +kernel
theorem dX11_freshen_0 : decode cX11_freshen 0 = .ok (.iconst 0, 1) := by decide +kernel
theorem dX11_freshen_1 : decode cX11_freshen 1 = .ok (.istore_n 2, 1) := by decide +kernel
theorem dX11_freshen_2 : decode cX11_freshen 2 = .ok (.iload_n 2, 1) := by decide +kernel
theorem dX11_freshen_3 : decode cX11_freshen 3 = .ok (.sipush 866, 3) := by decide +kernel
theorem dX11_freshen_6 : decode cX11_freshen 6 = .ok (.if_icmp .ge 18, 3) := by decide +kernel
theorem dX11_freshen_9 : decode cX11_freshen 9 = .ok (.aload_n 0, 1) := by decide +kernel
theorem dX11_freshen_10 : decode cX11_freshen 10 = .ok (.getfield 7, 3) := by decide +kernel
theorem dX11_freshen_13 : decode cX11_freshen 13 = .ok (.iload_n 1, 1) := by decide +kernel
theorem dX11_freshen_14 : decode cX11_freshen 14 = .ok (.iload_n 2, 1) := by decide +kernel
theorem dX11_freshen_15 : decode cX11_freshen 15 = .ok (.iadd, 1) := by decide +kernel
theorem dX11_freshen_16 : decode cX11_freshen 16 = .ok (.iconst 0, 1) := by decide +kernel
theorem dX11_freshen_17 : decode cX11_freshen 17 = .ok (.iastore, 1) := by decide +kernel
theorem dX11_freshen_18 : decode cX11_freshen 18 = .ok (.iinc 2 1, 3) := by decide +kernel
theorem dX11_freshen_21 : decode cX11_freshen 21 = .ok (.goto (-19), 3) := by decide +kernel
theorem dX11_freshen_24 : decode cX11_freshen 24 = .ok (.return_, 1) := by decide +kernel
theorem dX11_curve_0 : decode cX11_curve 0 = .ok (.iload_n 1, 1) := by decide +kernel
theorem dX11_curve_1 : decode cX11_curve 1 = .ok (.i2l, 1) := by decide +kernel
theorem dX11_curve_2 : decode cX11_curve 2 = .ok (.lconst 0, 1) := by decide +kernel
theorem dX11_curve_3 : decode cX11_curve 3 = .ok (.iconst 1, 1) := by decide +kernel
theorem dX11_curve_4 : decode cX11_curve 4 = .ok (.aload_n 0, 1) := by decide +kernel
theorem dX11_curve_5 : decode cX11_curve 5 = .ok (.getfield 63, 3) := by decide +kernel
theorem dX11_curve_8 : decode cX11_curve 8 = .ok (.iconst 0, 1) := by decide +kernel
theorem dX11_curve_9 : decode cX11_curve 9 = .ok (.iaload, 1) := by decide +kernel
theorem dX11_curve_10 : decode cX11_curve 10 = .ok (.ishl, 1) := by decide +kernel
theorem dX11_curve_11 : decode cX11_curve 11 = .ok (.iconst 1, 1) := by decide +kernel
theorem dX11_curve_12 : decode cX11_curve 12 = .ok (.isub, 1) := by decide +kernel
theorem dX11_curve_13 : decode cX11_curve 13 = .ok (.i2l, 1) := by decide +kernel
theorem dX11_curve_14 : decode cX11_curve 14 = .ok (.invokestatic 104, 3) := by decide +kernel
theorem dX11_curve_17 : decode cX11_curve 17 = .ok (.ifCond .eq 11, 3) := by decide +kernel
theorem dX11_curve_20 : decode cX11_curve 20 = .ok (.aload_n 0, 1) := by decide +kernel
theorem dX11_curve_21 : decode cX11_curve 21 = .ok (.iload_n 2, 1) := by decide +kernel
theorem dX11_curve_22 : decode cX11_curve 22 = .ok (.invokevirtual 215, 3) := by decide +kernel
theorem dX11_curve_25 : decode cX11_curve 25 = .ok (.ifCond .ne 6, 3) := by decide +kernel
theorem dX11_curve_28 : decode cX11_curve 28 = .ok (.ldc 205, 2) := by decide +kernel
theorem dX11_curve_30 : decode cX11_curve 30 = .ok (.ireturn, 1) := by decide +kernel
theorem dX11_curve_31 : decode cX11_curve 31 = .ok (.iload_n 3, 1) := by decide +kernel
theorem dX11_curve_32 : decode cX11_curve 32 = .ok (.i2l, 1) := by decide +kernel
theorem dX11_curve_33 : decode cX11_curve 33 = .ok (.lconst 0, 1) := by decide +kernel
theorem dX11_curve_34 : decode cX11_curve 34 = .ok (.ldc2_w 287, 3) := by decide +kernel
theorem dX11_curve_37 : decode cX11_curve 37 = .ok (.invokestatic 104, 3) := by decide +kernel
theorem dX11_curve_40 : decode cX11_curve 40 = .ok (.ifCond .ne 6, 3) := by decide +kernel
theorem dX11_curve_43 : decode cX11_curve 43 = .ok (.ldc 108, 2) := by decide +kernel
theorem dX11_curve_45 : decode cX11_curve 45 = .ok (.ireturn, 1) := by decide +kernel
theorem dX11_curve_46 : decode cX11_curve 46 = .ok (.aload_n 0, 1) := by decide +kernel
theorem dX11_curve_47 : decode cX11_curve 47 = .ok (.iconst 0, 1) := by decide +kernel
theorem dX11_curve_48 : decode cX11_curve 48 = .ok (.sipush 1000, 3) := by decide +kernel
theorem dX11_curve_51 : decode cX11_curve 51 = .ok (.invokevirtual 289, 3) := by decide +kernel
theorem dX11_curve_54 : decode cX11_curve 54 = .ok (.aload_n 0, 1) := by decide +kernel
theorem dX11_curve_55 : decode cX11_curve 55 = .ok (.sipush 1000, 3) := by decide +kernel
theorem dX11_curve_58 : decode cX11_curve 58 = .ok (.invokevirtual 292, 3) := by decide +kernel
theorem dX11_curve_61 : decode cX11_curve 61 = .ok (.iconst 0, 1) := by decide +kernel
theorem dX11_curve_62 : decode cX11_curve 62 = .ok (.istore 4, 2) := by decide +kernel
theorem dX11_curve_64 : decode cX11_curve 64 = .ok (.iload 4, 2) := by decide +kernel
theorem dX11_curve_66 : decode cX11_curve 66 = .ok (.iload_n 3, 1) := by decide +kernel
theorem dX11_curve_67 : decode cX11_curve 67 = .ok (.if_icmp .gt 140, 3) := by decide +kernel
theorem dX11_curve_70 : decode cX11_curve 70 = .ok (.iconst 0, 1) := by decide +kernel
theorem dX11_curve_71 : decode cX11_curve 71 = .ok (.istore 5, 2) := by decide +kernel
theorem dX11_curve_73 : decode cX11_curve 73 = .ok (.iload 5, 2) := by decide +kernel
theorem dX11_curve_75 : decode cX11_curve 75 = .ok (.aload_n 0, 1) := by decide +kernel
theorem dX11_curve_76 : decode cX11_curve 76 = .ok (.getfield 7, 3) := by decide +kernel
theorem dX11_curve_79 : decode cX11_curve 79 = .ok (.sipush 867, 3) := by decide +kernel
theorem dX11_curve_82 : decode cX11_curve 82 = .ok (.iaload, 1) := by decide +kernel
theorem dX11_curve_83 : decode cX11_curve 83 = .ok (.if_icmp .ge 99, 3) := by decide +kernel
theorem dX11_curve_86 : decode cX11_curve 86 = .ok (.aload_n 0, 1) := by decide +kernel
theorem dX11_curve_87 : decode cX11_curve 87 = .ok (.getfield 7, 3) := by decide +kernel
theorem dX11_curve_90 : decode cX11_curve 90 = .ok (.sipush 868, 3) := by decide +kernel
theorem dX11_curve_93 : decode cX11_curve 93 = .ok (.iconst 3, 1) := by decide +kernel
theorem dX11_curve_94 : decode cX11_curve 94 = .ok (.iload 5, 2) := by decide +kernel
theorem dX11_curve_96 : decode cX11_curve 96 = .ok (.imul, 1) := by decide +kernel
theorem dX11_curve_97 : decode cX11_curve 97 = .ok (.iadd, 1) := by decide +kernel
theorem dX11_curve_98 : decode cX11_curve 98 = .ok (.iaload, 1) := by decide +kernel
theorem dX11_curve_99 : decode cX11_curve 99 = .ok (.istore 6, 2) := by decide +kernel
theorem dX11_curve_101 : decode cX11_curve 101 = .ok (.aload_n 0, 1) := by decide +kernel
theorem dX11_curve_102 : decode cX11_curve 102 = .ok (.getfield 7, 3) := by decide +kernel
theorem dX11_curve_105 : decode cX11_curve 105 = .ok (.sipush 868, 3) := by decide +kernel
theorem dX11_curve_108 : decode cX11_curve 108 = .ok (.iconst 3, 1) := by decide +kernel
theorem dX11_curve_109 : decode cX11_curve 109 = .ok (.iload 5, 2) := by decide +kernel
theorem dX11_curve_111 : decode cX11_curve 111 = .ok (.imul, 1) := by decide +kernel
theorem dX11_curve_112 : decode cX11_curve 112 = .ok (.iadd, 1) := by decide +kernel
theorem dX11_curve_113 : decode cX11_curve 113 = .ok (.iconst 1, 1) := by decide +kernel
theorem dX11_curve_114 : decode cX11_curve 114 = .ok (.iadd, 1) := by decide +kernel
theorem dX11_curve_115 : decode cX11_curve 115 = .ok (.iaload, 1) := by decide +kernel
theorem dX11_curve_116 : decode cX11_curve 116 = .ok (.istore 7, 2) := by decide +kernel
theorem dX11_curve_118 : decode cX11_curve 118 = .ok (.aload_n 0, 1) := by decide +kernel
theorem dX11_curve_119 : decode cX11_curve 119 = .ok (.getfield 7, 3) := by decide +kernel
theorem dX11_curve_122 : decode cX11_curve 122 = .ok (.sipush 868, 3) := by decide +kernel
theorem dX11_curve_125 : decode cX11_curve 125 = .ok (.iconst 3, 1) := by decide +kernel
theorem dX11_curve_126 : decode cX11_curve 126 = .ok (.iload 5, 2) := by decide +kernel
theorem dX11_curve_128 : decode cX11_curve 128 = .ok (.imul, 1) := by decide +kernel
theorem dX11_curve_129 : decode cX11_curve 129 = .ok (.iadd, 1) := by decide +kernel
theorem dX11_curve_130 : decode cX11_curve 130 = .ok (.iconst 2, 1) := by decide +kernel
theorem dX11_curve_131 : decode cX11_curve 131 = .ok (.iadd, 1) := by decide +kernel
theorem dX11_curve_132 : decode cX11_curve 132 = .ok (.iaload, 1) := by decide +kernel
theorem dX11_curve_133 : decode cX11_curve 133 = .ok (.iload 4, 2) := by decide +kernel
theorem dX11_curve_135 : decode cX11_curve 135 = .ok (.if_icmp .ne 41, 3) := by decide +kernel
theorem dX11_curve_138 : decode cX11_curve 138 = .ok (.iload_n 1, 1) := by decide +kernel
theorem dX11_curve_139 : decode cX11_curve 139 = .ok (.iload 7, 2) := by decide +kernel
theorem dX11_curve_141 : decode cX11_curve 141 = .ok (.invokestatic 182, 3) := by decide +kernel
theorem dX11_curve_144 : decode cX11_curve 144 = .ok (.ifCond .eq 32, 3) := by decide +kernel
theorem dX11_curve_147 : decode cX11_curve 147 = .ok (.aload_n 0, 1) := by decide +kernel
theorem dX11_curve_148 : decode cX11_curve 148 = .ok (.sipush 1000, 3) := by decide +kernel
theorem dX11_curve_151 : decode cX11_curve 151 = .ok (.iload 6, 2) := by decide +kernel
theorem dX11_curve_153 : decode cX11_curve 153 = .ok (.iload 7, 2) := by decide +kernel
theorem dX11_curve_155 : decode cX11_curve 155 = .ok (.invokevirtual 241, 3) := by decide +kernel
theorem dX11_curve_158 : decode cX11_curve 158 = .ok (.ifCond .ne 18, 3) := by decide +kernel
theorem dX11_curve_161 : decode cX11_curve 161 = .ok (.aload_n 0, 1) := by decide +kernel
theorem dX11_curve_162 : decode cX11_curve 162 = .ok (.sipush 1000, 3) := by decide +kernel
theorem dX11_curve_165 : decode cX11_curve 165 = .ok (.iload 6, 2) := by decide +kernel
theorem dX11_curve_167 : decode cX11_curve 167 = .ok (.iload 7, 2) := by decide +kernel
theorem dX11_curve_169 : decode cX11_curve 169 = .ok (.bipush (-2), 2) := by decide +kernel
theorem dX11_curve_171 : decode cX11_curve 171 = .ok (.iload 7, 2) := by decide +kernel
theorem dX11_curve_173 : decode cX11_curve 173 = .ok (.invokevirtual 244, 3) := by decide +kernel
theorem dX11_curve_176 : decode cX11_curve 176 = .ok (.iinc 5 1, 3) := by decide +kernel
theorem dX11_curve_179 : decode cX11_curve 179 = .ok (.goto (-106), 3) := by decide +kernel
theorem dX11_curve_182 : decode cX11_curve 182 = .ok (.iload 4, 2) := by decide +kernel
theorem dX11_curve_184 : decode cX11_curve 184 = .ok (.iload_n 3, 1) := by decide +kernel
theorem dX11_curve_185 : decode cX11_curve 185 = .ok (.if_icmp .ge 13, 3) := by decide +kernel
theorem dX11_curve_188 : decode cX11_curve 188 = .ok (.aload_n 0, 1) := by decide +kernel
theorem dX11_curve_189 : decode cX11_curve 189 = .ok (.sipush 1000, 3) := by decide +kernel
theorem dX11_curve_192 : decode cX11_curve 192 = .ok (.invokevirtual 267, 3) := by decide +kernel
theorem dX11_curve_195 : decode cX11_curve 195 = .ok (.goto 4, 3) := by decide +kernel
theorem dX11_curve_198 : decode cX11_curve 198 = .ok (.iconst 0, 1) := by decide +kernel
theorem dX11_curve_199 : decode cX11_curve 199 = .ok (.istore 5, 2) := by decide +kernel
theorem dX11_curve_201 : decode cX11_curve 201 = .ok (.iinc 4 1, 3) := by decide +kernel
theorem dX11_curve_204 : decode cX11_curve 204 = .ok (.goto (-140), 3) := by decide +kernel
theorem dX11_curve_207 : decode cX11_curve 207 = .ok (.aload_n 0, 1) := by decide +kernel
theorem dX11_curve_208 : decode cX11_curve 208 = .ok (.sipush 1000, 3) := by decide +kernel
theorem dX11_curve_211 : decode cX11_curve 211 = .ok (.iload_n 2, 1) := by decide +kernel
theorem dX11_curve_212 : decode cX11_curve 212 = .ok (.invokevirtual 262, 3) := by decide +kernel
theorem dX11_curve_215 : decode cX11_curve 215 = .ok (.invokestatic 194, 3) := by decide +kernel
theorem dX11_curve_218 : decode cX11_curve 218 = .ok (.ireturn, 1) := by decide +kernel
theorem dX11_fresh_0 : decode cX11_fresh 0 = .ok (.aload_n 0, 1) := by decide +kernel
theorem dX11_fresh_1 : decode cX11_fresh 1 = .ok (.getfield 7, 3) := by decide +kernel
theorem dX11_fresh_4 : decode cX11_fresh 4 = .ok (.sipush 864, 3) := by decide +kernel
theorem dX11_fresh_7 : decode cX11_fresh 7 = .ok (.iaload, 1) := by decide +kernel
theorem dX11_fresh_8 : decode cX11_fresh 8 = .ok (.istore_n 1, 1) := by decide +kernel
theorem dX11_fresh_9 : decode cX11_fresh 9 = .ok (.aload_n 0, 1) := by decide +kernel
theorem dX11_fresh_10 : decode cX11_fresh 10 = .ok (.iconst 0, 1) := by decide +kernel
theorem dX11_fresh_11 : decode cX11_fresh 11 = .ok (.invokevirtual 292, 3) := by decide +kernel
theorem dX11_fresh_14 : decode cX11_fresh 14 = .ok (.aload_n 0, 1) := by decide +kernel
theorem dX11_fresh_15 : decode cX11_fresh 15 = .ok (.getfield 7, 3) := by decide +kernel
theorem dX11_fresh_18 : decode cX11_fresh 18 = .ok (.sipush 867, 3) := by decide +kernel
theorem dX11_fresh_21 : decode cX11_fresh 21 = .ok (.iconst 0, 1) := by decide +kernel
theorem dX11_fresh_22 : decode cX11_fresh 22 = .ok (.iastore, 1) := by decide +kernel
theorem dX11_fresh_23 : decode cX11_fresh 23 = .ok (.iload_n 1, 1) := by decide +kernel
theorem dX11_fresh_24 : decode cX11_fresh 24 = .ok (.ireturn, 1) := by decide +kernel
theorem dX11_ask_0 : decode cX11_ask 0 = .ok (.aload_n 0, 1) := by decide +kernel
theorem dX11_ask_1 : decode cX11_ask 1 = .ok (.iload_n 1, 1) := by decide +kernel
theorem dX11_ask_2 : decode cX11_ask 2 = .ok (.invokevirtual 201, 3) := by decide +kernel
theorem dX11_ask_5 : decode cX11_ask 5 = .ok (.ifCond .eq 22, 3) := by decide +kernel
theorem dX11_ask_8 : decode cX11_ask 8 = .ok (.iload_n 2, 1) := by decide +kernel
theorem dX11_ask_9 : decode cX11_ask 9 = .ok (.bipush (-2), 2) := by decide +kernel
theorem dX11_ask_11 : decode cX11_ask 11 = .ok (.if_icmp .eq 19, 3) := by decide +kernel
theorem dX11_ask_14 : decode cX11_ask 14 = .ok (.aload_n 0, 1) := by decide +kernel
theorem dX11_ask_15 : decode cX11_ask 15 = .ok (.iload_n 2, 1) := by decide +kernel
theorem dX11_ask_16 : decode cX11_ask 16 = .ok (.invokevirtual 201, 3) := by decide +kernel
theorem dX11_ask_19 : decode cX11_ask 19 = .ok (.ifCond .eq 8, 3) := by decide +kernel
theorem dX11_ask_22 : decode cX11_ask 22 = .ok (.iload_n 2, 1) := by decide +kernel
theorem dX11_ask_23 : decode cX11_ask 23 = .ok (.iload_n 1, 1) := by decide +kernel
theorem dX11_ask_24 : decode cX11_ask 24 = .ok (.if_icmp .ne 6, 3) := by decide +kernel
theorem dX11_ask_27 : decode cX11_ask 27 = .ok (.ldc 205, 2) := by decide +kernel
theorem dX11_ask_29 : decode cX11_ask 29 = .ok (.ireturn, 1) := by decide +kernel
theorem dX11_ask_30 : decode cX11_ask 30 = .ok (.iload_n 3, 1) := by decide +kernel
theorem dX11_ask_31 : decode cX11_ask 31 = .ok (.i2l, 1) := by decide +kernel
theorem dX11_ask_32 : decode cX11_ask 32 = .ok (.lconst 0, 1) := by decide +kernel
theorem dX11_ask_33 : decode cX11_ask 33 = .ok (.ldc2_w 295, 3) := by decide +kernel
theorem dX11_ask_36 : decode cX11_ask 36 = .ok (.invokestatic 104, 3) := by decide +kernel
theorem dX11_ask_39 : decode cX11_ask 39 = .ok (.ifCond .ne 6, 3) := by decide +kernel
theorem dX11_ask_42 : decode cX11_ask 42 = .ok (.ldc 108, 2) := by decide +kernel
theorem dX11_ask_44 : decode cX11_ask 44 = .ok (.ireturn, 1) := by decide +kernel
theorem dX11_ask_45 : decode cX11_ask 45 = .ok (.aload_n 0, 1) := by decide +kernel
theorem dX11_ask_46 : decode cX11_ask 46 = .ok (.dup, 1) := by decide +kernel
theorem dX11_ask_47 : decode cX11_ask 47 = .ok (.getfield 179, 3) := by decide +kernel
theorem dX11_ask_50 : decode cX11_ask 50 = .ok (.iconst 1, 1) := by decide +kernel
theorem dX11_ask_51 : decode cX11_ask 51 = .ok (.iload_n 1, 1) := by decide +kernel
theorem dX11_ask_52 : decode cX11_ask 52 = .ok (.ishl, 1) := by decide +kernel
theorem dX11_ask_53 : decode cX11_ask 53 = .ok (.ior, 1) := by decide +kernel
theorem dX11_ask_54 : decode cX11_ask 54 = .ok (.putfield 179, 3) := by decide +kernel
theorem dX11_ask_57 : decode cX11_ask 57 = .ok (.aload_n 0, 1) := by decide +kernel
theorem dX11_ask_58 : decode cX11_ask 58 = .ok (.getfield 78, 3) := by decide +kernel
theorem dX11_ask_61 : decode cX11_ask 61 = .ok (.iload_n 1, 1) := by decide +kernel
theorem dX11_ask_62 : decode cX11_ask 62 = .ok (.iload_n 2, 1) := by decide +kernel
theorem dX11_ask_63 : decode cX11_ask 63 = .ok (.iastore, 1) := by decide +kernel
theorem dX11_ask_64 : decode cX11_ask 64 = .ok (.aload_n 0, 1) := by decide +kernel
theorem dX11_ask_65 : decode cX11_ask 65 = .ok (.getfield 81, 3) := by decide +kernel
theorem dX11_ask_68 : decode cX11_ask 68 = .ok (.iload_n 1, 1) := by decide +kernel
theorem dX11_ask_69 : decode cX11_ask 69 = .ok (.iload_n 3, 1) := by decide +kernel
theorem dX11_ask_70 : decode cX11_ask 70 = .ok (.iastore, 1) := by decide +kernel
theorem dX11_ask_71 : decode cX11_ask 71 = .ok (.aload_n 0, 1) := by decide +kernel
theorem dX11_ask_72 : decode cX11_ask 72 = .ok (.getfield 179, 3) := by decide +kernel
theorem dX11_ask_75 : decode cX11_ask 75 = .ok (.invokestatic 194, 3) := by decide +kernel
theorem dX11_ask_78 : decode cX11_ask 78 = .ok (.ireturn, 1) := by decide +kernel
theorem dX11_forget_0 : decode cX11_forget 0 = .ok (.aload_n 0, 1) := by decide +kernel
theorem dX11_forget_1 : decode cX11_forget 1 = .ok (.getfield 179, 3) := by decide +kernel
theorem dX11_forget_4 : decode cX11_forget 4 = .ok (.invokestatic 194, 3) := by decide +kernel
theorem dX11_forget_7 : decode cX11_forget 7 = .ok (.istore_n 1, 1) := by decide +kernel
theorem dX11_forget_8 : decode cX11_forget 8 = .ok (.aload_n 0, 1) := by decide +kernel
theorem dX11_forget_9 : decode cX11_forget 9 = .ok (.iconst 0, 1) := by decide +kernel
theorem dX11_forget_10 : decode cX11_forget 10 = .ok (.putfield 179, 3) := by decide +kernel
theorem dX11_forget_13 : decode cX11_forget 13 = .ok (.iload_n 1, 1) := by decide +kernel
theorem dX11_forget_14 : decode cX11_forget 14 = .ok (.ireturn, 1) := by decide +kernel
theorem dX11_endOf_0 : decode cX11_endOf 0 = .ok (.iload_n 1, 1) := by decide +kernel
theorem dX11_endOf_1 : decode cX11_endOf 1 = .ok (.istore_n 2, 1) := by decide +kernel
theorem dX11_endOf_2 : decode cX11_endOf 2 = .ok (.iconst 0, 1) := by decide +kernel
theorem dX11_endOf_3 : decode cX11_endOf 3 = .ok (.istore_n 3, 1) := by decide +kernel
theorem dX11_endOf_4 : decode cX11_endOf 4 = .ok (.iload_n 3, 1) := by decide +kernel
theorem dX11_endOf_5 : decode cX11_endOf 5 = .ok (.bipush 24, 2) := by decide +kernel
theorem dX11_endOf_7 : decode cX11_endOf 7 = .ok (.if_icmp .gt 40, 3) := by decide +kernel
theorem dX11_endOf_10 : decode cX11_endOf 10 = .ok (.aload_n 0, 1) := by decide +kernel
theorem dX11_endOf_11 : decode cX11_endOf 11 = .ok (.getfield 179, 3) := by decide +kernel
theorem dX11_endOf_14 : decode cX11_endOf 14 = .ok (.iload_n 2, 1) := by decide +kernel
theorem dX11_endOf_15 : decode cX11_endOf 15 = .ok (.invokestatic 182, 3) := by decide +kernel
theorem dX11_endOf_18 : decode cX11_endOf 18 = .ok (.ifCond .eq 14, 3) := by decide +kernel
theorem dX11_endOf_21 : decode cX11_endOf 21 = .ok (.aload_n 0, 1) := by decide +kernel
theorem dX11_endOf_22 : decode cX11_endOf 22 = .ok (.getfield 78, 3) := by decide +kernel
theorem dX11_endOf_25 : decode cX11_endOf 25 = .ok (.iload_n 2, 1) := by decide +kernel
theorem dX11_endOf_26 : decode cX11_endOf 26 = .ok (.iaload, 1) := by decide +kernel
theorem dX11_endOf_27 : decode cX11_endOf 27 = .ok (.bipush (-2), 2) := by decide +kernel
theorem dX11_endOf_29 : decode cX11_endOf 29 = .ok (.if_icmp .ne 5, 3) := by decide +kernel
theorem dX11_endOf_32 : decode cX11_endOf 32 = .ok (.iload_n 2, 1) := by decide +kernel
theorem dX11_endOf_33 : decode cX11_endOf 33 = .ok (.ireturn, 1) := by decide +kernel
theorem dX11_endOf_34 : decode cX11_endOf 34 = .ok (.aload_n 0, 1) := by decide +kernel
theorem dX11_endOf_35 : decode cX11_endOf 35 = .ok (.getfield 78, 3) := by decide +kernel
theorem dX11_endOf_38 : decode cX11_endOf 38 = .ok (.iload_n 2, 1) := by decide +kernel
theorem dX11_endOf_39 : decode cX11_endOf 39 = .ok (.iaload, 1) := by decide +kernel
theorem dX11_endOf_40 : decode cX11_endOf 40 = .ok (.istore_n 2, 1) := by decide +kernel
theorem dX11_endOf_41 : decode cX11_endOf 41 = .ok (.iinc 3 1, 3) := by decide +kernel
theorem dX11_endOf_44 : decode cX11_endOf 44 = .ok (.goto (-40), 3) := by decide +kernel
theorem dX11_endOf_47 : decode cX11_endOf 47 = .ok (.iconst (-1), 1) := by decide +kernel
theorem dX11_endOf_48 : decode cX11_endOf 48 = .ok (.ireturn, 1) := by decide +kernel
theorem dX11_end_0 : decode cX11_end 0 = .ok (.aload_n 0, 1) := by decide +kernel
theorem dX11_end_1 : decode cX11_end 1 = .ok (.iload_n 1, 1) := by decide +kernel
theorem dX11_end_2 : decode cX11_end 2 = .ok (.invokevirtual 201, 3) := by decide +kernel
theorem dX11_end_5 : decode cX11_end 5 = .ok (.ifCond .ne 6, 3) := by decide +kernel
theorem dX11_end_8 : decode cX11_end 8 = .ok (.ldc 205, 2) := by decide +kernel
theorem dX11_end_10 : decode cX11_end 10 = .ok (.ireturn, 1) := by decide +kernel
theorem dX11_end_11 : decode cX11_end 11 = .ok (.aload_n 0, 1) := by decide +kernel
theorem dX11_end_12 : decode cX11_end 12 = .ok (.getfield 179, 3) := by decide +kernel
theorem dX11_end_15 : decode cX11_end 15 = .ok (.iload_n 1, 1) := by decide +kernel
theorem dX11_end_16 : decode cX11_end 16 = .ok (.invokestatic 182, 3) := by decide +kernel
theorem dX11_end_19 : decode cX11_end 19 = .ok (.ifCond .eq 11, 3) := by decide +kernel
theorem dX11_end_22 : decode cX11_end 22 = .ok (.aload_n 0, 1) := by decide +kernel
theorem dX11_end_23 : decode cX11_end 23 = .ok (.iload_n 1, 1) := by decide +kernel
theorem dX11_end_24 : decode cX11_end 24 = .ok (.invokevirtual 297, 3) := by decide +kernel
theorem dX11_end_27 : decode cX11_end 27 = .ok (.goto 5, 3) := by decide +kernel
theorem dX11_end_30 : decode cX11_end 30 = .ok (.ldc 190, 2) := by decide +kernel
theorem dX11_end_32 : decode cX11_end 32 = .ok (.ireturn, 1) := by decide +kernel
theorem dX11_leading_0 : decode cX11_leading 0 = .ok (.iconst (-1), 1) := by decide +kernel
theorem dX11_leading_1 : decode cX11_leading 1 = .ok (.istore_n 2, 1) := by decide +kernel
theorem dX11_leading_2 : decode cX11_leading 2 = .ok (.iconst 0, 1) := by decide +kernel
theorem dX11_leading_3 : decode cX11_leading 3 = .ok (.istore_n 3, 1) := by decide +kernel
theorem dX11_leading_4 : decode cX11_leading 4 = .ok (.iconst 0, 1) := by decide +kernel
theorem dX11_leading_5 : decode cX11_leading 5 = .ok (.istore 4, 2) := by decide +kernel
theorem dX11_leading_7 : decode cX11_leading 7 = .ok (.iload 4, 2) := by decide +kernel
theorem dX11_leading_9 : decode cX11_leading 9 = .ok (.aload_n 0, 1) := by decide +kernel
theorem dX11_leading_10 : decode cX11_leading 10 = .ok (.getfield 33, 3) := by decide +kernel
theorem dX11_leading_13 : decode cX11_leading 13 = .ok (.iconst 0, 1) := by decide +kernel
theorem dX11_leading_14 : decode cX11_leading 14 = .ok (.iaload, 1) := by decide +kernel
theorem dX11_leading_15 : decode cX11_leading 15 = .ok (.if_icmp .ge 96, 3) := by decide +kernel
theorem dX11_leading_18 : decode cX11_leading 18 = .ok (.iconst 0, 1) := by decide +kernel
theorem dX11_leading_19 : decode cX11_leading 19 = .ok (.istore 5, 2) := by decide +kernel
theorem dX11_leading_21 : decode cX11_leading 21 = .ok (.iconst 0, 1) := by decide +kernel
theorem dX11_leading_22 : decode cX11_leading 22 = .ok (.istore 6, 2) := by decide +kernel
theorem dX11_leading_24 : decode cX11_leading 24 = .ok (.iload 6, 2) := by decide +kernel
theorem dX11_leading_26 : decode cX11_leading 26 = .ok (.aload_n 0, 1) := by decide +kernel
theorem dX11_leading_27 : decode cX11_leading 27 = .ok (.getfield 33, 3) := by decide +kernel
theorem dX11_leading_30 : decode cX11_leading 30 = .ok (.iconst 0, 1) := by decide +kernel
theorem dX11_leading_31 : decode cX11_leading 31 = .ok (.iaload, 1) := by decide +kernel
theorem dX11_leading_32 : decode cX11_leading 32 = .ok (.if_icmp .ge 45, 3) := by decide +kernel
theorem dX11_leading_35 : decode cX11_leading 35 = .ok (.iload 5, 2) := by decide +kernel
theorem dX11_leading_37 : decode cX11_leading 37 = .ok (.aload_n 0, 1) := by decide +kernel
theorem dX11_leading_38 : decode cX11_leading 38 = .ok (.getfield 179, 3) := by decide +kernel
theorem dX11_leading_41 : decode cX11_leading 41 = .ok (.iload 6, 2) := by decide +kernel
theorem dX11_leading_43 : decode cX11_leading 43 = .ok (.invokestatic 182, 3) := by decide +kernel
theorem dX11_leading_46 : decode cX11_leading 46 = .ok (.ifCond .eq 18, 3) := by decide +kernel
theorem dX11_leading_49 : decode cX11_leading 49 = .ok (.aload_n 0, 1) := by decide +kernel
theorem dX11_leading_50 : decode cX11_leading 50 = .ok (.iload 6, 2) := by decide +kernel
theorem dX11_leading_52 : decode cX11_leading 52 = .ok (.invokevirtual 297, 3) := by decide +kernel
theorem dX11_leading_55 : decode cX11_leading 55 = .ok (.iload 4, 2) := by decide +kernel
theorem dX11_leading_57 : decode cX11_leading 57 = .ok (.if_icmp .ne 7, 3) := by decide +kernel
theorem dX11_leading_60 : decode cX11_leading 60 = .ok (.iconst 1, 1) := by decide +kernel
theorem dX11_leading_61 : decode cX11_leading 61 = .ok (.goto 4, 3) := by decide +kernel
theorem dX11_leading_64 : decode cX11_leading 64 = .ok (.iconst 0, 1) := by decide +kernel
theorem dX11_leading_65 : decode cX11_leading 65 = .ok (.invokestatic 186, 3) := by decide +kernel
theorem dX11_leading_68 : decode cX11_leading 68 = .ok (.iadd, 1) := by decide +kernel
theorem dX11_leading_69 : decode cX11_leading 69 = .ok (.istore 5, 2) := by decide +kernel
theorem dX11_leading_71 : decode cX11_leading 71 = .ok (.iinc 6 1, 3) := by decide +kernel
theorem dX11_leading_74 : decode cX11_leading 74 = .ok (.goto (-50), 3) := by decide +kernel
theorem dX11_leading_77 : decode cX11_leading 77 = .ok (.iload 5, 2) := by decide +kernel
theorem dX11_leading_79 : decode cX11_leading 79 = .ok (.iload_n 3, 1) := by decide +kernel
theorem dX11_leading_80 : decode cX11_leading 80 = .ok (.if_icmp .le 25, 3) := by decide +kernel
theorem dX11_leading_83 : decode cX11_leading 83 = .ok (.iload_n 1, 1) := by decide +kernel
theorem dX11_leading_84 : decode cX11_leading 84 = .ok (.ifCond .eq 15, 3) := by decide +kernel
theorem dX11_leading_87 : decode cX11_leading 87 = .ok (.aload_n 0, 1) := by decide +kernel
theorem dX11_leading_88 : decode cX11_leading 88 = .ok (.getfield 179, 3) := by decide +kernel
theorem dX11_leading_91 : decode cX11_leading 91 = .ok (.iload 4, 2) := by decide +kernel
theorem dX11_leading_93 : decode cX11_leading 93 = .ok (.invokestatic 182, 3) := by decide +kernel
theorem dX11_leading_96 : decode cX11_leading 96 = .ok (.ifCond .ne 9, 3) := by decide +kernel
theorem dX11_leading_99 : decode cX11_leading 99 = .ok (.iload 4, 2) := by decide +kernel
theorem dX11_leading_101 : decode cX11_leading 101 = .ok (.istore_n 2, 1) := by decide +kernel
theorem dX11_leading_102 : decode cX11_leading 102 = .ok (.iload 5, 2) := by decide +kernel
theorem dX11_leading_104 : decode cX11_leading 104 = .ok (.istore_n 3, 1) := by decide +kernel
theorem dX11_leading_105 : decode cX11_leading 105 = .ok (.iinc 4 1, 3) := by decide +kernel
theorem dX11_leading_108 : decode cX11_leading 108 = .ok (.goto (-101), 3) := by decide +kernel
theorem dX11_leading_111 : decode cX11_leading 111 = .ok (.iload_n 2, 1) := by decide +kernel
theorem dX11_leading_112 : decode cX11_leading 112 = .ok (.ireturn, 1) := by decide +kernel
theorem dX11_who_0 : decode cX11_who 0 = .ok (.iload_n 1, 1) := by decide +kernel
theorem dX11_who_1 : decode cX11_who 1 = .ok (.ifCond .eq 8, 3) := by decide +kernel
theorem dX11_who_4 : decode cX11_who 4 = .ok (.iload_n 1, 1) := by decide +kernel
theorem dX11_who_5 : decode cX11_who 5 = .ok (.iconst 1, 1) := by decide +kernel
theorem dX11_who_6 : decode cX11_who 6 = .ok (.if_icmp .ne 18, 3) := by decide +kernel
theorem dX11_who_9 : decode cX11_who 9 = .ok (.aload_n 0, 1) := by decide +kernel
theorem dX11_who_10 : decode cX11_who 10 = .ok (.iload_n 1, 1) := by decide +kernel
theorem dX11_who_11 : decode cX11_who 11 = .ok (.iconst 1, 1) := by decide +kernel
theorem dX11_who_12 : decode cX11_who 12 = .ok (.if_icmp .ne 7, 3) := by decide +kernel
theorem dX11_who_15 : decode cX11_who 15 = .ok (.iconst 1, 1) := by decide +kernel
theorem dX11_who_16 : decode cX11_who 16 = .ok (.goto 4, 3) := by decide +kernel
theorem dX11_who_19 : decode cX11_who 19 = .ok (.iconst 0, 1) := by decide +kernel
theorem dX11_who_20 : decode cX11_who 20 = .ok (.invokevirtual 300, 3) := by decide +kernel
theorem dX11_who_23 : decode cX11_who 23 = .ok (.ireturn, 1) := by decide +kernel
theorem dX11_who_24 : decode cX11_who 24 = .ok (.iload_n 1, 1) := by decide +kernel
theorem dX11_who_25 : decode cX11_who 25 = .ok (.iconst 2, 1) := by decide +kernel
theorem dX11_who_26 : decode cX11_who 26 = .ok (.if_icmp .eq 6, 3) := by decide +kernel
theorem dX11_who_29 : decode cX11_who 29 = .ok (.ldc 108, 2) := by decide +kernel
theorem dX11_who_31 : decode cX11_who 31 = .ok (.ireturn, 1) := by decide +kernel
theorem dX11_who_32 : decode cX11_who 32 = .ok (.iconst 0, 1) := by decide +kernel
theorem dX11_who_33 : decode cX11_who 33 = .ok (.istore_n 2, 1) := by decide +kernel
theorem dX11_who_34 : decode cX11_who 34 = .ok (.iconst 0, 1) := by decide +kernel
theorem dX11_who_35 : decode cX11_who 35 = .ok (.istore_n 3, 1) := by decide +kernel
theorem dX11_who_36 : decode cX11_who 36 = .ok (.iload_n 3, 1) := by decide +kernel
theorem dX11_who_37 : decode cX11_who 37 = .ok (.aload_n 0, 1) := by decide +kernel
theorem dX11_who_38 : decode cX11_who 38 = .ok (.getfield 33, 3) := by decide +kernel
theorem dX11_who_41 : decode cX11_who 41 = .ok (.iconst 0, 1) := by decide +kernel
theorem dX11_who_42 : decode cX11_who 42 = .ok (.iaload, 1) := by decide +kernel
theorem dX11_who_43 : decode cX11_who 43 = .ok (.if_icmp .ge 100, 3) := by decide +kernel
theorem dX11_who_46 : decode cX11_who 46 = .ok (.aload_n 0, 1) := by decide +kernel
theorem dX11_who_47 : decode cX11_who 47 = .ok (.getfield 179, 3) := by decide +kernel
theorem dX11_who_50 : decode cX11_who 50 = .ok (.iload_n 3, 1) := by decide +kernel
theorem dX11_who_51 : decode cX11_who 51 = .ok (.invokestatic 182, 3) := by decide +kernel
theorem dX11_who_54 : decode cX11_who 54 = .ok (.ifCond .eq 83, 3) := by decide +kernel
theorem dX11_who_57 : decode cX11_who 57 = .ok (.aload_n 0, 1) := by decide +kernel
theorem dX11_who_58 : decode cX11_who 58 = .ok (.getfield 78, 3) := by decide +kernel
theorem dX11_who_61 : decode cX11_who 61 = .ok (.iload_n 3, 1) := by decide +kernel
theorem dX11_who_62 : decode cX11_who 62 = .ok (.iaload, 1) := by decide +kernel
theorem dX11_who_63 : decode cX11_who 63 = .ok (.bipush (-2), 2) := by decide +kernel
theorem dX11_who_65 : decode cX11_who 65 = .ok (.if_icmp .eq 43, 3) := by decide +kernel
theorem dX11_who_68 : decode cX11_who 68 = .ok (.aload_n 0, 1) := by decide +kernel
theorem dX11_who_69 : decode cX11_who 69 = .ok (.getfield 179, 3) := by decide +kernel
theorem dX11_who_72 : decode cX11_who 72 = .ok (.aload_n 0, 1) := by decide +kernel
theorem dX11_who_73 : decode cX11_who 73 = .ok (.getfield 78, 3) := by decide +kernel
theorem dX11_who_76 : decode cX11_who 76 = .ok (.iload_n 3, 1) := by decide +kernel
theorem dX11_who_77 : decode cX11_who 77 = .ok (.iaload, 1) := by decide +kernel
theorem dX11_who_78 : decode cX11_who 78 = .ok (.invokestatic 182, 3) := by decide +kernel
theorem dX11_who_81 : decode cX11_who 81 = .ok (.ifCond .eq 27, 3) := by decide +kernel
theorem dX11_who_84 : decode cX11_who 84 = .ok (.aload_n 0, 1) := by decide +kernel
theorem dX11_who_85 : decode cX11_who 85 = .ok (.getfield 81, 3) := by decide +kernel
theorem dX11_who_88 : decode cX11_who 88 = .ok (.aload_n 0, 1) := by decide +kernel
theorem dX11_who_89 : decode cX11_who 89 = .ok (.getfield 78, 3) := by decide +kernel
theorem dX11_who_92 : decode cX11_who 92 = .ok (.iload_n 3, 1) := by decide +kernel
theorem dX11_who_93 : decode cX11_who 93 = .ok (.iaload, 1) := by decide +kernel
theorem dX11_who_94 : decode cX11_who 94 = .ok (.iaload, 1) := by decide +kernel
theorem dX11_who_95 : decode cX11_who 95 = .ok (.aload_n 0, 1) := by decide +kernel
theorem dX11_who_96 : decode cX11_who 96 = .ok (.getfield 81, 3) := by decide +kernel
theorem dX11_who_99 : decode cX11_who 99 = .ok (.iload_n 3, 1) := by decide +kernel
theorem dX11_who_100 : decode cX11_who 100 = .ok (.iaload, 1) := by decide +kernel
theorem dX11_who_101 : decode cX11_who 101 = .ok (.if_icmp .lt 7, 3) := by decide +kernel
theorem dX11_who_104 : decode cX11_who 104 = .ok (.iconst 1, 1) := by decide +kernel
theorem dX11_who_105 : decode cX11_who 105 = .ok (.goto 4, 3) := by decide +kernel
theorem dX11_who_108 : decode cX11_who 108 = .ok (.iconst 0, 1) := by decide +kernel
theorem dX11_who_109 : decode cX11_who 109 = .ok (.istore 4, 2) := by decide +kernel
theorem dX11_who_111 : decode cX11_who 111 = .ok (.iload_n 2, 1) := by decide +kernel
theorem dX11_who_112 : decode cX11_who 112 = .ok (.iload 4, 2) := by decide +kernel
theorem dX11_who_114 : decode cX11_who 114 = .ok (.ifCond .ne 11, 3) := by decide +kernel
theorem dX11_who_117 : decode cX11_who 117 = .ok (.aload_n 0, 1) := by decide +kernel
theorem dX11_who_118 : decode cX11_who 118 = .ok (.iload_n 3, 1) := by decide +kernel
theorem dX11_who_119 : decode cX11_who 119 = .ok (.invokevirtual 297, 3) := by decide +kernel
theorem dX11_who_122 : decode cX11_who 122 = .ok (.ifCond .ge 7, 3) := by decide +kernel
theorem dX11_who_125 : decode cX11_who 125 = .ok (.iconst 1, 1) := by decide +kernel
theorem dX11_who_126 : decode cX11_who 126 = .ok (.goto 4, 3) := by decide +kernel
theorem dX11_who_129 : decode cX11_who 129 = .ok (.iconst 0, 1) := by decide +kernel
theorem dX11_who_130 : decode cX11_who 130 = .ok (.invokestatic 186, 3) := by decide +kernel
theorem dX11_who_133 : decode cX11_who 133 = .ok (.iload_n 3, 1) := by decide +kernel
theorem dX11_who_134 : decode cX11_who 134 = .ok (.ishl, 1) := by decide +kernel
theorem dX11_who_135 : decode cX11_who 135 = .ok (.ior, 1) := by decide +kernel
theorem dX11_who_136 : decode cX11_who 136 = .ok (.istore_n 2, 1) := by decide +kernel
theorem dX11_who_137 : decode cX11_who 137 = .ok (.iinc 3 1, 3) := by decide +kernel
theorem dX11_who_140 : decode cX11_who 140 = .ok (.goto (-104), 3) := by decide +kernel
theorem dX11_who_143 : decode cX11_who 143 = .ok (.iload_n 2, 1) := by decide +kernel
theorem dX11_who_144 : decode cX11_who 144 = .ok (.ireturn, 1) := by decide +kernel
theorem dX11_tryNotice_0 : decode cX11_tryNotice 0 = .ok (.aload_n 0, 1) := by decide +kernel
theorem dX11_tryNotice_1 : decode cX11_tryNotice 1 = .ok (.iconst 0, 1) := by decide +kernel
theorem dX11_tryNotice_2 : decode cX11_tryNotice 2 = .ok (.sipush 1000, 3) := by decide +kernel
theorem dX11_tryNotice_5 : decode cX11_tryNotice 5 = .ok (.invokevirtual 289, 3) := by decide +kernel
theorem dX11_tryNotice_8 : decode cX11_tryNotice 8 = .ok (.iconst 0, 1) := by decide +kernel
theorem dX11_tryNotice_9 : decode cX11_tryNotice 9 = .ok (.istore 6, 2) := by decide +kernel
theorem dX11_tryNotice_11 : decode cX11_tryNotice 11 = .ok (.iconst 0, 1) := by decide +kernel
theorem dX11_tryNotice_12 : decode cX11_tryNotice 12 = .ok (.istore 7, 2) := by decide +kernel
theorem dX11_tryNotice_14 : decode cX11_tryNotice 14 = .ok (.iload 7, 2) := by decide +kernel
theorem dX11_tryNotice_16 : decode cX11_tryNotice 16 = .ok (.iload_n 3, 1) := by decide +kernel
theorem dX11_tryNotice_17 : decode cX11_tryNotice 17 = .ok (.if_icmp .ge 53, 3) := by decide +kernel
theorem dX11_tryNotice_20 : decode cX11_tryNotice 20 = .ok (.iload 6, 2) := by decide +kernel
theorem dX11_tryNotice_22 : decode cX11_tryNotice 22 = .ok (.iload 7, 2) := by decide +kernel
theorem dX11_tryNotice_24 : decode cX11_tryNotice 24 = .ok (.iload 4, 2) := by decide +kernel
theorem dX11_tryNotice_26 : decode cX11_tryNotice 26 = .ok (.if_icmp .ne 22, 3) := by decide +kernel
theorem dX11_tryNotice_29 : decode cX11_tryNotice 29 = .ok (.iload 5, 2) := by decide +kernel
theorem dX11_tryNotice_31 : decode cX11_tryNotice 31 = .ok (.ifCond .lt 17, 3) := by decide +kernel
theorem dX11_tryNotice_34 : decode cX11_tryNotice 34 = .ok (.aload_n 0, 1) := by decide +kernel
theorem dX11_tryNotice_35 : decode cX11_tryNotice 35 = .ok (.sipush 1000, 3) := by decide +kernel
theorem dX11_tryNotice_38 : decode cX11_tryNotice 38 = .ok (.iload 5, 2) := by decide +kernel
theorem dX11_tryNotice_40 : decode cX11_tryNotice 40 = .ok (.iload_n 1, 1) := by decide +kernel
theorem dX11_tryNotice_41 : decode cX11_tryNotice 41 = .ok (.iload_n 2, 1) := by decide +kernel
theorem dX11_tryNotice_42 : decode cX11_tryNotice 42 = .ok (.invokevirtual 272, 3) := by decide +kernel
theorem dX11_tryNotice_45 : decode cX11_tryNotice 45 = .ok (.goto 4, 3) := by decide +kernel
theorem dX11_tryNotice_48 : decode cX11_tryNotice 48 = .ok (.iconst 0, 1) := by decide +kernel
theorem dX11_tryNotice_49 : decode cX11_tryNotice 49 = .ok (.iadd, 1) := by decide +kernel
theorem dX11_tryNotice_50 : decode cX11_tryNotice 50 = .ok (.istore 6, 2) := by decide +kernel
theorem dX11_tryNotice_52 : decode cX11_tryNotice 52 = .ok (.iload 6, 2) := by decide +kernel
theorem dX11_tryNotice_54 : decode cX11_tryNotice 54 = .ok (.aload_n 0, 1) := by decide +kernel
theorem dX11_tryNotice_55 : decode cX11_tryNotice 55 = .ok (.sipush 1000, 3) := by decide +kernel
theorem dX11_tryNotice_58 : decode cX11_tryNotice 58 = .ok (.invokevirtual 267, 3) := by decide +kernel
theorem dX11_tryNotice_61 : decode cX11_tryNotice 61 = .ok (.iadd, 1) := by decide +kernel
theorem dX11_tryNotice_62 : decode cX11_tryNotice 62 = .ok (.istore 6, 2) := by decide +kernel
theorem dX11_tryNotice_64 : decode cX11_tryNotice 64 = .ok (.iinc 7 1, 3) := by decide +kernel
theorem dX11_tryNotice_67 : decode cX11_tryNotice 67 = .ok (.goto (-53), 3) := by decide +kernel
theorem dX11_tryNotice_70 : decode cX11_tryNotice 70 = .ok (.aload_n 0, 1) := by decide +kernel
theorem dX11_tryNotice_71 : decode cX11_tryNotice 71 = .ok (.sipush 1000, 3) := by decide +kernel
theorem dX11_tryNotice_74 : decode cX11_tryNotice 74 = .ok (.iload_n 1, 1) := by decide +kernel
theorem dX11_tryNotice_75 : decode cX11_tryNotice 75 = .ok (.invokevirtual 262, 3) := by decide +kernel
theorem dX11_tryNotice_78 : decode cX11_tryNotice 78 = .ok (.invokestatic 194, 3) := by decide +kernel
theorem dX11_tryNotice_81 : decode cX11_tryNotice 81 = .ok (.ireturn, 1) := by decide +kernel
theorem dX11_best_0 : decode cX11_best 0 = .ok (.aload_n 0, 1) := by decide +kernel
theorem dX11_best_1 : decode cX11_best 1 = .ok (.iload_n 1, 1) := by decide +kernel
theorem dX11_best_2 : decode cX11_best 2 = .ok (.invokevirtual 215, 3) := by decide +kernel
theorem dX11_best_5 : decode cX11_best 5 = .ok (.ifCond .ne 6, 3) := by decide +kernel
theorem dX11_best_8 : decode cX11_best 8 = .ok (.ldc 205, 2) := by decide +kernel
theorem dX11_best_10 : decode cX11_best 10 = .ok (.ireturn, 1) := by decide +kernel
theorem dX11_best_11 : decode cX11_best 11 = .ok (.iload_n 2, 1) := by decide +kernel
theorem dX11_best_12 : decode cX11_best 12 = .ok (.i2l, 1) := by decide +kernel
theorem dX11_best_13 : decode cX11_best 13 = .ok (.lconst 0, 1) := by decide +kernel
theorem dX11_best_14 : decode cX11_best 14 = .ok (.ldc2_w 226, 3) := by decide +kernel
theorem dX11_best_17 : decode cX11_best 17 = .ok (.invokestatic 104, 3) := by decide +kernel
theorem dX11_best_20 : decode cX11_best 20 = .ok (.ifCond .eq 28, 3) := by decide +kernel
theorem dX11_best_23 : decode cX11_best 23 = .ok (.iload_n 3, 1) := by decide +kernel
theorem dX11_best_24 : decode cX11_best 24 = .ok (.i2l, 1) := by decide +kernel
theorem dX11_best_25 : decode cX11_best 25 = .ok (.lconst 1, 1) := by decide +kernel
theorem dX11_best_26 : decode cX11_best 26 = .ok (.ldc2_w 226, 3) := by decide +kernel
theorem dX11_best_29 : decode cX11_best 29 = .ok (.invokestatic 104, 3) := by decide +kernel
theorem dX11_best_32 : decode cX11_best 32 = .ok (.ifCond .eq 16, 3) := by decide +kernel
theorem dX11_best_35 : decode cX11_best 35 = .ok (.iload 4, 2) := by decide +kernel
theorem dX11_best_37 : decode cX11_best 37 = .ok (.i2l, 1) := by decide +kernel
theorem dX11_best_38 : decode cX11_best 38 = .ok (.lconst 0, 1) := by decide +kernel
theorem dX11_best_39 : decode cX11_best 39 = .ok (.ldc2_w 303, 3) := by decide +kernel
theorem dX11_best_42 : decode cX11_best 42 = .ok (.invokestatic 104, 3) := by decide +kernel
theorem dX11_best_45 : decode cX11_best 45 = .ok (.ifCond .ne 6, 3) := by decide +kernel
theorem dX11_best_48 : decode cX11_best 48 = .ok (.ldc 108, 2) := by decide +kernel
theorem dX11_best_50 : decode cX11_best 50 = .ok (.ireturn, 1) := by decide +kernel
theorem dX11_best_51 : decode cX11_best 51 = .ok (.aload_n 0, 1) := by decide +kernel
theorem dX11_best_52 : decode cX11_best 52 = .ok (.iload_n 1, 1) := by decide +kernel
theorem dX11_best_53 : decode cX11_best 53 = .ok (.iload_n 2, 1) := by decide +kernel
theorem dX11_best_54 : decode cX11_best 54 = .ok (.iload_n 3, 1) := by decide +kernel
theorem dX11_best_55 : decode cX11_best 55 = .ok (.iconst 0, 1) := by decide +kernel
theorem dX11_best_56 : decode cX11_best 56 = .ok (.iconst (-1), 1) := by decide +kernel
theorem dX11_best_57 : decode cX11_best 57 = .ok (.invokevirtual 305, 3) := by decide +kernel
theorem dX11_best_60 : decode cX11_best 60 = .ok (.istore 5, 2) := by decide +kernel
theorem dX11_best_62 : decode cX11_best 62 = .ok (.iconst (-1), 1) := by decide +kernel
theorem dX11_best_63 : decode cX11_best 63 = .ok (.istore 6, 2) := by decide +kernel
theorem dX11_best_65 : decode cX11_best 65 = .ok (.iconst 0, 1) := by decide +kernel
theorem dX11_best_66 : decode cX11_best 66 = .ok (.istore 7, 2) := by decide +kernel
theorem dX11_best_68 : decode cX11_best 68 = .ok (.iload 7, 2) := by decide +kernel
theorem dX11_best_70 : decode cX11_best 70 = .ok (.bipush 10, 2) := by decide +kernel
theorem dX11_best_72 : decode cX11_best 72 = .ok (.if_icmp .ge 80, 3) := by decide +kernel
theorem dX11_best_75 : decode cX11_best 75 = .ok (.iload 7, 2) := by decide +kernel
theorem dX11_best_77 : decode cX11_best 77 = .ok (.iload_n 3, 1) := by decide +kernel
theorem dX11_best_78 : decode cX11_best 78 = .ok (.if_icmp .ge 74, 3) := by decide +kernel
theorem dX11_best_81 : decode cX11_best 81 = .ok (.iconst 0, 1) := by decide +kernel
theorem dX11_best_82 : decode cX11_best 82 = .ok (.istore 8, 2) := by decide +kernel
theorem dX11_best_84 : decode cX11_best 84 = .ok (.iload 8, 2) := by decide +kernel
theorem dX11_best_86 : decode cX11_best 86 = .ok (.iconst 4, 1) := by decide +kernel
theorem dX11_best_87 : decode cX11_best 87 = .ok (.if_icmp .ge 59, 3) := by decide +kernel
theorem dX11_best_90 : decode cX11_best 90 = .ok (.aload_n 0, 1) := by decide +kernel
theorem dX11_best_91 : decode cX11_best 91 = .ok (.iload_n 1, 1) := by decide +kernel
theorem dX11_best_92 : decode cX11_best 92 = .ok (.iload_n 2, 1) := by decide +kernel
theorem dX11_best_93 : decode cX11_best 93 = .ok (.iload_n 3, 1) := by decide +kernel
theorem dX11_best_94 : decode cX11_best 94 = .ok (.iload 7, 2) := by decide +kernel
theorem dX11_best_96 : decode cX11_best 96 = .ok (.iload 8, 2) := by decide +kernel
theorem dX11_best_98 : decode cX11_best 98 = .ok (.invokevirtual 305, 3) := by decide +kernel
theorem dX11_best_101 : decode cX11_best 101 = .ok (.istore 9, 2) := by decide +kernel
theorem dX11_best_103 : decode cX11_best 103 = .ok (.iload 9, 2) := by decide +kernel
theorem dX11_best_105 : decode cX11_best 105 = .ok (.iload 5, 2) := by decide +kernel
theorem dX11_best_107 : decode cX11_best 107 = .ok (.if_icmp .le 13, 3) := by decide +kernel
theorem dX11_best_110 : decode cX11_best 110 = .ok (.iconst 4, 1) := by decide +kernel
theorem dX11_best_111 : decode cX11_best 111 = .ok (.iload 7, 2) := by decide +kernel
theorem dX11_best_113 : decode cX11_best 113 = .ok (.imul, 1) := by decide +kernel
theorem dX11_best_114 : decode cX11_best 114 = .ok (.iload 8, 2) := by decide +kernel
theorem dX11_best_116 : decode cX11_best 116 = .ok (.iadd, 1) := by decide +kernel
theorem dX11_best_117 : decode cX11_best 117 = .ok (.goto 5, 3) := by decide +kernel
theorem dX11_best_120 : decode cX11_best 120 = .ok (.iload 6, 2) := by decide +kernel
theorem dX11_best_122 : decode cX11_best 122 = .ok (.istore 6, 2) := by decide +kernel
theorem dX11_best_124 : decode cX11_best 124 = .ok (.iload 9, 2) := by decide +kernel
theorem dX11_best_126 : decode cX11_best 126 = .ok (.iload 5, 2) := by decide +kernel
theorem dX11_best_128 : decode cX11_best 128 = .ok (.if_icmp .le 8, 3) := by decide +kernel
theorem dX11_best_131 : decode cX11_best 131 = .ok (.iload 9, 2) := by decide +kernel
theorem dX11_best_133 : decode cX11_best 133 = .ok (.goto 5, 3) := by decide +kernel
theorem dX11_best_136 : decode cX11_best 136 = .ok (.iload 5, 2) := by decide +kernel
theorem dX11_best_138 : decode cX11_best 138 = .ok (.istore 5, 2) := by decide +kernel
theorem dX11_best_140 : decode cX11_best 140 = .ok (.iinc 8 1, 3) := by decide +kernel
theorem dX11_best_143 : decode cX11_best 143 = .ok (.goto (-59), 3) := by decide +kernel
theorem dX11_best_146 : decode cX11_best 146 = .ok (.iinc 7 1, 3) := by decide +kernel
theorem dX11_best_149 : decode cX11_best 149 = .ok (.goto (-81), 3) := by decide +kernel
theorem dX11_best_152 : decode cX11_best 152 = .ok (.iload 6, 2) := by decide +kernel
theorem dX11_best_154 : decode cX11_best 154 = .ok (.ifCond .ge 7, 3) := by decide +kernel
theorem dX11_best_157 : decode cX11_best 157 = .ok (.iconst (-1), 1) := by decide +kernel
theorem dX11_best_158 : decode cX11_best 158 = .ok (.goto 30, 3) := by decide +kernel
theorem dX11_best_161 : decode cX11_best 161 = .ok (.iload 4, 2) := by decide +kernel
theorem dX11_best_163 : decode cX11_best 163 = .ok (.ifCond .ne 10, 3) := by decide +kernel
theorem dX11_best_166 : decode cX11_best 166 = .ok (.iload 6, 2) := by decide +kernel
theorem dX11_best_168 : decode cX11_best 168 = .ok (.iconst 4, 1) := by decide +kernel
theorem dX11_best_169 : decode cX11_best 169 = .ok (.irem, 1) := by decide +kernel
theorem dX11_best_170 : decode cX11_best 170 = .ok (.goto 18, 3) := by decide +kernel
theorem dX11_best_173 : decode cX11_best 173 = .ok (.iload 4, 2) := by decide +kernel
theorem dX11_best_175 : decode cX11_best 175 = .ok (.iconst 1, 1) := by decide +kernel
theorem dX11_best_176 : decode cX11_best 176 = .ok (.if_icmp .ne 10, 3) := by decide +kernel
theorem dX11_best_179 : decode cX11_best 179 = .ok (.iload 6, 2) := by decide +kernel
theorem dX11_best_181 : decode cX11_best 181 = .ok (.iconst 4, 1) := by decide +kernel
theorem dX11_best_182 : decode cX11_best 182 = .ok (.idiv, 1) := by decide +kernel
theorem dX11_best_183 : decode cX11_best 183 = .ok (.goto 5, 3) := by decide +kernel
theorem dX11_best_186 : decode cX11_best 186 = .ok (.iload 5, 2) := by decide +kernel
theorem dX11_best_188 : decode cX11_best 188 = .ok (.ireturn, 1) := by decide +kernel
theorem dX11_net_0 : decode cX11_net 0 = .ok (.aload_n 0, 1) := by decide +kernel
theorem dX11_net_1 : decode cX11_net 1 = .ok (.getfield 33, 3) := by decide +kernel
theorem dX11_net_4 : decode cX11_net 4 = .ok (.iconst 0, 1) := by decide +kernel
theorem dX11_net_5 : decode cX11_net 5 = .ok (.iaload, 1) := by decide +kernel
theorem dX11_net_6 : decode cX11_net 6 = .ok (.bipush 10, 2) := by decide +kernel
theorem dX11_net_8 : decode cX11_net 8 = .ok (.if_icmp .ge 12, 3) := by decide +kernel
theorem dX11_net_11 : decode cX11_net 11 = .ok (.aload_n 0, 1) := by decide +kernel
theorem dX11_net_12 : decode cX11_net 12 = .ok (.getfield 33, 3) := by decide +kernel
theorem dX11_net_15 : decode cX11_net 15 = .ok (.iconst 0, 1) := by decide +kernel
theorem dX11_net_16 : decode cX11_net 16 = .ok (.iaload, 1) := by decide +kernel
theorem dX11_net_17 : decode cX11_net 17 = .ok (.goto 5, 3) := by decide +kernel
theorem dX11_net_20 : decode cX11_net 20 = .ok (.bipush 10, 2) := by decide +kernel
theorem dX11_net_22 : decode cX11_net 22 = .ok (.ireturn, 1) := by decide +kernel
theorem dX11_stays_0 : decode cX11_stays 0 = .ok (.sipush 1000, 3) := by decide +kernel
theorem dX11_stays_3 : decode cX11_stays 3 = .ok (.istore_n 3, 1) := by decide +kernel
theorem dX11_stays_4 : decode cX11_stays 4 = .ok (.iconst 0, 1) := by decide +kernel
theorem dX11_stays_5 : decode cX11_stays 5 = .ok (.istore 4, 2) := by decide +kernel
theorem dX11_stays_7 : decode cX11_stays 7 = .ok (.iload 4, 2) := by decide +kernel
theorem dX11_stays_9 : decode cX11_stays 9 = .ok (.aload_n 0, 1) := by decide +kernel
theorem dX11_stays_10 : decode cX11_stays 10 = .ok (.invokevirtual 309, 3) := by decide +kernel
theorem dX11_stays_13 : decode cX11_stays 13 = .ok (.if_icmp .ge 59, 3) := by decide +kernel
theorem dX11_stays_16 : decode cX11_stays 16 = .ok (.aload_n 0, 1) := by decide +kernel
theorem dX11_stays_17 : decode cX11_stays 17 = .ok (.iload_n 1, 1) := by decide +kernel
theorem dX11_stays_18 : decode cX11_stays 18 = .ok (.iload 4, 2) := by decide +kernel
theorem dX11_stays_20 : decode cX11_stays 20 = .ok (.invokevirtual 212, 3) := by decide +kernel
theorem dX11_stays_23 : decode cX11_stays 23 = .ok (.istore 5, 2) := by decide +kernel
theorem dX11_stays_25 : decode cX11_stays 25 = .ok (.iload_n 2, 1) := by decide +kernel
theorem dX11_stays_26 : decode cX11_stays 26 = .ok (.iload 4, 2) := by decide +kernel
theorem dX11_stays_28 : decode cX11_stays 28 = .ok (.invokestatic 182, 3) := by decide +kernel
theorem dX11_stays_31 : decode cX11_stays 31 = .ok (.ifCond .eq 33, 3) := by decide +kernel
theorem dX11_stays_34 : decode cX11_stays 34 = .ok (.iload 5, 2) := by decide +kernel
theorem dX11_stays_36 : decode cX11_stays 36 = .ok (.ifCond .le 28, 3) := by decide +kernel
theorem dX11_stays_39 : decode cX11_stays 39 = .ok (.iload_n 3, 1) := by decide +kernel
theorem dX11_stays_40 : decode cX11_stays 40 = .ok (.sipush 1000, 3) := by decide +kernel
theorem dX11_stays_43 : decode cX11_stays 43 = .ok (.iload 5, 2) := by decide +kernel
theorem dX11_stays_45 : decode cX11_stays 45 = .ok (.aload_n 0, 1) := by decide +kernel
theorem dX11_stays_46 : decode cX11_stays 46 = .ok (.getfield 24, 3) := by decide +kernel
theorem dX11_stays_49 : decode cX11_stays 49 = .ok (.iload_n 1, 1) := by decide +kernel
theorem dX11_stays_50 : decode cX11_stays 50 = .ok (.iaload, 1) := by decide +kernel
theorem dX11_stays_51 : decode cX11_stays 51 = .ok (.imul, 1) := by decide +kernel
theorem dX11_stays_52 : decode cX11_stays 52 = .ok (.bipush 10, 2) := by decide +kernel
theorem dX11_stays_54 : decode cX11_stays 54 = .ok (.idiv, 1) := by decide +kernel
theorem dX11_stays_55 : decode cX11_stays 55 = .ok (.isub, 1) := by decide +kernel
theorem dX11_stays_56 : decode cX11_stays 56 = .ok (.imul, 1) := by decide +kernel
theorem dX11_stays_57 : decode cX11_stays 57 = .ok (.sipush 1000, 3) := by decide +kernel
theorem dX11_stays_60 : decode cX11_stays 60 = .ok (.idiv, 1) := by decide +kernel
theorem dX11_stays_61 : decode cX11_stays 61 = .ok (.goto 4, 3) := by decide +kernel
theorem dX11_stays_64 : decode cX11_stays 64 = .ok (.iload_n 3, 1) := by decide +kernel
theorem dX11_stays_65 : decode cX11_stays 65 = .ok (.istore_n 3, 1) := by decide +kernel
theorem dX11_stays_66 : decode cX11_stays 66 = .ok (.iinc 4 1, 3) := by decide +kernel
theorem dX11_stays_69 : decode cX11_stays 69 = .ok (.goto (-62), 3) := by decide +kernel
theorem dX11_stays_72 : decode cX11_stays 72 = .ok (.iload_n 3, 1) := by decide +kernel
theorem dX11_stays_73 : decode cX11_stays 73 = .ok (.ireturn, 1) := by decide +kernel
theorem dX11_spread_0 : decode cX11_spread 0 = .ok (.iconst 1, 1) := by decide +kernel
theorem dX11_spread_1 : decode cX11_spread 1 = .ok (.aload_n 0, 1) := by decide +kernel
theorem dX11_spread_2 : decode cX11_spread 2 = .ok (.invokevirtual 309, 3) := by decide +kernel
theorem dX11_spread_5 : decode cX11_spread 5 = .ok (.ishl, 1) := by decide +kernel
theorem dX11_spread_6 : decode cX11_spread 6 = .ok (.iconst 1, 1) := by decide +kernel
theorem dX11_spread_7 : decode cX11_spread 7 = .ok (.isub, 1) := by decide +kernel
theorem dX11_spread_8 : decode cX11_spread 8 = .ok (.istore_n 2, 1) := by decide +kernel
theorem dX11_spread_9 : decode cX11_spread 9 = .ok (.iconst 0, 1) := by decide +kernel
theorem dX11_spread_10 : decode cX11_spread 10 = .ok (.istore_n 3, 1) := by decide +kernel
theorem dX11_spread_11 : decode cX11_spread 11 = .ok (.iload_n 3, 1) := by decide +kernel
theorem dX11_spread_12 : decode cX11_spread 12 = .ok (.iload_n 2, 1) := by decide +kernel
theorem dX11_spread_13 : decode cX11_spread 13 = .ok (.if_icmp .gt 30, 3) := by decide +kernel
theorem dX11_spread_16 : decode cX11_spread 16 = .ok (.aload_n 0, 1) := by decide +kernel
theorem dX11_spread_17 : decode cX11_spread 17 = .ok (.getfield 90, 3) := by decide +kernel
theorem dX11_spread_20 : decode cX11_spread 20 = .ok (.iload_n 3, 1) := by decide +kernel
theorem dX11_spread_21 : decode cX11_spread 21 = .ok (.iload_n 3, 1) := by decide +kernel
theorem dX11_spread_22 : decode cX11_spread 22 = .ok (.iload_n 1, 1) := by decide +kernel
theorem dX11_spread_23 : decode cX11_spread 23 = .ok (.if_icmp .ne 12, 3) := by decide +kernel
theorem dX11_spread_26 : decode cX11_spread 26 = .ok (.aload_n 0, 1) := by decide +kernel
theorem dX11_spread_27 : decode cX11_spread 27 = .ok (.getfield 84, 3) := by decide +kernel
theorem dX11_spread_30 : decode cX11_spread 30 = .ok (.iload_n 1, 1) := by decide +kernel
theorem dX11_spread_31 : decode cX11_spread 31 = .ok (.iaload, 1) := by decide +kernel
theorem dX11_spread_32 : decode cX11_spread 32 = .ok (.goto 4, 3) := by decide +kernel
theorem dX11_spread_35 : decode cX11_spread 35 = .ok (.iconst 0, 1) := by decide +kernel
theorem dX11_spread_36 : decode cX11_spread 36 = .ok (.iastore, 1) := by decide +kernel
theorem dX11_spread_37 : decode cX11_spread 37 = .ok (.iinc 3 1, 3) := by decide +kernel
theorem dX11_spread_40 : decode cX11_spread 40 = .ok (.goto (-29), 3) := by decide +kernel
theorem dX11_spread_43 : decode cX11_spread 43 = .ok (.iconst 0, 1) := by decide +kernel
theorem dX11_spread_44 : decode cX11_spread 44 = .ok (.istore_n 3, 1) := by decide +kernel
theorem dX11_spread_45 : decode cX11_spread 45 = .ok (.iload_n 3, 1) := by decide +kernel
theorem dX11_spread_46 : decode cX11_spread 46 = .ok (.aload_n 0, 1) := by decide +kernel
theorem dX11_spread_47 : decode cX11_spread 47 = .ok (.invokevirtual 309, 3) := by decide +kernel
theorem dX11_spread_50 : decode cX11_spread 50 = .ok (.if_icmp .ge 110, 3) := by decide +kernel
theorem dX11_spread_53 : decode cX11_spread 53 = .ok (.iload_n 1, 1) := by decide +kernel
theorem dX11_spread_54 : decode cX11_spread 54 = .ok (.iload_n 3, 1) := by decide +kernel
theorem dX11_spread_55 : decode cX11_spread 55 = .ok (.invokestatic 182, 3) := by decide +kernel
theorem dX11_spread_58 : decode cX11_spread 58 = .ok (.ifCond .ne 96, 3) := by decide +kernel
theorem dX11_spread_61 : decode cX11_spread 61 = .ok (.aload_n 0, 1) := by decide +kernel
theorem dX11_spread_62 : decode cX11_spread 62 = .ok (.iload_n 3, 1) := by decide +kernel
theorem dX11_spread_63 : decode cX11_spread 63 = .ok (.iload_n 1, 1) := by decide +kernel
theorem dX11_spread_64 : decode cX11_spread 64 = .ok (.invokevirtual 312, 3) := by decide +kernel
theorem dX11_spread_67 : decode cX11_spread 67 = .ok (.istore 4, 2) := by decide +kernel
theorem dX11_spread_69 : decode cX11_spread 69 = .ok (.iload_n 1, 1) := by decide +kernel
theorem dX11_spread_70 : decode cX11_spread 70 = .ok (.istore 5, 2) := by decide +kernel
theorem dX11_spread_72 : decode cX11_spread 72 = .ok (.iload 5, 2) := by decide +kernel
theorem dX11_spread_74 : decode cX11_spread 74 = .ok (.iload_n 2, 1) := by decide +kernel
theorem dX11_spread_75 : decode cX11_spread 75 = .ok (.if_icmp .gt 79, 3) := by decide +kernel
theorem dX11_spread_78 : decode cX11_spread 78 = .ok (.aload_n 0, 1) := by decide +kernel
theorem dX11_spread_79 : decode cX11_spread 79 = .ok (.getfield 90, 3) := by decide +kernel
theorem dX11_spread_82 : decode cX11_spread 82 = .ok (.iload 5, 2) := by decide +kernel
theorem dX11_spread_84 : decode cX11_spread 84 = .ok (.iaload, 1) := by decide +kernel
theorem dX11_spread_85 : decode cX11_spread 85 = .ok (.ifCond .le 63, 3) := by decide +kernel
theorem dX11_spread_88 : decode cX11_spread 88 = .ok (.iload 5, 2) := by decide +kernel
theorem dX11_spread_90 : decode cX11_spread 90 = .ok (.iload_n 3, 1) := by decide +kernel
theorem dX11_spread_91 : decode cX11_spread 91 = .ok (.invokestatic 182, 3) := by decide +kernel
theorem dX11_spread_94 : decode cX11_spread 94 = .ok (.ifCond .ne 54, 3) := by decide +kernel
theorem dX11_spread_97 : decode cX11_spread 97 = .ok (.aload_n 0, 1) := by decide +kernel
theorem dX11_spread_98 : decode cX11_spread 98 = .ok (.getfield 90, 3) := by decide +kernel
theorem dX11_spread_101 : decode cX11_spread 101 = .ok (.iload 5, 2) := by decide +kernel
theorem dX11_spread_103 : decode cX11_spread 103 = .ok (.iaload, 1) := by decide +kernel
theorem dX11_spread_104 : decode cX11_spread 104 = .ok (.i2l, 1) := by decide +kernel
theorem dX11_spread_105 : decode cX11_spread 105 = .ok (.sipush 1000, 3) := by decide +kernel
theorem dX11_spread_108 : decode cX11_spread 108 = .ok (.iload 4, 2) := by decide +kernel
theorem dX11_spread_110 : decode cX11_spread 110 = .ok (.isub, 1) := by decide +kernel
theorem dX11_spread_111 : decode cX11_spread 111 = .ok (.i2l, 1) := by decide +kernel
theorem dX11_spread_112 : decode cX11_spread 112 = .ok (.lmul, 1) := by decide +kernel
theorem dX11_spread_113 : decode cX11_spread 113 = .ok (.ldc2_w 315, 3) := by decide +kernel
theorem dX11_spread_116 : decode cX11_spread 116 = .ok (.ldiv, 1) := by decide +kernel
theorem dX11_spread_117 : decode cX11_spread 117 = .ok (.l2i, 1) := by decide +kernel
theorem dX11_spread_118 : decode cX11_spread 118 = .ok (.istore 6, 2) := by decide +kernel
theorem dX11_spread_120 : decode cX11_spread 120 = .ok (.aload_n 0, 1) := by decide +kernel
theorem dX11_spread_121 : decode cX11_spread 121 = .ok (.getfield 90, 3) := by decide +kernel
theorem dX11_spread_124 : decode cX11_spread 124 = .ok (.iload 5, 2) := by decide +kernel
theorem dX11_spread_126 : decode cX11_spread 126 = .ok (.iconst 1, 1) := by decide +kernel
theorem dX11_spread_127 : decode cX11_spread 127 = .ok (.iload_n 3, 1) := by decide +kernel
theorem dX11_spread_128 : decode cX11_spread 128 = .ok (.ishl, 1) := by decide +kernel
theorem dX11_spread_129 : decode cX11_spread 129 = .ok (.ior, 1) := by decide +kernel
theorem dX11_spread_130 : decode cX11_spread 130 = .ok (.dup2, 1) := by decide +kernel
theorem dX11_spread_131 : decode cX11_spread 131 = .ok (.iaload, 1) := by decide +kernel
theorem dX11_spread_132 : decode cX11_spread 132 = .ok (.iload 6, 2) := by decide +kernel
theorem dX11_spread_134 : decode cX11_spread 134 = .ok (.iadd, 1) := by decide +kernel
theorem dX11_spread_135 : decode cX11_spread 135 = .ok (.iastore, 1) := by decide +kernel
theorem dX11_spread_136 : decode cX11_spread 136 = .ok (.aload_n 0, 1) := by decide +kernel
theorem dX11_spread_137 : decode cX11_spread 137 = .ok (.getfield 90, 3) := by decide +kernel
theorem dX11_spread_140 : decode cX11_spread 140 = .ok (.iload 5, 2) := by decide +kernel
theorem dX11_spread_142 : decode cX11_spread 142 = .ok (.dup2, 1) := by decide +kernel
theorem dX11_spread_143 : decode cX11_spread 143 = .ok (.iaload, 1) := by decide +kernel
theorem dX11_spread_144 : decode cX11_spread 144 = .ok (.iload 6, 2) := by decide +kernel
theorem dX11_spread_146 : decode cX11_spread 146 = .ok (.isub, 1) := by decide +kernel
theorem dX11_spread_147 : decode cX11_spread 147 = .ok (.iastore, 1) := by decide +kernel
theorem dX11_spread_148 : decode cX11_spread 148 = .ok (.iinc 5 1, 3) := by decide +kernel
theorem dX11_spread_151 : decode cX11_spread 151 = .ok (.goto (-79), 3) := by decide +kernel
theorem dX11_spread_154 : decode cX11_spread 154 = .ok (.iinc 3 1, 3) := by decide +kernel
theorem dX11_spread_157 : decode cX11_spread 157 = .ok (.goto (-112), 3) := by decide +kernel
theorem dX11_spread_160 : decode cX11_spread 160 = .ok (.iload_n 1, 1) := by decide +kernel
theorem dX11_spread_161 : decode cX11_spread 161 = .ok (.istore_n 3, 1) := by decide +kernel
theorem dX11_spread_162 : decode cX11_spread 162 = .ok (.iload_n 3, 1) := by decide +kernel
theorem dX11_spread_163 : decode cX11_spread 163 = .ok (.iload_n 2, 1) := by decide +kernel
theorem dX11_spread_164 : decode cX11_spread 164 = .ok (.if_icmp .gt 24, 3) := by decide +kernel
theorem dX11_spread_167 : decode cX11_spread 167 = .ok (.aload_n 0, 1) := by decide +kernel
theorem dX11_spread_168 : decode cX11_spread 168 = .ok (.getfield 87, 3) := by decide +kernel
theorem dX11_spread_171 : decode cX11_spread 171 = .ok (.iload_n 3, 1) := by decide +kernel
theorem dX11_spread_172 : decode cX11_spread 172 = .ok (.dup2, 1) := by decide +kernel
theorem dX11_spread_173 : decode cX11_spread 173 = .ok (.iaload, 1) := by decide +kernel
theorem dX11_spread_174 : decode cX11_spread 174 = .ok (.aload_n 0, 1) := by decide +kernel
theorem dX11_spread_175 : decode cX11_spread 175 = .ok (.getfield 90, 3) := by decide +kernel
theorem dX11_spread_178 : decode cX11_spread 178 = .ok (.iload_n 3, 1) := by decide +kernel
theorem dX11_spread_179 : decode cX11_spread 179 = .ok (.iaload, 1) := by decide +kernel
theorem dX11_spread_180 : decode cX11_spread 180 = .ok (.iadd, 1) := by decide +kernel
theorem dX11_spread_181 : decode cX11_spread 181 = .ok (.iastore, 1) := by decide +kernel
theorem dX11_spread_182 : decode cX11_spread 182 = .ok (.iinc 3 1, 3) := by decide +kernel
theorem dX11_spread_185 : decode cX11_spread 185 = .ok (.goto (-23), 3) := by decide +kernel
theorem dX11_spread_188 : decode cX11_spread 188 = .ok (.return_, 1) := by decide +kernel
theorem dX11_findOdds_0 : decode cX11_findOdds 0 = .ok (.iconst 1, 1) := by decide +kernel
theorem dX11_findOdds_1 : decode cX11_findOdds 1 = .ok (.aload_n 0, 1) := by decide +kernel
theorem dX11_findOdds_2 : decode cX11_findOdds 2 = .ok (.invokevirtual 309, 3) := by decide +kernel
theorem dX11_findOdds_5 : decode cX11_findOdds 5 = .ok (.ishl, 1) := by decide +kernel
theorem dX11_findOdds_6 : decode cX11_findOdds 6 = .ok (.iconst 1, 1) := by decide +kernel
theorem dX11_findOdds_7 : decode cX11_findOdds 7 = .ok (.isub, 1) := by decide +kernel
theorem dX11_findOdds_8 : decode cX11_findOdds 8 = .ok (.istore_n 3, 1) := by decide +kernel
theorem dX11_findOdds_9 : decode cX11_findOdds 9 = .ok (.iconst 0, 1) := by decide +kernel
theorem dX11_findOdds_10 : decode cX11_findOdds 10 = .ok (.istore 4, 2) := by decide +kernel
theorem dX11_findOdds_12 : decode cX11_findOdds 12 = .ok (.iload 4, 2) := by decide +kernel
theorem dX11_findOdds_14 : decode cX11_findOdds 14 = .ok (.iload_n 3, 1) := by decide +kernel
theorem dX11_findOdds_15 : decode cX11_findOdds 15 = .ok (.if_icmp .gt 29, 3) := by decide +kernel
theorem dX11_findOdds_18 : decode cX11_findOdds 18 = .ok (.aload_n 0, 1) := by decide +kernel
theorem dX11_findOdds_19 : decode cX11_findOdds 19 = .ok (.getfield 84, 3) := by decide +kernel
theorem dX11_findOdds_22 : decode cX11_findOdds 22 = .ok (.iload 4, 2) := by decide +kernel
theorem dX11_findOdds_24 : decode cX11_findOdds 24 = .ok (.iload 4, 2) := by decide +kernel
theorem dX11_findOdds_26 : decode cX11_findOdds 26 = .ok (.iload_n 1, 1) := by decide +kernel
theorem dX11_findOdds_27 : decode cX11_findOdds 27 = .ok (.if_icmp .ne 9, 3) := by decide +kernel
theorem dX11_findOdds_30 : decode cX11_findOdds 30 = .ok (.ldc_w 317, 3) := by decide +kernel
theorem dX11_findOdds_33 : decode cX11_findOdds 33 = .ok (.goto 4, 3) := by decide +kernel
theorem dX11_findOdds_36 : decode cX11_findOdds 36 = .ok (.iconst 0, 1) := by decide +kernel
theorem dX11_findOdds_37 : decode cX11_findOdds 37 = .ok (.iastore, 1) := by decide +kernel
theorem dX11_findOdds_38 : decode cX11_findOdds 38 = .ok (.iinc 4 1, 3) := by decide +kernel
theorem dX11_findOdds_41 : decode cX11_findOdds 41 = .ok (.goto (-29), 3) := by decide +kernel
theorem dX11_findOdds_44 : decode cX11_findOdds 44 = .ok (.iconst 0, 1) := by decide +kernel
theorem dX11_findOdds_45 : decode cX11_findOdds 45 = .ok (.istore 4, 2) := by decide +kernel
theorem dX11_findOdds_47 : decode cX11_findOdds 47 = .ok (.iload 4, 2) := by decide +kernel
theorem dX11_findOdds_49 : decode cX11_findOdds 49 = .ok (.iload_n 2, 1) := by decide +kernel
theorem dX11_findOdds_50 : decode cX11_findOdds 50 = .ok (.if_icmp .ge 92, 3) := by decide +kernel
theorem dX11_findOdds_53 : decode cX11_findOdds 53 = .ok (.iconst 0, 1) := by decide +kernel
theorem dX11_findOdds_54 : decode cX11_findOdds 54 = .ok (.istore 5, 2) := by decide +kernel
theorem dX11_findOdds_56 : decode cX11_findOdds 56 = .ok (.iload 5, 2) := by decide +kernel
theorem dX11_findOdds_58 : decode cX11_findOdds 58 = .ok (.iload_n 3, 1) := by decide +kernel
theorem dX11_findOdds_59 : decode cX11_findOdds 59 = .ok (.if_icmp .gt 17, 3) := by decide +kernel
theorem dX11_findOdds_62 : decode cX11_findOdds 62 = .ok (.aload_n 0, 1) := by decide +kernel
theorem dX11_findOdds_63 : decode cX11_findOdds 63 = .ok (.getfield 87, 3) := by decide +kernel
theorem dX11_findOdds_66 : decode cX11_findOdds 66 = .ok (.iload 5, 2) := by decide +kernel
theorem dX11_findOdds_68 : decode cX11_findOdds 68 = .ok (.iconst 0, 1) := by decide +kernel
theorem dX11_findOdds_69 : decode cX11_findOdds 69 = .ok (.iastore, 1) := by decide +kernel
theorem dX11_findOdds_70 : decode cX11_findOdds 70 = .ok (.iinc 5 1, 3) := by decide +kernel
theorem dX11_findOdds_73 : decode cX11_findOdds 73 = .ok (.goto (-17), 3) := by decide +kernel
theorem dX11_findOdds_76 : decode cX11_findOdds 76 = .ok (.iconst 0, 1) := by decide +kernel
theorem dX11_findOdds_77 : decode cX11_findOdds 77 = .ok (.istore 5, 2) := by decide +kernel
theorem dX11_findOdds_79 : decode cX11_findOdds 79 = .ok (.iload 5, 2) := by decide +kernel
theorem dX11_findOdds_81 : decode cX11_findOdds 81 = .ok (.iload_n 3, 1) := by decide +kernel
theorem dX11_findOdds_82 : decode cX11_findOdds 82 = .ok (.if_icmp .gt 25, 3) := by decide +kernel
theorem dX11_findOdds_85 : decode cX11_findOdds 85 = .ok (.aload_n 0, 1) := by decide +kernel
theorem dX11_findOdds_86 : decode cX11_findOdds 86 = .ok (.getfield 84, 3) := by decide +kernel
theorem dX11_findOdds_89 : decode cX11_findOdds 89 = .ok (.iload 5, 2) := by decide +kernel
theorem dX11_findOdds_91 : decode cX11_findOdds 91 = .ok (.iaload, 1) := by decide +kernel
theorem dX11_findOdds_92 : decode cX11_findOdds 92 = .ok (.ifCond .le 9, 3) := by decide +kernel
theorem dX11_findOdds_95 : decode cX11_findOdds 95 = .ok (.aload_n 0, 1) := by decide +kernel
theorem dX11_findOdds_96 : decode cX11_findOdds 96 = .ok (.iload 5, 2) := by decide +kernel
theorem dX11_findOdds_98 : decode cX11_findOdds 98 = .ok (.invokevirtual 318, 3) := by decide +kernel
theorem dX11_findOdds_101 : decode cX11_findOdds 101 = .ok (.iinc 5 1, 3) := by decide +kernel
theorem dX11_findOdds_104 : decode cX11_findOdds 104 = .ok (.goto (-25), 3) := by decide +kernel
theorem dX11_findOdds_107 : decode cX11_findOdds 107 = .ok (.iconst 0, 1) := by decide +kernel
theorem dX11_findOdds_108 : decode cX11_findOdds 108 = .ok (.istore 5, 2) := by decide +kernel
theorem dX11_findOdds_110 : decode cX11_findOdds 110 = .ok (.iload 5, 2) := by decide +kernel
theorem dX11_findOdds_112 : decode cX11_findOdds 112 = .ok (.iload_n 3, 1) := by decide +kernel
theorem dX11_findOdds_113 : decode cX11_findOdds 113 = .ok (.if_icmp .gt 23, 3) := by decide +kernel
theorem dX11_findOdds_116 : decode cX11_findOdds 116 = .ok (.aload_n 0, 1) := by decide +kernel
theorem dX11_findOdds_117 : decode cX11_findOdds 117 = .ok (.getfield 84, 3) := by decide +kernel
theorem dX11_findOdds_120 : decode cX11_findOdds 120 = .ok (.iload 5, 2) := by decide +kernel
theorem dX11_findOdds_122 : decode cX11_findOdds 122 = .ok (.aload_n 0, 1) := by decide +kernel
theorem dX11_findOdds_123 : decode cX11_findOdds 123 = .ok (.getfield 87, 3) := by decide +kernel
theorem dX11_findOdds_126 : decode cX11_findOdds 126 = .ok (.iload 5, 2) := by decide +kernel
theorem dX11_findOdds_128 : decode cX11_findOdds 128 = .ok (.iaload, 1) := by decide +kernel
theorem dX11_findOdds_129 : decode cX11_findOdds 129 = .ok (.iastore, 1) := by decide +kernel
theorem dX11_findOdds_130 : decode cX11_findOdds 130 = .ok (.iinc 5 1, 3) := by decide +kernel
theorem dX11_findOdds_133 : decode cX11_findOdds 133 = .ok (.goto (-23), 3) := by decide +kernel
theorem dX11_findOdds_136 : decode cX11_findOdds 136 = .ok (.iinc 4 1, 3) := by decide +kernel
theorem dX11_findOdds_139 : decode cX11_findOdds 139 = .ok (.goto (-92), 3) := by decide +kernel
theorem dX11_findOdds_142 : decode cX11_findOdds 142 = .ok (.return_, 1) := by decide +kernel
theorem dX11_isNet_0 : decode cX11_isNet 0 = .ok (.iload_n 1, 1) := by decide +kernel
theorem dX11_isNet_1 : decode cX11_isNet 1 = .ok (.i2l, 1) := by decide +kernel
theorem dX11_isNet_2 : decode cX11_isNet 2 = .ok (.lconst 0, 1) := by decide +kernel
theorem dX11_isNet_3 : decode cX11_isNet 3 = .ok (.aload_n 0, 1) := by decide +kernel
theorem dX11_isNet_4 : decode cX11_isNet 4 = .ok (.invokevirtual 309, 3) := by decide +kernel
theorem dX11_isNet_7 : decode cX11_isNet 7 = .ok (.iconst 1, 1) := by decide +kernel
theorem dX11_isNet_8 : decode cX11_isNet 8 = .ok (.isub, 1) := by decide +kernel
theorem dX11_isNet_9 : decode cX11_isNet 9 = .ok (.i2l, 1) := by decide +kernel
theorem dX11_isNet_10 : decode cX11_isNet 10 = .ok (.invokestatic 104, 3) := by decide +kernel
theorem dX11_isNet_13 : decode cX11_isNet 13 = .ok (.ireturn, 1) := by decide +kernel
theorem dX11_isNetSet_0 : decode cX11_isNetSet 0 = .ok (.iload_n 1, 1) := by decide +kernel
theorem dX11_isNetSet_1 : decode cX11_isNetSet 1 = .ok (.i2l, 1) := by decide +kernel
theorem dX11_isNetSet_2 : decode cX11_isNetSet 2 = .ok (.lconst 0, 1) := by decide +kernel
theorem dX11_isNetSet_3 : decode cX11_isNetSet 3 = .ok (.iconst 1, 1) := by decide +kernel
theorem dX11_isNetSet_4 : decode cX11_isNetSet 4 = .ok (.aload_n 0, 1) := by decide +kernel
theorem dX11_isNetSet_5 : decode cX11_isNetSet 5 = .ok (.invokevirtual 309, 3) := by decide +kernel
theorem dX11_isNetSet_8 : decode cX11_isNetSet 8 = .ok (.ishl, 1) := by decide +kernel
theorem dX11_isNetSet_9 : decode cX11_isNetSet 9 = .ok (.iconst 1, 1) := by decide +kernel
theorem dX11_isNetSet_10 : decode cX11_isNetSet 10 = .ok (.isub, 1) := by decide +kernel
theorem dX11_isNetSet_11 : decode cX11_isNetSet 11 = .ok (.i2l, 1) := by decide +kernel
theorem dX11_isNetSet_12 : decode cX11_isNetSet 12 = .ok (.invokestatic 104, 3) := by decide +kernel
theorem dX11_isNetSet_15 : decode cX11_isNetSet 15 = .ok (.ireturn, 1) := by decide +kernel
theorem dX11_areSteps_0 : decode cX11_areSteps 0 = .ok (.iload_n 0, 1) := by decide +kernel
theorem dX11_areSteps_1 : decode cX11_areSteps 1 = .ok (.i2l, 1) := by decide +kernel
theorem dX11_areSteps_2 : decode cX11_areSteps 2 = .ok (.lconst 0, 1) := by decide +kernel
theorem dX11_areSteps_3 : decode cX11_areSteps 3 = .ok (.ldc2_w 321, 3) := by decide +kernel
theorem dX11_areSteps_6 : decode cX11_areSteps 6 = .ok (.invokestatic 104, 3) := by decide +kernel
theorem dX11_areSteps_9 : decode cX11_areSteps 9 = .ok (.ireturn, 1) := by decide +kernel
theorem dX11_reach_0 : decode cX11_reach 0 = .ok (.aload_n 0, 1) := by decide +kernel
theorem dX11_reach_1 : decode cX11_reach 1 = .ok (.iload_n 1, 1) := by decide +kernel
theorem dX11_reach_2 : decode cX11_reach 2 = .ok (.invokevirtual 323, 3) := by decide +kernel
theorem dX11_reach_5 : decode cX11_reach 5 = .ok (.ifCond .eq 11, 3) := by decide +kernel
theorem dX11_reach_8 : decode cX11_reach 8 = .ok (.aload_n 0, 1) := by decide +kernel
theorem dX11_reach_9 : decode cX11_reach 9 = .ok (.iload_n 2, 1) := by decide +kernel
theorem dX11_reach_10 : decode cX11_reach 10 = .ok (.invokevirtual 323, 3) := by decide +kernel
theorem dX11_reach_13 : decode cX11_reach 13 = .ok (.ifCond .ne 6, 3) := by decide +kernel
theorem dX11_reach_16 : decode cX11_reach 16 = .ok (.ldc 205, 2) := by decide +kernel
theorem dX11_reach_18 : decode cX11_reach 18 = .ok (.ireturn, 1) := by decide +kernel
theorem dX11_reach_19 : decode cX11_reach 19 = .ok (.iload_n 3, 1) := by decide +kernel
theorem dX11_reach_20 : decode cX11_reach 20 = .ok (.invokestatic 326, 3) := by decide +kernel
theorem dX11_reach_23 : decode cX11_reach 23 = .ok (.ifCond .ne 6, 3) := by decide +kernel
theorem dX11_reach_26 : decode cX11_reach 26 = .ok (.ldc 108, 2) := by decide +kernel
theorem dX11_reach_28 : decode cX11_reach 28 = .ok (.ireturn, 1) := by decide +kernel
theorem dX11_reach_29 : decode cX11_reach 29 = .ok (.aload_n 0, 1) := by decide +kernel
theorem dX11_reach_30 : decode cX11_reach 30 = .ok (.iconst 1, 1) := by decide +kernel
theorem dX11_reach_31 : decode cX11_reach 31 = .ok (.iload_n 1, 1) := by decide +kernel
theorem dX11_reach_32 : decode cX11_reach 32 = .ok (.ishl, 1) := by decide +kernel
theorem dX11_reach_33 : decode cX11_reach 33 = .ok (.iload_n 3, 1) := by decide +kernel
theorem dX11_reach_34 : decode cX11_reach 34 = .ok (.invokevirtual 329, 3) := by decide +kernel
theorem dX11_reach_37 : decode cX11_reach 37 = .ok (.iconst 0, 1) := by decide +kernel
theorem dX11_reach_38 : decode cX11_reach 38 = .ok (.istore 4, 2) := by decide +kernel
theorem dX11_reach_40 : decode cX11_reach 40 = .ok (.iconst 0, 1) := by decide +kernel
theorem dX11_reach_41 : decode cX11_reach 41 = .ok (.istore 5, 2) := by decide +kernel
theorem dX11_reach_43 : decode cX11_reach 43 = .ok (.iload 5, 2) := by decide +kernel
theorem dX11_reach_45 : decode cX11_reach 45 = .ok (.iconst 1, 1) := by decide +kernel
theorem dX11_reach_46 : decode cX11_reach 46 = .ok (.aload_n 0, 1) := by decide +kernel
theorem dX11_reach_47 : decode cX11_reach 47 = .ok (.invokevirtual 309, 3) := by decide +kernel
theorem dX11_reach_50 : decode cX11_reach 50 = .ok (.ishl, 1) := by decide +kernel
theorem dX11_reach_51 : decode cX11_reach 51 = .ok (.if_icmp .ge 34, 3) := by decide +kernel
theorem dX11_reach_54 : decode cX11_reach 54 = .ok (.iload 4, 2) := by decide +kernel
theorem dX11_reach_56 : decode cX11_reach 56 = .ok (.iload 5, 2) := by decide +kernel
theorem dX11_reach_58 : decode cX11_reach 58 = .ok (.iload_n 2, 1) := by decide +kernel
theorem dX11_reach_59 : decode cX11_reach 59 = .ok (.invokestatic 182, 3) := by decide +kernel
theorem dX11_reach_62 : decode cX11_reach 62 = .ok (.ifCond .eq 13, 3) := by decide +kernel
theorem dX11_reach_65 : decode cX11_reach 65 = .ok (.aload_n 0, 1) := by decide +kernel
theorem dX11_reach_66 : decode cX11_reach 66 = .ok (.getfield 84, 3) := by decide +kernel
theorem dX11_reach_69 : decode cX11_reach 69 = .ok (.iload 5, 2) := by decide +kernel
theorem dX11_reach_71 : decode cX11_reach 71 = .ok (.iaload, 1) := by decide +kernel
theorem dX11_reach_72 : decode cX11_reach 72 = .ok (.goto 4, 3) := by decide +kernel
theorem dX11_reach_75 : decode cX11_reach 75 = .ok (.iconst 0, 1) := by decide +kernel
theorem dX11_reach_76 : decode cX11_reach 76 = .ok (.iadd, 1) := by decide +kernel
theorem dX11_reach_77 : decode cX11_reach 77 = .ok (.istore 4, 2) := by decide +kernel
theorem dX11_reach_79 : decode cX11_reach 79 = .ok (.iinc 5 1, 3) := by decide +kernel
theorem dX11_reach_82 : decode cX11_reach 82 = .ok (.goto (-39), 3) := by decide +kernel
theorem dX11_reach_85 : decode cX11_reach 85 = .ok (.iload 4, 2) := by decide +kernel
theorem dX11_reach_87 : decode cX11_reach 87 = .ok (.sipush 1000, 3) := by decide +kernel
theorem dX11_reach_90 : decode cX11_reach 90 = .ok (.idiv, 1) := by decide +kernel
theorem dX11_reach_91 : decode cX11_reach 91 = .ok (.ireturn, 1) := by decide +kernel
theorem dX11_manyFrom_0 : decode cX11_manyFrom 0 = .ok (.aload_n 0, 1) := by decide +kernel
theorem dX11_manyFrom_1 : decode cX11_manyFrom 1 = .ok (.iload_n 1, 1) := by decide +kernel
theorem dX11_manyFrom_2 : decode cX11_manyFrom 2 = .ok (.iload_n 2, 1) := by decide +kernel
theorem dX11_manyFrom_3 : decode cX11_manyFrom 3 = .ok (.invokevirtual 329, 3) := by decide +kernel
theorem dX11_manyFrom_6 : decode cX11_manyFrom 6 = .ok (.lconst 0, 1) := by decide +kernel
theorem dX11_manyFrom_7 : decode cX11_manyFrom 7 = .ok (.lstore_n 3, 1) := by decide +kernel
theorem dX11_manyFrom_8 : decode cX11_manyFrom 8 = .ok (.iconst 0, 1) := by decide +kernel
theorem dX11_manyFrom_9 : decode cX11_manyFrom 9 = .ok (.istore 5, 2) := by decide +kernel
theorem dX11_manyFrom_11 : decode cX11_manyFrom 11 = .ok (.iload 5, 2) := by decide +kernel
theorem dX11_manyFrom_13 : decode cX11_manyFrom 13 = .ok (.iconst 1, 1) := by decide +kernel
theorem dX11_manyFrom_14 : decode cX11_manyFrom 14 = .ok (.aload_n 0, 1) := by decide +kernel
theorem dX11_manyFrom_15 : decode cX11_manyFrom 15 = .ok (.invokevirtual 309, 3) := by decide +kernel
theorem dX11_manyFrom_18 : decode cX11_manyFrom 18 = .ok (.ishl, 1) := by decide +kernel
theorem dX11_manyFrom_19 : decode cX11_manyFrom 19 = .ok (.if_icmp .ge 27, 3) := by decide +kernel
theorem dX11_manyFrom_22 : decode cX11_manyFrom 22 = .ok (.lload_n 3, 1) := by decide +kernel
theorem dX11_manyFrom_23 : decode cX11_manyFrom 23 = .ok (.aload_n 0, 1) := by decide +kernel
theorem dX11_manyFrom_24 : decode cX11_manyFrom 24 = .ok (.getfield 84, 3) := by decide +kernel
theorem dX11_manyFrom_27 : decode cX11_manyFrom 27 = .ok (.iload 5, 2) := by decide +kernel
theorem dX11_manyFrom_29 : decode cX11_manyFrom 29 = .ok (.iaload, 1) := by decide +kernel
theorem dX11_manyFrom_30 : decode cX11_manyFrom 30 = .ok (.i2l, 1) := by decide +kernel
theorem dX11_manyFrom_31 : decode cX11_manyFrom 31 = .ok (.iload 5, 2) := by decide +kernel
theorem dX11_manyFrom_33 : decode cX11_manyFrom 33 = .ok (.invokestatic 194, 3) := by decide +kernel
theorem dX11_manyFrom_36 : decode cX11_manyFrom 36 = .ok (.i2l, 1) := by decide +kernel
theorem dX11_manyFrom_37 : decode cX11_manyFrom 37 = .ok (.lmul, 1) := by decide +kernel
theorem dX11_manyFrom_38 : decode cX11_manyFrom 38 = .ok (.ladd, 1) := by decide +kernel
theorem dX11_manyFrom_39 : decode cX11_manyFrom 39 = .ok (.lstore_n 3, 1) := by decide +kernel
theorem dX11_manyFrom_40 : decode cX11_manyFrom 40 = .ok (.iinc 5 1, 3) := by decide +kernel
theorem dX11_manyFrom_43 : decode cX11_manyFrom 43 = .ok (.goto (-32), 3) := by decide +kernel
theorem dX11_manyFrom_46 : decode cX11_manyFrom 46 = .ok (.lload_n 3, 1) := by decide +kernel
theorem dX11_manyFrom_47 : decode cX11_manyFrom 47 = .ok (.ldc2_w 332, 3) := by decide +kernel
theorem dX11_manyFrom_50 : decode cX11_manyFrom 50 = .ok (.ldiv, 1) := by decide +kernel
theorem dX11_manyFrom_51 : decode cX11_manyFrom 51 = .ok (.l2i, 1) := by decide +kernel
theorem dX11_manyFrom_52 : decode cX11_manyFrom 52 = .ok (.ireturn, 1) := by decide +kernel
theorem dX11_many_0 : decode cX11_many 0 = .ok (.aload_n 0, 1) := by decide +kernel
theorem dX11_many_1 : decode cX11_many 1 = .ok (.iload_n 1, 1) := by decide +kernel
theorem dX11_many_2 : decode cX11_many 2 = .ok (.invokevirtual 334, 3) := by decide +kernel
theorem dX11_many_5 : decode cX11_many 5 = .ok (.ifCond .ne 6, 3) := by decide +kernel
theorem dX11_many_8 : decode cX11_many 8 = .ok (.ldc 205, 2) := by decide +kernel
theorem dX11_many_10 : decode cX11_many 10 = .ok (.ireturn, 1) := by decide +kernel
theorem dX11_many_11 : decode cX11_many 11 = .ok (.iload_n 2, 1) := by decide +kernel
theorem dX11_many_12 : decode cX11_many 12 = .ok (.invokestatic 326, 3) := by decide +kernel
theorem dX11_many_15 : decode cX11_many 15 = .ok (.ifCond .eq 12, 3) := by decide +kernel
theorem dX11_many_18 : decode cX11_many 18 = .ok (.aload_n 0, 1) := by decide +kernel
theorem dX11_many_19 : decode cX11_many 19 = .ok (.iload_n 1, 1) := by decide +kernel
theorem dX11_many_20 : decode cX11_many 20 = .ok (.iload_n 2, 1) := by decide +kernel
theorem dX11_many_21 : decode cX11_many 21 = .ok (.invokevirtual 337, 3) := by decide +kernel
theorem dX11_many_24 : decode cX11_many 24 = .ok (.goto 5, 3) := by decide +kernel
theorem dX11_many_27 : decode cX11_many 27 = .ok (.ldc 108, 2) := by decide +kernel
theorem dX11_many_29 : decode cX11_many 29 = .ok (.ireturn, 1) := by decide +kernel
theorem dX11_began_0 : decode cX11_began 0 = .ok (.aload_n 0, 1) := by decide +kernel
theorem dX11_began_1 : decode cX11_began 1 = .ok (.iload_n 1, 1) := by decide +kernel
theorem dX11_began_2 : decode cX11_began 2 = .ok (.invokevirtual 323, 3) := by decide +kernel
theorem dX11_began_5 : decode cX11_began 5 = .ok (.ifCond .eq 11, 3) := by decide +kernel
theorem dX11_began_8 : decode cX11_began 8 = .ok (.aload_n 0, 1) := by decide +kernel
theorem dX11_began_9 : decode cX11_began 9 = .ok (.iload_n 2, 1) := by decide +kernel
theorem dX11_began_10 : decode cX11_began 10 = .ok (.invokevirtual 334, 3) := by decide +kernel
theorem dX11_began_13 : decode cX11_began 13 = .ok (.ifCond .ne 6, 3) := by decide +kernel
theorem dX11_began_16 : decode cX11_began 16 = .ok (.ldc 205, 2) := by decide +kernel
theorem dX11_began_18 : decode cX11_began 18 = .ok (.ireturn, 1) := by decide +kernel
theorem dX11_began_19 : decode cX11_began 19 = .ok (.iload_n 3, 1) := by decide +kernel
theorem dX11_began_20 : decode cX11_began 20 = .ok (.invokestatic 326, 3) := by decide +kernel
theorem dX11_began_23 : decode cX11_began 23 = .ok (.ifCond .ne 6, 3) := by decide +kernel
theorem dX11_began_26 : decode cX11_began 26 = .ok (.ldc 108, 2) := by decide +kernel
theorem dX11_began_28 : decode cX11_began 28 = .ok (.ireturn, 1) := by decide +kernel
theorem dX11_began_29 : decode cX11_began 29 = .ok (.lconst 0, 1) := by decide +kernel
theorem dX11_began_30 : decode cX11_began 30 = .ok (.lstore 4, 2) := by decide +kernel
theorem dX11_began_32 : decode cX11_began 32 = .ok (.lconst 0, 1) := by decide +kernel
theorem dX11_began_33 : decode cX11_began 33 = .ok (.lstore 6, 2) := by decide +kernel
theorem dX11_began_35 : decode cX11_began 35 = .ok (.iconst 0, 1) := by decide +kernel
theorem dX11_began_36 : decode cX11_began 36 = .ok (.istore 8, 2) := by decide +kernel
theorem dX11_began_38 : decode cX11_began 38 = .ok (.iload 8, 2) := by decide +kernel
theorem dX11_began_40 : decode cX11_began 40 = .ok (.aload_n 0, 1) := by decide +kernel
theorem dX11_began_41 : decode cX11_began 41 = .ok (.invokevirtual 309, 3) := by decide +kernel
theorem dX11_began_44 : decode cX11_began 44 = .ok (.if_icmp .ge 50, 3) := by decide +kernel
theorem dX11_began_47 : decode cX11_began 47 = .ok (.aload_n 0, 1) := by decide +kernel
theorem dX11_began_48 : decode cX11_began 48 = .ok (.iconst 1, 1) := by decide +kernel
theorem dX11_began_49 : decode cX11_began 49 = .ok (.iload 8, 2) := by decide +kernel
theorem dX11_began_51 : decode cX11_began 51 = .ok (.ishl, 1) := by decide +kernel
theorem dX11_began_52 : decode cX11_began 52 = .ok (.iload_n 3, 1) := by decide +kernel
theorem dX11_began_53 : decode cX11_began 53 = .ok (.invokevirtual 329, 3) := by decide +kernel
theorem dX11_began_56 : decode cX11_began 56 = .ok (.lload 4, 2) := by decide +kernel
theorem dX11_began_58 : decode cX11_began 58 = .ok (.aload_n 0, 1) := by decide +kernel
theorem dX11_began_59 : decode cX11_began 59 = .ok (.getfield 84, 3) := by decide +kernel
theorem dX11_began_62 : decode cX11_began 62 = .ok (.iload_n 2, 1) := by decide +kernel
theorem dX11_began_63 : decode cX11_began 63 = .ok (.iaload, 1) := by decide +kernel
theorem dX11_began_64 : decode cX11_began 64 = .ok (.i2l, 1) := by decide +kernel
theorem dX11_began_65 : decode cX11_began 65 = .ok (.ladd, 1) := by decide +kernel
theorem dX11_began_66 : decode cX11_began 66 = .ok (.lstore 4, 2) := by decide +kernel
theorem dX11_began_68 : decode cX11_began 68 = .ok (.iload 8, 2) := by decide +kernel
theorem dX11_began_70 : decode cX11_began 70 = .ok (.iload_n 1, 1) := by decide +kernel
theorem dX11_began_71 : decode cX11_began 71 = .ok (.if_icmp .ne 13, 3) := by decide +kernel
theorem dX11_began_74 : decode cX11_began 74 = .ok (.aload_n 0, 1) := by decide +kernel
theorem dX11_began_75 : decode cX11_began 75 = .ok (.getfield 84, 3) := by decide +kernel
theorem dX11_began_78 : decode cX11_began 78 = .ok (.iload_n 2, 1) := by decide +kernel
theorem dX11_began_79 : decode cX11_began 79 = .ok (.iaload, 1) := by decide +kernel
theorem dX11_began_80 : decode cX11_began 80 = .ok (.i2l, 1) := by decide +kernel
theorem dX11_began_81 : decode cX11_began 81 = .ok (.goto 5, 3) := by decide +kernel
theorem dX11_began_84 : decode cX11_began 84 = .ok (.lload 6, 2) := by decide +kernel
theorem dX11_began_86 : decode cX11_began 86 = .ok (.lstore 6, 2) := by decide +kernel
theorem dX11_began_88 : decode cX11_began 88 = .ok (.iinc 8 1, 3) := by decide +kernel
theorem dX11_began_91 : decode cX11_began 91 = .ok (.goto (-53), 3) := by decide +kernel
theorem dX11_began_94 : decode cX11_began 94 = .ok (.lload 4, 2) := by decide +kernel
theorem dX11_began_96 : decode cX11_began 96 = .ok (.lconst 0, 1) := by decide +kernel
theorem dX11_began_97 : decode cX11_began 97 = .ok (.lcmp, 1) := by decide +kernel
theorem dX11_began_98 : decode cX11_began 98 = .ok (.ifCond .ne 7, 3) := by decide +kernel
theorem dX11_began_101 : decode cX11_began 101 = .ok (.iconst 0, 1) := by decide +kernel
theorem dX11_began_102 : decode cX11_began 102 = .ok (.goto 13, 3) := by decide +kernel
theorem dX11_began_105 : decode cX11_began 105 = .ok (.ldc2_w 332, 3) := by decide +kernel
theorem dX11_began_108 : decode cX11_began 108 = .ok (.lload 6, 2) := by decide +kernel
theorem dX11_began_110 : decode cX11_began 110 = .ok (.lmul, 1) := by decide +kernel
theorem dX11_began_111 : decode cX11_began 111 = .ok (.lload 4, 2) := by decide +kernel
theorem dX11_began_113 : decode cX11_began 113 = .ok (.ldiv, 1) := by decide +kernel
theorem dX11_began_114 : decode cX11_began 114 = .ok (.l2i, 1) := by decide +kernel
theorem dX11_began_115 : decode cX11_began 115 = .ok (.ireturn, 1) := by decide +kernel
theorem dX11_speak_0 : decode cX11_speak 0 = .ok (.iload_n 1, 1) := by decide +kernel
theorem dX11_speak_1 : decode cX11_speak 1 = .ok (.i2l, 1) := by decide +kernel
theorem dX11_speak_2 : decode cX11_speak 2 = .ok (.lconst 1, 1) := by decide +kernel
theorem dX11_speak_3 : decode cX11_speak 3 = .ok (.ldc2_w 270, 3) := by decide +kernel
theorem dX11_speak_6 : decode cX11_speak 6 = .ok (.invokestatic 104, 3) := by decide +kernel
theorem dX11_speak_9 : decode cX11_speak 9 = .ok (.ifCond .eq 10, 3) := by decide +kernel
theorem dX11_speak_12 : decode cX11_speak 12 = .ok (.iload_n 2, 1) := by decide +kernel
theorem dX11_speak_13 : decode cX11_speak 13 = .ok (.invokestatic 326, 3) := by decide +kernel
theorem dX11_speak_16 : decode cX11_speak 16 = .ok (.ifCond .ne 6, 3) := by decide +kernel
theorem dX11_speak_19 : decode cX11_speak 19 = .ok (.ldc 108, 2) := by decide +kernel
theorem dX11_speak_21 : decode cX11_speak 21 = .ok (.ireturn, 1) := by decide +kernel
theorem dX11_speak_22 : decode cX11_speak 22 = .ok (.iconst (-1), 1) := by decide +kernel
theorem dX11_speak_23 : decode cX11_speak 23 = .ok (.istore_n 3, 1) := by decide +kernel
theorem dX11_speak_24 : decode cX11_speak 24 = .ok (.iconst 0, 1) := by decide +kernel
theorem dX11_speak_25 : decode cX11_speak 25 = .ok (.istore 4, 2) := by decide +kernel
theorem dX11_speak_27 : decode cX11_speak 27 = .ok (.iconst 0, 1) := by decide +kernel
theorem dX11_speak_28 : decode cX11_speak 28 = .ok (.istore 5, 2) := by decide +kernel
theorem dX11_speak_30 : decode cX11_speak 30 = .ok (.iload 5, 2) := by decide +kernel
theorem dX11_speak_32 : decode cX11_speak 32 = .ok (.iconst 1, 1) := by decide +kernel
theorem dX11_speak_33 : decode cX11_speak 33 = .ok (.aload_n 0, 1) := by decide +kernel
theorem dX11_speak_34 : decode cX11_speak 34 = .ok (.invokevirtual 309, 3) := by decide +kernel
theorem dX11_speak_37 : decode cX11_speak 37 = .ok (.ishl, 1) := by decide +kernel
theorem dX11_speak_38 : decode cX11_speak 38 = .ok (.if_icmp .ge 45, 3) := by decide +kernel
theorem dX11_speak_41 : decode cX11_speak 41 = .ok (.iload 5, 2) := by decide +kernel
theorem dX11_speak_43 : decode cX11_speak 43 = .ok (.invokestatic 194, 3) := by decide +kernel
theorem dX11_speak_46 : decode cX11_speak 46 = .ok (.iload_n 1, 1) := by decide +kernel
theorem dX11_speak_47 : decode cX11_speak 47 = .ok (.if_icmp .ne 30, 3) := by decide +kernel
theorem dX11_speak_50 : decode cX11_speak 50 = .ok (.aload_n 0, 1) := by decide +kernel
theorem dX11_speak_51 : decode cX11_speak 51 = .ok (.iload 5, 2) := by decide +kernel
theorem dX11_speak_53 : decode cX11_speak 53 = .ok (.iload_n 2, 1) := by decide +kernel
theorem dX11_speak_54 : decode cX11_speak 54 = .ok (.invokevirtual 337, 3) := by decide +kernel
theorem dX11_speak_57 : decode cX11_speak 57 = .ok (.istore 6, 2) := by decide +kernel
theorem dX11_speak_59 : decode cX11_speak 59 = .ok (.iload_n 3, 1) := by decide +kernel
theorem dX11_speak_60 : decode cX11_speak 60 = .ok (.ifCond .lt 10, 3) := by decide +kernel
theorem dX11_speak_63 : decode cX11_speak 63 = .ok (.iload 6, 2) := by decide +kernel
theorem dX11_speak_65 : decode cX11_speak 65 = .ok (.iload 4, 2) := by decide +kernel
theorem dX11_speak_67 : decode cX11_speak 67 = .ok (.if_icmp .le 10, 3) := by decide +kernel
theorem dX11_speak_70 : decode cX11_speak 70 = .ok (.iload 5, 2) := by decide +kernel
theorem dX11_speak_72 : decode cX11_speak 72 = .ok (.istore_n 3, 1) := by decide +kernel
theorem dX11_speak_73 : decode cX11_speak 73 = .ok (.iload 6, 2) := by decide +kernel
theorem dX11_speak_75 : decode cX11_speak 75 = .ok (.istore 4, 2) := by decide +kernel
theorem dX11_speak_77 : decode cX11_speak 77 = .ok (.iinc 5 1, 3) := by decide +kernel
theorem dX11_speak_80 : decode cX11_speak 80 = .ok (.goto (-50), 3) := by decide +kernel
theorem dX11_speak_83 : decode cX11_speak 83 = .ok (.iload_n 3, 1) := by decide +kernel
theorem dX11_speak_84 : decode cX11_speak 84 = .ok (.ireturn, 1) := by decide +kernel
theorem dX11_isMarket_0 : decode cX11_isMarket 0 = .ok (.iload_n 0, 1) := by decide +kernel
theorem dX11_isMarket_1 : decode cX11_isMarket 1 = .ok (.i2l, 1) := by decide +kernel
theorem dX11_isMarket_2 : decode cX11_isMarket 2 = .ok (.lconst 0, 1) := by decide +kernel
theorem dX11_isMarket_3 : decode cX11_isMarket 3 = .ok (.ldc2_w 340, 3) := by decide +kernel
theorem dX11_isMarket_6 : decode cX11_isMarket 6 = .ok (.invokestatic 104, 3) := by decide +kernel
theorem dX11_isMarket_9 : decode cX11_isMarket 9 = .ok (.ireturn, 1) := by decide +kernel
theorem dX11_road_0 : decode cX11_road 0 = .ok (.iload_n 1, 1) := by decide +kernel
theorem dX11_road_1 : decode cX11_road 1 = .ok (.invokestatic 342, 3) := by decide +kernel
theorem dX11_road_4 : decode cX11_road 4 = .ok (.ifCond .eq 27, 3) := by decide +kernel
theorem dX11_road_7 : decode cX11_road 7 = .ok (.iload_n 2, 1) := by decide +kernel
theorem dX11_road_8 : decode cX11_road 8 = .ok (.invokestatic 342, 3) := by decide +kernel
theorem dX11_road_11 : decode cX11_road 11 = .ok (.ifCond .eq 20, 3) := by decide +kernel
theorem dX11_road_14 : decode cX11_road 14 = .ok (.iload_n 1, 1) := by decide +kernel
theorem dX11_road_15 : decode cX11_road 15 = .ok (.iload_n 2, 1) := by decide +kernel
theorem dX11_road_16 : decode cX11_road 16 = .ok (.if_icmp .eq 15, 3) := by decide +kernel
theorem dX11_road_19 : decode cX11_road 19 = .ok (.iload_n 3, 1) := by decide +kernel
theorem dX11_road_20 : decode cX11_road 20 = .ok (.i2l, 1) := by decide +kernel
theorem dX11_road_21 : decode cX11_road 21 = .ok (.lconst 0, 1) := by decide +kernel
theorem dX11_road_22 : decode cX11_road 22 = .ok (.ldc2_w 345, 3) := by decide +kernel
theorem dX11_road_25 : decode cX11_road 25 = .ok (.invokestatic 104, 3) := by decide +kernel
theorem dX11_road_28 : decode cX11_road 28 = .ok (.ifCond .ne 6, 3) := by decide +kernel
theorem dX11_road_31 : decode cX11_road 31 = .ok (.ldc 108, 2) := by decide +kernel
theorem dX11_road_33 : decode cX11_road 33 = .ok (.ireturn, 1) := by decide +kernel
theorem dX11_road_34 : decode cX11_road 34 = .ok (.aload_n 0, 1) := by decide +kernel
theorem dX11_road_35 : decode cX11_road 35 = .ok (.getfield 93, 3) := by decide +kernel
theorem dX11_road_38 : decode cX11_road 38 = .ok (.bipush 12, 2) := by decide +kernel
theorem dX11_road_40 : decode cX11_road 40 = .ok (.iload_n 1, 1) := by decide +kernel
theorem dX11_road_41 : decode cX11_road 41 = .ok (.imul, 1) := by decide +kernel
theorem dX11_road_42 : decode cX11_road 42 = .ok (.iload_n 2, 1) := by decide +kernel
theorem dX11_road_43 : decode cX11_road 43 = .ok (.iadd, 1) := by decide +kernel
theorem dX11_road_44 : decode cX11_road 44 = .ok (.iaload, 1) := by decide +kernel
theorem dX11_road_45 : decode cX11_road 45 = .ok (.istore 4, 2) := by decide +kernel
theorem dX11_road_47 : decode cX11_road 47 = .ok (.aload_n 0, 1) := by decide +kernel
theorem dX11_road_48 : decode cX11_road 48 = .ok (.getfield 93, 3) := by decide +kernel
theorem dX11_road_51 : decode cX11_road 51 = .ok (.bipush 12, 2) := by decide +kernel
theorem dX11_road_53 : decode cX11_road 53 = .ok (.iload_n 1, 1) := by decide +kernel
theorem dX11_road_54 : decode cX11_road 54 = .ok (.imul, 1) := by decide +kernel
theorem dX11_road_55 : decode cX11_road 55 = .ok (.iload_n 2, 1) := by decide +kernel
theorem dX11_road_56 : decode cX11_road 56 = .ok (.iadd, 1) := by decide +kernel
theorem dX11_road_57 : decode cX11_road 57 = .ok (.iload_n 3, 1) := by decide +kernel
theorem dX11_road_58 : decode cX11_road 58 = .ok (.iastore, 1) := by decide +kernel
theorem dX11_road_59 : decode cX11_road 59 = .ok (.aload_n 0, 1) := by decide +kernel
theorem dX11_road_60 : decode cX11_road 60 = .ok (.getfield 93, 3) := by decide +kernel
theorem dX11_road_63 : decode cX11_road 63 = .ok (.bipush 12, 2) := by decide +kernel
theorem dX11_road_65 : decode cX11_road 65 = .ok (.iload_n 2, 1) := by decide +kernel
theorem dX11_road_66 : decode cX11_road 66 = .ok (.imul, 1) := by decide +kernel
theorem dX11_road_67 : decode cX11_road 67 = .ok (.iload_n 1, 1) := by decide +kernel
theorem dX11_road_68 : decode cX11_road 68 = .ok (.iadd, 1) := by decide +kernel
theorem dX11_road_69 : decode cX11_road 69 = .ok (.iload_n 3, 1) := by decide +kernel
theorem dX11_road_70 : decode cX11_road 70 = .ok (.iastore, 1) := by decide +kernel
theorem dX11_road_71 : decode cX11_road 71 = .ok (.iload 4, 2) := by decide +kernel
theorem dX11_road_73 : decode cX11_road 73 = .ok (.ireturn, 1) := by decide +kernel
theorem dX11_report_0 : decode cX11_report 0 = .ok (.iload_n 1, 1) := by decide +kernel
theorem dX11_report_1 : decode cX11_report 1 = .ok (.invokestatic 342, 3) := by decide +kernel
theorem dX11_report_4 : decode cX11_report 4 = .ok (.ifCond .eq 15, 3) := by decide +kernel
theorem dX11_report_7 : decode cX11_report 7 = .ok (.iload_n 2, 1) := by decide +kernel
theorem dX11_report_8 : decode cX11_report 8 = .ok (.i2l, 1) := by decide +kernel
theorem dX11_report_9 : decode cX11_report 9 = .ok (.lconst 0, 1) := by decide +kernel
theorem dX11_report_10 : decode cX11_report 10 = .ok (.ldc2_w 347, 3) := by decide +kernel
theorem dX11_report_13 : decode cX11_report 13 = .ok (.invokestatic 104, 3) := by decide +kernel
theorem dX11_report_16 : decode cX11_report 16 = .ok (.ifCond .ne 6, 3) := by decide +kernel
theorem dX11_report_19 : decode cX11_report 19 = .ok (.ldc 108, 2) := by decide +kernel
theorem dX11_report_21 : decode cX11_report 21 = .ok (.ireturn, 1) := by decide +kernel
theorem dX11_report_22 : decode cX11_report 22 = .ok (.aload_n 0, 1) := by decide +kernel
theorem dX11_report_23 : decode cX11_report 23 = .ok (.dup, 1) := by decide +kernel
theorem dX11_report_24 : decode cX11_report 24 = .ok (.getfield 349, 3) := by decide +kernel
theorem dX11_report_27 : decode cX11_report 27 = .ok (.iconst 1, 1) := by decide +kernel
theorem dX11_report_28 : decode cX11_report 28 = .ok (.iload_n 1, 1) := by decide +kernel
theorem dX11_report_29 : decode cX11_report 29 = .ok (.ishl, 1) := by decide +kernel
theorem dX11_report_30 : decode cX11_report 30 = .ok (.ior, 1) := by decide +kernel
theorem dX11_report_31 : decode cX11_report 31 = .ok (.putfield 349, 3) := by decide +kernel
theorem dX11_report_34 : decode cX11_report 34 = .ok (.aload_n 0, 1) := by decide +kernel
theorem dX11_report_35 : decode cX11_report 35 = .ok (.getfield 99, 3) := by decide +kernel
theorem dX11_report_38 : decode cX11_report 38 = .ok (.iload_n 1, 1) := by decide +kernel
theorem dX11_report_39 : decode cX11_report 39 = .ok (.iload_n 2, 1) := by decide +kernel
theorem dX11_report_40 : decode cX11_report 40 = .ok (.iastore, 1) := by decide +kernel
theorem dX11_report_41 : decode cX11_report 41 = .ok (.aload_n 0, 1) := by decide +kernel
theorem dX11_report_42 : decode cX11_report 42 = .ok (.getfield 349, 3) := by decide +kernel
theorem dX11_report_45 : decode cX11_report 45 = .ok (.invokestatic 194, 3) := by decide +kernel
theorem dX11_report_48 : decode cX11_report 48 = .ok (.ireturn, 1) := by decide +kernel
theorem dX11_silence_0 : decode cX11_silence 0 = .ok (.aload_n 0, 1) := by decide +kernel
theorem dX11_silence_1 : decode cX11_silence 1 = .ok (.getfield 349, 3) := by decide +kernel
theorem dX11_silence_4 : decode cX11_silence 4 = .ok (.invokestatic 194, 3) := by decide +kernel
theorem dX11_silence_7 : decode cX11_silence 7 = .ok (.istore_n 1, 1) := by decide +kernel
theorem dX11_silence_8 : decode cX11_silence 8 = .ok (.aload_n 0, 1) := by decide +kernel
theorem dX11_silence_9 : decode cX11_silence 9 = .ok (.iconst 0, 1) := by decide +kernel
theorem dX11_silence_10 : decode cX11_silence 10 = .ok (.putfield 349, 3) := by decide +kernel
theorem dX11_silence_13 : decode cX11_silence 13 = .ok (.iload_n 1, 1) := by decide +kernel
theorem dX11_silence_14 : decode cX11_silence 14 = .ok (.ireturn, 1) := by decide +kernel
theorem dX11_findDays_0 : decode cX11_findDays 0 = .ok (.iconst 0, 1) := by decide +kernel
theorem dX11_findDays_1 : decode cX11_findDays 1 = .ok (.istore_n 1, 1) := by decide +kernel
theorem dX11_findDays_2 : decode cX11_findDays 2 = .ok (.iload_n 1, 1) := by decide +kernel
theorem dX11_findDays_3 : decode cX11_findDays 3 = .ok (.sipush 144, 3) := by decide +kernel
theorem dX11_findDays_6 : decode cX11_findDays 6 = .ok (.if_icmp .ge 51, 3) := by decide +kernel
theorem dX11_findDays_9 : decode cX11_findDays 9 = .ok (.aload_n 0, 1) := by decide +kernel
theorem dX11_findDays_10 : decode cX11_findDays 10 = .ok (.getfield 96, 3) := by decide +kernel
theorem dX11_findDays_13 : decode cX11_findDays 13 = .ok (.iload_n 1, 1) := by decide +kernel
theorem dX11_findDays_14 : decode cX11_findDays 14 = .ok (.iload_n 1, 1) := by decide +kernel
theorem dX11_findDays_15 : decode cX11_findDays 15 = .ok (.bipush 12, 2) := by decide +kernel
theorem dX11_findDays_17 : decode cX11_findDays 17 = .ok (.idiv, 1) := by decide +kernel
theorem dX11_findDays_18 : decode cX11_findDays 18 = .ok (.iload_n 1, 1) := by decide +kernel
theorem dX11_findDays_19 : decode cX11_findDays 19 = .ok (.bipush 12, 2) := by decide +kernel
theorem dX11_findDays_21 : decode cX11_findDays 21 = .ok (.irem, 1) := by decide +kernel
theorem dX11_findDays_22 : decode cX11_findDays 22 = .ok (.if_icmp .ne 7, 3) := by decide +kernel
theorem dX11_findDays_25 : decode cX11_findDays 25 = .ok (.iconst 0, 1) := by decide +kernel
theorem dX11_findDays_26 : decode cX11_findDays 26 = .ok (.goto 24, 3) := by decide +kernel
theorem dX11_findDays_29 : decode cX11_findDays 29 = .ok (.aload_n 0, 1) := by decide +kernel
theorem dX11_findDays_30 : decode cX11_findDays 30 = .ok (.getfield 93, 3) := by decide +kernel
theorem dX11_findDays_33 : decode cX11_findDays 33 = .ok (.iload_n 1, 1) := by decide +kernel
theorem dX11_findDays_34 : decode cX11_findDays 34 = .ok (.iaload, 1) := by decide +kernel
theorem dX11_findDays_35 : decode cX11_findDays 35 = .ok (.ifCond .le 12, 3) := by decide +kernel
theorem dX11_findDays_38 : decode cX11_findDays 38 = .ok (.aload_n 0, 1) := by decide +kernel
theorem dX11_findDays_39 : decode cX11_findDays 39 = .ok (.getfield 93, 3) := by decide +kernel
theorem dX11_findDays_42 : decode cX11_findDays 42 = .ok (.iload_n 1, 1) := by decide +kernel
theorem dX11_findDays_43 : decode cX11_findDays 43 = .ok (.iaload, 1) := by decide +kernel
theorem dX11_findDays_44 : decode cX11_findDays 44 = .ok (.goto 6, 3) := by decide +kernel
theorem dX11_findDays_47 : decode cX11_findDays 47 = .ok (.ldc_w 352, 3) := by decide +kernel
theorem dX11_findDays_50 : decode cX11_findDays 50 = .ok (.iastore, 1) := by decide +kernel
theorem dX11_findDays_51 : decode cX11_findDays 51 = .ok (.iinc 1 1, 3) := by decide +kernel
theorem dX11_findDays_54 : decode cX11_findDays 54 = .ok (.goto (-52), 3) := by decide +kernel
theorem dX11_findDays_57 : decode cX11_findDays 57 = .ok (.iconst 0, 1) := by decide +kernel
theorem dX11_findDays_58 : decode cX11_findDays 58 = .ok (.istore_n 1, 1) := by decide +kernel
theorem dX11_findDays_59 : decode cX11_findDays 59 = .ok (.iload_n 1, 1) := by decide +kernel
theorem dX11_findDays_60 : decode cX11_findDays 60 = .ok (.bipush 12, 2) := by decide +kernel
theorem dX11_findDays_62 : decode cX11_findDays 62 = .ok (.if_icmp .ge 80, 3) := by decide +kernel
theorem dX11_findDays_65 : decode cX11_findDays 65 = .ok (.iconst 0, 1) := by decide +kernel
theorem dX11_findDays_66 : decode cX11_findDays 66 = .ok (.istore_n 2, 1) := by decide +kernel
theorem dX11_findDays_67 : decode cX11_findDays 67 = .ok (.iload_n 2, 1) := by decide +kernel
theorem dX11_findDays_68 : decode cX11_findDays 68 = .ok (.sipush 144, 3) := by decide +kernel
theorem dX11_findDays_71 : decode cX11_findDays 71 = .ok (.if_icmp .ge 65, 3) := by decide +kernel
theorem dX11_findDays_74 : decode cX11_findDays 74 = .ok (.aload_n 0, 1) := by decide +kernel
theorem dX11_findDays_75 : decode cX11_findDays 75 = .ok (.getfield 96, 3) := by decide +kernel
theorem dX11_findDays_78 : decode cX11_findDays 78 = .ok (.iload_n 2, 1) := by decide +kernel
theorem dX11_findDays_79 : decode cX11_findDays 79 = .ok (.bipush 12, 2) := by decide +kernel
theorem dX11_findDays_81 : decode cX11_findDays 81 = .ok (.idiv, 1) := by decide +kernel
theorem dX11_findDays_82 : decode cX11_findDays 82 = .ok (.bipush 12, 2) := by decide +kernel
theorem dX11_findDays_84 : decode cX11_findDays 84 = .ok (.imul, 1) := by decide +kernel
theorem dX11_findDays_85 : decode cX11_findDays 85 = .ok (.iload_n 1, 1) := by decide +kernel
theorem dX11_findDays_86 : decode cX11_findDays 86 = .ok (.iadd, 1) := by decide +kernel
theorem dX11_findDays_87 : decode cX11_findDays 87 = .ok (.iaload, 1) := by decide +kernel
theorem dX11_findDays_88 : decode cX11_findDays 88 = .ok (.aload_n 0, 1) := by decide +kernel
theorem dX11_findDays_89 : decode cX11_findDays 89 = .ok (.getfield 96, 3) := by decide +kernel
theorem dX11_findDays_92 : decode cX11_findDays 92 = .ok (.bipush 12, 2) := by decide +kernel
theorem dX11_findDays_94 : decode cX11_findDays 94 = .ok (.iload_n 1, 1) := by decide +kernel
theorem dX11_findDays_95 : decode cX11_findDays 95 = .ok (.imul, 1) := by decide +kernel
theorem dX11_findDays_96 : decode cX11_findDays 96 = .ok (.iload_n 2, 1) := by decide +kernel
theorem dX11_findDays_97 : decode cX11_findDays 97 = .ok (.bipush 12, 2) := by decide +kernel
theorem dX11_findDays_99 : decode cX11_findDays 99 = .ok (.irem, 1) := by decide +kernel
theorem dX11_findDays_100 : decode cX11_findDays 100 = .ok (.iadd, 1) := by decide +kernel
theorem dX11_findDays_101 : decode cX11_findDays 101 = .ok (.iaload, 1) := by decide +kernel
theorem dX11_findDays_102 : decode cX11_findDays 102 = .ok (.iadd, 1) := by decide +kernel
theorem dX11_findDays_103 : decode cX11_findDays 103 = .ok (.istore_n 3, 1) := by decide +kernel
theorem dX11_findDays_104 : decode cX11_findDays 104 = .ok (.aload_n 0, 1) := by decide +kernel
theorem dX11_findDays_105 : decode cX11_findDays 105 = .ok (.getfield 96, 3) := by decide +kernel
theorem dX11_findDays_108 : decode cX11_findDays 108 = .ok (.iload_n 2, 1) := by decide +kernel
theorem dX11_findDays_109 : decode cX11_findDays 109 = .ok (.iload_n 3, 1) := by decide +kernel
theorem dX11_findDays_110 : decode cX11_findDays 110 = .ok (.aload_n 0, 1) := by decide +kernel
theorem dX11_findDays_111 : decode cX11_findDays 111 = .ok (.getfield 96, 3) := by decide +kernel
theorem dX11_findDays_114 : decode cX11_findDays 114 = .ok (.iload_n 2, 1) := by decide +kernel
theorem dX11_findDays_115 : decode cX11_findDays 115 = .ok (.iaload, 1) := by decide +kernel
theorem dX11_findDays_116 : decode cX11_findDays 116 = .ok (.if_icmp .ge 7, 3) := by decide +kernel
theorem dX11_findDays_119 : decode cX11_findDays 119 = .ok (.iload_n 3, 1) := by decide +kernel
theorem dX11_findDays_120 : decode cX11_findDays 120 = .ok (.goto 9, 3) := by decide +kernel
theorem dX11_findDays_123 : decode cX11_findDays 123 = .ok (.aload_n 0, 1) := by decide +kernel
theorem dX11_findDays_124 : decode cX11_findDays 124 = .ok (.getfield 96, 3) := by decide +kernel
theorem dX11_findDays_127 : decode cX11_findDays 127 = .ok (.iload_n 2, 1) := by decide +kernel
theorem dX11_findDays_128 : decode cX11_findDays 128 = .ok (.iaload, 1) := by decide +kernel
theorem dX11_findDays_129 : decode cX11_findDays 129 = .ok (.iastore, 1) := by decide +kernel
theorem dX11_findDays_130 : decode cX11_findDays 130 = .ok (.iinc 2 1, 3) := by decide +kernel
theorem dX11_findDays_133 : decode cX11_findDays 133 = .ok (.goto (-66), 3) := by decide +kernel
theorem dX11_findDays_136 : decode cX11_findDays 136 = .ok (.iinc 1 1, 3) := by decide +kernel
theorem dX11_findDays_139 : decode cX11_findDays 139 = .ok (.goto (-80), 3) := by decide +kernel
theorem dX11_findDays_142 : decode cX11_findDays 142 = .ok (.return_, 1) := by decide +kernel
theorem dX11_findSource_0 : decode cX11_findSource 0 = .ok (.aload_n 0, 1) := by decide +kernel
theorem dX11_findSource_1 : decode cX11_findSource 1 = .ok (.iconst (-1), 1) := by decide +kernel
theorem dX11_findSource_2 : decode cX11_findSource 2 = .ok (.putfield 353, 3) := by decide +kernel
theorem dX11_findSource_5 : decode cX11_findSource 5 = .ok (.aload_n 0, 1) := by decide +kernel
theorem dX11_findSource_6 : decode cX11_findSource 6 = .ok (.iconst 0, 1) := by decide +kernel
theorem dX11_findSource_7 : decode cX11_findSource 7 = .ok (.putfield 356, 3) := by decide +kernel
theorem dX11_findSource_10 : decode cX11_findSource 10 = .ok (.aload_n 0, 1) := by decide +kernel
theorem dX11_findSource_11 : decode cX11_findSource 11 = .ok (.iconst 0, 1) := by decide +kernel
theorem dX11_findSource_12 : decode cX11_findSource 12 = .ok (.putfield 359, 3) := by decide +kernel
theorem dX11_findSource_15 : decode cX11_findSource 15 = .ok (.iconst 0, 1) := by decide +kernel
theorem dX11_findSource_16 : decode cX11_findSource 16 = .ok (.istore_n 2, 1) := by decide +kernel
theorem dX11_findSource_17 : decode cX11_findSource 17 = .ok (.iload_n 2, 1) := by decide +kernel
theorem dX11_findSource_18 : decode cX11_findSource 18 = .ok (.bipush 12, 2) := by decide +kernel
theorem dX11_findSource_20 : decode cX11_findSource 20 = .ok (.if_icmp .ge 230, 3) := by decide +kernel
theorem dX11_findSource_23 : decode cX11_findSource 23 = .ok (.aload_n 0, 1) := by decide +kernel
theorem dX11_findSource_24 : decode cX11_findSource 24 = .ok (.getfield 349, 3) := by decide +kernel
theorem dX11_findSource_27 : decode cX11_findSource 27 = .ok (.ifCond .eq 223, 3) := by decide +kernel
theorem dX11_findSource_30 : decode cX11_findSource 30 = .ok (.ldc_w 352, 3) := by decide +kernel
theorem dX11_findSource_33 : decode cX11_findSource 33 = .ok (.istore_n 3, 1) := by decide +kernel
theorem dX11_findSource_34 : decode cX11_findSource 34 = .ok (.iconst 1, 1) := by decide +kernel
theorem dX11_findSource_35 : decode cX11_findSource 35 = .ok (.istore 4, 2) := by decide +kernel
theorem dX11_findSource_37 : decode cX11_findSource 37 = .ok (.iconst 0, 1) := by decide +kernel
theorem dX11_findSource_38 : decode cX11_findSource 38 = .ok (.istore 5, 2) := by decide +kernel
theorem dX11_findSource_40 : decode cX11_findSource 40 = .ok (.iload 5, 2) := by decide +kernel
theorem dX11_findSource_42 : decode cX11_findSource 42 = .ok (.bipush 12, 2) := by decide +kernel
theorem dX11_findSource_44 : decode cX11_findSource 44 = .ok (.if_icmp .ge 91, 3) := by decide +kernel
theorem dX11_findSource_47 : decode cX11_findSource 47 = .ok (.aload_n 0, 1) := by decide +kernel
theorem dX11_findSource_48 : decode cX11_findSource 48 = .ok (.getfield 349, 3) := by decide +kernel
theorem dX11_findSource_51 : decode cX11_findSource 51 = .ok (.iload 5, 2) := by decide +kernel
theorem dX11_findSource_53 : decode cX11_findSource 53 = .ok (.invokestatic 182, 3) := by decide +kernel
theorem dX11_findSource_56 : decode cX11_findSource 56 = .ok (.ifCond .eq 73, 3) := by decide +kernel
theorem dX11_findSource_59 : decode cX11_findSource 59 = .ok (.iload 4, 2) := by decide +kernel
theorem dX11_findSource_61 : decode cX11_findSource 61 = .ok (.ifCond .eq 25, 3) := by decide +kernel
theorem dX11_findSource_64 : decode cX11_findSource 64 = .ok (.aload_n 0, 1) := by decide +kernel
theorem dX11_findSource_65 : decode cX11_findSource 65 = .ok (.getfield 96, 3) := by decide +kernel
theorem dX11_findSource_68 : decode cX11_findSource 68 = .ok (.bipush 12, 2) := by decide +kernel
theorem dX11_findSource_70 : decode cX11_findSource 70 = .ok (.iload_n 2, 1) := by decide +kernel
theorem dX11_findSource_71 : decode cX11_findSource 71 = .ok (.imul, 1) := by decide +kernel
theorem dX11_findSource_72 : decode cX11_findSource 72 = .ok (.iload 5, 2) := by decide +kernel
theorem dX11_findSource_74 : decode cX11_findSource 74 = .ok (.iadd, 1) := by decide +kernel
theorem dX11_findSource_75 : decode cX11_findSource 75 = .ok (.iaload, 1) := by decide +kernel
theorem dX11_findSource_76 : decode cX11_findSource 76 = .ok (.ldc_w 352, 3) := by decide +kernel
theorem dX11_findSource_79 : decode cX11_findSource 79 = .ok (.if_icmp .ge 7, 3) := by decide +kernel
theorem dX11_findSource_82 : decode cX11_findSource 82 = .ok (.iconst 1, 1) := by decide +kernel
theorem dX11_findSource_83 : decode cX11_findSource 83 = .ok (.goto 4, 3) := by decide +kernel
theorem dX11_findSource_86 : decode cX11_findSource 86 = .ok (.iconst 0, 1) := by decide +kernel
theorem dX11_findSource_87 : decode cX11_findSource 87 = .ok (.istore 4, 2) := by decide +kernel
theorem dX11_findSource_89 : decode cX11_findSource 89 = .ok (.aload_n 0, 1) := by decide +kernel
theorem dX11_findSource_90 : decode cX11_findSource 90 = .ok (.getfield 99, 3) := by decide +kernel
theorem dX11_findSource_93 : decode cX11_findSource 93 = .ok (.iload 5, 2) := by decide +kernel
theorem dX11_findSource_95 : decode cX11_findSource 95 = .ok (.iaload, 1) := by decide +kernel
theorem dX11_findSource_96 : decode cX11_findSource 96 = .ok (.aload_n 0, 1) := by decide +kernel
theorem dX11_findSource_97 : decode cX11_findSource 97 = .ok (.getfield 96, 3) := by decide +kernel
theorem dX11_findSource_100 : decode cX11_findSource 100 = .ok (.bipush 12, 2) := by decide +kernel
theorem dX11_findSource_102 : decode cX11_findSource 102 = .ok (.iload_n 2, 1) := by decide +kernel
theorem dX11_findSource_103 : decode cX11_findSource 103 = .ok (.imul, 1) := by decide +kernel
theorem dX11_findSource_104 : decode cX11_findSource 104 = .ok (.iload 5, 2) := by decide +kernel
theorem dX11_findSource_106 : decode cX11_findSource 106 = .ok (.iadd, 1) := by decide +kernel
theorem dX11_findSource_107 : decode cX11_findSource 107 = .ok (.iaload, 1) := by decide +kernel
theorem dX11_findSource_108 : decode cX11_findSource 108 = .ok (.iload_n 1, 1) := by decide +kernel
theorem dX11_findSource_109 : decode cX11_findSource 109 = .ok (.imul, 1) := by decide +kernel
theorem dX11_findSource_110 : decode cX11_findSource 110 = .ok (.bipush 10, 2) := by decide +kernel
theorem dX11_findSource_112 : decode cX11_findSource 112 = .ok (.idiv, 1) := by decide +kernel
theorem dX11_findSource_113 : decode cX11_findSource 113 = .ok (.isub, 1) := by decide +kernel
theorem dX11_findSource_114 : decode cX11_findSource 114 = .ok (.istore 6, 2) := by decide +kernel
theorem dX11_findSource_116 : decode cX11_findSource 116 = .ok (.iload 6, 2) := by decide +kernel
theorem dX11_findSource_118 : decode cX11_findSource 118 = .ok (.iload_n 3, 1) := by decide +kernel
theorem dX11_findSource_119 : decode cX11_findSource 119 = .ok (.if_icmp .ge 8, 3) := by decide +kernel
theorem dX11_findSource_122 : decode cX11_findSource 122 = .ok (.iload 6, 2) := by decide +kernel
theorem dX11_findSource_124 : decode cX11_findSource 124 = .ok (.goto 4, 3) := by decide +kernel
theorem dX11_findSource_127 : decode cX11_findSource 127 = .ok (.iload_n 3, 1) := by decide +kernel
theorem dX11_findSource_128 : decode cX11_findSource 128 = .ok (.istore_n 3, 1) := by decide +kernel
theorem dX11_findSource_129 : decode cX11_findSource 129 = .ok (.iinc 5 1, 3) := by decide +kernel
theorem dX11_findSource_132 : decode cX11_findSource 132 = .ok (.goto (-92), 3) := by decide +kernel
theorem dX11_findSource_135 : decode cX11_findSource 135 = .ok (.iconst 0, 1) := by decide +kernel
theorem dX11_findSource_136 : decode cX11_findSource 136 = .ok (.istore 5, 2) := by decide +kernel
theorem dX11_findSource_138 : decode cX11_findSource 138 = .ok (.iconst 0, 1) := by decide +kernel
theorem dX11_findSource_139 : decode cX11_findSource 139 = .ok (.istore 6, 2) := by decide +kernel
theorem dX11_findSource_141 : decode cX11_findSource 141 = .ok (.iload 6, 2) := by decide +kernel
theorem dX11_findSource_143 : decode cX11_findSource 143 = .ok (.bipush 12, 2) := by decide +kernel
theorem dX11_findSource_145 : decode cX11_findSource 145 = .ok (.if_icmp .ge 62, 3) := by decide +kernel
theorem dX11_findSource_148 : decode cX11_findSource 148 = .ok (.iload 4, 2) := by decide +kernel
theorem dX11_findSource_150 : decode cX11_findSource 150 = .ok (.ifCond .eq 57, 3) := by decide +kernel
theorem dX11_findSource_153 : decode cX11_findSource 153 = .ok (.iload 5, 2) := by decide +kernel
theorem dX11_findSource_155 : decode cX11_findSource 155 = .ok (.aload_n 0, 1) := by decide +kernel
theorem dX11_findSource_156 : decode cX11_findSource 156 = .ok (.getfield 349, 3) := by decide +kernel
theorem dX11_findSource_159 : decode cX11_findSource 159 = .ok (.iload 6, 2) := by decide +kernel
theorem dX11_findSource_161 : decode cX11_findSource 161 = .ok (.invokestatic 182, 3) := by decide +kernel
theorem dX11_findSource_164 : decode cX11_findSource 164 = .ok (.ifCond .eq 33, 3) := by decide +kernel
theorem dX11_findSource_167 : decode cX11_findSource 167 = .ok (.aload_n 0, 1) := by decide +kernel
theorem dX11_findSource_168 : decode cX11_findSource 168 = .ok (.getfield 99, 3) := by decide +kernel
theorem dX11_findSource_171 : decode cX11_findSource 171 = .ok (.iload 6, 2) := by decide +kernel
theorem dX11_findSource_173 : decode cX11_findSource 173 = .ok (.iaload, 1) := by decide +kernel
theorem dX11_findSource_174 : decode cX11_findSource 174 = .ok (.iload_n 3, 1) := by decide +kernel
theorem dX11_findSource_175 : decode cX11_findSource 175 = .ok (.isub, 1) := by decide +kernel
theorem dX11_findSource_176 : decode cX11_findSource 176 = .ok (.aload_n 0, 1) := by decide +kernel
theorem dX11_findSource_177 : decode cX11_findSource 177 = .ok (.getfield 96, 3) := by decide +kernel
theorem dX11_findSource_180 : decode cX11_findSource 180 = .ok (.bipush 12, 2) := by decide +kernel
theorem dX11_findSource_182 : decode cX11_findSource 182 = .ok (.iload_n 2, 1) := by decide +kernel
theorem dX11_findSource_183 : decode cX11_findSource 183 = .ok (.imul, 1) := by decide +kernel
theorem dX11_findSource_184 : decode cX11_findSource 184 = .ok (.iload 6, 2) := by decide +kernel
theorem dX11_findSource_186 : decode cX11_findSource 186 = .ok (.iadd, 1) := by decide +kernel
theorem dX11_findSource_187 : decode cX11_findSource 187 = .ok (.iaload, 1) := by decide +kernel
theorem dX11_findSource_188 : decode cX11_findSource 188 = .ok (.iload_n 1, 1) := by decide +kernel
theorem dX11_findSource_189 : decode cX11_findSource 189 = .ok (.imul, 1) := by decide +kernel
theorem dX11_findSource_190 : decode cX11_findSource 190 = .ok (.bipush 10, 2) := by decide +kernel
theorem dX11_findSource_192 : decode cX11_findSource 192 = .ok (.idiv, 1) := by decide +kernel
theorem dX11_findSource_193 : decode cX11_findSource 193 = .ok (.isub, 1) := by decide +kernel
theorem dX11_findSource_194 : decode cX11_findSource 194 = .ok (.goto 4, 3) := by decide +kernel
theorem dX11_findSource_197 : decode cX11_findSource 197 = .ok (.iconst 0, 1) := by decide +kernel
theorem dX11_findSource_198 : decode cX11_findSource 198 = .ok (.iadd, 1) := by decide +kernel
theorem dX11_findSource_199 : decode cX11_findSource 199 = .ok (.istore 5, 2) := by decide +kernel
theorem dX11_findSource_201 : decode cX11_findSource 201 = .ok (.iinc 6 1, 3) := by decide +kernel
theorem dX11_findSource_204 : decode cX11_findSource 204 = .ok (.goto (-63), 3) := by decide +kernel
theorem dX11_findSource_207 : decode cX11_findSource 207 = .ok (.iload 4, 2) := by decide +kernel
theorem dX11_findSource_209 : decode cX11_findSource 209 = .ok (.ifCond .eq 35, 3) := by decide +kernel
theorem dX11_findSource_212 : decode cX11_findSource 212 = .ok (.aload_n 0, 1) := by decide +kernel
theorem dX11_findSource_213 : decode cX11_findSource 213 = .ok (.getfield 353, 3) := by decide +kernel
theorem dX11_findSource_216 : decode cX11_findSource 216 = .ok (.ifCond .lt 12, 3) := by decide +kernel
theorem dX11_findSource_219 : decode cX11_findSource 219 = .ok (.iload 5, 2) := by decide +kernel
theorem dX11_findSource_221 : decode cX11_findSource 221 = .ok (.aload_n 0, 1) := by decide +kernel
theorem dX11_findSource_222 : decode cX11_findSource 222 = .ok (.getfield 359, 3) := by decide +kernel
theorem dX11_findSource_225 : decode cX11_findSource 225 = .ok (.if_icmp .ge 19, 3) := by decide +kernel
theorem dX11_findSource_228 : decode cX11_findSource 228 = .ok (.aload_n 0, 1) := by decide +kernel
theorem dX11_findSource_229 : decode cX11_findSource 229 = .ok (.iload_n 2, 1) := by decide +kernel
theorem dX11_findSource_230 : decode cX11_findSource 230 = .ok (.putfield 353, 3) := by decide +kernel
theorem dX11_findSource_233 : decode cX11_findSource 233 = .ok (.aload_n 0, 1) := by decide +kernel
theorem dX11_findSource_234 : decode cX11_findSource 234 = .ok (.iload_n 3, 1) := by decide +kernel
theorem dX11_findSource_235 : decode cX11_findSource 235 = .ok (.putfield 356, 3) := by decide +kernel
theorem dX11_findSource_238 : decode cX11_findSource 238 = .ok (.aload_n 0, 1) := by decide +kernel
theorem dX11_findSource_239 : decode cX11_findSource 239 = .ok (.iload 5, 2) := by decide +kernel
theorem dX11_findSource_241 : decode cX11_findSource 241 = .ok (.putfield 359, 3) := by decide +kernel
theorem dX11_findSource_244 : decode cX11_findSource 244 = .ok (.iinc 2 1, 3) := by decide +kernel
theorem dX11_findSource_247 : decode cX11_findSource 247 = .ok (.goto (-230), 3) := by decide +kernel
theorem dX11_findSource_250 : decode cX11_findSource 250 = .ok (.return_, 1) := by decide +kernel
theorem dX11_source_0 : decode cX11_source 0 = .ok (.iload_n 1, 1) := by decide +kernel
theorem dX11_source_1 : decode cX11_source 1 = .ok (.i2l, 1) := by decide +kernel
theorem dX11_source_2 : decode cX11_source 2 = .ok (.lconst 1, 1) := by decide +kernel
theorem dX11_source_3 : decode cX11_source 3 = .ok (.ldc2_w 224, 3) := by decide +kernel
theorem dX11_source_6 : decode cX11_source 6 = .ok (.invokestatic 104, 3) := by decide +kernel
theorem dX11_source_9 : decode cX11_source 9 = .ok (.ifCond .eq 15, 3) := by decide +kernel
theorem dX11_source_12 : decode cX11_source 12 = .ok (.iload_n 2, 1) := by decide +kernel
theorem dX11_source_13 : decode cX11_source 13 = .ok (.i2l, 1) := by decide +kernel
theorem dX11_source_14 : decode cX11_source 14 = .ok (.lconst 0, 1) := by decide +kernel
theorem dX11_source_15 : decode cX11_source 15 = .ok (.ldc2_w 303, 3) := by decide +kernel
theorem dX11_source_18 : decode cX11_source 18 = .ok (.invokestatic 104, 3) := by decide +kernel
theorem dX11_source_21 : decode cX11_source 21 = .ok (.ifCond .ne 6, 3) := by decide +kernel
theorem dX11_source_24 : decode cX11_source 24 = .ok (.ldc 108, 2) := by decide +kernel
theorem dX11_source_26 : decode cX11_source 26 = .ok (.ireturn, 1) := by decide +kernel
theorem dX11_source_27 : decode cX11_source 27 = .ok (.aload_n 0, 1) := by decide +kernel
theorem dX11_source_28 : decode cX11_source 28 = .ok (.invokevirtual 362, 3) := by decide +kernel
theorem dX11_source_31 : decode cX11_source 31 = .ok (.aload_n 0, 1) := by decide +kernel
theorem dX11_source_32 : decode cX11_source 32 = .ok (.iload_n 1, 1) := by decide +kernel
theorem dX11_source_33 : decode cX11_source 33 = .ok (.invokevirtual 365, 3) := by decide +kernel
theorem dX11_source_36 : decode cX11_source 36 = .ok (.aload_n 0, 1) := by decide +kernel
theorem dX11_source_37 : decode cX11_source 37 = .ok (.getfield 353, 3) := by decide +kernel
theorem dX11_source_40 : decode cX11_source 40 = .ok (.ifCond .lt 7, 3) := by decide +kernel
theorem dX11_source_43 : decode cX11_source 43 = .ok (.iload_n 2, 1) := by decide +kernel
theorem dX11_source_44 : decode cX11_source 44 = .ok (.ifCond .ne 10, 3) := by decide +kernel
theorem dX11_source_47 : decode cX11_source 47 = .ok (.aload_n 0, 1) := by decide +kernel
theorem dX11_source_48 : decode cX11_source 48 = .ok (.getfield 353, 3) := by decide +kernel
theorem dX11_source_51 : decode cX11_source 51 = .ok (.goto 23, 3) := by decide +kernel
theorem dX11_source_54 : decode cX11_source 54 = .ok (.iload_n 2, 1) := by decide +kernel
theorem dX11_source_55 : decode cX11_source 55 = .ok (.iconst 1, 1) := by decide +kernel
theorem dX11_source_56 : decode cX11_source 56 = .ok (.if_icmp .ne 14, 3) := by decide +kernel
theorem dX11_source_59 : decode cX11_source 59 = .ok (.aload_n 0, 1) := by decide +kernel
theorem dX11_source_60 : decode cX11_source 60 = .ok (.getfield 356, 3) := by decide +kernel
theorem dX11_source_63 : decode cX11_source 63 = .ok (.sipush 1000, 3) := by decide +kernel
theorem dX11_source_66 : decode cX11_source 66 = .ok (.iadd, 1) := by decide +kernel
theorem dX11_source_67 : decode cX11_source 67 = .ok (.goto 7, 3) := by decide +kernel
theorem dX11_source_70 : decode cX11_source 70 = .ok (.aload_n 0, 1) := by decide +kernel
theorem dX11_source_71 : decode cX11_source 71 = .ok (.getfield 359, 3) := by decide +kernel
theorem dX11_source_74 : decode cX11_source 74 = .ok (.ireturn, 1) := by decide +kernel
theorem dX11_pace_0 : decode cX11_pace 0 = .ok (.aload_n 0, 1) := by decide +kernel
theorem dX11_pace_1 : decode cX11_pace 1 = .ok (.invokevirtual 362, 3) := by decide +kernel
theorem dX11_pace_4 : decode cX11_pace 4 = .ok (.iconst (-1), 1) := by decide +kernel
theorem dX11_pace_5 : decode cX11_pace 5 = .ok (.istore_n 1, 1) := by decide +kernel
theorem dX11_pace_6 : decode cX11_pace 6 = .ok (.iconst 0, 1) := by decide +kernel
theorem dX11_pace_7 : decode cX11_pace 7 = .ok (.istore_n 2, 1) := by decide +kernel
theorem dX11_pace_8 : decode cX11_pace 8 = .ok (.iconst 1, 1) := by decide +kernel
theorem dX11_pace_9 : decode cX11_pace 9 = .ok (.istore_n 3, 1) := by decide +kernel
theorem dX11_pace_10 : decode cX11_pace 10 = .ok (.iload_n 3, 1) := by decide +kernel
theorem dX11_pace_11 : decode cX11_pace 11 = .ok (.bipush 20, 2) := by decide +kernel
theorem dX11_pace_13 : decode cX11_pace 13 = .ok (.if_icmp .gt 40, 3) := by decide +kernel
theorem dX11_pace_16 : decode cX11_pace 16 = .ok (.aload_n 0, 1) := by decide +kernel
theorem dX11_pace_17 : decode cX11_pace 17 = .ok (.iload_n 3, 1) := by decide +kernel
theorem dX11_pace_18 : decode cX11_pace 18 = .ok (.invokevirtual 365, 3) := by decide +kernel
theorem dX11_pace_21 : decode cX11_pace 21 = .ok (.aload_n 0, 1) := by decide +kernel
theorem dX11_pace_22 : decode cX11_pace 22 = .ok (.getfield 353, 3) := by decide +kernel
theorem dX11_pace_25 : decode cX11_pace 25 = .ok (.ifCond .lt 22, 3) := by decide +kernel
theorem dX11_pace_28 : decode cX11_pace 28 = .ok (.iload_n 1, 1) := by decide +kernel
theorem dX11_pace_29 : decode cX11_pace 29 = .ok (.ifCond .lt 11, 3) := by decide +kernel
theorem dX11_pace_32 : decode cX11_pace 32 = .ok (.aload_n 0, 1) := by decide +kernel
theorem dX11_pace_33 : decode cX11_pace 33 = .ok (.getfield 359, 3) := by decide +kernel
theorem dX11_pace_36 : decode cX11_pace 36 = .ok (.iload_n 2, 1) := by decide +kernel
theorem dX11_pace_37 : decode cX11_pace 37 = .ok (.if_icmp .ge 10, 3) := by decide +kernel
theorem dX11_pace_40 : decode cX11_pace 40 = .ok (.iload_n 3, 1) := by decide +kernel
theorem dX11_pace_41 : decode cX11_pace 41 = .ok (.istore_n 1, 1) := by decide +kernel
theorem dX11_pace_42 : decode cX11_pace 42 = .ok (.aload_n 0, 1) := by decide +kernel
theorem dX11_pace_43 : decode cX11_pace 43 = .ok (.getfield 359, 3) := by decide +kernel
theorem dX11_pace_46 : decode cX11_pace 46 = .ok (.istore_n 2, 1) := by decide +kernel
theorem dX11_pace_47 : decode cX11_pace 47 = .ok (.iinc 3 1, 3) := by decide +kernel
theorem dX11_pace_50 : decode cX11_pace 50 = .ok (.goto (-40), 3) := by decide +kernel
theorem dX11_pace_53 : decode cX11_pace 53 = .ok (.iload_n 1, 1) := by decide +kernel
theorem dX11_pace_54 : decode cX11_pace 54 = .ok (.ireturn, 1) := by decide +kernel
theorem dX11_copy_0 : decode cX11_copy 0 = .ok (.iconst 0, 1) := by decide +kernel
theorem dX11_copy_1 : decode cX11_copy 1 = .ok (.istore_n 3, 1) := by decide +kernel
theorem dX11_copy_2 : decode cX11_copy 2 = .ok (.iload_n 3, 1) := by decide +kernel
theorem dX11_copy_3 : decode cX11_copy 3 = .ok (.sipush 1000, 3) := by decide +kernel
theorem dX11_copy_6 : decode cX11_copy 6 = .ok (.if_icmp .ge 25, 3) := by decide +kernel
theorem dX11_copy_9 : decode cX11_copy 9 = .ok (.aload_n 0, 1) := by decide +kernel
theorem dX11_copy_10 : decode cX11_copy 10 = .ok (.getfield 7, 3) := by decide +kernel
theorem dX11_copy_13 : decode cX11_copy 13 = .ok (.iload_n 2, 1) := by decide +kernel
theorem dX11_copy_14 : decode cX11_copy 14 = .ok (.iload_n 3, 1) := by decide +kernel
theorem dX11_copy_15 : decode cX11_copy 15 = .ok (.iadd, 1) := by decide +kernel
theorem dX11_copy_16 : decode cX11_copy 16 = .ok (.aload_n 0, 1) := by decide +kernel
theorem dX11_copy_17 : decode cX11_copy 17 = .ok (.getfield 7, 3) := by decide +kernel
theorem dX11_copy_20 : decode cX11_copy 20 = .ok (.iload_n 1, 1) := by decide +kernel
theorem dX11_copy_21 : decode cX11_copy 21 = .ok (.iload_n 3, 1) := by decide +kernel
theorem dX11_copy_22 : decode cX11_copy 22 = .ok (.iadd, 1) := by decide +kernel
theorem dX11_copy_23 : decode cX11_copy 23 = .ok (.iaload, 1) := by decide +kernel
theorem dX11_copy_24 : decode cX11_copy 24 = .ok (.iastore, 1) := by decide +kernel
theorem dX11_copy_25 : decode cX11_copy 25 = .ok (.iinc 3 1, 3) := by decide +kernel
theorem dX11_copy_28 : decode cX11_copy 28 = .ok (.goto (-26), 3) := by decide +kernel
theorem dX11_copy_31 : decode cX11_copy 31 = .ok (.return_, 1) := by decide +kernel
theorem dX11_seed_0 : decode cX11_seed 0 = .ok (.iload_n 1, 1) := by decide +kernel
theorem dX11_seed_1 : decode cX11_seed 1 = .ok (.ifCond .ge 6, 3) := by decide +kernel
theorem dX11_seed_4 : decode cX11_seed 4 = .ok (.ldc 108, 2) := by decide +kernel
theorem dX11_seed_6 : decode cX11_seed 6 = .ok (.ireturn, 1) := by decide +kernel
theorem dX11_seed_7 : decode cX11_seed 7 = .ok (.aload_n 0, 1) := by decide +kernel
theorem dX11_seed_8 : decode cX11_seed 8 = .ok (.getfield 7, 3) := by decide +kernel
theorem dX11_seed_11 : decode cX11_seed 11 = .ok (.sipush 866, 3) := by decide +kernel
theorem dX11_seed_14 : decode cX11_seed 14 = .ok (.iaload, 1) := by decide +kernel
theorem dX11_seed_15 : decode cX11_seed 15 = .ok (.istore_n 2, 1) := by decide +kernel
theorem dX11_seed_16 : decode cX11_seed 16 = .ok (.aload_n 0, 1) := by decide +kernel
theorem dX11_seed_17 : decode cX11_seed 17 = .ok (.getfield 7, 3) := by decide +kernel
theorem dX11_seed_20 : decode cX11_seed 20 = .ok (.sipush 866, 3) := by decide +kernel
theorem dX11_seed_23 : decode cX11_seed 23 = .ok (.iload_n 1, 1) := by decide +kernel
theorem dX11_seed_24 : decode cX11_seed 24 = .ok (.iastore, 1) := by decide +kernel
theorem dX11_seed_25 : decode cX11_seed 25 = .ok (.iload_n 2, 1) := by decide +kernel
theorem dX11_seed_26 : decode cX11_seed 26 = .ok (.ireturn, 1) := by decide +kernel
theorem dX11_keep_0 : decode cX11_keep 0 = .ok (.iload_n 1, 1) := by decide +kernel
theorem dX11_keep_1 : decode cX11_keep 1 = .ok (.i2l, 1) := by decide +kernel
theorem dX11_keep_2 : decode cX11_keep 2 = .ok (.lconst 0, 1) := by decide +kernel
theorem dX11_keep_3 : decode cX11_keep 3 = .ok (.lconst 1, 1) := by decide +kernel
theorem dX11_keep_4 : decode cX11_keep 4 = .ok (.invokestatic 104, 3) := by decide +kernel
theorem dX11_keep_7 : decode cX11_keep 7 = .ok (.ifCond .ne 6, 3) := by decide +kernel
theorem dX11_keep_10 : decode cX11_keep 10 = .ok (.ldc 205, 2) := by decide +kernel
theorem dX11_keep_12 : decode cX11_keep 12 = .ok (.ireturn, 1) := by decide +kernel
theorem dX11_keep_13 : decode cX11_keep 13 = .ok (.aload_n 0, 1) := by decide +kernel
theorem dX11_keep_14 : decode cX11_keep 14 = .ok (.iconst 0, 1) := by decide +kernel
theorem dX11_keep_15 : decode cX11_keep 15 = .ok (.sipush 2000, 3) := by decide +kernel
theorem dX11_keep_18 : decode cX11_keep 18 = .ok (.sipush 1000, 3) := by decide +kernel
theorem dX11_keep_21 : decode cX11_keep 21 = .ok (.iload_n 1, 1) := by decide +kernel
theorem dX11_keep_22 : decode cX11_keep 22 = .ok (.imul, 1) := by decide +kernel
theorem dX11_keep_23 : decode cX11_keep 23 = .ok (.iadd, 1) := by decide +kernel
theorem dX11_keep_24 : decode cX11_keep 24 = .ok (.invokevirtual 289, 3) := by decide +kernel
theorem dX11_keep_27 : decode cX11_keep 27 = .ok (.aload_n 0, 1) := by decide +kernel
theorem dX11_keep_28 : decode cX11_keep 28 = .ok (.getfield 13, 3) := by decide +kernel
theorem dX11_keep_31 : decode cX11_keep 31 = .ok (.iload_n 1, 1) := by decide +kernel
theorem dX11_keep_32 : decode cX11_keep 32 = .ok (.iconst 1, 1) := by decide +kernel
theorem dX11_keep_33 : decode cX11_keep 33 = .ok (.bastore, 1) := by decide +kernel
theorem dX11_keep_34 : decode cX11_keep 34 = .ok (.iconst 1, 1) := by decide +kernel
theorem dX11_keep_35 : decode cX11_keep 35 = .ok (.ireturn, 1) := by decide +kernel
theorem dX11_goBack_0 : decode cX11_goBack 0 = .ok (.iload_n 1, 1) := by decide +kernel
theorem dX11_goBack_1 : decode cX11_goBack 1 = .ok (.i2l, 1) := by decide +kernel
theorem dX11_goBack_2 : decode cX11_goBack 2 = .ok (.lconst 0, 1) := by decide +kernel
theorem dX11_goBack_3 : decode cX11_goBack 3 = .ok (.lconst 1, 1) := by decide +kernel
theorem dX11_goBack_4 : decode cX11_goBack 4 = .ok (.invokestatic 104, 3) := by decide +kernel
theorem dX11_goBack_7 : decode cX11_goBack 7 = .ok (.ifCond .ne 6, 3) := by decide +kernel
theorem dX11_goBack_10 : decode cX11_goBack 10 = .ok (.ldc 205, 2) := by decide +kernel
theorem dX11_goBack_12 : decode cX11_goBack 12 = .ok (.ireturn, 1) := by decide +kernel
theorem dX11_goBack_13 : decode cX11_goBack 13 = .ok (.aload_n 0, 1) := by decide +kernel
theorem dX11_goBack_14 : decode cX11_goBack 14 = .ok (.getfield 13, 3) := by decide +kernel
theorem dX11_goBack_17 : decode cX11_goBack 17 = .ok (.iload_n 1, 1) := by decide +kernel
theorem dX11_goBack_18 : decode cX11_goBack 18 = .ok (.baload, 1) := by decide +kernel
theorem dX11_goBack_19 : decode cX11_goBack 19 = .ok (.ifCond .ne 6, 3) := by decide +kernel
theorem dX11_goBack_22 : decode cX11_goBack 22 = .ok (.ldc 190, 2) := by decide +kernel
theorem dX11_goBack_24 : decode cX11_goBack 24 = .ok (.ireturn, 1) := by decide +kernel
theorem dX11_goBack_25 : decode cX11_goBack 25 = .ok (.aload_n 0, 1) := by decide +kernel
theorem dX11_goBack_26 : decode cX11_goBack 26 = .ok (.sipush 2000, 3) := by decide +kernel
theorem dX11_goBack_29 : decode cX11_goBack 29 = .ok (.sipush 1000, 3) := by decide +kernel
theorem dX11_goBack_32 : decode cX11_goBack 32 = .ok (.iload_n 1, 1) := by decide +kernel
theorem dX11_goBack_33 : decode cX11_goBack 33 = .ok (.imul, 1) := by decide +kernel
theorem dX11_goBack_34 : decode cX11_goBack 34 = .ok (.iadd, 1) := by decide +kernel
theorem dX11_goBack_35 : decode cX11_goBack 35 = .ok (.iconst 0, 1) := by decide +kernel
theorem dX11_goBack_36 : decode cX11_goBack 36 = .ok (.invokevirtual 289, 3) := by decide +kernel
theorem dX11_goBack_39 : decode cX11_goBack 39 = .ok (.iconst 1, 1) := by decide +kernel
theorem dX11_goBack_40 : decode cX11_goBack 40 = .ok (.ireturn, 1) := by decide +kernel
