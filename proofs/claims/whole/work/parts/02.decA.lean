theorem dX0_init_0 : decode cX0_init 0 = .ok (.aload_n 0, 1) := by decide +kernel
theorem dX0_init_1 : decode cX0_init 1 = .ok (.invokespecial 3, 3) := by decide +kernel
theorem dX0_init_4 : decode cX0_init 4 = .ok (.aload_n 0, 1) := by decide +kernel
theorem dX0_init_5 : decode cX0_init 5 = .ok (.bipush 24, 2) := by decide +kernel
theorem dX0_init_7 : decode cX0_init 7 = .ok (.newarray .int, 2) := by decide +kernel
theorem dX0_init_9 : decode cX0_init 9 = .ok (.putfield 9, 3) := by decide +kernel
theorem dX0_init_12 : decode cX0_init 12 = .ok (.aload_n 0, 1) := by decide +kernel
theorem dX0_init_13 : decode cX0_init 13 = .ok (.bipush 24, 2) := by decide +kernel
theorem dX0_init_15 : decode cX0_init 15 = .ok (.newarray .int, 2) := by decide +kernel
theorem dX0_init_17 : decode cX0_init 17 = .ok (.putfield 15, 3) := by decide +kernel
theorem dX0_init_20 : decode cX0_init 20 = .ok (.aload_n 0, 1) := by decide +kernel
theorem dX0_init_21 : decode cX0_init 21 = .ok (.sipush 144, 3) := by decide +kernel
theorem dX0_init_24 : decode cX0_init 24 = .ok (.newarray .int, 2) := by decide +kernel
theorem dX0_init_26 : decode cX0_init 26 = .ok (.putfield 18, 3) := by decide +kernel
theorem dX0_init_29 : decode cX0_init 29 = .ok (.aload_n 0, 1) := by decide +kernel
theorem dX0_init_30 : decode cX0_init 30 = .ok (.sipush 144, 3) := by decide +kernel
theorem dX0_init_33 : decode cX0_init 33 = .ok (.newarray .int, 2) := by decide +kernel
theorem dX0_init_35 : decode cX0_init 35 = .ok (.putfield 21, 3) := by decide +kernel
theorem dX0_init_38 : decode cX0_init 38 = .ok (.aload_n 0, 1) := by decide +kernel
theorem dX0_init_39 : decode cX0_init 39 = .ok (.sipush 144, 3) := by decide +kernel
theorem dX0_init_42 : decode cX0_init 42 = .ok (.newarray .int, 2) := by decide +kernel
theorem dX0_init_44 : decode cX0_init 44 = .ok (.putfield 24, 3) := by decide +kernel
theorem dX0_init_47 : decode cX0_init 47 = .ok (.aload_n 0, 1) := by decide +kernel
theorem dX0_init_48 : decode cX0_init 48 = .ok (.sipush 144, 3) := by decide +kernel
theorem dX0_init_51 : decode cX0_init 51 = .ok (.newarray .int, 2) := by decide +kernel
theorem dX0_init_53 : decode cX0_init 53 = .ok (.putfield 27, 3) := by decide +kernel
theorem dX0_init_56 : decode cX0_init 56 = .ok (.aload_n 0, 1) := by decide +kernel
theorem dX0_init_57 : decode cX0_init 57 = .ok (.sipush 144, 3) := by decide +kernel
theorem dX0_init_60 : decode cX0_init 60 = .ok (.newarray .int, 2) := by decide +kernel
theorem dX0_init_62 : decode cX0_init 62 = .ok (.putfield 30, 3) := by decide +kernel
theorem dX0_init_65 : decode cX0_init 65 = .ok (.aload_n 0, 1) := by decide +kernel
theorem dX0_init_66 : decode cX0_init 66 = .ok (.bipush 40, 2) := by decide +kernel
theorem dX0_init_68 : decode cX0_init 68 = .ok (.newarray .int, 2) := by decide +kernel
theorem dX0_init_70 : decode cX0_init 70 = .ok (.putfield 33, 3) := by decide +kernel
theorem dX0_init_73 : decode cX0_init 73 = .ok (.aload_n 0, 1) := by decide +kernel
theorem dX0_init_74 : decode cX0_init 74 = .ok (.bipush 40, 2) := by decide +kernel
theorem dX0_init_76 : decode cX0_init 76 = .ok (.newarray .int, 2) := by decide +kernel
theorem dX0_init_78 : decode cX0_init 78 = .ok (.putfield 36, 3) := by decide +kernel
theorem dX0_init_81 : decode cX0_init 81 = .ok (.aload_n 0, 1) := by decide +kernel
theorem dX0_init_82 : decode cX0_init 82 = .ok (.bipush 40, 2) := by decide +kernel
theorem dX0_init_84 : decode cX0_init 84 = .ok (.newarray .int, 2) := by decide +kernel
theorem dX0_init_86 : decode cX0_init 86 = .ok (.putfield 39, 3) := by decide +kernel
theorem dX0_init_89 : decode cX0_init 89 = .ok (.return_, 1) := by decide +kernel
theorem dX0_clear_0 : decode cX0_clear 0 = .ok (.aload_n 0, 1) := by decide +kernel
theorem dX0_clear_1 : decode cX0_clear 1 = .ok (.getfield 9, 3) := by decide +kernel
theorem dX0_clear_4 : decode cX0_clear 4 = .ok (.iconst 0, 1) := by decide +kernel
theorem dX0_clear_5 : decode cX0_clear 5 = .ok (.invokestatic 42, 3) := by decide +kernel
theorem dX0_clear_8 : decode cX0_clear 8 = .ok (.aload_n 0, 1) := by decide +kernel
theorem dX0_clear_9 : decode cX0_clear 9 = .ok (.getfield 15, 3) := by decide +kernel
theorem dX0_clear_12 : decode cX0_clear 12 = .ok (.iconst 0, 1) := by decide +kernel
theorem dX0_clear_13 : decode cX0_clear 13 = .ok (.invokestatic 42, 3) := by decide +kernel
theorem dX0_clear_16 : decode cX0_clear 16 = .ok (.aload_n 0, 1) := by decide +kernel
theorem dX0_clear_17 : decode cX0_clear 17 = .ok (.getfield 27, 3) := by decide +kernel
theorem dX0_clear_20 : decode cX0_clear 20 = .ok (.iconst 0, 1) := by decide +kernel
theorem dX0_clear_21 : decode cX0_clear 21 = .ok (.invokestatic 42, 3) := by decide +kernel
theorem dX0_clear_24 : decode cX0_clear 24 = .ok (.aload_n 0, 1) := by decide +kernel
theorem dX0_clear_25 : decode cX0_clear 25 = .ok (.getfield 30, 3) := by decide +kernel
theorem dX0_clear_28 : decode cX0_clear 28 = .ok (.iconst 0, 1) := by decide +kernel
theorem dX0_clear_29 : decode cX0_clear 29 = .ok (.invokestatic 42, 3) := by decide +kernel
theorem dX0_clear_32 : decode cX0_clear 32 = .ok (.aload_n 0, 1) := by decide +kernel
theorem dX0_clear_33 : decode cX0_clear 33 = .ok (.iconst 0, 1) := by decide +kernel
theorem dX0_clear_34 : decode cX0_clear 34 = .ok (.putfield 48, 3) := by decide +kernel
theorem dX0_clear_37 : decode cX0_clear 37 = .ok (.aload_n 0, 1) := by decide +kernel
theorem dX0_clear_38 : decode cX0_clear 38 = .ok (.iconst 0, 1) := by decide +kernel
theorem dX0_clear_39 : decode cX0_clear 39 = .ok (.putfield 52, 3) := by decide +kernel
theorem dX0_clear_42 : decode cX0_clear 42 = .ok (.aload_n 0, 1) := by decide +kernel
theorem dX0_clear_43 : decode cX0_clear 43 = .ok (.iconst 0, 1) := by decide +kernel
theorem dX0_clear_44 : decode cX0_clear 44 = .ok (.putfield 55, 3) := by decide +kernel
theorem dX0_clear_47 : decode cX0_clear 47 = .ok (.return_, 1) := by decide +kernel
theorem dX0_copyFrom_0 : decode cX0_copyFrom 0 = .ok (.aload_n 1, 1) := by decide +kernel
theorem dX0_copyFrom_1 : decode cX0_copyFrom 1 = .ok (.getfield 9, 3) := by decide +kernel
theorem dX0_copyFrom_4 : decode cX0_copyFrom 4 = .ok (.iconst 0, 1) := by decide +kernel
theorem dX0_copyFrom_5 : decode cX0_copyFrom 5 = .ok (.aload_n 0, 1) := by decide +kernel
theorem dX0_copyFrom_6 : decode cX0_copyFrom 6 = .ok (.getfield 9, 3) := by decide +kernel
theorem dX0_copyFrom_9 : decode cX0_copyFrom 9 = .ok (.iconst 0, 1) := by decide +kernel
theorem dX0_copyFrom_10 : decode cX0_copyFrom 10 = .ok (.bipush 24, 2) := by decide +kernel
theorem dX0_copyFrom_12 : decode cX0_copyFrom 12 = .ok (.invokestatic 58, 3) := by decide +kernel
theorem dX0_copyFrom_15 : decode cX0_copyFrom 15 = .ok (.aload_n 1, 1) := by decide +kernel
theorem dX0_copyFrom_16 : decode cX0_copyFrom 16 = .ok (.getfield 15, 3) := by decide +kernel
theorem dX0_copyFrom_19 : decode cX0_copyFrom 19 = .ok (.iconst 0, 1) := by decide +kernel
theorem dX0_copyFrom_20 : decode cX0_copyFrom 20 = .ok (.aload_n 0, 1) := by decide +kernel
theorem dX0_copyFrom_21 : decode cX0_copyFrom 21 = .ok (.getfield 15, 3) := by decide +kernel
theorem dX0_copyFrom_24 : decode cX0_copyFrom 24 = .ok (.iconst 0, 1) := by decide +kernel
theorem dX0_copyFrom_25 : decode cX0_copyFrom 25 = .ok (.bipush 24, 2) := by decide +kernel
theorem dX0_copyFrom_27 : decode cX0_copyFrom 27 = .ok (.invokestatic 58, 3) := by decide +kernel
theorem dX0_copyFrom_30 : decode cX0_copyFrom 30 = .ok (.aload_n 1, 1) := by decide +kernel
theorem dX0_copyFrom_31 : decode cX0_copyFrom 31 = .ok (.getfield 18, 3) := by decide +kernel
theorem dX0_copyFrom_34 : decode cX0_copyFrom 34 = .ok (.iconst 0, 1) := by decide +kernel
theorem dX0_copyFrom_35 : decode cX0_copyFrom 35 = .ok (.aload_n 0, 1) := by decide +kernel
theorem dX0_copyFrom_36 : decode cX0_copyFrom 36 = .ok (.getfield 18, 3) := by decide +kernel
theorem dX0_copyFrom_39 : decode cX0_copyFrom 39 = .ok (.iconst 0, 1) := by decide +kernel
theorem dX0_copyFrom_40 : decode cX0_copyFrom 40 = .ok (.sipush 144, 3) := by decide +kernel
theorem dX0_copyFrom_43 : decode cX0_copyFrom 43 = .ok (.invokestatic 58, 3) := by decide +kernel
theorem dX0_copyFrom_46 : decode cX0_copyFrom 46 = .ok (.aload_n 1, 1) := by decide +kernel
theorem dX0_copyFrom_47 : decode cX0_copyFrom 47 = .ok (.getfield 21, 3) := by decide +kernel
theorem dX0_copyFrom_50 : decode cX0_copyFrom 50 = .ok (.iconst 0, 1) := by decide +kernel
theorem dX0_copyFrom_51 : decode cX0_copyFrom 51 = .ok (.aload_n 0, 1) := by decide +kernel
theorem dX0_copyFrom_52 : decode cX0_copyFrom 52 = .ok (.getfield 21, 3) := by decide +kernel
theorem dX0_copyFrom_55 : decode cX0_copyFrom 55 = .ok (.iconst 0, 1) := by decide +kernel
theorem dX0_copyFrom_56 : decode cX0_copyFrom 56 = .ok (.sipush 144, 3) := by decide +kernel
theorem dX0_copyFrom_59 : decode cX0_copyFrom 59 = .ok (.invokestatic 58, 3) := by decide +kernel
theorem dX0_copyFrom_62 : decode cX0_copyFrom 62 = .ok (.aload_n 1, 1) := by decide +kernel
theorem dX0_copyFrom_63 : decode cX0_copyFrom 63 = .ok (.getfield 24, 3) := by decide +kernel
theorem dX0_copyFrom_66 : decode cX0_copyFrom 66 = .ok (.iconst 0, 1) := by decide +kernel
theorem dX0_copyFrom_67 : decode cX0_copyFrom 67 = .ok (.aload_n 0, 1) := by decide +kernel
theorem dX0_copyFrom_68 : decode cX0_copyFrom 68 = .ok (.getfield 24, 3) := by decide +kernel
theorem dX0_copyFrom_71 : decode cX0_copyFrom 71 = .ok (.iconst 0, 1) := by decide +kernel
theorem dX0_copyFrom_72 : decode cX0_copyFrom 72 = .ok (.sipush 144, 3) := by decide +kernel
theorem dX0_copyFrom_75 : decode cX0_copyFrom 75 = .ok (.invokestatic 58, 3) := by decide +kernel
theorem dX0_copyFrom_78 : decode cX0_copyFrom 78 = .ok (.aload_n 1, 1) := by decide +kernel
theorem dX0_copyFrom_79 : decode cX0_copyFrom 79 = .ok (.getfield 27, 3) := by decide +kernel
theorem dX0_copyFrom_82 : decode cX0_copyFrom 82 = .ok (.iconst 0, 1) := by decide +kernel
theorem dX0_copyFrom_83 : decode cX0_copyFrom 83 = .ok (.aload_n 0, 1) := by decide +kernel
theorem dX0_copyFrom_84 : decode cX0_copyFrom 84 = .ok (.getfield 27, 3) := by decide +kernel
theorem dX0_copyFrom_87 : decode cX0_copyFrom 87 = .ok (.iconst 0, 1) := by decide +kernel
theorem dX0_copyFrom_88 : decode cX0_copyFrom 88 = .ok (.sipush 144, 3) := by decide +kernel
theorem dX0_copyFrom_91 : decode cX0_copyFrom 91 = .ok (.invokestatic 58, 3) := by decide +kernel
theorem dX0_copyFrom_94 : decode cX0_copyFrom 94 = .ok (.aload_n 1, 1) := by decide +kernel
theorem dX0_copyFrom_95 : decode cX0_copyFrom 95 = .ok (.getfield 30, 3) := by decide +kernel
theorem dX0_copyFrom_98 : decode cX0_copyFrom 98 = .ok (.iconst 0, 1) := by decide +kernel
theorem dX0_copyFrom_99 : decode cX0_copyFrom 99 = .ok (.aload_n 0, 1) := by decide +kernel
theorem dX0_copyFrom_100 : decode cX0_copyFrom 100 = .ok (.getfield 30, 3) := by decide +kernel
theorem dX0_copyFrom_103 : decode cX0_copyFrom 103 = .ok (.iconst 0, 1) := by decide +kernel
theorem dX0_copyFrom_104 : decode cX0_copyFrom 104 = .ok (.sipush 144, 3) := by decide +kernel
theorem dX0_copyFrom_107 : decode cX0_copyFrom 107 = .ok (.invokestatic 58, 3) := by decide +kernel
theorem dX0_copyFrom_110 : decode cX0_copyFrom 110 = .ok (.aload_n 1, 1) := by decide +kernel
theorem dX0_copyFrom_111 : decode cX0_copyFrom 111 = .ok (.getfield 33, 3) := by decide +kernel
theorem dX0_copyFrom_114 : decode cX0_copyFrom 114 = .ok (.iconst 0, 1) := by decide +kernel
theorem dX0_copyFrom_115 : decode cX0_copyFrom 115 = .ok (.aload_n 0, 1) := by decide +kernel
theorem dX0_copyFrom_116 : decode cX0_copyFrom 116 = .ok (.getfield 33, 3) := by decide +kernel
theorem dX0_copyFrom_119 : decode cX0_copyFrom 119 = .ok (.iconst 0, 1) := by decide +kernel
theorem dX0_copyFrom_120 : decode cX0_copyFrom 120 = .ok (.bipush 40, 2) := by decide +kernel
theorem dX0_copyFrom_122 : decode cX0_copyFrom 122 = .ok (.invokestatic 58, 3) := by decide +kernel
theorem dX0_copyFrom_125 : decode cX0_copyFrom 125 = .ok (.aload_n 1, 1) := by decide +kernel
theorem dX0_copyFrom_126 : decode cX0_copyFrom 126 = .ok (.getfield 36, 3) := by decide +kernel
theorem dX0_copyFrom_129 : decode cX0_copyFrom 129 = .ok (.iconst 0, 1) := by decide +kernel
theorem dX0_copyFrom_130 : decode cX0_copyFrom 130 = .ok (.aload_n 0, 1) := by decide +kernel
theorem dX0_copyFrom_131 : decode cX0_copyFrom 131 = .ok (.getfield 36, 3) := by decide +kernel
theorem dX0_copyFrom_134 : decode cX0_copyFrom 134 = .ok (.iconst 0, 1) := by decide +kernel
theorem dX0_copyFrom_135 : decode cX0_copyFrom 135 = .ok (.bipush 40, 2) := by decide +kernel
theorem dX0_copyFrom_137 : decode cX0_copyFrom 137 = .ok (.invokestatic 58, 3) := by decide +kernel
theorem dX0_copyFrom_140 : decode cX0_copyFrom 140 = .ok (.aload_n 1, 1) := by decide +kernel
theorem dX0_copyFrom_141 : decode cX0_copyFrom 141 = .ok (.getfield 39, 3) := by decide +kernel
theorem dX0_copyFrom_144 : decode cX0_copyFrom 144 = .ok (.iconst 0, 1) := by decide +kernel
theorem dX0_copyFrom_145 : decode cX0_copyFrom 145 = .ok (.aload_n 0, 1) := by decide +kernel
theorem dX0_copyFrom_146 : decode cX0_copyFrom 146 = .ok (.getfield 39, 3) := by decide +kernel
theorem dX0_copyFrom_149 : decode cX0_copyFrom 149 = .ok (.iconst 0, 1) := by decide +kernel
theorem dX0_copyFrom_150 : decode cX0_copyFrom 150 = .ok (.bipush 40, 2) := by decide +kernel
theorem dX0_copyFrom_152 : decode cX0_copyFrom 152 = .ok (.invokestatic 58, 3) := by decide +kernel
theorem dX0_copyFrom_155 : decode cX0_copyFrom 155 = .ok (.aload_n 0, 1) := by decide +kernel
theorem dX0_copyFrom_156 : decode cX0_copyFrom 156 = .ok (.aload_n 1, 1) := by decide +kernel
theorem dX0_copyFrom_157 : decode cX0_copyFrom 157 = .ok (.getfield 48, 3) := by decide +kernel
theorem dX0_copyFrom_160 : decode cX0_copyFrom 160 = .ok (.putfield 48, 3) := by decide +kernel
theorem dX0_copyFrom_163 : decode cX0_copyFrom 163 = .ok (.aload_n 0, 1) := by decide +kernel
theorem dX0_copyFrom_164 : decode cX0_copyFrom 164 = .ok (.aload_n 1, 1) := by decide +kernel
theorem dX0_copyFrom_165 : decode cX0_copyFrom 165 = .ok (.getfield 52, 3) := by decide +kernel
theorem dX0_copyFrom_168 : decode cX0_copyFrom 168 = .ok (.putfield 52, 3) := by decide +kernel
theorem dX0_copyFrom_171 : decode cX0_copyFrom 171 = .ok (.aload_n 0, 1) := by decide +kernel
theorem dX0_copyFrom_172 : decode cX0_copyFrom 172 = .ok (.aload_n 1, 1) := by decide +kernel
theorem dX0_copyFrom_173 : decode cX0_copyFrom 173 = .ok (.getfield 55, 3) := by decide +kernel
theorem dX0_copyFrom_176 : decode cX0_copyFrom 176 = .ok (.putfield 55, 3) := by decide +kernel
theorem dX0_copyFrom_179 : decode cX0_copyFrom 179 = .ok (.aload_n 0, 1) := by decide +kernel
theorem dX0_copyFrom_180 : decode cX0_copyFrom 180 = .ok (.aload_n 1, 1) := by decide +kernel
theorem dX0_copyFrom_181 : decode cX0_copyFrom 181 = .ok (.getfield 64, 3) := by decide +kernel
theorem dX0_copyFrom_184 : decode cX0_copyFrom 184 = .ok (.putfield 64, 3) := by decide +kernel
theorem dX0_copyFrom_187 : decode cX0_copyFrom 187 = .ok (.return_, 1) := by decide +kernel
theorem dX0_draw_0 : decode cX0_draw 0 = .ok (.aload_n 0, 1) := by decide +kernel
theorem dX0_draw_1 : decode cX0_draw 1 = .ok (.aload_n 0, 1) := by decide +kernel
theorem dX0_draw_2 : decode cX0_draw 2 = .ok (.getfield 64, 3) := by decide +kernel
theorem dX0_draw_5 : decode cX0_draw 5 = .ok (.ldc2_w 68, 3) := by decide +kernel
theorem dX0_draw_8 : decode cX0_draw 8 = .ok (.lmul, 1) := by decide +kernel
theorem dX0_draw_9 : decode cX0_draw 9 = .ok (.ldc2_w 70, 3) := by decide +kernel
theorem dX0_draw_12 : decode cX0_draw 12 = .ok (.ladd, 1) := by decide +kernel
theorem dX0_draw_13 : decode cX0_draw 13 = .ok (.ldc2_w 72, 3) := by decide +kernel
theorem dX0_draw_16 : decode cX0_draw 16 = .ok (.lrem, 1) := by decide +kernel
theorem dX0_draw_17 : decode cX0_draw 17 = .ok (.putfield 64, 3) := by decide +kernel
theorem dX0_draw_20 : decode cX0_draw 20 = .ok (.iload_n 1, 1) := by decide +kernel
theorem dX0_draw_21 : decode cX0_draw 21 = .ok (.ifCond .le 18, 3) := by decide +kernel
theorem dX0_draw_24 : decode cX0_draw 24 = .ok (.aload_n 0, 1) := by decide +kernel
theorem dX0_draw_25 : decode cX0_draw 25 = .ok (.getfield 64, 3) := by decide +kernel
theorem dX0_draw_28 : decode cX0_draw 28 = .ok (.ldc2_w 74, 3) := by decide +kernel
theorem dX0_draw_31 : decode cX0_draw 31 = .ok (.ldiv, 1) := by decide +kernel
theorem dX0_draw_32 : decode cX0_draw 32 = .ok (.iload_n 1, 1) := by decide +kernel
theorem dX0_draw_33 : decode cX0_draw 33 = .ok (.i2l, 1) := by decide +kernel
theorem dX0_draw_34 : decode cX0_draw 34 = .ok (.lrem, 1) := by decide +kernel
theorem dX0_draw_35 : decode cX0_draw 35 = .ok (.l2i, 1) := by decide +kernel
theorem dX0_draw_36 : decode cX0_draw 36 = .ok (.goto 4, 3) := by decide +kernel
theorem dX0_draw_39 : decode cX0_draw 39 = .ok (.iconst 0, 1) := by decide +kernel
theorem dX0_draw_40 : decode cX0_draw 40 = .ok (.ireturn, 1) := by decide +kernel
theorem dX0_has_0 : decode cX0_has 0 = .ok (.aload_n 0, 1) := by decide +kernel
theorem dX0_has_1 : decode cX0_has 1 = .ok (.getfield 9, 3) := by decide +kernel
theorem dX0_has_4 : decode cX0_has 4 = .ok (.iload_n 1, 1) := by decide +kernel
theorem dX0_has_5 : decode cX0_has 5 = .ok (.iaload, 1) := by decide +kernel
theorem dX0_has_6 : decode cX0_has 6 = .ok (.iload_n 2, 1) := by decide +kernel
theorem dX0_has_7 : decode cX0_has 7 = .ok (.ishr, 1) := by decide +kernel
theorem dX0_has_8 : decode cX0_has 8 = .ok (.iconst 1, 1) := by decide +kernel
theorem dX0_has_9 : decode cX0_has 9 = .ok (.iand, 1) := by decide +kernel
theorem dX0_has_10 : decode cX0_has 10 = .ok (.ifCond .eq 7, 3) := by decide +kernel
theorem dX0_has_13 : decode cX0_has 13 = .ok (.iconst 1, 1) := by decide +kernel
theorem dX0_has_14 : decode cX0_has 14 = .ok (.goto 4, 3) := by decide +kernel
theorem dX0_has_17 : decode cX0_has 17 = .ok (.iconst 0, 1) := by decide +kernel
theorem dX0_has_18 : decode cX0_has 18 = .ok (.ireturn, 1) := by decide +kernel
theorem dX0_stateOf_0 : decode cX0_stateOf 0 = .ok (.aload_n 0, 1) := by decide +kernel
theorem dX0_stateOf_1 : decode cX0_stateOf 1 = .ok (.iload_n 1, 1) := by decide +kernel
theorem dX0_stateOf_2 : decode cX0_stateOf 2 = .ok (.iload_n 2, 1) := by decide +kernel
theorem dX0_stateOf_3 : decode cX0_stateOf 3 = .ok (.invokevirtual 76, 3) := by decide +kernel
theorem dX0_stateOf_6 : decode cX0_stateOf 6 = .ok (.ifCond .ne 5, 3) := by decide +kernel
theorem dX0_stateOf_9 : decode cX0_stateOf 9 = .ok (.iconst 0, 1) := by decide +kernel
theorem dX0_stateOf_10 : decode cX0_stateOf 10 = .ok (.ireturn, 1) := by decide +kernel
theorem dX0_stateOf_11 : decode cX0_stateOf 11 = .ok (.aload_n 0, 1) := by decide +kernel
theorem dX0_stateOf_12 : decode cX0_stateOf 12 = .ok (.getfield 15, 3) := by decide +kernel
theorem dX0_stateOf_15 : decode cX0_stateOf 15 = .ok (.iload_n 1, 1) := by decide +kernel
theorem dX0_stateOf_16 : decode cX0_stateOf 16 = .ok (.iaload, 1) := by decide +kernel
theorem dX0_stateOf_17 : decode cX0_stateOf 17 = .ok (.iload_n 2, 1) := by decide +kernel
theorem dX0_stateOf_18 : decode cX0_stateOf 18 = .ok (.ishr, 1) := by decide +kernel
theorem dX0_stateOf_19 : decode cX0_stateOf 19 = .ok (.iconst 1, 1) := by decide +kernel
theorem dX0_stateOf_20 : decode cX0_stateOf 20 = .ok (.iand, 1) := by decide +kernel
theorem dX0_stateOf_21 : decode cX0_stateOf 21 = .ok (.ifCond .eq 7, 3) := by decide +kernel
theorem dX0_stateOf_24 : decode cX0_stateOf 24 = .ok (.iconst 1, 1) := by decide +kernel
theorem dX0_stateOf_25 : decode cX0_stateOf 25 = .ok (.goto 4, 3) := by decide +kernel
theorem dX0_stateOf_28 : decode cX0_stateOf 28 = .ok (.iconst 2, 1) := by decide +kernel
theorem dX0_stateOf_29 : decode cX0_stateOf 29 = .ok (.ireturn, 1) := by decide +kernel
theorem dX0_setOf_0 : decode cX0_setOf 0 = .ok (.iconst 0, 1) := by decide +kernel
theorem dX0_setOf_1 : decode cX0_setOf 1 = .ok (.istore_n 3, 1) := by decide +kernel
theorem dX0_setOf_2 : decode cX0_setOf 2 = .ok (.iconst 0, 1) := by decide +kernel
theorem dX0_setOf_3 : decode cX0_setOf 3 = .ok (.istore 4, 2) := by decide +kernel
theorem dX0_setOf_5 : decode cX0_setOf 5 = .ok (.iload 4, 2) := by decide +kernel
theorem dX0_setOf_7 : decode cX0_setOf 7 = .ok (.iload_n 2, 1) := by decide +kernel
theorem dX0_setOf_8 : decode cX0_setOf 8 = .ok (.if_icmp .ge 33, 3) := by decide +kernel
theorem dX0_setOf_11 : decode cX0_setOf 11 = .ok (.iload 4, 2) := by decide +kernel
theorem dX0_setOf_13 : decode cX0_setOf 13 = .ok (.bipush 24, 2) := by decide +kernel
theorem dX0_setOf_15 : decode cX0_setOf 15 = .ok (.if_icmp .ge 26, 3) := by decide +kernel
theorem dX0_setOf_18 : decode cX0_setOf 18 = .ok (.aload_n 0, 1) := by decide +kernel
theorem dX0_setOf_19 : decode cX0_setOf 19 = .ok (.iload 4, 2) := by decide +kernel
theorem dX0_setOf_21 : decode cX0_setOf 21 = .ok (.iload_n 1, 1) := by decide +kernel
theorem dX0_setOf_22 : decode cX0_setOf 22 = .ok (.invokevirtual 76, 3) := by decide +kernel
theorem dX0_setOf_25 : decode cX0_setOf 25 = .ok (.ifCond .eq 10, 3) := by decide +kernel
theorem dX0_setOf_28 : decode cX0_setOf 28 = .ok (.iload_n 3, 1) := by decide +kernel
theorem dX0_setOf_29 : decode cX0_setOf 29 = .ok (.iconst 1, 1) := by decide +kernel
theorem dX0_setOf_30 : decode cX0_setOf 30 = .ok (.iload 4, 2) := by decide +kernel
theorem dX0_setOf_32 : decode cX0_setOf 32 = .ok (.ishl, 1) := by decide +kernel
theorem dX0_setOf_33 : decode cX0_setOf 33 = .ok (.ior, 1) := by decide +kernel
theorem dX0_setOf_34 : decode cX0_setOf 34 = .ok (.istore_n 3, 1) := by decide +kernel
theorem dX0_setOf_35 : decode cX0_setOf 35 = .ok (.iinc 4 1, 3) := by decide +kernel
theorem dX0_setOf_38 : decode cX0_setOf 38 = .ok (.goto (-33), 3) := by decide +kernel
theorem dX0_setOf_41 : decode cX0_setOf 41 = .ok (.iload_n 3, 1) := by decide +kernel
theorem dX0_setOf_42 : decode cX0_setOf 42 = .ok (.ireturn, 1) := by decide +kernel
theorem dX0_take_0 : decode cX0_take 0 = .ok (.iload_n 1, 1) := by decide +kernel
theorem dX0_take_1 : decode cX0_take 1 = .ok (.bipush 6, 2) := by decide +kernel
theorem dX0_take_3 : decode cX0_take 3 = .ok (.imul, 1) := by decide +kernel
theorem dX0_take_4 : decode cX0_take 4 = .ok (.iload_n 2, 1) := by decide +kernel
theorem dX0_take_5 : decode cX0_take 5 = .ok (.iadd, 1) := by decide +kernel
theorem dX0_take_6 : decode cX0_take 6 = .ok (.istore 5, 2) := by decide +kernel
theorem dX0_take_8 : decode cX0_take 8 = .ok (.aload_n 0, 1) := by decide +kernel
theorem dX0_take_9 : decode cX0_take 9 = .ok (.getfield 9, 3) := by decide +kernel
theorem dX0_take_12 : decode cX0_take 12 = .ok (.iload_n 1, 1) := by decide +kernel
theorem dX0_take_13 : decode cX0_take 13 = .ok (.dup2, 1) := by decide +kernel
theorem dX0_take_14 : decode cX0_take 14 = .ok (.iaload, 1) := by decide +kernel
theorem dX0_take_15 : decode cX0_take 15 = .ok (.iconst 1, 1) := by decide +kernel
theorem dX0_take_16 : decode cX0_take 16 = .ok (.iload_n 2, 1) := by decide +kernel
theorem dX0_take_17 : decode cX0_take 17 = .ok (.ishl, 1) := by decide +kernel
theorem dX0_take_18 : decode cX0_take 18 = .ok (.ior, 1) := by decide +kernel
theorem dX0_take_19 : decode cX0_take 19 = .ok (.iastore, 1) := by decide +kernel
theorem dX0_take_20 : decode cX0_take 20 = .ok (.aload_n 0, 1) := by decide +kernel
theorem dX0_take_21 : decode cX0_take 21 = .ok (.getfield 15, 3) := by decide +kernel
theorem dX0_take_24 : decode cX0_take 24 = .ok (.iload_n 1, 1) := by decide +kernel
theorem dX0_take_25 : decode cX0_take 25 = .ok (.dup2, 1) := by decide +kernel
theorem dX0_take_26 : decode cX0_take 26 = .ok (.iaload, 1) := by decide +kernel
theorem dX0_take_27 : decode cX0_take 27 = .ok (.iconst 1, 1) := by decide +kernel
theorem dX0_take_28 : decode cX0_take 28 = .ok (.iload_n 2, 1) := by decide +kernel
theorem dX0_take_29 : decode cX0_take 29 = .ok (.ishl, 1) := by decide +kernel
theorem dX0_take_30 : decode cX0_take 30 = .ok (.ior, 1) := by decide +kernel
theorem dX0_take_31 : decode cX0_take 31 = .ok (.iastore, 1) := by decide +kernel
theorem dX0_take_32 : decode cX0_take 32 = .ok (.aload_n 0, 1) := by decide +kernel
theorem dX0_take_33 : decode cX0_take 33 = .ok (.getfield 18, 3) := by decide +kernel
theorem dX0_take_36 : decode cX0_take 36 = .ok (.iload 5, 2) := by decide +kernel
theorem dX0_take_38 : decode cX0_take 38 = .ok (.iload_n 3, 1) := by decide +kernel
theorem dX0_take_39 : decode cX0_take 39 = .ok (.iastore, 1) := by decide +kernel
theorem dX0_take_40 : decode cX0_take 40 = .ok (.aload_n 0, 1) := by decide +kernel
theorem dX0_take_41 : decode cX0_take 41 = .ok (.getfield 21, 3) := by decide +kernel
theorem dX0_take_44 : decode cX0_take 44 = .ok (.iload 5, 2) := by decide +kernel
theorem dX0_take_46 : decode cX0_take 46 = .ok (.iload 4, 2) := by decide +kernel
theorem dX0_take_48 : decode cX0_take 48 = .ok (.iastore, 1) := by decide +kernel
theorem dX0_take_49 : decode cX0_take 49 = .ok (.aload_n 0, 1) := by decide +kernel
theorem dX0_take_50 : decode cX0_take 50 = .ok (.getfield 24, 3) := by decide +kernel
theorem dX0_take_53 : decode cX0_take 53 = .ok (.iload 5, 2) := by decide +kernel
theorem dX0_take_55 : decode cX0_take 55 = .ok (.aload_n 0, 1) := by decide +kernel
theorem dX0_take_56 : decode cX0_take 56 = .ok (.getfield 52, 3) := by decide +kernel
theorem dX0_take_59 : decode cX0_take 59 = .ok (.iastore, 1) := by decide +kernel
theorem dX0_take_60 : decode cX0_take 60 = .ok (.return_, 1) := by decide +kernel
theorem dX0_noteBeginning_0 : decode cX0_noteBeginning 0 = .ok (.aload_n 0, 1) := by decide +kernel
theorem dX0_noteBeginning_1 : decode cX0_noteBeginning 1 = .ok (.getfield 48, 3) := by decide +kernel
theorem dX0_noteBeginning_4 : decode cX0_noteBeginning 4 = .ok (.bipush 40, 2) := by decide +kernel
theorem dX0_noteBeginning_6 : decode cX0_noteBeginning 6 = .ok (.if_icmp .ge 46, 3) := by decide +kernel
theorem dX0_noteBeginning_9 : decode cX0_noteBeginning 9 = .ok (.aload_n 0, 1) := by decide +kernel
theorem dX0_noteBeginning_10 : decode cX0_noteBeginning 10 = .ok (.getfield 33, 3) := by decide +kernel
theorem dX0_noteBeginning_13 : decode cX0_noteBeginning 13 = .ok (.aload_n 0, 1) := by decide +kernel
theorem dX0_noteBeginning_14 : decode cX0_noteBeginning 14 = .ok (.getfield 48, 3) := by decide +kernel
theorem dX0_noteBeginning_17 : decode cX0_noteBeginning 17 = .ok (.iload_n 1, 1) := by decide +kernel
theorem dX0_noteBeginning_18 : decode cX0_noteBeginning 18 = .ok (.iastore, 1) := by decide +kernel
theorem dX0_noteBeginning_19 : decode cX0_noteBeginning 19 = .ok (.aload_n 0, 1) := by decide +kernel
theorem dX0_noteBeginning_20 : decode cX0_noteBeginning 20 = .ok (.getfield 36, 3) := by decide +kernel
theorem dX0_noteBeginning_23 : decode cX0_noteBeginning 23 = .ok (.aload_n 0, 1) := by decide +kernel
theorem dX0_noteBeginning_24 : decode cX0_noteBeginning 24 = .ok (.getfield 48, 3) := by decide +kernel
theorem dX0_noteBeginning_27 : decode cX0_noteBeginning 27 = .ok (.iload_n 2, 1) := by decide +kernel
theorem dX0_noteBeginning_28 : decode cX0_noteBeginning 28 = .ok (.iastore, 1) := by decide +kernel
theorem dX0_noteBeginning_29 : decode cX0_noteBeginning 29 = .ok (.aload_n 0, 1) := by decide +kernel
theorem dX0_noteBeginning_30 : decode cX0_noteBeginning 30 = .ok (.getfield 39, 3) := by decide +kernel
theorem dX0_noteBeginning_33 : decode cX0_noteBeginning 33 = .ok (.aload_n 0, 1) := by decide +kernel
theorem dX0_noteBeginning_34 : decode cX0_noteBeginning 34 = .ok (.getfield 48, 3) := by decide +kernel
theorem dX0_noteBeginning_37 : decode cX0_noteBeginning 37 = .ok (.aload_n 0, 1) := by decide +kernel
theorem dX0_noteBeginning_38 : decode cX0_noteBeginning 38 = .ok (.getfield 52, 3) := by decide +kernel
theorem dX0_noteBeginning_41 : decode cX0_noteBeginning 41 = .ok (.iastore, 1) := by decide +kernel
theorem dX0_noteBeginning_42 : decode cX0_noteBeginning 42 = .ok (.aload_n 0, 1) := by decide +kernel
theorem dX0_noteBeginning_43 : decode cX0_noteBeginning 43 = .ok (.dup, 1) := by decide +kernel
theorem dX0_noteBeginning_44 : decode cX0_noteBeginning 44 = .ok (.getfield 48, 3) := by decide +kernel
theorem dX0_noteBeginning_47 : decode cX0_noteBeginning 47 = .ok (.iconst 1, 1) := by decide +kernel
theorem dX0_noteBeginning_48 : decode cX0_noteBeginning 48 = .ok (.iadd, 1) := by decide +kernel
theorem dX0_noteBeginning_49 : decode cX0_noteBeginning 49 = .ok (.putfield 48, 3) := by decide +kernel
theorem dX0_noteBeginning_52 : decode cX0_noteBeginning 52 = .ok (.return_, 1) := by decide +kernel
theorem dX0_beginAsIn_0 : decode cX0_beginAsIn 0 = .ok (.iconst 0, 1) := by decide +kernel
theorem dX0_beginAsIn_1 : decode cX0_beginAsIn 1 = .ok (.istore_n 3, 1) := by decide +kernel
theorem dX0_beginAsIn_2 : decode cX0_beginAsIn 2 = .ok (.iload_n 3, 1) := by decide +kernel
theorem dX0_beginAsIn_3 : decode cX0_beginAsIn 3 = .ok (.aload_n 1, 1) := by decide +kernel
theorem dX0_beginAsIn_4 : decode cX0_beginAsIn 4 = .ok (.getfield 48, 3) := by decide +kernel
theorem dX0_beginAsIn_7 : decode cX0_beginAsIn 7 = .ok (.if_icmp .ge 70, 3) := by decide +kernel
theorem dX0_beginAsIn_10 : decode cX0_beginAsIn 10 = .ok (.aload_n 1, 1) := by decide +kernel
theorem dX0_beginAsIn_11 : decode cX0_beginAsIn 11 = .ok (.getfield 33, 3) := by decide +kernel
theorem dX0_beginAsIn_14 : decode cX0_beginAsIn 14 = .ok (.iload_n 3, 1) := by decide +kernel
theorem dX0_beginAsIn_15 : decode cX0_beginAsIn 15 = .ok (.iaload, 1) := by decide +kernel
theorem dX0_beginAsIn_16 : decode cX0_beginAsIn 16 = .ok (.istore 4, 2) := by decide +kernel
theorem dX0_beginAsIn_18 : decode cX0_beginAsIn 18 = .ok (.aload_n 1, 1) := by decide +kernel
theorem dX0_beginAsIn_19 : decode cX0_beginAsIn 19 = .ok (.getfield 36, 3) := by decide +kernel
theorem dX0_beginAsIn_22 : decode cX0_beginAsIn 22 = .ok (.iload_n 3, 1) := by decide +kernel
theorem dX0_beginAsIn_23 : decode cX0_beginAsIn 23 = .ok (.iaload, 1) := by decide +kernel
theorem dX0_beginAsIn_24 : decode cX0_beginAsIn 24 = .ok (.istore 5, 2) := by decide +kernel
theorem dX0_beginAsIn_26 : decode cX0_beginAsIn 26 = .ok (.aload_n 1, 1) := by decide +kernel
theorem dX0_beginAsIn_27 : decode cX0_beginAsIn 27 = .ok (.getfield 39, 3) := by decide +kernel
theorem dX0_beginAsIn_30 : decode cX0_beginAsIn 30 = .ok (.iload_n 3, 1) := by decide +kernel
theorem dX0_beginAsIn_31 : decode cX0_beginAsIn 31 = .ok (.iaload, 1) := by decide +kernel
theorem dX0_beginAsIn_32 : decode cX0_beginAsIn 32 = .ok (.aload_n 0, 1) := by decide +kernel
theorem dX0_beginAsIn_33 : decode cX0_beginAsIn 33 = .ok (.getfield 52, 3) := by decide +kernel
theorem dX0_beginAsIn_36 : decode cX0_beginAsIn 36 = .ok (.if_icmp .ne 35, 3) := by decide +kernel
theorem dX0_beginAsIn_39 : decode cX0_beginAsIn 39 = .ok (.iload_n 2, 1) := by decide +kernel
theorem dX0_beginAsIn_40 : decode cX0_beginAsIn 40 = .ok (.iload 5, 2) := by decide +kernel
theorem dX0_beginAsIn_42 : decode cX0_beginAsIn 42 = .ok (.ishr, 1) := by decide +kernel
theorem dX0_beginAsIn_43 : decode cX0_beginAsIn 43 = .ok (.iconst 1, 1) := by decide +kernel
theorem dX0_beginAsIn_44 : decode cX0_beginAsIn 44 = .ok (.iand, 1) := by decide +kernel
theorem dX0_beginAsIn_45 : decode cX0_beginAsIn 45 = .ok (.ifCond .eq 26, 3) := by decide +kernel
theorem dX0_beginAsIn_48 : decode cX0_beginAsIn 48 = .ok (.aload_n 0, 1) := by decide +kernel
theorem dX0_beginAsIn_49 : decode cX0_beginAsIn 49 = .ok (.iload 4, 2) := by decide +kernel
theorem dX0_beginAsIn_51 : decode cX0_beginAsIn 51 = .ok (.iload 5, 2) := by decide +kernel
theorem dX0_beginAsIn_53 : decode cX0_beginAsIn 53 = .ok (.invokevirtual 76, 3) := by decide +kernel
theorem dX0_beginAsIn_56 : decode cX0_beginAsIn 56 = .ok (.ifCond .ne 15, 3) := by decide +kernel
theorem dX0_beginAsIn_59 : decode cX0_beginAsIn 59 = .ok (.aload_n 0, 1) := by decide +kernel
theorem dX0_beginAsIn_60 : decode cX0_beginAsIn 60 = .ok (.iload 4, 2) := by decide +kernel
theorem dX0_beginAsIn_62 : decode cX0_beginAsIn 62 = .ok (.iload 5, 2) := by decide +kernel
theorem dX0_beginAsIn_64 : decode cX0_beginAsIn 64 = .ok (.bipush (-2), 2) := by decide +kernel
theorem dX0_beginAsIn_66 : decode cX0_beginAsIn 66 = .ok (.iload 5, 2) := by decide +kernel
theorem dX0_beginAsIn_68 : decode cX0_beginAsIn 68 = .ok (.invokevirtual 80, 3) := by decide +kernel
theorem dX0_beginAsIn_71 : decode cX0_beginAsIn 71 = .ok (.iinc 3 1, 3) := by decide +kernel
theorem dX0_beginAsIn_74 : decode cX0_beginAsIn 74 = .ok (.goto (-72), 3) := by decide +kernel
theorem dX0_beginAsIn_77 : decode cX0_beginAsIn 77 = .ok (.return_, 1) := by decide +kernel
theorem dX0_newestOf_0 : decode cX0_newestOf 0 = .ok (.iconst (-1), 1) := by decide +kernel
theorem dX0_newestOf_1 : decode cX0_newestOf 1 = .ok (.istore_n 2, 1) := by decide +kernel
theorem dX0_newestOf_2 : decode cX0_newestOf 2 = .ok (.iconst 0, 1) := by decide +kernel
theorem dX0_newestOf_3 : decode cX0_newestOf 3 = .ok (.istore_n 3, 1) := by decide +kernel
theorem dX0_newestOf_4 : decode cX0_newestOf 4 = .ok (.iload_n 3, 1) := by decide +kernel
theorem dX0_newestOf_5 : decode cX0_newestOf 5 = .ok (.bipush 6, 2) := by decide +kernel
theorem dX0_newestOf_7 : decode cX0_newestOf 7 = .ok (.if_icmp .ge 66, 3) := by decide +kernel
theorem dX0_newestOf_10 : decode cX0_newestOf 10 = .ok (.aload_n 0, 1) := by decide +kernel
theorem dX0_newestOf_11 : decode cX0_newestOf 11 = .ok (.getfield 15, 3) := by decide +kernel
theorem dX0_newestOf_14 : decode cX0_newestOf 14 = .ok (.iload_n 1, 1) := by decide +kernel
theorem dX0_newestOf_15 : decode cX0_newestOf 15 = .ok (.iaload, 1) := by decide +kernel
theorem dX0_newestOf_16 : decode cX0_newestOf 16 = .ok (.iload_n 3, 1) := by decide +kernel
theorem dX0_newestOf_17 : decode cX0_newestOf 17 = .ok (.ishr, 1) := by decide +kernel
theorem dX0_newestOf_18 : decode cX0_newestOf 18 = .ok (.iconst 1, 1) := by decide +kernel
theorem dX0_newestOf_19 : decode cX0_newestOf 19 = .ok (.iand, 1) := by decide +kernel
theorem dX0_newestOf_20 : decode cX0_newestOf 20 = .ok (.ifCond .eq 7, 3) := by decide +kernel
theorem dX0_newestOf_23 : decode cX0_newestOf 23 = .ok (.iconst 1, 1) := by decide +kernel
theorem dX0_newestOf_24 : decode cX0_newestOf 24 = .ok (.goto 4, 3) := by decide +kernel
theorem dX0_newestOf_27 : decode cX0_newestOf 27 = .ok (.iconst 0, 1) := by decide +kernel
theorem dX0_newestOf_28 : decode cX0_newestOf 28 = .ok (.istore 4, 2) := by decide +kernel
theorem dX0_newestOf_30 : decode cX0_newestOf 30 = .ok (.iload 4, 2) := by decide +kernel
theorem dX0_newestOf_32 : decode cX0_newestOf 32 = .ok (.ifCond .eq 35, 3) := by decide +kernel
theorem dX0_newestOf_35 : decode cX0_newestOf 35 = .ok (.iload_n 2, 1) := by decide +kernel
theorem dX0_newestOf_36 : decode cX0_newestOf 36 = .ok (.iconst (-1), 1) := by decide +kernel
theorem dX0_newestOf_37 : decode cX0_newestOf 37 = .ok (.if_icmp .eq 28, 3) := by decide +kernel
theorem dX0_newestOf_40 : decode cX0_newestOf 40 = .ok (.aload_n 0, 1) := by decide +kernel
theorem dX0_newestOf_41 : decode cX0_newestOf 41 = .ok (.getfield 24, 3) := by decide +kernel
theorem dX0_newestOf_44 : decode cX0_newestOf 44 = .ok (.iload_n 1, 1) := by decide +kernel
theorem dX0_newestOf_45 : decode cX0_newestOf 45 = .ok (.bipush 6, 2) := by decide +kernel
theorem dX0_newestOf_47 : decode cX0_newestOf 47 = .ok (.imul, 1) := by decide +kernel
theorem dX0_newestOf_48 : decode cX0_newestOf 48 = .ok (.iload_n 3, 1) := by decide +kernel
theorem dX0_newestOf_49 : decode cX0_newestOf 49 = .ok (.iadd, 1) := by decide +kernel
theorem dX0_newestOf_50 : decode cX0_newestOf 50 = .ok (.iaload, 1) := by decide +kernel
theorem dX0_newestOf_51 : decode cX0_newestOf 51 = .ok (.aload_n 0, 1) := by decide +kernel
theorem dX0_newestOf_52 : decode cX0_newestOf 52 = .ok (.getfield 24, 3) := by decide +kernel
theorem dX0_newestOf_55 : decode cX0_newestOf 55 = .ok (.iload_n 1, 1) := by decide +kernel
theorem dX0_newestOf_56 : decode cX0_newestOf 56 = .ok (.bipush 6, 2) := by decide +kernel
theorem dX0_newestOf_58 : decode cX0_newestOf 58 = .ok (.imul, 1) := by decide +kernel
theorem dX0_newestOf_59 : decode cX0_newestOf 59 = .ok (.iload_n 2, 1) := by decide +kernel
theorem dX0_newestOf_60 : decode cX0_newestOf 60 = .ok (.iadd, 1) := by decide +kernel
theorem dX0_newestOf_61 : decode cX0_newestOf 61 = .ok (.iaload, 1) := by decide +kernel
theorem dX0_newestOf_62 : decode cX0_newestOf 62 = .ok (.if_icmp .lt 5, 3) := by decide +kernel
theorem dX0_newestOf_65 : decode cX0_newestOf 65 = .ok (.iload_n 3, 1) := by decide +kernel
theorem dX0_newestOf_66 : decode cX0_newestOf 66 = .ok (.istore_n 2, 1) := by decide +kernel
theorem dX0_newestOf_67 : decode cX0_newestOf 67 = .ok (.iinc 3 1, 3) := by decide +kernel
theorem dX0_newestOf_70 : decode cX0_newestOf 70 = .ok (.goto (-66), 3) := by decide +kernel
theorem dX0_newestOf_73 : decode cX0_newestOf 73 = .ok (.iload_n 2, 1) := by decide +kernel
theorem dX0_newestOf_74 : decode cX0_newestOf 74 = .ok (.ireturn, 1) := by decide +kernel
theorem dX0_hearKnown_0 : decode cX0_hearKnown 0 = .ok (.iload_n 1, 1) := by decide +kernel
theorem dX0_hearKnown_1 : decode cX0_hearKnown 1 = .ok (.bipush 6, 2) := by decide +kernel
theorem dX0_hearKnown_3 : decode cX0_hearKnown 3 = .ok (.imul, 1) := by decide +kernel
theorem dX0_hearKnown_4 : decode cX0_hearKnown 4 = .ok (.iload_n 2, 1) := by decide +kernel
theorem dX0_hearKnown_5 : decode cX0_hearKnown 5 = .ok (.iadd, 1) := by decide +kernel
theorem dX0_hearKnown_6 : decode cX0_hearKnown 6 = .ok (.istore 4, 2) := by decide +kernel
theorem dX0_hearKnown_8 : decode cX0_hearKnown 8 = .ok (.aload_n 0, 1) := by decide +kernel
theorem dX0_hearKnown_9 : decode cX0_hearKnown 9 = .ok (.getfield 27, 3) := by decide +kernel
theorem dX0_hearKnown_12 : decode cX0_hearKnown 12 = .ok (.iload 4, 2) := by decide +kernel
theorem dX0_hearKnown_14 : decode cX0_hearKnown 14 = .ok (.dup2, 1) := by decide +kernel
theorem dX0_hearKnown_15 : decode cX0_hearKnown 15 = .ok (.iaload, 1) := by decide +kernel
theorem dX0_hearKnown_16 : decode cX0_hearKnown 16 = .ok (.iconst 1, 1) := by decide +kernel
theorem dX0_hearKnown_17 : decode cX0_hearKnown 17 = .ok (.iadd, 1) := by decide +kernel
theorem dX0_hearKnown_18 : decode cX0_hearKnown 18 = .ok (.iastore, 1) := by decide +kernel
theorem dX0_hearKnown_19 : decode cX0_hearKnown 19 = .ok (.aload_n 0, 1) := by decide +kernel
theorem dX0_hearKnown_20 : decode cX0_hearKnown 20 = .ok (.getfield 27, 3) := by decide +kernel
theorem dX0_hearKnown_23 : decode cX0_hearKnown 23 = .ok (.iload 4, 2) := by decide +kernel
theorem dX0_hearKnown_25 : decode cX0_hearKnown 25 = .ok (.iaload, 1) := by decide +kernel
theorem dX0_hearKnown_26 : decode cX0_hearKnown 26 = .ok (.iload_n 3, 1) := by decide +kernel
theorem dX0_hearKnown_27 : decode cX0_hearKnown 27 = .ok (.if_icmp .lt 17, 3) := by decide +kernel
theorem dX0_hearKnown_30 : decode cX0_hearKnown 30 = .ok (.aload_n 0, 1) := by decide +kernel
theorem dX0_hearKnown_31 : decode cX0_hearKnown 31 = .ok (.getfield 15, 3) := by decide +kernel
theorem dX0_hearKnown_34 : decode cX0_hearKnown 34 = .ok (.iload_n 1, 1) := by decide +kernel
theorem dX0_hearKnown_35 : decode cX0_hearKnown 35 = .ok (.dup2, 1) := by decide +kernel
theorem dX0_hearKnown_36 : decode cX0_hearKnown 36 = .ok (.iaload, 1) := by decide +kernel
theorem dX0_hearKnown_37 : decode cX0_hearKnown 37 = .ok (.iconst 1, 1) := by decide +kernel
theorem dX0_hearKnown_38 : decode cX0_hearKnown 38 = .ok (.iload_n 2, 1) := by decide +kernel
theorem dX0_hearKnown_39 : decode cX0_hearKnown 39 = .ok (.ishl, 1) := by decide +kernel
theorem dX0_hearKnown_40 : decode cX0_hearKnown 40 = .ok (.iconst (-1), 1) := by decide +kernel
theorem dX0_hearKnown_41 : decode cX0_hearKnown 41 = .ok (.ixor, 1) := by decide +kernel
theorem dX0_hearKnown_42 : decode cX0_hearKnown 42 = .ok (.iand, 1) := by decide +kernel
theorem dX0_hearKnown_43 : decode cX0_hearKnown 43 = .ok (.iastore, 1) := by decide +kernel
theorem dX0_hearKnown_44 : decode cX0_hearKnown 44 = .ok (.return_, 1) := by decide +kernel
theorem dX1_init_0 : decode cX1_init 0 = .ok (.aload_n 0, 1) := by decide +kernel
theorem dX1_init_1 : decode cX1_init 1 = .ok (.invokespecial 3, 3) := by decide +kernel
theorem dX1_init_4 : decode cX1_init 4 = .ok (.aload_n 0, 1) := by decide +kernel
theorem dX1_init_5 : decode cX1_init 5 = .ok (.bipush 24, 2) := by decide +kernel
theorem dX1_init_7 : decode cX1_init 7 = .ok (.newarray .int, 2) := by decide +kernel
theorem dX1_init_9 : decode cX1_init 9 = .ok (.putfield 9, 3) := by decide +kernel
theorem dX1_init_12 : decode cX1_init 12 = .ok (.aload_n 0, 1) := by decide +kernel
theorem dX1_init_13 : decode cX1_init 13 = .ok (.bipush 24, 2) := by decide +kernel
theorem dX1_init_15 : decode cX1_init 15 = .ok (.newarray .int, 2) := by decide +kernel
theorem dX1_init_17 : decode cX1_init 17 = .ok (.putfield 15, 3) := by decide +kernel
theorem dX1_init_20 : decode cX1_init 20 = .ok (.return_, 1) := by decide +kernel
theorem dX1_clear_0 : decode cX1_clear 0 = .ok (.aload_n 0, 1) := by decide +kernel
theorem dX1_clear_1 : decode cX1_clear 1 = .ok (.iconst 0, 1) := by decide +kernel
theorem dX1_clear_2 : decode cX1_clear 2 = .ok (.putfield 18, 3) := by decide +kernel
theorem dX1_clear_5 : decode cX1_clear 5 = .ok (.return_, 1) := by decide +kernel
theorem dX1_number_0 : decode cX1_number 0 = .ok (.aload_n 0, 1) := by decide +kernel
theorem dX1_number_1 : decode cX1_number 1 = .ok (.getfield 18, 3) := by decide +kernel
theorem dX1_number_4 : decode cX1_number 4 = .ok (.invokestatic 22, 3) := by decide +kernel
theorem dX1_number_7 : decode cX1_number 7 = .ok (.ireturn, 1) := by decide +kernel
theorem dX1_has_0 : decode cX1_has 0 = .ok (.aload_n 0, 1) := by decide +kernel
theorem dX1_has_1 : decode cX1_has 1 = .ok (.getfield 18, 3) := by decide +kernel
theorem dX1_has_4 : decode cX1_has 4 = .ok (.iload_n 1, 1) := by decide +kernel
theorem dX1_has_5 : decode cX1_has 5 = .ok (.ishr, 1) := by decide +kernel
theorem dX1_has_6 : decode cX1_has 6 = .ok (.iconst 1, 1) := by decide +kernel
theorem dX1_has_7 : decode cX1_has 7 = .ok (.iand, 1) := by decide +kernel
theorem dX1_has_8 : decode cX1_has 8 = .ok (.ifCond .eq 7, 3) := by decide +kernel
theorem dX1_has_11 : decode cX1_has 11 = .ok (.iconst 1, 1) := by decide +kernel
theorem dX1_has_12 : decode cX1_has 12 = .ok (.goto 4, 3) := by decide +kernel
theorem dX1_has_15 : decode cX1_has 15 = .ok (.iconst 0, 1) := by decide +kernel
theorem dX1_has_16 : decode cX1_has 16 = .ok (.ireturn, 1) := by decide +kernel
theorem dX1_put_0 : decode cX1_put 0 = .ok (.aload_n 0, 1) := by decide +kernel
theorem dX1_put_1 : decode cX1_put 1 = .ok (.dup, 1) := by decide +kernel
theorem dX1_put_2 : decode cX1_put 2 = .ok (.getfield 18, 3) := by decide +kernel
theorem dX1_put_5 : decode cX1_put 5 = .ok (.iconst 1, 1) := by decide +kernel
theorem dX1_put_6 : decode cX1_put 6 = .ok (.iload_n 1, 1) := by decide +kernel
theorem dX1_put_7 : decode cX1_put 7 = .ok (.ishl, 1) := by decide +kernel
theorem dX1_put_8 : decode cX1_put 8 = .ok (.ior, 1) := by decide +kernel
theorem dX1_put_9 : decode cX1_put 9 = .ok (.putfield 18, 3) := by decide +kernel
theorem dX1_put_12 : decode cX1_put 12 = .ok (.aload_n 0, 1) := by decide +kernel
theorem dX1_put_13 : decode cX1_put 13 = .ok (.getfield 9, 3) := by decide +kernel
theorem dX1_put_16 : decode cX1_put 16 = .ok (.iload_n 1, 1) := by decide +kernel
theorem dX1_put_17 : decode cX1_put 17 = .ok (.iload_n 2, 1) := by decide +kernel
theorem dX1_put_18 : decode cX1_put 18 = .ok (.iastore, 1) := by decide +kernel
theorem dX1_put_19 : decode cX1_put 19 = .ok (.aload_n 0, 1) := by decide +kernel
theorem dX1_put_20 : decode cX1_put 20 = .ok (.getfield 15, 3) := by decide +kernel
theorem dX1_put_23 : decode cX1_put 23 = .ok (.iload_n 1, 1) := by decide +kernel
theorem dX1_put_24 : decode cX1_put 24 = .ok (.iload_n 3, 1) := by decide +kernel
theorem dX1_put_25 : decode cX1_put 25 = .ok (.iastore, 1) := by decide +kernel
theorem dX1_put_26 : decode cX1_put 26 = .ok (.aload_n 0, 1) := by decide +kernel
theorem dX1_put_27 : decode cX1_put 27 = .ok (.invokevirtual 28, 3) := by decide +kernel
theorem dX1_put_30 : decode cX1_put 30 = .ok (.ireturn, 1) := by decide +kernel
theorem dX1_endOf_0 : decode cX1_endOf 0 = .ok (.iload_n 1, 1) := by decide +kernel
theorem dX1_endOf_1 : decode cX1_endOf 1 = .ok (.istore_n 2, 1) := by decide +kernel
theorem dX1_endOf_2 : decode cX1_endOf 2 = .ok (.iconst 0, 1) := by decide +kernel
theorem dX1_endOf_3 : decode cX1_endOf 3 = .ok (.istore_n 3, 1) := by decide +kernel
theorem dX1_endOf_4 : decode cX1_endOf 4 = .ok (.iload_n 3, 1) := by decide +kernel
theorem dX1_endOf_5 : decode cX1_endOf 5 = .ok (.bipush 24, 2) := by decide +kernel
theorem dX1_endOf_7 : decode cX1_endOf 7 = .ok (.if_icmp .gt 49, 3) := by decide +kernel
theorem dX1_endOf_10 : decode cX1_endOf 10 = .ok (.iload_n 2, 1) := by decide +kernel
theorem dX1_endOf_11 : decode cX1_endOf 11 = .ok (.ifCond .lt 9, 3) := by decide +kernel
theorem dX1_endOf_14 : decode cX1_endOf 14 = .ok (.iload_n 2, 1) := by decide +kernel
theorem dX1_endOf_15 : decode cX1_endOf 15 = .ok (.bipush 24, 2) := by decide +kernel
theorem dX1_endOf_17 : decode cX1_endOf 17 = .ok (.if_icmp .lt 5, 3) := by decide +kernel
theorem dX1_endOf_20 : decode cX1_endOf 20 = .ok (.iconst (-1), 1) := by decide +kernel
theorem dX1_endOf_21 : decode cX1_endOf 21 = .ok (.ireturn, 1) := by decide +kernel
theorem dX1_endOf_22 : decode cX1_endOf 22 = .ok (.aload_n 0, 1) := by decide +kernel
theorem dX1_endOf_23 : decode cX1_endOf 23 = .ok (.iload_n 2, 1) := by decide +kernel
theorem dX1_endOf_24 : decode cX1_endOf 24 = .ok (.invokevirtual 32, 3) := by decide +kernel
theorem dX1_endOf_27 : decode cX1_endOf 27 = .ok (.ifCond .eq 14, 3) := by decide +kernel
theorem dX1_endOf_30 : decode cX1_endOf 30 = .ok (.aload_n 0, 1) := by decide +kernel
theorem dX1_endOf_31 : decode cX1_endOf 31 = .ok (.getfield 9, 3) := by decide +kernel
theorem dX1_endOf_34 : decode cX1_endOf 34 = .ok (.iload_n 2, 1) := by decide +kernel
theorem dX1_endOf_35 : decode cX1_endOf 35 = .ok (.iaload, 1) := by decide +kernel
theorem dX1_endOf_36 : decode cX1_endOf 36 = .ok (.bipush (-2), 2) := by decide +kernel
theorem dX1_endOf_38 : decode cX1_endOf 38 = .ok (.if_icmp .ne 5, 3) := by decide +kernel
theorem dX1_endOf_41 : decode cX1_endOf 41 = .ok (.iload_n 2, 1) := by decide +kernel
theorem dX1_endOf_42 : decode cX1_endOf 42 = .ok (.ireturn, 1) := by decide +kernel
theorem dX1_endOf_43 : decode cX1_endOf 43 = .ok (.aload_n 0, 1) := by decide +kernel
theorem dX1_endOf_44 : decode cX1_endOf 44 = .ok (.getfield 9, 3) := by decide +kernel
theorem dX1_endOf_47 : decode cX1_endOf 47 = .ok (.iload_n 2, 1) := by decide +kernel
theorem dX1_endOf_48 : decode cX1_endOf 48 = .ok (.iaload, 1) := by decide +kernel
theorem dX1_endOf_49 : decode cX1_endOf 49 = .ok (.istore_n 2, 1) := by decide +kernel
theorem dX1_endOf_50 : decode cX1_endOf 50 = .ok (.iinc 3 1, 3) := by decide +kernel
theorem dX1_endOf_53 : decode cX1_endOf 53 = .ok (.goto (-49), 3) := by decide +kernel
theorem dX1_endOf_56 : decode cX1_endOf 56 = .ok (.iconst (-1), 1) := by decide +kernel
theorem dX1_endOf_57 : decode cX1_endOf 57 = .ok (.ireturn, 1) := by decide +kernel
theorem dX1_mostLedTo_0 : decode cX1_mostLedTo 0 = .ok (.iconst 0, 1) := by decide +kernel
theorem dX1_mostLedTo_1 : decode cX1_mostLedTo 1 = .ok (.istore_n 2, 1) := by decide +kernel
theorem dX1_mostLedTo_2 : decode cX1_mostLedTo 2 = .ok (.iconst (-1), 1) := by decide +kernel
theorem dX1_mostLedTo_3 : decode cX1_mostLedTo 3 = .ok (.istore_n 3, 1) := by decide +kernel
theorem dX1_mostLedTo_4 : decode cX1_mostLedTo 4 = .ok (.iconst 0, 1) := by decide +kernel
theorem dX1_mostLedTo_5 : decode cX1_mostLedTo 5 = .ok (.istore 4, 2) := by decide +kernel
theorem dX1_mostLedTo_7 : decode cX1_mostLedTo 7 = .ok (.iload 4, 2) := by decide +kernel
theorem dX1_mostLedTo_9 : decode cX1_mostLedTo 9 = .ok (.bipush 24, 2) := by decide +kernel
theorem dX1_mostLedTo_11 : decode cX1_mostLedTo 11 = .ok (.if_icmp .ge 46, 3) := by decide +kernel
theorem dX1_mostLedTo_14 : decode cX1_mostLedTo 14 = .ok (.iload_n 1, 1) := by decide +kernel
theorem dX1_mostLedTo_15 : decode cX1_mostLedTo 15 = .ok (.ifCond .eq 16, 3) := by decide +kernel
theorem dX1_mostLedTo_18 : decode cX1_mostLedTo 18 = .ok (.aload_n 0, 1) := by decide +kernel
theorem dX1_mostLedTo_19 : decode cX1_mostLedTo 19 = .ok (.iload 4, 2) := by decide +kernel
theorem dX1_mostLedTo_21 : decode cX1_mostLedTo 21 = .ok (.invokevirtual 32, 3) := by decide +kernel
theorem dX1_mostLedTo_24 : decode cX1_mostLedTo 24 = .ok (.ifCond .eq 7, 3) := by decide +kernel
theorem dX1_mostLedTo_27 : decode cX1_mostLedTo 27 = .ok (.iconst 0, 1) := by decide +kernel
theorem dX1_mostLedTo_28 : decode cX1_mostLedTo 28 = .ok (.goto 9, 3) := by decide +kernel
theorem dX1_mostLedTo_31 : decode cX1_mostLedTo 31 = .ok (.aload_n 0, 1) := by decide +kernel
theorem dX1_mostLedTo_32 : decode cX1_mostLedTo 32 = .ok (.iload 4, 2) := by decide +kernel
theorem dX1_mostLedTo_34 : decode cX1_mostLedTo 34 = .ok (.invokevirtual 36, 3) := by decide +kernel
theorem dX1_mostLedTo_37 : decode cX1_mostLedTo 37 = .ok (.istore 5, 2) := by decide +kernel
theorem dX1_mostLedTo_39 : decode cX1_mostLedTo 39 = .ok (.iload 5, 2) := by decide +kernel
theorem dX1_mostLedTo_41 : decode cX1_mostLedTo 41 = .ok (.iload_n 2, 1) := by decide +kernel
theorem dX1_mostLedTo_42 : decode cX1_mostLedTo 42 = .ok (.if_icmp .le 9, 3) := by decide +kernel
theorem dX1_mostLedTo_45 : decode cX1_mostLedTo 45 = .ok (.iload 5, 2) := by decide +kernel
theorem dX1_mostLedTo_47 : decode cX1_mostLedTo 47 = .ok (.istore_n 2, 1) := by decide +kernel
theorem dX1_mostLedTo_48 : decode cX1_mostLedTo 48 = .ok (.iload 4, 2) := by decide +kernel
theorem dX1_mostLedTo_50 : decode cX1_mostLedTo 50 = .ok (.istore_n 3, 1) := by decide +kernel
theorem dX1_mostLedTo_51 : decode cX1_mostLedTo 51 = .ok (.iinc 4 1, 3) := by decide +kernel
theorem dX1_mostLedTo_54 : decode cX1_mostLedTo 54 = .ok (.goto (-47), 3) := by decide +kernel
theorem dX1_mostLedTo_57 : decode cX1_mostLedTo 57 = .ok (.iload_n 3, 1) := by decide +kernel
theorem dX1_mostLedTo_58 : decode cX1_mostLedTo 58 = .ok (.ireturn, 1) := by decide +kernel
theorem dX1_leadingTo_0 : decode cX1_leadingTo 0 = .ok (.iconst 0, 1) := by decide +kernel
theorem dX1_leadingTo_1 : decode cX1_leadingTo 1 = .ok (.istore_n 2, 1) := by decide +kernel
theorem dX1_leadingTo_2 : decode cX1_leadingTo 2 = .ok (.iconst 0, 1) := by decide +kernel
theorem dX1_leadingTo_3 : decode cX1_leadingTo 3 = .ok (.istore_n 3, 1) := by decide +kernel
theorem dX1_leadingTo_4 : decode cX1_leadingTo 4 = .ok (.iload_n 3, 1) := by decide +kernel
theorem dX1_leadingTo_5 : decode cX1_leadingTo 5 = .ok (.bipush 24, 2) := by decide +kernel
theorem dX1_leadingTo_7 : decode cX1_leadingTo 7 = .ok (.if_icmp .ge 29, 3) := by decide +kernel
theorem dX1_leadingTo_10 : decode cX1_leadingTo 10 = .ok (.aload_n 0, 1) := by decide +kernel
theorem dX1_leadingTo_11 : decode cX1_leadingTo 11 = .ok (.iload_n 3, 1) := by decide +kernel
theorem dX1_leadingTo_12 : decode cX1_leadingTo 12 = .ok (.invokevirtual 32, 3) := by decide +kernel
theorem dX1_leadingTo_15 : decode cX1_leadingTo 15 = .ok (.ifCond .eq 15, 3) := by decide +kernel
theorem dX1_leadingTo_18 : decode cX1_leadingTo 18 = .ok (.aload_n 0, 1) := by decide +kernel
theorem dX1_leadingTo_19 : decode cX1_leadingTo 19 = .ok (.iload_n 3, 1) := by decide +kernel
theorem dX1_leadingTo_20 : decode cX1_leadingTo 20 = .ok (.invokevirtual 39, 3) := by decide +kernel
theorem dX1_leadingTo_23 : decode cX1_leadingTo 23 = .ok (.iload_n 1, 1) := by decide +kernel
theorem dX1_leadingTo_24 : decode cX1_leadingTo 24 = .ok (.if_icmp .ne 6, 3) := by decide +kernel
theorem dX1_leadingTo_27 : decode cX1_leadingTo 27 = .ok (.iinc 2 1, 3) := by decide +kernel
theorem dX1_leadingTo_30 : decode cX1_leadingTo 30 = .ok (.iinc 3 1, 3) := by decide +kernel
theorem dX1_leadingTo_33 : decode cX1_leadingTo 33 = .ok (.goto (-29), 3) := by decide +kernel
theorem dX1_leadingTo_36 : decode cX1_leadingTo 36 = .ok (.iload_n 2, 1) := by decide +kernel
theorem dX1_leadingTo_37 : decode cX1_leadingTo 37 = .ok (.ireturn, 1) := by decide +kernel
theorem dX1_falseOnes_0 : decode cX1_falseOnes 0 = .ok (.iconst 0, 1) := by decide +kernel
theorem dX1_falseOnes_1 : decode cX1_falseOnes 1 = .ok (.istore_n 1, 1) := by decide +kernel
theorem dX1_falseOnes_2 : decode cX1_falseOnes 2 = .ok (.iconst 0, 1) := by decide +kernel
theorem dX1_falseOnes_3 : decode cX1_falseOnes 3 = .ok (.istore_n 2, 1) := by decide +kernel
theorem dX1_falseOnes_4 : decode cX1_falseOnes 4 = .ok (.iload_n 2, 1) := by decide +kernel
theorem dX1_falseOnes_5 : decode cX1_falseOnes 5 = .ok (.bipush 24, 2) := by decide +kernel
theorem dX1_falseOnes_7 : decode cX1_falseOnes 7 = .ok (.if_icmp .ge 40, 3) := by decide +kernel
theorem dX1_falseOnes_10 : decode cX1_falseOnes 10 = .ok (.aload_n 0, 1) := by decide +kernel
theorem dX1_falseOnes_11 : decode cX1_falseOnes 11 = .ok (.iload_n 2, 1) := by decide +kernel
theorem dX1_falseOnes_12 : decode cX1_falseOnes 12 = .ok (.invokevirtual 32, 3) := by decide +kernel
theorem dX1_falseOnes_15 : decode cX1_falseOnes 15 = .ok (.ifCond .eq 26, 3) := by decide +kernel
theorem dX1_falseOnes_18 : decode cX1_falseOnes 18 = .ok (.aload_n 0, 1) := by decide +kernel
theorem dX1_falseOnes_19 : decode cX1_falseOnes 19 = .ok (.iload_n 2, 1) := by decide +kernel
theorem dX1_falseOnes_20 : decode cX1_falseOnes 20 = .ok (.invokevirtual 39, 3) := by decide +kernel
theorem dX1_falseOnes_23 : decode cX1_falseOnes 23 = .ok (.iconst (-1), 1) := by decide +kernel
theorem dX1_falseOnes_24 : decode cX1_falseOnes 24 = .ok (.if_icmp .eq 11, 3) := by decide +kernel
theorem dX1_falseOnes_27 : decode cX1_falseOnes 27 = .ok (.aload_n 0, 1) := by decide +kernel
theorem dX1_falseOnes_28 : decode cX1_falseOnes 28 = .ok (.iload_n 2, 1) := by decide +kernel
theorem dX1_falseOnes_29 : decode cX1_falseOnes 29 = .ok (.invokevirtual 42, 3) := by decide +kernel
theorem dX1_falseOnes_32 : decode cX1_falseOnes 32 = .ok (.ifCond .eq 9, 3) := by decide +kernel
theorem dX1_falseOnes_35 : decode cX1_falseOnes 35 = .ok (.iload_n 1, 1) := by decide +kernel
theorem dX1_falseOnes_36 : decode cX1_falseOnes 36 = .ok (.iconst 1, 1) := by decide +kernel
theorem dX1_falseOnes_37 : decode cX1_falseOnes 37 = .ok (.iload_n 2, 1) := by decide +kernel
theorem dX1_falseOnes_38 : decode cX1_falseOnes 38 = .ok (.ishl, 1) := by decide +kernel
theorem dX1_falseOnes_39 : decode cX1_falseOnes 39 = .ok (.ior, 1) := by decide +kernel
theorem dX1_falseOnes_40 : decode cX1_falseOnes 40 = .ok (.istore_n 1, 1) := by decide +kernel
theorem dX1_falseOnes_41 : decode cX1_falseOnes 41 = .ok (.iinc 2 1, 3) := by decide +kernel
theorem dX1_falseOnes_44 : decode cX1_falseOnes 44 = .ok (.goto (-40), 3) := by decide +kernel
theorem dX1_falseOnes_47 : decode cX1_falseOnes 47 = .ok (.iload_n 1, 1) := by decide +kernel
theorem dX1_falseOnes_48 : decode cX1_falseOnes 48 = .ok (.ireturn, 1) := by decide +kernel
theorem dX1_isTooEarly_0 : decode cX1_isTooEarly 0 = .ok (.aload_n 0, 1) := by decide +kernel
theorem dX1_isTooEarly_1 : decode cX1_isTooEarly 1 = .ok (.getfield 9, 3) := by decide +kernel
theorem dX1_isTooEarly_4 : decode cX1_isTooEarly 4 = .ok (.iload_n 1, 1) := by decide +kernel
theorem dX1_isTooEarly_5 : decode cX1_isTooEarly 5 = .ok (.iaload, 1) := by decide +kernel
theorem dX1_isTooEarly_6 : decode cX1_isTooEarly 6 = .ok (.istore_n 2, 1) := by decide +kernel
theorem dX1_isTooEarly_7 : decode cX1_isTooEarly 7 = .ok (.iload_n 2, 1) := by decide +kernel
theorem dX1_isTooEarly_8 : decode cX1_isTooEarly 8 = .ok (.ifCond .lt 36, 3) := by decide +kernel
theorem dX1_isTooEarly_11 : decode cX1_isTooEarly 11 = .ok (.iload_n 2, 1) := by decide +kernel
theorem dX1_isTooEarly_12 : decode cX1_isTooEarly 12 = .ok (.bipush 24, 2) := by decide +kernel
theorem dX1_isTooEarly_14 : decode cX1_isTooEarly 14 = .ok (.if_icmp .ge 30, 3) := by decide +kernel
theorem dX1_isTooEarly_17 : decode cX1_isTooEarly 17 = .ok (.aload_n 0, 1) := by decide +kernel
theorem dX1_isTooEarly_18 : decode cX1_isTooEarly 18 = .ok (.iload_n 2, 1) := by decide +kernel
theorem dX1_isTooEarly_19 : decode cX1_isTooEarly 19 = .ok (.invokevirtual 32, 3) := by decide +kernel
theorem dX1_isTooEarly_22 : decode cX1_isTooEarly 22 = .ok (.ifCond .eq 22, 3) := by decide +kernel
theorem dX1_isTooEarly_25 : decode cX1_isTooEarly 25 = .ok (.aload_n 0, 1) := by decide +kernel
theorem dX1_isTooEarly_26 : decode cX1_isTooEarly 26 = .ok (.getfield 15, 3) := by decide +kernel
theorem dX1_isTooEarly_29 : decode cX1_isTooEarly 29 = .ok (.iload_n 2, 1) := by decide +kernel
theorem dX1_isTooEarly_30 : decode cX1_isTooEarly 30 = .ok (.iaload, 1) := by decide +kernel
theorem dX1_isTooEarly_31 : decode cX1_isTooEarly 31 = .ok (.aload_n 0, 1) := by decide +kernel
theorem dX1_isTooEarly_32 : decode cX1_isTooEarly 32 = .ok (.getfield 15, 3) := by decide +kernel
theorem dX1_isTooEarly_35 : decode cX1_isTooEarly 35 = .ok (.iload_n 1, 1) := by decide +kernel
theorem dX1_isTooEarly_36 : decode cX1_isTooEarly 36 = .ok (.iaload, 1) := by decide +kernel
theorem dX1_isTooEarly_37 : decode cX1_isTooEarly 37 = .ok (.if_icmp .lt 7, 3) := by decide +kernel
theorem dX1_isTooEarly_40 : decode cX1_isTooEarly 40 = .ok (.iconst 1, 1) := by decide +kernel
theorem dX1_isTooEarly_41 : decode cX1_isTooEarly 41 = .ok (.goto 4, 3) := by decide +kernel
theorem dX1_isTooEarly_44 : decode cX1_isTooEarly 44 = .ok (.iconst 0, 1) := by decide +kernel
theorem dX1_isTooEarly_45 : decode cX1_isTooEarly 45 = .ok (.ireturn, 1) := by decide +kernel
theorem dX2_init_0 : decode cX2_init 0 = .ok (.aload_n 0, 1) := by decide +kernel
theorem dX2_init_1 : decode cX2_init 1 = .ok (.invokespecial 3, 3) := by decide +kernel
theorem dX2_init_4 : decode cX2_init 4 = .ok (.aload_n 0, 1) := by decide +kernel
theorem dX2_init_5 : decode cX2_init 5 = .ok (.sipush 144, 3) := by decide +kernel
theorem dX2_init_8 : decode cX2_init 8 = .ok (.newarray .int, 2) := by decide +kernel
theorem dX2_init_10 : decode cX2_init 10 = .ok (.putfield 9, 3) := by decide +kernel
theorem dX2_init_13 : decode cX2_init 13 = .ok (.aload_n 0, 1) := by decide +kernel
theorem dX2_init_14 : decode cX2_init 14 = .ok (.sipush 144, 3) := by decide +kernel
theorem dX2_init_17 : decode cX2_init 17 = .ok (.newarray .int, 2) := by decide +kernel
theorem dX2_init_19 : decode cX2_init 19 = .ok (.putfield 15, 3) := by decide +kernel
theorem dX2_init_22 : decode cX2_init 22 = .ok (.aload_n 0, 1) := by decide +kernel
theorem dX2_init_23 : decode cX2_init 23 = .ok (.bipush 12, 2) := by decide +kernel
theorem dX2_init_25 : decode cX2_init 25 = .ok (.newarray .int, 2) := by decide +kernel
theorem dX2_init_27 : decode cX2_init 27 = .ok (.putfield 18, 3) := by decide +kernel
theorem dX2_init_30 : decode cX2_init 30 = .ok (.aload_n 0, 1) := by decide +kernel
theorem dX2_init_31 : decode cX2_init 31 = .ok (.getfield 18, 3) := by decide +kernel
theorem dX2_init_34 : decode cX2_init 34 = .ok (.iconst (-1), 1) := by decide +kernel
theorem dX2_init_35 : decode cX2_init 35 = .ok (.invokestatic 21, 3) := by decide +kernel
theorem dX2_init_38 : decode cX2_init 38 = .ok (.return_, 1) := by decide +kernel
theorem dX2_lay_0 : decode cX2_lay 0 = .ok (.aload_n 0, 1) := by decide +kernel
theorem dX2_lay_1 : decode cX2_lay 1 = .ok (.getfield 9, 3) := by decide +kernel
theorem dX2_lay_4 : decode cX2_lay 4 = .ok (.iload_n 1, 1) := by decide +kernel
theorem dX2_lay_5 : decode cX2_lay 5 = .ok (.bipush 12, 2) := by decide +kernel
theorem dX2_lay_7 : decode cX2_lay 7 = .ok (.imul, 1) := by decide +kernel
theorem dX2_lay_8 : decode cX2_lay 8 = .ok (.iload_n 2, 1) := by decide +kernel
theorem dX2_lay_9 : decode cX2_lay 9 = .ok (.iadd, 1) := by decide +kernel
theorem dX2_lay_10 : decode cX2_lay 10 = .ok (.iaload, 1) := by decide +kernel
theorem dX2_lay_11 : decode cX2_lay 11 = .ok (.istore 4, 2) := by decide +kernel
theorem dX2_lay_13 : decode cX2_lay 13 = .ok (.aload_n 0, 1) := by decide +kernel
theorem dX2_lay_14 : decode cX2_lay 14 = .ok (.getfield 9, 3) := by decide +kernel
theorem dX2_lay_17 : decode cX2_lay 17 = .ok (.iload_n 1, 1) := by decide +kernel
theorem dX2_lay_18 : decode cX2_lay 18 = .ok (.bipush 12, 2) := by decide +kernel
theorem dX2_lay_20 : decode cX2_lay 20 = .ok (.imul, 1) := by decide +kernel
theorem dX2_lay_21 : decode cX2_lay 21 = .ok (.iload_n 2, 1) := by decide +kernel
theorem dX2_lay_22 : decode cX2_lay 22 = .ok (.iadd, 1) := by decide +kernel
theorem dX2_lay_23 : decode cX2_lay 23 = .ok (.iload_n 3, 1) := by decide +kernel
theorem dX2_lay_24 : decode cX2_lay 24 = .ok (.iastore, 1) := by decide +kernel
theorem dX2_lay_25 : decode cX2_lay 25 = .ok (.aload_n 0, 1) := by decide +kernel
theorem dX2_lay_26 : decode cX2_lay 26 = .ok (.getfield 9, 3) := by decide +kernel
theorem dX2_lay_29 : decode cX2_lay 29 = .ok (.iload_n 2, 1) := by decide +kernel
theorem dX2_lay_30 : decode cX2_lay 30 = .ok (.bipush 12, 2) := by decide +kernel
theorem dX2_lay_32 : decode cX2_lay 32 = .ok (.imul, 1) := by decide +kernel
theorem dX2_lay_33 : decode cX2_lay 33 = .ok (.iload_n 1, 1) := by decide +kernel
theorem dX2_lay_34 : decode cX2_lay 34 = .ok (.iadd, 1) := by decide +kernel
theorem dX2_lay_35 : decode cX2_lay 35 = .ok (.iload_n 3, 1) := by decide +kernel
theorem dX2_lay_36 : decode cX2_lay 36 = .ok (.iastore, 1) := by decide +kernel
theorem dX2_lay_37 : decode cX2_lay 37 = .ok (.iload 4, 2) := by decide +kernel
theorem dX2_lay_39 : decode cX2_lay 39 = .ok (.ireturn, 1) := by decide +kernel
theorem dX2_hear_0 : decode cX2_hear 0 = .ok (.aload_n 0, 1) := by decide +kernel
theorem dX2_hear_1 : decode cX2_hear 1 = .ok (.getfield 18, 3) := by decide +kernel
theorem dX2_hear_4 : decode cX2_hear 4 = .ok (.iload_n 1, 1) := by decide +kernel
theorem dX2_hear_5 : decode cX2_hear 5 = .ok (.iaload, 1) := by decide +kernel
theorem dX2_hear_6 : decode cX2_hear 6 = .ok (.iconst (-1), 1) := by decide +kernel
theorem dX2_hear_7 : decode cX2_hear 7 = .ok (.if_icmp .ne 13, 3) := by decide +kernel
theorem dX2_hear_10 : decode cX2_hear 10 = .ok (.aload_n 0, 1) := by decide +kernel
theorem dX2_hear_11 : decode cX2_hear 11 = .ok (.dup, 1) := by decide +kernel
theorem dX2_hear_12 : decode cX2_hear 12 = .ok (.getfield 27, 3) := by decide +kernel
theorem dX2_hear_15 : decode cX2_hear 15 = .ok (.iconst 1, 1) := by decide +kernel
theorem dX2_hear_16 : decode cX2_hear 16 = .ok (.iadd, 1) := by decide +kernel
theorem dX2_hear_17 : decode cX2_hear 17 = .ok (.putfield 27, 3) := by decide +kernel
theorem dX2_hear_20 : decode cX2_hear 20 = .ok (.aload_n 0, 1) := by decide +kernel
theorem dX2_hear_21 : decode cX2_hear 21 = .ok (.getfield 18, 3) := by decide +kernel
theorem dX2_hear_24 : decode cX2_hear 24 = .ok (.iload_n 1, 1) := by decide +kernel
theorem dX2_hear_25 : decode cX2_hear 25 = .ok (.iload_n 2, 1) := by decide +kernel
theorem dX2_hear_26 : decode cX2_hear 26 = .ok (.iastore, 1) := by decide +kernel
theorem dX2_hear_27 : decode cX2_hear 27 = .ok (.aload_n 0, 1) := by decide +kernel
theorem dX2_hear_28 : decode cX2_hear 28 = .ok (.getfield 27, 3) := by decide +kernel
theorem dX2_hear_31 : decode cX2_hear 31 = .ok (.ireturn, 1) := by decide +kernel
theorem dX2_hush_0 : decode cX2_hush 0 = .ok (.aload_n 0, 1) := by decide +kernel
theorem dX2_hush_1 : decode cX2_hush 1 = .ok (.getfield 18, 3) := by decide +kernel
theorem dX2_hush_4 : decode cX2_hush 4 = .ok (.iconst (-1), 1) := by decide +kernel
theorem dX2_hush_5 : decode cX2_hush 5 = .ok (.invokestatic 21, 3) := by decide +kernel
theorem dX2_hush_8 : decode cX2_hush 8 = .ok (.aload_n 0, 1) := by decide +kernel
theorem dX2_hush_9 : decode cX2_hush 9 = .ok (.iconst 0, 1) := by decide +kernel
theorem dX2_hush_10 : decode cX2_hush 10 = .ok (.putfield 27, 3) := by decide +kernel
theorem dX2_hush_13 : decode cX2_hush 13 = .ok (.return_, 1) := by decide +kernel
theorem dX2_measure_0 : decode cX2_measure 0 = .ok (.iconst 0, 1) := by decide +kernel
theorem dX2_measure_1 : decode cX2_measure 1 = .ok (.istore_n 1, 1) := by decide +kernel
theorem dX2_measure_2 : decode cX2_measure 2 = .ok (.iload_n 1, 1) := by decide +kernel
theorem dX2_measure_3 : decode cX2_measure 3 = .ok (.bipush 12, 2) := by decide +kernel
theorem dX2_measure_5 : decode cX2_measure 5 = .ok (.if_icmp .ge 65, 3) := by decide +kernel
theorem dX2_measure_8 : decode cX2_measure 8 = .ok (.iconst 0, 1) := by decide +kernel
theorem dX2_measure_9 : decode cX2_measure 9 = .ok (.istore_n 2, 1) := by decide +kernel
theorem dX2_measure_10 : decode cX2_measure 10 = .ok (.iload_n 2, 1) := by decide +kernel
theorem dX2_measure_11 : decode cX2_measure 11 = .ok (.bipush 12, 2) := by decide +kernel
theorem dX2_measure_13 : decode cX2_measure 13 = .ok (.if_icmp .ge 51, 3) := by decide +kernel
theorem dX2_measure_16 : decode cX2_measure 16 = .ok (.aload_n 0, 1) := by decide +kernel
theorem dX2_measure_17 : decode cX2_measure 17 = .ok (.getfield 9, 3) := by decide +kernel
theorem dX2_measure_20 : decode cX2_measure 20 = .ok (.iload_n 1, 1) := by decide +kernel
theorem dX2_measure_21 : decode cX2_measure 21 = .ok (.bipush 12, 2) := by decide +kernel
theorem dX2_measure_23 : decode cX2_measure 23 = .ok (.imul, 1) := by decide +kernel
theorem dX2_measure_24 : decode cX2_measure 24 = .ok (.iload_n 2, 1) := by decide +kernel
theorem dX2_measure_25 : decode cX2_measure 25 = .ok (.iadd, 1) := by decide +kernel
theorem dX2_measure_26 : decode cX2_measure 26 = .ok (.iaload, 1) := by decide +kernel
theorem dX2_measure_27 : decode cX2_measure 27 = .ok (.istore_n 3, 1) := by decide +kernel
theorem dX2_measure_28 : decode cX2_measure 28 = .ok (.aload_n 0, 1) := by decide +kernel
theorem dX2_measure_29 : decode cX2_measure 29 = .ok (.getfield 15, 3) := by decide +kernel
theorem dX2_measure_32 : decode cX2_measure 32 = .ok (.iload_n 1, 1) := by decide +kernel
theorem dX2_measure_33 : decode cX2_measure 33 = .ok (.bipush 12, 2) := by decide +kernel
theorem dX2_measure_35 : decode cX2_measure 35 = .ok (.imul, 1) := by decide +kernel
theorem dX2_measure_36 : decode cX2_measure 36 = .ok (.iload_n 2, 1) := by decide +kernel
theorem dX2_measure_37 : decode cX2_measure 37 = .ok (.iadd, 1) := by decide +kernel
theorem dX2_measure_38 : decode cX2_measure 38 = .ok (.iload_n 1, 1) := by decide +kernel
theorem dX2_measure_39 : decode cX2_measure 39 = .ok (.iload_n 2, 1) := by decide +kernel
theorem dX2_measure_40 : decode cX2_measure 40 = .ok (.if_icmp .ne 7, 3) := by decide +kernel
theorem dX2_measure_43 : decode cX2_measure 43 = .ok (.iconst 0, 1) := by decide +kernel
theorem dX2_measure_44 : decode cX2_measure 44 = .ok (.goto 13, 3) := by decide +kernel
theorem dX2_measure_47 : decode cX2_measure 47 = .ok (.iload_n 3, 1) := by decide +kernel
theorem dX2_measure_48 : decode cX2_measure 48 = .ok (.ifCond .ne 8, 3) := by decide +kernel
theorem dX2_measure_51 : decode cX2_measure 51 = .ok (.ldc 31, 2) := by decide +kernel
theorem dX2_measure_53 : decode cX2_measure 53 = .ok (.goto 4, 3) := by decide +kernel
theorem dX2_measure_56 : decode cX2_measure 56 = .ok (.iload_n 3, 1) := by decide +kernel
theorem dX2_measure_57 : decode cX2_measure 57 = .ok (.iastore, 1) := by decide +kernel
theorem dX2_measure_58 : decode cX2_measure 58 = .ok (.iinc 2 1, 3) := by decide +kernel
theorem dX2_measure_61 : decode cX2_measure 61 = .ok (.goto (-51), 3) := by decide +kernel
theorem dX2_measure_64 : decode cX2_measure 64 = .ok (.iinc 1 1, 3) := by decide +kernel
theorem dX2_measure_67 : decode cX2_measure 67 = .ok (.goto (-65), 3) := by decide +kernel
theorem dX2_measure_70 : decode cX2_measure 70 = .ok (.iconst 0, 1) := by decide +kernel
theorem dX2_measure_71 : decode cX2_measure 71 = .ok (.istore_n 1, 1) := by decide +kernel
theorem dX2_measure_72 : decode cX2_measure 72 = .ok (.iload_n 1, 1) := by decide +kernel
theorem dX2_measure_73 : decode cX2_measure 73 = .ok (.bipush 12, 2) := by decide +kernel
theorem dX2_measure_75 : decode cX2_measure 75 = .ok (.if_icmp .ge 89, 3) := by decide +kernel
theorem dX2_measure_78 : decode cX2_measure 78 = .ok (.iconst 0, 1) := by decide +kernel
theorem dX2_measure_79 : decode cX2_measure 79 = .ok (.istore_n 2, 1) := by decide +kernel
theorem dX2_measure_80 : decode cX2_measure 80 = .ok (.iload_n 2, 1) := by decide +kernel
theorem dX2_measure_81 : decode cX2_measure 81 = .ok (.bipush 12, 2) := by decide +kernel
theorem dX2_measure_83 : decode cX2_measure 83 = .ok (.if_icmp .ge 75, 3) := by decide +kernel
theorem dX2_measure_86 : decode cX2_measure 86 = .ok (.iconst 0, 1) := by decide +kernel
theorem dX2_measure_87 : decode cX2_measure 87 = .ok (.istore_n 3, 1) := by decide +kernel
theorem dX2_measure_88 : decode cX2_measure 88 = .ok (.iload_n 3, 1) := by decide +kernel
theorem dX2_measure_89 : decode cX2_measure 89 = .ok (.bipush 12, 2) := by decide +kernel
theorem dX2_measure_91 : decode cX2_measure 91 = .ok (.if_icmp .ge 61, 3) := by decide +kernel
theorem dX2_measure_94 : decode cX2_measure 94 = .ok (.aload_n 0, 1) := by decide +kernel
theorem dX2_measure_95 : decode cX2_measure 95 = .ok (.getfield 15, 3) := by decide +kernel
theorem dX2_measure_98 : decode cX2_measure 98 = .ok (.iload_n 2, 1) := by decide +kernel
theorem dX2_measure_99 : decode cX2_measure 99 = .ok (.bipush 12, 2) := by decide +kernel
theorem dX2_measure_101 : decode cX2_measure 101 = .ok (.imul, 1) := by decide +kernel
theorem dX2_measure_102 : decode cX2_measure 102 = .ok (.iload_n 1, 1) := by decide +kernel
theorem dX2_measure_103 : decode cX2_measure 103 = .ok (.iadd, 1) := by decide +kernel
theorem dX2_measure_104 : decode cX2_measure 104 = .ok (.iaload, 1) := by decide +kernel
theorem dX2_measure_105 : decode cX2_measure 105 = .ok (.aload_n 0, 1) := by decide +kernel
theorem dX2_measure_106 : decode cX2_measure 106 = .ok (.getfield 15, 3) := by decide +kernel
theorem dX2_measure_109 : decode cX2_measure 109 = .ok (.iload_n 1, 1) := by decide +kernel
theorem dX2_measure_110 : decode cX2_measure 110 = .ok (.bipush 12, 2) := by decide +kernel
theorem dX2_measure_112 : decode cX2_measure 112 = .ok (.imul, 1) := by decide +kernel
theorem dX2_measure_113 : decode cX2_measure 113 = .ok (.iload_n 3, 1) := by decide +kernel
theorem dX2_measure_114 : decode cX2_measure 114 = .ok (.iadd, 1) := by decide +kernel
theorem dX2_measure_115 : decode cX2_measure 115 = .ok (.iaload, 1) := by decide +kernel
theorem dX2_measure_116 : decode cX2_measure 116 = .ok (.iadd, 1) := by decide +kernel
theorem dX2_measure_117 : decode cX2_measure 117 = .ok (.istore 4, 2) := by decide +kernel
theorem dX2_measure_119 : decode cX2_measure 119 = .ok (.aload_n 0, 1) := by decide +kernel
theorem dX2_measure_120 : decode cX2_measure 120 = .ok (.getfield 15, 3) := by decide +kernel
theorem dX2_measure_123 : decode cX2_measure 123 = .ok (.iload_n 2, 1) := by decide +kernel
theorem dX2_measure_124 : decode cX2_measure 124 = .ok (.bipush 12, 2) := by decide +kernel
theorem dX2_measure_126 : decode cX2_measure 126 = .ok (.imul, 1) := by decide +kernel
theorem dX2_measure_127 : decode cX2_measure 127 = .ok (.iload_n 3, 1) := by decide +kernel
theorem dX2_measure_128 : decode cX2_measure 128 = .ok (.iadd, 1) := by decide +kernel
theorem dX2_measure_129 : decode cX2_measure 129 = .ok (.aload_n 0, 1) := by decide +kernel
theorem dX2_measure_130 : decode cX2_measure 130 = .ok (.getfield 15, 3) := by decide +kernel
theorem dX2_measure_133 : decode cX2_measure 133 = .ok (.iload_n 2, 1) := by decide +kernel
theorem dX2_measure_134 : decode cX2_measure 134 = .ok (.bipush 12, 2) := by decide +kernel
theorem dX2_measure_136 : decode cX2_measure 136 = .ok (.imul, 1) := by decide +kernel
theorem dX2_measure_137 : decode cX2_measure 137 = .ok (.iload_n 3, 1) := by decide +kernel
theorem dX2_measure_138 : decode cX2_measure 138 = .ok (.iadd, 1) := by decide +kernel
theorem dX2_measure_139 : decode cX2_measure 139 = .ok (.iaload, 1) := by decide +kernel
theorem dX2_measure_140 : decode cX2_measure 140 = .ok (.iload 4, 2) := by decide +kernel
theorem dX2_measure_142 : decode cX2_measure 142 = .ok (.invokestatic 32, 3) := by decide +kernel
theorem dX2_measure_145 : decode cX2_measure 145 = .ok (.iastore, 1) := by decide +kernel
theorem dX2_measure_146 : decode cX2_measure 146 = .ok (.iinc 3 1, 3) := by decide +kernel
theorem dX2_measure_149 : decode cX2_measure 149 = .ok (.goto (-61), 3) := by decide +kernel
theorem dX2_measure_152 : decode cX2_measure 152 = .ok (.iinc 2 1, 3) := by decide +kernel
theorem dX2_measure_155 : decode cX2_measure 155 = .ok (.goto (-75), 3) := by decide +kernel
theorem dX2_measure_158 : decode cX2_measure 158 = .ok (.iinc 1 1, 3) := by decide +kernel
theorem dX2_measure_161 : decode cX2_measure 161 = .ok (.goto (-89), 3) := by decide +kernel
theorem dX2_measure_164 : decode cX2_measure 164 = .ok (.return_, 1) := by decide +kernel
theorem dX2_seek_0 : decode cX2_seek 0 = .ok (.aload_n 0, 1) := by decide +kernel
theorem dX2_seek_1 : decode cX2_seek 1 = .ok (.iconst (-1), 1) := by decide +kernel
theorem dX2_seek_2 : decode cX2_seek 2 = .ok (.putfield 38, 3) := by decide +kernel
theorem dX2_seek_5 : decode cX2_seek 5 = .ok (.iconst 0, 1) := by decide +kernel
theorem dX2_seek_6 : decode cX2_seek 6 = .ok (.istore_n 2, 1) := by decide +kernel
theorem dX2_seek_7 : decode cX2_seek 7 = .ok (.iload_n 2, 1) := by decide +kernel
theorem dX2_seek_8 : decode cX2_seek 8 = .ok (.bipush 12, 2) := by decide +kernel
theorem dX2_seek_10 : decode cX2_seek 10 = .ok (.if_icmp .ge 73, 3) := by decide +kernel
theorem dX2_seek_13 : decode cX2_seek 13 = .ok (.aload_n 0, 1) := by decide +kernel
theorem dX2_seek_14 : decode cX2_seek 14 = .ok (.getfield 27, 3) := by decide +kernel
theorem dX2_seek_17 : decode cX2_seek 17 = .ok (.ifCond .le 66, 3) := by decide +kernel
theorem dX2_seek_20 : decode cX2_seek 20 = .ok (.aload_n 0, 1) := by decide +kernel
theorem dX2_seek_21 : decode cX2_seek 21 = .ok (.iload_n 2, 1) := by decide +kernel
theorem dX2_seek_22 : decode cX2_seek 22 = .ok (.invokevirtual 41, 3) := by decide +kernel
theorem dX2_seek_25 : decode cX2_seek 25 = .ok (.ifCond .eq 52, 3) := by decide +kernel
theorem dX2_seek_28 : decode cX2_seek 28 = .ok (.aload_n 0, 1) := by decide +kernel
theorem dX2_seek_29 : decode cX2_seek 29 = .ok (.iload_n 2, 1) := by decide +kernel
theorem dX2_seek_30 : decode cX2_seek 30 = .ok (.iload_n 1, 1) := by decide +kernel
theorem dX2_seek_31 : decode cX2_seek 31 = .ok (.invokevirtual 45, 3) := by decide +kernel
theorem dX2_seek_34 : decode cX2_seek 34 = .ok (.istore_n 3, 1) := by decide +kernel
theorem dX2_seek_35 : decode cX2_seek 35 = .ok (.aload_n 0, 1) := by decide +kernel
theorem dX2_seek_36 : decode cX2_seek 36 = .ok (.iload_n 2, 1) := by decide +kernel
theorem dX2_seek_37 : decode cX2_seek 37 = .ok (.iload_n 1, 1) := by decide +kernel
theorem dX2_seek_38 : decode cX2_seek 38 = .ok (.iload_n 3, 1) := by decide +kernel
theorem dX2_seek_39 : decode cX2_seek 39 = .ok (.invokevirtual 48, 3) := by decide +kernel
theorem dX2_seek_42 : decode cX2_seek 42 = .ok (.istore 4, 2) := by decide +kernel
theorem dX2_seek_44 : decode cX2_seek 44 = .ok (.aload_n 0, 1) := by decide +kernel
theorem dX2_seek_45 : decode cX2_seek 45 = .ok (.getfield 38, 3) := by decide +kernel
theorem dX2_seek_48 : decode cX2_seek 48 = .ok (.iconst (-1), 1) := by decide +kernel
theorem dX2_seek_49 : decode cX2_seek 49 = .ok (.if_icmp .eq 12, 3) := by decide +kernel
theorem dX2_seek_52 : decode cX2_seek 52 = .ok (.iload 4, 2) := by decide +kernel
theorem dX2_seek_54 : decode cX2_seek 54 = .ok (.aload_n 0, 1) := by decide +kernel
theorem dX2_seek_55 : decode cX2_seek 55 = .ok (.getfield 52, 3) := by decide +kernel
theorem dX2_seek_58 : decode cX2_seek 58 = .ok (.if_icmp .ge 19, 3) := by decide +kernel
theorem dX2_seek_61 : decode cX2_seek 61 = .ok (.aload_n 0, 1) := by decide +kernel
theorem dX2_seek_62 : decode cX2_seek 62 = .ok (.iload_n 2, 1) := by decide +kernel
theorem dX2_seek_63 : decode cX2_seek 63 = .ok (.putfield 38, 3) := by decide +kernel
theorem dX2_seek_66 : decode cX2_seek 66 = .ok (.aload_n 0, 1) := by decide +kernel
theorem dX2_seek_67 : decode cX2_seek 67 = .ok (.iload_n 3, 1) := by decide +kernel
theorem dX2_seek_68 : decode cX2_seek 68 = .ok (.putfield 55, 3) := by decide +kernel
theorem dX2_seek_71 : decode cX2_seek 71 = .ok (.aload_n 0, 1) := by decide +kernel
theorem dX2_seek_72 : decode cX2_seek 72 = .ok (.iload 4, 2) := by decide +kernel
theorem dX2_seek_74 : decode cX2_seek 74 = .ok (.putfield 52, 3) := by decide +kernel
theorem dX2_seek_77 : decode cX2_seek 77 = .ok (.iinc 2 1, 3) := by decide +kernel
theorem dX2_seek_80 : decode cX2_seek 80 = .ok (.goto (-73), 3) := by decide +kernel
theorem dX2_seek_83 : decode cX2_seek 83 = .ok (.return_, 1) := by decide +kernel
theorem dX2_reachesReports_0 : decode cX2_reachesReports 0 = .ok (.iconst 0, 1) := by decide +kernel
theorem dX2_reachesReports_1 : decode cX2_reachesReports 1 = .ok (.istore_n 2, 1) := by decide +kernel
theorem dX2_reachesReports_2 : decode cX2_reachesReports 2 = .ok (.iload_n 2, 1) := by decide +kernel
theorem dX2_reachesReports_3 : decode cX2_reachesReports 3 = .ok (.bipush 12, 2) := by decide +kernel
theorem dX2_reachesReports_5 : decode cX2_reachesReports 5 = .ok (.if_icmp .ge 37, 3) := by decide +kernel
theorem dX2_reachesReports_8 : decode cX2_reachesReports 8 = .ok (.aload_n 0, 1) := by decide +kernel
theorem dX2_reachesReports_9 : decode cX2_reachesReports 9 = .ok (.getfield 18, 3) := by decide +kernel
theorem dX2_reachesReports_12 : decode cX2_reachesReports 12 = .ok (.iload_n 2, 1) := by decide +kernel
theorem dX2_reachesReports_13 : decode cX2_reachesReports 13 = .ok (.iaload, 1) := by decide +kernel
theorem dX2_reachesReports_14 : decode cX2_reachesReports 14 = .ok (.iconst (-1), 1) := by decide +kernel
theorem dX2_reachesReports_15 : decode cX2_reachesReports 15 = .ok (.if_icmp .eq 21, 3) := by decide +kernel
theorem dX2_reachesReports_18 : decode cX2_reachesReports 18 = .ok (.aload_n 0, 1) := by decide +kernel
theorem dX2_reachesReports_19 : decode cX2_reachesReports 19 = .ok (.getfield 15, 3) := by decide +kernel
theorem dX2_reachesReports_22 : decode cX2_reachesReports 22 = .ok (.iload_n 1, 1) := by decide +kernel
theorem dX2_reachesReports_23 : decode cX2_reachesReports 23 = .ok (.bipush 12, 2) := by decide +kernel
theorem dX2_reachesReports_25 : decode cX2_reachesReports 25 = .ok (.imul, 1) := by decide +kernel
theorem dX2_reachesReports_26 : decode cX2_reachesReports 26 = .ok (.iload_n 2, 1) := by decide +kernel
theorem dX2_reachesReports_27 : decode cX2_reachesReports 27 = .ok (.iadd, 1) := by decide +kernel
theorem dX2_reachesReports_28 : decode cX2_reachesReports 28 = .ok (.iaload, 1) := by decide +kernel
theorem dX2_reachesReports_29 : decode cX2_reachesReports 29 = .ok (.ldc 31, 2) := by decide +kernel
theorem dX2_reachesReports_31 : decode cX2_reachesReports 31 = .ok (.if_icmp .lt 5, 3) := by decide +kernel
theorem dX2_reachesReports_34 : decode cX2_reachesReports 34 = .ok (.iconst 0, 1) := by decide +kernel
theorem dX2_reachesReports_35 : decode cX2_reachesReports 35 = .ok (.ireturn, 1) := by decide +kernel
theorem dX2_reachesReports_36 : decode cX2_reachesReports 36 = .ok (.iinc 2 1, 3) := by decide +kernel
theorem dX2_reachesReports_39 : decode cX2_reachesReports 39 = .ok (.goto (-37), 3) := by decide +kernel
theorem dX2_reachesReports_42 : decode cX2_reachesReports 42 = .ok (.iconst 1, 1) := by decide +kernel
theorem dX2_reachesReports_43 : decode cX2_reachesReports 43 = .ok (.ireturn, 1) := by decide +kernel
theorem dX2_farness_0 : decode cX2_farness 0 = .ok (.aload_n 0, 1) := by decide +kernel
theorem dX2_farness_1 : decode cX2_farness 1 = .ok (.getfield 15, 3) := by decide +kernel
theorem dX2_farness_4 : decode cX2_farness 4 = .ok (.iload_n 1, 1) := by decide +kernel
theorem dX2_farness_5 : decode cX2_farness 5 = .ok (.bipush 12, 2) := by decide +kernel
theorem dX2_farness_7 : decode cX2_farness 7 = .ok (.imul, 1) := by decide +kernel
theorem dX2_farness_8 : decode cX2_farness 8 = .ok (.iload_n 2, 1) := by decide +kernel
theorem dX2_farness_9 : decode cX2_farness 9 = .ok (.iadd, 1) := by decide +kernel
theorem dX2_farness_10 : decode cX2_farness 10 = .ok (.iaload, 1) := by decide +kernel
theorem dX2_farness_11 : decode cX2_farness 11 = .ok (.iload_n 3, 1) := by decide +kernel
theorem dX2_farness_12 : decode cX2_farness 12 = .ok (.imul, 1) := by decide +kernel
theorem dX2_farness_13 : decode cX2_farness 13 = .ok (.bipush 10, 2) := by decide +kernel
theorem dX2_farness_15 : decode cX2_farness 15 = .ok (.idiv, 1) := by decide +kernel
theorem dX2_farness_16 : decode cX2_farness 16 = .ok (.ireturn, 1) := by decide +kernel
theorem dX2_latestStart_0 : decode cX2_latestStart 0 = .ok (.sipush 999, 3) := by decide +kernel
theorem dX2_latestStart_3 : decode cX2_latestStart 3 = .ok (.istore_n 3, 1) := by decide +kernel
theorem dX2_latestStart_4 : decode cX2_latestStart 4 = .ok (.iconst 0, 1) := by decide +kernel
theorem dX2_latestStart_5 : decode cX2_latestStart 5 = .ok (.istore 4, 2) := by decide +kernel
theorem dX2_latestStart_7 : decode cX2_latestStart 7 = .ok (.iload 4, 2) := by decide +kernel
theorem dX2_latestStart_9 : decode cX2_latestStart 9 = .ok (.bipush 12, 2) := by decide +kernel
theorem dX2_latestStart_11 : decode cX2_latestStart 11 = .ok (.if_icmp .ge 41, 3) := by decide +kernel
theorem dX2_latestStart_14 : decode cX2_latestStart 14 = .ok (.aload_n 0, 1) := by decide +kernel
theorem dX2_latestStart_15 : decode cX2_latestStart 15 = .ok (.getfield 18, 3) := by decide +kernel
theorem dX2_latestStart_18 : decode cX2_latestStart 18 = .ok (.iload 4, 2) := by decide +kernel
theorem dX2_latestStart_20 : decode cX2_latestStart 20 = .ok (.iaload, 1) := by decide +kernel
theorem dX2_latestStart_21 : decode cX2_latestStart 21 = .ok (.iconst (-1), 1) := by decide +kernel
theorem dX2_latestStart_22 : decode cX2_latestStart 22 = .ok (.if_icmp .eq 24, 3) := by decide +kernel
theorem dX2_latestStart_25 : decode cX2_latestStart 25 = .ok (.iload_n 3, 1) := by decide +kernel
theorem dX2_latestStart_26 : decode cX2_latestStart 26 = .ok (.aload_n 0, 1) := by decide +kernel
theorem dX2_latestStart_27 : decode cX2_latestStart 27 = .ok (.getfield 18, 3) := by decide +kernel
theorem dX2_latestStart_30 : decode cX2_latestStart 30 = .ok (.iload 4, 2) := by decide +kernel
theorem dX2_latestStart_32 : decode cX2_latestStart 32 = .ok (.iaload, 1) := by decide +kernel
theorem dX2_latestStart_33 : decode cX2_latestStart 33 = .ok (.aload_n 0, 1) := by decide +kernel
theorem dX2_latestStart_34 : decode cX2_latestStart 34 = .ok (.iload_n 1, 1) := by decide +kernel
theorem dX2_latestStart_35 : decode cX2_latestStart 35 = .ok (.iload 4, 2) := by decide +kernel
theorem dX2_latestStart_37 : decode cX2_latestStart 37 = .ok (.iload_n 2, 1) := by decide +kernel
theorem dX2_latestStart_38 : decode cX2_latestStart 38 = .ok (.invokevirtual 58, 3) := by decide +kernel
theorem dX2_latestStart_41 : decode cX2_latestStart 41 = .ok (.isub, 1) := by decide +kernel
theorem dX2_latestStart_42 : decode cX2_latestStart 42 = .ok (.invokestatic 32, 3) := by decide +kernel
theorem dX2_latestStart_45 : decode cX2_latestStart 45 = .ok (.istore_n 3, 1) := by decide +kernel
theorem dX2_latestStart_46 : decode cX2_latestStart 46 = .ok (.iinc 4 1, 3) := by decide +kernel
theorem dX2_latestStart_49 : decode cX2_latestStart 49 = .ok (.goto (-42), 3) := by decide +kernel
theorem dX2_latestStart_52 : decode cX2_latestStart 52 = .ok (.iload_n 3, 1) := by decide +kernel
theorem dX2_latestStart_53 : decode cX2_latestStart 53 = .ok (.ireturn, 1) := by decide +kernel
theorem dX2_latenessOf_0 : decode cX2_latenessOf 0 = .ok (.iconst 0, 1) := by decide +kernel
theorem dX2_latenessOf_1 : decode cX2_latenessOf 1 = .ok (.istore 4, 2) := by decide +kernel
theorem dX2_latenessOf_3 : decode cX2_latenessOf 3 = .ok (.iconst 0, 1) := by decide +kernel
theorem dX2_latenessOf_4 : decode cX2_latenessOf 4 = .ok (.istore 5, 2) := by decide +kernel
theorem dX2_latenessOf_6 : decode cX2_latenessOf 6 = .ok (.iload 5, 2) := by decide +kernel
theorem dX2_latenessOf_8 : decode cX2_latenessOf 8 = .ok (.bipush 12, 2) := by decide +kernel
theorem dX2_latenessOf_10 : decode cX2_latenessOf 10 = .ok (.if_icmp .ge 43, 3) := by decide +kernel
theorem dX2_latenessOf_13 : decode cX2_latenessOf 13 = .ok (.aload_n 0, 1) := by decide +kernel
theorem dX2_latenessOf_14 : decode cX2_latenessOf 14 = .ok (.getfield 18, 3) := by decide +kernel
theorem dX2_latenessOf_17 : decode cX2_latenessOf 17 = .ok (.iload 5, 2) := by decide +kernel
theorem dX2_latenessOf_19 : decode cX2_latenessOf 19 = .ok (.iaload, 1) := by decide +kernel
theorem dX2_latenessOf_20 : decode cX2_latenessOf 20 = .ok (.iconst (-1), 1) := by decide +kernel
theorem dX2_latenessOf_21 : decode cX2_latenessOf 21 = .ok (.if_icmp .eq 26, 3) := by decide +kernel
theorem dX2_latenessOf_24 : decode cX2_latenessOf 24 = .ok (.iload 4, 2) := by decide +kernel
theorem dX2_latenessOf_26 : decode cX2_latenessOf 26 = .ok (.aload_n 0, 1) := by decide +kernel
theorem dX2_latenessOf_27 : decode cX2_latenessOf 27 = .ok (.getfield 18, 3) := by decide +kernel
theorem dX2_latenessOf_30 : decode cX2_latenessOf 30 = .ok (.iload 5, 2) := by decide +kernel
theorem dX2_latenessOf_32 : decode cX2_latenessOf 32 = .ok (.iaload, 1) := by decide +kernel
theorem dX2_latenessOf_33 : decode cX2_latenessOf 33 = .ok (.iload_n 3, 1) := by decide +kernel
theorem dX2_latenessOf_34 : decode cX2_latenessOf 34 = .ok (.isub, 1) := by decide +kernel
theorem dX2_latenessOf_35 : decode cX2_latenessOf 35 = .ok (.aload_n 0, 1) := by decide +kernel
theorem dX2_latenessOf_36 : decode cX2_latenessOf 36 = .ok (.iload_n 1, 1) := by decide +kernel
theorem dX2_latenessOf_37 : decode cX2_latenessOf 37 = .ok (.iload 5, 2) := by decide +kernel
theorem dX2_latenessOf_39 : decode cX2_latenessOf 39 = .ok (.iload_n 2, 1) := by decide +kernel
theorem dX2_latenessOf_40 : decode cX2_latenessOf 40 = .ok (.invokevirtual 58, 3) := by decide +kernel
theorem dX2_latenessOf_43 : decode cX2_latenessOf 43 = .ok (.isub, 1) := by decide +kernel
theorem dX2_latenessOf_44 : decode cX2_latenessOf 44 = .ok (.iadd, 1) := by decide +kernel
theorem dX2_latenessOf_45 : decode cX2_latenessOf 45 = .ok (.istore 4, 2) := by decide +kernel
theorem dX2_latenessOf_47 : decode cX2_latenessOf 47 = .ok (.iinc 5 1, 3) := by decide +kernel
theorem dX2_latenessOf_50 : decode cX2_latenessOf 50 = .ok (.goto (-44), 3) := by decide +kernel
theorem dX2_latenessOf_53 : decode cX2_latenessOf 53 = .ok (.iload 4, 2) := by decide +kernel
theorem dX2_latenessOf_55 : decode cX2_latenessOf 55 = .ok (.ireturn, 1) := by decide +kernel
theorem dX2_bestPace_0 : decode cX2_bestPace 0 = .ok (.aload_n 0, 1) := by decide +kernel
theorem dX2_bestPace_1 : decode cX2_bestPace 1 = .ok (.invokevirtual 61, 3) := by decide +kernel
theorem dX2_bestPace_4 : decode cX2_bestPace 4 = .ok (.iconst (-1), 1) := by decide +kernel
theorem dX2_bestPace_5 : decode cX2_bestPace 5 = .ok (.istore_n 1, 1) := by decide +kernel
theorem dX2_bestPace_6 : decode cX2_bestPace 6 = .ok (.iconst 0, 1) := by decide +kernel
theorem dX2_bestPace_7 : decode cX2_bestPace 7 = .ok (.istore_n 2, 1) := by decide +kernel
theorem dX2_bestPace_8 : decode cX2_bestPace 8 = .ok (.iconst 1, 1) := by decide +kernel
theorem dX2_bestPace_9 : decode cX2_bestPace 9 = .ok (.istore_n 3, 1) := by decide +kernel
theorem dX2_bestPace_10 : decode cX2_bestPace 10 = .ok (.iload_n 3, 1) := by decide +kernel
theorem dX2_bestPace_11 : decode cX2_bestPace 11 = .ok (.bipush 20, 2) := by decide +kernel
theorem dX2_bestPace_13 : decode cX2_bestPace 13 = .ok (.if_icmp .gt 42, 3) := by decide +kernel
theorem dX2_bestPace_16 : decode cX2_bestPace 16 = .ok (.aload_n 0, 1) := by decide +kernel
theorem dX2_bestPace_17 : decode cX2_bestPace 17 = .ok (.iload_n 3, 1) := by decide +kernel
theorem dX2_bestPace_18 : decode cX2_bestPace 18 = .ok (.invokevirtual 64, 3) := by decide +kernel
theorem dX2_bestPace_21 : decode cX2_bestPace 21 = .ok (.aload_n 0, 1) := by decide +kernel
theorem dX2_bestPace_22 : decode cX2_bestPace 22 = .ok (.getfield 38, 3) := by decide +kernel
theorem dX2_bestPace_25 : decode cX2_bestPace 25 = .ok (.iconst (-1), 1) := by decide +kernel
theorem dX2_bestPace_26 : decode cX2_bestPace 26 = .ok (.if_icmp .eq 23, 3) := by decide +kernel
theorem dX2_bestPace_29 : decode cX2_bestPace 29 = .ok (.iload_n 1, 1) := by decide +kernel
theorem dX2_bestPace_30 : decode cX2_bestPace 30 = .ok (.iconst (-1), 1) := by decide +kernel
theorem dX2_bestPace_31 : decode cX2_bestPace 31 = .ok (.if_icmp .eq 11, 3) := by decide +kernel
theorem dX2_bestPace_34 : decode cX2_bestPace 34 = .ok (.aload_n 0, 1) := by decide +kernel
theorem dX2_bestPace_35 : decode cX2_bestPace 35 = .ok (.getfield 52, 3) := by decide +kernel
theorem dX2_bestPace_38 : decode cX2_bestPace 38 = .ok (.iload_n 2, 1) := by decide +kernel
theorem dX2_bestPace_39 : decode cX2_bestPace 39 = .ok (.if_icmp .ge 10, 3) := by decide +kernel
theorem dX2_bestPace_42 : decode cX2_bestPace 42 = .ok (.iload_n 3, 1) := by decide +kernel
theorem dX2_bestPace_43 : decode cX2_bestPace 43 = .ok (.istore_n 1, 1) := by decide +kernel
theorem dX2_bestPace_44 : decode cX2_bestPace 44 = .ok (.aload_n 0, 1) := by decide +kernel
theorem dX2_bestPace_45 : decode cX2_bestPace 45 = .ok (.getfield 52, 3) := by decide +kernel
theorem dX2_bestPace_48 : decode cX2_bestPace 48 = .ok (.istore_n 2, 1) := by decide +kernel
theorem dX2_bestPace_49 : decode cX2_bestPace 49 = .ok (.iinc 3 1, 3) := by decide +kernel
theorem dX2_bestPace_52 : decode cX2_bestPace 52 = .ok (.goto (-42), 3) := by decide +kernel
theorem dX2_bestPace_55 : decode cX2_bestPace 55 = .ok (.iload_n 1, 1) := by decide +kernel
theorem dX2_bestPace_56 : decode cX2_bestPace 56 = .ok (.ireturn, 1) := by decide +kernel
theorem dX3_init_0 : decode cX3_init 0 = .ok (.aload_n 0, 1) := by decide +kernel
theorem dX3_init_1 : decode cX3_init 1 = .ok (.invokespecial 3, 3) := by decide +kernel
theorem dX3_init_4 : decode cX3_init 4 = .ok (.aload_n 0, 1) := by decide +kernel
theorem dX3_init_5 : decode cX3_init 5 = .ok (.bipush 6, 2) := by decide +kernel
theorem dX3_init_7 : decode cX3_init 7 = .ok (.newarray .int, 2) := by decide +kernel
theorem dX3_init_9 : decode cX3_init 9 = .ok (.putfield 9, 3) := by decide +kernel
theorem dX3_init_12 : decode cX3_init 12 = .ok (.aload_n 0, 1) := by decide +kernel
theorem dX3_init_13 : decode cX3_init 13 = .ok (.bipush 6, 2) := by decide +kernel
theorem dX3_init_15 : decode cX3_init 15 = .ok (.newarray .int, 2) := by decide +kernel
theorem dX3_init_17 : decode cX3_init 17 = .ok (.putfield 15, 3) := by decide +kernel
theorem dX3_init_20 : decode cX3_init 20 = .ok (.aload_n 0, 1) := by decide +kernel
theorem dX3_init_21 : decode cX3_init 21 = .ok (.bipush 6, 2) := by decide +kernel
theorem dX3_init_23 : decode cX3_init 23 = .ok (.newarray .int, 2) := by decide +kernel
theorem dX3_init_25 : decode cX3_init 25 = .ok (.putfield 18, 3) := by decide +kernel
theorem dX3_init_28 : decode cX3_init 28 = .ok (.aload_n 0, 1) := by decide +kernel
theorem dX3_init_29 : decode cX3_init 29 = .ok (.bipush 6, 2) := by decide +kernel
theorem dX3_init_31 : decode cX3_init 31 = .ok (.newarray .int, 2) := by decide +kernel
theorem dX3_init_33 : decode cX3_init 33 = .ok (.putfield 21, 3) := by decide +kernel
theorem dX3_init_36 : decode cX3_init 36 = .ok (.aload_n 0, 1) := by decide +kernel
theorem dX3_init_37 : decode cX3_init 37 = .ok (.bipush 6, 2) := by decide +kernel
theorem dX3_init_39 : decode cX3_init 39 = .ok (.newarray .int, 2) := by decide +kernel
theorem dX3_init_41 : decode cX3_init 41 = .ok (.putfield 24, 3) := by decide +kernel
theorem dX3_init_44 : decode cX3_init 44 = .ok (.return_, 1) := by decide +kernel
theorem dX3_copyFrom_0 : decode cX3_copyFrom 0 = .ok (.aload_n 0, 1) := by decide +kernel
theorem dX3_copyFrom_1 : decode cX3_copyFrom 1 = .ok (.aload_n 1, 1) := by decide +kernel
theorem dX3_copyFrom_2 : decode cX3_copyFrom 2 = .ok (.getfield 27, 3) := by decide +kernel
theorem dX3_copyFrom_5 : decode cX3_copyFrom 5 = .ok (.putfield 27, 3) := by decide +kernel
theorem dX3_copyFrom_8 : decode cX3_copyFrom 8 = .ok (.aload_n 1, 1) := by decide +kernel
theorem dX3_copyFrom_9 : decode cX3_copyFrom 9 = .ok (.getfield 9, 3) := by decide +kernel
theorem dX3_copyFrom_12 : decode cX3_copyFrom 12 = .ok (.iconst 0, 1) := by decide +kernel
theorem dX3_copyFrom_13 : decode cX3_copyFrom 13 = .ok (.aload_n 0, 1) := by decide +kernel
theorem dX3_copyFrom_14 : decode cX3_copyFrom 14 = .ok (.getfield 9, 3) := by decide +kernel
theorem dX3_copyFrom_17 : decode cX3_copyFrom 17 = .ok (.iconst 0, 1) := by decide +kernel
theorem dX3_copyFrom_18 : decode cX3_copyFrom 18 = .ok (.bipush 6, 2) := by decide +kernel
theorem dX3_copyFrom_20 : decode cX3_copyFrom 20 = .ok (.invokestatic 31, 3) := by decide +kernel
theorem dX3_copyFrom_23 : decode cX3_copyFrom 23 = .ok (.aload_n 1, 1) := by decide +kernel
theorem dX3_copyFrom_24 : decode cX3_copyFrom 24 = .ok (.getfield 15, 3) := by decide +kernel
theorem dX3_copyFrom_27 : decode cX3_copyFrom 27 = .ok (.iconst 0, 1) := by decide +kernel
theorem dX3_copyFrom_28 : decode cX3_copyFrom 28 = .ok (.aload_n 0, 1) := by decide +kernel
theorem dX3_copyFrom_29 : decode cX3_copyFrom 29 = .ok (.getfield 15, 3) := by decide +kernel
theorem dX3_copyFrom_32 : decode cX3_copyFrom 32 = .ok (.iconst 0, 1) := by decide +kernel
theorem dX3_copyFrom_33 : decode cX3_copyFrom 33 = .ok (.bipush 6, 2) := by decide +kernel
theorem dX3_copyFrom_35 : decode cX3_copyFrom 35 = .ok (.invokestatic 31, 3) := by decide +kernel
theorem dX3_copyFrom_38 : decode cX3_copyFrom 38 = .ok (.aload_n 1, 1) := by decide +kernel
theorem dX3_copyFrom_39 : decode cX3_copyFrom 39 = .ok (.getfield 18, 3) := by decide +kernel
theorem dX3_copyFrom_42 : decode cX3_copyFrom 42 = .ok (.iconst 0, 1) := by decide +kernel
theorem dX3_copyFrom_43 : decode cX3_copyFrom 43 = .ok (.aload_n 0, 1) := by decide +kernel
theorem dX3_copyFrom_44 : decode cX3_copyFrom 44 = .ok (.getfield 18, 3) := by decide +kernel
theorem dX3_copyFrom_47 : decode cX3_copyFrom 47 = .ok (.iconst 0, 1) := by decide +kernel
theorem dX3_copyFrom_48 : decode cX3_copyFrom 48 = .ok (.bipush 6, 2) := by decide +kernel
theorem dX3_copyFrom_50 : decode cX3_copyFrom 50 = .ok (.invokestatic 31, 3) := by decide +kernel
theorem dX3_copyFrom_53 : decode cX3_copyFrom 53 = .ok (.aload_n 1, 1) := by decide +kernel
theorem dX3_copyFrom_54 : decode cX3_copyFrom 54 = .ok (.getfield 21, 3) := by decide +kernel
theorem dX3_copyFrom_57 : decode cX3_copyFrom 57 = .ok (.iconst 0, 1) := by decide +kernel
theorem dX3_copyFrom_58 : decode cX3_copyFrom 58 = .ok (.aload_n 0, 1) := by decide +kernel
theorem dX3_copyFrom_59 : decode cX3_copyFrom 59 = .ok (.getfield 21, 3) := by decide +kernel
theorem dX3_copyFrom_62 : decode cX3_copyFrom 62 = .ok (.iconst 0, 1) := by decide +kernel
theorem dX3_copyFrom_63 : decode cX3_copyFrom 63 = .ok (.bipush 6, 2) := by decide +kernel
theorem dX3_copyFrom_65 : decode cX3_copyFrom 65 = .ok (.invokestatic 31, 3) := by decide +kernel
theorem dX3_copyFrom_68 : decode cX3_copyFrom 68 = .ok (.aload_n 1, 1) := by decide +kernel
theorem dX3_copyFrom_69 : decode cX3_copyFrom 69 = .ok (.getfield 24, 3) := by decide +kernel
theorem dX3_copyFrom_72 : decode cX3_copyFrom 72 = .ok (.iconst 0, 1) := by decide +kernel
theorem dX3_copyFrom_73 : decode cX3_copyFrom 73 = .ok (.aload_n 0, 1) := by decide +kernel
theorem dX3_copyFrom_74 : decode cX3_copyFrom 74 = .ok (.getfield 24, 3) := by decide +kernel
theorem dX3_copyFrom_77 : decode cX3_copyFrom 77 = .ok (.iconst 0, 1) := by decide +kernel
theorem dX3_copyFrom_78 : decode cX3_copyFrom 78 = .ok (.bipush 6, 2) := by decide +kernel
theorem dX3_copyFrom_80 : decode cX3_copyFrom 80 = .ok (.invokestatic 31, 3) := by decide +kernel
theorem dX3_copyFrom_83 : decode cX3_copyFrom 83 = .ok (.return_, 1) := by decide +kernel
theorem dX3_readFrom_0 : decode cX3_readFrom 0 = .ok (.aload_n 0, 1) := by decide +kernel
theorem dX3_readFrom_1 : decode cX3_readFrom 1 = .ok (.iconst 0, 1) := by decide +kernel
theorem dX3_readFrom_2 : decode cX3_readFrom 2 = .ok (.putfield 27, 3) := by decide +kernel
theorem dX3_readFrom_5 : decode cX3_readFrom 5 = .ok (.aload_n 1, 1) := by decide +kernel
theorem dX3_readFrom_6 : decode cX3_readFrom 6 = .ok (.invokevirtual 37, 3) := by decide +kernel
theorem dX3_readFrom_9 : decode cX3_readFrom 9 = .ok (.iconst 0, 1) := by decide +kernel
theorem dX3_readFrom_10 : decode cX3_readFrom 10 = .ok (.istore_n 2, 1) := by decide +kernel
theorem dX3_readFrom_11 : decode cX3_readFrom 11 = .ok (.iload_n 2, 1) := by decide +kernel
theorem dX3_readFrom_12 : decode cX3_readFrom 12 = .ok (.sipush 600, 3) := by decide +kernel
theorem dX3_readFrom_15 : decode cX3_readFrom 15 = .ok (.if_icmp .ge 38, 3) := by decide +kernel
theorem dX3_readFrom_18 : decode cX3_readFrom 18 = .ok (.aload_n 1, 1) := by decide +kernel
theorem dX3_readFrom_19 : decode cX3_readFrom 19 = .ok (.invokevirtual 42, 3) := by decide +kernel
theorem dX3_readFrom_22 : decode cX3_readFrom 22 = .ok (.ifCond .eq 31, 3) := by decide +kernel
theorem dX3_readFrom_25 : decode cX3_readFrom 25 = .ok (.aload_n 1, 1) := by decide +kernel
theorem dX3_readFrom_26 : decode cX3_readFrom 26 = .ok (.ldc 46, 2) := by decide +kernel
theorem dX3_readFrom_28 : decode cX3_readFrom 28 = .ok (.invokevirtual 48, 3) := by decide +kernel
theorem dX3_readFrom_31 : decode cX3_readFrom 31 = .ok (.ifCond .eq 11, 3) := by decide +kernel
theorem dX3_readFrom_34 : decode cX3_readFrom 34 = .ok (.aload_n 0, 1) := by decide +kernel
theorem dX3_readFrom_35 : decode cX3_readFrom 35 = .ok (.aload_n 1, 1) := by decide +kernel
theorem dX3_readFrom_36 : decode cX3_readFrom 36 = .ok (.invokevirtual 52, 3) := by decide +kernel
theorem dX3_readFrom_39 : decode cX3_readFrom 39 = .ok (.goto 8, 3) := by decide +kernel
theorem dX3_readFrom_42 : decode cX3_readFrom 42 = .ok (.aload_n 1, 1) := by decide +kernel
theorem dX3_readFrom_43 : decode cX3_readFrom 43 = .ok (.iconst 1, 1) := by decide +kernel
theorem dX3_readFrom_44 : decode cX3_readFrom 44 = .ok (.invokevirtual 56, 3) := by decide +kernel
theorem dX3_readFrom_47 : decode cX3_readFrom 47 = .ok (.iinc 2 1, 3) := by decide +kernel
theorem dX3_readFrom_50 : decode cX3_readFrom 50 = .ok (.goto (-39), 3) := by decide +kernel
theorem dX3_readFrom_53 : decode cX3_readFrom 53 = .ok (.return_, 1) := by decide +kernel
theorem dX3_readSaying_0 : decode cX3_readSaying 0 = .ok (.aload_n 0, 1) := by decide +kernel
theorem dX3_readSaying_1 : decode cX3_readSaying 1 = .ok (.getfield 27, 3) := by decide +kernel
theorem dX3_readSaying_4 : decode cX3_readSaying 4 = .ok (.bipush 6, 2) := by decide +kernel
theorem dX3_readSaying_6 : decode cX3_readSaying 6 = .ok (.if_icmp .lt 9, 3) := by decide +kernel
theorem dX3_readSaying_9 : decode cX3_readSaying 9 = .ok (.aload_n 1, 1) := by decide +kernel
theorem dX3_readSaying_10 : decode cX3_readSaying 10 = .ok (.iconst 3, 1) := by decide +kernel
theorem dX3_readSaying_11 : decode cX3_readSaying 11 = .ok (.invokevirtual 56, 3) := by decide +kernel
theorem dX3_readSaying_14 : decode cX3_readSaying 14 = .ok (.return_, 1) := by decide +kernel
theorem dX3_readSaying_15 : decode cX3_readSaying 15 = .ok (.aload_n 1, 1) := by decide +kernel
theorem dX3_readSaying_16 : decode cX3_readSaying 16 = .ok (.invokevirtual 60, 3) := by decide +kernel
theorem dX3_readSaying_19 : decode cX3_readSaying 19 = .ok (.aload_n 0, 1) := by decide +kernel
theorem dX3_readSaying_20 : decode cX3_readSaying 20 = .ok (.getfield 27, 3) := by decide +kernel
theorem dX3_readSaying_23 : decode cX3_readSaying 23 = .ok (.istore_n 2, 1) := by decide +kernel
theorem dX3_readSaying_24 : decode cX3_readSaying 24 = .ok (.aload_n 0, 1) := by decide +kernel
theorem dX3_readSaying_25 : decode cX3_readSaying 25 = .ok (.getfield 9, 3) := by decide +kernel
theorem dX3_readSaying_28 : decode cX3_readSaying 28 = .ok (.iload_n 2, 1) := by decide +kernel
theorem dX3_readSaying_29 : decode cX3_readSaying 29 = .ok (.aload_n 1, 1) := by decide +kernel
theorem dX3_readSaying_30 : decode cX3_readSaying 30 = .ok (.ldc 63, 2) := by decide +kernel
theorem dX3_readSaying_32 : decode cX3_readSaying 32 = .ok (.invokevirtual 64, 3) := by decide +kernel
theorem dX3_readSaying_35 : decode cX3_readSaying 35 = .ok (.ifCond .eq 13, 3) := by decide +kernel
theorem dX3_readSaying_38 : decode cX3_readSaying 38 = .ok (.aload_n 1, 1) := by decide +kernel
theorem dX3_readSaying_39 : decode cX3_readSaying 39 = .ok (.iconst 0, 1) := by decide +kernel
theorem dX3_readSaying_40 : decode cX3_readSaying 40 = .ok (.bipush 9, 2) := by decide +kernel
theorem dX3_readSaying_42 : decode cX3_readSaying 42 = .ok (.invokevirtual 67, 3) := by decide +kernel
theorem dX3_readSaying_45 : decode cX3_readSaying 45 = .ok (.goto 4, 3) := by decide +kernel
theorem dX3_readSaying_48 : decode cX3_readSaying 48 = .ok (.iconst (-1), 1) := by decide +kernel
theorem dX3_readSaying_49 : decode cX3_readSaying 49 = .ok (.iastore, 1) := by decide +kernel
theorem dX3_readSaying_50 : decode cX3_readSaying 50 = .ok (.aload_n 0, 1) := by decide +kernel
theorem dX3_readSaying_51 : decode cX3_readSaying 51 = .ok (.getfield 15, 3) := by decide +kernel
theorem dX3_readSaying_54 : decode cX3_readSaying 54 = .ok (.iload_n 2, 1) := by decide +kernel
theorem dX3_readSaying_55 : decode cX3_readSaying 55 = .ok (.aload_n 1, 1) := by decide +kernel
theorem dX3_readSaying_56 : decode cX3_readSaying 56 = .ok (.ldc 71, 2) := by decide +kernel
theorem dX3_readSaying_58 : decode cX3_readSaying 58 = .ok (.invokevirtual 64, 3) := by decide +kernel
theorem dX3_readSaying_61 : decode cX3_readSaying 61 = .ok (.ifCond .eq 13, 3) := by decide +kernel
theorem dX3_readSaying_64 : decode cX3_readSaying 64 = .ok (.aload_n 1, 1) := by decide +kernel
theorem dX3_readSaying_65 : decode cX3_readSaying 65 = .ok (.iconst 0, 1) := by decide +kernel
theorem dX3_readSaying_66 : decode cX3_readSaying 66 = .ok (.bipush 9, 2) := by decide +kernel
theorem dX3_readSaying_68 : decode cX3_readSaying 68 = .ok (.invokevirtual 67, 3) := by decide +kernel
theorem dX3_readSaying_71 : decode cX3_readSaying 71 = .ok (.goto 4, 3) := by decide +kernel
theorem dX3_readSaying_74 : decode cX3_readSaying 74 = .ok (.iconst (-1), 1) := by decide +kernel
theorem dX3_readSaying_75 : decode cX3_readSaying 75 = .ok (.iastore, 1) := by decide +kernel
theorem dX3_readSaying_76 : decode cX3_readSaying 76 = .ok (.aload_n 0, 1) := by decide +kernel
theorem dX3_readSaying_77 : decode cX3_readSaying 77 = .ok (.getfield 18, 3) := by decide +kernel
theorem dX3_readSaying_80 : decode cX3_readSaying 80 = .ok (.iload_n 2, 1) := by decide +kernel
theorem dX3_readSaying_81 : decode cX3_readSaying 81 = .ok (.aload_n 1, 1) := by decide +kernel
theorem dX3_readSaying_82 : decode cX3_readSaying 82 = .ok (.ldc 72, 2) := by decide +kernel
theorem dX3_readSaying_84 : decode cX3_readSaying 84 = .ok (.invokevirtual 64, 3) := by decide +kernel
theorem dX3_readSaying_87 : decode cX3_readSaying 87 = .ok (.ifCond .eq 11, 3) := by decide +kernel
theorem dX3_readSaying_90 : decode cX3_readSaying 90 = .ok (.aload_n 0, 1) := by decide +kernel
theorem dX3_readSaying_91 : decode cX3_readSaying 91 = .ok (.aload_n 1, 1) := by decide +kernel
theorem dX3_readSaying_92 : decode cX3_readSaying 92 = .ok (.invokevirtual 73, 3) := by decide +kernel
theorem dX3_readSaying_95 : decode cX3_readSaying 95 = .ok (.goto 4, 3) := by decide +kernel
theorem dX3_readSaying_98 : decode cX3_readSaying 98 = .ok (.iconst 0, 1) := by decide +kernel
theorem dX3_readSaying_99 : decode cX3_readSaying 99 = .ok (.iastore, 1) := by decide +kernel
theorem dX3_readSaying_100 : decode cX3_readSaying 100 = .ok (.aload_n 0, 1) := by decide +kernel
theorem dX3_readSaying_101 : decode cX3_readSaying 101 = .ok (.getfield 21, 3) := by decide +kernel
theorem dX3_readSaying_104 : decode cX3_readSaying 104 = .ok (.iload_n 2, 1) := by decide +kernel
theorem dX3_readSaying_105 : decode cX3_readSaying 105 = .ok (.aload_n 1, 1) := by decide +kernel
theorem dX3_readSaying_106 : decode cX3_readSaying 106 = .ok (.ldc 77, 2) := by decide +kernel
theorem dX3_readSaying_108 : decode cX3_readSaying 108 = .ok (.invokevirtual 64, 3) := by decide +kernel
theorem dX3_readSaying_111 : decode cX3_readSaying 111 = .ok (.ifCond .eq 11, 3) := by decide +kernel
theorem dX3_readSaying_114 : decode cX3_readSaying 114 = .ok (.aload_n 0, 1) := by decide +kernel
theorem dX3_readSaying_115 : decode cX3_readSaying 115 = .ok (.aload_n 1, 1) := by decide +kernel
theorem dX3_readSaying_116 : decode cX3_readSaying 116 = .ok (.invokevirtual 78, 3) := by decide +kernel
theorem dX3_readSaying_119 : decode cX3_readSaying 119 = .ok (.goto 4, 3) := by decide +kernel
theorem dX3_readSaying_122 : decode cX3_readSaying 122 = .ok (.iconst 0, 1) := by decide +kernel
theorem dX3_readSaying_123 : decode cX3_readSaying 123 = .ok (.iastore, 1) := by decide +kernel
theorem dX3_readSaying_124 : decode cX3_readSaying 124 = .ok (.aload_n 1, 1) := by decide +kernel
theorem dX3_readSaying_125 : decode cX3_readSaying 125 = .ok (.invokevirtual 81, 3) := by decide +kernel
theorem dX3_readSaying_128 : decode cX3_readSaying 128 = .ok (.ifCond .eq 18, 3) := by decide +kernel
theorem dX3_readSaying_131 : decode cX3_readSaying 131 = .ok (.aload_n 0, 1) := by decide +kernel
theorem dX3_readSaying_132 : decode cX3_readSaying 132 = .ok (.iload_n 2, 1) := by decide +kernel
theorem dX3_readSaying_133 : decode cX3_readSaying 133 = .ok (.invokevirtual 84, 3) := by decide +kernel
theorem dX3_readSaying_136 : decode cX3_readSaying 136 = .ok (.aload_n 0, 1) := by decide +kernel
theorem dX3_readSaying_137 : decode cX3_readSaying 137 = .ok (.dup, 1) := by decide +kernel
theorem dX3_readSaying_138 : decode cX3_readSaying 138 = .ok (.getfield 27, 3) := by decide +kernel
theorem dX3_readSaying_141 : decode cX3_readSaying 141 = .ok (.iconst 1, 1) := by decide +kernel
theorem dX3_readSaying_142 : decode cX3_readSaying 142 = .ok (.iadd, 1) := by decide +kernel
theorem dX3_readSaying_143 : decode cX3_readSaying 143 = .ok (.putfield 27, 3) := by decide +kernel
theorem dX3_readSaying_146 : decode cX3_readSaying 146 = .ok (.return_, 1) := by decide +kernel
theorem dX3_readBarred_0 : decode cX3_readBarred 0 = .ok (.aload_n 0, 1) := by decide +kernel
theorem dX3_readBarred_1 : decode cX3_readBarred 1 = .ok (.aload_n 1, 1) := by decide +kernel
theorem dX3_readBarred_2 : decode cX3_readBarred 2 = .ok (.iconst 0, 1) := by decide +kernel
theorem dX3_readBarred_3 : decode cX3_readBarred 3 = .ok (.invokevirtual 87, 3) := by decide +kernel
theorem dX3_readBarred_6 : decode cX3_readBarred 6 = .ok (.istore_n 2, 1) := by decide +kernel
theorem dX3_readBarred_7 : decode cX3_readBarred 7 = .ok (.iconst 0, 1) := by decide +kernel
theorem dX3_readBarred_8 : decode cX3_readBarred 8 = .ok (.istore_n 3, 1) := by decide +kernel
theorem dX3_readBarred_9 : decode cX3_readBarred 9 = .ok (.iload_n 3, 1) := by decide +kernel
theorem dX3_readBarred_10 : decode cX3_readBarred 10 = .ok (.sipush 600, 3) := by decide +kernel
theorem dX3_readBarred_13 : decode cX3_readBarred 13 = .ok (.if_icmp .ge 31, 3) := by decide +kernel
theorem dX3_readBarred_16 : decode cX3_readBarred 16 = .ok (.aload_n 1, 1) := by decide +kernel
theorem dX3_readBarred_17 : decode cX3_readBarred 17 = .ok (.bipush 44, 2) := by decide +kernel
theorem dX3_readBarred_19 : decode cX3_readBarred 19 = .ok (.invokevirtual 91, 3) := by decide +kernel
theorem dX3_readBarred_22 : decode cX3_readBarred 22 = .ok (.ifCond .eq 22, 3) := by decide +kernel
theorem dX3_readBarred_25 : decode cX3_readBarred 25 = .ok (.aload_n 1, 1) := by decide +kernel
theorem dX3_readBarred_26 : decode cX3_readBarred 26 = .ok (.invokevirtual 60, 3) := by decide +kernel
theorem dX3_readBarred_29 : decode cX3_readBarred 29 = .ok (.iload_n 2, 1) := by decide +kernel
theorem dX3_readBarred_30 : decode cX3_readBarred 30 = .ok (.aload_n 0, 1) := by decide +kernel
theorem dX3_readBarred_31 : decode cX3_readBarred 31 = .ok (.aload_n 1, 1) := by decide +kernel
theorem dX3_readBarred_32 : decode cX3_readBarred 32 = .ok (.iload_n 2, 1) := by decide +kernel
theorem dX3_readBarred_33 : decode cX3_readBarred 33 = .ok (.invokevirtual 87, 3) := by decide +kernel
theorem dX3_readBarred_36 : decode cX3_readBarred 36 = .ok (.ior, 1) := by decide +kernel
theorem dX3_readBarred_37 : decode cX3_readBarred 37 = .ok (.istore_n 2, 1) := by decide +kernel
theorem dX3_readBarred_38 : decode cX3_readBarred 38 = .ok (.iinc 3 1, 3) := by decide +kernel
theorem dX3_readBarred_41 : decode cX3_readBarred 41 = .ok (.goto (-32), 3) := by decide +kernel
theorem dX3_readBarred_44 : decode cX3_readBarred 44 = .ok (.iload_n 2, 1) := by decide +kernel
theorem dX3_readBarred_45 : decode cX3_readBarred 45 = .ok (.ireturn, 1) := by decide +kernel
theorem dX3_readJoined_0 : decode cX3_readJoined 0 = .ok (.aload_n 0, 1) := by decide +kernel
theorem dX3_readJoined_1 : decode cX3_readJoined 1 = .ok (.aload_n 1, 1) := by decide +kernel
theorem dX3_readJoined_2 : decode cX3_readJoined 2 = .ok (.iconst 0, 1) := by decide +kernel
theorem dX3_readJoined_3 : decode cX3_readJoined 3 = .ok (.invokevirtual 87, 3) := by decide +kernel
theorem dX3_readJoined_6 : decode cX3_readJoined 6 = .ok (.istore_n 2, 1) := by decide +kernel
theorem dX3_readJoined_7 : decode cX3_readJoined 7 = .ok (.iload_n 2, 1) := by decide +kernel
theorem dX3_readJoined_8 : decode cX3_readJoined 8 = .ok (.aload_n 0, 1) := by decide +kernel
theorem dX3_readJoined_9 : decode cX3_readJoined 9 = .ok (.aload_n 1, 1) := by decide +kernel
theorem dX3_readJoined_10 : decode cX3_readJoined 10 = .ok (.iload_n 2, 1) := by decide +kernel
theorem dX3_readJoined_11 : decode cX3_readJoined 11 = .ok (.invokevirtual 87, 3) := by decide +kernel
theorem dX3_readJoined_14 : decode cX3_readJoined 14 = .ok (.ior, 1) := by decide +kernel
theorem dX3_readJoined_15 : decode cX3_readJoined 15 = .ok (.ireturn, 1) := by decide +kernel
theorem dX3_readUnlike_0 : decode cX3_readUnlike 0 = .ok (.iconst 1, 1) := by decide +kernel
theorem dX3_readUnlike_1 : decode cX3_readUnlike 1 = .ok (.aload_n 1, 1) := by decide +kernel
theorem dX3_readUnlike_2 : decode cX3_readUnlike 2 = .ok (.iconst 0, 1) := by decide +kernel
theorem dX3_readUnlike_3 : decode cX3_readUnlike 3 = .ok (.aload_n 0, 1) := by decide +kernel
theorem dX3_readUnlike_4 : decode cX3_readUnlike 4 = .ok (.getfield 27, 3) := by decide +kernel
theorem dX3_readUnlike_7 : decode cX3_readUnlike 7 = .ok (.iconst 1, 1) := by decide +kernel
theorem dX3_readUnlike_8 : decode cX3_readUnlike 8 = .ok (.isub, 1) := by decide +kernel
theorem dX3_readUnlike_9 : decode cX3_readUnlike 9 = .ok (.invokevirtual 95, 3) := by decide +kernel
theorem dX3_readUnlike_12 : decode cX3_readUnlike 12 = .ok (.ishl, 1) := by decide +kernel
theorem dX3_readUnlike_13 : decode cX3_readUnlike 13 = .ok (.istore_n 3, 1) := by decide +kernel
theorem dX3_readUnlike_14 : decode cX3_readUnlike 14 = .ok (.aload_n 1, 1) := by decide +kernel
theorem dX3_readUnlike_15 : decode cX3_readUnlike 15 = .ok (.getfield 98, 3) := by decide +kernel
theorem dX3_readUnlike_18 : decode cX3_readUnlike 18 = .ok (.ifCond .ne 14, 3) := by decide +kernel
theorem dX3_readUnlike_21 : decode cX3_readUnlike 21 = .ok (.iload_n 2, 1) := by decide +kernel
theorem dX3_readUnlike_22 : decode cX3_readUnlike 22 = .ok (.iload_n 3, 1) := by decide +kernel
theorem dX3_readUnlike_23 : decode cX3_readUnlike 23 = .ok (.iand, 1) := by decide +kernel
theorem dX3_readUnlike_24 : decode cX3_readUnlike 24 = .ok (.ifCond .eq 8, 3) := by decide +kernel
theorem dX3_readUnlike_27 : decode cX3_readUnlike 27 = .ok (.aload_n 1, 1) := by decide +kernel
theorem dX3_readUnlike_28 : decode cX3_readUnlike 28 = .ok (.iconst 4, 1) := by decide +kernel
theorem dX3_readUnlike_29 : decode cX3_readUnlike 29 = .ok (.invokevirtual 56, 3) := by decide +kernel
theorem dX3_readUnlike_32 : decode cX3_readUnlike 32 = .ok (.aload_n 1, 1) := by decide +kernel
theorem dX3_readUnlike_33 : decode cX3_readUnlike 33 = .ok (.invokevirtual 60, 3) := by decide +kernel
theorem dX3_readUnlike_36 : decode cX3_readUnlike 36 = .ok (.iload_n 3, 1) := by decide +kernel
theorem dX3_readUnlike_37 : decode cX3_readUnlike 37 = .ok (.ireturn, 1) := by decide +kernel
theorem dX3_settleBarred_0 : decode cX3_settleBarred 0 = .ok (.aload_n 0, 1) := by decide +kernel
theorem dX3_settleBarred_1 : decode cX3_settleBarred 1 = .ok (.getfield 24, 3) := by decide +kernel
theorem dX3_settleBarred_4 : decode cX3_settleBarred 4 = .ok (.iload_n 1, 1) := by decide +kernel
theorem dX3_settleBarred_5 : decode cX3_settleBarred 5 = .ok (.aload_n 0, 1) := by decide +kernel
theorem dX3_settleBarred_6 : decode cX3_settleBarred 6 = .ok (.getfield 18, 3) := by decide +kernel
theorem dX3_settleBarred_9 : decode cX3_settleBarred 9 = .ok (.iload_n 1, 1) := by decide +kernel
theorem dX3_settleBarred_10 : decode cX3_settleBarred 10 = .ok (.iaload, 1) := by decide +kernel
theorem dX3_settleBarred_11 : decode cX3_settleBarred 11 = .ok (.iastore, 1) := by decide +kernel
theorem dX3_settleBarred_12 : decode cX3_settleBarred 12 = .ok (.iconst 0, 1) := by decide +kernel
theorem dX3_settleBarred_13 : decode cX3_settleBarred 13 = .ok (.istore_n 2, 1) := by decide +kernel
theorem dX3_settleBarred_14 : decode cX3_settleBarred 14 = .ok (.iload_n 2, 1) := by decide +kernel
theorem dX3_settleBarred_15 : decode cX3_settleBarred 15 = .ok (.iload_n 1, 1) := by decide +kernel
theorem dX3_settleBarred_16 : decode cX3_settleBarred 16 = .ok (.if_icmp .ge 34, 3) := by decide +kernel
theorem dX3_settleBarred_19 : decode cX3_settleBarred 19 = .ok (.aload_n 0, 1) := by decide +kernel
theorem dX3_settleBarred_20 : decode cX3_settleBarred 20 = .ok (.getfield 18, 3) := by decide +kernel
theorem dX3_settleBarred_23 : decode cX3_settleBarred 23 = .ok (.iload_n 1, 1) := by decide +kernel
theorem dX3_settleBarred_24 : decode cX3_settleBarred 24 = .ok (.iaload, 1) := by decide +kernel
theorem dX3_settleBarred_25 : decode cX3_settleBarred 25 = .ok (.iload_n 2, 1) := by decide +kernel
theorem dX3_settleBarred_26 : decode cX3_settleBarred 26 = .ok (.ishr, 1) := by decide +kernel
theorem dX3_settleBarred_27 : decode cX3_settleBarred 27 = .ok (.iconst 1, 1) := by decide +kernel
theorem dX3_settleBarred_28 : decode cX3_settleBarred 28 = .ok (.iand, 1) := by decide +kernel
theorem dX3_settleBarred_29 : decode cX3_settleBarred 29 = .ok (.ifCond .eq 15, 3) := by decide +kernel
theorem dX3_settleBarred_32 : decode cX3_settleBarred 32 = .ok (.aload_n 0, 1) := by decide +kernel
theorem dX3_settleBarred_33 : decode cX3_settleBarred 33 = .ok (.getfield 24, 3) := by decide +kernel
theorem dX3_settleBarred_36 : decode cX3_settleBarred 36 = .ok (.iload_n 2, 1) := by decide +kernel
theorem dX3_settleBarred_37 : decode cX3_settleBarred 37 = .ok (.dup2, 1) := by decide +kernel
theorem dX3_settleBarred_38 : decode cX3_settleBarred 38 = .ok (.iaload, 1) := by decide +kernel
theorem dX3_settleBarred_39 : decode cX3_settleBarred 39 = .ok (.iconst 1, 1) := by decide +kernel
theorem dX3_settleBarred_40 : decode cX3_settleBarred 40 = .ok (.iload_n 1, 1) := by decide +kernel
theorem dX3_settleBarred_41 : decode cX3_settleBarred 41 = .ok (.ishl, 1) := by decide +kernel
theorem dX3_settleBarred_42 : decode cX3_settleBarred 42 = .ok (.ior, 1) := by decide +kernel
theorem dX3_settleBarred_43 : decode cX3_settleBarred 43 = .ok (.iastore, 1) := by decide +kernel
theorem dX3_settleBarred_44 : decode cX3_settleBarred 44 = .ok (.iinc 2 1, 3) := by decide +kernel
theorem dX3_settleBarred_47 : decode cX3_settleBarred 47 = .ok (.goto (-33), 3) := by decide +kernel
theorem dX3_settleBarred_50 : decode cX3_settleBarred 50 = .ok (.return_, 1) := by decide +kernel
theorem dX3_joinOf_0 : decode cX3_joinOf 0 = .ok (.iconst 1, 1) := by decide +kernel
theorem dX3_joinOf_1 : decode cX3_joinOf 1 = .ok (.iload_n 1, 1) := by decide +kernel
theorem dX3_joinOf_2 : decode cX3_joinOf 2 = .ok (.ishl, 1) := by decide +kernel
theorem dX3_joinOf_3 : decode cX3_joinOf 3 = .ok (.iconst 1, 1) := by decide +kernel
theorem dX3_joinOf_4 : decode cX3_joinOf 4 = .ok (.iload_n 2, 1) := by decide +kernel
theorem dX3_joinOf_5 : decode cX3_joinOf 5 = .ok (.ishl, 1) := by decide +kernel
theorem dX3_joinOf_6 : decode cX3_joinOf 6 = .ok (.ior, 1) := by decide +kernel
theorem dX3_joinOf_7 : decode cX3_joinOf 7 = .ok (.istore_n 3, 1) := by decide +kernel
theorem dX3_joinOf_8 : decode cX3_joinOf 8 = .ok (.iconst 0, 1) := by decide +kernel
theorem dX3_joinOf_9 : decode cX3_joinOf 9 = .ok (.istore 4, 2) := by decide +kernel
theorem dX3_joinOf_11 : decode cX3_joinOf 11 = .ok (.iload 4, 2) := by decide +kernel
theorem dX3_joinOf_13 : decode cX3_joinOf 13 = .ok (.aload_n 0, 1) := by decide +kernel
theorem dX3_joinOf_14 : decode cX3_joinOf 14 = .ok (.getfield 27, 3) := by decide +kernel
theorem dX3_joinOf_17 : decode cX3_joinOf 17 = .ok (.if_icmp .ge 28, 3) := by decide +kernel
theorem dX3_joinOf_20 : decode cX3_joinOf 20 = .ok (.iload_n 1, 1) := by decide +kernel
theorem dX3_joinOf_21 : decode cX3_joinOf 21 = .ok (.iload_n 2, 1) := by decide +kernel
theorem dX3_joinOf_22 : decode cX3_joinOf 22 = .ok (.if_icmp .eq 23, 3) := by decide +kernel
theorem dX3_joinOf_25 : decode cX3_joinOf 25 = .ok (.aload_n 0, 1) := by decide +kernel
theorem dX3_joinOf_26 : decode cX3_joinOf 26 = .ok (.getfield 21, 3) := by decide +kernel
theorem dX3_joinOf_29 : decode cX3_joinOf 29 = .ok (.iload 4, 2) := by decide +kernel
theorem dX3_joinOf_31 : decode cX3_joinOf 31 = .ok (.iaload, 1) := by decide +kernel
theorem dX3_joinOf_32 : decode cX3_joinOf 32 = .ok (.iload_n 3, 1) := by decide +kernel
theorem dX3_joinOf_33 : decode cX3_joinOf 33 = .ok (.if_icmp .ne 6, 3) := by decide +kernel
theorem dX3_joinOf_36 : decode cX3_joinOf 36 = .ok (.iload 4, 2) := by decide +kernel
theorem dX3_joinOf_38 : decode cX3_joinOf 38 = .ok (.ireturn, 1) := by decide +kernel
theorem dX3_joinOf_39 : decode cX3_joinOf 39 = .ok (.iinc 4 1, 3) := by decide +kernel
theorem dX3_joinOf_42 : decode cX3_joinOf 42 = .ok (.goto (-31), 3) := by decide +kernel
theorem dX3_joinOf_45 : decode cX3_joinOf 45 = .ok (.iconst (-1), 1) := by decide +kernel
theorem dX3_joinOf_46 : decode cX3_joinOf 46 = .ok (.ireturn, 1) := by decide +kernel
theorem dX3_answersOneOf_0 : decode cX3_answersOneOf 0 = .ok (.iconst 0, 1) := by decide +kernel
theorem dX3_answersOneOf_1 : decode cX3_answersOneOf 1 = .ok (.istore_n 3, 1) := by decide +kernel
theorem dX3_answersOneOf_2 : decode cX3_answersOneOf 2 = .ok (.iload_n 3, 1) := by decide +kernel
theorem dX3_answersOneOf_3 : decode cX3_answersOneOf 3 = .ok (.aload_n 0, 1) := by decide +kernel
theorem dX3_answersOneOf_4 : decode cX3_answersOneOf 4 = .ok (.getfield 27, 3) := by decide +kernel
theorem dX3_answersOneOf_7 : decode cX3_answersOneOf 7 = .ok (.if_icmp .ge 44, 3) := by decide +kernel
theorem dX3_answersOneOf_10 : decode cX3_answersOneOf 10 = .ok (.iload_n 2, 1) := by decide +kernel
theorem dX3_answersOneOf_11 : decode cX3_answersOneOf 11 = .ok (.iload_n 3, 1) := by decide +kernel
theorem dX3_answersOneOf_12 : decode cX3_answersOneOf 12 = .ok (.ishr, 1) := by decide +kernel
theorem dX3_answersOneOf_13 : decode cX3_answersOneOf 13 = .ok (.iconst 1, 1) := by decide +kernel
theorem dX3_answersOneOf_14 : decode cX3_answersOneOf 14 = .ok (.iand, 1) := by decide +kernel
theorem dX3_answersOneOf_15 : decode cX3_answersOneOf 15 = .ok (.ifCond .eq 30, 3) := by decide +kernel
theorem dX3_answersOneOf_18 : decode cX3_answersOneOf 18 = .ok (.aload_n 0, 1) := by decide +kernel
theorem dX3_answersOneOf_19 : decode cX3_answersOneOf 19 = .ok (.getfield 9, 3) := by decide +kernel
theorem dX3_answersOneOf_22 : decode cX3_answersOneOf 22 = .ok (.iload_n 3, 1) := by decide +kernel
theorem dX3_answersOneOf_23 : decode cX3_answersOneOf 23 = .ok (.iaload, 1) := by decide +kernel
theorem dX3_answersOneOf_24 : decode cX3_answersOneOf 24 = .ok (.iconst (-1), 1) := by decide +kernel
theorem dX3_answersOneOf_25 : decode cX3_answersOneOf 25 = .ok (.if_icmp .eq 20, 3) := by decide +kernel
theorem dX3_answersOneOf_28 : decode cX3_answersOneOf 28 = .ok (.aload_n 0, 1) := by decide +kernel
theorem dX3_answersOneOf_29 : decode cX3_answersOneOf 29 = .ok (.getfield 9, 3) := by decide +kernel
theorem dX3_answersOneOf_32 : decode cX3_answersOneOf 32 = .ok (.iload_n 3, 1) := by decide +kernel
theorem dX3_answersOneOf_33 : decode cX3_answersOneOf 33 = .ok (.iaload, 1) := by decide +kernel
theorem dX3_answersOneOf_34 : decode cX3_answersOneOf 34 = .ok (.aload_n 0, 1) := by decide +kernel
theorem dX3_answersOneOf_35 : decode cX3_answersOneOf 35 = .ok (.getfield 15, 3) := by decide +kernel
theorem dX3_answersOneOf_38 : decode cX3_answersOneOf 38 = .ok (.iload_n 1, 1) := by decide +kernel
theorem dX3_answersOneOf_39 : decode cX3_answersOneOf 39 = .ok (.iaload, 1) := by decide +kernel
theorem dX3_answersOneOf_40 : decode cX3_answersOneOf 40 = .ok (.if_icmp .ne 5, 3) := by decide +kernel
theorem dX3_answersOneOf_43 : decode cX3_answersOneOf 43 = .ok (.iconst 1, 1) := by decide +kernel
theorem dX3_answersOneOf_44 : decode cX3_answersOneOf 44 = .ok (.ireturn, 1) := by decide +kernel
theorem dX3_answersOneOf_45 : decode cX3_answersOneOf 45 = .ok (.iinc 3 1, 3) := by decide +kernel
theorem dX3_answersOneOf_48 : decode cX3_answersOneOf 48 = .ok (.goto (-46), 3) := by decide +kernel
theorem dX3_answersOneOf_51 : decode cX3_answersOneOf 51 = .ok (.iconst 0, 1) := by decide +kernel
theorem dX3_answersOneOf_52 : decode cX3_answersOneOf 52 = .ok (.ireturn, 1) := by decide +kernel
theorem dX4_init_0 : decode cX4_init 0 = .ok (.aload_n 0, 1) := by decide +kernel
theorem dX4_init_1 : decode cX4_init 1 = .ok (.invokespecial 3, 3) := by decide +kernel
theorem dX4_init_4 : decode cX4_init 4 = .ok (.aload_n 0, 1) := by decide +kernel
theorem dX4_init_5 : decode cX4_init 5 = .ok (.bipush 100, 2) := by decide +kernel
theorem dX4_init_7 : decode cX4_init 7 = .ok (.newarray .int, 2) := by decide +kernel
theorem dX4_init_9 : decode cX4_init 9 = .ok (.putfield 9, 3) := by decide +kernel
theorem dX4_init_12 : decode cX4_init 12 = .ok (.aload_n 0, 1) := by decide +kernel
theorem dX4_init_13 : decode cX4_init 13 = .ok (.sipush 1024, 3) := by decide +kernel
theorem dX4_init_16 : decode cX4_init 16 = .ok (.newarray .long, 2) := by decide +kernel
theorem dX4_init_18 : decode cX4_init 18 = .ok (.putfield 15, 3) := by decide +kernel
theorem dX4_init_21 : decode cX4_init 21 = .ok (.aload_n 0, 1) := by decide +kernel
theorem dX4_init_22 : decode cX4_init 22 = .ok (.sipush 512, 3) := by decide +kernel
theorem dX4_init_25 : decode cX4_init 25 = .ok (.newarray .int, 2) := by decide +kernel
theorem dX4_init_27 : decode cX4_init 27 = .ok (.putfield 19, 3) := by decide +kernel
theorem dX4_init_30 : decode cX4_init 30 = .ok (.aload_n 0, 1) := by decide +kernel
theorem dX4_init_31 : decode cX4_init 31 = .ok (.sipush 512, 3) := by decide +kernel
theorem dX4_init_34 : decode cX4_init 34 = .ok (.newarray .long, 2) := by decide +kernel
theorem dX4_init_36 : decode cX4_init 36 = .ok (.putfield 22, 3) := by decide +kernel
theorem dX4_init_39 : decode cX4_init 39 = .ok (.aload_n 0, 1) := by decide +kernel
theorem dX4_init_40 : decode cX4_init 40 = .ok (.aload_n 1, 1) := by decide +kernel
theorem dX4_init_41 : decode cX4_init 41 = .ok (.putfield 25, 3) := by decide +kernel
theorem dX4_init_44 : decode cX4_init 44 = .ok (.return_, 1) := by decide +kernel
theorem dX4_size_0 : decode cX4_size 0 = .ok (.bipush 10, 2) := by decide +kernel
theorem dX4_size_2 : decode cX4_size 2 = .ok (.aload_n 0, 1) := by decide +kernel
theorem dX4_size_3 : decode cX4_size 3 = .ok (.getfield 25, 3) := by decide +kernel
theorem dX4_size_6 : decode cX4_size 6 = .ok (.getfield 29, 3) := by decide +kernel
theorem dX4_size_9 : decode cX4_size 9 = .ok (.invokestatic 35, 3) := by decide +kernel
theorem dX4_size_12 : decode cX4_size 12 = .ok (.ireturn, 1) := by decide +kernel
theorem dX4_prepare_0 : decode cX4_prepare 0 = .ok (.aload_n 0, 1) := by decide +kernel
theorem dX4_prepare_1 : decode cX4_prepare 1 = .ok (.getfield 41, 3) := by decide +kernel
theorem dX4_prepare_4 : decode cX4_prepare 4 = .ok (.ifCond .eq 4, 3) := by decide +kernel
theorem dX4_prepare_7 : decode cX4_prepare 7 = .ok (.return_, 1) := by decide +kernel
theorem dX4_prepare_8 : decode cX4_prepare 8 = .ok (.iconst 0, 1) := by decide +kernel
theorem dX4_prepare_9 : decode cX4_prepare 9 = .ok (.istore_n 1, 1) := by decide +kernel
theorem dX4_prepare_10 : decode cX4_prepare 10 = .ok (.iload_n 1, 1) := by decide +kernel
theorem dX4_prepare_11 : decode cX4_prepare 11 = .ok (.aload_n 0, 1) := by decide +kernel
theorem dX4_prepare_12 : decode cX4_prepare 12 = .ok (.invokevirtual 45, 3) := by decide +kernel
theorem dX4_prepare_15 : decode cX4_prepare 15 = .ok (.if_icmp .ge 62, 3) := by decide +kernel
theorem dX4_prepare_18 : decode cX4_prepare 18 = .ok (.iconst 0, 1) := by decide +kernel
theorem dX4_prepare_19 : decode cX4_prepare 19 = .ok (.istore_n 2, 1) := by decide +kernel
theorem dX4_prepare_20 : decode cX4_prepare 20 = .ok (.iload_n 2, 1) := by decide +kernel
theorem dX4_prepare_21 : decode cX4_prepare 21 = .ok (.aload_n 0, 1) := by decide +kernel
theorem dX4_prepare_22 : decode cX4_prepare 22 = .ok (.invokevirtual 45, 3) := by decide +kernel
theorem dX4_prepare_25 : decode cX4_prepare 25 = .ok (.if_icmp .ge 46, 3) := by decide +kernel
theorem dX4_prepare_28 : decode cX4_prepare 28 = .ok (.aload_n 0, 1) := by decide +kernel
theorem dX4_prepare_29 : decode cX4_prepare 29 = .ok (.getfield 9, 3) := by decide +kernel
theorem dX4_prepare_32 : decode cX4_prepare 32 = .ok (.iload_n 1, 1) := by decide +kernel
theorem dX4_prepare_33 : decode cX4_prepare 33 = .ok (.bipush 10, 2) := by decide +kernel
theorem dX4_prepare_35 : decode cX4_prepare 35 = .ok (.imul, 1) := by decide +kernel
theorem dX4_prepare_36 : decode cX4_prepare 36 = .ok (.iload_n 2, 1) := by decide +kernel
theorem dX4_prepare_37 : decode cX4_prepare 37 = .ok (.iadd, 1) := by decide +kernel
theorem dX4_prepare_38 : decode cX4_prepare 38 = .ok (.sipush 1000, 3) := by decide +kernel
theorem dX4_prepare_41 : decode cX4_prepare 41 = .ok (.aload_n 0, 1) := by decide +kernel
theorem dX4_prepare_42 : decode cX4_prepare 42 = .ok (.getfield 25, 3) := by decide +kernel
theorem dX4_prepare_45 : decode cX4_prepare 45 = .ok (.iload_n 1, 1) := by decide +kernel
theorem dX4_prepare_46 : decode cX4_prepare 46 = .ok (.iload_n 2, 1) := by decide +kernel
theorem dX4_prepare_47 : decode cX4_prepare 47 = .ok (.invokevirtual 49, 3) := by decide +kernel
theorem dX4_prepare_50 : decode cX4_prepare 50 = .ok (.aload_n 0, 1) := by decide +kernel
theorem dX4_prepare_51 : decode cX4_prepare 51 = .ok (.getfield 25, 3) := by decide +kernel
theorem dX4_prepare_54 : decode cX4_prepare 54 = .ok (.getfield 52, 3) := by decide +kernel
theorem dX4_prepare_57 : decode cX4_prepare 57 = .ok (.iload_n 1, 1) := by decide +kernel
theorem dX4_prepare_58 : decode cX4_prepare 58 = .ok (.iaload, 1) := by decide +kernel
theorem dX4_prepare_59 : decode cX4_prepare 59 = .ok (.imul, 1) := by decide +kernel
theorem dX4_prepare_60 : decode cX4_prepare 60 = .ok (.bipush 10, 2) := by decide +kernel
theorem dX4_prepare_62 : decode cX4_prepare 62 = .ok (.idiv, 1) := by decide +kernel
theorem dX4_prepare_63 : decode cX4_prepare 63 = .ok (.isub, 1) := by decide +kernel
theorem dX4_prepare_64 : decode cX4_prepare 64 = .ok (.iastore, 1) := by decide +kernel
theorem dX4_prepare_65 : decode cX4_prepare 65 = .ok (.iinc 2 1, 3) := by decide +kernel
theorem dX4_prepare_68 : decode cX4_prepare 68 = .ok (.goto (-48), 3) := by decide +kernel
theorem dX4_prepare_71 : decode cX4_prepare 71 = .ok (.iinc 1 1, 3) := by decide +kernel
theorem dX4_prepare_74 : decode cX4_prepare 74 = .ok (.goto (-64), 3) := by decide +kernel
theorem dX4_prepare_77 : decode cX4_prepare 77 = .ok (.aload_n 0, 1) := by decide +kernel
theorem dX4_prepare_78 : decode cX4_prepare 78 = .ok (.iconst 1, 1) := by decide +kernel
theorem dX4_prepare_79 : decode cX4_prepare 79 = .ok (.putfield 41, 3) := by decide +kernel
theorem dX4_prepare_82 : decode cX4_prepare 82 = .ok (.return_, 1) := by decide +kernel
theorem dX4_tellOf_0 : decode cX4_tellOf 0 = .ok (.sipush 1000, 3) := by decide +kernel
theorem dX4_tellOf_3 : decode cX4_tellOf 3 = .ok (.istore_n 3, 1) := by decide +kernel
theorem dX4_tellOf_4 : decode cX4_tellOf 4 = .ok (.iconst 0, 1) := by decide +kernel
theorem dX4_tellOf_5 : decode cX4_tellOf 5 = .ok (.istore 4, 2) := by decide +kernel
theorem dX4_tellOf_7 : decode cX4_tellOf 7 = .ok (.iload 4, 2) := by decide +kernel
theorem dX4_tellOf_9 : decode cX4_tellOf 9 = .ok (.bipush 10, 2) := by decide +kernel
theorem dX4_tellOf_11 : decode cX4_tellOf 11 = .ok (.if_icmp .ge 37, 3) := by decide +kernel
theorem dX4_tellOf_14 : decode cX4_tellOf 14 = .ok (.iload_n 1, 1) := by decide +kernel
theorem dX4_tellOf_15 : decode cX4_tellOf 15 = .ok (.iload 4, 2) := by decide +kernel
theorem dX4_tellOf_17 : decode cX4_tellOf 17 = .ok (.ishr, 1) := by decide +kernel
theorem dX4_tellOf_18 : decode cX4_tellOf 18 = .ok (.iconst 1, 1) := by decide +kernel
theorem dX4_tellOf_19 : decode cX4_tellOf 19 = .ok (.iand, 1) := by decide +kernel
theorem dX4_tellOf_20 : decode cX4_tellOf 20 = .ok (.ifCond .eq 22, 3) := by decide +kernel
theorem dX4_tellOf_23 : decode cX4_tellOf 23 = .ok (.iload_n 3, 1) := by decide +kernel
theorem dX4_tellOf_24 : decode cX4_tellOf 24 = .ok (.aload_n 0, 1) := by decide +kernel
theorem dX4_tellOf_25 : decode cX4_tellOf 25 = .ok (.getfield 9, 3) := by decide +kernel
theorem dX4_tellOf_28 : decode cX4_tellOf 28 = .ok (.iload_n 2, 1) := by decide +kernel
theorem dX4_tellOf_29 : decode cX4_tellOf 29 = .ok (.bipush 10, 2) := by decide +kernel
theorem dX4_tellOf_31 : decode cX4_tellOf 31 = .ok (.imul, 1) := by decide +kernel
theorem dX4_tellOf_32 : decode cX4_tellOf 32 = .ok (.iload 4, 2) := by decide +kernel
theorem dX4_tellOf_34 : decode cX4_tellOf 34 = .ok (.iadd, 1) := by decide +kernel
theorem dX4_tellOf_35 : decode cX4_tellOf 35 = .ok (.iaload, 1) := by decide +kernel
theorem dX4_tellOf_36 : decode cX4_tellOf 36 = .ok (.imul, 1) := by decide +kernel
theorem dX4_tellOf_37 : decode cX4_tellOf 37 = .ok (.sipush 1000, 3) := by decide +kernel
theorem dX4_tellOf_40 : decode cX4_tellOf 40 = .ok (.idiv, 1) := by decide +kernel
theorem dX4_tellOf_41 : decode cX4_tellOf 41 = .ok (.istore_n 3, 1) := by decide +kernel
theorem dX4_tellOf_42 : decode cX4_tellOf 42 = .ok (.iinc 4 1, 3) := by decide +kernel
theorem dX4_tellOf_45 : decode cX4_tellOf 45 = .ok (.goto (-38), 3) := by decide +kernel
theorem dX4_tellOf_48 : decode cX4_tellOf 48 = .ok (.sipush 1000, 3) := by decide +kernel
theorem dX4_tellOf_51 : decode cX4_tellOf 51 = .ok (.iload_n 3, 1) := by decide +kernel
theorem dX4_tellOf_52 : decode cX4_tellOf 52 = .ok (.isub, 1) := by decide +kernel
theorem dX4_tellOf_53 : decode cX4_tellOf 53 = .ok (.ireturn, 1) := by decide +kernel
theorem dX4_spread_0 : decode cX4_spread 0 = .ok (.aload_n 0, 1) := by decide +kernel
theorem dX4_spread_1 : decode cX4_spread 1 = .ok (.invokevirtual 55, 3) := by decide +kernel
theorem dX4_spread_4 : decode cX4_spread 4 = .ok (.aload_n 0, 1) := by decide +kernel
theorem dX4_spread_5 : decode cX4_spread 5 = .ok (.getfield 15, 3) := by decide +kernel
theorem dX4_spread_8 : decode cX4_spread 8 = .ok (.lconst 0, 1) := by decide +kernel
theorem dX4_spread_9 : decode cX4_spread 9 = .ok (.invokestatic 58, 3) := by decide +kernel
theorem dX4_spread_12 : decode cX4_spread 12 = .ok (.aload_n 0, 1) := by decide +kernel
theorem dX4_spread_13 : decode cX4_spread 13 = .ok (.getfield 15, 3) := by decide +kernel
theorem dX4_spread_16 : decode cX4_spread 16 = .ok (.iload_n 1, 1) := by decide +kernel
theorem dX4_spread_17 : decode cX4_spread 17 = .ok (.ldc2_w 64, 3) := by decide +kernel
theorem dX4_spread_20 : decode cX4_spread 20 = .ok (.lastore, 1) := by decide +kernel
theorem dX4_spread_21 : decode cX4_spread 21 = .ok (.iconst 1, 1) := by decide +kernel
theorem dX4_spread_22 : decode cX4_spread 22 = .ok (.aload_n 0, 1) := by decide +kernel
theorem dX4_spread_23 : decode cX4_spread 23 = .ok (.invokevirtual 45, 3) := by decide +kernel
theorem dX4_spread_26 : decode cX4_spread 26 = .ok (.ishl, 1) := by decide +kernel
theorem dX4_spread_27 : decode cX4_spread 27 = .ok (.iconst 1, 1) := by decide +kernel
theorem dX4_spread_28 : decode cX4_spread 28 = .ok (.isub, 1) := by decide +kernel
theorem dX4_spread_29 : decode cX4_spread 29 = .ok (.istore_n 3, 1) := by decide +kernel
theorem dX4_spread_30 : decode cX4_spread 30 = .ok (.iconst 0, 1) := by decide +kernel
theorem dX4_spread_31 : decode cX4_spread 31 = .ok (.istore 4, 2) := by decide +kernel
theorem dX4_spread_33 : decode cX4_spread 33 = .ok (.iload 4, 2) := by decide +kernel
theorem dX4_spread_35 : decode cX4_spread 35 = .ok (.iload_n 2, 1) := by decide +kernel
theorem dX4_spread_36 : decode cX4_spread 36 = .ok (.if_icmp .ge 42, 3) := by decide +kernel
theorem dX4_spread_39 : decode cX4_spread 39 = .ok (.iload_n 3, 1) := by decide +kernel
theorem dX4_spread_40 : decode cX4_spread 40 = .ok (.istore 5, 2) := by decide +kernel
theorem dX4_spread_42 : decode cX4_spread 42 = .ok (.iload 5, 2) := by decide +kernel
theorem dX4_spread_44 : decode cX4_spread 44 = .ok (.iload_n 1, 1) := by decide +kernel
theorem dX4_spread_45 : decode cX4_spread 45 = .ok (.if_icmp .lt 27, 3) := by decide +kernel
theorem dX4_spread_48 : decode cX4_spread 48 = .ok (.aload_n 0, 1) := by decide +kernel
theorem dX4_spread_49 : decode cX4_spread 49 = .ok (.getfield 15, 3) := by decide +kernel
theorem dX4_spread_52 : decode cX4_spread 52 = .ok (.iload 5, 2) := by decide +kernel
theorem dX4_spread_54 : decode cX4_spread 54 = .ok (.laload, 1) := by decide +kernel
theorem dX4_spread_55 : decode cX4_spread 55 = .ok (.lconst 0, 1) := by decide +kernel
theorem dX4_spread_56 : decode cX4_spread 56 = .ok (.lcmp, 1) := by decide +kernel
theorem dX4_spread_57 : decode cX4_spread 57 = .ok (.ifCond .eq 9, 3) := by decide +kernel
theorem dX4_spread_60 : decode cX4_spread 60 = .ok (.aload_n 0, 1) := by decide +kernel
theorem dX4_spread_61 : decode cX4_spread 61 = .ok (.iload 5, 2) := by decide +kernel
theorem dX4_spread_63 : decode cX4_spread 63 = .ok (.invokevirtual 66, 3) := by decide +kernel
theorem dX4_spread_66 : decode cX4_spread 66 = .ok (.iinc 5 (-1), 3) := by decide +kernel
theorem dX4_spread_69 : decode cX4_spread 69 = .ok (.goto (-27), 3) := by decide +kernel
theorem dX4_spread_72 : decode cX4_spread 72 = .ok (.iinc 4 1, 3) := by decide +kernel
theorem dX4_spread_75 : decode cX4_spread 75 = .ok (.goto (-42), 3) := by decide +kernel
theorem dX4_spread_78 : decode cX4_spread 78 = .ok (.return_, 1) := by decide +kernel
theorem dX4_part_0 : decode cX4_part 0 = .ok (.aload_n 0, 1) := by decide +kernel
theorem dX4_part_1 : decode cX4_part 1 = .ok (.getfield 19, 3) := by decide +kernel
theorem dX4_part_4 : decode cX4_part 4 = .ok (.iconst 0, 1) := by decide +kernel
theorem dX4_part_5 : decode cX4_part 5 = .ok (.iload_n 1, 1) := by decide +kernel
theorem dX4_part_6 : decode cX4_part 6 = .ok (.iastore, 1) := by decide +kernel
theorem dX4_part_7 : decode cX4_part 7 = .ok (.aload_n 0, 1) := by decide +kernel
theorem dX4_part_8 : decode cX4_part 8 = .ok (.getfield 22, 3) := by decide +kernel
theorem dX4_part_11 : decode cX4_part 11 = .ok (.iconst 0, 1) := by decide +kernel
theorem dX4_part_12 : decode cX4_part 12 = .ok (.aload_n 0, 1) := by decide +kernel
theorem dX4_part_13 : decode cX4_part 13 = .ok (.getfield 15, 3) := by decide +kernel
theorem dX4_part_16 : decode cX4_part 16 = .ok (.iload_n 1, 1) := by decide +kernel
theorem dX4_part_17 : decode cX4_part 17 = .ok (.laload, 1) := by decide +kernel
theorem dX4_part_18 : decode cX4_part 18 = .ok (.lastore, 1) := by decide +kernel
theorem dX4_part_19 : decode cX4_part 19 = .ok (.aload_n 0, 1) := by decide +kernel
theorem dX4_part_20 : decode cX4_part 20 = .ok (.iconst 1, 1) := by decide +kernel
theorem dX4_part_21 : decode cX4_part 21 = .ok (.putfield 70, 3) := by decide +kernel
theorem dX4_part_24 : decode cX4_part 24 = .ok (.aload_n 0, 1) := by decide +kernel
theorem dX4_part_25 : decode cX4_part 25 = .ok (.getfield 15, 3) := by decide +kernel
theorem dX4_part_28 : decode cX4_part 28 = .ok (.iload_n 1, 1) := by decide +kernel
theorem dX4_part_29 : decode cX4_part 29 = .ok (.lconst 0, 1) := by decide +kernel
theorem dX4_part_30 : decode cX4_part 30 = .ok (.lastore, 1) := by decide +kernel
theorem dX4_part_31 : decode cX4_part 31 = .ok (.iconst 0, 1) := by decide +kernel
theorem dX4_part_32 : decode cX4_part 32 = .ok (.istore_n 2, 1) := by decide +kernel
theorem dX4_part_33 : decode cX4_part 33 = .ok (.iload_n 2, 1) := by decide +kernel
theorem dX4_part_34 : decode cX4_part 34 = .ok (.aload_n 0, 1) := by decide +kernel
theorem dX4_part_35 : decode cX4_part 35 = .ok (.invokevirtual 45, 3) := by decide +kernel
theorem dX4_part_38 : decode cX4_part 38 = .ok (.if_icmp .ge 28, 3) := by decide +kernel
theorem dX4_part_41 : decode cX4_part 41 = .ok (.iload_n 1, 1) := by decide +kernel
theorem dX4_part_42 : decode cX4_part 42 = .ok (.iload_n 2, 1) := by decide +kernel
theorem dX4_part_43 : decode cX4_part 43 = .ok (.ishr, 1) := by decide +kernel
theorem dX4_part_44 : decode cX4_part 44 = .ok (.iconst 1, 1) := by decide +kernel
theorem dX4_part_45 : decode cX4_part 45 = .ok (.iand, 1) := by decide +kernel
theorem dX4_part_46 : decode cX4_part 46 = .ok (.ifCond .ne 14, 3) := by decide +kernel
theorem dX4_part_49 : decode cX4_part 49 = .ok (.aload_n 0, 1) := by decide +kernel
theorem dX4_part_50 : decode cX4_part 50 = .ok (.iload_n 2, 1) := by decide +kernel
theorem dX4_part_51 : decode cX4_part 51 = .ok (.aload_n 0, 1) := by decide +kernel
theorem dX4_part_52 : decode cX4_part 52 = .ok (.iload_n 1, 1) := by decide +kernel
theorem dX4_part_53 : decode cX4_part 53 = .ok (.iload_n 2, 1) := by decide +kernel
theorem dX4_part_54 : decode cX4_part 54 = .ok (.invokevirtual 73, 3) := by decide +kernel
theorem dX4_part_57 : decode cX4_part 57 = .ok (.invokevirtual 76, 3) := by decide +kernel
theorem dX4_part_60 : decode cX4_part 60 = .ok (.iinc 2 1, 3) := by decide +kernel
theorem dX4_part_63 : decode cX4_part 63 = .ok (.goto (-30), 3) := by decide +kernel
theorem dX4_part_66 : decode cX4_part 66 = .ok (.iconst 0, 1) := by decide +kernel
theorem dX4_part_67 : decode cX4_part 67 = .ok (.istore_n 2, 1) := by decide +kernel
theorem dX4_part_68 : decode cX4_part 68 = .ok (.iload_n 2, 1) := by decide +kernel
theorem dX4_part_69 : decode cX4_part 69 = .ok (.aload_n 0, 1) := by decide +kernel
theorem dX4_part_70 : decode cX4_part 70 = .ok (.getfield 70, 3) := by decide +kernel
theorem dX4_part_73 : decode cX4_part 73 = .ok (.if_icmp .ge 29, 3) := by decide +kernel
theorem dX4_part_76 : decode cX4_part 76 = .ok (.aload_n 0, 1) := by decide +kernel
theorem dX4_part_77 : decode cX4_part 77 = .ok (.getfield 15, 3) := by decide +kernel
theorem dX4_part_80 : decode cX4_part 80 = .ok (.aload_n 0, 1) := by decide +kernel
theorem dX4_part_81 : decode cX4_part 81 = .ok (.getfield 19, 3) := by decide +kernel
theorem dX4_part_84 : decode cX4_part 84 = .ok (.iload_n 2, 1) := by decide +kernel
theorem dX4_part_85 : decode cX4_part 85 = .ok (.iaload, 1) := by decide +kernel
theorem dX4_part_86 : decode cX4_part 86 = .ok (.dup2, 1) := by decide +kernel
theorem dX4_part_87 : decode cX4_part 87 = .ok (.laload, 1) := by decide +kernel
theorem dX4_part_88 : decode cX4_part 88 = .ok (.aload_n 0, 1) := by decide +kernel
theorem dX4_part_89 : decode cX4_part 89 = .ok (.getfield 22, 3) := by decide +kernel
theorem dX4_part_92 : decode cX4_part 92 = .ok (.iload_n 2, 1) := by decide +kernel
theorem dX4_part_93 : decode cX4_part 93 = .ok (.laload, 1) := by decide +kernel
theorem dX4_part_94 : decode cX4_part 94 = .ok (.ladd, 1) := by decide +kernel
theorem dX4_part_95 : decode cX4_part 95 = .ok (.lastore, 1) := by decide +kernel
theorem dX4_part_96 : decode cX4_part 96 = .ok (.iinc 2 1, 3) := by decide +kernel
theorem dX4_part_99 : decode cX4_part 99 = .ok (.goto (-31), 3) := by decide +kernel
theorem dX4_part_102 : decode cX4_part 102 = .ok (.return_, 1) := by decide +kernel
theorem dX4_partBy_0 : decode cX4_partBy 0 = .ok (.iload_n 2, 1) := by decide +kernel
theorem dX4_partBy_1 : decode cX4_partBy 1 = .ok (.ifCond .ne 4, 3) := by decide +kernel
theorem dX4_partBy_4 : decode cX4_partBy 4 = .ok (.return_, 1) := by decide +kernel
theorem dX4_partBy_5 : decode cX4_partBy 5 = .ok (.aload_n 0, 1) := by decide +kernel
theorem dX4_partBy_6 : decode cX4_partBy 6 = .ok (.getfield 70, 3) := by decide +kernel
theorem dX4_partBy_9 : decode cX4_partBy 9 = .ok (.istore_n 3, 1) := by decide +kernel
theorem dX4_partBy_10 : decode cX4_partBy 10 = .ok (.iconst 0, 1) := by decide +kernel
theorem dX4_partBy_11 : decode cX4_partBy 11 = .ok (.istore 4, 2) := by decide +kernel
theorem dX4_partBy_13 : decode cX4_partBy 13 = .ok (.iload 4, 2) := by decide +kernel
theorem dX4_partBy_15 : decode cX4_partBy 15 = .ok (.iload_n 3, 1) := by decide +kernel
theorem dX4_partBy_16 : decode cX4_partBy 16 = .ok (.if_icmp .ge 95, 3) := by decide +kernel
theorem dX4_partBy_19 : decode cX4_partBy 19 = .ok (.aload_n 0, 1) := by decide +kernel
theorem dX4_partBy_20 : decode cX4_partBy 20 = .ok (.getfield 70, 3) := by decide +kernel
theorem dX4_partBy_23 : decode cX4_partBy 23 = .ok (.sipush 512, 3) := by decide +kernel
theorem dX4_partBy_26 : decode cX4_partBy 26 = .ok (.if_icmp .ge 85, 3) := by decide +kernel
theorem dX4_partBy_29 : decode cX4_partBy 29 = .ok (.aload_n 0, 1) := by decide +kernel
theorem dX4_partBy_30 : decode cX4_partBy 30 = .ok (.getfield 22, 3) := by decide +kernel
theorem dX4_partBy_33 : decode cX4_partBy 33 = .ok (.iload 4, 2) := by decide +kernel
theorem dX4_partBy_35 : decode cX4_partBy 35 = .ok (.laload, 1) := by decide +kernel
theorem dX4_partBy_36 : decode cX4_partBy 36 = .ok (.iload_n 2, 1) := by decide +kernel
theorem dX4_partBy_37 : decode cX4_partBy 37 = .ok (.i2l, 1) := by decide +kernel
theorem dX4_partBy_38 : decode cX4_partBy 38 = .ok (.lmul, 1) := by decide +kernel
theorem dX4_partBy_39 : decode cX4_partBy 39 = .ok (.ldc2_w 80, 3) := by decide +kernel
theorem dX4_partBy_42 : decode cX4_partBy 42 = .ok (.ldiv, 1) := by decide +kernel
theorem dX4_partBy_43 : decode cX4_partBy 43 = .ok (.lstore 5, 2) := by decide +kernel
theorem dX4_partBy_45 : decode cX4_partBy 45 = .ok (.lload 5, 2) := by decide +kernel
theorem dX4_partBy_47 : decode cX4_partBy 47 = .ok (.lconst 0, 1) := by decide +kernel
theorem dX4_partBy_48 : decode cX4_partBy 48 = .ok (.lcmp, 1) := by decide +kernel
theorem dX4_partBy_49 : decode cX4_partBy 49 = .ok (.ifCond .eq 56, 3) := by decide +kernel
theorem dX4_partBy_52 : decode cX4_partBy 52 = .ok (.aload_n 0, 1) := by decide +kernel
theorem dX4_partBy_53 : decode cX4_partBy 53 = .ok (.getfield 22, 3) := by decide +kernel
theorem dX4_partBy_56 : decode cX4_partBy 56 = .ok (.iload 4, 2) := by decide +kernel
theorem dX4_partBy_58 : decode cX4_partBy 58 = .ok (.dup2, 1) := by decide +kernel
theorem dX4_partBy_59 : decode cX4_partBy 59 = .ok (.laload, 1) := by decide +kernel
theorem dX4_partBy_60 : decode cX4_partBy 60 = .ok (.lload 5, 2) := by decide +kernel
theorem dX4_partBy_62 : decode cX4_partBy 62 = .ok (.lsub, 1) := by decide +kernel
theorem dX4_partBy_63 : decode cX4_partBy 63 = .ok (.lastore, 1) := by decide +kernel
theorem dX4_partBy_64 : decode cX4_partBy 64 = .ok (.aload_n 0, 1) := by decide +kernel
theorem dX4_partBy_65 : decode cX4_partBy 65 = .ok (.getfield 19, 3) := by decide +kernel
theorem dX4_partBy_68 : decode cX4_partBy 68 = .ok (.aload_n 0, 1) := by decide +kernel
theorem dX4_partBy_69 : decode cX4_partBy 69 = .ok (.getfield 70, 3) := by decide +kernel
theorem dX4_partBy_72 : decode cX4_partBy 72 = .ok (.aload_n 0, 1) := by decide +kernel
theorem dX4_partBy_73 : decode cX4_partBy 73 = .ok (.getfield 19, 3) := by decide +kernel
theorem dX4_partBy_76 : decode cX4_partBy 76 = .ok (.iload 4, 2) := by decide +kernel
theorem dX4_partBy_78 : decode cX4_partBy 78 = .ok (.iaload, 1) := by decide +kernel
theorem dX4_partBy_79 : decode cX4_partBy 79 = .ok (.iconst 1, 1) := by decide +kernel
theorem dX4_partBy_80 : decode cX4_partBy 80 = .ok (.iload_n 1, 1) := by decide +kernel
theorem dX4_partBy_81 : decode cX4_partBy 81 = .ok (.ishl, 1) := by decide +kernel
theorem dX4_partBy_82 : decode cX4_partBy 82 = .ok (.ior, 1) := by decide +kernel
theorem dX4_partBy_83 : decode cX4_partBy 83 = .ok (.iastore, 1) := by decide +kernel
theorem dX4_partBy_84 : decode cX4_partBy 84 = .ok (.aload_n 0, 1) := by decide +kernel
theorem dX4_partBy_85 : decode cX4_partBy 85 = .ok (.getfield 22, 3) := by decide +kernel
theorem dX4_partBy_88 : decode cX4_partBy 88 = .ok (.aload_n 0, 1) := by decide +kernel
theorem dX4_partBy_89 : decode cX4_partBy 89 = .ok (.getfield 70, 3) := by decide +kernel
theorem dX4_partBy_92 : decode cX4_partBy 92 = .ok (.lload 5, 2) := by decide +kernel
theorem dX4_partBy_94 : decode cX4_partBy 94 = .ok (.lastore, 1) := by decide +kernel
theorem dX4_partBy_95 : decode cX4_partBy 95 = .ok (.aload_n 0, 1) := by decide +kernel
theorem dX4_partBy_96 : decode cX4_partBy 96 = .ok (.dup, 1) := by decide +kernel
theorem dX4_partBy_97 : decode cX4_partBy 97 = .ok (.getfield 70, 3) := by decide +kernel
theorem dX4_partBy_100 : decode cX4_partBy 100 = .ok (.iconst 1, 1) := by decide +kernel
theorem dX4_partBy_101 : decode cX4_partBy 101 = .ok (.iadd, 1) := by decide +kernel
theorem dX4_partBy_102 : decode cX4_partBy 102 = .ok (.putfield 70, 3) := by decide +kernel
theorem dX4_partBy_105 : decode cX4_partBy 105 = .ok (.iinc 4 1, 3) := by decide +kernel
theorem dX4_partBy_108 : decode cX4_partBy 108 = .ok (.goto (-95), 3) := by decide +kernel
theorem dX4_partBy_111 : decode cX4_partBy 111 = .ok (.return_, 1) := by decide +kernel
theorem dX4_reachOf_0 : decode cX4_reachOf 0 = .ok (.aload_n 0, 1) := by decide +kernel
theorem dX4_reachOf_1 : decode cX4_reachOf 1 = .ok (.iconst 1, 1) := by decide +kernel
theorem dX4_reachOf_2 : decode cX4_reachOf 2 = .ok (.iload_n 1, 1) := by decide +kernel
theorem dX4_reachOf_3 : decode cX4_reachOf 3 = .ok (.ishl, 1) := by decide +kernel
theorem dX4_reachOf_4 : decode cX4_reachOf 4 = .ok (.iload_n 3, 1) := by decide +kernel
theorem dX4_reachOf_5 : decode cX4_reachOf 5 = .ok (.invokevirtual 82, 3) := by decide +kernel
theorem dX4_reachOf_8 : decode cX4_reachOf 8 = .ok (.lconst 0, 1) := by decide +kernel
theorem dX4_reachOf_9 : decode cX4_reachOf 9 = .ok (.lstore 4, 2) := by decide +kernel
theorem dX4_reachOf_11 : decode cX4_reachOf 11 = .ok (.iconst 0, 1) := by decide +kernel
theorem dX4_reachOf_12 : decode cX4_reachOf 12 = .ok (.istore 6, 2) := by decide +kernel
theorem dX4_reachOf_14 : decode cX4_reachOf 14 = .ok (.iload 6, 2) := by decide +kernel
theorem dX4_reachOf_16 : decode cX4_reachOf 16 = .ok (.iconst 1, 1) := by decide +kernel
theorem dX4_reachOf_17 : decode cX4_reachOf 17 = .ok (.aload_n 0, 1) := by decide +kernel
theorem dX4_reachOf_18 : decode cX4_reachOf 18 = .ok (.invokevirtual 45, 3) := by decide +kernel
theorem dX4_reachOf_21 : decode cX4_reachOf 21 = .ok (.ishl, 1) := by decide +kernel
theorem dX4_reachOf_22 : decode cX4_reachOf 22 = .ok (.if_icmp .ge 30, 3) := by decide +kernel
theorem dX4_reachOf_25 : decode cX4_reachOf 25 = .ok (.iload 6, 2) := by decide +kernel
theorem dX4_reachOf_27 : decode cX4_reachOf 27 = .ok (.iload_n 2, 1) := by decide +kernel
theorem dX4_reachOf_28 : decode cX4_reachOf 28 = .ok (.ishr, 1) := by decide +kernel
theorem dX4_reachOf_29 : decode cX4_reachOf 29 = .ok (.iconst 1, 1) := by decide +kernel
theorem dX4_reachOf_30 : decode cX4_reachOf 30 = .ok (.iand, 1) := by decide +kernel
theorem dX4_reachOf_31 : decode cX4_reachOf 31 = .ok (.ifCond .eq 15, 3) := by decide +kernel
theorem dX4_reachOf_34 : decode cX4_reachOf 34 = .ok (.lload 4, 2) := by decide +kernel
theorem dX4_reachOf_36 : decode cX4_reachOf 36 = .ok (.aload_n 0, 1) := by decide +kernel
theorem dX4_reachOf_37 : decode cX4_reachOf 37 = .ok (.getfield 15, 3) := by decide +kernel
theorem dX4_reachOf_40 : decode cX4_reachOf 40 = .ok (.iload 6, 2) := by decide +kernel
theorem dX4_reachOf_42 : decode cX4_reachOf 42 = .ok (.laload, 1) := by decide +kernel
theorem dX4_reachOf_43 : decode cX4_reachOf 43 = .ok (.ladd, 1) := by decide +kernel
theorem dX4_reachOf_44 : decode cX4_reachOf 44 = .ok (.lstore 4, 2) := by decide +kernel
theorem dX4_reachOf_46 : decode cX4_reachOf 46 = .ok (.iinc 6 1, 3) := by decide +kernel
theorem dX4_reachOf_49 : decode cX4_reachOf 49 = .ok (.goto (-35), 3) := by decide +kernel
theorem dX4_reachOf_52 : decode cX4_reachOf 52 = .ok (.lload 4, 2) := by decide +kernel
theorem dX4_reachOf_54 : decode cX4_reachOf 54 = .ok (.ldc2_w 80, 3) := by decide +kernel
theorem dX4_reachOf_57 : decode cX4_reachOf 57 = .ok (.ldiv, 1) := by decide +kernel
theorem dX4_reachOf_58 : decode cX4_reachOf 58 = .ok (.l2i, 1) := by decide +kernel
theorem dX4_reachOf_59 : decode cX4_reachOf 59 = .ok (.ireturn, 1) := by decide +kernel
theorem dX4_manyOf_0 : decode cX4_manyOf 0 = .ok (.aload_n 0, 1) := by decide +kernel
theorem dX4_manyOf_1 : decode cX4_manyOf 1 = .ok (.iload_n 1, 1) := by decide +kernel
theorem dX4_manyOf_2 : decode cX4_manyOf 2 = .ok (.iload_n 2, 1) := by decide +kernel
theorem dX4_manyOf_3 : decode cX4_manyOf 3 = .ok (.invokevirtual 82, 3) := by decide +kernel
theorem dX4_manyOf_6 : decode cX4_manyOf 6 = .ok (.lconst 0, 1) := by decide +kernel
theorem dX4_manyOf_7 : decode cX4_manyOf 7 = .ok (.lstore_n 3, 1) := by decide +kernel
theorem dX4_manyOf_8 : decode cX4_manyOf 8 = .ok (.iconst 0, 1) := by decide +kernel
theorem dX4_manyOf_9 : decode cX4_manyOf 9 = .ok (.istore 5, 2) := by decide +kernel
theorem dX4_manyOf_11 : decode cX4_manyOf 11 = .ok (.iload 5, 2) := by decide +kernel
theorem dX4_manyOf_13 : decode cX4_manyOf 13 = .ok (.iconst 1, 1) := by decide +kernel
theorem dX4_manyOf_14 : decode cX4_manyOf 14 = .ok (.aload_n 0, 1) := by decide +kernel
theorem dX4_manyOf_15 : decode cX4_manyOf 15 = .ok (.invokevirtual 45, 3) := by decide +kernel
theorem dX4_manyOf_18 : decode cX4_manyOf 18 = .ok (.ishl, 1) := by decide +kernel
theorem dX4_manyOf_19 : decode cX4_manyOf 19 = .ok (.if_icmp .ge 26, 3) := by decide +kernel
theorem dX4_manyOf_22 : decode cX4_manyOf 22 = .ok (.lload_n 3, 1) := by decide +kernel
theorem dX4_manyOf_23 : decode cX4_manyOf 23 = .ok (.aload_n 0, 1) := by decide +kernel
theorem dX4_manyOf_24 : decode cX4_manyOf 24 = .ok (.getfield 15, 3) := by decide +kernel
theorem dX4_manyOf_27 : decode cX4_manyOf 27 = .ok (.iload 5, 2) := by decide +kernel
theorem dX4_manyOf_29 : decode cX4_manyOf 29 = .ok (.laload, 1) := by decide +kernel
theorem dX4_manyOf_30 : decode cX4_manyOf 30 = .ok (.iload 5, 2) := by decide +kernel
theorem dX4_manyOf_32 : decode cX4_manyOf 32 = .ok (.invokestatic 85, 3) := by decide +kernel
theorem dX4_manyOf_35 : decode cX4_manyOf 35 = .ok (.i2l, 1) := by decide +kernel
theorem dX4_manyOf_36 : decode cX4_manyOf 36 = .ok (.lmul, 1) := by decide +kernel
theorem dX4_manyOf_37 : decode cX4_manyOf 37 = .ok (.ladd, 1) := by decide +kernel
theorem dX4_manyOf_38 : decode cX4_manyOf 38 = .ok (.lstore_n 3, 1) := by decide +kernel
theorem dX4_manyOf_39 : decode cX4_manyOf 39 = .ok (.iinc 5 1, 3) := by decide +kernel
theorem dX4_manyOf_42 : decode cX4_manyOf 42 = .ok (.goto (-31), 3) := by decide +kernel
theorem dX4_manyOf_45 : decode cX4_manyOf 45 = .ok (.lload_n 3, 1) := by decide +kernel
theorem dX4_manyOf_46 : decode cX4_manyOf 46 = .ok (.ldc2_w 91, 3) := by decide +kernel
theorem dX4_manyOf_49 : decode cX4_manyOf 49 = .ok (.ldiv, 1) := by decide +kernel
theorem dX4_manyOf_50 : decode cX4_manyOf 50 = .ok (.l2i, 1) := by decide +kernel
theorem dX4_manyOf_51 : decode cX4_manyOf 51 = .ok (.ireturn, 1) := by decide +kernel
theorem dX4_beganOf_0 : decode cX4_beganOf 0 = .ok (.lconst 0, 1) := by decide +kernel
theorem dX4_beganOf_1 : decode cX4_beganOf 1 = .ok (.lstore 4, 2) := by decide +kernel
theorem dX4_beganOf_3 : decode cX4_beganOf 3 = .ok (.lconst 0, 1) := by decide +kernel
theorem dX4_beganOf_4 : decode cX4_beganOf 4 = .ok (.lstore 6, 2) := by decide +kernel
theorem dX4_beganOf_6 : decode cX4_beganOf 6 = .ok (.iconst 0, 1) := by decide +kernel
theorem dX4_beganOf_7 : decode cX4_beganOf 7 = .ok (.istore 8, 2) := by decide +kernel
theorem dX4_beganOf_9 : decode cX4_beganOf 9 = .ok (.iload 8, 2) := by decide +kernel
theorem dX4_beganOf_11 : decode cX4_beganOf 11 = .ok (.aload_n 0, 1) := by decide +kernel
theorem dX4_beganOf_12 : decode cX4_beganOf 12 = .ok (.invokevirtual 45, 3) := by decide +kernel
theorem dX4_beganOf_15 : decode cX4_beganOf 15 = .ok (.if_icmp .ge 43, 3) := by decide +kernel
theorem dX4_beganOf_18 : decode cX4_beganOf 18 = .ok (.aload_n 0, 1) := by decide +kernel
theorem dX4_beganOf_19 : decode cX4_beganOf 19 = .ok (.iconst 1, 1) := by decide +kernel
theorem dX4_beganOf_20 : decode cX4_beganOf 20 = .ok (.iload 8, 2) := by decide +kernel
theorem dX4_beganOf_22 : decode cX4_beganOf 22 = .ok (.ishl, 1) := by decide +kernel
theorem dX4_beganOf_23 : decode cX4_beganOf 23 = .ok (.iload_n 3, 1) := by decide +kernel
theorem dX4_beganOf_24 : decode cX4_beganOf 24 = .ok (.invokevirtual 82, 3) := by decide +kernel
theorem dX4_beganOf_27 : decode cX4_beganOf 27 = .ok (.lload 6, 2) := by decide +kernel
theorem dX4_beganOf_29 : decode cX4_beganOf 29 = .ok (.aload_n 0, 1) := by decide +kernel
theorem dX4_beganOf_30 : decode cX4_beganOf 30 = .ok (.getfield 15, 3) := by decide +kernel
theorem dX4_beganOf_33 : decode cX4_beganOf 33 = .ok (.iload_n 2, 1) := by decide +kernel
theorem dX4_beganOf_34 : decode cX4_beganOf 34 = .ok (.laload, 1) := by decide +kernel
theorem dX4_beganOf_35 : decode cX4_beganOf 35 = .ok (.ladd, 1) := by decide +kernel
theorem dX4_beganOf_36 : decode cX4_beganOf 36 = .ok (.lstore 6, 2) := by decide +kernel
theorem dX4_beganOf_38 : decode cX4_beganOf 38 = .ok (.iload 8, 2) := by decide +kernel
theorem dX4_beganOf_40 : decode cX4_beganOf 40 = .ok (.iload_n 1, 1) := by decide +kernel
theorem dX4_beganOf_41 : decode cX4_beganOf 41 = .ok (.if_icmp .ne 11, 3) := by decide +kernel
theorem dX4_beganOf_44 : decode cX4_beganOf 44 = .ok (.aload_n 0, 1) := by decide +kernel
theorem dX4_beganOf_45 : decode cX4_beganOf 45 = .ok (.getfield 15, 3) := by decide +kernel
theorem dX4_beganOf_48 : decode cX4_beganOf 48 = .ok (.iload_n 2, 1) := by decide +kernel
theorem dX4_beganOf_49 : decode cX4_beganOf 49 = .ok (.laload, 1) := by decide +kernel
theorem dX4_beganOf_50 : decode cX4_beganOf 50 = .ok (.lstore 4, 2) := by decide +kernel
theorem dX4_beganOf_52 : decode cX4_beganOf 52 = .ok (.iinc 8 1, 3) := by decide +kernel
theorem dX4_beganOf_55 : decode cX4_beganOf 55 = .ok (.goto (-46), 3) := by decide +kernel
theorem dX4_beganOf_58 : decode cX4_beganOf 58 = .ok (.lload 6, 2) := by decide +kernel
theorem dX4_beganOf_60 : decode cX4_beganOf 60 = .ok (.lconst 0, 1) := by decide +kernel
theorem dX4_beganOf_61 : decode cX4_beganOf 61 = .ok (.lcmp, 1) := by decide +kernel
theorem dX4_beganOf_62 : decode cX4_beganOf 62 = .ok (.ifCond .ne 7, 3) := by decide +kernel
theorem dX4_beganOf_65 : decode cX4_beganOf 65 = .ok (.iconst 0, 1) := by decide +kernel
theorem dX4_beganOf_66 : decode cX4_beganOf 66 = .ok (.goto 13, 3) := by decide +kernel
theorem dX4_beganOf_69 : decode cX4_beganOf 69 = .ok (.ldc2_w 91, 3) := by decide +kernel
theorem dX4_beganOf_72 : decode cX4_beganOf 72 = .ok (.lload 4, 2) := by decide +kernel
theorem dX4_beganOf_74 : decode cX4_beganOf 74 = .ok (.lmul, 1) := by decide +kernel
theorem dX4_beganOf_75 : decode cX4_beganOf 75 = .ok (.lload 6, 2) := by decide +kernel
theorem dX4_beganOf_77 : decode cX4_beganOf 77 = .ok (.ldiv, 1) := by decide +kernel
theorem dX4_beganOf_78 : decode cX4_beganOf 78 = .ok (.l2i, 1) := by decide +kernel
theorem dX4_beganOf_79 : decode cX4_beganOf 79 = .ok (.ireturn, 1) := by decide +kernel
theorem dX4_bestToSpeak_0 : decode cX4_bestToSpeak 0 = .ok (.iconst (-1), 1) := by decide +kernel
theorem dX4_bestToSpeak_1 : decode cX4_bestToSpeak 1 = .ok (.istore_n 3, 1) := by decide +kernel
theorem dX4_bestToSpeak_2 : decode cX4_bestToSpeak 2 = .ok (.iconst (-1), 1) := by decide +kernel
theorem dX4_bestToSpeak_3 : decode cX4_bestToSpeak 3 = .ok (.istore 4, 2) := by decide +kernel
theorem dX4_bestToSpeak_5 : decode cX4_bestToSpeak 5 = .ok (.iconst 0, 1) := by decide +kernel
theorem dX4_bestToSpeak_6 : decode cX4_bestToSpeak 6 = .ok (.istore 5, 2) := by decide +kernel
theorem dX4_bestToSpeak_8 : decode cX4_bestToSpeak 8 = .ok (.iload 5, 2) := by decide +kernel
theorem dX4_bestToSpeak_10 : decode cX4_bestToSpeak 10 = .ok (.iconst 1, 1) := by decide +kernel
theorem dX4_bestToSpeak_11 : decode cX4_bestToSpeak 11 = .ok (.aload_n 0, 1) := by decide +kernel
theorem dX4_bestToSpeak_12 : decode cX4_bestToSpeak 12 = .ok (.invokevirtual 45, 3) := by decide +kernel
theorem dX4_bestToSpeak_15 : decode cX4_bestToSpeak 15 = .ok (.ishl, 1) := by decide +kernel
theorem dX4_bestToSpeak_16 : decode cX4_bestToSpeak 16 = .ok (.if_icmp .ge 41, 3) := by decide +kernel
theorem dX4_bestToSpeak_19 : decode cX4_bestToSpeak 19 = .ok (.iload 5, 2) := by decide +kernel
theorem dX4_bestToSpeak_21 : decode cX4_bestToSpeak 21 = .ok (.invokestatic 85, 3) := by decide +kernel
theorem dX4_bestToSpeak_24 : decode cX4_bestToSpeak 24 = .ok (.iload_n 1, 1) := by decide +kernel
theorem dX4_bestToSpeak_25 : decode cX4_bestToSpeak 25 = .ok (.if_icmp .ne 26, 3) := by decide +kernel
theorem dX4_bestToSpeak_28 : decode cX4_bestToSpeak 28 = .ok (.aload_n 0, 1) := by decide +kernel
theorem dX4_bestToSpeak_29 : decode cX4_bestToSpeak 29 = .ok (.iload 5, 2) := by decide +kernel
theorem dX4_bestToSpeak_31 : decode cX4_bestToSpeak 31 = .ok (.iload_n 2, 1) := by decide +kernel
theorem dX4_bestToSpeak_32 : decode cX4_bestToSpeak 32 = .ok (.invokevirtual 93, 3) := by decide +kernel
theorem dX4_bestToSpeak_35 : decode cX4_bestToSpeak 35 = .ok (.istore 6, 2) := by decide +kernel
theorem dX4_bestToSpeak_37 : decode cX4_bestToSpeak 37 = .ok (.iload 6, 2) := by decide +kernel
theorem dX4_bestToSpeak_39 : decode cX4_bestToSpeak 39 = .ok (.iload 4, 2) := by decide +kernel
theorem dX4_bestToSpeak_41 : decode cX4_bestToSpeak 41 = .ok (.if_icmp .le 10, 3) := by decide +kernel
theorem dX4_bestToSpeak_44 : decode cX4_bestToSpeak 44 = .ok (.iload 6, 2) := by decide +kernel
theorem dX4_bestToSpeak_46 : decode cX4_bestToSpeak 46 = .ok (.istore 4, 2) := by decide +kernel
theorem dX4_bestToSpeak_48 : decode cX4_bestToSpeak 48 = .ok (.iload 5, 2) := by decide +kernel
theorem dX4_bestToSpeak_50 : decode cX4_bestToSpeak 50 = .ok (.istore_n 3, 1) := by decide +kernel
theorem dX4_bestToSpeak_51 : decode cX4_bestToSpeak 51 = .ok (.iinc 5 1, 3) := by decide +kernel
theorem dX4_bestToSpeak_54 : decode cX4_bestToSpeak 54 = .ok (.goto (-46), 3) := by decide +kernel
theorem dX4_bestToSpeak_57 : decode cX4_bestToSpeak 57 = .ok (.iload_n 3, 1) := by decide +kernel
theorem dX4_bestToSpeak_58 : decode cX4_bestToSpeak 58 = .ok (.ireturn, 1) := by decide +kernel
theorem dX5_init_0 : decode cX5_init 0 = .ok (.aload_n 0, 1) := by decide +kernel
theorem dX5_init_1 : decode cX5_init 1 = .ok (.invokespecial 1, 3) := by decide +kernel
theorem dX5_init_4 : decode cX5_init 4 = .ok (.aload_n 0, 1) := by decide +kernel
theorem dX5_init_5 : decode cX5_init 5 = .ok (.iconst 3, 1) := by decide +kernel
theorem dX5_init_6 : decode cX5_init 6 = .ok (.putfield 7, 3) := by decide +kernel
theorem dX5_init_9 : decode cX5_init 9 = .ok (.aload_n 0, 1) := by decide +kernel
theorem dX5_init_10 : decode cX5_init 10 = .ok (.bipush 20, 2) := by decide +kernel
theorem dX5_init_12 : decode cX5_init 12 = .ok (.putfield 13, 3) := by decide +kernel
theorem dX5_init_15 : decode cX5_init 15 = .ok (.return_, 1) := by decide +kernel
theorem dX6_init_0 : decode cX6_init 0 = .ok (.aload_n 0, 1) := by decide +kernel
theorem dX6_init_1 : decode cX6_init 1 = .ok (.invokespecial 3, 3) := by decide +kernel
theorem dX6_init_4 : decode cX6_init 4 = .ok (.aload_n 0, 1) := by decide +kernel
theorem dX6_init_5 : decode cX6_init 5 = .ok (.aload_n 1, 1) := by decide +kernel
theorem dX6_init_6 : decode cX6_init 6 = .ok (.putfield 9, 3) := by decide +kernel
theorem dX6_init_9 : decode cX6_init 9 = .ok (.aload_n 0, 1) := by decide +kernel
theorem dX6_init_10 : decode cX6_init 10 = .ok (.aload_n 2, 1) := by decide +kernel
theorem dX6_init_11 : decode cX6_init 11 = .ok (.putfield 15, 3) := by decide +kernel
theorem dX6_init_14 : decode cX6_init 14 = .ok (.aload_n 0, 1) := by decide +kernel
theorem dX6_init_15 : decode cX6_init 15 = .ok (.aload_n 3, 1) := by decide +kernel
theorem dX6_init_16 : decode cX6_init 16 = .ok (.putfield 19, 3) := by decide +kernel
theorem dX6_init_19 : decode cX6_init 19 = .ok (.return_, 1) := by decide +kernel
theorem dX6_pass_0 : decode cX6_pass 0 = .ok (.iconst 0, 1) := by decide +kernel
theorem dX6_pass_1 : decode cX6_pass 1 = .ok (.istore_n 3, 1) := by decide +kernel
theorem dX6_pass_2 : decode cX6_pass 2 = .ok (.iconst 0, 1) := by decide +kernel
theorem dX6_pass_3 : decode cX6_pass 3 = .ok (.istore 4, 2) := by decide +kernel
theorem dX6_pass_5 : decode cX6_pass 5 = .ok (.iload 4, 2) := by decide +kernel
theorem dX6_pass_7 : decode cX6_pass 7 = .ok (.iload_n 2, 1) := by decide +kernel
theorem dX6_pass_8 : decode cX6_pass 8 = .ok (.if_icmp .ge 17, 3) := by decide +kernel
theorem dX6_pass_11 : decode cX6_pass 11 = .ok (.iload_n 3, 1) := by decide +kernel
theorem dX6_pass_12 : decode cX6_pass 12 = .ok (.aload_n 0, 1) := by decide +kernel
theorem dX6_pass_13 : decode cX6_pass 13 = .ok (.aload_n 1, 1) := by decide +kernel
theorem dX6_pass_14 : decode cX6_pass 14 = .ok (.invokevirtual 23, 3) := by decide +kernel
theorem dX6_pass_17 : decode cX6_pass 17 = .ok (.iadd, 1) := by decide +kernel
theorem dX6_pass_18 : decode cX6_pass 18 = .ok (.istore_n 3, 1) := by decide +kernel
theorem dX6_pass_19 : decode cX6_pass 19 = .ok (.iinc 4 1, 3) := by decide +kernel
theorem dX6_pass_22 : decode cX6_pass 22 = .ok (.goto (-17), 3) := by decide +kernel
theorem dX6_pass_25 : decode cX6_pass 25 = .ok (.iload_n 3, 1) := by decide +kernel
theorem dX6_pass_26 : decode cX6_pass 26 = .ok (.ireturn, 1) := by decide +kernel
theorem dX6_tell_0 : decode cX6_tell 0 = .ok (.iconst 0, 1) := by decide +kernel
theorem dX6_tell_1 : decode cX6_tell 1 = .ok (.istore_n 2, 1) := by decide +kernel
theorem dX6_tell_2 : decode cX6_tell 2 = .ok (.iconst 0, 1) := by decide +kernel
theorem dX6_tell_3 : decode cX6_tell 3 = .ok (.istore_n 3, 1) := by decide +kernel
theorem dX6_tell_4 : decode cX6_tell 4 = .ok (.iload_n 3, 1) := by decide +kernel
theorem dX6_tell_5 : decode cX6_tell 5 = .ok (.aload_n 0, 1) := by decide +kernel
theorem dX6_tell_6 : decode cX6_tell 6 = .ok (.getfield 9, 3) := by decide +kernel
theorem dX6_tell_9 : decode cX6_tell 9 = .ok (.getfield 27, 3) := by decide +kernel
theorem dX6_tell_12 : decode cX6_tell 12 = .ok (.if_icmp .ge 50, 3) := by decide +kernel
theorem dX6_tell_15 : decode cX6_tell 15 = .ok (.aload_n 1, 1) := by decide +kernel
theorem dX6_tell_16 : decode cX6_tell 16 = .ok (.getfield 33, 3) := by decide +kernel
theorem dX6_tell_19 : decode cX6_tell 19 = .ok (.iload_n 3, 1) := by decide +kernel
theorem dX6_tell_20 : decode cX6_tell 20 = .ok (.iaload, 1) := by decide +kernel
theorem dX6_tell_21 : decode cX6_tell 21 = .ok (.ifCond .eq 35, 3) := by decide +kernel
theorem dX6_tell_24 : decode cX6_tell 24 = .ok (.aload_n 0, 1) := by decide +kernel
theorem dX6_tell_25 : decode cX6_tell 25 = .ok (.getfield 9, 3) := by decide +kernel
theorem dX6_tell_28 : decode cX6_tell 28 = .ok (.getfield 39, 3) := by decide +kernel
theorem dX6_tell_31 : decode cX6_tell 31 = .ok (.iload_n 3, 1) := by decide +kernel
theorem dX6_tell_32 : decode cX6_tell 32 = .ok (.ishr, 1) := by decide +kernel
theorem dX6_tell_33 : decode cX6_tell 33 = .ok (.iconst 1, 1) := by decide +kernel
theorem dX6_tell_34 : decode cX6_tell 34 = .ok (.iand, 1) := by decide +kernel
theorem dX6_tell_35 : decode cX6_tell 35 = .ok (.ifCond .ne 21, 3) := by decide +kernel
theorem dX6_tell_38 : decode cX6_tell 38 = .ok (.aload_n 0, 1) := by decide +kernel
theorem dX6_tell_39 : decode cX6_tell 39 = .ok (.getfield 9, 3) := by decide +kernel
theorem dX6_tell_42 : decode cX6_tell 42 = .ok (.getfield 42, 3) := by decide +kernel
theorem dX6_tell_45 : decode cX6_tell 45 = .ok (.iload_n 3, 1) := by decide +kernel
theorem dX6_tell_46 : decode cX6_tell 46 = .ok (.iaload, 1) := by decide +kernel
theorem dX6_tell_47 : decode cX6_tell 47 = .ok (.ifCond .le 9, 3) := by decide +kernel
theorem dX6_tell_50 : decode cX6_tell 50 = .ok (.iload_n 2, 1) := by decide +kernel
theorem dX6_tell_51 : decode cX6_tell 51 = .ok (.iconst 1, 1) := by decide +kernel
theorem dX6_tell_52 : decode cX6_tell 52 = .ok (.iload_n 3, 1) := by decide +kernel
theorem dX6_tell_53 : decode cX6_tell 53 = .ok (.ishl, 1) := by decide +kernel
theorem dX6_tell_54 : decode cX6_tell 54 = .ok (.ior, 1) := by decide +kernel
theorem dX6_tell_55 : decode cX6_tell 55 = .ok (.istore_n 2, 1) := by decide +kernel
theorem dX6_tell_56 : decode cX6_tell 56 = .ok (.iinc 3 1, 3) := by decide +kernel
theorem dX6_tell_59 : decode cX6_tell 59 = .ok (.goto (-55), 3) := by decide +kernel
theorem dX6_tell_62 : decode cX6_tell 62 = .ok (.iconst 0, 1) := by decide +kernel
theorem dX6_tell_63 : decode cX6_tell 63 = .ok (.istore_n 3, 1) := by decide +kernel
theorem dX6_tell_64 : decode cX6_tell 64 = .ok (.iconst 0, 1) := by decide +kernel
theorem dX6_tell_65 : decode cX6_tell 65 = .ok (.istore 4, 2) := by decide +kernel
theorem dX6_tell_67 : decode cX6_tell 67 = .ok (.iload 4, 2) := by decide +kernel
theorem dX6_tell_69 : decode cX6_tell 69 = .ok (.aload_n 0, 1) := by decide +kernel
theorem dX6_tell_70 : decode cX6_tell 70 = .ok (.getfield 9, 3) := by decide +kernel
theorem dX6_tell_73 : decode cX6_tell 73 = .ok (.getfield 27, 3) := by decide +kernel
theorem dX6_tell_76 : decode cX6_tell 76 = .ok (.if_icmp .ge 35, 3) := by decide +kernel
theorem dX6_tell_79 : decode cX6_tell 79 = .ok (.iload_n 2, 1) := by decide +kernel
theorem dX6_tell_80 : decode cX6_tell 80 = .ok (.ifCond .eq 31, 3) := by decide +kernel
theorem dX6_tell_83 : decode cX6_tell 83 = .ok (.iload_n 2, 1) := by decide +kernel
theorem dX6_tell_84 : decode cX6_tell 84 = .ok (.iload 4, 2) := by decide +kernel
theorem dX6_tell_86 : decode cX6_tell 86 = .ok (.ishr, 1) := by decide +kernel
theorem dX6_tell_87 : decode cX6_tell 87 = .ok (.iconst 1, 1) := by decide +kernel
theorem dX6_tell_88 : decode cX6_tell 88 = .ok (.iand, 1) := by decide +kernel
theorem dX6_tell_89 : decode cX6_tell 89 = .ok (.ifCond .eq 16, 3) := by decide +kernel
theorem dX6_tell_92 : decode cX6_tell 92 = .ok (.aload_n 0, 1) := by decide +kernel
theorem dX6_tell_93 : decode cX6_tell 93 = .ok (.aload_n 1, 1) := by decide +kernel
theorem dX6_tell_94 : decode cX6_tell 94 = .ok (.iload 4, 2) := by decide +kernel
theorem dX6_tell_96 : decode cX6_tell 96 = .ok (.invokevirtual 45, 3) := by decide +kernel
theorem dX6_tell_99 : decode cX6_tell 99 = .ok (.ifCond .eq 6, 3) := by decide +kernel
theorem dX6_tell_102 : decode cX6_tell 102 = .ok (.iinc 3 1, 3) := by decide +kernel
theorem dX6_tell_105 : decode cX6_tell 105 = .ok (.iinc 4 1, 3) := by decide +kernel
theorem dX6_tell_108 : decode cX6_tell 108 = .ok (.goto (-41), 3) := by decide +kernel
theorem dX6_tell_111 : decode cX6_tell 111 = .ok (.aload_n 1, 1) := by decide +kernel
theorem dX6_tell_112 : decode cX6_tell 112 = .ok (.dup, 1) := by decide +kernel
theorem dX6_tell_113 : decode cX6_tell 113 = .ok (.getfield 49, 3) := by decide +kernel
theorem dX6_tell_116 : decode cX6_tell 116 = .ok (.iconst 1, 1) := by decide +kernel
theorem dX6_tell_117 : decode cX6_tell 117 = .ok (.iadd, 1) := by decide +kernel
theorem dX6_tell_118 : decode cX6_tell 118 = .ok (.putfield 49, 3) := by decide +kernel
theorem dX6_tell_121 : decode cX6_tell 121 = .ok (.iload_n 3, 1) := by decide +kernel
theorem dX6_tell_122 : decode cX6_tell 122 = .ok (.ireturn, 1) := by decide +kernel
theorem dX6_tellsOne_0 : decode cX6_tellsOne 0 = .ok (.aload_n 0, 1) := by decide +kernel
theorem dX6_tellsOne_1 : decode cX6_tellsOne 1 = .ok (.getfield 9, 3) := by decide +kernel
theorem dX6_tellsOne_4 : decode cX6_tellsOne 4 = .ok (.iload_n 2, 1) := by decide +kernel
theorem dX6_tellsOne_5 : decode cX6_tellsOne 5 = .ok (.aload_n 1, 1) := by decide +kernel
theorem dX6_tellsOne_6 : decode cX6_tellsOne 6 = .ok (.aload_n 0, 1) := by decide +kernel
theorem dX6_tellsOne_7 : decode cX6_tellsOne 7 = .ok (.getfield 9, 3) := by decide +kernel
theorem dX6_tellsOne_10 : decode cX6_tellsOne 10 = .ok (.getfield 52, 3) := by decide +kernel
theorem dX6_tellsOne_13 : decode cX6_tellsOne 13 = .ok (.iload_n 2, 1) := by decide +kernel
theorem dX6_tellsOne_14 : decode cX6_tellsOne 14 = .ok (.iaload, 1) := by decide +kernel
theorem dX6_tellsOne_15 : decode cX6_tellsOne 15 = .ok (.invokevirtual 55, 3) := by decide +kernel
theorem dX6_tellsOne_18 : decode cX6_tellsOne 18 = .ok (.invokevirtual 59, 3) := by decide +kernel
theorem dX6_tellsOne_21 : decode cX6_tellsOne 21 = .ok (.istore_n 3, 1) := by decide +kernel
theorem dX6_tellsOne_22 : decode cX6_tellsOne 22 = .ok (.aload_n 1, 1) := by decide +kernel
theorem dX6_tellsOne_23 : decode cX6_tellsOne 23 = .ok (.iload_n 2, 1) := by decide +kernel
theorem dX6_tellsOne_24 : decode cX6_tellsOne 24 = .ok (.invokevirtual 63, 3) := by decide +kernel
theorem dX6_tellsOne_27 : decode cX6_tellsOne 27 = .ok (.istore 4, 2) := by decide +kernel
theorem dX6_tellsOne_29 : decode cX6_tellsOne 29 = .ok (.iload_n 3, 1) := by decide +kernel
theorem dX6_tellsOne_30 : decode cX6_tellsOne 30 = .ok (.iconst (-1), 1) := by decide +kernel
theorem dX6_tellsOne_31 : decode cX6_tellsOne 31 = .ok (.if_icmp .eq 9, 3) := by decide +kernel
theorem dX6_tellsOne_34 : decode cX6_tellsOne 34 = .ok (.iload 4, 2) := by decide +kernel
theorem dX6_tellsOne_36 : decode cX6_tellsOne 36 = .ok (.iconst (-1), 1) := by decide +kernel
theorem dX6_tellsOne_37 : decode cX6_tellsOne 37 = .ok (.if_icmp .ne 5, 3) := by decide +kernel
theorem dX6_tellsOne_40 : decode cX6_tellsOne 40 = .ok (.iconst 0, 1) := by decide +kernel
theorem dX6_tellsOne_41 : decode cX6_tellsOne 41 = .ok (.ireturn, 1) := by decide +kernel
theorem dX6_tellsOne_42 : decode cX6_tellsOne 42 = .ok (.aload_n 1, 1) := by decide +kernel
theorem dX6_tellsOne_43 : decode cX6_tellsOne 43 = .ok (.getfield 66, 3) := by decide +kernel
theorem dX6_tellsOne_46 : decode cX6_tellsOne 46 = .ok (.iload_n 3, 1) := by decide +kernel
theorem dX6_tellsOne_47 : decode cX6_tellsOne 47 = .ok (.bipush 6, 2) := by decide +kernel
theorem dX6_tellsOne_49 : decode cX6_tellsOne 49 = .ok (.imul, 1) := by decide +kernel
theorem dX6_tellsOne_50 : decode cX6_tellsOne 50 = .ok (.iload 4, 2) := by decide +kernel
theorem dX6_tellsOne_52 : decode cX6_tellsOne 52 = .ok (.iadd, 1) := by decide +kernel
theorem dX6_tellsOne_53 : decode cX6_tellsOne 53 = .ok (.dup2, 1) := by decide +kernel
theorem dX6_tellsOne_54 : decode cX6_tellsOne 54 = .ok (.iaload, 1) := by decide +kernel
theorem dX6_tellsOne_55 : decode cX6_tellsOne 55 = .ok (.iconst 1, 1) := by decide +kernel
theorem dX6_tellsOne_56 : decode cX6_tellsOne 56 = .ok (.iload_n 2, 1) := by decide +kernel
theorem dX6_tellsOne_57 : decode cX6_tellsOne 57 = .ok (.ishl, 1) := by decide +kernel
theorem dX6_tellsOne_58 : decode cX6_tellsOne 58 = .ok (.ior, 1) := by decide +kernel
theorem dX6_tellsOne_59 : decode cX6_tellsOne 59 = .ok (.iastore, 1) := by decide +kernel
theorem dX6_tellsOne_60 : decode cX6_tellsOne 60 = .ok (.aload_n 1, 1) := by decide +kernel
theorem dX6_tellsOne_61 : decode cX6_tellsOne 61 = .ok (.iload_n 3, 1) := by decide +kernel
theorem dX6_tellsOne_62 : decode cX6_tellsOne 62 = .ok (.iload 4, 2) := by decide +kernel
theorem dX6_tellsOne_64 : decode cX6_tellsOne 64 = .ok (.invokevirtual 69, 3) := by decide +kernel
theorem dX6_tellsOne_67 : decode cX6_tellsOne 67 = .ok (.ifCond .eq 19, 3) := by decide +kernel
theorem dX6_tellsOne_70 : decode cX6_tellsOne 70 = .ok (.aload_n 1, 1) := by decide +kernel
theorem dX6_tellsOne_71 : decode cX6_tellsOne 71 = .ok (.iload_n 2, 1) := by decide +kernel
theorem dX6_tellsOne_72 : decode cX6_tellsOne 72 = .ok (.iload 4, 2) := by decide +kernel
theorem dX6_tellsOne_74 : decode cX6_tellsOne 74 = .ok (.aload_n 0, 1) := by decide +kernel
theorem dX6_tellsOne_75 : decode cX6_tellsOne 75 = .ok (.getfield 19, 3) := by decide +kernel
theorem dX6_tellsOne_78 : decode cX6_tellsOne 78 = .ok (.getfield 73, 3) := by decide +kernel
theorem dX6_tellsOne_81 : decode cX6_tellsOne 81 = .ok (.invokevirtual 78, 3) := by decide +kernel
theorem dX6_tellsOne_84 : decode cX6_tellsOne 84 = .ok (.iconst 0, 1) := by decide +kernel
theorem dX6_tellsOne_85 : decode cX6_tellsOne 85 = .ok (.ireturn, 1) := by decide +kernel
theorem dX6_tellsOne_86 : decode cX6_tellsOne 86 = .ok (.aload_n 1, 1) := by decide +kernel
theorem dX6_tellsOne_87 : decode cX6_tellsOne 87 = .ok (.getfield 82, 3) := by decide +kernel
theorem dX6_tellsOne_90 : decode cX6_tellsOne 90 = .ok (.iload_n 3, 1) := by decide +kernel
theorem dX6_tellsOne_91 : decode cX6_tellsOne 91 = .ok (.iaload, 1) := by decide +kernel
theorem dX6_tellsOne_92 : decode cX6_tellsOne 92 = .ok (.aload_n 0, 1) := by decide +kernel
theorem dX6_tellsOne_93 : decode cX6_tellsOne 93 = .ok (.getfield 15, 3) := by decide +kernel
theorem dX6_tellsOne_96 : decode cX6_tellsOne 96 = .ok (.getfield 85, 3) := by decide +kernel
theorem dX6_tellsOne_99 : decode cX6_tellsOne 99 = .ok (.iload 4, 2) := by decide +kernel
theorem dX6_tellsOne_101 : decode cX6_tellsOne 101 = .ok (.iaload, 1) := by decide +kernel
theorem dX6_tellsOne_102 : decode cX6_tellsOne 102 = .ok (.iand, 1) := by decide +kernel
theorem dX6_tellsOne_103 : decode cX6_tellsOne 103 = .ok (.istore 5, 2) := by decide +kernel
theorem dX6_tellsOne_105 : decode cX6_tellsOne 105 = .ok (.iload 5, 2) := by decide +kernel
theorem dX6_tellsOne_107 : decode cX6_tellsOne 107 = .ok (.ifCond .eq 13, 3) := by decide +kernel
theorem dX6_tellsOne_110 : decode cX6_tellsOne 110 = .ok (.aload_n 0, 1) := by decide +kernel
theorem dX6_tellsOne_111 : decode cX6_tellsOne 111 = .ok (.aload_n 1, 1) := by decide +kernel
theorem dX6_tellsOne_112 : decode cX6_tellsOne 112 = .ok (.iload_n 2, 1) := by decide +kernel
theorem dX6_tellsOne_113 : decode cX6_tellsOne 113 = .ok (.iload_n 3, 1) := by decide +kernel
theorem dX6_tellsOne_114 : decode cX6_tellsOne 114 = .ok (.iload 4, 2) := by decide +kernel
theorem dX6_tellsOne_116 : decode cX6_tellsOne 116 = .ok (.invokevirtual 90, 3) := by decide +kernel
theorem dX6_tellsOne_119 : decode cX6_tellsOne 119 = .ok (.ireturn, 1) := by decide +kernel
theorem dX6_tellsOne_120 : decode cX6_tellsOne 120 = .ok (.aload_n 1, 1) := by decide +kernel
theorem dX6_tellsOne_121 : decode cX6_tellsOne 121 = .ok (.bipush 100, 2) := by decide +kernel
theorem dX6_tellsOne_123 : decode cX6_tellsOne 123 = .ok (.invokevirtual 55, 3) := by decide +kernel
theorem dX6_tellsOne_126 : decode cX6_tellsOne 126 = .ok (.aload_n 0, 1) := by decide +kernel
theorem dX6_tellsOne_127 : decode cX6_tellsOne 127 = .ok (.aload_n 1, 1) := by decide +kernel
theorem dX6_tellsOne_128 : decode cX6_tellsOne 128 = .ok (.iload_n 3, 1) := by decide +kernel
theorem dX6_tellsOne_129 : decode cX6_tellsOne 129 = .ok (.iload 4, 2) := by decide +kernel
theorem dX6_tellsOne_131 : decode cX6_tellsOne 131 = .ok (.invokevirtual 94, 3) := by decide +kernel
theorem dX6_tellsOne_134 : decode cX6_tellsOne 134 = .ok (.if_icmp .lt 5, 3) := by decide +kernel
theorem dX6_tellsOne_137 : decode cX6_tellsOne 137 = .ok (.iconst 0, 1) := by decide +kernel
theorem dX6_tellsOne_138 : decode cX6_tellsOne 138 = .ok (.ireturn, 1) := by decide +kernel
theorem dX6_tellsOne_139 : decode cX6_tellsOne 139 = .ok (.aload_n 1, 1) := by decide +kernel
theorem dX6_tellsOne_140 : decode cX6_tellsOne 140 = .ok (.iload_n 3, 1) := by decide +kernel
theorem dX6_tellsOne_141 : decode cX6_tellsOne 141 = .ok (.iload 4, 2) := by decide +kernel
theorem dX6_tellsOne_143 : decode cX6_tellsOne 143 = .ok (.iload_n 2, 1) := by decide +kernel
theorem dX6_tellsOne_144 : decode cX6_tellsOne 144 = .ok (.iload 4, 2) := by decide +kernel
theorem dX6_tellsOne_146 : decode cX6_tellsOne 146 = .ok (.invokevirtual 98, 3) := by decide +kernel
theorem dX6_tellsOne_149 : decode cX6_tellsOne 149 = .ok (.iconst 1, 1) := by decide +kernel
theorem dX6_tellsOne_150 : decode cX6_tellsOne 150 = .ok (.ireturn, 1) := by decide +kernel
theorem dX6_joins_0 : decode cX6_joins 0 = .ok (.aload_n 1, 1) := by decide +kernel
theorem dX6_joins_1 : decode cX6_joins 1 = .ok (.getfield 82, 3) := by decide +kernel
theorem dX6_joins_4 : decode cX6_joins 4 = .ok (.iload_n 3, 1) := by decide +kernel
theorem dX6_joins_5 : decode cX6_joins 5 = .ok (.iaload, 1) := by decide +kernel
theorem dX6_joins_6 : decode cX6_joins 6 = .ok (.aload_n 0, 1) := by decide +kernel
theorem dX6_joins_7 : decode cX6_joins 7 = .ok (.getfield 15, 3) := by decide +kernel
theorem dX6_joins_10 : decode cX6_joins 10 = .ok (.getfield 85, 3) := by decide +kernel
theorem dX6_joins_13 : decode cX6_joins 13 = .ok (.iload 4, 2) := by decide +kernel
theorem dX6_joins_15 : decode cX6_joins 15 = .ok (.iaload, 1) := by decide +kernel
theorem dX6_joins_16 : decode cX6_joins 16 = .ok (.iand, 1) := by decide +kernel
theorem dX6_joins_17 : decode cX6_joins 17 = .ok (.invokestatic 102, 3) := by decide +kernel
theorem dX6_joins_20 : decode cX6_joins 20 = .ok (.istore 5, 2) := by decide +kernel
theorem dX6_joins_22 : decode cX6_joins 22 = .ok (.iload 5, 2) := by decide +kernel
theorem dX6_joins_24 : decode cX6_joins 24 = .ok (.iconst (-1), 1) := by decide +kernel
theorem dX6_joins_25 : decode cX6_joins 25 = .ok (.if_icmp .ne 7, 3) := by decide +kernel
theorem dX6_joins_28 : decode cX6_joins 28 = .ok (.iconst (-1), 1) := by decide +kernel
theorem dX6_joins_29 : decode cX6_joins 29 = .ok (.goto 14, 3) := by decide +kernel
theorem dX6_joins_32 : decode cX6_joins 32 = .ok (.aload_n 0, 1) := by decide +kernel
theorem dX6_joins_33 : decode cX6_joins 33 = .ok (.getfield 15, 3) := by decide +kernel
theorem dX6_joins_36 : decode cX6_joins 36 = .ok (.iload 4, 2) := by decide +kernel
theorem dX6_joins_38 : decode cX6_joins 38 = .ok (.iload 5, 2) := by decide +kernel
theorem dX6_joins_40 : decode cX6_joins 40 = .ok (.invokevirtual 105, 3) := by decide +kernel
theorem dX6_joins_43 : decode cX6_joins 43 = .ok (.istore 6, 2) := by decide +kernel
theorem dX6_joins_45 : decode cX6_joins 45 = .ok (.iload 6, 2) := by decide +kernel
theorem dX6_joins_47 : decode cX6_joins 47 = .ok (.iconst (-1), 1) := by decide +kernel
theorem dX6_joins_48 : decode cX6_joins 48 = .ok (.if_icmp .eq 13, 3) := by decide +kernel
theorem dX6_joins_51 : decode cX6_joins 51 = .ok (.aload_n 1, 1) := by decide +kernel
theorem dX6_joins_52 : decode cX6_joins 52 = .ok (.iload_n 3, 1) := by decide +kernel
theorem dX6_joins_53 : decode cX6_joins 53 = .ok (.iload 6, 2) := by decide +kernel
theorem dX6_joins_55 : decode cX6_joins 55 = .ok (.invokevirtual 69, 3) := by decide +kernel
theorem dX6_joins_58 : decode cX6_joins 58 = .ok (.ifCond .eq 15, 3) := by decide +kernel
theorem dX6_joins_61 : decode cX6_joins 61 = .ok (.aload_n 1, 1) := by decide +kernel
theorem dX6_joins_62 : decode cX6_joins 62 = .ok (.dup, 1) := by decide +kernel
theorem dX6_joins_63 : decode cX6_joins 63 = .ok (.getfield 108, 3) := by decide +kernel
theorem dX6_joins_66 : decode cX6_joins 66 = .ok (.iconst 1, 1) := by decide +kernel
theorem dX6_joins_67 : decode cX6_joins 67 = .ok (.iadd, 1) := by decide +kernel
theorem dX6_joins_68 : decode cX6_joins 68 = .ok (.putfield 108, 3) := by decide +kernel
theorem dX6_joins_71 : decode cX6_joins 71 = .ok (.iconst 0, 1) := by decide +kernel
theorem dX6_joins_72 : decode cX6_joins 72 = .ok (.ireturn, 1) := by decide +kernel
theorem dX6_joins_73 : decode cX6_joins 73 = .ok (.aload_n 1, 1) := by decide +kernel
theorem dX6_joins_74 : decode cX6_joins 74 = .ok (.iload_n 3, 1) := by decide +kernel
theorem dX6_joins_75 : decode cX6_joins 75 = .ok (.iload 6, 2) := by decide +kernel
theorem dX6_joins_77 : decode cX6_joins 77 = .ok (.iload_n 2, 1) := by decide +kernel
theorem dX6_joins_78 : decode cX6_joins 78 = .ok (.iload 4, 2) := by decide +kernel
theorem dX6_joins_80 : decode cX6_joins 80 = .ok (.invokevirtual 98, 3) := by decide +kernel
theorem dX6_joins_83 : decode cX6_joins 83 = .ok (.iconst 1, 1) := by decide +kernel
theorem dX6_joins_84 : decode cX6_joins 84 = .ok (.ireturn, 1) := by decide +kernel
theorem dX6_firstOf_0 : decode cX6_firstOf 0 = .ok (.iconst 0, 1) := by decide +kernel
theorem dX6_firstOf_1 : decode cX6_firstOf 1 = .ok (.istore_n 1, 1) := by decide +kernel
theorem dX6_firstOf_2 : decode cX6_firstOf 2 = .ok (.iload_n 1, 1) := by decide +kernel
theorem dX6_firstOf_3 : decode cX6_firstOf 3 = .ok (.bipush 6, 2) := by decide +kernel
theorem dX6_firstOf_5 : decode cX6_firstOf 5 = .ok (.if_icmp .ge 19, 3) := by decide +kernel
theorem dX6_firstOf_8 : decode cX6_firstOf 8 = .ok (.iload_n 0, 1) := by decide +kernel
theorem dX6_firstOf_9 : decode cX6_firstOf 9 = .ok (.iload_n 1, 1) := by decide +kernel
theorem dX6_firstOf_10 : decode cX6_firstOf 10 = .ok (.ishr, 1) := by decide +kernel
theorem dX6_firstOf_11 : decode cX6_firstOf 11 = .ok (.iconst 1, 1) := by decide +kernel
theorem dX6_firstOf_12 : decode cX6_firstOf 12 = .ok (.iand, 1) := by decide +kernel
theorem dX6_firstOf_13 : decode cX6_firstOf 13 = .ok (.ifCond .eq 5, 3) := by decide +kernel
theorem dX6_firstOf_16 : decode cX6_firstOf 16 = .ok (.iload_n 1, 1) := by decide +kernel
theorem dX6_firstOf_17 : decode cX6_firstOf 17 = .ok (.ireturn, 1) := by decide +kernel
theorem dX6_firstOf_18 : decode cX6_firstOf 18 = .ok (.iinc 1 1, 3) := by decide +kernel
theorem dX6_firstOf_21 : decode cX6_firstOf 21 = .ok (.goto (-19), 3) := by decide +kernel
theorem dX6_firstOf_24 : decode cX6_firstOf 24 = .ok (.iconst (-1), 1) := by decide +kernel
theorem dX6_firstOf_25 : decode cX6_firstOf 25 = .ok (.ireturn, 1) := by decide +kernel
theorem dX6_heedFor_0 : decode cX6_heedFor 0 = .ok (.aload_n 0, 1) := by decide +kernel
theorem dX6_heedFor_1 : decode cX6_heedFor 1 = .ok (.getfield 15, 3) := by decide +kernel
theorem dX6_heedFor_4 : decode cX6_heedFor 4 = .ok (.iload_n 3, 1) := by decide +kernel
theorem dX6_heedFor_5 : decode cX6_heedFor 5 = .ok (.aload_n 1, 1) := by decide +kernel
theorem dX6_heedFor_6 : decode cX6_heedFor 6 = .ok (.getfield 82, 3) := by decide +kernel
theorem dX6_heedFor_9 : decode cX6_heedFor 9 = .ok (.iload_n 2, 1) := by decide +kernel
theorem dX6_heedFor_10 : decode cX6_heedFor 10 = .ok (.iaload, 1) := by decide +kernel
theorem dX6_heedFor_11 : decode cX6_heedFor 11 = .ok (.invokevirtual 111, 3) := by decide +kernel
theorem dX6_heedFor_14 : decode cX6_heedFor 14 = .ok (.ifCond .eq 13, 3) := by decide +kernel
theorem dX6_heedFor_17 : decode cX6_heedFor 17 = .ok (.aload_n 0, 1) := by decide +kernel
theorem dX6_heedFor_18 : decode cX6_heedFor 18 = .ok (.getfield 19, 3) := by decide +kernel
theorem dX6_heedFor_21 : decode cX6_heedFor 21 = .ok (.getfield 114, 3) := by decide +kernel
theorem dX6_heedFor_24 : decode cX6_heedFor 24 = .ok (.goto 4, 3) := by decide +kernel
theorem dX6_heedFor_27 : decode cX6_heedFor 27 = .ok (.iconst 0, 1) := by decide +kernel
theorem dX6_heedFor_28 : decode cX6_heedFor 28 = .ok (.istore 4, 2) := by decide +kernel
theorem dX6_heedFor_30 : decode cX6_heedFor 30 = .ok (.bipush 100, 2) := by decide +kernel
theorem dX6_heedFor_32 : decode cX6_heedFor 32 = .ok (.aload_n 0, 1) := by decide +kernel
theorem dX6_heedFor_33 : decode cX6_heedFor 33 = .ok (.getfield 9, 3) := by decide +kernel
theorem dX6_heedFor_36 : decode cX6_heedFor 36 = .ok (.getfield 117, 3) := by decide +kernel
theorem dX6_heedFor_39 : decode cX6_heedFor 39 = .ok (.iload_n 2, 1) := by decide +kernel
theorem dX6_heedFor_40 : decode cX6_heedFor 40 = .ok (.iaload, 1) := by decide +kernel
theorem dX6_heedFor_41 : decode cX6_heedFor 41 = .ok (.iload 4, 2) := by decide +kernel
theorem dX6_heedFor_43 : decode cX6_heedFor 43 = .ok (.iadd, 1) := by decide +kernel
theorem dX6_heedFor_44 : decode cX6_heedFor 44 = .ok (.invokestatic 120, 3) := by decide +kernel
theorem dX6_heedFor_47 : decode cX6_heedFor 47 = .ok (.ireturn, 1) := by decide +kernel
theorem dX6_post_0 : decode cX6_post 0 = .ok (.iconst 0, 1) := by decide +kernel
theorem dX6_post_1 : decode cX6_post 1 = .ok (.istore 5, 2) := by decide +kernel
theorem dX6_post_3 : decode cX6_post 3 = .ok (.iconst 0, 1) := by decide +kernel
theorem dX6_post_4 : decode cX6_post 4 = .ok (.istore 6, 2) := by decide +kernel
theorem dX6_post_6 : decode cX6_post 6 = .ok (.iload 6, 2) := by decide +kernel
theorem dX6_post_8 : decode cX6_post 8 = .ok (.aload_n 0, 1) := by decide +kernel
theorem dX6_post_9 : decode cX6_post 9 = .ok (.getfield 9, 3) := by decide +kernel
theorem dX6_post_12 : decode cX6_post 12 = .ok (.getfield 27, 3) := by decide +kernel
theorem dX6_post_15 : decode cX6_post 15 = .ok (.if_icmp .ge 78, 3) := by decide +kernel
theorem dX6_post_18 : decode cX6_post 18 = .ok (.aload_n 0, 1) := by decide +kernel
theorem dX6_post_19 : decode cX6_post 19 = .ok (.getfield 9, 3) := by decide +kernel
theorem dX6_post_22 : decode cX6_post 22 = .ok (.getfield 125, 3) := by decide +kernel
theorem dX6_post_25 : decode cX6_post 25 = .ok (.iload 6, 2) := by decide +kernel
theorem dX6_post_27 : decode cX6_post 27 = .ok (.iaload, 1) := by decide +kernel
theorem dX6_post_28 : decode cX6_post 28 = .ok (.iload_n 2, 1) := by decide +kernel
theorem dX6_post_29 : decode cX6_post 29 = .ok (.if_icmp .ne 58, 3) := by decide +kernel
theorem dX6_post_32 : decode cX6_post 32 = .ok (.aload_n 1, 1) := by decide +kernel
theorem dX6_post_33 : decode cX6_post 33 = .ok (.bipush 100, 2) := by decide +kernel
theorem dX6_post_35 : decode cX6_post 35 = .ok (.invokevirtual 55, 3) := by decide +kernel
theorem dX6_post_38 : decode cX6_post 38 = .ok (.iload 4, 2) := by decide +kernel
theorem dX6_post_40 : decode cX6_post 40 = .ok (.if_icmp .ge 47, 3) := by decide +kernel
theorem dX6_post_43 : decode cX6_post 43 = .ok (.aload_n 1, 1) := by decide +kernel
theorem dX6_post_44 : decode cX6_post 44 = .ok (.iload 6, 2) := by decide +kernel
theorem dX6_post_46 : decode cX6_post 46 = .ok (.iload_n 3, 1) := by decide +kernel
theorem dX6_post_47 : decode cX6_post 47 = .ok (.invokevirtual 69, 3) := by decide +kernel
theorem dX6_post_50 : decode cX6_post 50 = .ok (.ifCond .ne 16, 3) := by decide +kernel
theorem dX6_post_53 : decode cX6_post 53 = .ok (.aload_n 1, 1) := by decide +kernel
theorem dX6_post_54 : decode cX6_post 54 = .ok (.iload 6, 2) := by decide +kernel
theorem dX6_post_56 : decode cX6_post 56 = .ok (.iload_n 3, 1) := by decide +kernel
theorem dX6_post_57 : decode cX6_post 57 = .ok (.bipush 24, 2) := by decide +kernel
theorem dX6_post_59 : decode cX6_post 59 = .ok (.iload_n 3, 1) := by decide +kernel
theorem dX6_post_60 : decode cX6_post 60 = .ok (.invokevirtual 98, 3) := by decide +kernel
theorem dX6_post_63 : decode cX6_post 63 = .ok (.iinc 5 1, 3) := by decide +kernel
theorem dX6_post_66 : decode cX6_post 66 = .ok (.aload_n 1, 1) := by decide +kernel
theorem dX6_post_67 : decode cX6_post 67 = .ok (.getfield 33, 3) := by decide +kernel
theorem dX6_post_70 : decode cX6_post 70 = .ok (.iload 6, 2) := by decide +kernel
theorem dX6_post_72 : decode cX6_post 72 = .ok (.dup2, 1) := by decide +kernel
theorem dX6_post_73 : decode cX6_post 73 = .ok (.iaload, 1) := by decide +kernel
theorem dX6_post_74 : decode cX6_post 74 = .ok (.aload_n 0, 1) := by decide +kernel
theorem dX6_post_75 : decode cX6_post 75 = .ok (.getfield 15, 3) := by decide +kernel
theorem dX6_post_78 : decode cX6_post 78 = .ok (.getfield 85, 3) := by decide +kernel
theorem dX6_post_81 : decode cX6_post 81 = .ok (.iload_n 3, 1) := by decide +kernel
theorem dX6_post_82 : decode cX6_post 82 = .ok (.iaload, 1) := by decide +kernel
theorem dX6_post_83 : decode cX6_post 83 = .ok (.iconst (-1), 1) := by decide +kernel
theorem dX6_post_84 : decode cX6_post 84 = .ok (.ixor, 1) := by decide +kernel
theorem dX6_post_85 : decode cX6_post 85 = .ok (.iand, 1) := by decide +kernel
theorem dX6_post_86 : decode cX6_post 86 = .ok (.iastore, 1) := by decide +kernel
theorem dX6_post_87 : decode cX6_post 87 = .ok (.iinc 6 1, 3) := by decide +kernel
theorem dX6_post_90 : decode cX6_post 90 = .ok (.goto (-84), 3) := by decide +kernel
theorem dX6_post_93 : decode cX6_post 93 = .ok (.iload 5, 2) := by decide +kernel
theorem dX6_post_95 : decode cX6_post 95 = .ok (.ireturn, 1) := by decide +kernel
