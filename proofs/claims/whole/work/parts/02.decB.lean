theorem dX7_init_0 : decode cX7_init 0 = .ok (.aload_n 0, 1) := by decide +kernel
theorem dX7_init_1 : decode cX7_init 1 = .ok (.invokespecial 3, 3) := by decide +kernel
theorem dX7_init_4 : decode cX7_init 4 = .ok (.aload_n 0, 1) := by decide +kernel
theorem dX7_init_5 : decode cX7_init 5 = .ok (.sipush 600, 3) := by decide +kernel
theorem dX7_init_8 : decode cX7_init 8 = .ok (.newarray .char, 2) := by decide +kernel
theorem dX7_init_10 : decode cX7_init 10 = .ok (.putfield 9, 3) := by decide +kernel
theorem dX7_init_13 : decode cX7_init 13 = .ok (.aload_n 0, 1) := by decide +kernel
theorem dX7_init_14 : decode cX7_init 14 = .ok (.iconst (-1), 1) := by decide +kernel
theorem dX7_init_15 : decode cX7_init 15 = .ok (.putfield 15, 3) := by decide +kernel
theorem dX7_init_18 : decode cX7_init 18 = .ok (.return_, 1) := by decide +kernel
theorem dX7_append_0 : decode cX7_append 0 = .ok (.aload_n 0, 1) := by decide +kernel
theorem dX7_append_1 : decode cX7_append 1 = .ok (.getfield 19, 3) := by decide +kernel
theorem dX7_append_4 : decode cX7_append 4 = .ok (.sipush 600, 3) := by decide +kernel
theorem dX7_append_7 : decode cX7_append 7 = .ok (.if_icmp .ge 23, 3) := by decide +kernel
theorem dX7_append_10 : decode cX7_append 10 = .ok (.aload_n 0, 1) := by decide +kernel
theorem dX7_append_11 : decode cX7_append 11 = .ok (.getfield 9, 3) := by decide +kernel
theorem dX7_append_14 : decode cX7_append 14 = .ok (.aload_n 0, 1) := by decide +kernel
theorem dX7_append_15 : decode cX7_append 15 = .ok (.getfield 19, 3) := by decide +kernel
theorem dX7_append_18 : decode cX7_append 18 = .ok (.iload_n 1, 1) := by decide +kernel
theorem dX7_append_19 : decode cX7_append 19 = .ok (.castore, 1) := by decide +kernel
theorem dX7_append_20 : decode cX7_append 20 = .ok (.aload_n 0, 1) := by decide +kernel
theorem dX7_append_21 : decode cX7_append 21 = .ok (.dup, 1) := by decide +kernel
theorem dX7_append_22 : decode cX7_append 22 = .ok (.getfield 19, 3) := by decide +kernel
theorem dX7_append_25 : decode cX7_append 25 = .ok (.iconst 1, 1) := by decide +kernel
theorem dX7_append_26 : decode cX7_append 26 = .ok (.iadd, 1) := by decide +kernel
theorem dX7_append_27 : decode cX7_append 27 = .ok (.putfield 19, 3) := by decide +kernel
theorem dX7_append_30 : decode cX7_append 30 = .ok (.return_, 1) := by decide +kernel
theorem dX7_open_0 : decode cX7_open 0 = .ok (.aload_n 0, 1) := by decide +kernel
theorem dX7_open_1 : decode cX7_open 1 = .ok (.iconst 0, 1) := by decide +kernel
theorem dX7_open_2 : decode cX7_open 2 = .ok (.putfield 22, 3) := by decide +kernel
theorem dX7_open_5 : decode cX7_open 5 = .ok (.aload_n 0, 1) := by decide +kernel
theorem dX7_open_6 : decode cX7_open 6 = .ok (.iconst (-1), 1) := by decide +kernel
theorem dX7_open_7 : decode cX7_open 7 = .ok (.putfield 15, 3) := by decide +kernel
theorem dX7_open_10 : decode cX7_open 10 = .ok (.aload_n 0, 1) := by decide +kernel
theorem dX7_open_11 : decode cX7_open 11 = .ok (.iconst 0, 1) := by decide +kernel
theorem dX7_open_12 : decode cX7_open 12 = .ok (.putfield 25, 3) := by decide +kernel
theorem dX7_open_15 : decode cX7_open 15 = .ok (.aload_n 0, 1) := by decide +kernel
theorem dX7_open_16 : decode cX7_open 16 = .ok (.invokevirtual 28, 3) := by decide +kernel
theorem dX7_open_19 : decode cX7_open 19 = .ok (.return_, 1) := by decide +kernel
theorem dX7_goesOn_0 : decode cX7_goesOn 0 = .ok (.aload_n 0, 1) := by decide +kernel
theorem dX7_goesOn_1 : decode cX7_goesOn 1 = .ok (.getfield 22, 3) := by decide +kernel
theorem dX7_goesOn_4 : decode cX7_goesOn 4 = .ok (.ifCond .ne 14, 3) := by decide +kernel
theorem dX7_goesOn_7 : decode cX7_goesOn 7 = .ok (.aload_n 0, 1) := by decide +kernel
theorem dX7_goesOn_8 : decode cX7_goesOn 8 = .ok (.getfield 31, 3) := by decide +kernel
theorem dX7_goesOn_11 : decode cX7_goesOn 11 = .ok (.ifCond .eq 7, 3) := by decide +kernel
theorem dX7_goesOn_14 : decode cX7_goesOn 14 = .ok (.iconst 1, 1) := by decide +kernel
theorem dX7_goesOn_15 : decode cX7_goesOn 15 = .ok (.goto 4, 3) := by decide +kernel
theorem dX7_goesOn_18 : decode cX7_goesOn 18 = .ok (.iconst 0, 1) := by decide +kernel
theorem dX7_goesOn_19 : decode cX7_goesOn 19 = .ok (.ireturn, 1) := by decide +kernel
theorem dX7_blame_0 : decode cX7_blame 0 = .ok (.aload_n 0, 1) := by decide +kernel
theorem dX7_blame_1 : decode cX7_blame 1 = .ok (.getfield 22, 3) := by decide +kernel
theorem dX7_blame_4 : decode cX7_blame 4 = .ok (.ifCond .ne 16, 3) := by decide +kernel
theorem dX7_blame_7 : decode cX7_blame 7 = .ok (.aload_n 0, 1) := by decide +kernel
theorem dX7_blame_8 : decode cX7_blame 8 = .ok (.iload_n 1, 1) := by decide +kernel
theorem dX7_blame_9 : decode cX7_blame 9 = .ok (.putfield 22, 3) := by decide +kernel
theorem dX7_blame_12 : decode cX7_blame 12 = .ok (.aload_n 0, 1) := by decide +kernel
theorem dX7_blame_13 : decode cX7_blame 13 = .ok (.aload_n 0, 1) := by decide +kernel
theorem dX7_blame_14 : decode cX7_blame 14 = .ok (.getfield 34, 3) := by decide +kernel
theorem dX7_blame_17 : decode cX7_blame 17 = .ok (.putfield 15, 3) := by decide +kernel
theorem dX7_blame_20 : decode cX7_blame 20 = .ok (.return_, 1) := by decide +kernel
theorem dX7_step_0 : decode cX7_step 0 = .ok (.aload_n 0, 1) := by decide +kernel
theorem dX7_step_1 : decode cX7_step 1 = .ok (.getfield 22, 3) := by decide +kernel
theorem dX7_step_4 : decode cX7_step 4 = .ok (.ifCond .eq 4, 3) := by decide +kernel
theorem dX7_step_7 : decode cX7_step 7 = .ok (.return_, 1) := by decide +kernel
theorem dX7_step_8 : decode cX7_step 8 = .ok (.aload_n 0, 1) := by decide +kernel
theorem dX7_step_9 : decode cX7_step 9 = .ok (.aload_n 0, 1) := by decide +kernel
theorem dX7_step_10 : decode cX7_step 10 = .ok (.getfield 25, 3) := by decide +kernel
theorem dX7_step_13 : decode cX7_step 13 = .ok (.putfield 34, 3) := by decide +kernel
theorem dX7_step_16 : decode cX7_step 16 = .ok (.aload_n 0, 1) := by decide +kernel
theorem dX7_step_17 : decode cX7_step 17 = .ok (.getfield 34, 3) := by decide +kernel
theorem dX7_step_20 : decode cX7_step 20 = .ok (.aload_n 0, 1) := by decide +kernel
theorem dX7_step_21 : decode cX7_step 21 = .ok (.getfield 19, 3) := by decide +kernel
theorem dX7_step_24 : decode cX7_step 24 = .ok (.if_icmp .ge 30, 3) := by decide +kernel
theorem dX7_step_27 : decode cX7_step 27 = .ok (.aload_n 0, 1) := by decide +kernel
theorem dX7_step_28 : decode cX7_step 28 = .ok (.getfield 9, 3) := by decide +kernel
theorem dX7_step_31 : decode cX7_step 31 = .ok (.aload_n 0, 1) := by decide +kernel
theorem dX7_step_32 : decode cX7_step 32 = .ok (.getfield 34, 3) := by decide +kernel
theorem dX7_step_35 : decode cX7_step 35 = .ok (.caload, 1) := by decide +kernel
theorem dX7_step_36 : decode cX7_step 36 = .ok (.bipush 32, 2) := by decide +kernel
theorem dX7_step_38 : decode cX7_step 38 = .ok (.if_icmp .ne 16, 3) := by decide +kernel
theorem dX7_step_41 : decode cX7_step 41 = .ok (.aload_n 0, 1) := by decide +kernel
theorem dX7_step_42 : decode cX7_step 42 = .ok (.dup, 1) := by decide +kernel
theorem dX7_step_43 : decode cX7_step 43 = .ok (.getfield 34, 3) := by decide +kernel
theorem dX7_step_46 : decode cX7_step 46 = .ok (.iconst 1, 1) := by decide +kernel
theorem dX7_step_47 : decode cX7_step 47 = .ok (.iadd, 1) := by decide +kernel
theorem dX7_step_48 : decode cX7_step 48 = .ok (.putfield 34, 3) := by decide +kernel
theorem dX7_step_51 : decode cX7_step 51 = .ok (.goto (-35), 3) := by decide +kernel
theorem dX7_step_54 : decode cX7_step 54 = .ok (.aload_n 0, 1) := by decide +kernel
theorem dX7_step_55 : decode cX7_step 55 = .ok (.aload_n 0, 1) := by decide +kernel
theorem dX7_step_56 : decode cX7_step 56 = .ok (.getfield 34, 3) := by decide +kernel
theorem dX7_step_59 : decode cX7_step 59 = .ok (.putfield 25, 3) := by decide +kernel
theorem dX7_step_62 : decode cX7_step 62 = .ok (.aload_n 0, 1) := by decide +kernel
theorem dX7_step_63 : decode cX7_step 63 = .ok (.getfield 34, 3) := by decide +kernel
theorem dX7_step_66 : decode cX7_step 66 = .ok (.aload_n 0, 1) := by decide +kernel
theorem dX7_step_67 : decode cX7_step 67 = .ok (.getfield 19, 3) := by decide +kernel
theorem dX7_step_70 : decode cX7_step 70 = .ok (.if_icmp .lt 11, 3) := by decide +kernel
theorem dX7_step_73 : decode cX7_step 73 = .ok (.aload_n 0, 1) := by decide +kernel
theorem dX7_step_74 : decode cX7_step 74 = .ok (.iconst 0, 1) := by decide +kernel
theorem dX7_step_75 : decode cX7_step 75 = .ok (.putfield 31, 3) := by decide +kernel
theorem dX7_step_78 : decode cX7_step 78 = .ok (.goto 92, 3) := by decide +kernel
theorem dX7_step_81 : decode cX7_step 81 = .ok (.aload_n 0, 1) := by decide +kernel
theorem dX7_step_82 : decode cX7_step 82 = .ok (.aload_n 0, 1) := by decide +kernel
theorem dX7_step_83 : decode cX7_step 83 = .ok (.getfield 34, 3) := by decide +kernel
theorem dX7_step_86 : decode cX7_step 86 = .ok (.invokevirtual 37, 3) := by decide +kernel
theorem dX7_step_89 : decode cX7_step 89 = .ok (.ifCond .eq 43, 3) := by decide +kernel
theorem dX7_step_92 : decode cX7_step 92 = .ok (.aload_n 0, 1) := by decide +kernel
theorem dX7_step_93 : decode cX7_step 93 = .ok (.iconst 1, 1) := by decide +kernel
theorem dX7_step_94 : decode cX7_step 94 = .ok (.putfield 31, 3) := by decide +kernel
theorem dX7_step_97 : decode cX7_step 97 = .ok (.aload_n 0, 1) := by decide +kernel
theorem dX7_step_98 : decode cX7_step 98 = .ok (.getfield 25, 3) := by decide +kernel
theorem dX7_step_101 : decode cX7_step 101 = .ok (.aload_n 0, 1) := by decide +kernel
theorem dX7_step_102 : decode cX7_step 102 = .ok (.getfield 19, 3) := by decide +kernel
theorem dX7_step_105 : decode cX7_step 105 = .ok (.if_icmp .ge 65, 3) := by decide +kernel
theorem dX7_step_108 : decode cX7_step 108 = .ok (.aload_n 0, 1) := by decide +kernel
theorem dX7_step_109 : decode cX7_step 109 = .ok (.aload_n 0, 1) := by decide +kernel
theorem dX7_step_110 : decode cX7_step 110 = .ok (.getfield 25, 3) := by decide +kernel
theorem dX7_step_113 : decode cX7_step 113 = .ok (.invokevirtual 37, 3) := by decide +kernel
theorem dX7_step_116 : decode cX7_step 116 = .ok (.ifCond .eq 54, 3) := by decide +kernel
theorem dX7_step_119 : decode cX7_step 119 = .ok (.aload_n 0, 1) := by decide +kernel
theorem dX7_step_120 : decode cX7_step 120 = .ok (.dup, 1) := by decide +kernel
theorem dX7_step_121 : decode cX7_step 121 = .ok (.getfield 25, 3) := by decide +kernel
theorem dX7_step_124 : decode cX7_step 124 = .ok (.iconst 1, 1) := by decide +kernel
theorem dX7_step_125 : decode cX7_step 125 = .ok (.iadd, 1) := by decide +kernel
theorem dX7_step_126 : decode cX7_step 126 = .ok (.putfield 25, 3) := by decide +kernel
theorem dX7_step_129 : decode cX7_step 129 = .ok (.goto (-32), 3) := by decide +kernel
theorem dX7_step_132 : decode cX7_step 132 = .ok (.aload_n 0, 1) := by decide +kernel
theorem dX7_step_133 : decode cX7_step 133 = .ok (.aload_n 0, 1) := by decide +kernel
theorem dX7_step_134 : decode cX7_step 134 = .ok (.getfield 34, 3) := by decide +kernel
theorem dX7_step_137 : decode cX7_step 137 = .ok (.invokevirtual 41, 3) := by decide +kernel
theorem dX7_step_140 : decode cX7_step 140 = .ok (.ifCond .eq 15, 3) := by decide +kernel
theorem dX7_step_143 : decode cX7_step 143 = .ok (.aload_n 0, 1) := by decide +kernel
theorem dX7_step_144 : decode cX7_step 144 = .ok (.iconst 2, 1) := by decide +kernel
theorem dX7_step_145 : decode cX7_step 145 = .ok (.putfield 31, 3) := by decide +kernel
theorem dX7_step_148 : decode cX7_step 148 = .ok (.aload_n 0, 1) := by decide +kernel
theorem dX7_step_149 : decode cX7_step 149 = .ok (.invokevirtual 44, 3) := by decide +kernel
theorem dX7_step_152 : decode cX7_step 152 = .ok (.goto 18, 3) := by decide +kernel
theorem dX7_step_155 : decode cX7_step 155 = .ok (.aload_n 0, 1) := by decide +kernel
theorem dX7_step_156 : decode cX7_step 156 = .ok (.iconst 3, 1) := by decide +kernel
theorem dX7_step_157 : decode cX7_step 157 = .ok (.putfield 31, 3) := by decide +kernel
theorem dX7_step_160 : decode cX7_step 160 = .ok (.aload_n 0, 1) := by decide +kernel
theorem dX7_step_161 : decode cX7_step 161 = .ok (.dup, 1) := by decide +kernel
theorem dX7_step_162 : decode cX7_step 162 = .ok (.getfield 25, 3) := by decide +kernel
theorem dX7_step_165 : decode cX7_step 165 = .ok (.iconst 1, 1) := by decide +kernel
theorem dX7_step_166 : decode cX7_step 166 = .ok (.iadd, 1) := by decide +kernel
theorem dX7_step_167 : decode cX7_step 167 = .ok (.putfield 25, 3) := by decide +kernel
theorem dX7_step_170 : decode cX7_step 170 = .ok (.return_, 1) := by decide +kernel
theorem dX7_readFigures_0 : decode cX7_readFigures 0 = .ok (.aload_n 0, 1) := by decide +kernel
theorem dX7_readFigures_1 : decode cX7_readFigures 1 = .ok (.iconst 0, 1) := by decide +kernel
theorem dX7_readFigures_2 : decode cX7_readFigures 2 = .ok (.putfield 47, 3) := by decide +kernel
theorem dX7_readFigures_5 : decode cX7_readFigures 5 = .ok (.aload_n 0, 1) := by decide +kernel
theorem dX7_readFigures_6 : decode cX7_readFigures 6 = .ok (.getfield 25, 3) := by decide +kernel
theorem dX7_readFigures_9 : decode cX7_readFigures 9 = .ok (.aload_n 0, 1) := by decide +kernel
theorem dX7_readFigures_10 : decode cX7_readFigures 10 = .ok (.getfield 19, 3) := by decide +kernel
theorem dX7_readFigures_13 : decode cX7_readFigures 13 = .ok (.if_icmp .ge 81, 3) := by decide +kernel
theorem dX7_readFigures_16 : decode cX7_readFigures 16 = .ok (.aload_n 0, 1) := by decide +kernel
theorem dX7_readFigures_17 : decode cX7_readFigures 17 = .ok (.getfield 9, 3) := by decide +kernel
theorem dX7_readFigures_20 : decode cX7_readFigures 20 = .ok (.aload_n 0, 1) := by decide +kernel
theorem dX7_readFigures_21 : decode cX7_readFigures 21 = .ok (.getfield 25, 3) := by decide +kernel
theorem dX7_readFigures_24 : decode cX7_readFigures 24 = .ok (.caload, 1) := by decide +kernel
theorem dX7_readFigures_25 : decode cX7_readFigures 25 = .ok (.bipush 48, 2) := by decide +kernel
theorem dX7_readFigures_27 : decode cX7_readFigures 27 = .ok (.if_icmp .lt 67, 3) := by decide +kernel
theorem dX7_readFigures_30 : decode cX7_readFigures 30 = .ok (.aload_n 0, 1) := by decide +kernel
theorem dX7_readFigures_31 : decode cX7_readFigures 31 = .ok (.getfield 9, 3) := by decide +kernel
theorem dX7_readFigures_34 : decode cX7_readFigures 34 = .ok (.aload_n 0, 1) := by decide +kernel
theorem dX7_readFigures_35 : decode cX7_readFigures 35 = .ok (.getfield 25, 3) := by decide +kernel
theorem dX7_readFigures_38 : decode cX7_readFigures 38 = .ok (.caload, 1) := by decide +kernel
theorem dX7_readFigures_39 : decode cX7_readFigures 39 = .ok (.bipush 57, 2) := by decide +kernel
theorem dX7_readFigures_41 : decode cX7_readFigures 41 = .ok (.if_icmp .gt 53, 3) := by decide +kernel
theorem dX7_readFigures_44 : decode cX7_readFigures 44 = .ok (.aload_n 0, 1) := by decide +kernel
theorem dX7_readFigures_45 : decode cX7_readFigures 45 = .ok (.getfield 25, 3) := by decide +kernel
theorem dX7_readFigures_48 : decode cX7_readFigures 48 = .ok (.aload_n 0, 1) := by decide +kernel
theorem dX7_readFigures_49 : decode cX7_readFigures 49 = .ok (.getfield 34, 3) := by decide +kernel
theorem dX7_readFigures_52 : decode cX7_readFigures 52 = .ok (.isub, 1) := by decide +kernel
theorem dX7_readFigures_53 : decode cX7_readFigures 53 = .ok (.iconst 3, 1) := by decide +kernel
theorem dX7_readFigures_54 : decode cX7_readFigures 54 = .ok (.if_icmp .ge 27, 3) := by decide +kernel
theorem dX7_readFigures_57 : decode cX7_readFigures 57 = .ok (.aload_n 0, 1) := by decide +kernel
theorem dX7_readFigures_58 : decode cX7_readFigures 58 = .ok (.aload_n 0, 1) := by decide +kernel
theorem dX7_readFigures_59 : decode cX7_readFigures 59 = .ok (.getfield 47, 3) := by decide +kernel
theorem dX7_readFigures_62 : decode cX7_readFigures 62 = .ok (.bipush 10, 2) := by decide +kernel
theorem dX7_readFigures_64 : decode cX7_readFigures 64 = .ok (.imul, 1) := by decide +kernel
theorem dX7_readFigures_65 : decode cX7_readFigures 65 = .ok (.aload_n 0, 1) := by decide +kernel
theorem dX7_readFigures_66 : decode cX7_readFigures 66 = .ok (.getfield 9, 3) := by decide +kernel
theorem dX7_readFigures_69 : decode cX7_readFigures 69 = .ok (.aload_n 0, 1) := by decide +kernel
theorem dX7_readFigures_70 : decode cX7_readFigures 70 = .ok (.getfield 25, 3) := by decide +kernel
theorem dX7_readFigures_73 : decode cX7_readFigures 73 = .ok (.caload, 1) := by decide +kernel
theorem dX7_readFigures_74 : decode cX7_readFigures 74 = .ok (.bipush 48, 2) := by decide +kernel
theorem dX7_readFigures_76 : decode cX7_readFigures 76 = .ok (.isub, 1) := by decide +kernel
theorem dX7_readFigures_77 : decode cX7_readFigures 77 = .ok (.iadd, 1) := by decide +kernel
theorem dX7_readFigures_78 : decode cX7_readFigures 78 = .ok (.putfield 47, 3) := by decide +kernel
theorem dX7_readFigures_81 : decode cX7_readFigures 81 = .ok (.aload_n 0, 1) := by decide +kernel
theorem dX7_readFigures_82 : decode cX7_readFigures 82 = .ok (.dup, 1) := by decide +kernel
theorem dX7_readFigures_83 : decode cX7_readFigures 83 = .ok (.getfield 25, 3) := by decide +kernel
theorem dX7_readFigures_86 : decode cX7_readFigures 86 = .ok (.iconst 1, 1) := by decide +kernel
theorem dX7_readFigures_87 : decode cX7_readFigures 87 = .ok (.iadd, 1) := by decide +kernel
theorem dX7_readFigures_88 : decode cX7_readFigures 88 = .ok (.putfield 25, 3) := by decide +kernel
theorem dX7_readFigures_91 : decode cX7_readFigures 91 = .ok (.goto (-86), 3) := by decide +kernel
theorem dX7_readFigures_94 : decode cX7_readFigures 94 = .ok (.return_, 1) := by decide +kernel
theorem dX7_isLetter_0 : decode cX7_isLetter 0 = .ok (.iload_n 1, 1) := by decide +kernel
theorem dX7_isLetter_1 : decode cX7_isLetter 1 = .ok (.aload_n 0, 1) := by decide +kernel
theorem dX7_isLetter_2 : decode cX7_isLetter 2 = .ok (.getfield 19, 3) := by decide +kernel
theorem dX7_isLetter_5 : decode cX7_isLetter 5 = .ok (.if_icmp .ge 29, 3) := by decide +kernel
theorem dX7_isLetter_8 : decode cX7_isLetter 8 = .ok (.aload_n 0, 1) := by decide +kernel
theorem dX7_isLetter_9 : decode cX7_isLetter 9 = .ok (.getfield 9, 3) := by decide +kernel
theorem dX7_isLetter_12 : decode cX7_isLetter 12 = .ok (.iload_n 1, 1) := by decide +kernel
theorem dX7_isLetter_13 : decode cX7_isLetter 13 = .ok (.caload, 1) := by decide +kernel
theorem dX7_isLetter_14 : decode cX7_isLetter 14 = .ok (.bipush 97, 2) := by decide +kernel
theorem dX7_isLetter_16 : decode cX7_isLetter 16 = .ok (.if_icmp .lt 18, 3) := by decide +kernel
theorem dX7_isLetter_19 : decode cX7_isLetter 19 = .ok (.aload_n 0, 1) := by decide +kernel
theorem dX7_isLetter_20 : decode cX7_isLetter 20 = .ok (.getfield 9, 3) := by decide +kernel
theorem dX7_isLetter_23 : decode cX7_isLetter 23 = .ok (.iload_n 1, 1) := by decide +kernel
theorem dX7_isLetter_24 : decode cX7_isLetter 24 = .ok (.caload, 1) := by decide +kernel
theorem dX7_isLetter_25 : decode cX7_isLetter 25 = .ok (.bipush 122, 2) := by decide +kernel
theorem dX7_isLetter_27 : decode cX7_isLetter 27 = .ok (.if_icmp .gt 7, 3) := by decide +kernel
theorem dX7_isLetter_30 : decode cX7_isLetter 30 = .ok (.iconst 1, 1) := by decide +kernel
theorem dX7_isLetter_31 : decode cX7_isLetter 31 = .ok (.goto 4, 3) := by decide +kernel
theorem dX7_isLetter_34 : decode cX7_isLetter 34 = .ok (.iconst 0, 1) := by decide +kernel
theorem dX7_isLetter_35 : decode cX7_isLetter 35 = .ok (.ireturn, 1) := by decide +kernel
theorem dX7_isFigure_0 : decode cX7_isFigure 0 = .ok (.iload_n 1, 1) := by decide +kernel
theorem dX7_isFigure_1 : decode cX7_isFigure 1 = .ok (.aload_n 0, 1) := by decide +kernel
theorem dX7_isFigure_2 : decode cX7_isFigure 2 = .ok (.getfield 19, 3) := by decide +kernel
theorem dX7_isFigure_5 : decode cX7_isFigure 5 = .ok (.if_icmp .ge 29, 3) := by decide +kernel
theorem dX7_isFigure_8 : decode cX7_isFigure 8 = .ok (.aload_n 0, 1) := by decide +kernel
theorem dX7_isFigure_9 : decode cX7_isFigure 9 = .ok (.getfield 9, 3) := by decide +kernel
theorem dX7_isFigure_12 : decode cX7_isFigure 12 = .ok (.iload_n 1, 1) := by decide +kernel
theorem dX7_isFigure_13 : decode cX7_isFigure 13 = .ok (.caload, 1) := by decide +kernel
theorem dX7_isFigure_14 : decode cX7_isFigure 14 = .ok (.bipush 48, 2) := by decide +kernel
theorem dX7_isFigure_16 : decode cX7_isFigure 16 = .ok (.if_icmp .lt 18, 3) := by decide +kernel
theorem dX7_isFigure_19 : decode cX7_isFigure 19 = .ok (.aload_n 0, 1) := by decide +kernel
theorem dX7_isFigure_20 : decode cX7_isFigure 20 = .ok (.getfield 9, 3) := by decide +kernel
theorem dX7_isFigure_23 : decode cX7_isFigure 23 = .ok (.iload_n 1, 1) := by decide +kernel
theorem dX7_isFigure_24 : decode cX7_isFigure 24 = .ok (.caload, 1) := by decide +kernel
theorem dX7_isFigure_25 : decode cX7_isFigure 25 = .ok (.bipush 57, 2) := by decide +kernel
theorem dX7_isFigure_27 : decode cX7_isFigure 27 = .ok (.if_icmp .gt 7, 3) := by decide +kernel
theorem dX7_isFigure_30 : decode cX7_isFigure 30 = .ok (.iconst 1, 1) := by decide +kernel
theorem dX7_isFigure_31 : decode cX7_isFigure 31 = .ok (.goto 4, 3) := by decide +kernel
theorem dX7_isFigure_34 : decode cX7_isFigure 34 = .ok (.iconst 0, 1) := by decide +kernel
theorem dX7_isFigure_35 : decode cX7_isFigure 35 = .ok (.ireturn, 1) := by decide +kernel
theorem dX7_isWord_0 : decode cX7_isWord 0 = .ok (.aload_n 0, 1) := by decide +kernel
theorem dX7_isWord_1 : decode cX7_isWord 1 = .ok (.getfield 22, 3) := by decide +kernel
theorem dX7_isWord_4 : decode cX7_isWord 4 = .ok (.ifCond .ne 27, 3) := by decide +kernel
theorem dX7_isWord_7 : decode cX7_isWord 7 = .ok (.aload_n 0, 1) := by decide +kernel
theorem dX7_isWord_8 : decode cX7_isWord 8 = .ok (.getfield 31, 3) := by decide +kernel
theorem dX7_isWord_11 : decode cX7_isWord 11 = .ok (.iconst 1, 1) := by decide +kernel
theorem dX7_isWord_12 : decode cX7_isWord 12 = .ok (.if_icmp .ne 19, 3) := by decide +kernel
theorem dX7_isWord_15 : decode cX7_isWord 15 = .ok (.aload_n 0, 1) := by decide +kernel
theorem dX7_isWord_16 : decode cX7_isWord 16 = .ok (.getfield 25, 3) := by decide +kernel
theorem dX7_isWord_19 : decode cX7_isWord 19 = .ok (.aload_n 0, 1) := by decide +kernel
theorem dX7_isWord_20 : decode cX7_isWord 20 = .ok (.getfield 34, 3) := by decide +kernel
theorem dX7_isWord_23 : decode cX7_isWord 23 = .ok (.isub, 1) := by decide +kernel
theorem dX7_isWord_24 : decode cX7_isWord 24 = .ok (.aload_n 1, 1) := by decide +kernel
theorem dX7_isWord_25 : decode cX7_isWord 25 = .ok (.invokevirtual 50, 3) := by decide +kernel
theorem dX7_isWord_28 : decode cX7_isWord 28 = .ok (.if_icmp .eq 5, 3) := by decide +kernel
theorem dX7_isWord_31 : decode cX7_isWord 31 = .ok (.iconst 0, 1) := by decide +kernel
theorem dX7_isWord_32 : decode cX7_isWord 32 = .ok (.ireturn, 1) := by decide +kernel
theorem dX7_isWord_33 : decode cX7_isWord 33 = .ok (.iconst 0, 1) := by decide +kernel
theorem dX7_isWord_34 : decode cX7_isWord 34 = .ok (.istore_n 2, 1) := by decide +kernel
theorem dX7_isWord_35 : decode cX7_isWord 35 = .ok (.iload_n 2, 1) := by decide +kernel
theorem dX7_isWord_36 : decode cX7_isWord 36 = .ok (.aload_n 1, 1) := by decide +kernel
theorem dX7_isWord_37 : decode cX7_isWord 37 = .ok (.invokevirtual 50, 3) := by decide +kernel
theorem dX7_isWord_40 : decode cX7_isWord 40 = .ok (.if_icmp .ge 30, 3) := by decide +kernel
theorem dX7_isWord_43 : decode cX7_isWord 43 = .ok (.aload_n 0, 1) := by decide +kernel
theorem dX7_isWord_44 : decode cX7_isWord 44 = .ok (.getfield 9, 3) := by decide +kernel
theorem dX7_isWord_47 : decode cX7_isWord 47 = .ok (.aload_n 0, 1) := by decide +kernel
theorem dX7_isWord_48 : decode cX7_isWord 48 = .ok (.getfield 34, 3) := by decide +kernel
theorem dX7_isWord_51 : decode cX7_isWord 51 = .ok (.iload_n 2, 1) := by decide +kernel
theorem dX7_isWord_52 : decode cX7_isWord 52 = .ok (.iadd, 1) := by decide +kernel
theorem dX7_isWord_53 : decode cX7_isWord 53 = .ok (.caload, 1) := by decide +kernel
theorem dX7_isWord_54 : decode cX7_isWord 54 = .ok (.aload_n 1, 1) := by decide +kernel
theorem dX7_isWord_55 : decode cX7_isWord 55 = .ok (.iload_n 2, 1) := by decide +kernel
theorem dX7_isWord_56 : decode cX7_isWord 56 = .ok (.invokevirtual 55, 3) := by decide +kernel
theorem dX7_isWord_59 : decode cX7_isWord 59 = .ok (.if_icmp .eq 5, 3) := by decide +kernel
theorem dX7_isWord_62 : decode cX7_isWord 62 = .ok (.iconst 0, 1) := by decide +kernel
theorem dX7_isWord_63 : decode cX7_isWord 63 = .ok (.ireturn, 1) := by decide +kernel
theorem dX7_isWord_64 : decode cX7_isWord 64 = .ok (.iinc 2 1, 3) := by decide +kernel
theorem dX7_isWord_67 : decode cX7_isWord 67 = .ok (.goto (-32), 3) := by decide +kernel
theorem dX7_isWord_70 : decode cX7_isWord 70 = .ok (.iconst 1, 1) := by decide +kernel
theorem dX7_isWord_71 : decode cX7_isWord 71 = .ok (.ireturn, 1) := by decide +kernel
theorem dX7_isSign_0 : decode cX7_isSign 0 = .ok (.aload_n 0, 1) := by decide +kernel
theorem dX7_isSign_1 : decode cX7_isSign 1 = .ok (.getfield 22, 3) := by decide +kernel
theorem dX7_isSign_4 : decode cX7_isSign 4 = .ok (.ifCond .ne 28, 3) := by decide +kernel
theorem dX7_isSign_7 : decode cX7_isSign 7 = .ok (.aload_n 0, 1) := by decide +kernel
theorem dX7_isSign_8 : decode cX7_isSign 8 = .ok (.getfield 31, 3) := by decide +kernel
theorem dX7_isSign_11 : decode cX7_isSign 11 = .ok (.iconst 3, 1) := by decide +kernel
theorem dX7_isSign_12 : decode cX7_isSign 12 = .ok (.if_icmp .ne 20, 3) := by decide +kernel
theorem dX7_isSign_15 : decode cX7_isSign 15 = .ok (.aload_n 0, 1) := by decide +kernel
theorem dX7_isSign_16 : decode cX7_isSign 16 = .ok (.getfield 9, 3) := by decide +kernel
theorem dX7_isSign_19 : decode cX7_isSign 19 = .ok (.aload_n 0, 1) := by decide +kernel
theorem dX7_isSign_20 : decode cX7_isSign 20 = .ok (.getfield 34, 3) := by decide +kernel
theorem dX7_isSign_23 : decode cX7_isSign 23 = .ok (.caload, 1) := by decide +kernel
theorem dX7_isSign_24 : decode cX7_isSign 24 = .ok (.iload_n 1, 1) := by decide +kernel
theorem dX7_isSign_25 : decode cX7_isSign 25 = .ok (.if_icmp .ne 7, 3) := by decide +kernel
theorem dX7_isSign_28 : decode cX7_isSign 28 = .ok (.iconst 1, 1) := by decide +kernel
theorem dX7_isSign_29 : decode cX7_isSign 29 = .ok (.goto 4, 3) := by decide +kernel
theorem dX7_isSign_32 : decode cX7_isSign 32 = .ok (.iconst 0, 1) := by decide +kernel
theorem dX7_isSign_33 : decode cX7_isSign 33 = .ok (.ireturn, 1) := by decide +kernel
theorem dX7_skipWord_0 : decode cX7_skipWord 0 = .ok (.aload_n 0, 1) := by decide +kernel
theorem dX7_skipWord_1 : decode cX7_skipWord 1 = .ok (.aload_n 1, 1) := by decide +kernel
theorem dX7_skipWord_2 : decode cX7_skipWord 2 = .ok (.invokevirtual 59, 3) := by decide +kernel
theorem dX7_skipWord_5 : decode cX7_skipWord 5 = .ok (.istore_n 2, 1) := by decide +kernel
theorem dX7_skipWord_6 : decode cX7_skipWord 6 = .ok (.iload_n 2, 1) := by decide +kernel
theorem dX7_skipWord_7 : decode cX7_skipWord 7 = .ok (.ifCond .eq 7, 3) := by decide +kernel
theorem dX7_skipWord_10 : decode cX7_skipWord 10 = .ok (.aload_n 0, 1) := by decide +kernel
theorem dX7_skipWord_11 : decode cX7_skipWord 11 = .ok (.invokevirtual 28, 3) := by decide +kernel
theorem dX7_skipWord_14 : decode cX7_skipWord 14 = .ok (.iload_n 2, 1) := by decide +kernel
theorem dX7_skipWord_15 : decode cX7_skipWord 15 = .ok (.ireturn, 1) := by decide +kernel
theorem dX7_lookNumber_0 : decode cX7_lookNumber 0 = .ok (.aload_n 0, 1) := by decide +kernel
theorem dX7_lookNumber_1 : decode cX7_lookNumber 1 = .ok (.getfield 31, 3) := by decide +kernel
theorem dX7_lookNumber_4 : decode cX7_lookNumber 4 = .ok (.iconst 2, 1) := by decide +kernel
theorem dX7_lookNumber_5 : decode cX7_lookNumber 5 = .ok (.if_icmp .eq 11, 3) := by decide +kernel
theorem dX7_lookNumber_8 : decode cX7_lookNumber 8 = .ok (.aload_n 0, 1) := by decide +kernel
theorem dX7_lookNumber_9 : decode cX7_lookNumber 9 = .ok (.iconst 1, 1) := by decide +kernel
theorem dX7_lookNumber_10 : decode cX7_lookNumber 10 = .ok (.invokevirtual 63, 3) := by decide +kernel
theorem dX7_lookNumber_13 : decode cX7_lookNumber 13 = .ok (.goto 37, 3) := by decide +kernel
theorem dX7_lookNumber_16 : decode cX7_lookNumber 16 = .ok (.aload_n 0, 1) := by decide +kernel
theorem dX7_lookNumber_17 : decode cX7_lookNumber 17 = .ok (.getfield 25, 3) := by decide +kernel
theorem dX7_lookNumber_20 : decode cX7_lookNumber 20 = .ok (.aload_n 0, 1) := by decide +kernel
theorem dX7_lookNumber_21 : decode cX7_lookNumber 21 = .ok (.getfield 34, 3) := by decide +kernel
theorem dX7_lookNumber_24 : decode cX7_lookNumber 24 = .ok (.isub, 1) := by decide +kernel
theorem dX7_lookNumber_25 : decode cX7_lookNumber 25 = .ok (.iconst 3, 1) := by decide +kernel
theorem dX7_lookNumber_26 : decode cX7_lookNumber 26 = .ok (.if_icmp .gt 19, 3) := by decide +kernel
theorem dX7_lookNumber_29 : decode cX7_lookNumber 29 = .ok (.aload_n 0, 1) := by decide +kernel
theorem dX7_lookNumber_30 : decode cX7_lookNumber 30 = .ok (.getfield 47, 3) := by decide +kernel
theorem dX7_lookNumber_33 : decode cX7_lookNumber 33 = .ok (.iload_n 1, 1) := by decide +kernel
theorem dX7_lookNumber_34 : decode cX7_lookNumber 34 = .ok (.if_icmp .lt 11, 3) := by decide +kernel
theorem dX7_lookNumber_37 : decode cX7_lookNumber 37 = .ok (.aload_n 0, 1) := by decide +kernel
theorem dX7_lookNumber_38 : decode cX7_lookNumber 38 = .ok (.getfield 47, 3) := by decide +kernel
theorem dX7_lookNumber_41 : decode cX7_lookNumber 41 = .ok (.iload_n 2, 1) := by decide +kernel
theorem dX7_lookNumber_42 : decode cX7_lookNumber 42 = .ok (.if_icmp .le 8, 3) := by decide +kernel
theorem dX7_lookNumber_45 : decode cX7_lookNumber 45 = .ok (.aload_n 0, 1) := by decide +kernel
theorem dX7_lookNumber_46 : decode cX7_lookNumber 46 = .ok (.iconst 2, 1) := by decide +kernel
theorem dX7_lookNumber_47 : decode cX7_lookNumber 47 = .ok (.invokevirtual 63, 3) := by decide +kernel
theorem dX7_lookNumber_50 : decode cX7_lookNumber 50 = .ok (.aload_n 0, 1) := by decide +kernel
theorem dX7_lookNumber_51 : decode cX7_lookNumber 51 = .ok (.getfield 22, 3) := by decide +kernel
theorem dX7_lookNumber_54 : decode cX7_lookNumber 54 = .ok (.ifCond .ne 10, 3) := by decide +kernel
theorem dX7_lookNumber_57 : decode cX7_lookNumber 57 = .ok (.aload_n 0, 1) := by decide +kernel
theorem dX7_lookNumber_58 : decode cX7_lookNumber 58 = .ok (.getfield 47, 3) := by decide +kernel
theorem dX7_lookNumber_61 : decode cX7_lookNumber 61 = .ok (.goto 4, 3) := by decide +kernel
theorem dX7_lookNumber_64 : decode cX7_lookNumber 64 = .ok (.iload_n 1, 1) := by decide +kernel
theorem dX7_lookNumber_65 : decode cX7_lookNumber 65 = .ok (.ireturn, 1) := by decide +kernel
theorem dX7_takeNumber_0 : decode cX7_takeNumber 0 = .ok (.aload_n 0, 1) := by decide +kernel
theorem dX7_takeNumber_1 : decode cX7_takeNumber 1 = .ok (.iload_n 1, 1) := by decide +kernel
theorem dX7_takeNumber_2 : decode cX7_takeNumber 2 = .ok (.iload_n 2, 1) := by decide +kernel
theorem dX7_takeNumber_3 : decode cX7_takeNumber 3 = .ok (.invokevirtual 67, 3) := by decide +kernel
theorem dX7_takeNumber_6 : decode cX7_takeNumber 6 = .ok (.istore_n 3, 1) := by decide +kernel
theorem dX7_takeNumber_7 : decode cX7_takeNumber 7 = .ok (.aload_n 0, 1) := by decide +kernel
theorem dX7_takeNumber_8 : decode cX7_takeNumber 8 = .ok (.invokevirtual 28, 3) := by decide +kernel
theorem dX7_takeNumber_11 : decode cX7_takeNumber 11 = .ok (.iload_n 3, 1) := by decide +kernel
theorem dX7_takeNumber_12 : decode cX7_takeNumber 12 = .ok (.ireturn, 1) := by decide +kernel
theorem dX7_closesClause_0 : decode cX7_closesClause 0 = .ok (.aload_n 0, 1) := by decide +kernel
theorem dX7_closesClause_1 : decode cX7_closesClause 1 = .ok (.bipush 59, 2) := by decide +kernel
theorem dX7_closesClause_3 : decode cX7_closesClause 3 = .ok (.invokevirtual 71, 3) := by decide +kernel
theorem dX7_closesClause_6 : decode cX7_closesClause 6 = .ok (.ifCond .ne 8, 3) := by decide +kernel
theorem dX7_closesClause_9 : decode cX7_closesClause 9 = .ok (.aload_n 0, 1) := by decide +kernel
theorem dX7_closesClause_10 : decode cX7_closesClause 10 = .ok (.iconst 1, 1) := by decide +kernel
theorem dX7_closesClause_11 : decode cX7_closesClause 11 = .ok (.invokevirtual 63, 3) := by decide +kernel
theorem dX7_closesClause_14 : decode cX7_closesClause 14 = .ok (.aload_n 0, 1) := by decide +kernel
theorem dX7_closesClause_15 : decode cX7_closesClause 15 = .ok (.invokevirtual 28, 3) := by decide +kernel
theorem dX7_closesClause_18 : decode cX7_closesClause 18 = .ok (.aload_n 0, 1) := by decide +kernel
theorem dX7_closesClause_19 : decode cX7_closesClause 19 = .ok (.getfield 22, 3) := by decide +kernel
theorem dX7_closesClause_22 : decode cX7_closesClause 22 = .ok (.ifCond .ne 7, 3) := by decide +kernel
theorem dX7_closesClause_25 : decode cX7_closesClause 25 = .ok (.iconst 1, 1) := by decide +kernel
theorem dX7_closesClause_26 : decode cX7_closesClause 26 = .ok (.goto 4, 3) := by decide +kernel
theorem dX7_closesClause_29 : decode cX7_closesClause 29 = .ok (.iconst 0, 1) := by decide +kernel
theorem dX7_closesClause_30 : decode cX7_closesClause 30 = .ok (.ireturn, 1) := by decide +kernel
theorem dX8_init_0 : decode cX8_init 0 = .ok (.aload_n 0, 1) := by decide +kernel
theorem dX8_init_1 : decode cX8_init 1 = .ok (.invokespecial 3, 3) := by decide +kernel
theorem dX8_init_4 : decode cX8_init 4 = .ok (.aload_n 0, 1) := by decide +kernel
theorem dX8_init_5 : decode cX8_init 5 = .ok (.bipush 24, 2) := by decide +kernel
theorem dX8_init_7 : decode cX8_init 7 = .ok (.newarray .int, 2) := by decide +kernel
theorem dX8_init_9 : decode cX8_init 9 = .ok (.putfield 9, 3) := by decide +kernel
theorem dX8_init_12 : decode cX8_init 12 = .ok (.aload_n 0, 1) := by decide +kernel
theorem dX8_init_13 : decode cX8_init 13 = .ok (.bipush 24, 2) := by decide +kernel
theorem dX8_init_15 : decode cX8_init 15 = .ok (.newarray .int, 2) := by decide +kernel
theorem dX8_init_17 : decode cX8_init 17 = .ok (.putfield 15, 3) := by decide +kernel
theorem dX8_init_20 : decode cX8_init 20 = .ok (.aload_n 0, 1) := by decide +kernel
theorem dX8_init_21 : decode cX8_init 21 = .ok (.bipush 24, 2) := by decide +kernel
theorem dX8_init_23 : decode cX8_init 23 = .ok (.newarray .int, 2) := by decide +kernel
theorem dX8_init_25 : decode cX8_init 25 = .ok (.putfield 18, 3) := by decide +kernel
theorem dX8_init_28 : decode cX8_init 28 = .ok (.aload_n 0, 1) := by decide +kernel
theorem dX8_init_29 : decode cX8_init 29 = .ok (.bipush 24, 2) := by decide +kernel
theorem dX8_init_31 : decode cX8_init 31 = .ok (.newarray .int, 2) := by decide +kernel
theorem dX8_init_33 : decode cX8_init 33 = .ok (.putfield 21, 3) := by decide +kernel
theorem dX8_init_36 : decode cX8_init 36 = .ok (.aload_n 0, 1) := by decide +kernel
theorem dX8_init_37 : decode cX8_init 37 = .ok (.sipush 576, 3) := by decide +kernel
theorem dX8_init_40 : decode cX8_init 40 = .ok (.newarray .int, 2) := by decide +kernel
theorem dX8_init_42 : decode cX8_init 42 = .ok (.putfield 24, 3) := by decide +kernel
theorem dX8_init_45 : decode cX8_init 45 = .ok (.aload_n 0, 1) := by decide +kernel
theorem dX8_init_46 : decode cX8_init 46 = .ok (.sipush 576, 3) := by decide +kernel
theorem dX8_init_49 : decode cX8_init 49 = .ok (.newarray .int, 2) := by decide +kernel
theorem dX8_init_51 : decode cX8_init 51 = .ok (.putfield 27, 3) := by decide +kernel
theorem dX8_init_54 : decode cX8_init 54 = .ok (.return_, 1) := by decide +kernel
theorem dX8_copyFrom_0 : decode cX8_copyFrom 0 = .ok (.aload_n 0, 1) := by decide +kernel
theorem dX8_copyFrom_1 : decode cX8_copyFrom 1 = .ok (.aload_n 1, 1) := by decide +kernel
theorem dX8_copyFrom_2 : decode cX8_copyFrom 2 = .ok (.getfield 30, 3) := by decide +kernel
theorem dX8_copyFrom_5 : decode cX8_copyFrom 5 = .ok (.putfield 30, 3) := by decide +kernel
theorem dX8_copyFrom_8 : decode cX8_copyFrom 8 = .ok (.aload_n 0, 1) := by decide +kernel
theorem dX8_copyFrom_9 : decode cX8_copyFrom 9 = .ok (.aload_n 1, 1) := by decide +kernel
theorem dX8_copyFrom_10 : decode cX8_copyFrom 10 = .ok (.getfield 34, 3) := by decide +kernel
theorem dX8_copyFrom_13 : decode cX8_copyFrom 13 = .ok (.putfield 34, 3) := by decide +kernel
theorem dX8_copyFrom_16 : decode cX8_copyFrom 16 = .ok (.aload_n 0, 1) := by decide +kernel
theorem dX8_copyFrom_17 : decode cX8_copyFrom 17 = .ok (.aload_n 1, 1) := by decide +kernel
theorem dX8_copyFrom_18 : decode cX8_copyFrom 18 = .ok (.getfield 37, 3) := by decide +kernel
theorem dX8_copyFrom_21 : decode cX8_copyFrom 21 = .ok (.putfield 37, 3) := by decide +kernel
theorem dX8_copyFrom_24 : decode cX8_copyFrom 24 = .ok (.aload_n 1, 1) := by decide +kernel
theorem dX8_copyFrom_25 : decode cX8_copyFrom 25 = .ok (.getfield 9, 3) := by decide +kernel
theorem dX8_copyFrom_28 : decode cX8_copyFrom 28 = .ok (.iconst 0, 1) := by decide +kernel
theorem dX8_copyFrom_29 : decode cX8_copyFrom 29 = .ok (.aload_n 0, 1) := by decide +kernel
theorem dX8_copyFrom_30 : decode cX8_copyFrom 30 = .ok (.getfield 9, 3) := by decide +kernel
theorem dX8_copyFrom_33 : decode cX8_copyFrom 33 = .ok (.iconst 0, 1) := by decide +kernel
theorem dX8_copyFrom_34 : decode cX8_copyFrom 34 = .ok (.bipush 24, 2) := by decide +kernel
theorem dX8_copyFrom_36 : decode cX8_copyFrom 36 = .ok (.invokestatic 40, 3) := by decide +kernel
theorem dX8_copyFrom_39 : decode cX8_copyFrom 39 = .ok (.aload_n 1, 1) := by decide +kernel
theorem dX8_copyFrom_40 : decode cX8_copyFrom 40 = .ok (.getfield 15, 3) := by decide +kernel
theorem dX8_copyFrom_43 : decode cX8_copyFrom 43 = .ok (.iconst 0, 1) := by decide +kernel
theorem dX8_copyFrom_44 : decode cX8_copyFrom 44 = .ok (.aload_n 0, 1) := by decide +kernel
theorem dX8_copyFrom_45 : decode cX8_copyFrom 45 = .ok (.getfield 15, 3) := by decide +kernel
theorem dX8_copyFrom_48 : decode cX8_copyFrom 48 = .ok (.iconst 0, 1) := by decide +kernel
theorem dX8_copyFrom_49 : decode cX8_copyFrom 49 = .ok (.bipush 24, 2) := by decide +kernel
theorem dX8_copyFrom_51 : decode cX8_copyFrom 51 = .ok (.invokestatic 40, 3) := by decide +kernel
theorem dX8_copyFrom_54 : decode cX8_copyFrom 54 = .ok (.aload_n 1, 1) := by decide +kernel
theorem dX8_copyFrom_55 : decode cX8_copyFrom 55 = .ok (.getfield 18, 3) := by decide +kernel
theorem dX8_copyFrom_58 : decode cX8_copyFrom 58 = .ok (.iconst 0, 1) := by decide +kernel
theorem dX8_copyFrom_59 : decode cX8_copyFrom 59 = .ok (.aload_n 0, 1) := by decide +kernel
theorem dX8_copyFrom_60 : decode cX8_copyFrom 60 = .ok (.getfield 18, 3) := by decide +kernel
theorem dX8_copyFrom_63 : decode cX8_copyFrom 63 = .ok (.iconst 0, 1) := by decide +kernel
theorem dX8_copyFrom_64 : decode cX8_copyFrom 64 = .ok (.bipush 24, 2) := by decide +kernel
theorem dX8_copyFrom_66 : decode cX8_copyFrom 66 = .ok (.invokestatic 40, 3) := by decide +kernel
theorem dX8_copyFrom_69 : decode cX8_copyFrom 69 = .ok (.aload_n 1, 1) := by decide +kernel
theorem dX8_copyFrom_70 : decode cX8_copyFrom 70 = .ok (.getfield 21, 3) := by decide +kernel
theorem dX8_copyFrom_73 : decode cX8_copyFrom 73 = .ok (.iconst 0, 1) := by decide +kernel
theorem dX8_copyFrom_74 : decode cX8_copyFrom 74 = .ok (.aload_n 0, 1) := by decide +kernel
theorem dX8_copyFrom_75 : decode cX8_copyFrom 75 = .ok (.getfield 21, 3) := by decide +kernel
theorem dX8_copyFrom_78 : decode cX8_copyFrom 78 = .ok (.iconst 0, 1) := by decide +kernel
theorem dX8_copyFrom_79 : decode cX8_copyFrom 79 = .ok (.bipush 24, 2) := by decide +kernel
theorem dX8_copyFrom_81 : decode cX8_copyFrom 81 = .ok (.invokestatic 40, 3) := by decide +kernel
theorem dX8_copyFrom_84 : decode cX8_copyFrom 84 = .ok (.aload_n 1, 1) := by decide +kernel
theorem dX8_copyFrom_85 : decode cX8_copyFrom 85 = .ok (.getfield 24, 3) := by decide +kernel
theorem dX8_copyFrom_88 : decode cX8_copyFrom 88 = .ok (.iconst 0, 1) := by decide +kernel
theorem dX8_copyFrom_89 : decode cX8_copyFrom 89 = .ok (.aload_n 0, 1) := by decide +kernel
theorem dX8_copyFrom_90 : decode cX8_copyFrom 90 = .ok (.getfield 24, 3) := by decide +kernel
theorem dX8_copyFrom_93 : decode cX8_copyFrom 93 = .ok (.iconst 0, 1) := by decide +kernel
theorem dX8_copyFrom_94 : decode cX8_copyFrom 94 = .ok (.sipush 576, 3) := by decide +kernel
theorem dX8_copyFrom_97 : decode cX8_copyFrom 97 = .ok (.invokestatic 40, 3) := by decide +kernel
theorem dX8_copyFrom_100 : decode cX8_copyFrom 100 = .ok (.aload_n 1, 1) := by decide +kernel
theorem dX8_copyFrom_101 : decode cX8_copyFrom 101 = .ok (.getfield 27, 3) := by decide +kernel
theorem dX8_copyFrom_104 : decode cX8_copyFrom 104 = .ok (.iconst 0, 1) := by decide +kernel
theorem dX8_copyFrom_105 : decode cX8_copyFrom 105 = .ok (.aload_n 0, 1) := by decide +kernel
theorem dX8_copyFrom_106 : decode cX8_copyFrom 106 = .ok (.getfield 27, 3) := by decide +kernel
theorem dX8_copyFrom_109 : decode cX8_copyFrom 109 = .ok (.iconst 0, 1) := by decide +kernel
theorem dX8_copyFrom_110 : decode cX8_copyFrom 110 = .ok (.sipush 576, 3) := by decide +kernel
theorem dX8_copyFrom_113 : decode cX8_copyFrom 113 = .ok (.invokestatic 40, 3) := by decide +kernel
theorem dX8_copyFrom_116 : decode cX8_copyFrom 116 = .ok (.return_, 1) := by decide +kernel
theorem dX8_readFrom_0 : decode cX8_readFrom 0 = .ok (.aload_n 0, 1) := by decide +kernel
theorem dX8_readFrom_1 : decode cX8_readFrom 1 = .ok (.iconst 0, 1) := by decide +kernel
theorem dX8_readFrom_2 : decode cX8_readFrom 2 = .ok (.putfield 30, 3) := by decide +kernel
theorem dX8_readFrom_5 : decode cX8_readFrom 5 = .ok (.aload_n 0, 1) := by decide +kernel
theorem dX8_readFrom_6 : decode cX8_readFrom 6 = .ok (.iconst 0, 1) := by decide +kernel
theorem dX8_readFrom_7 : decode cX8_readFrom 7 = .ok (.putfield 34, 3) := by decide +kernel
theorem dX8_readFrom_10 : decode cX8_readFrom 10 = .ok (.aload_n 0, 1) := by decide +kernel
theorem dX8_readFrom_11 : decode cX8_readFrom 11 = .ok (.iconst 0, 1) := by decide +kernel
theorem dX8_readFrom_12 : decode cX8_readFrom 12 = .ok (.putfield 37, 3) := by decide +kernel
theorem dX8_readFrom_15 : decode cX8_readFrom 15 = .ok (.aload_n 1, 1) := by decide +kernel
theorem dX8_readFrom_16 : decode cX8_readFrom 16 = .ok (.invokevirtual 46, 3) := by decide +kernel
theorem dX8_readFrom_19 : decode cX8_readFrom 19 = .ok (.iconst 0, 1) := by decide +kernel
theorem dX8_readFrom_20 : decode cX8_readFrom 20 = .ok (.istore_n 2, 1) := by decide +kernel
theorem dX8_readFrom_21 : decode cX8_readFrom 21 = .ok (.iload_n 2, 1) := by decide +kernel
theorem dX8_readFrom_22 : decode cX8_readFrom 22 = .ok (.sipush 600, 3) := by decide +kernel
theorem dX8_readFrom_25 : decode cX8_readFrom 25 = .ok (.if_icmp .ge 55, 3) := by decide +kernel
theorem dX8_readFrom_28 : decode cX8_readFrom 28 = .ok (.aload_n 1, 1) := by decide +kernel
theorem dX8_readFrom_29 : decode cX8_readFrom 29 = .ok (.invokevirtual 51, 3) := by decide +kernel
theorem dX8_readFrom_32 : decode cX8_readFrom 32 = .ok (.ifCond .eq 48, 3) := by decide +kernel
theorem dX8_readFrom_35 : decode cX8_readFrom 35 = .ok (.aload_n 1, 1) := by decide +kernel
theorem dX8_readFrom_36 : decode cX8_readFrom 36 = .ok (.ldc 55, 2) := by decide +kernel
theorem dX8_readFrom_38 : decode cX8_readFrom 38 = .ok (.invokevirtual 57, 3) := by decide +kernel
theorem dX8_readFrom_41 : decode cX8_readFrom 41 = .ok (.ifCond .eq 11, 3) := by decide +kernel
theorem dX8_readFrom_44 : decode cX8_readFrom 44 = .ok (.aload_n 0, 1) := by decide +kernel
theorem dX8_readFrom_45 : decode cX8_readFrom 45 = .ok (.aload_n 1, 1) := by decide +kernel
theorem dX8_readFrom_46 : decode cX8_readFrom 46 = .ok (.invokevirtual 61, 3) := by decide +kernel
theorem dX8_readFrom_49 : decode cX8_readFrom 49 = .ok (.goto 25, 3) := by decide +kernel
theorem dX8_readFrom_52 : decode cX8_readFrom 52 = .ok (.aload_n 1, 1) := by decide +kernel
theorem dX8_readFrom_53 : decode cX8_readFrom 53 = .ok (.ldc 65, 2) := by decide +kernel
theorem dX8_readFrom_55 : decode cX8_readFrom 55 = .ok (.invokevirtual 57, 3) := by decide +kernel
theorem dX8_readFrom_58 : decode cX8_readFrom 58 = .ok (.ifCond .eq 11, 3) := by decide +kernel
theorem dX8_readFrom_61 : decode cX8_readFrom 61 = .ok (.aload_n 0, 1) := by decide +kernel
theorem dX8_readFrom_62 : decode cX8_readFrom 62 = .ok (.aload_n 1, 1) := by decide +kernel
theorem dX8_readFrom_63 : decode cX8_readFrom 63 = .ok (.invokevirtual 67, 3) := by decide +kernel
theorem dX8_readFrom_66 : decode cX8_readFrom 66 = .ok (.goto 8, 3) := by decide +kernel
theorem dX8_readFrom_69 : decode cX8_readFrom 69 = .ok (.aload_n 1, 1) := by decide +kernel
theorem dX8_readFrom_70 : decode cX8_readFrom 70 = .ok (.iconst 1, 1) := by decide +kernel
theorem dX8_readFrom_71 : decode cX8_readFrom 71 = .ok (.invokevirtual 70, 3) := by decide +kernel
theorem dX8_readFrom_74 : decode cX8_readFrom 74 = .ok (.iinc 2 1, 3) := by decide +kernel
theorem dX8_readFrom_77 : decode cX8_readFrom 77 = .ok (.goto (-56), 3) := by decide +kernel
theorem dX8_readFrom_80 : decode cX8_readFrom 80 = .ok (.return_, 1) := by decide +kernel
theorem dX8_readPerson_0 : decode cX8_readPerson 0 = .ok (.aload_n 0, 1) := by decide +kernel
theorem dX8_readPerson_1 : decode cX8_readPerson 1 = .ok (.getfield 30, 3) := by decide +kernel
theorem dX8_readPerson_4 : decode cX8_readPerson 4 = .ok (.bipush 24, 2) := by decide +kernel
theorem dX8_readPerson_6 : decode cX8_readPerson 6 = .ok (.if_icmp .lt 9, 3) := by decide +kernel
theorem dX8_readPerson_9 : decode cX8_readPerson 9 = .ok (.aload_n 1, 1) := by decide +kernel
theorem dX8_readPerson_10 : decode cX8_readPerson 10 = .ok (.iconst 3, 1) := by decide +kernel
theorem dX8_readPerson_11 : decode cX8_readPerson 11 = .ok (.invokevirtual 70, 3) := by decide +kernel
theorem dX8_readPerson_14 : decode cX8_readPerson 14 = .ok (.return_, 1) := by decide +kernel
theorem dX8_readPerson_15 : decode cX8_readPerson 15 = .ok (.aload_n 1, 1) := by decide +kernel
theorem dX8_readPerson_16 : decode cX8_readPerson 16 = .ok (.invokevirtual 74, 3) := by decide +kernel
theorem dX8_readPerson_19 : decode cX8_readPerson 19 = .ok (.aload_n 0, 1) := by decide +kernel
theorem dX8_readPerson_20 : decode cX8_readPerson 20 = .ok (.getfield 30, 3) := by decide +kernel
theorem dX8_readPerson_23 : decode cX8_readPerson 23 = .ok (.istore_n 2, 1) := by decide +kernel
theorem dX8_readPerson_24 : decode cX8_readPerson 24 = .ok (.aload_n 0, 1) := by decide +kernel
theorem dX8_readPerson_25 : decode cX8_readPerson 25 = .ok (.getfield 9, 3) := by decide +kernel
theorem dX8_readPerson_28 : decode cX8_readPerson 28 = .ok (.iload_n 2, 1) := by decide +kernel
theorem dX8_readPerson_29 : decode cX8_readPerson 29 = .ok (.aload_n 1, 1) := by decide +kernel
theorem dX8_readPerson_30 : decode cX8_readPerson 30 = .ok (.iconst 0, 1) := by decide +kernel
theorem dX8_readPerson_31 : decode cX8_readPerson 31 = .ok (.bipush 100, 2) := by decide +kernel
theorem dX8_readPerson_33 : decode cX8_readPerson 33 = .ok (.invokevirtual 77, 3) := by decide +kernel
theorem dX8_readPerson_36 : decode cX8_readPerson 36 = .ok (.iastore, 1) := by decide +kernel
theorem dX8_readPerson_37 : decode cX8_readPerson 37 = .ok (.aload_n 0, 1) := by decide +kernel
theorem dX8_readPerson_38 : decode cX8_readPerson 38 = .ok (.dup, 1) := by decide +kernel
theorem dX8_readPerson_39 : decode cX8_readPerson 39 = .ok (.getfield 37, 3) := by decide +kernel
theorem dX8_readPerson_42 : decode cX8_readPerson 42 = .ok (.aload_n 1, 1) := by decide +kernel
theorem dX8_readPerson_43 : decode cX8_readPerson 43 = .ok (.ldc 81, 2) := by decide +kernel
theorem dX8_readPerson_45 : decode cX8_readPerson 45 = .ok (.invokevirtual 82, 3) := by decide +kernel
theorem dX8_readPerson_48 : decode cX8_readPerson 48 = .ok (.ifCond .eq 9, 3) := by decide +kernel
theorem dX8_readPerson_51 : decode cX8_readPerson 51 = .ok (.iconst 1, 1) := by decide +kernel
theorem dX8_readPerson_52 : decode cX8_readPerson 52 = .ok (.iload_n 2, 1) := by decide +kernel
theorem dX8_readPerson_53 : decode cX8_readPerson 53 = .ok (.ishl, 1) := by decide +kernel
theorem dX8_readPerson_54 : decode cX8_readPerson 54 = .ok (.goto 4, 3) := by decide +kernel
theorem dX8_readPerson_57 : decode cX8_readPerson 57 = .ok (.iconst 0, 1) := by decide +kernel
theorem dX8_readPerson_58 : decode cX8_readPerson 58 = .ok (.ior, 1) := by decide +kernel
theorem dX8_readPerson_59 : decode cX8_readPerson 59 = .ok (.putfield 37, 3) := by decide +kernel
theorem dX8_readPerson_62 : decode cX8_readPerson 62 = .ok (.aload_n 0, 1) := by decide +kernel
theorem dX8_readPerson_63 : decode cX8_readPerson 63 = .ok (.getfield 15, 3) := by decide +kernel
theorem dX8_readPerson_66 : decode cX8_readPerson 66 = .ok (.iload_n 2, 1) := by decide +kernel
theorem dX8_readPerson_67 : decode cX8_readPerson 67 = .ok (.aload_n 1, 1) := by decide +kernel
theorem dX8_readPerson_68 : decode cX8_readPerson 68 = .ok (.ldc 85, 2) := by decide +kernel
theorem dX8_readPerson_70 : decode cX8_readPerson 70 = .ok (.invokevirtual 82, 3) := by decide +kernel
theorem dX8_readPerson_73 : decode cX8_readPerson 73 = .ok (.ifCond .eq 12, 3) := by decide +kernel
theorem dX8_readPerson_76 : decode cX8_readPerson 76 = .ok (.aload_n 1, 1) := by decide +kernel
theorem dX8_readPerson_77 : decode cX8_readPerson 77 = .ok (.iconst 0, 1) := by decide +kernel
theorem dX8_readPerson_78 : decode cX8_readPerson 78 = .ok (.iconst 3, 1) := by decide +kernel
theorem dX8_readPerson_79 : decode cX8_readPerson 79 = .ok (.invokevirtual 77, 3) := by decide +kernel
theorem dX8_readPerson_82 : decode cX8_readPerson 82 = .ok (.goto 4, 3) := by decide +kernel
theorem dX8_readPerson_85 : decode cX8_readPerson 85 = .ok (.iconst (-1), 1) := by decide +kernel
theorem dX8_readPerson_86 : decode cX8_readPerson 86 = .ok (.iastore, 1) := by decide +kernel
theorem dX8_readPerson_87 : decode cX8_readPerson 87 = .ok (.aload_n 0, 1) := by decide +kernel
theorem dX8_readPerson_88 : decode cX8_readPerson 88 = .ok (.getfield 18, 3) := by decide +kernel
theorem dX8_readPerson_91 : decode cX8_readPerson 91 = .ok (.iload_n 2, 1) := by decide +kernel
theorem dX8_readPerson_92 : decode cX8_readPerson 92 = .ok (.iconst 0, 1) := by decide +kernel
theorem dX8_readPerson_93 : decode cX8_readPerson 93 = .ok (.iastore, 1) := by decide +kernel
theorem dX8_readPerson_94 : decode cX8_readPerson 94 = .ok (.aload_n 0, 1) := by decide +kernel
theorem dX8_readPerson_95 : decode cX8_readPerson 95 = .ok (.getfield 21, 3) := by decide +kernel
theorem dX8_readPerson_98 : decode cX8_readPerson 98 = .ok (.iload_n 2, 1) := by decide +kernel
theorem dX8_readPerson_99 : decode cX8_readPerson 99 = .ok (.iconst 0, 1) := by decide +kernel
theorem dX8_readPerson_100 : decode cX8_readPerson 100 = .ok (.iastore, 1) := by decide +kernel
theorem dX8_readPerson_101 : decode cX8_readPerson 101 = .ok (.aload_n 1, 1) := by decide +kernel
theorem dX8_readPerson_102 : decode cX8_readPerson 102 = .ok (.invokevirtual 87, 3) := by decide +kernel
theorem dX8_readPerson_105 : decode cX8_readPerson 105 = .ok (.ifCond .eq 13, 3) := by decide +kernel
theorem dX8_readPerson_108 : decode cX8_readPerson 108 = .ok (.aload_n 0, 1) := by decide +kernel
theorem dX8_readPerson_109 : decode cX8_readPerson 109 = .ok (.dup, 1) := by decide +kernel
theorem dX8_readPerson_110 : decode cX8_readPerson 110 = .ok (.getfield 30, 3) := by decide +kernel
theorem dX8_readPerson_113 : decode cX8_readPerson 113 = .ok (.iconst 1, 1) := by decide +kernel
theorem dX8_readPerson_114 : decode cX8_readPerson 114 = .ok (.iadd, 1) := by decide +kernel
theorem dX8_readPerson_115 : decode cX8_readPerson 115 = .ok (.putfield 30, 3) := by decide +kernel
theorem dX8_readPerson_118 : decode cX8_readPerson 118 = .ok (.return_, 1) := by decide +kernel
theorem dX8_readTie_0 : decode cX8_readTie 0 = .ok (.aload_n 0, 1) := by decide +kernel
theorem dX8_readTie_1 : decode cX8_readTie 1 = .ok (.getfield 34, 3) := by decide +kernel
theorem dX8_readTie_4 : decode cX8_readTie 4 = .ok (.bipush 60, 2) := by decide +kernel
theorem dX8_readTie_6 : decode cX8_readTie 6 = .ok (.if_icmp .lt 9, 3) := by decide +kernel
theorem dX8_readTie_9 : decode cX8_readTie 9 = .ok (.aload_n 1, 1) := by decide +kernel
theorem dX8_readTie_10 : decode cX8_readTie 10 = .ok (.iconst 3, 1) := by decide +kernel
theorem dX8_readTie_11 : decode cX8_readTie 11 = .ok (.invokevirtual 70, 3) := by decide +kernel
theorem dX8_readTie_14 : decode cX8_readTie 14 = .ok (.return_, 1) := by decide +kernel
theorem dX8_readTie_15 : decode cX8_readTie 15 = .ok (.aload_n 1, 1) := by decide +kernel
theorem dX8_readTie_16 : decode cX8_readTie 16 = .ok (.invokevirtual 74, 3) := by decide +kernel
theorem dX8_readTie_19 : decode cX8_readTie 19 = .ok (.aload_n 1, 1) := by decide +kernel
theorem dX8_readTie_20 : decode cX8_readTie 20 = .ok (.iconst 0, 1) := by decide +kernel
theorem dX8_readTie_21 : decode cX8_readTie 21 = .ok (.aload_n 0, 1) := by decide +kernel
theorem dX8_readTie_22 : decode cX8_readTie 22 = .ok (.getfield 30, 3) := by decide +kernel
theorem dX8_readTie_25 : decode cX8_readTie 25 = .ok (.iconst 1, 1) := by decide +kernel
theorem dX8_readTie_26 : decode cX8_readTie 26 = .ok (.isub, 1) := by decide +kernel
theorem dX8_readTie_27 : decode cX8_readTie 27 = .ok (.invokevirtual 77, 3) := by decide +kernel
theorem dX8_readTie_30 : decode cX8_readTie 30 = .ok (.istore_n 2, 1) := by decide +kernel
theorem dX8_readTie_31 : decode cX8_readTie 31 = .ok (.aload_n 1, 1) := by decide +kernel
theorem dX8_readTie_32 : decode cX8_readTie 32 = .ok (.iconst 0, 1) := by decide +kernel
theorem dX8_readTie_33 : decode cX8_readTie 33 = .ok (.aload_n 0, 1) := by decide +kernel
theorem dX8_readTie_34 : decode cX8_readTie 34 = .ok (.getfield 30, 3) := by decide +kernel
theorem dX8_readTie_37 : decode cX8_readTie 37 = .ok (.iconst 1, 1) := by decide +kernel
theorem dX8_readTie_38 : decode cX8_readTie 38 = .ok (.isub, 1) := by decide +kernel
theorem dX8_readTie_39 : decode cX8_readTie 39 = .ok (.invokevirtual 90, 3) := by decide +kernel
theorem dX8_readTie_42 : decode cX8_readTie 42 = .ok (.istore_n 3, 1) := by decide +kernel
theorem dX8_readTie_43 : decode cX8_readTie 43 = .ok (.aload_n 1, 1) := by decide +kernel
theorem dX8_readTie_44 : decode cX8_readTie 44 = .ok (.getfield 93, 3) := by decide +kernel
theorem dX8_readTie_47 : decode cX8_readTie 47 = .ok (.ifCond .ne 22, 3) := by decide +kernel
theorem dX8_readTie_50 : decode cX8_readTie 50 = .ok (.iload_n 2, 1) := by decide +kernel
theorem dX8_readTie_51 : decode cX8_readTie 51 = .ok (.iload_n 3, 1) := by decide +kernel
theorem dX8_readTie_52 : decode cX8_readTie 52 = .ok (.if_icmp .eq 12, 3) := by decide +kernel
theorem dX8_readTie_55 : decode cX8_readTie 55 = .ok (.aload_n 0, 1) := by decide +kernel
theorem dX8_readTie_56 : decode cX8_readTie 56 = .ok (.iload_n 2, 1) := by decide +kernel
theorem dX8_readTie_57 : decode cX8_readTie 57 = .ok (.iload_n 3, 1) := by decide +kernel
theorem dX8_readTie_58 : decode cX8_readTie 58 = .ok (.invokevirtual 96, 3) := by decide +kernel
theorem dX8_readTie_61 : decode cX8_readTie 61 = .ok (.ifCond .eq 8, 3) := by decide +kernel
theorem dX8_readTie_64 : decode cX8_readTie 64 = .ok (.aload_n 1, 1) := by decide +kernel
theorem dX8_readTie_65 : decode cX8_readTie 65 = .ok (.iconst 4, 1) := by decide +kernel
theorem dX8_readTie_66 : decode cX8_readTie 66 = .ok (.invokevirtual 70, 3) := by decide +kernel
theorem dX8_readTie_69 : decode cX8_readTie 69 = .ok (.aload_n 1, 1) := by decide +kernel
theorem dX8_readTie_70 : decode cX8_readTie 70 = .ok (.invokevirtual 74, 3) := by decide +kernel
theorem dX8_readTie_73 : decode cX8_readTie 73 = .ok (.aload_n 1, 1) := by decide +kernel
theorem dX8_readTie_74 : decode cX8_readTie 74 = .ok (.iconst 1, 1) := by decide +kernel
theorem dX8_readTie_75 : decode cX8_readTie 75 = .ok (.bipush 9, 2) := by decide +kernel
theorem dX8_readTie_77 : decode cX8_readTie 77 = .ok (.invokevirtual 77, 3) := by decide +kernel
theorem dX8_readTie_80 : decode cX8_readTie 80 = .ok (.istore 4, 2) := by decide +kernel
theorem dX8_readTie_82 : decode cX8_readTie 82 = .ok (.aload_n 1, 1) := by decide +kernel
theorem dX8_readTie_83 : decode cX8_readTie 83 = .ok (.invokevirtual 87, 3) := by decide +kernel
theorem dX8_readTie_86 : decode cX8_readTie 86 = .ok (.ifCond .eq 29, 3) := by decide +kernel
theorem dX8_readTie_89 : decode cX8_readTie 89 = .ok (.aload_n 0, 1) := by decide +kernel
theorem dX8_readTie_90 : decode cX8_readTie 90 = .ok (.iload_n 2, 1) := by decide +kernel
theorem dX8_readTie_91 : decode cX8_readTie 91 = .ok (.iload_n 3, 1) := by decide +kernel
theorem dX8_readTie_92 : decode cX8_readTie 92 = .ok (.iload 4, 2) := by decide +kernel
theorem dX8_readTie_94 : decode cX8_readTie 94 = .ok (.invokevirtual 99, 3) := by decide +kernel
theorem dX8_readTie_97 : decode cX8_readTie 97 = .ok (.aload_n 0, 1) := by decide +kernel
theorem dX8_readTie_98 : decode cX8_readTie 98 = .ok (.iload_n 3, 1) := by decide +kernel
theorem dX8_readTie_99 : decode cX8_readTie 99 = .ok (.iload_n 2, 1) := by decide +kernel
theorem dX8_readTie_100 : decode cX8_readTie 100 = .ok (.iload 4, 2) := by decide +kernel
theorem dX8_readTie_102 : decode cX8_readTie 102 = .ok (.invokevirtual 99, 3) := by decide +kernel
theorem dX8_readTie_105 : decode cX8_readTie 105 = .ok (.aload_n 0, 1) := by decide +kernel
theorem dX8_readTie_106 : decode cX8_readTie 106 = .ok (.dup, 1) := by decide +kernel
theorem dX8_readTie_107 : decode cX8_readTie 107 = .ok (.getfield 34, 3) := by decide +kernel
theorem dX8_readTie_110 : decode cX8_readTie 110 = .ok (.iconst 1, 1) := by decide +kernel
theorem dX8_readTie_111 : decode cX8_readTie 111 = .ok (.iadd, 1) := by decide +kernel
theorem dX8_readTie_112 : decode cX8_readTie 112 = .ok (.putfield 34, 3) := by decide +kernel
theorem dX8_readTie_115 : decode cX8_readTie 115 = .ok (.return_, 1) := by decide +kernel
theorem dX8_befriend_0 : decode cX8_befriend 0 = .ok (.aload_n 0, 1) := by decide +kernel
theorem dX8_befriend_1 : decode cX8_befriend 1 = .ok (.getfield 18, 3) := by decide +kernel
theorem dX8_befriend_4 : decode cX8_befriend 4 = .ok (.iload_n 1, 1) := by decide +kernel
theorem dX8_befriend_5 : decode cX8_befriend 5 = .ok (.iaload, 1) := by decide +kernel
theorem dX8_befriend_6 : decode cX8_befriend 6 = .ok (.istore 4, 2) := by decide +kernel
theorem dX8_befriend_8 : decode cX8_befriend 8 = .ok (.iload 4, 2) := by decide +kernel
theorem dX8_befriend_10 : decode cX8_befriend 10 = .ok (.bipush 24, 2) := by decide +kernel
theorem dX8_befriend_12 : decode cX8_befriend 12 = .ok (.if_icmp .ge 49, 3) := by decide +kernel
theorem dX8_befriend_15 : decode cX8_befriend 15 = .ok (.aload_n 0, 1) := by decide +kernel
theorem dX8_befriend_16 : decode cX8_befriend 16 = .ok (.getfield 24, 3) := by decide +kernel
theorem dX8_befriend_19 : decode cX8_befriend 19 = .ok (.iload_n 1, 1) := by decide +kernel
theorem dX8_befriend_20 : decode cX8_befriend 20 = .ok (.bipush 24, 2) := by decide +kernel
theorem dX8_befriend_22 : decode cX8_befriend 22 = .ok (.imul, 1) := by decide +kernel
theorem dX8_befriend_23 : decode cX8_befriend 23 = .ok (.iload 4, 2) := by decide +kernel
theorem dX8_befriend_25 : decode cX8_befriend 25 = .ok (.iadd, 1) := by decide +kernel
theorem dX8_befriend_26 : decode cX8_befriend 26 = .ok (.iload_n 2, 1) := by decide +kernel
theorem dX8_befriend_27 : decode cX8_befriend 27 = .ok (.iastore, 1) := by decide +kernel
theorem dX8_befriend_28 : decode cX8_befriend 28 = .ok (.aload_n 0, 1) := by decide +kernel
theorem dX8_befriend_29 : decode cX8_befriend 29 = .ok (.getfield 27, 3) := by decide +kernel
theorem dX8_befriend_32 : decode cX8_befriend 32 = .ok (.iload_n 1, 1) := by decide +kernel
theorem dX8_befriend_33 : decode cX8_befriend 33 = .ok (.bipush 24, 2) := by decide +kernel
theorem dX8_befriend_35 : decode cX8_befriend 35 = .ok (.imul, 1) := by decide +kernel
theorem dX8_befriend_36 : decode cX8_befriend 36 = .ok (.iload 4, 2) := by decide +kernel
theorem dX8_befriend_38 : decode cX8_befriend 38 = .ok (.iadd, 1) := by decide +kernel
theorem dX8_befriend_39 : decode cX8_befriend 39 = .ok (.iload_n 3, 1) := by decide +kernel
theorem dX8_befriend_40 : decode cX8_befriend 40 = .ok (.iastore, 1) := by decide +kernel
theorem dX8_befriend_41 : decode cX8_befriend 41 = .ok (.aload_n 0, 1) := by decide +kernel
theorem dX8_befriend_42 : decode cX8_befriend 42 = .ok (.getfield 18, 3) := by decide +kernel
theorem dX8_befriend_45 : decode cX8_befriend 45 = .ok (.iload_n 1, 1) := by decide +kernel
theorem dX8_befriend_46 : decode cX8_befriend 46 = .ok (.iload 4, 2) := by decide +kernel
theorem dX8_befriend_48 : decode cX8_befriend 48 = .ok (.iconst 1, 1) := by decide +kernel
theorem dX8_befriend_49 : decode cX8_befriend 49 = .ok (.iadd, 1) := by decide +kernel
theorem dX8_befriend_50 : decode cX8_befriend 50 = .ok (.iastore, 1) := by decide +kernel
theorem dX8_befriend_51 : decode cX8_befriend 51 = .ok (.aload_n 0, 1) := by decide +kernel
theorem dX8_befriend_52 : decode cX8_befriend 52 = .ok (.getfield 21, 3) := by decide +kernel
theorem dX8_befriend_55 : decode cX8_befriend 55 = .ok (.iload_n 1, 1) := by decide +kernel
theorem dX8_befriend_56 : decode cX8_befriend 56 = .ok (.dup2, 1) := by decide +kernel
theorem dX8_befriend_57 : decode cX8_befriend 57 = .ok (.iaload, 1) := by decide +kernel
theorem dX8_befriend_58 : decode cX8_befriend 58 = .ok (.iload_n 3, 1) := by decide +kernel
theorem dX8_befriend_59 : decode cX8_befriend 59 = .ok (.iadd, 1) := by decide +kernel
theorem dX8_befriend_60 : decode cX8_befriend 60 = .ok (.iastore, 1) := by decide +kernel
theorem dX8_befriend_61 : decode cX8_befriend 61 = .ok (.return_, 1) := by decide +kernel
theorem dX8_strengthOf_0 : decode cX8_strengthOf 0 = .ok (.iconst 0, 1) := by decide +kernel
theorem dX8_strengthOf_1 : decode cX8_strengthOf 1 = .ok (.istore_n 3, 1) := by decide +kernel
theorem dX8_strengthOf_2 : decode cX8_strengthOf 2 = .ok (.iload_n 3, 1) := by decide +kernel
theorem dX8_strengthOf_3 : decode cX8_strengthOf 3 = .ok (.aload_n 0, 1) := by decide +kernel
theorem dX8_strengthOf_4 : decode cX8_strengthOf 4 = .ok (.getfield 18, 3) := by decide +kernel
theorem dX8_strengthOf_7 : decode cX8_strengthOf 7 = .ok (.iload_n 1, 1) := by decide +kernel
theorem dX8_strengthOf_8 : decode cX8_strengthOf 8 = .ok (.iaload, 1) := by decide +kernel
theorem dX8_strengthOf_9 : decode cX8_strengthOf 9 = .ok (.if_icmp .ge 36, 3) := by decide +kernel
theorem dX8_strengthOf_12 : decode cX8_strengthOf 12 = .ok (.aload_n 0, 1) := by decide +kernel
theorem dX8_strengthOf_13 : decode cX8_strengthOf 13 = .ok (.getfield 24, 3) := by decide +kernel
theorem dX8_strengthOf_16 : decode cX8_strengthOf 16 = .ok (.iload_n 1, 1) := by decide +kernel
theorem dX8_strengthOf_17 : decode cX8_strengthOf 17 = .ok (.bipush 24, 2) := by decide +kernel
theorem dX8_strengthOf_19 : decode cX8_strengthOf 19 = .ok (.imul, 1) := by decide +kernel
theorem dX8_strengthOf_20 : decode cX8_strengthOf 20 = .ok (.iload_n 3, 1) := by decide +kernel
theorem dX8_strengthOf_21 : decode cX8_strengthOf 21 = .ok (.iadd, 1) := by decide +kernel
theorem dX8_strengthOf_22 : decode cX8_strengthOf 22 = .ok (.iaload, 1) := by decide +kernel
theorem dX8_strengthOf_23 : decode cX8_strengthOf 23 = .ok (.iload_n 2, 1) := by decide +kernel
theorem dX8_strengthOf_24 : decode cX8_strengthOf 24 = .ok (.if_icmp .ne 15, 3) := by decide +kernel
theorem dX8_strengthOf_27 : decode cX8_strengthOf 27 = .ok (.aload_n 0, 1) := by decide +kernel
theorem dX8_strengthOf_28 : decode cX8_strengthOf 28 = .ok (.getfield 27, 3) := by decide +kernel
theorem dX8_strengthOf_31 : decode cX8_strengthOf 31 = .ok (.iload_n 1, 1) := by decide +kernel
theorem dX8_strengthOf_32 : decode cX8_strengthOf 32 = .ok (.bipush 24, 2) := by decide +kernel
theorem dX8_strengthOf_34 : decode cX8_strengthOf 34 = .ok (.imul, 1) := by decide +kernel
theorem dX8_strengthOf_35 : decode cX8_strengthOf 35 = .ok (.iload_n 3, 1) := by decide +kernel
theorem dX8_strengthOf_36 : decode cX8_strengthOf 36 = .ok (.iadd, 1) := by decide +kernel
theorem dX8_strengthOf_37 : decode cX8_strengthOf 37 = .ok (.iaload, 1) := by decide +kernel
theorem dX8_strengthOf_38 : decode cX8_strengthOf 38 = .ok (.ireturn, 1) := by decide +kernel
theorem dX8_strengthOf_39 : decode cX8_strengthOf 39 = .ok (.iinc 3 1, 3) := by decide +kernel
theorem dX8_strengthOf_42 : decode cX8_strengthOf 42 = .ok (.goto (-40), 3) := by decide +kernel
theorem dX8_strengthOf_45 : decode cX8_strengthOf 45 = .ok (.iconst 0, 1) := by decide +kernel
theorem dX8_strengthOf_46 : decode cX8_strengthOf 46 = .ok (.ireturn, 1) := by decide +kernel
theorem dX8_friendBy_0 : decode cX8_friendBy 0 = .ok (.iconst 0, 1) := by decide +kernel
theorem dX8_friendBy_1 : decode cX8_friendBy 1 = .ok (.istore_n 3, 1) := by decide +kernel
theorem dX8_friendBy_2 : decode cX8_friendBy 2 = .ok (.iconst 0, 1) := by decide +kernel
theorem dX8_friendBy_3 : decode cX8_friendBy 3 = .ok (.istore 4, 2) := by decide +kernel
theorem dX8_friendBy_5 : decode cX8_friendBy 5 = .ok (.iload 4, 2) := by decide +kernel
theorem dX8_friendBy_7 : decode cX8_friendBy 7 = .ok (.aload_n 0, 1) := by decide +kernel
theorem dX8_friendBy_8 : decode cX8_friendBy 8 = .ok (.getfield 18, 3) := by decide +kernel
theorem dX8_friendBy_11 : decode cX8_friendBy 11 = .ok (.iload_n 1, 1) := by decide +kernel
theorem dX8_friendBy_12 : decode cX8_friendBy 12 = .ok (.iaload, 1) := by decide +kernel
theorem dX8_friendBy_13 : decode cX8_friendBy 13 = .ok (.if_icmp .ge 42, 3) := by decide +kernel
theorem dX8_friendBy_16 : decode cX8_friendBy 16 = .ok (.iload_n 3, 1) := by decide +kernel
theorem dX8_friendBy_17 : decode cX8_friendBy 17 = .ok (.aload_n 0, 1) := by decide +kernel
theorem dX8_friendBy_18 : decode cX8_friendBy 18 = .ok (.getfield 27, 3) := by decide +kernel
theorem dX8_friendBy_21 : decode cX8_friendBy 21 = .ok (.iload_n 1, 1) := by decide +kernel
theorem dX8_friendBy_22 : decode cX8_friendBy 22 = .ok (.bipush 24, 2) := by decide +kernel
theorem dX8_friendBy_24 : decode cX8_friendBy 24 = .ok (.imul, 1) := by decide +kernel
theorem dX8_friendBy_25 : decode cX8_friendBy 25 = .ok (.iload 4, 2) := by decide +kernel
theorem dX8_friendBy_27 : decode cX8_friendBy 27 = .ok (.iadd, 1) := by decide +kernel
theorem dX8_friendBy_28 : decode cX8_friendBy 28 = .ok (.iaload, 1) := by decide +kernel
theorem dX8_friendBy_29 : decode cX8_friendBy 29 = .ok (.iadd, 1) := by decide +kernel
theorem dX8_friendBy_30 : decode cX8_friendBy 30 = .ok (.istore_n 3, 1) := by decide +kernel
theorem dX8_friendBy_31 : decode cX8_friendBy 31 = .ok (.iload_n 3, 1) := by decide +kernel
theorem dX8_friendBy_32 : decode cX8_friendBy 32 = .ok (.iload_n 2, 1) := by decide +kernel
theorem dX8_friendBy_33 : decode cX8_friendBy 33 = .ok (.if_icmp .le 16, 3) := by decide +kernel
theorem dX8_friendBy_36 : decode cX8_friendBy 36 = .ok (.aload_n 0, 1) := by decide +kernel
theorem dX8_friendBy_37 : decode cX8_friendBy 37 = .ok (.getfield 24, 3) := by decide +kernel
theorem dX8_friendBy_40 : decode cX8_friendBy 40 = .ok (.iload_n 1, 1) := by decide +kernel
theorem dX8_friendBy_41 : decode cX8_friendBy 41 = .ok (.bipush 24, 2) := by decide +kernel
theorem dX8_friendBy_43 : decode cX8_friendBy 43 = .ok (.imul, 1) := by decide +kernel
theorem dX8_friendBy_44 : decode cX8_friendBy 44 = .ok (.iload 4, 2) := by decide +kernel
theorem dX8_friendBy_46 : decode cX8_friendBy 46 = .ok (.iadd, 1) := by decide +kernel
theorem dX8_friendBy_47 : decode cX8_friendBy 47 = .ok (.iaload, 1) := by decide +kernel
theorem dX8_friendBy_48 : decode cX8_friendBy 48 = .ok (.ireturn, 1) := by decide +kernel
theorem dX8_friendBy_49 : decode cX8_friendBy 49 = .ok (.iinc 4 1, 3) := by decide +kernel
theorem dX8_friendBy_52 : decode cX8_friendBy 52 = .ok (.goto (-47), 3) := by decide +kernel
theorem dX8_friendBy_55 : decode cX8_friendBy 55 = .ok (.iconst (-1), 1) := by decide +kernel
theorem dX8_friendBy_56 : decode cX8_friendBy 56 = .ok (.ireturn, 1) := by decide +kernel
theorem dX9_init_0 : decode cX9_init 0 = .ok (.aload_n 0, 1) := by decide +kernel
theorem dX9_init_1 : decode cX9_init 1 = .ok (.invokespecial 3, 3) := by decide +kernel
theorem dX9_init_4 : decode cX9_init 4 = .ok (.aload_n 0, 1) := by decide +kernel
theorem dX9_init_5 : decode cX9_init 5 = .ok (.sipush 144, 3) := by decide +kernel
theorem dX9_init_8 : decode cX9_init 8 = .ok (.newarray .int, 2) := by decide +kernel
theorem dX9_init_10 : decode cX9_init 10 = .ok (.putfield 9, 3) := by decide +kernel
theorem dX9_init_13 : decode cX9_init 13 = .ok (.aload_n 0, 1) := by decide +kernel
theorem dX9_init_14 : decode cX9_init 14 = .ok (.aload_n 1, 1) := by decide +kernel
theorem dX9_init_15 : decode cX9_init 15 = .ok (.putfield 15, 3) := by decide +kernel
theorem dX9_init_18 : decode cX9_init 18 = .ok (.return_, 1) := by decide +kernel
theorem dX9_trace_0 : decode cX9_trace 0 = .ok (.iload_n 1, 1) := by decide +kernel
theorem dX9_trace_1 : decode cX9_trace 1 = .ok (.istore_n 3, 1) := by decide +kernel
theorem dX9_trace_2 : decode cX9_trace 2 = .ok (.iload_n 2, 1) := by decide +kernel
theorem dX9_trace_3 : decode cX9_trace 3 = .ok (.istore 4, 2) := by decide +kernel
theorem dX9_trace_5 : decode cX9_trace 5 = .ok (.aload_n 0, 1) := by decide +kernel
theorem dX9_trace_6 : decode cX9_trace 6 = .ok (.iconst 0, 1) := by decide +kernel
theorem dX9_trace_7 : decode cX9_trace 7 = .ok (.putfield 19, 3) := by decide +kernel
theorem dX9_trace_10 : decode cX9_trace 10 = .ok (.iconst 0, 1) := by decide +kernel
theorem dX9_trace_11 : decode cX9_trace 11 = .ok (.istore 5, 2) := by decide +kernel
theorem dX9_trace_13 : decode cX9_trace 13 = .ok (.iload 5, 2) := by decide +kernel
theorem dX9_trace_15 : decode cX9_trace 15 = .ok (.sipush 144, 3) := by decide +kernel
theorem dX9_trace_18 : decode cX9_trace 18 = .ok (.if_icmp .ge 85, 3) := by decide +kernel
theorem dX9_trace_21 : decode cX9_trace 21 = .ok (.iload_n 3, 1) := by decide +kernel
theorem dX9_trace_22 : decode cX9_trace 22 = .ok (.ifCond .lt 81, 3) := by decide +kernel
theorem dX9_trace_25 : decode cX9_trace 25 = .ok (.iload_n 3, 1) := by decide +kernel
theorem dX9_trace_26 : decode cX9_trace 26 = .ok (.bipush 24, 2) := by decide +kernel
theorem dX9_trace_28 : decode cX9_trace 28 = .ok (.if_icmp .ge 75, 3) := by decide +kernel
theorem dX9_trace_31 : decode cX9_trace 31 = .ok (.aload_n 0, 1) := by decide +kernel
theorem dX9_trace_32 : decode cX9_trace 32 = .ok (.getfield 15, 3) := by decide +kernel
theorem dX9_trace_35 : decode cX9_trace 35 = .ok (.iload_n 3, 1) := by decide +kernel
theorem dX9_trace_36 : decode cX9_trace 36 = .ok (.iload 4, 2) := by decide +kernel
theorem dX9_trace_38 : decode cX9_trace 38 = .ok (.invokevirtual 23, 3) := by decide +kernel
theorem dX9_trace_41 : decode cX9_trace 41 = .ok (.ifCond .ne 4, 3) := by decide +kernel
theorem dX9_trace_44 : decode cX9_trace 44 = .ok (.return_, 1) := by decide +kernel
theorem dX9_trace_45 : decode cX9_trace 45 = .ok (.aload_n 0, 1) := by decide +kernel
theorem dX9_trace_46 : decode cX9_trace 46 = .ok (.getfield 9, 3) := by decide +kernel
theorem dX9_trace_49 : decode cX9_trace 49 = .ok (.aload_n 0, 1) := by decide +kernel
theorem dX9_trace_50 : decode cX9_trace 50 = .ok (.getfield 19, 3) := by decide +kernel
theorem dX9_trace_53 : decode cX9_trace 53 = .ok (.iload_n 3, 1) := by decide +kernel
theorem dX9_trace_54 : decode cX9_trace 54 = .ok (.iastore, 1) := by decide +kernel
theorem dX9_trace_55 : decode cX9_trace 55 = .ok (.aload_n 0, 1) := by decide +kernel
theorem dX9_trace_56 : decode cX9_trace 56 = .ok (.dup, 1) := by decide +kernel
theorem dX9_trace_57 : decode cX9_trace 57 = .ok (.getfield 19, 3) := by decide +kernel
theorem dX9_trace_60 : decode cX9_trace 60 = .ok (.iconst 1, 1) := by decide +kernel
theorem dX9_trace_61 : decode cX9_trace 61 = .ok (.iadd, 1) := by decide +kernel
theorem dX9_trace_62 : decode cX9_trace 62 = .ok (.putfield 19, 3) := by decide +kernel
theorem dX9_trace_65 : decode cX9_trace 65 = .ok (.iload_n 3, 1) := by decide +kernel
theorem dX9_trace_66 : decode cX9_trace 66 = .ok (.bipush 6, 2) := by decide +kernel
theorem dX9_trace_68 : decode cX9_trace 68 = .ok (.imul, 1) := by decide +kernel
theorem dX9_trace_69 : decode cX9_trace 69 = .ok (.iload 4, 2) := by decide +kernel
theorem dX9_trace_71 : decode cX9_trace 71 = .ok (.iadd, 1) := by decide +kernel
theorem dX9_trace_72 : decode cX9_trace 72 = .ok (.istore 6, 2) := by decide +kernel
theorem dX9_trace_74 : decode cX9_trace 74 = .ok (.aload_n 0, 1) := by decide +kernel
theorem dX9_trace_75 : decode cX9_trace 75 = .ok (.getfield 15, 3) := by decide +kernel
theorem dX9_trace_78 : decode cX9_trace 78 = .ok (.getfield 29, 3) := by decide +kernel
theorem dX9_trace_81 : decode cX9_trace 81 = .ok (.iload 6, 2) := by decide +kernel
theorem dX9_trace_83 : decode cX9_trace 83 = .ok (.iaload, 1) := by decide +kernel
theorem dX9_trace_84 : decode cX9_trace 84 = .ok (.istore_n 3, 1) := by decide +kernel
theorem dX9_trace_85 : decode cX9_trace 85 = .ok (.aload_n 0, 1) := by decide +kernel
theorem dX9_trace_86 : decode cX9_trace 86 = .ok (.getfield 15, 3) := by decide +kernel
theorem dX9_trace_89 : decode cX9_trace 89 = .ok (.getfield 32, 3) := by decide +kernel
theorem dX9_trace_92 : decode cX9_trace 92 = .ok (.iload 6, 2) := by decide +kernel
theorem dX9_trace_94 : decode cX9_trace 94 = .ok (.iaload, 1) := by decide +kernel
theorem dX9_trace_95 : decode cX9_trace 95 = .ok (.istore 4, 2) := by decide +kernel
theorem dX9_trace_97 : decode cX9_trace 97 = .ok (.iinc 5 1, 3) := by decide +kernel
theorem dX9_trace_100 : decode cX9_trace 100 = .ok (.goto (-87), 3) := by decide +kernel
theorem dX9_trace_103 : decode cX9_trace 103 = .ok (.return_, 1) := by decide +kernel
theorem dX9_comesBy_0 : decode cX9_comesBy 0 = .ok (.iconst 0, 1) := by decide +kernel
theorem dX9_comesBy_1 : decode cX9_comesBy 1 = .ok (.istore_n 2, 1) := by decide +kernel
theorem dX9_comesBy_2 : decode cX9_comesBy 2 = .ok (.iload_n 2, 1) := by decide +kernel
theorem dX9_comesBy_3 : decode cX9_comesBy 3 = .ok (.aload_n 0, 1) := by decide +kernel
theorem dX9_comesBy_4 : decode cX9_comesBy 4 = .ok (.getfield 19, 3) := by decide +kernel
theorem dX9_comesBy_7 : decode cX9_comesBy 7 = .ok (.if_icmp .ge 21, 3) := by decide +kernel
theorem dX9_comesBy_10 : decode cX9_comesBy 10 = .ok (.aload_n 0, 1) := by decide +kernel
theorem dX9_comesBy_11 : decode cX9_comesBy 11 = .ok (.getfield 9, 3) := by decide +kernel
theorem dX9_comesBy_14 : decode cX9_comesBy 14 = .ok (.iload_n 2, 1) := by decide +kernel
theorem dX9_comesBy_15 : decode cX9_comesBy 15 = .ok (.iaload, 1) := by decide +kernel
theorem dX9_comesBy_16 : decode cX9_comesBy 16 = .ok (.iload_n 1, 1) := by decide +kernel
theorem dX9_comesBy_17 : decode cX9_comesBy 17 = .ok (.if_icmp .ne 5, 3) := by decide +kernel
theorem dX9_comesBy_20 : decode cX9_comesBy 20 = .ok (.iconst 1, 1) := by decide +kernel
theorem dX9_comesBy_21 : decode cX9_comesBy 21 = .ok (.ireturn, 1) := by decide +kernel
theorem dX9_comesBy_22 : decode cX9_comesBy 22 = .ok (.iinc 2 1, 3) := by decide +kernel
theorem dX9_comesBy_25 : decode cX9_comesBy 25 = .ok (.goto (-23), 3) := by decide +kernel
theorem dX9_comesBy_28 : decode cX9_comesBy 28 = .ok (.iconst 0, 1) := by decide +kernel
theorem dX9_comesBy_29 : decode cX9_comesBy 29 = .ok (.ireturn, 1) := by decide +kernel
theorem dX9_toldApart_0 : decode cX9_toldApart 0 = .ok (.aload_n 0, 1) := by decide +kernel
theorem dX9_toldApart_1 : decode cX9_toldApart 1 = .ok (.getfield 15, 3) := by decide +kernel
theorem dX9_toldApart_4 : decode cX9_toldApart 4 = .ok (.getfield 35, 3) := by decide +kernel
theorem dX9_toldApart_7 : decode cX9_toldApart 7 = .ok (.iload_n 2, 1) := by decide +kernel
theorem dX9_toldApart_8 : decode cX9_toldApart 8 = .ok (.bipush 6, 2) := by decide +kernel
theorem dX9_toldApart_10 : decode cX9_toldApart 10 = .ok (.imul, 1) := by decide +kernel
theorem dX9_toldApart_11 : decode cX9_toldApart 11 = .ok (.iload_n 3, 1) := by decide +kernel
theorem dX9_toldApart_12 : decode cX9_toldApart 12 = .ok (.iadd, 1) := by decide +kernel
theorem dX9_toldApart_13 : decode cX9_toldApart 13 = .ok (.iaload, 1) := by decide +kernel
theorem dX9_toldApart_14 : decode cX9_toldApart 14 = .ok (.iload_n 1, 1) := by decide +kernel
theorem dX9_toldApart_15 : decode cX9_toldApart 15 = .ok (.ishr, 1) := by decide +kernel
theorem dX9_toldApart_16 : decode cX9_toldApart 16 = .ok (.iconst 1, 1) := by decide +kernel
theorem dX9_toldApart_17 : decode cX9_toldApart 17 = .ok (.iand, 1) := by decide +kernel
theorem dX9_toldApart_18 : decode cX9_toldApart 18 = .ok (.ifCond .ne 5, 3) := by decide +kernel
theorem dX9_toldApart_21 : decode cX9_toldApart 21 = .ok (.iconst 0, 1) := by decide +kernel
theorem dX9_toldApart_22 : decode cX9_toldApart 22 = .ok (.ireturn, 1) := by decide +kernel
theorem dX9_toldApart_23 : decode cX9_toldApart 23 = .ok (.aload_n 0, 1) := by decide +kernel
theorem dX9_toldApart_24 : decode cX9_toldApart 24 = .ok (.iload_n 1, 1) := by decide +kernel
theorem dX9_toldApart_25 : decode cX9_toldApart 25 = .ok (.iload_n 3, 1) := by decide +kernel
theorem dX9_toldApart_26 : decode cX9_toldApart 26 = .ok (.invokevirtual 38, 3) := by decide +kernel
theorem dX9_toldApart_29 : decode cX9_toldApart 29 = .ok (.aload_n 0, 1) := by decide +kernel
theorem dX9_toldApart_30 : decode cX9_toldApart 30 = .ok (.iload_n 2, 1) := by decide +kernel
theorem dX9_toldApart_31 : decode cX9_toldApart 31 = .ok (.invokevirtual 42, 3) := by decide +kernel
theorem dX9_toldApart_34 : decode cX9_toldApart 34 = .ok (.ifCond .ne 7, 3) := by decide +kernel
theorem dX9_toldApart_37 : decode cX9_toldApart 37 = .ok (.iconst 1, 1) := by decide +kernel
theorem dX9_toldApart_38 : decode cX9_toldApart 38 = .ok (.goto 4, 3) := by decide +kernel
theorem dX9_toldApart_41 : decode cX9_toldApart 41 = .ok (.iconst 0, 1) := by decide +kernel
theorem dX9_toldApart_42 : decode cX9_toldApart 42 = .ok (.ireturn, 1) := by decide +kernel
theorem dX9_rootsBehind_0 : decode cX9_rootsBehind 0 = .ok (.iconst 0, 1) := by decide +kernel
theorem dX9_rootsBehind_1 : decode cX9_rootsBehind 1 = .ok (.istore_n 3, 1) := by decide +kernel
theorem dX9_rootsBehind_2 : decode cX9_rootsBehind 2 = .ok (.iconst 0, 1) := by decide +kernel
theorem dX9_rootsBehind_3 : decode cX9_rootsBehind 3 = .ok (.istore 4, 2) := by decide +kernel
theorem dX9_rootsBehind_5 : decode cX9_rootsBehind 5 = .ok (.iload 4, 2) := by decide +kernel
theorem dX9_rootsBehind_7 : decode cX9_rootsBehind 7 = .ok (.bipush 24, 2) := by decide +kernel
theorem dX9_rootsBehind_9 : decode cX9_rootsBehind 9 = .ok (.if_icmp .ge 43, 3) := by decide +kernel
theorem dX9_rootsBehind_12 : decode cX9_rootsBehind 12 = .ok (.aload_n 0, 1) := by decide +kernel
theorem dX9_rootsBehind_13 : decode cX9_rootsBehind 13 = .ok (.iload 4, 2) := by decide +kernel
theorem dX9_rootsBehind_15 : decode cX9_rootsBehind 15 = .ok (.iload_n 1, 1) := by decide +kernel
theorem dX9_rootsBehind_16 : decode cX9_rootsBehind 16 = .ok (.iload_n 2, 1) := by decide +kernel
theorem dX9_rootsBehind_17 : decode cX9_rootsBehind 17 = .ok (.invokevirtual 46, 3) := by decide +kernel
theorem dX9_rootsBehind_20 : decode cX9_rootsBehind 20 = .ok (.ifCond .eq 26, 3) := by decide +kernel
theorem dX9_rootsBehind_23 : decode cX9_rootsBehind 23 = .ok (.aload_n 0, 1) := by decide +kernel
theorem dX9_rootsBehind_24 : decode cX9_rootsBehind 24 = .ok (.getfield 19, 3) := by decide +kernel
theorem dX9_rootsBehind_27 : decode cX9_rootsBehind 27 = .ok (.ifCond .le 19, 3) := by decide +kernel
theorem dX9_rootsBehind_30 : decode cX9_rootsBehind 30 = .ok (.iload_n 3, 1) := by decide +kernel
theorem dX9_rootsBehind_31 : decode cX9_rootsBehind 31 = .ok (.iconst 1, 1) := by decide +kernel
theorem dX9_rootsBehind_32 : decode cX9_rootsBehind 32 = .ok (.aload_n 0, 1) := by decide +kernel
theorem dX9_rootsBehind_33 : decode cX9_rootsBehind 33 = .ok (.getfield 9, 3) := by decide +kernel
theorem dX9_rootsBehind_36 : decode cX9_rootsBehind 36 = .ok (.aload_n 0, 1) := by decide +kernel
theorem dX9_rootsBehind_37 : decode cX9_rootsBehind 37 = .ok (.getfield 19, 3) := by decide +kernel
theorem dX9_rootsBehind_40 : decode cX9_rootsBehind 40 = .ok (.iconst 1, 1) := by decide +kernel
theorem dX9_rootsBehind_41 : decode cX9_rootsBehind 41 = .ok (.isub, 1) := by decide +kernel
theorem dX9_rootsBehind_42 : decode cX9_rootsBehind 42 = .ok (.iaload, 1) := by decide +kernel
theorem dX9_rootsBehind_43 : decode cX9_rootsBehind 43 = .ok (.ishl, 1) := by decide +kernel
theorem dX9_rootsBehind_44 : decode cX9_rootsBehind 44 = .ok (.ior, 1) := by decide +kernel
theorem dX9_rootsBehind_45 : decode cX9_rootsBehind 45 = .ok (.istore_n 3, 1) := by decide +kernel
theorem dX9_rootsBehind_46 : decode cX9_rootsBehind 46 = .ok (.iinc 4 1, 3) := by decide +kernel
theorem dX9_rootsBehind_49 : decode cX9_rootsBehind 49 = .ok (.goto (-44), 3) := by decide +kernel
theorem dX9_rootsBehind_52 : decode cX9_rootsBehind 52 = .ok (.iload_n 3, 1) := by decide +kernel
theorem dX9_rootsBehind_53 : decode cX9_rootsBehind 53 = .ok (.invokestatic 50, 3) := by decide +kernel
theorem dX9_rootsBehind_56 : decode cX9_rootsBehind 56 = .ok (.ireturn, 1) := by decide +kernel
theorem dX9_splitBehind_0 : decode cX9_splitBehind 0 = .ok (.iconst 0, 1) := by decide +kernel
theorem dX9_splitBehind_1 : decode cX9_splitBehind 1 = .ok (.istore_n 3, 1) := by decide +kernel
theorem dX9_splitBehind_2 : decode cX9_splitBehind 2 = .ok (.iconst 0, 1) := by decide +kernel
theorem dX9_splitBehind_3 : decode cX9_splitBehind 3 = .ok (.istore 4, 2) := by decide +kernel
theorem dX9_splitBehind_5 : decode cX9_splitBehind 5 = .ok (.iload 4, 2) := by decide +kernel
theorem dX9_splitBehind_7 : decode cX9_splitBehind 7 = .ok (.bipush 24, 2) := by decide +kernel
theorem dX9_splitBehind_9 : decode cX9_splitBehind 9 = .ok (.if_icmp .ge 69, 3) := by decide +kernel
theorem dX9_splitBehind_12 : decode cX9_splitBehind 12 = .ok (.iconst 0, 1) := by decide +kernel
theorem dX9_splitBehind_13 : decode cX9_splitBehind 13 = .ok (.istore 5, 2) := by decide +kernel
theorem dX9_splitBehind_15 : decode cX9_splitBehind 15 = .ok (.iconst 0, 1) := by decide +kernel
theorem dX9_splitBehind_16 : decode cX9_splitBehind 16 = .ok (.istore 6, 2) := by decide +kernel
theorem dX9_splitBehind_18 : decode cX9_splitBehind 18 = .ok (.iload 6, 2) := by decide +kernel
theorem dX9_splitBehind_20 : decode cX9_splitBehind 20 = .ok (.bipush 24, 2) := by decide +kernel
theorem dX9_splitBehind_22 : decode cX9_splitBehind 22 = .ok (.if_icmp .ge 43, 3) := by decide +kernel
theorem dX9_splitBehind_25 : decode cX9_splitBehind 25 = .ok (.aload_n 0, 1) := by decide +kernel
theorem dX9_splitBehind_26 : decode cX9_splitBehind 26 = .ok (.getfield 15, 3) := by decide +kernel
theorem dX9_splitBehind_29 : decode cX9_splitBehind 29 = .ok (.getfield 29, 3) := by decide +kernel
theorem dX9_splitBehind_32 : decode cX9_splitBehind 32 = .ok (.iload 6, 2) := by decide +kernel
theorem dX9_splitBehind_34 : decode cX9_splitBehind 34 = .ok (.bipush 6, 2) := by decide +kernel
theorem dX9_splitBehind_36 : decode cX9_splitBehind 36 = .ok (.imul, 1) := by decide +kernel
theorem dX9_splitBehind_37 : decode cX9_splitBehind 37 = .ok (.iload_n 2, 1) := by decide +kernel
theorem dX9_splitBehind_38 : decode cX9_splitBehind 38 = .ok (.iadd, 1) := by decide +kernel
theorem dX9_splitBehind_39 : decode cX9_splitBehind 39 = .ok (.iaload, 1) := by decide +kernel
theorem dX9_splitBehind_40 : decode cX9_splitBehind 40 = .ok (.iload 4, 2) := by decide +kernel
theorem dX9_splitBehind_42 : decode cX9_splitBehind 42 = .ok (.if_icmp .ne 17, 3) := by decide +kernel
theorem dX9_splitBehind_45 : decode cX9_splitBehind 45 = .ok (.aload_n 0, 1) := by decide +kernel
theorem dX9_splitBehind_46 : decode cX9_splitBehind 46 = .ok (.iload 6, 2) := by decide +kernel
theorem dX9_splitBehind_48 : decode cX9_splitBehind 48 = .ok (.iload_n 1, 1) := by decide +kernel
theorem dX9_splitBehind_49 : decode cX9_splitBehind 49 = .ok (.iload_n 2, 1) := by decide +kernel
theorem dX9_splitBehind_50 : decode cX9_splitBehind 50 = .ok (.invokevirtual 46, 3) := by decide +kernel
theorem dX9_splitBehind_53 : decode cX9_splitBehind 53 = .ok (.ifCond .eq 6, 3) := by decide +kernel
theorem dX9_splitBehind_56 : decode cX9_splitBehind 56 = .ok (.iinc 5 1, 3) := by decide +kernel
theorem dX9_splitBehind_59 : decode cX9_splitBehind 59 = .ok (.iinc 6 1, 3) := by decide +kernel
theorem dX9_splitBehind_62 : decode cX9_splitBehind 62 = .ok (.goto (-44), 3) := by decide +kernel
theorem dX9_splitBehind_65 : decode cX9_splitBehind 65 = .ok (.iload_n 3, 1) := by decide +kernel
theorem dX9_splitBehind_66 : decode cX9_splitBehind 66 = .ok (.iload 5, 2) := by decide +kernel
theorem dX9_splitBehind_68 : decode cX9_splitBehind 68 = .ok (.invokestatic 56, 3) := by decide +kernel
theorem dX9_splitBehind_71 : decode cX9_splitBehind 71 = .ok (.istore_n 3, 1) := by decide +kernel
theorem dX9_splitBehind_72 : decode cX9_splitBehind 72 = .ok (.iinc 4 1, 3) := by decide +kernel
theorem dX9_splitBehind_75 : decode cX9_splitBehind 75 = .ok (.goto (-70), 3) := by decide +kernel
theorem dX9_splitBehind_78 : decode cX9_splitBehind 78 = .ok (.iload_n 3, 1) := by decide +kernel
theorem dX9_splitBehind_79 : decode cX9_splitBehind 79 = .ok (.ireturn, 1) := by decide +kernel
theorem dX9_thoseBy_0 : decode cX9_thoseBy 0 = .ok (.iconst 0, 1) := by decide +kernel
theorem dX9_thoseBy_1 : decode cX9_thoseBy 1 = .ok (.istore_n 3, 1) := by decide +kernel
theorem dX9_thoseBy_2 : decode cX9_thoseBy 2 = .ok (.iconst 0, 1) := by decide +kernel
theorem dX9_thoseBy_3 : decode cX9_thoseBy 3 = .ok (.istore 4, 2) := by decide +kernel
theorem dX9_thoseBy_5 : decode cX9_thoseBy 5 = .ok (.iload 4, 2) := by decide +kernel
theorem dX9_thoseBy_7 : decode cX9_thoseBy 7 = .ok (.bipush 24, 2) := by decide +kernel
theorem dX9_thoseBy_9 : decode cX9_thoseBy 9 = .ok (.if_icmp .ge 50, 3) := by decide +kernel
theorem dX9_thoseBy_12 : decode cX9_thoseBy 12 = .ok (.iload 4, 2) := by decide +kernel
theorem dX9_thoseBy_14 : decode cX9_thoseBy 14 = .ok (.iload_n 1, 1) := by decide +kernel
theorem dX9_thoseBy_15 : decode cX9_thoseBy 15 = .ok (.if_icmp .eq 38, 3) := by decide +kernel
theorem dX9_thoseBy_18 : decode cX9_thoseBy 18 = .ok (.aload_n 0, 1) := by decide +kernel
theorem dX9_thoseBy_19 : decode cX9_thoseBy 19 = .ok (.getfield 15, 3) := by decide +kernel
theorem dX9_thoseBy_22 : decode cX9_thoseBy 22 = .ok (.iload 4, 2) := by decide +kernel
theorem dX9_thoseBy_24 : decode cX9_thoseBy 24 = .ok (.iload_n 2, 1) := by decide +kernel
theorem dX9_thoseBy_25 : decode cX9_thoseBy 25 = .ok (.invokevirtual 23, 3) := by decide +kernel
theorem dX9_thoseBy_28 : decode cX9_thoseBy 28 = .ok (.ifCond .eq 25, 3) := by decide +kernel
theorem dX9_thoseBy_31 : decode cX9_thoseBy 31 = .ok (.aload_n 0, 1) := by decide +kernel
theorem dX9_thoseBy_32 : decode cX9_thoseBy 32 = .ok (.iload 4, 2) := by decide +kernel
theorem dX9_thoseBy_34 : decode cX9_thoseBy 34 = .ok (.iload_n 2, 1) := by decide +kernel
theorem dX9_thoseBy_35 : decode cX9_thoseBy 35 = .ok (.invokevirtual 38, 3) := by decide +kernel
theorem dX9_thoseBy_38 : decode cX9_thoseBy 38 = .ok (.aload_n 0, 1) := by decide +kernel
theorem dX9_thoseBy_39 : decode cX9_thoseBy 39 = .ok (.iload_n 1, 1) := by decide +kernel
theorem dX9_thoseBy_40 : decode cX9_thoseBy 40 = .ok (.invokevirtual 42, 3) := by decide +kernel
theorem dX9_thoseBy_43 : decode cX9_thoseBy 43 = .ok (.ifCond .eq 10, 3) := by decide +kernel
theorem dX9_thoseBy_46 : decode cX9_thoseBy 46 = .ok (.iload_n 3, 1) := by decide +kernel
theorem dX9_thoseBy_47 : decode cX9_thoseBy 47 = .ok (.iconst 1, 1) := by decide +kernel
theorem dX9_thoseBy_48 : decode cX9_thoseBy 48 = .ok (.iload 4, 2) := by decide +kernel
theorem dX9_thoseBy_50 : decode cX9_thoseBy 50 = .ok (.ishl, 1) := by decide +kernel
theorem dX9_thoseBy_51 : decode cX9_thoseBy 51 = .ok (.ior, 1) := by decide +kernel
theorem dX9_thoseBy_52 : decode cX9_thoseBy 52 = .ok (.istore_n 3, 1) := by decide +kernel
theorem dX9_thoseBy_53 : decode cX9_thoseBy 53 = .ok (.iinc 4 1, 3) := by decide +kernel
theorem dX9_thoseBy_56 : decode cX9_thoseBy 56 = .ok (.goto (-51), 3) := by decide +kernel
theorem dX9_thoseBy_59 : decode cX9_thoseBy 59 = .ok (.iload_n 3, 1) := by decide +kernel
theorem dX9_thoseBy_60 : decode cX9_thoseBy 60 = .ok (.ireturn, 1) := by decide +kernel
theorem dX10_init_0 : decode cX10_init 0 = .ok (.aload_n 0, 1) := by decide +kernel
theorem dX10_init_1 : decode cX10_init 1 = .ok (.invokespecial 3, 3) := by decide +kernel
theorem dX10_init_4 : decode cX10_init 4 = .ok (.aload_n 0, 1) := by decide +kernel
theorem dX10_init_5 : decode cX10_init 5 = .ok (.new 9, 3) := by decide +kernel
theorem dX10_init_8 : decode cX10_init 8 = .ok (.dup, 1) := by decide +kernel
theorem dX10_init_9 : decode cX10_init 9 = .ok (.invokespecial 11, 3) := by decide +kernel
theorem dX10_init_12 : decode cX10_init 12 = .ok (.putfield 12, 3) := by decide +kernel
theorem dX10_init_15 : decode cX10_init 15 = .ok (.aload_n 0, 1) := by decide +kernel
theorem dX10_init_16 : decode cX10_init 16 = .ok (.new 16, 3) := by decide +kernel
theorem dX10_init_19 : decode cX10_init 19 = .ok (.dup, 1) := by decide +kernel
theorem dX10_init_20 : decode cX10_init 20 = .ok (.invokespecial 18, 3) := by decide +kernel
theorem dX10_init_23 : decode cX10_init 23 = .ok (.putfield 19, 3) := by decide +kernel
theorem dX10_init_26 : decode cX10_init 26 = .ok (.aload_n 0, 1) := by decide +kernel
theorem dX10_init_27 : decode cX10_init 27 = .ok (.new 16, 3) := by decide +kernel
theorem dX10_init_30 : decode cX10_init 30 = .ok (.dup, 1) := by decide +kernel
theorem dX10_init_31 : decode cX10_init 31 = .ok (.invokespecial 18, 3) := by decide +kernel
theorem dX10_init_34 : decode cX10_init 34 = .ok (.putfield 23, 3) := by decide +kernel
theorem dX10_init_37 : decode cX10_init 37 = .ok (.aload_n 0, 1) := by decide +kernel
theorem dX10_init_38 : decode cX10_init 38 = .ok (.new 26, 3) := by decide +kernel
theorem dX10_init_41 : decode cX10_init 41 = .ok (.dup, 1) := by decide +kernel
theorem dX10_init_42 : decode cX10_init 42 = .ok (.invokespecial 28, 3) := by decide +kernel
theorem dX10_init_45 : decode cX10_init 45 = .ok (.putfield 29, 3) := by decide +kernel
theorem dX10_init_48 : decode cX10_init 48 = .ok (.aload_n 0, 1) := by decide +kernel
theorem dX10_init_49 : decode cX10_init 49 = .ok (.new 26, 3) := by decide +kernel
theorem dX10_init_52 : decode cX10_init 52 = .ok (.dup, 1) := by decide +kernel
theorem dX10_init_53 : decode cX10_init 53 = .ok (.invokespecial 28, 3) := by decide +kernel
theorem dX10_init_56 : decode cX10_init 56 = .ok (.putfield 33, 3) := by decide +kernel
theorem dX10_init_59 : decode cX10_init 59 = .ok (.aload_n 0, 1) := by decide +kernel
theorem dX10_init_60 : decode cX10_init 60 = .ok (.new 36, 3) := by decide +kernel
theorem dX10_init_63 : decode cX10_init 63 = .ok (.dup, 1) := by decide +kernel
theorem dX10_init_64 : decode cX10_init 64 = .ok (.invokespecial 38, 3) := by decide +kernel
theorem dX10_init_67 : decode cX10_init 67 = .ok (.putfield 39, 3) := by decide +kernel
theorem dX10_init_70 : decode cX10_init 70 = .ok (.aload_n 0, 1) := by decide +kernel
theorem dX10_init_71 : decode cX10_init 71 = .ok (.new 43, 3) := by decide +kernel
theorem dX10_init_74 : decode cX10_init 74 = .ok (.dup, 1) := by decide +kernel
theorem dX10_init_75 : decode cX10_init 75 = .ok (.aload_n 0, 1) := by decide +kernel
theorem dX10_init_76 : decode cX10_init 76 = .ok (.getfield 19, 3) := by decide +kernel
theorem dX10_init_79 : decode cX10_init 79 = .ok (.aload_n 0, 1) := by decide +kernel
theorem dX10_init_80 : decode cX10_init 80 = .ok (.getfield 29, 3) := by decide +kernel
theorem dX10_init_83 : decode cX10_init 83 = .ok (.aload_n 0, 1) := by decide +kernel
theorem dX10_init_84 : decode cX10_init 84 = .ok (.getfield 39, 3) := by decide +kernel
theorem dX10_init_87 : decode cX10_init 87 = .ok (.invokespecial 45, 3) := by decide +kernel
theorem dX10_init_90 : decode cX10_init 90 = .ok (.putfield 48, 3) := by decide +kernel
theorem dX10_init_93 : decode cX10_init 93 = .ok (.aload_n 0, 1) := by decide +kernel
theorem dX10_init_94 : decode cX10_init 94 = .ok (.new 52, 3) := by decide +kernel
theorem dX10_init_97 : decode cX10_init 97 = .ok (.dup, 1) := by decide +kernel
theorem dX10_init_98 : decode cX10_init 98 = .ok (.invokespecial 54, 3) := by decide +kernel
theorem dX10_init_101 : decode cX10_init 101 = .ok (.putfield 55, 3) := by decide +kernel
theorem dX10_init_104 : decode cX10_init 104 = .ok (.aload_n 0, 1) := by decide +kernel
theorem dX10_init_105 : decode cX10_init 105 = .ok (.new 52, 3) := by decide +kernel
theorem dX10_init_108 : decode cX10_init 108 = .ok (.dup, 1) := by decide +kernel
theorem dX10_init_109 : decode cX10_init 109 = .ok (.invokespecial 54, 3) := by decide +kernel
theorem dX10_init_112 : decode cX10_init 112 = .ok (.putfield 59, 3) := by decide +kernel
theorem dX10_init_115 : decode cX10_init 115 = .ok (.aload_n 0, 1) := by decide +kernel
theorem dX10_init_116 : decode cX10_init 116 = .ok (.new 52, 3) := by decide +kernel
theorem dX10_init_119 : decode cX10_init 119 = .ok (.dup, 1) := by decide +kernel
theorem dX10_init_120 : decode cX10_init 120 = .ok (.invokespecial 54, 3) := by decide +kernel
theorem dX10_init_123 : decode cX10_init 123 = .ok (.putfield 62, 3) := by decide +kernel
theorem dX10_init_126 : decode cX10_init 126 = .ok (.aload_n 0, 1) := by decide +kernel
theorem dX10_init_127 : decode cX10_init 127 = .ok (.iconst 2, 1) := by decide +kernel
theorem dX10_init_128 : decode cX10_init 128 = .ok (.anewarray 52, 3) := by decide +kernel
theorem dX10_init_131 : decode cX10_init 131 = .ok (.putfield 65, 3) := by decide +kernel
theorem dX10_init_134 : decode cX10_init 134 = .ok (.iconst 0, 1) := by decide +kernel
theorem dX10_init_135 : decode cX10_init 135 = .ok (.istore_n 1, 1) := by decide +kernel
theorem dX10_init_136 : decode cX10_init 136 = .ok (.iload_n 1, 1) := by decide +kernel
theorem dX10_init_137 : decode cX10_init 137 = .ok (.iconst 2, 1) := by decide +kernel
theorem dX10_init_138 : decode cX10_init 138 = .ok (.if_icmp .ge 22, 3) := by decide +kernel
theorem dX10_init_141 : decode cX10_init 141 = .ok (.aload_n 0, 1) := by decide +kernel
theorem dX10_init_142 : decode cX10_init 142 = .ok (.getfield 65, 3) := by decide +kernel
theorem dX10_init_145 : decode cX10_init 145 = .ok (.iload_n 1, 1) := by decide +kernel
theorem dX10_init_146 : decode cX10_init 146 = .ok (.new 52, 3) := by decide +kernel
theorem dX10_init_149 : decode cX10_init 149 = .ok (.dup, 1) := by decide +kernel
theorem dX10_init_150 : decode cX10_init 150 = .ok (.invokespecial 54, 3) := by decide +kernel
theorem dX10_init_153 : decode cX10_init 153 = .ok (.aastore, 1) := by decide +kernel
theorem dX10_init_154 : decode cX10_init 154 = .ok (.iinc 1 1, 3) := by decide +kernel
theorem dX10_init_157 : decode cX10_init 157 = .ok (.goto (-21), 3) := by decide +kernel
theorem dX10_init_160 : decode cX10_init 160 = .ok (.aload_n 0, 1) := by decide +kernel
theorem dX10_init_161 : decode cX10_init 161 = .ok (.new 69, 3) := by decide +kernel
theorem dX10_init_164 : decode cX10_init 164 = .ok (.dup, 1) := by decide +kernel
theorem dX10_init_165 : decode cX10_init 165 = .ok (.aload_n 0, 1) := by decide +kernel
theorem dX10_init_166 : decode cX10_init 166 = .ok (.getfield 55, 3) := by decide +kernel
theorem dX10_init_169 : decode cX10_init 169 = .ok (.invokespecial 71, 3) := by decide +kernel
theorem dX10_init_172 : decode cX10_init 172 = .ok (.putfield 74, 3) := by decide +kernel
theorem dX10_init_175 : decode cX10_init 175 = .ok (.aload_n 0, 1) := by decide +kernel
theorem dX10_init_176 : decode cX10_init 176 = .ok (.new 78, 3) := by decide +kernel
theorem dX10_init_179 : decode cX10_init 179 = .ok (.dup, 1) := by decide +kernel
theorem dX10_init_180 : decode cX10_init 180 = .ok (.invokespecial 80, 3) := by decide +kernel
theorem dX10_init_183 : decode cX10_init 183 = .ok (.putfield 81, 3) := by decide +kernel
theorem dX10_init_186 : decode cX10_init 186 = .ok (.aload_n 0, 1) := by decide +kernel
theorem dX10_init_187 : decode cX10_init 187 = .ok (.new 85, 3) := by decide +kernel
theorem dX10_init_190 : decode cX10_init 190 = .ok (.dup, 1) := by decide +kernel
theorem dX10_init_191 : decode cX10_init 191 = .ok (.aload_n 0, 1) := by decide +kernel
theorem dX10_init_192 : decode cX10_init 192 = .ok (.getfield 19, 3) := by decide +kernel
theorem dX10_init_195 : decode cX10_init 195 = .ok (.invokespecial 87, 3) := by decide +kernel
theorem dX10_init_198 : decode cX10_init 198 = .ok (.putfield 90, 3) := by decide +kernel
theorem dX10_init_201 : decode cX10_init 201 = .ok (.aload_n 0, 1) := by decide +kernel
theorem dX10_init_202 : decode cX10_init 202 = .ok (.new 94, 3) := by decide +kernel
theorem dX10_init_205 : decode cX10_init 205 = .ok (.dup, 1) := by decide +kernel
theorem dX10_init_206 : decode cX10_init 206 = .ok (.invokespecial 96, 3) := by decide +kernel
theorem dX10_init_209 : decode cX10_init 209 = .ok (.putfield 97, 3) := by decide +kernel
theorem dX10_init_212 : decode cX10_init 212 = .ok (.aload_n 0, 1) := by decide +kernel
theorem dX10_init_213 : decode cX10_init 213 = .ok (.iconst (-1), 1) := by decide +kernel
theorem dX10_init_214 : decode cX10_init 214 = .ok (.putfield 101, 3) := by decide +kernel
theorem dX10_init_217 : decode cX10_init 217 = .ok (.return_, 1) := by decide +kernel
theorem dX10_feed_0 : decode cX10_feed 0 = .ok (.iload_n 1, 1) := by decide +kernel
theorem dX10_feed_1 : decode cX10_feed 1 = .ok (.iconst 1, 1) := by decide +kernel
theorem dX10_feed_2 : decode cX10_feed 2 = .ok (.if_icmp .lt 9, 3) := by decide +kernel
theorem dX10_feed_5 : decode cX10_feed 5 = .ok (.iload_n 1, 1) := by decide +kernel
theorem dX10_feed_6 : decode cX10_feed 6 = .ok (.bipush 8, 2) := by decide +kernel
theorem dX10_feed_8 : decode cX10_feed 8 = .ok (.if_icmp .le 6, 3) := by decide +kernel
theorem dX10_feed_11 : decode cX10_feed 11 = .ok (.ldc 105, 2) := by decide +kernel
theorem dX10_feed_13 : decode cX10_feed 13 = .ok (.ireturn, 1) := by decide +kernel
theorem dX10_feed_14 : decode cX10_feed 14 = .ok (.aload_n 0, 1) := by decide +kernel
theorem dX10_feed_15 : decode cX10_feed 15 = .ok (.getfield 12, 3) := by decide +kernel
theorem dX10_feed_18 : decode cX10_feed 18 = .ok (.getfield 106, 3) := by decide +kernel
theorem dX10_feed_21 : decode cX10_feed 21 = .ok (.iload_n 1, 1) := by decide +kernel
theorem dX10_feed_22 : decode cX10_feed 22 = .ok (.iadd, 1) := by decide +kernel
theorem dX10_feed_23 : decode cX10_feed 23 = .ok (.sipush 600, 3) := by decide +kernel
theorem dX10_feed_26 : decode cX10_feed 26 = .ok (.if_icmp .le 6, 3) := by decide +kernel
theorem dX10_feed_29 : decode cX10_feed 29 = .ok (.ldc 109, 2) := by decide +kernel
theorem dX10_feed_31 : decode cX10_feed 31 = .ok (.ireturn, 1) := by decide +kernel
theorem dX10_feed_32 : decode cX10_feed 32 = .ok (.iload_n 1, 1) := by decide +kernel
theorem dX10_feed_33 : decode cX10_feed 33 = .ok (.iconst 1, 1) := by decide +kernel
theorem dX10_feed_34 : decode cX10_feed 34 = .ok (.isub, 1) := by decide +kernel
theorem dX10_feed_35 : decode cX10_feed 35 = .ok (.istore 4, 2) := by decide +kernel
theorem dX10_feed_37 : decode cX10_feed 37 = .ok (.iload 4, 2) := by decide +kernel
theorem dX10_feed_39 : decode cX10_feed 39 = .ok (.ifCond .lt 29, 3) := by decide +kernel
theorem dX10_feed_42 : decode cX10_feed 42 = .ok (.aload_n 0, 1) := by decide +kernel
theorem dX10_feed_43 : decode cX10_feed 43 = .ok (.getfield 12, 3) := by decide +kernel
theorem dX10_feed_46 : decode cX10_feed 46 = .ok (.lload_n 2, 1) := by decide +kernel
theorem dX10_feed_47 : decode cX10_feed 47 = .ok (.bipush 8, 2) := by decide +kernel
theorem dX10_feed_49 : decode cX10_feed 49 = .ok (.iload 4, 2) := by decide +kernel
theorem dX10_feed_51 : decode cX10_feed 51 = .ok (.imul, 1) := by decide +kernel
theorem dX10_feed_52 : decode cX10_feed 52 = .ok (.lshr, 1) := by decide +kernel
theorem dX10_feed_53 : decode cX10_feed 53 = .ok (.ldc2_w 110, 3) := by decide +kernel
theorem dX10_feed_56 : decode cX10_feed 56 = .ok (.land, 1) := by decide +kernel
theorem dX10_feed_57 : decode cX10_feed 57 = .ok (.l2i, 1) := by decide +kernel
theorem dX10_feed_58 : decode cX10_feed 58 = .ok (.i2c, 1) := by decide +kernel
theorem dX10_feed_59 : decode cX10_feed 59 = .ok (.invokevirtual 112, 3) := by decide +kernel
theorem dX10_feed_62 : decode cX10_feed 62 = .ok (.iinc 4 (-1), 3) := by decide +kernel
theorem dX10_feed_65 : decode cX10_feed 65 = .ok (.goto (-28), 3) := by decide +kernel
theorem dX10_feed_68 : decode cX10_feed 68 = .ok (.aload_n 0, 1) := by decide +kernel
theorem dX10_feed_69 : decode cX10_feed 69 = .ok (.getfield 12, 3) := by decide +kernel
theorem dX10_feed_72 : decode cX10_feed 72 = .ok (.getfield 106, 3) := by decide +kernel
theorem dX10_feed_75 : decode cX10_feed 75 = .ok (.ireturn, 1) := by decide +kernel
theorem dX10_town_0 : decode cX10_town 0 = .ok (.aload_n 0, 1) := by decide +kernel
theorem dX10_town_1 : decode cX10_town 1 = .ok (.getfield 23, 3) := by decide +kernel
theorem dX10_town_4 : decode cX10_town 4 = .ok (.aload_n 0, 1) := by decide +kernel
theorem dX10_town_5 : decode cX10_town 5 = .ok (.getfield 12, 3) := by decide +kernel
theorem dX10_town_8 : decode cX10_town 8 = .ok (.invokevirtual 116, 3) := by decide +kernel
theorem dX10_town_11 : decode cX10_town 11 = .ok (.aload_n 0, 1) := by decide +kernel
theorem dX10_town_12 : decode cX10_town 12 = .ok (.invokevirtual 120, 3) := by decide +kernel
theorem dX10_town_15 : decode cX10_town 15 = .ok (.istore_n 1, 1) := by decide +kernel
theorem dX10_town_16 : decode cX10_town 16 = .ok (.iload_n 1, 1) := by decide +kernel
theorem dX10_town_17 : decode cX10_town 17 = .ok (.ifCond .eq 8, 3) := by decide +kernel
theorem dX10_town_20 : decode cX10_town 20 = .ok (.bipush (-10), 2) := by decide +kernel
theorem dX10_town_22 : decode cX10_town 22 = .ok (.iload_n 1, 1) := by decide +kernel
theorem dX10_town_23 : decode cX10_town 23 = .ok (.isub, 1) := by decide +kernel
theorem dX10_town_24 : decode cX10_town 24 = .ok (.ireturn, 1) := by decide +kernel
theorem dX10_town_25 : decode cX10_town 25 = .ok (.aload_n 0, 1) := by decide +kernel
theorem dX10_town_26 : decode cX10_town 26 = .ok (.getfield 19, 3) := by decide +kernel
theorem dX10_town_29 : decode cX10_town 29 = .ok (.aload_n 0, 1) := by decide +kernel
theorem dX10_town_30 : decode cX10_town 30 = .ok (.getfield 23, 3) := by decide +kernel
theorem dX10_town_33 : decode cX10_town 33 = .ok (.invokevirtual 124, 3) := by decide +kernel
theorem dX10_town_36 : decode cX10_town 36 = .ok (.aload_n 0, 1) := by decide +kernel
theorem dX10_town_37 : decode cX10_town 37 = .ok (.getfield 90, 3) := by decide +kernel
theorem dX10_town_40 : decode cX10_town 40 = .ok (.iconst 0, 1) := by decide +kernel
theorem dX10_town_41 : decode cX10_town 41 = .ok (.putfield 127, 3) := by decide +kernel
theorem dX10_town_44 : decode cX10_town 44 = .ok (.aload_n 0, 1) := by decide +kernel
theorem dX10_town_45 : decode cX10_town 45 = .ok (.getfield 81, 3) := by decide +kernel
theorem dX10_town_48 : decode cX10_town 48 = .ok (.invokevirtual 131, 3) := by decide +kernel
theorem dX10_town_51 : decode cX10_town 51 = .ok (.aload_n 0, 1) := by decide +kernel
theorem dX10_town_52 : decode cX10_town 52 = .ok (.invokevirtual 134, 3) := by decide +kernel
theorem dX10_town_55 : decode cX10_town 55 = .ok (.aload_n 0, 1) := by decide +kernel
theorem dX10_town_56 : decode cX10_town 56 = .ok (.getfield 19, 3) := by decide +kernel
theorem dX10_town_59 : decode cX10_town 59 = .ok (.getfield 137, 3) := by decide +kernel
theorem dX10_town_62 : decode cX10_town 62 = .ok (.ireturn, 1) := by decide +kernel
theorem dX10_sayings_0 : decode cX10_sayings 0 = .ok (.aload_n 0, 1) := by decide +kernel
theorem dX10_sayings_1 : decode cX10_sayings 1 = .ok (.getfield 12, 3) := by decide +kernel
theorem dX10_sayings_4 : decode cX10_sayings 4 = .ok (.getfield 106, 3) := by decide +kernel
theorem dX10_sayings_7 : decode cX10_sayings 7 = .ok (.sipush 300, 3) := by decide +kernel
theorem dX10_sayings_10 : decode cX10_sayings 10 = .ok (.if_icmp .le 6, 3) := by decide +kernel
theorem dX10_sayings_13 : decode cX10_sayings 13 = .ok (.ldc 140, 2) := by decide +kernel
theorem dX10_sayings_15 : decode cX10_sayings 15 = .ok (.ireturn, 1) := by decide +kernel
theorem dX10_sayings_16 : decode cX10_sayings 16 = .ok (.aload_n 0, 1) := by decide +kernel
theorem dX10_sayings_17 : decode cX10_sayings 17 = .ok (.getfield 33, 3) := by decide +kernel
theorem dX10_sayings_20 : decode cX10_sayings 20 = .ok (.aload_n 0, 1) := by decide +kernel
theorem dX10_sayings_21 : decode cX10_sayings 21 = .ok (.getfield 12, 3) := by decide +kernel
theorem dX10_sayings_24 : decode cX10_sayings 24 = .ok (.invokevirtual 141, 3) := by decide +kernel
theorem dX10_sayings_27 : decode cX10_sayings 27 = .ok (.aload_n 0, 1) := by decide +kernel
theorem dX10_sayings_28 : decode cX10_sayings 28 = .ok (.invokevirtual 120, 3) := by decide +kernel
theorem dX10_sayings_31 : decode cX10_sayings 31 = .ok (.istore_n 1, 1) := by decide +kernel
theorem dX10_sayings_32 : decode cX10_sayings 32 = .ok (.iload_n 1, 1) := by decide +kernel
theorem dX10_sayings_33 : decode cX10_sayings 33 = .ok (.ifCond .eq 8, 3) := by decide +kernel
theorem dX10_sayings_36 : decode cX10_sayings 36 = .ok (.bipush (-10), 2) := by decide +kernel
theorem dX10_sayings_38 : decode cX10_sayings 38 = .ok (.iload_n 1, 1) := by decide +kernel
theorem dX10_sayings_39 : decode cX10_sayings 39 = .ok (.isub, 1) := by decide +kernel
theorem dX10_sayings_40 : decode cX10_sayings 40 = .ok (.ireturn, 1) := by decide +kernel
theorem dX10_sayings_41 : decode cX10_sayings 41 = .ok (.aload_n 0, 1) := by decide +kernel
theorem dX10_sayings_42 : decode cX10_sayings 42 = .ok (.getfield 29, 3) := by decide +kernel
theorem dX10_sayings_45 : decode cX10_sayings 45 = .ok (.aload_n 0, 1) := by decide +kernel
theorem dX10_sayings_46 : decode cX10_sayings 46 = .ok (.getfield 33, 3) := by decide +kernel
theorem dX10_sayings_49 : decode cX10_sayings 49 = .ok (.invokevirtual 142, 3) := by decide +kernel
theorem dX10_sayings_52 : decode cX10_sayings 52 = .ok (.aload_n 0, 1) := by decide +kernel
theorem dX10_sayings_53 : decode cX10_sayings 53 = .ok (.invokevirtual 134, 3) := by decide +kernel
theorem dX10_sayings_56 : decode cX10_sayings 56 = .ok (.aload_n 0, 1) := by decide +kernel
theorem dX10_sayings_57 : decode cX10_sayings 57 = .ok (.getfield 29, 3) := by decide +kernel
theorem dX10_sayings_60 : decode cX10_sayings 60 = .ok (.getfield 145, 3) := by decide +kernel
theorem dX10_sayings_63 : decode cX10_sayings 63 = .ok (.ireturn, 1) := by decide +kernel
theorem dX10_fault_0 : decode cX10_fault 0 = .ok (.aload_n 0, 1) := by decide +kernel
theorem dX10_fault_1 : decode cX10_fault 1 = .ok (.getfield 101, 3) := by decide +kernel
theorem dX10_fault_4 : decode cX10_fault 4 = .ok (.ireturn, 1) := by decide +kernel
theorem dX10_count_0 : decode cX10_count 0 = .ok (.iload_n 1, 1) := by decide +kernel
theorem dX10_count_1 : decode cX10_count 1 = .ok (.tableswitch 111 0 7 #[47, 55, 63, 71, 79, 87, 95, 103], 47) := by decide +kernel
theorem dX10_count_48 : decode cX10_count 48 = .ok (.aload_n 0, 1) := by decide +kernel
theorem dX10_count_49 : decode cX10_count 49 = .ok (.getfield 19, 3) := by decide +kernel
theorem dX10_count_52 : decode cX10_count 52 = .ok (.getfield 137, 3) := by decide +kernel
theorem dX10_count_55 : decode cX10_count 55 = .ok (.ireturn, 1) := by decide +kernel
theorem dX10_count_56 : decode cX10_count 56 = .ok (.aload_n 0, 1) := by decide +kernel
theorem dX10_count_57 : decode cX10_count 57 = .ok (.getfield 19, 3) := by decide +kernel
theorem dX10_count_60 : decode cX10_count 60 = .ok (.getfield 148, 3) := by decide +kernel
theorem dX10_count_63 : decode cX10_count 63 = .ok (.ireturn, 1) := by decide +kernel
theorem dX10_count_64 : decode cX10_count 64 = .ok (.aload_n 0, 1) := by decide +kernel
theorem dX10_count_65 : decode cX10_count 65 = .ok (.getfield 29, 3) := by decide +kernel
theorem dX10_count_68 : decode cX10_count 68 = .ok (.getfield 145, 3) := by decide +kernel
theorem dX10_count_71 : decode cX10_count 71 = .ok (.ireturn, 1) := by decide +kernel
theorem dX10_count_72 : decode cX10_count 72 = .ok (.aload_n 0, 1) := by decide +kernel
theorem dX10_count_73 : decode cX10_count 73 = .ok (.getfield 12, 3) := by decide +kernel
theorem dX10_count_76 : decode cX10_count 76 = .ok (.getfield 106, 3) := by decide +kernel
theorem dX10_count_79 : decode cX10_count 79 = .ok (.ireturn, 1) := by decide +kernel
theorem dX10_count_80 : decode cX10_count 80 = .ok (.aload_n 0, 1) := by decide +kernel
theorem dX10_count_81 : decode cX10_count 81 = .ok (.getfield 55, 3) := by decide +kernel
theorem dX10_count_84 : decode cX10_count 84 = .ok (.getfield 151, 3) := by decide +kernel
theorem dX10_count_87 : decode cX10_count 87 = .ok (.ireturn, 1) := by decide +kernel
theorem dX10_count_88 : decode cX10_count 88 = .ok (.aload_n 0, 1) := by decide +kernel
theorem dX10_count_89 : decode cX10_count 89 = .ok (.getfield 55, 3) := by decide +kernel
theorem dX10_count_92 : decode cX10_count 92 = .ok (.getfield 154, 3) := by decide +kernel
theorem dX10_count_95 : decode cX10_count 95 = .ok (.ireturn, 1) := by decide +kernel
theorem dX10_count_96 : decode cX10_count 96 = .ok (.aload_n 0, 1) := by decide +kernel
theorem dX10_count_97 : decode cX10_count 97 = .ok (.getfield 81, 3) := by decide +kernel
theorem dX10_count_100 : decode cX10_count 100 = .ok (.invokevirtual 157, 3) := by decide +kernel
theorem dX10_count_103 : decode cX10_count 103 = .ok (.ireturn, 1) := by decide +kernel
theorem dX10_count_104 : decode cX10_count 104 = .ok (.aload_n 0, 1) := by decide +kernel
theorem dX10_count_105 : decode cX10_count 105 = .ok (.getfield 55, 3) := by decide +kernel
theorem dX10_count_108 : decode cX10_count 108 = .ok (.getfield 160, 3) := by decide +kernel
theorem dX10_count_111 : decode cX10_count 111 = .ok (.ireturn, 1) := by decide +kernel
theorem dX10_count_112 : decode cX10_count 112 = .ok (.ldc 105, 2) := by decide +kernel
theorem dX10_count_114 : decode cX10_count 114 = .ok (.ireturn, 1) := by decide +kernel
theorem dX10_person_0 : decode cX10_person 0 = .ok (.aload_n 0, 1) := by decide +kernel
theorem dX10_person_1 : decode cX10_person 1 = .ok (.iload_n 1, 1) := by decide +kernel
theorem dX10_person_2 : decode cX10_person 2 = .ok (.invokevirtual 163, 3) := by decide +kernel
theorem dX10_person_5 : decode cX10_person 5 = .ok (.ifCond .ne 6, 3) := by decide +kernel
theorem dX10_person_8 : decode cX10_person 8 = .ok (.ldc 167, 2) := by decide +kernel
theorem dX10_person_10 : decode cX10_person 10 = .ok (.ireturn, 1) := by decide +kernel
theorem dX10_person_11 : decode cX10_person 11 = .ok (.iload_n 2, 1) := by decide +kernel
theorem dX10_person_12 : decode cX10_person 12 = .ok (.tableswitch 88 0 4 #[36, 46, 58, 68, 78], 36) := by decide +kernel
theorem dX10_person_48 : decode cX10_person 48 = .ok (.aload_n 0, 1) := by decide +kernel
theorem dX10_person_49 : decode cX10_person 49 = .ok (.getfield 19, 3) := by decide +kernel
theorem dX10_person_52 : decode cX10_person 52 = .ok (.getfield 168, 3) := by decide +kernel
theorem dX10_person_55 : decode cX10_person 55 = .ok (.iload_n 1, 1) := by decide +kernel
theorem dX10_person_56 : decode cX10_person 56 = .ok (.iaload, 1) := by decide +kernel
theorem dX10_person_57 : decode cX10_person 57 = .ok (.ireturn, 1) := by decide +kernel
theorem dX10_person_58 : decode cX10_person 58 = .ok (.aload_n 0, 1) := by decide +kernel
theorem dX10_person_59 : decode cX10_person 59 = .ok (.getfield 19, 3) := by decide +kernel
theorem dX10_person_62 : decode cX10_person 62 = .ok (.getfield 172, 3) := by decide +kernel
theorem dX10_person_65 : decode cX10_person 65 = .ok (.iload_n 1, 1) := by decide +kernel
theorem dX10_person_66 : decode cX10_person 66 = .ok (.ishr, 1) := by decide +kernel
theorem dX10_person_67 : decode cX10_person 67 = .ok (.iconst 1, 1) := by decide +kernel
theorem dX10_person_68 : decode cX10_person 68 = .ok (.iand, 1) := by decide +kernel
theorem dX10_person_69 : decode cX10_person 69 = .ok (.ireturn, 1) := by decide +kernel
theorem dX10_person_70 : decode cX10_person 70 = .ok (.aload_n 0, 1) := by decide +kernel
theorem dX10_person_71 : decode cX10_person 71 = .ok (.getfield 19, 3) := by decide +kernel
theorem dX10_person_74 : decode cX10_person 74 = .ok (.getfield 175, 3) := by decide +kernel
theorem dX10_person_77 : decode cX10_person 77 = .ok (.iload_n 1, 1) := by decide +kernel
theorem dX10_person_78 : decode cX10_person 78 = .ok (.iaload, 1) := by decide +kernel
theorem dX10_person_79 : decode cX10_person 79 = .ok (.ireturn, 1) := by decide +kernel
theorem dX10_person_80 : decode cX10_person 80 = .ok (.aload_n 0, 1) := by decide +kernel
theorem dX10_person_81 : decode cX10_person 81 = .ok (.getfield 19, 3) := by decide +kernel
theorem dX10_person_84 : decode cX10_person 84 = .ok (.getfield 178, 3) := by decide +kernel
theorem dX10_person_87 : decode cX10_person 87 = .ok (.iload_n 1, 1) := by decide +kernel
theorem dX10_person_88 : decode cX10_person 88 = .ok (.iaload, 1) := by decide +kernel
theorem dX10_person_89 : decode cX10_person 89 = .ok (.ireturn, 1) := by decide +kernel
theorem dX10_person_90 : decode cX10_person 90 = .ok (.aload_n 0, 1) := by decide +kernel
theorem dX10_person_91 : decode cX10_person 91 = .ok (.getfield 19, 3) := by decide +kernel
theorem dX10_person_94 : decode cX10_person 94 = .ok (.getfield 181, 3) := by decide +kernel
theorem dX10_person_97 : decode cX10_person 97 = .ok (.iload_n 1, 1) := by decide +kernel
theorem dX10_person_98 : decode cX10_person 98 = .ok (.iaload, 1) := by decide +kernel
theorem dX10_person_99 : decode cX10_person 99 = .ok (.ireturn, 1) := by decide +kernel
theorem dX10_person_100 : decode cX10_person 100 = .ok (.ldc 105, 2) := by decide +kernel
theorem dX10_person_102 : decode cX10_person 102 = .ok (.ireturn, 1) := by decide +kernel
theorem dX10_tie_0 : decode cX10_tie 0 = .ok (.aload_n 0, 1) := by decide +kernel
theorem dX10_tie_1 : decode cX10_tie 1 = .ok (.iload_n 1, 1) := by decide +kernel
theorem dX10_tie_2 : decode cX10_tie 2 = .ok (.invokevirtual 163, 3) := by decide +kernel
theorem dX10_tie_5 : decode cX10_tie 5 = .ok (.ifCond .eq 23, 3) := by decide +kernel
theorem dX10_tie_8 : decode cX10_tie 8 = .ok (.aload_n 0, 1) := by decide +kernel
theorem dX10_tie_9 : decode cX10_tie 9 = .ok (.iload_n 2, 1) := by decide +kernel
theorem dX10_tie_10 : decode cX10_tie 10 = .ok (.invokevirtual 163, 3) := by decide +kernel
theorem dX10_tie_13 : decode cX10_tie 13 = .ok (.ifCond .eq 15, 3) := by decide +kernel
theorem dX10_tie_16 : decode cX10_tie 16 = .ok (.aload_n 0, 1) := by decide +kernel
theorem dX10_tie_17 : decode cX10_tie 17 = .ok (.getfield 19, 3) := by decide +kernel
theorem dX10_tie_20 : decode cX10_tie 20 = .ok (.iload_n 1, 1) := by decide +kernel
theorem dX10_tie_21 : decode cX10_tie 21 = .ok (.iload_n 2, 1) := by decide +kernel
theorem dX10_tie_22 : decode cX10_tie 22 = .ok (.invokevirtual 184, 3) := by decide +kernel
theorem dX10_tie_25 : decode cX10_tie 25 = .ok (.goto 5, 3) := by decide +kernel
theorem dX10_tie_28 : decode cX10_tie 28 = .ok (.ldc 167, 2) := by decide +kernel
theorem dX10_tie_30 : decode cX10_tie 30 = .ok (.ireturn, 1) := by decide +kernel
theorem dX10_saying_0 : decode cX10_saying 0 = .ok (.aload_n 0, 1) := by decide +kernel
theorem dX10_saying_1 : decode cX10_saying 1 = .ok (.iload_n 1, 1) := by decide +kernel
theorem dX10_saying_2 : decode cX10_saying 2 = .ok (.invokevirtual 188, 3) := by decide +kernel
theorem dX10_saying_5 : decode cX10_saying 5 = .ok (.ifCond .ne 6, 3) := by decide +kernel
theorem dX10_saying_8 : decode cX10_saying 8 = .ok (.ldc 167, 2) := by decide +kernel
theorem dX10_saying_10 : decode cX10_saying 10 = .ok (.ireturn, 1) := by decide +kernel
theorem dX10_saying_11 : decode cX10_saying 11 = .ok (.iload_n 2, 1) := by decide +kernel
theorem dX10_saying_12 : decode cX10_saying 12 = .ok (.tableswitch 58 0 2 #[28, 38, 48], 28) := by decide +kernel
theorem dX10_saying_40 : decode cX10_saying 40 = .ok (.aload_n 0, 1) := by decide +kernel
theorem dX10_saying_41 : decode cX10_saying 41 = .ok (.getfield 29, 3) := by decide +kernel
theorem dX10_saying_44 : decode cX10_saying 44 = .ok (.getfield 191, 3) := by decide +kernel
theorem dX10_saying_47 : decode cX10_saying 47 = .ok (.iload_n 1, 1) := by decide +kernel
theorem dX10_saying_48 : decode cX10_saying 48 = .ok (.iaload, 1) := by decide +kernel
theorem dX10_saying_49 : decode cX10_saying 49 = .ok (.ireturn, 1) := by decide +kernel
theorem dX10_saying_50 : decode cX10_saying 50 = .ok (.aload_n 0, 1) := by decide +kernel
theorem dX10_saying_51 : decode cX10_saying 51 = .ok (.getfield 29, 3) := by decide +kernel
theorem dX10_saying_54 : decode cX10_saying 54 = .ok (.getfield 194, 3) := by decide +kernel
theorem dX10_saying_57 : decode cX10_saying 57 = .ok (.iload_n 1, 1) := by decide +kernel
theorem dX10_saying_58 : decode cX10_saying 58 = .ok (.iaload, 1) := by decide +kernel
theorem dX10_saying_59 : decode cX10_saying 59 = .ok (.ireturn, 1) := by decide +kernel
theorem dX10_saying_60 : decode cX10_saying 60 = .ok (.aload_n 0, 1) := by decide +kernel
theorem dX10_saying_61 : decode cX10_saying 61 = .ok (.getfield 29, 3) := by decide +kernel
theorem dX10_saying_64 : decode cX10_saying 64 = .ok (.getfield 197, 3) := by decide +kernel
theorem dX10_saying_67 : decode cX10_saying 67 = .ok (.iload_n 1, 1) := by decide +kernel
theorem dX10_saying_68 : decode cX10_saying 68 = .ok (.iaload, 1) := by decide +kernel
theorem dX10_saying_69 : decode cX10_saying 69 = .ok (.ireturn, 1) := by decide +kernel
theorem dX10_saying_70 : decode cX10_saying 70 = .ok (.ldc 105, 2) := by decide +kernel
theorem dX10_saying_72 : decode cX10_saying 72 = .ok (.ireturn, 1) := by decide +kernel
theorem dX10_pair_0 : decode cX10_pair 0 = .ok (.aload_n 0, 1) := by decide +kernel
theorem dX10_pair_1 : decode cX10_pair 1 = .ok (.iload_n 1, 1) := by decide +kernel
theorem dX10_pair_2 : decode cX10_pair 2 = .ok (.invokevirtual 188, 3) := by decide +kernel
theorem dX10_pair_5 : decode cX10_pair 5 = .ok (.ifCond .eq 11, 3) := by decide +kernel
theorem dX10_pair_8 : decode cX10_pair 8 = .ok (.aload_n 0, 1) := by decide +kernel
theorem dX10_pair_9 : decode cX10_pair 9 = .ok (.iload_n 2, 1) := by decide +kernel
theorem dX10_pair_10 : decode cX10_pair 10 = .ok (.invokevirtual 188, 3) := by decide +kernel
theorem dX10_pair_13 : decode cX10_pair 13 = .ok (.ifCond .ne 6, 3) := by decide +kernel
theorem dX10_pair_16 : decode cX10_pair 16 = .ok (.ldc 167, 2) := by decide +kernel
theorem dX10_pair_18 : decode cX10_pair 18 = .ok (.ireturn, 1) := by decide +kernel
theorem dX10_pair_19 : decode cX10_pair 19 = .ok (.iload_n 3, 1) := by decide +kernel
theorem dX10_pair_20 : decode cX10_pair 20 = .ok (.lookupswitch 52 #[(0, 28), (1, 42)], 28) := by decide +kernel
theorem dX10_pair_48 : decode cX10_pair 48 = .ok (.aload_n 0, 1) := by decide +kernel
theorem dX10_pair_49 : decode cX10_pair 49 = .ok (.getfield 29, 3) := by decide +kernel
theorem dX10_pair_52 : decode cX10_pair 52 = .ok (.getfield 200, 3) := by decide +kernel
theorem dX10_pair_55 : decode cX10_pair 55 = .ok (.iload_n 1, 1) := by decide +kernel
theorem dX10_pair_56 : decode cX10_pair 56 = .ok (.iaload, 1) := by decide +kernel
theorem dX10_pair_57 : decode cX10_pair 57 = .ok (.iload_n 2, 1) := by decide +kernel
theorem dX10_pair_58 : decode cX10_pair 58 = .ok (.ishr, 1) := by decide +kernel
theorem dX10_pair_59 : decode cX10_pair 59 = .ok (.iconst 1, 1) := by decide +kernel
theorem dX10_pair_60 : decode cX10_pair 60 = .ok (.iand, 1) := by decide +kernel
theorem dX10_pair_61 : decode cX10_pair 61 = .ok (.ireturn, 1) := by decide +kernel
theorem dX10_pair_62 : decode cX10_pair 62 = .ok (.aload_n 0, 1) := by decide +kernel
theorem dX10_pair_63 : decode cX10_pair 63 = .ok (.getfield 29, 3) := by decide +kernel
theorem dX10_pair_66 : decode cX10_pair 66 = .ok (.iload_n 1, 1) := by decide +kernel
theorem dX10_pair_67 : decode cX10_pair 67 = .ok (.iload_n 2, 1) := by decide +kernel
theorem dX10_pair_68 : decode cX10_pair 68 = .ok (.invokevirtual 203, 3) := by decide +kernel
theorem dX10_pair_71 : decode cX10_pair 71 = .ok (.ireturn, 1) := by decide +kernel
theorem dX10_pair_72 : decode cX10_pair 72 = .ok (.ldc 105, 2) := by decide +kernel
theorem dX10_pair_74 : decode cX10_pair 74 = .ok (.ireturn, 1) := by decide +kernel
theorem dX10_rule_0 : decode cX10_rule 0 = .ok (.iload_n 1, 1) := by decide +kernel
theorem dX10_rule_1 : decode cX10_rule 1 = .ok (.ifCond .ne 32, 3) := by decide +kernel
theorem dX10_rule_4 : decode cX10_rule 4 = .ok (.iload_n 2, 1) := by decide +kernel
theorem dX10_rule_5 : decode cX10_rule 5 = .ok (.iconst 1, 1) := by decide +kernel
theorem dX10_rule_6 : decode cX10_rule 6 = .ok (.if_icmp .lt 27, 3) := by decide +kernel
theorem dX10_rule_9 : decode cX10_rule 9 = .ok (.iload_n 2, 1) := by decide +kernel
theorem dX10_rule_10 : decode cX10_rule 10 = .ok (.bipush 20, 2) := by decide +kernel
theorem dX10_rule_12 : decode cX10_rule 12 = .ok (.if_icmp .gt 21, 3) := by decide +kernel
theorem dX10_rule_15 : decode cX10_rule 15 = .ok (.aload_n 0, 1) := by decide +kernel
theorem dX10_rule_16 : decode cX10_rule 16 = .ok (.getfield 39, 3) := by decide +kernel
theorem dX10_rule_19 : decode cX10_rule 19 = .ok (.getfield 206, 3) := by decide +kernel
theorem dX10_rule_22 : decode cX10_rule 22 = .ok (.istore_n 3, 1) := by decide +kernel
theorem dX10_rule_23 : decode cX10_rule 23 = .ok (.aload_n 0, 1) := by decide +kernel
theorem dX10_rule_24 : decode cX10_rule 24 = .ok (.getfield 39, 3) := by decide +kernel
theorem dX10_rule_27 : decode cX10_rule 27 = .ok (.iload_n 2, 1) := by decide +kernel
theorem dX10_rule_28 : decode cX10_rule 28 = .ok (.putfield 206, 3) := by decide +kernel
theorem dX10_rule_31 : decode cX10_rule 31 = .ok (.iload_n 3, 1) := by decide +kernel
theorem dX10_rule_32 : decode cX10_rule 32 = .ok (.ireturn, 1) := by decide +kernel
theorem dX10_rule_33 : decode cX10_rule 33 = .ok (.iload_n 1, 1) := by decide +kernel
theorem dX10_rule_34 : decode cX10_rule 34 = .ok (.iconst 1, 1) := by decide +kernel
theorem dX10_rule_35 : decode cX10_rule 35 = .ok (.if_icmp .ne 31, 3) := by decide +kernel
theorem dX10_rule_38 : decode cX10_rule 38 = .ok (.iload_n 2, 1) := by decide +kernel
theorem dX10_rule_39 : decode cX10_rule 39 = .ok (.ifCond .lt 27, 3) := by decide +kernel
theorem dX10_rule_42 : decode cX10_rule 42 = .ok (.iload_n 2, 1) := by decide +kernel
theorem dX10_rule_43 : decode cX10_rule 43 = .ok (.bipush 100, 2) := by decide +kernel
theorem dX10_rule_45 : decode cX10_rule 45 = .ok (.if_icmp .gt 21, 3) := by decide +kernel
theorem dX10_rule_48 : decode cX10_rule 48 = .ok (.aload_n 0, 1) := by decide +kernel
theorem dX10_rule_49 : decode cX10_rule 49 = .ok (.getfield 39, 3) := by decide +kernel
theorem dX10_rule_52 : decode cX10_rule 52 = .ok (.getfield 209, 3) := by decide +kernel
theorem dX10_rule_55 : decode cX10_rule 55 = .ok (.istore_n 3, 1) := by decide +kernel
theorem dX10_rule_56 : decode cX10_rule 56 = .ok (.aload_n 0, 1) := by decide +kernel
theorem dX10_rule_57 : decode cX10_rule 57 = .ok (.getfield 39, 3) := by decide +kernel
theorem dX10_rule_60 : decode cX10_rule 60 = .ok (.iload_n 2, 1) := by decide +kernel
theorem dX10_rule_61 : decode cX10_rule 61 = .ok (.putfield 209, 3) := by decide +kernel
theorem dX10_rule_64 : decode cX10_rule 64 = .ok (.iload_n 3, 1) := by decide +kernel
theorem dX10_rule_65 : decode cX10_rule 65 = .ok (.ireturn, 1) := by decide +kernel
theorem dX10_rule_66 : decode cX10_rule 66 = .ok (.ldc 105, 2) := by decide +kernel
theorem dX10_rule_68 : decode cX10_rule 68 = .ok (.ireturn, 1) := by decide +kernel
theorem dX10_begin_0 : decode cX10_begin 0 = .ok (.aload_n 0, 1) := by decide +kernel
theorem dX10_begin_1 : decode cX10_begin 1 = .ok (.iload_n 1, 1) := by decide +kernel
theorem dX10_begin_2 : decode cX10_begin 2 = .ok (.invokevirtual 163, 3) := by decide +kernel
theorem dX10_begin_5 : decode cX10_begin 5 = .ok (.ifCond .eq 11, 3) := by decide +kernel
theorem dX10_begin_8 : decode cX10_begin 8 = .ok (.aload_n 0, 1) := by decide +kernel
theorem dX10_begin_9 : decode cX10_begin 9 = .ok (.iload_n 2, 1) := by decide +kernel
theorem dX10_begin_10 : decode cX10_begin 10 = .ok (.invokevirtual 188, 3) := by decide +kernel
theorem dX10_begin_13 : decode cX10_begin 13 = .ok (.ifCond .ne 6, 3) := by decide +kernel
theorem dX10_begin_16 : decode cX10_begin 16 = .ok (.ldc 167, 2) := by decide +kernel
theorem dX10_begin_18 : decode cX10_begin 18 = .ok (.ireturn, 1) := by decide +kernel
theorem dX10_begin_19 : decode cX10_begin 19 = .ok (.aload_n 0, 1) := by decide +kernel
theorem dX10_begin_20 : decode cX10_begin 20 = .ok (.getfield 55, 3) := by decide +kernel
theorem dX10_begin_23 : decode cX10_begin 23 = .ok (.iload_n 1, 1) := by decide +kernel
theorem dX10_begin_24 : decode cX10_begin 24 = .ok (.iload_n 2, 1) := by decide +kernel
theorem dX10_begin_25 : decode cX10_begin 25 = .ok (.invokevirtual 212, 3) := by decide +kernel
theorem dX10_begin_28 : decode cX10_begin 28 = .ok (.ifCond .eq 6, 3) := by decide +kernel
theorem dX10_begin_31 : decode cX10_begin 31 = .ok (.ldc 140, 2) := by decide +kernel
theorem dX10_begin_33 : decode cX10_begin 33 = .ok (.ireturn, 1) := by decide +kernel
theorem dX10_begin_34 : decode cX10_begin 34 = .ok (.aload_n 0, 1) := by decide +kernel
theorem dX10_begin_35 : decode cX10_begin 35 = .ok (.getfield 55, 3) := by decide +kernel
theorem dX10_begin_38 : decode cX10_begin 38 = .ok (.getfield 160, 3) := by decide +kernel
theorem dX10_begin_41 : decode cX10_begin 41 = .ok (.bipush 40, 2) := by decide +kernel
theorem dX10_begin_43 : decode cX10_begin 43 = .ok (.if_icmp .lt 6, 3) := by decide +kernel
theorem dX10_begin_46 : decode cX10_begin 46 = .ok (.ldc 109, 2) := by decide +kernel
theorem dX10_begin_48 : decode cX10_begin 48 = .ok (.ireturn, 1) := by decide +kernel
theorem dX10_begin_49 : decode cX10_begin 49 = .ok (.aload_n 0, 1) := by decide +kernel
theorem dX10_begin_50 : decode cX10_begin 50 = .ok (.getfield 55, 3) := by decide +kernel
theorem dX10_begin_53 : decode cX10_begin 53 = .ok (.iload_n 1, 1) := by decide +kernel
theorem dX10_begin_54 : decode cX10_begin 54 = .ok (.iload_n 2, 1) := by decide +kernel
theorem dX10_begin_55 : decode cX10_begin 55 = .ok (.invokevirtual 216, 3) := by decide +kernel
theorem dX10_begin_58 : decode cX10_begin 58 = .ok (.aload_n 0, 1) := by decide +kernel
theorem dX10_begin_59 : decode cX10_begin 59 = .ok (.getfield 55, 3) := by decide +kernel
theorem dX10_begin_62 : decode cX10_begin 62 = .ok (.iload_n 1, 1) := by decide +kernel
theorem dX10_begin_63 : decode cX10_begin 63 = .ok (.iload_n 2, 1) := by decide +kernel
theorem dX10_begin_64 : decode cX10_begin 64 = .ok (.bipush (-2), 2) := by decide +kernel
theorem dX10_begin_66 : decode cX10_begin 66 = .ok (.iload_n 2, 1) := by decide +kernel
theorem dX10_begin_67 : decode cX10_begin 67 = .ok (.invokevirtual 220, 3) := by decide +kernel
theorem dX10_begin_70 : decode cX10_begin 70 = .ok (.aload_n 0, 1) := by decide +kernel
theorem dX10_begin_71 : decode cX10_begin 71 = .ok (.getfield 55, 3) := by decide +kernel
theorem dX10_begin_74 : decode cX10_begin 74 = .ok (.iload_n 2, 1) := by decide +kernel
theorem dX10_begin_75 : decode cX10_begin 75 = .ok (.aload_n 0, 1) := by decide +kernel
theorem dX10_begin_76 : decode cX10_begin 76 = .ok (.getfield 19, 3) := by decide +kernel
theorem dX10_begin_79 : decode cX10_begin 79 = .ok (.getfield 137, 3) := by decide +kernel
theorem dX10_begin_82 : decode cX10_begin 82 = .ok (.invokevirtual 224, 3) := by decide +kernel
theorem dX10_begin_85 : decode cX10_begin 85 = .ok (.invokestatic 227, 3) := by decide +kernel
theorem dX10_begin_88 : decode cX10_begin 88 = .ok (.ireturn, 1) := by decide +kernel
theorem dX10_go_0 : decode cX10_go 0 = .ok (.iload_n 1, 1) := by decide +kernel
theorem dX10_go_1 : decode cX10_go 1 = .ok (.iconst 1, 1) := by decide +kernel
theorem dX10_go_2 : decode cX10_go 2 = .ok (.if_icmp .lt 10, 3) := by decide +kernel
theorem dX10_go_5 : decode cX10_go 5 = .ok (.iload_n 1, 1) := by decide +kernel
theorem dX10_go_6 : decode cX10_go 6 = .ok (.sipush 500, 3) := by decide +kernel
theorem dX10_go_9 : decode cX10_go 9 = .ok (.if_icmp .le 8, 3) := by decide +kernel
theorem dX10_go_12 : decode cX10_go 12 = .ok (.ldc 105, 2) := by decide +kernel
theorem dX10_go_14 : decode cX10_go 14 = .ok (.goto 15, 3) := by decide +kernel
theorem dX10_go_17 : decode cX10_go 17 = .ok (.aload_n 0, 1) := by decide +kernel
theorem dX10_go_18 : decode cX10_go 18 = .ok (.getfield 48, 3) := by decide +kernel
theorem dX10_go_21 : decode cX10_go 21 = .ok (.aload_n 0, 1) := by decide +kernel
theorem dX10_go_22 : decode cX10_go 22 = .ok (.getfield 55, 3) := by decide +kernel
theorem dX10_go_25 : decode cX10_go 25 = .ok (.iload_n 1, 1) := by decide +kernel
theorem dX10_go_26 : decode cX10_go 26 = .ok (.invokevirtual 233, 3) := by decide +kernel
theorem dX10_go_29 : decode cX10_go 29 = .ok (.ireturn, 1) := by decide +kernel
theorem dX10_notice_0 : decode cX10_notice 0 = .ok (.iload_n 1, 1) := by decide +kernel
theorem dX10_notice_1 : decode cX10_notice 1 = .ok (.ifCond .lt 16, 3) := by decide +kernel
theorem dX10_notice_4 : decode cX10_notice 4 = .ok (.iload_n 1, 1) := by decide +kernel
theorem dX10_notice_5 : decode cX10_notice 5 = .ok (.iconst 4, 1) := by decide +kernel
theorem dX10_notice_6 : decode cX10_notice 6 = .ok (.if_icmp .ge 11, 3) := by decide +kernel
theorem dX10_notice_9 : decode cX10_notice 9 = .ok (.aload_n 0, 1) := by decide +kernel
theorem dX10_notice_10 : decode cX10_notice 10 = .ok (.iload_n 2, 1) := by decide +kernel
theorem dX10_notice_11 : decode cX10_notice 11 = .ok (.invokevirtual 188, 3) := by decide +kernel
theorem dX10_notice_14 : decode cX10_notice 14 = .ok (.ifCond .ne 6, 3) := by decide +kernel
theorem dX10_notice_17 : decode cX10_notice 17 = .ok (.ldc 167, 2) := by decide +kernel
theorem dX10_notice_19 : decode cX10_notice 19 = .ok (.ireturn, 1) := by decide +kernel
theorem dX10_notice_20 : decode cX10_notice 20 = .ok (.iload_n 3, 1) := by decide +kernel
theorem dX10_notice_21 : decode cX10_notice 21 = .ok (.ifCond .lt 9, 3) := by decide +kernel
theorem dX10_notice_24 : decode cX10_notice 24 = .ok (.iload_n 3, 1) := by decide +kernel
theorem dX10_notice_25 : decode cX10_notice 25 = .ok (.bipush 100, 2) := by decide +kernel
theorem dX10_notice_27 : decode cX10_notice 27 = .ok (.if_icmp .le 8, 3) := by decide +kernel
theorem dX10_notice_30 : decode cX10_notice 30 = .ok (.ldc 105, 2) := by decide +kernel
theorem dX10_notice_32 : decode cX10_notice 32 = .ok (.goto 17, 3) := by decide +kernel
theorem dX10_notice_35 : decode cX10_notice 35 = .ok (.aload_n 0, 1) := by decide +kernel
theorem dX10_notice_36 : decode cX10_notice 36 = .ok (.getfield 48, 3) := by decide +kernel
theorem dX10_notice_39 : decode cX10_notice 39 = .ok (.aload_n 0, 1) := by decide +kernel
theorem dX10_notice_40 : decode cX10_notice 40 = .ok (.getfield 55, 3) := by decide +kernel
theorem dX10_notice_43 : decode cX10_notice 43 = .ok (.iload_n 1, 1) := by decide +kernel
theorem dX10_notice_44 : decode cX10_notice 44 = .ok (.iload_n 2, 1) := by decide +kernel
theorem dX10_notice_45 : decode cX10_notice 45 = .ok (.iload_n 3, 1) := by decide +kernel
theorem dX10_notice_46 : decode cX10_notice 46 = .ok (.invokevirtual 237, 3) := by decide +kernel
theorem dX10_notice_49 : decode cX10_notice 49 = .ok (.ireturn, 1) := by decide +kernel
theorem dX10_holds_0 : decode cX10_holds 0 = .ok (.aload_n 0, 1) := by decide +kernel
theorem dX10_holds_1 : decode cX10_holds 1 = .ok (.iload_n 1, 1) := by decide +kernel
theorem dX10_holds_2 : decode cX10_holds 2 = .ok (.invokevirtual 163, 3) := by decide +kernel
theorem dX10_holds_5 : decode cX10_holds 5 = .ok (.ifCond .eq 11, 3) := by decide +kernel
theorem dX10_holds_8 : decode cX10_holds 8 = .ok (.aload_n 0, 1) := by decide +kernel
theorem dX10_holds_9 : decode cX10_holds 9 = .ok (.iload_n 2, 1) := by decide +kernel
theorem dX10_holds_10 : decode cX10_holds 10 = .ok (.invokevirtual 188, 3) := by decide +kernel
theorem dX10_holds_13 : decode cX10_holds 13 = .ok (.ifCond .ne 6, 3) := by decide +kernel
theorem dX10_holds_16 : decode cX10_holds 16 = .ok (.ldc 167, 2) := by decide +kernel
theorem dX10_holds_18 : decode cX10_holds 18 = .ok (.ireturn, 1) := by decide +kernel
theorem dX10_holds_19 : decode cX10_holds 19 = .ok (.iload_n 1, 1) := by decide +kernel
theorem dX10_holds_20 : decode cX10_holds 20 = .ok (.bipush 6, 2) := by decide +kernel
theorem dX10_holds_22 : decode cX10_holds 22 = .ok (.imul, 1) := by decide +kernel
theorem dX10_holds_23 : decode cX10_holds 23 = .ok (.iload_n 2, 1) := by decide +kernel
theorem dX10_holds_24 : decode cX10_holds 24 = .ok (.iadd, 1) := by decide +kernel
theorem dX10_holds_25 : decode cX10_holds 25 = .ok (.istore 4, 2) := by decide +kernel
theorem dX10_holds_27 : decode cX10_holds 27 = .ok (.aload_n 0, 1) := by decide +kernel
theorem dX10_holds_28 : decode cX10_holds 28 = .ok (.getfield 55, 3) := by decide +kernel
theorem dX10_holds_31 : decode cX10_holds 31 = .ok (.iload_n 1, 1) := by decide +kernel
theorem dX10_holds_32 : decode cX10_holds 32 = .ok (.iload_n 2, 1) := by decide +kernel
theorem dX10_holds_33 : decode cX10_holds 33 = .ok (.invokevirtual 212, 3) := by decide +kernel
theorem dX10_holds_36 : decode cX10_holds 36 = .ok (.istore 5, 2) := by decide +kernel
theorem dX10_holds_38 : decode cX10_holds 38 = .ok (.iload_n 3, 1) := by decide +kernel
theorem dX10_holds_39 : decode cX10_holds 39 = .ok (.tableswitch 105 0 4 #[33, 43, 63, 83, 94], 33) := by decide +kernel
theorem dX10_holds_72 : decode cX10_holds 72 = .ok (.aload_n 0, 1) := by decide +kernel
theorem dX10_holds_73 : decode cX10_holds 73 = .ok (.getfield 55, 3) := by decide +kernel
theorem dX10_holds_76 : decode cX10_holds 76 = .ok (.iload_n 1, 1) := by decide +kernel
theorem dX10_holds_77 : decode cX10_holds 77 = .ok (.iload_n 2, 1) := by decide +kernel
theorem dX10_holds_78 : decode cX10_holds 78 = .ok (.invokevirtual 241, 3) := by decide +kernel
theorem dX10_holds_81 : decode cX10_holds 81 = .ok (.ireturn, 1) := by decide +kernel
theorem dX10_holds_82 : decode cX10_holds 82 = .ok (.iload 5, 2) := by decide +kernel
theorem dX10_holds_84 : decode cX10_holds 84 = .ok (.ifCond .eq 16, 3) := by decide +kernel
theorem dX10_holds_87 : decode cX10_holds 87 = .ok (.aload_n 0, 1) := by decide +kernel
theorem dX10_holds_88 : decode cX10_holds 88 = .ok (.getfield 55, 3) := by decide +kernel
theorem dX10_holds_91 : decode cX10_holds 91 = .ok (.getfield 244, 3) := by decide +kernel
theorem dX10_holds_94 : decode cX10_holds 94 = .ok (.iload 4, 2) := by decide +kernel
theorem dX10_holds_96 : decode cX10_holds 96 = .ok (.iaload, 1) := by decide +kernel
theorem dX10_holds_97 : decode cX10_holds 97 = .ok (.goto 4, 3) := by decide +kernel
theorem dX10_holds_100 : decode cX10_holds 100 = .ok (.iconst (-1), 1) := by decide +kernel
theorem dX10_holds_101 : decode cX10_holds 101 = .ok (.ireturn, 1) := by decide +kernel
theorem dX10_holds_102 : decode cX10_holds 102 = .ok (.iload 5, 2) := by decide +kernel
theorem dX10_holds_104 : decode cX10_holds 104 = .ok (.ifCond .eq 16, 3) := by decide +kernel
theorem dX10_holds_107 : decode cX10_holds 107 = .ok (.aload_n 0, 1) := by decide +kernel
theorem dX10_holds_108 : decode cX10_holds 108 = .ok (.getfield 55, 3) := by decide +kernel
theorem dX10_holds_111 : decode cX10_holds 111 = .ok (.getfield 247, 3) := by decide +kernel
theorem dX10_holds_114 : decode cX10_holds 114 = .ok (.iload 4, 2) := by decide +kernel
theorem dX10_holds_116 : decode cX10_holds 116 = .ok (.iaload, 1) := by decide +kernel
theorem dX10_holds_117 : decode cX10_holds 117 = .ok (.goto 4, 3) := by decide +kernel
theorem dX10_holds_120 : decode cX10_holds 120 = .ok (.iconst (-1), 1) := by decide +kernel
theorem dX10_holds_121 : decode cX10_holds 121 = .ok (.ireturn, 1) := by decide +kernel
theorem dX10_holds_122 : decode cX10_holds 122 = .ok (.aload_n 0, 1) := by decide +kernel
theorem dX10_holds_123 : decode cX10_holds 123 = .ok (.getfield 55, 3) := by decide +kernel
theorem dX10_holds_126 : decode cX10_holds 126 = .ok (.getfield 250, 3) := by decide +kernel
theorem dX10_holds_129 : decode cX10_holds 129 = .ok (.iload 4, 2) := by decide +kernel
theorem dX10_holds_131 : decode cX10_holds 131 = .ok (.iaload, 1) := by decide +kernel
theorem dX10_holds_132 : decode cX10_holds 132 = .ok (.ireturn, 1) := by decide +kernel
theorem dX10_holds_133 : decode cX10_holds 133 = .ok (.aload_n 0, 1) := by decide +kernel
theorem dX10_holds_134 : decode cX10_holds 134 = .ok (.getfield 55, 3) := by decide +kernel
theorem dX10_holds_137 : decode cX10_holds 137 = .ok (.getfield 252, 3) := by decide +kernel
theorem dX10_holds_140 : decode cX10_holds 140 = .ok (.iload 4, 2) := by decide +kernel
theorem dX10_holds_142 : decode cX10_holds 142 = .ok (.iaload, 1) := by decide +kernel
theorem dX10_holds_143 : decode cX10_holds 143 = .ok (.ireturn, 1) := by decide +kernel
theorem dX10_holds_144 : decode cX10_holds 144 = .ok (.ldc 105, 2) := by decide +kernel
theorem dX10_holds_146 : decode cX10_holds 146 = .ok (.ireturn, 1) := by decide +kernel
theorem dX10_holders_0 : decode cX10_holders 0 = .ok (.aload_n 0, 1) := by decide +kernel
theorem dX10_holders_1 : decode cX10_holders 1 = .ok (.iload_n 1, 1) := by decide +kernel
theorem dX10_holders_2 : decode cX10_holders 2 = .ok (.invokevirtual 188, 3) := by decide +kernel
theorem dX10_holders_5 : decode cX10_holders 5 = .ok (.ifCond .eq 21, 3) := by decide +kernel
theorem dX10_holders_8 : decode cX10_holders 8 = .ok (.aload_n 0, 1) := by decide +kernel
theorem dX10_holders_9 : decode cX10_holders 9 = .ok (.getfield 55, 3) := by decide +kernel
theorem dX10_holders_12 : decode cX10_holders 12 = .ok (.iload_n 1, 1) := by decide +kernel
theorem dX10_holders_13 : decode cX10_holders 13 = .ok (.aload_n 0, 1) := by decide +kernel
theorem dX10_holders_14 : decode cX10_holders 14 = .ok (.getfield 19, 3) := by decide +kernel
theorem dX10_holders_17 : decode cX10_holders 17 = .ok (.getfield 137, 3) := by decide +kernel
theorem dX10_holders_20 : decode cX10_holders 20 = .ok (.invokevirtual 224, 3) := by decide +kernel
theorem dX10_holders_23 : decode cX10_holders 23 = .ok (.goto 5, 3) := by decide +kernel
theorem dX10_holders_26 : decode cX10_holders 26 = .ok (.ldc 167, 2) := by decide +kernel
theorem dX10_holders_28 : decode cX10_holders 28 = .ok (.ireturn, 1) := by decide +kernel
theorem dX10_way_0 : decode cX10_way 0 = .ok (.aload_n 0, 1) := by decide +kernel
theorem dX10_way_1 : decode cX10_way 1 = .ok (.iload_n 1, 1) := by decide +kernel
theorem dX10_way_2 : decode cX10_way 2 = .ok (.invokevirtual 163, 3) := by decide +kernel
theorem dX10_way_5 : decode cX10_way 5 = .ok (.ifCond .eq 11, 3) := by decide +kernel
theorem dX10_way_8 : decode cX10_way 8 = .ok (.aload_n 0, 1) := by decide +kernel
theorem dX10_way_9 : decode cX10_way 9 = .ok (.iload_n 2, 1) := by decide +kernel
theorem dX10_way_10 : decode cX10_way 10 = .ok (.invokevirtual 188, 3) := by decide +kernel
theorem dX10_way_13 : decode cX10_way 13 = .ok (.ifCond .ne 6, 3) := by decide +kernel
theorem dX10_way_16 : decode cX10_way 16 = .ok (.ldc 167, 2) := by decide +kernel
theorem dX10_way_18 : decode cX10_way 18 = .ok (.ireturn, 1) := by decide +kernel
theorem dX10_way_19 : decode cX10_way 19 = .ok (.aload_n 0, 1) := by decide +kernel
theorem dX10_way_20 : decode cX10_way 20 = .ok (.getfield 55, 3) := by decide +kernel
theorem dX10_way_23 : decode cX10_way 23 = .ok (.iload_n 1, 1) := by decide +kernel
theorem dX10_way_24 : decode cX10_way 24 = .ok (.iload_n 2, 1) := by decide +kernel
theorem dX10_way_25 : decode cX10_way 25 = .ok (.invokevirtual 212, 3) := by decide +kernel
theorem dX10_way_28 : decode cX10_way 28 = .ok (.ifCond .ne 5, 3) := by decide +kernel
theorem dX10_way_31 : decode cX10_way 31 = .ok (.iconst (-1), 1) := by decide +kernel
theorem dX10_way_32 : decode cX10_way 32 = .ok (.ireturn, 1) := by decide +kernel
theorem dX10_way_33 : decode cX10_way 33 = .ok (.aload_n 0, 1) := by decide +kernel
theorem dX10_way_34 : decode cX10_way 34 = .ok (.getfield 74, 3) := by decide +kernel
theorem dX10_way_37 : decode cX10_way 37 = .ok (.iload_n 1, 1) := by decide +kernel
theorem dX10_way_38 : decode cX10_way 38 = .ok (.iload_n 2, 1) := by decide +kernel
theorem dX10_way_39 : decode cX10_way 39 = .ok (.invokevirtual 255, 3) := by decide +kernel
theorem dX10_way_42 : decode cX10_way 42 = .ok (.iload_n 3, 1) := by decide +kernel
theorem dX10_way_43 : decode cX10_way 43 = .ok (.iconst (-1), 1) := by decide +kernel
theorem dX10_way_44 : decode cX10_way 44 = .ok (.if_icmp .ne 11, 3) := by decide +kernel
theorem dX10_way_47 : decode cX10_way 47 = .ok (.aload_n 0, 1) := by decide +kernel
theorem dX10_way_48 : decode cX10_way 48 = .ok (.getfield 74, 3) := by decide +kernel
theorem dX10_way_51 : decode cX10_way 51 = .ok (.getfield 258, 3) := by decide +kernel
theorem dX10_way_54 : decode cX10_way 54 = .ok (.ireturn, 1) := by decide +kernel
theorem dX10_way_55 : decode cX10_way 55 = .ok (.iload_n 3, 1) := by decide +kernel
theorem dX10_way_56 : decode cX10_way 56 = .ok (.ifCond .lt 26, 3) := by decide +kernel
theorem dX10_way_59 : decode cX10_way 59 = .ok (.iload_n 3, 1) := by decide +kernel
theorem dX10_way_60 : decode cX10_way 60 = .ok (.aload_n 0, 1) := by decide +kernel
theorem dX10_way_61 : decode cX10_way 61 = .ok (.getfield 74, 3) := by decide +kernel
theorem dX10_way_64 : decode cX10_way 64 = .ok (.getfield 258, 3) := by decide +kernel
theorem dX10_way_67 : decode cX10_way 67 = .ok (.if_icmp .ge 15, 3) := by decide +kernel
theorem dX10_way_70 : decode cX10_way 70 = .ok (.aload_n 0, 1) := by decide +kernel
theorem dX10_way_71 : decode cX10_way 71 = .ok (.getfield 74, 3) := by decide +kernel
theorem dX10_way_74 : decode cX10_way 74 = .ok (.getfield 259, 3) := by decide +kernel
theorem dX10_way_77 : decode cX10_way 77 = .ok (.iload_n 3, 1) := by decide +kernel
theorem dX10_way_78 : decode cX10_way 78 = .ok (.iaload, 1) := by decide +kernel
theorem dX10_way_79 : decode cX10_way 79 = .ok (.goto 4, 3) := by decide +kernel
theorem dX10_way_82 : decode cX10_way 82 = .ok (.iconst (-1), 1) := by decide +kernel
theorem dX10_way_83 : decode cX10_way 83 = .ok (.ireturn, 1) := by decide +kernel
theorem dX10_nine_0 : decode cX10_nine 0 = .ok (.aload_n 0, 1) := by decide +kernel
theorem dX10_nine_1 : decode cX10_nine 1 = .ok (.iload_n 1, 1) := by decide +kernel
theorem dX10_nine_2 : decode cX10_nine 2 = .ok (.invokevirtual 163, 3) := by decide +kernel
theorem dX10_nine_5 : decode cX10_nine 5 = .ok (.ifCond .eq 11, 3) := by decide +kernel
theorem dX10_nine_8 : decode cX10_nine 8 = .ok (.aload_n 0, 1) := by decide +kernel
theorem dX10_nine_9 : decode cX10_nine 9 = .ok (.iload_n 2, 1) := by decide +kernel
theorem dX10_nine_10 : decode cX10_nine 10 = .ok (.invokevirtual 188, 3) := by decide +kernel
theorem dX10_nine_13 : decode cX10_nine 13 = .ok (.ifCond .ne 6, 3) := by decide +kernel
theorem dX10_nine_16 : decode cX10_nine 16 = .ok (.ldc 167, 2) := by decide +kernel
theorem dX10_nine_18 : decode cX10_nine 18 = .ok (.ireturn, 1) := by decide +kernel
theorem dX10_nine_19 : decode cX10_nine 19 = .ok (.iload_n 3, 1) := by decide +kernel
theorem dX10_nine_20 : decode cX10_nine 20 = .ok (.lookupswitch 48 #[(0, 28), (1, 38)], 28) := by decide +kernel
theorem dX10_nine_48 : decode cX10_nine 48 = .ok (.aload_n 0, 1) := by decide +kernel
theorem dX10_nine_49 : decode cX10_nine 49 = .ok (.getfield 74, 3) := by decide +kernel
theorem dX10_nine_52 : decode cX10_nine 52 = .ok (.iload_n 1, 1) := by decide +kernel
theorem dX10_nine_53 : decode cX10_nine 53 = .ok (.iload_n 2, 1) := by decide +kernel
theorem dX10_nine_54 : decode cX10_nine 54 = .ok (.invokevirtual 262, 3) := by decide +kernel
theorem dX10_nine_57 : decode cX10_nine 57 = .ok (.ireturn, 1) := by decide +kernel
theorem dX10_nine_58 : decode cX10_nine 58 = .ok (.aload_n 0, 1) := by decide +kernel
theorem dX10_nine_59 : decode cX10_nine 59 = .ok (.getfield 74, 3) := by decide +kernel
theorem dX10_nine_62 : decode cX10_nine 62 = .ok (.iload_n 1, 1) := by decide +kernel
theorem dX10_nine_63 : decode cX10_nine 63 = .ok (.iload_n 2, 1) := by decide +kernel
theorem dX10_nine_64 : decode cX10_nine 64 = .ok (.invokevirtual 265, 3) := by decide +kernel
theorem dX10_nine_67 : decode cX10_nine 67 = .ok (.ireturn, 1) := by decide +kernel
theorem dX10_nine_68 : decode cX10_nine 68 = .ok (.ldc 105, 2) := by decide +kernel
theorem dX10_nine_70 : decode cX10_nine 70 = .ok (.ireturn, 1) := by decide +kernel
theorem dX10_below_0 : decode cX10_below 0 = .ok (.aload_n 0, 1) := by decide +kernel
theorem dX10_below_1 : decode cX10_below 1 = .ok (.iload_n 1, 1) := by decide +kernel
theorem dX10_below_2 : decode cX10_below 2 = .ok (.invokevirtual 163, 3) := by decide +kernel
theorem dX10_below_5 : decode cX10_below 5 = .ok (.ifCond .eq 23, 3) := by decide +kernel
theorem dX10_below_8 : decode cX10_below 8 = .ok (.aload_n 0, 1) := by decide +kernel
theorem dX10_below_9 : decode cX10_below 9 = .ok (.iload_n 2, 1) := by decide +kernel
theorem dX10_below_10 : decode cX10_below 10 = .ok (.invokevirtual 188, 3) := by decide +kernel
theorem dX10_below_13 : decode cX10_below 13 = .ok (.ifCond .eq 15, 3) := by decide +kernel
theorem dX10_below_16 : decode cX10_below 16 = .ok (.aload_n 0, 1) := by decide +kernel
theorem dX10_below_17 : decode cX10_below 17 = .ok (.getfield 74, 3) := by decide +kernel
theorem dX10_below_20 : decode cX10_below 20 = .ok (.iload_n 1, 1) := by decide +kernel
theorem dX10_below_21 : decode cX10_below 21 = .ok (.iload_n 2, 1) := by decide +kernel
theorem dX10_below_22 : decode cX10_below 22 = .ok (.invokevirtual 268, 3) := by decide +kernel
theorem dX10_below_25 : decode cX10_below 25 = .ok (.goto 5, 3) := by decide +kernel
theorem dX10_below_28 : decode cX10_below 28 = .ok (.ldc 167, 2) := by decide +kernel
theorem dX10_below_30 : decode cX10_below 30 = .ok (.ireturn, 1) := by decide +kernel
theorem dX10_curve_0 : decode cX10_curve 0 = .ok (.iload_n 1, 1) := by decide +kernel
theorem dX10_curve_1 : decode cX10_curve 1 = .ok (.aload_n 0, 1) := by decide +kernel
theorem dX10_curve_2 : decode cX10_curve 2 = .ok (.getfield 29, 3) := by decide +kernel
theorem dX10_curve_5 : decode cX10_curve 5 = .ok (.getfield 145, 3) := by decide +kernel
theorem dX10_curve_8 : decode cX10_curve 8 = .ok (.invokestatic 271, 3) := by decide +kernel
theorem dX10_curve_11 : decode cX10_curve 11 = .ok (.ifCond .eq 11, 3) := by decide +kernel
theorem dX10_curve_14 : decode cX10_curve 14 = .ok (.aload_n 0, 1) := by decide +kernel
theorem dX10_curve_15 : decode cX10_curve 15 = .ok (.iload_n 2, 1) := by decide +kernel
theorem dX10_curve_16 : decode cX10_curve 16 = .ok (.invokevirtual 188, 3) := by decide +kernel
theorem dX10_curve_19 : decode cX10_curve 19 = .ok (.ifCond .ne 6, 3) := by decide +kernel
theorem dX10_curve_22 : decode cX10_curve 22 = .ok (.ldc 167, 2) := by decide +kernel
theorem dX10_curve_24 : decode cX10_curve 24 = .ok (.ireturn, 1) := by decide +kernel
theorem dX10_curve_25 : decode cX10_curve 25 = .ok (.iload_n 3, 1) := by decide +kernel
theorem dX10_curve_26 : decode cX10_curve 26 = .ok (.ifCond .lt 10, 3) := by decide +kernel
theorem dX10_curve_29 : decode cX10_curve 29 = .ok (.iload_n 3, 1) := by decide +kernel
theorem dX10_curve_30 : decode cX10_curve 30 = .ok (.sipush 200, 3) := by decide +kernel
theorem dX10_curve_33 : decode cX10_curve 33 = .ok (.if_icmp .le 6, 3) := by decide +kernel
theorem dX10_curve_36 : decode cX10_curve 36 = .ok (.ldc 105, 2) := by decide +kernel
theorem dX10_curve_38 : decode cX10_curve 38 = .ok (.ireturn, 1) := by decide +kernel
theorem dX10_curve_39 : decode cX10_curve 39 = .ok (.aload_n 0, 1) := by decide +kernel
theorem dX10_curve_40 : decode cX10_curve 40 = .ok (.getfield 62, 3) := by decide +kernel
theorem dX10_curve_43 : decode cX10_curve 43 = .ok (.invokevirtual 274, 3) := by decide +kernel
theorem dX10_curve_46 : decode cX10_curve 46 = .ok (.aload_n 0, 1) := by decide +kernel
theorem dX10_curve_47 : decode cX10_curve 47 = .ok (.getfield 62, 3) := by decide +kernel
theorem dX10_curve_50 : decode cX10_curve 50 = .ok (.aload_n 0, 1) := by decide +kernel
theorem dX10_curve_51 : decode cX10_curve 51 = .ok (.getfield 55, 3) := by decide +kernel
theorem dX10_curve_54 : decode cX10_curve 54 = .ok (.getfield 275, 3) := by decide +kernel
theorem dX10_curve_57 : decode cX10_curve 57 = .ok (.putfield 275, 3) := by decide +kernel
theorem dX10_curve_60 : decode cX10_curve 60 = .ok (.iconst 0, 1) := by decide +kernel
theorem dX10_curve_61 : decode cX10_curve 61 = .ok (.istore 4, 2) := by decide +kernel
theorem dX10_curve_63 : decode cX10_curve 63 = .ok (.iload 4, 2) := by decide +kernel
theorem dX10_curve_65 : decode cX10_curve 65 = .ok (.iload_n 3, 1) := by decide +kernel
theorem dX10_curve_66 : decode cX10_curve 66 = .ok (.if_icmp .ge 33, 3) := by decide +kernel
theorem dX10_curve_69 : decode cX10_curve 69 = .ok (.aload_n 0, 1) := by decide +kernel
theorem dX10_curve_70 : decode cX10_curve 70 = .ok (.getfield 62, 3) := by decide +kernel
theorem dX10_curve_73 : decode cX10_curve 73 = .ok (.aload_n 0, 1) := by decide +kernel
theorem dX10_curve_74 : decode cX10_curve 74 = .ok (.getfield 55, 3) := by decide +kernel
theorem dX10_curve_77 : decode cX10_curve 77 = .ok (.iload_n 1, 1) := by decide +kernel
theorem dX10_curve_78 : decode cX10_curve 78 = .ok (.invokevirtual 279, 3) := by decide +kernel
theorem dX10_curve_81 : decode cX10_curve 81 = .ok (.aload_n 0, 1) := by decide +kernel
theorem dX10_curve_82 : decode cX10_curve 82 = .ok (.getfield 48, 3) := by decide +kernel
theorem dX10_curve_85 : decode cX10_curve 85 = .ok (.aload_n 0, 1) := by decide +kernel
theorem dX10_curve_86 : decode cX10_curve 86 = .ok (.getfield 62, 3) := by decide +kernel
theorem dX10_curve_89 : decode cX10_curve 89 = .ok (.invokevirtual 283, 3) := by decide +kernel
theorem dX10_curve_92 : decode cX10_curve 92 = .ok (.pop, 1) := by decide +kernel
theorem dX10_curve_93 : decode cX10_curve 93 = .ok (.iinc 4 1, 3) := by decide +kernel
theorem dX10_curve_96 : decode cX10_curve 96 = .ok (.goto (-33), 3) := by decide +kernel
theorem dX10_curve_99 : decode cX10_curve 99 = .ok (.aload_n 0, 1) := by decide +kernel
theorem dX10_curve_100 : decode cX10_curve 100 = .ok (.getfield 62, 3) := by decide +kernel
theorem dX10_curve_103 : decode cX10_curve 103 = .ok (.aload_n 0, 1) := by decide +kernel
theorem dX10_curve_104 : decode cX10_curve 104 = .ok (.getfield 55, 3) := by decide +kernel
theorem dX10_curve_107 : decode cX10_curve 107 = .ok (.iload_n 1, 1) := by decide +kernel
theorem dX10_curve_108 : decode cX10_curve 108 = .ok (.invokevirtual 279, 3) := by decide +kernel
theorem dX10_curve_111 : decode cX10_curve 111 = .ok (.aload_n 0, 1) := by decide +kernel
theorem dX10_curve_112 : decode cX10_curve 112 = .ok (.getfield 62, 3) := by decide +kernel
theorem dX10_curve_115 : decode cX10_curve 115 = .ok (.iload_n 2, 1) := by decide +kernel
theorem dX10_curve_116 : decode cX10_curve 116 = .ok (.aload_n 0, 1) := by decide +kernel
theorem dX10_curve_117 : decode cX10_curve 117 = .ok (.getfield 19, 3) := by decide +kernel
theorem dX10_curve_120 : decode cX10_curve 120 = .ok (.getfield 137, 3) := by decide +kernel
theorem dX10_curve_123 : decode cX10_curve 123 = .ok (.invokevirtual 224, 3) := by decide +kernel
theorem dX10_curve_126 : decode cX10_curve 126 = .ok (.invokestatic 227, 3) := by decide +kernel
theorem dX10_curve_129 : decode cX10_curve 129 = .ok (.ireturn, 1) := by decide +kernel
theorem dX10_fresh_0 : decode cX10_fresh 0 = .ok (.aload_n 0, 1) := by decide +kernel
theorem dX10_fresh_1 : decode cX10_fresh 1 = .ok (.getfield 55, 3) := by decide +kernel
theorem dX10_fresh_4 : decode cX10_fresh 4 = .ok (.getfield 151, 3) := by decide +kernel
theorem dX10_fresh_7 : decode cX10_fresh 7 = .ok (.istore_n 1, 1) := by decide +kernel
theorem dX10_fresh_8 : decode cX10_fresh 8 = .ok (.aload_n 0, 1) := by decide +kernel
theorem dX10_fresh_9 : decode cX10_fresh 9 = .ok (.getfield 55, 3) := by decide +kernel
theorem dX10_fresh_12 : decode cX10_fresh 12 = .ok (.invokevirtual 274, 3) := by decide +kernel
theorem dX10_fresh_15 : decode cX10_fresh 15 = .ok (.iload_n 1, 1) := by decide +kernel
theorem dX10_fresh_16 : decode cX10_fresh 16 = .ok (.ireturn, 1) := by decide +kernel
theorem dX10_ask_0 : decode cX10_ask 0 = .ok (.iload_n 2, 1) := by decide +kernel
theorem dX10_ask_1 : decode cX10_ask 1 = .ok (.bipush (-2), 2) := by decide +kernel
theorem dX10_ask_3 : decode cX10_ask 3 = .ok (.if_icmp .eq 16, 3) := by decide +kernel
theorem dX10_ask_6 : decode cX10_ask 6 = .ok (.aload_n 0, 1) := by decide +kernel
theorem dX10_ask_7 : decode cX10_ask 7 = .ok (.iload_n 2, 1) := by decide +kernel
theorem dX10_ask_8 : decode cX10_ask 8 = .ok (.invokevirtual 163, 3) := by decide +kernel
theorem dX10_ask_11 : decode cX10_ask 11 = .ok (.ifCond .eq 12, 3) := by decide +kernel
theorem dX10_ask_14 : decode cX10_ask 14 = .ok (.iload_n 2, 1) := by decide +kernel
theorem dX10_ask_15 : decode cX10_ask 15 = .ok (.iload_n 1, 1) := by decide +kernel
theorem dX10_ask_16 : decode cX10_ask 16 = .ok (.if_icmp .eq 7, 3) := by decide +kernel
theorem dX10_ask_19 : decode cX10_ask 19 = .ok (.iconst 1, 1) := by decide +kernel
theorem dX10_ask_20 : decode cX10_ask 20 = .ok (.goto 4, 3) := by decide +kernel
theorem dX10_ask_23 : decode cX10_ask 23 = .ok (.iconst 0, 1) := by decide +kernel
theorem dX10_ask_24 : decode cX10_ask 24 = .ok (.istore 4, 2) := by decide +kernel
theorem dX10_ask_26 : decode cX10_ask 26 = .ok (.aload_n 0, 1) := by decide +kernel
theorem dX10_ask_27 : decode cX10_ask 27 = .ok (.iload_n 1, 1) := by decide +kernel
theorem dX10_ask_28 : decode cX10_ask 28 = .ok (.invokevirtual 163, 3) := by decide +kernel
theorem dX10_ask_31 : decode cX10_ask 31 = .ok (.ifCond .eq 8, 3) := by decide +kernel
theorem dX10_ask_34 : decode cX10_ask 34 = .ok (.iload 4, 2) := by decide +kernel
theorem dX10_ask_36 : decode cX10_ask 36 = .ok (.ifCond .ne 6, 3) := by decide +kernel
theorem dX10_ask_39 : decode cX10_ask 39 = .ok (.ldc 167, 2) := by decide +kernel
theorem dX10_ask_41 : decode cX10_ask 41 = .ok (.ireturn, 1) := by decide +kernel
theorem dX10_ask_42 : decode cX10_ask 42 = .ok (.iload_n 3, 1) := by decide +kernel
theorem dX10_ask_43 : decode cX10_ask 43 = .ok (.ifCond .lt 10, 3) := by decide +kernel
theorem dX10_ask_46 : decode cX10_ask 46 = .ok (.iload_n 3, 1) := by decide +kernel
theorem dX10_ask_47 : decode cX10_ask 47 = .ok (.sipush 9999, 3) := by decide +kernel
theorem dX10_ask_50 : decode cX10_ask 50 = .ok (.if_icmp .le 8, 3) := by decide +kernel
theorem dX10_ask_53 : decode cX10_ask 53 = .ok (.ldc 105, 2) := by decide +kernel
theorem dX10_ask_55 : decode cX10_ask 55 = .ok (.goto 13, 3) := by decide +kernel
theorem dX10_ask_58 : decode cX10_ask 58 = .ok (.aload_n 0, 1) := by decide +kernel
theorem dX10_ask_59 : decode cX10_ask 59 = .ok (.getfield 81, 3) := by decide +kernel
theorem dX10_ask_62 : decode cX10_ask 62 = .ok (.iload_n 1, 1) := by decide +kernel
theorem dX10_ask_63 : decode cX10_ask 63 = .ok (.iload_n 2, 1) := by decide +kernel
theorem dX10_ask_64 : decode cX10_ask 64 = .ok (.iload_n 3, 1) := by decide +kernel
theorem dX10_ask_65 : decode cX10_ask 65 = .ok (.invokevirtual 287, 3) := by decide +kernel
theorem dX10_ask_68 : decode cX10_ask 68 = .ok (.ireturn, 1) := by decide +kernel
theorem dX10_forget_0 : decode cX10_forget 0 = .ok (.aload_n 0, 1) := by decide +kernel
theorem dX10_forget_1 : decode cX10_forget 1 = .ok (.getfield 81, 3) := by decide +kernel
theorem dX10_forget_4 : decode cX10_forget 4 = .ok (.invokevirtual 157, 3) := by decide +kernel
theorem dX10_forget_7 : decode cX10_forget 7 = .ok (.istore_n 1, 1) := by decide +kernel
theorem dX10_forget_8 : decode cX10_forget 8 = .ok (.aload_n 0, 1) := by decide +kernel
theorem dX10_forget_9 : decode cX10_forget 9 = .ok (.getfield 81, 3) := by decide +kernel
theorem dX10_forget_12 : decode cX10_forget 12 = .ok (.invokevirtual 131, 3) := by decide +kernel
theorem dX10_forget_15 : decode cX10_forget 15 = .ok (.iload_n 1, 1) := by decide +kernel
theorem dX10_forget_16 : decode cX10_forget 16 = .ok (.ireturn, 1) := by decide +kernel
theorem dX10_end_0 : decode cX10_end 0 = .ok (.aload_n 0, 1) := by decide +kernel
theorem dX10_end_1 : decode cX10_end 1 = .ok (.iload_n 1, 1) := by decide +kernel
theorem dX10_end_2 : decode cX10_end 2 = .ok (.invokevirtual 163, 3) := by decide +kernel
theorem dX10_end_5 : decode cX10_end 5 = .ok (.ifCond .ne 6, 3) := by decide +kernel
theorem dX10_end_8 : decode cX10_end 8 = .ok (.ldc 167, 2) := by decide +kernel
theorem dX10_end_10 : decode cX10_end 10 = .ok (.ireturn, 1) := by decide +kernel
theorem dX10_end_11 : decode cX10_end 11 = .ok (.aload_n 0, 1) := by decide +kernel
theorem dX10_end_12 : decode cX10_end 12 = .ok (.getfield 81, 3) := by decide +kernel
theorem dX10_end_15 : decode cX10_end 15 = .ok (.iload_n 1, 1) := by decide +kernel
theorem dX10_end_16 : decode cX10_end 16 = .ok (.invokevirtual 291, 3) := by decide +kernel
theorem dX10_end_19 : decode cX10_end 19 = .ok (.ifCond .eq 14, 3) := by decide +kernel
theorem dX10_end_22 : decode cX10_end 22 = .ok (.aload_n 0, 1) := by decide +kernel
theorem dX10_end_23 : decode cX10_end 23 = .ok (.getfield 81, 3) := by decide +kernel
theorem dX10_end_26 : decode cX10_end 26 = .ok (.iload_n 1, 1) := by decide +kernel
theorem dX10_end_27 : decode cX10_end 27 = .ok (.invokevirtual 293, 3) := by decide +kernel
theorem dX10_end_30 : decode cX10_end 30 = .ok (.goto 5, 3) := by decide +kernel
theorem dX10_end_33 : decode cX10_end 33 = .ok (.ldc 140, 2) := by decide +kernel
theorem dX10_end_35 : decode cX10_end 35 = .ok (.ireturn, 1) := by decide +kernel
theorem dX10_who_0 : decode cX10_who 0 = .ok (.iload_n 1, 1) := by decide +kernel
theorem dX10_who_1 : decode cX10_who 1 = .ok (.tableswitch 53 0 2 #[27, 36, 45], 27) := by decide +kernel
theorem dX10_who_28 : decode cX10_who 28 = .ok (.aload_n 0, 1) := by decide +kernel
theorem dX10_who_29 : decode cX10_who 29 = .ok (.getfield 81, 3) := by decide +kernel
theorem dX10_who_32 : decode cX10_who 32 = .ok (.iconst 0, 1) := by decide +kernel
theorem dX10_who_33 : decode cX10_who 33 = .ok (.invokevirtual 296, 3) := by decide +kernel
theorem dX10_who_36 : decode cX10_who 36 = .ok (.ireturn, 1) := by decide +kernel
theorem dX10_who_37 : decode cX10_who 37 = .ok (.aload_n 0, 1) := by decide +kernel
theorem dX10_who_38 : decode cX10_who 38 = .ok (.getfield 81, 3) := by decide +kernel
theorem dX10_who_41 : decode cX10_who 41 = .ok (.iconst 1, 1) := by decide +kernel
theorem dX10_who_42 : decode cX10_who 42 = .ok (.invokevirtual 296, 3) := by decide +kernel
theorem dX10_who_45 : decode cX10_who 45 = .ok (.ireturn, 1) := by decide +kernel
theorem dX10_who_46 : decode cX10_who 46 = .ok (.aload_n 0, 1) := by decide +kernel
theorem dX10_who_47 : decode cX10_who 47 = .ok (.getfield 81, 3) := by decide +kernel
theorem dX10_who_50 : decode cX10_who 50 = .ok (.invokevirtual 300, 3) := by decide +kernel
theorem dX10_who_53 : decode cX10_who 53 = .ok (.ireturn, 1) := by decide +kernel
theorem dX10_who_54 : decode cX10_who 54 = .ok (.ldc 105, 2) := by decide +kernel
theorem dX10_who_56 : decode cX10_who 56 = .ok (.ireturn, 1) := by decide +kernel
theorem dX10_best_0 : decode cX10_best 0 = .ok (.aload_n 0, 1) := by decide +kernel
theorem dX10_best_1 : decode cX10_best 1 = .ok (.iload_n 1, 1) := by decide +kernel
theorem dX10_best_2 : decode cX10_best 2 = .ok (.invokevirtual 188, 3) := by decide +kernel
theorem dX10_best_5 : decode cX10_best 5 = .ok (.ifCond .ne 6, 3) := by decide +kernel
theorem dX10_best_8 : decode cX10_best 8 = .ok (.ldc 167, 2) := by decide +kernel
theorem dX10_best_10 : decode cX10_best 10 = .ok (.ireturn, 1) := by decide +kernel
theorem dX10_best_11 : decode cX10_best 11 = .ok (.iload_n 2, 1) := by decide +kernel
theorem dX10_best_12 : decode cX10_best 12 = .ok (.ifCond .lt 31, 3) := by decide +kernel
theorem dX10_best_15 : decode cX10_best 15 = .ok (.iload_n 2, 1) := by decide +kernel
theorem dX10_best_16 : decode cX10_best 16 = .ok (.bipush 100, 2) := by decide +kernel
theorem dX10_best_18 : decode cX10_best 18 = .ok (.if_icmp .gt 25, 3) := by decide +kernel
theorem dX10_best_21 : decode cX10_best 21 = .ok (.iload_n 3, 1) := by decide +kernel
theorem dX10_best_22 : decode cX10_best 22 = .ok (.iconst 1, 1) := by decide +kernel
theorem dX10_best_23 : decode cX10_best 23 = .ok (.if_icmp .lt 20, 3) := by decide +kernel
theorem dX10_best_26 : decode cX10_best 26 = .ok (.iload_n 3, 1) := by decide +kernel
theorem dX10_best_27 : decode cX10_best 27 = .ok (.bipush 100, 2) := by decide +kernel
theorem dX10_best_29 : decode cX10_best 29 = .ok (.if_icmp .gt 14, 3) := by decide +kernel
theorem dX10_best_32 : decode cX10_best 32 = .ok (.iload 4, 2) := by decide +kernel
theorem dX10_best_34 : decode cX10_best 34 = .ok (.ifCond .lt 9, 3) := by decide +kernel
theorem dX10_best_37 : decode cX10_best 37 = .ok (.iload 4, 2) := by decide +kernel
theorem dX10_best_39 : decode cX10_best 39 = .ok (.iconst 2, 1) := by decide +kernel
theorem dX10_best_40 : decode cX10_best 40 = .ok (.if_icmp .le 6, 3) := by decide +kernel
theorem dX10_best_43 : decode cX10_best 43 = .ok (.ldc 105, 2) := by decide +kernel
theorem dX10_best_45 : decode cX10_best 45 = .ok (.ireturn, 1) := by decide +kernel
theorem dX10_best_46 : decode cX10_best 46 = .ok (.aload_n 0, 1) := by decide +kernel
theorem dX10_best_47 : decode cX10_best 47 = .ok (.getfield 62, 3) := by decide +kernel
theorem dX10_best_50 : decode cX10_best 50 = .ok (.aload_n 0, 1) := by decide +kernel
theorem dX10_best_51 : decode cX10_best 51 = .ok (.getfield 55, 3) := by decide +kernel
theorem dX10_best_54 : decode cX10_best 54 = .ok (.invokevirtual 303, 3) := by decide +kernel
theorem dX10_best_57 : decode cX10_best 57 = .ok (.aload_n 0, 1) := by decide +kernel
theorem dX10_best_58 : decode cX10_best 58 = .ok (.getfield 59, 3) := by decide +kernel
theorem dX10_best_61 : decode cX10_best 61 = .ok (.aload_n 0, 1) := by decide +kernel
theorem dX10_best_62 : decode cX10_best 62 = .ok (.getfield 55, 3) := by decide +kernel
theorem dX10_best_65 : decode cX10_best 65 = .ok (.invokevirtual 303, 3) := by decide +kernel
theorem dX10_best_68 : decode cX10_best 68 = .ok (.aload_n 0, 1) := by decide +kernel
theorem dX10_best_69 : decode cX10_best 69 = .ok (.iload_n 1, 1) := by decide +kernel
theorem dX10_best_70 : decode cX10_best 70 = .ok (.iload_n 3, 1) := by decide +kernel
theorem dX10_best_71 : decode cX10_best 71 = .ok (.invokevirtual 305, 3) := by decide +kernel
theorem dX10_best_74 : decode cX10_best 74 = .ok (.istore 5, 2) := by decide +kernel
theorem dX10_best_76 : decode cX10_best 76 = .ok (.iconst (-1), 1) := by decide +kernel
theorem dX10_best_77 : decode cX10_best 77 = .ok (.istore 6, 2) := by decide +kernel
theorem dX10_best_79 : decode cX10_best 79 = .ok (.iconst (-1), 1) := by decide +kernel
theorem dX10_best_80 : decode cX10_best 80 = .ok (.istore 7, 2) := by decide +kernel
theorem dX10_best_82 : decode cX10_best 82 = .ok (.iconst 0, 1) := by decide +kernel
theorem dX10_best_83 : decode cX10_best 83 = .ok (.istore 8, 2) := by decide +kernel
theorem dX10_best_85 : decode cX10_best 85 = .ok (.iload 8, 2) := by decide +kernel
theorem dX10_best_87 : decode cX10_best 87 = .ok (.bipush 10, 2) := by decide +kernel
theorem dX10_best_89 : decode cX10_best 89 = .ok (.if_icmp .ge 99, 3) := by decide +kernel
theorem dX10_best_92 : decode cX10_best 92 = .ok (.iload 8, 2) := by decide +kernel
theorem dX10_best_94 : decode cX10_best 94 = .ok (.iload_n 3, 1) := by decide +kernel
theorem dX10_best_95 : decode cX10_best 95 = .ok (.if_icmp .ge 93, 3) := by decide +kernel
theorem dX10_best_98 : decode cX10_best 98 = .ok (.iconst 0, 1) := by decide +kernel
theorem dX10_best_99 : decode cX10_best 99 = .ok (.istore 9, 2) := by decide +kernel
theorem dX10_best_101 : decode cX10_best 101 = .ok (.iload 9, 2) := by decide +kernel
theorem dX10_best_103 : decode cX10_best 103 = .ok (.iconst 4, 1) := by decide +kernel
theorem dX10_best_104 : decode cX10_best 104 = .ok (.if_icmp .ge 66, 3) := by decide +kernel
theorem dX10_best_107 : decode cX10_best 107 = .ok (.aload_n 0, 1) := by decide +kernel
theorem dX10_best_108 : decode cX10_best 108 = .ok (.getfield 62, 3) := by decide +kernel
theorem dX10_best_111 : decode cX10_best 111 = .ok (.aload_n 0, 1) := by decide +kernel
theorem dX10_best_112 : decode cX10_best 112 = .ok (.getfield 59, 3) := by decide +kernel
theorem dX10_best_115 : decode cX10_best 115 = .ok (.invokevirtual 303, 3) := by decide +kernel
theorem dX10_best_118 : decode cX10_best 118 = .ok (.aload_n 0, 1) := by decide +kernel
theorem dX10_best_119 : decode cX10_best 119 = .ok (.getfield 48, 3) := by decide +kernel
theorem dX10_best_122 : decode cX10_best 122 = .ok (.aload_n 0, 1) := by decide +kernel
theorem dX10_best_123 : decode cX10_best 123 = .ok (.getfield 62, 3) := by decide +kernel
theorem dX10_best_126 : decode cX10_best 126 = .ok (.iload 9, 2) := by decide +kernel
theorem dX10_best_128 : decode cX10_best 128 = .ok (.iload_n 1, 1) := by decide +kernel
theorem dX10_best_129 : decode cX10_best 129 = .ok (.iload_n 2, 1) := by decide +kernel
theorem dX10_best_130 : decode cX10_best 130 = .ok (.invokevirtual 237, 3) := by decide +kernel
theorem dX10_best_133 : decode cX10_best 133 = .ok (.pop, 1) := by decide +kernel
theorem dX10_best_134 : decode cX10_best 134 = .ok (.aload_n 0, 1) := by decide +kernel
theorem dX10_best_135 : decode cX10_best 135 = .ok (.iload_n 1, 1) := by decide +kernel
theorem dX10_best_136 : decode cX10_best 136 = .ok (.iload_n 3, 1) := by decide +kernel
theorem dX10_best_137 : decode cX10_best 137 = .ok (.iload 8, 2) := by decide +kernel
theorem dX10_best_139 : decode cX10_best 139 = .ok (.isub, 1) := by decide +kernel
theorem dX10_best_140 : decode cX10_best 140 = .ok (.invokevirtual 305, 3) := by decide +kernel
theorem dX10_best_143 : decode cX10_best 143 = .ok (.istore 10, 2) := by decide +kernel
theorem dX10_best_145 : decode cX10_best 145 = .ok (.iload 10, 2) := by decide +kernel
theorem dX10_best_147 : decode cX10_best 147 = .ok (.iload 5, 2) := by decide +kernel
theorem dX10_best_149 : decode cX10_best 149 = .ok (.if_icmp .le 15, 3) := by decide +kernel
theorem dX10_best_152 : decode cX10_best 152 = .ok (.iload 10, 2) := by decide +kernel
theorem dX10_best_154 : decode cX10_best 154 = .ok (.istore 5, 2) := by decide +kernel
theorem dX10_best_156 : decode cX10_best 156 = .ok (.iload 9, 2) := by decide +kernel
theorem dX10_best_158 : decode cX10_best 158 = .ok (.istore 6, 2) := by decide +kernel
theorem dX10_best_160 : decode cX10_best 160 = .ok (.iload 8, 2) := by decide +kernel
theorem dX10_best_162 : decode cX10_best 162 = .ok (.istore 7, 2) := by decide +kernel
theorem dX10_best_164 : decode cX10_best 164 = .ok (.iinc 9 1, 3) := by decide +kernel
theorem dX10_best_167 : decode cX10_best 167 = .ok (.goto (-66), 3) := by decide +kernel
theorem dX10_best_170 : decode cX10_best 170 = .ok (.aload_n 0, 1) := by decide +kernel
theorem dX10_best_171 : decode cX10_best 171 = .ok (.getfield 48, 3) := by decide +kernel
theorem dX10_best_174 : decode cX10_best 174 = .ok (.aload_n 0, 1) := by decide +kernel
theorem dX10_best_175 : decode cX10_best 175 = .ok (.getfield 59, 3) := by decide +kernel
theorem dX10_best_178 : decode cX10_best 178 = .ok (.invokevirtual 283, 3) := by decide +kernel
theorem dX10_best_181 : decode cX10_best 181 = .ok (.pop, 1) := by decide +kernel
theorem dX10_best_182 : decode cX10_best 182 = .ok (.iinc 8 1, 3) := by decide +kernel
theorem dX10_best_185 : decode cX10_best 185 = .ok (.goto (-100), 3) := by decide +kernel
theorem dX10_best_188 : decode cX10_best 188 = .ok (.iload 6, 2) := by decide +kernel
theorem dX10_best_190 : decode cX10_best 190 = .ok (.iconst (-1), 1) := by decide +kernel
theorem dX10_best_191 : decode cX10_best 191 = .ok (.if_icmp .ne 5, 3) := by decide +kernel
theorem dX10_best_194 : decode cX10_best 194 = .ok (.iconst (-1), 1) := by decide +kernel
theorem dX10_best_195 : decode cX10_best 195 = .ok (.ireturn, 1) := by decide +kernel
theorem dX10_best_196 : decode cX10_best 196 = .ok (.iload 4, 2) := by decide +kernel
theorem dX10_best_198 : decode cX10_best 198 = .ok (.ifCond .ne 8, 3) := by decide +kernel
theorem dX10_best_201 : decode cX10_best 201 = .ok (.iload 6, 2) := by decide +kernel
theorem dX10_best_203 : decode cX10_best 203 = .ok (.goto 16, 3) := by decide +kernel
theorem dX10_best_206 : decode cX10_best 206 = .ok (.iload 4, 2) := by decide +kernel
theorem dX10_best_208 : decode cX10_best 208 = .ok (.iconst 1, 1) := by decide +kernel
theorem dX10_best_209 : decode cX10_best 209 = .ok (.if_icmp .ne 8, 3) := by decide +kernel
theorem dX10_best_212 : decode cX10_best 212 = .ok (.iload 7, 2) := by decide +kernel
theorem dX10_best_214 : decode cX10_best 214 = .ok (.goto 5, 3) := by decide +kernel
theorem dX10_best_217 : decode cX10_best 217 = .ok (.iload 5, 2) := by decide +kernel
theorem dX10_best_219 : decode cX10_best 219 = .ok (.ireturn, 1) := by decide +kernel
theorem dX10_reach_0 : decode cX10_reach 0 = .ok (.aload_n 0, 1) := by decide +kernel
theorem dX10_reach_1 : decode cX10_reach 1 = .ok (.iload_n 1, 1) := by decide +kernel
theorem dX10_reach_2 : decode cX10_reach 2 = .ok (.invokevirtual 308, 3) := by decide +kernel
theorem dX10_reach_5 : decode cX10_reach 5 = .ok (.ifCond .eq 11, 3) := by decide +kernel
theorem dX10_reach_8 : decode cX10_reach 8 = .ok (.aload_n 0, 1) := by decide +kernel
theorem dX10_reach_9 : decode cX10_reach 9 = .ok (.iload_n 2, 1) := by decide +kernel
theorem dX10_reach_10 : decode cX10_reach 10 = .ok (.invokevirtual 308, 3) := by decide +kernel
theorem dX10_reach_13 : decode cX10_reach 13 = .ok (.ifCond .ne 6, 3) := by decide +kernel
theorem dX10_reach_16 : decode cX10_reach 16 = .ok (.ldc 167, 2) := by decide +kernel
theorem dX10_reach_18 : decode cX10_reach 18 = .ok (.ireturn, 1) := by decide +kernel
theorem dX10_reach_19 : decode cX10_reach 19 = .ok (.iload_n 3, 1) := by decide +kernel
theorem dX10_reach_20 : decode cX10_reach 20 = .ok (.invokestatic 311, 3) := by decide +kernel
theorem dX10_reach_23 : decode cX10_reach 23 = .ok (.ifCond .eq 16, 3) := by decide +kernel
theorem dX10_reach_26 : decode cX10_reach 26 = .ok (.aload_n 0, 1) := by decide +kernel
theorem dX10_reach_27 : decode cX10_reach 27 = .ok (.getfield 90, 3) := by decide +kernel
theorem dX10_reach_30 : decode cX10_reach 30 = .ok (.iload_n 1, 1) := by decide +kernel
theorem dX10_reach_31 : decode cX10_reach 31 = .ok (.iload_n 2, 1) := by decide +kernel
theorem dX10_reach_32 : decode cX10_reach 32 = .ok (.iload_n 3, 1) := by decide +kernel
theorem dX10_reach_33 : decode cX10_reach 33 = .ok (.invokevirtual 314, 3) := by decide +kernel
theorem dX10_reach_36 : decode cX10_reach 36 = .ok (.goto 5, 3) := by decide +kernel
theorem dX10_reach_39 : decode cX10_reach 39 = .ok (.ldc 105, 2) := by decide +kernel
theorem dX10_reach_41 : decode cX10_reach 41 = .ok (.ireturn, 1) := by decide +kernel
theorem dX10_many_0 : decode cX10_many 0 = .ok (.iload_n 1, 1) := by decide +kernel
theorem dX10_many_1 : decode cX10_many 1 = .ok (.aload_n 0, 1) := by decide +kernel
theorem dX10_many_2 : decode cX10_many 2 = .ok (.getfield 90, 3) := by decide +kernel
theorem dX10_many_5 : decode cX10_many 5 = .ok (.invokevirtual 317, 3) := by decide +kernel
theorem dX10_many_8 : decode cX10_many 8 = .ok (.invokestatic 271, 3) := by decide +kernel
theorem dX10_many_11 : decode cX10_many 11 = .ok (.ifCond .ne 6, 3) := by decide +kernel
theorem dX10_many_14 : decode cX10_many 14 = .ok (.ldc 167, 2) := by decide +kernel
theorem dX10_many_16 : decode cX10_many 16 = .ok (.ireturn, 1) := by decide +kernel
theorem dX10_many_17 : decode cX10_many 17 = .ok (.iload_n 2, 1) := by decide +kernel
theorem dX10_many_18 : decode cX10_many 18 = .ok (.invokestatic 311, 3) := by decide +kernel
theorem dX10_many_21 : decode cX10_many 21 = .ok (.ifCond .eq 15, 3) := by decide +kernel
theorem dX10_many_24 : decode cX10_many 24 = .ok (.aload_n 0, 1) := by decide +kernel
theorem dX10_many_25 : decode cX10_many 25 = .ok (.getfield 90, 3) := by decide +kernel
theorem dX10_many_28 : decode cX10_many 28 = .ok (.iload_n 1, 1) := by decide +kernel
theorem dX10_many_29 : decode cX10_many 29 = .ok (.iload_n 2, 1) := by decide +kernel
theorem dX10_many_30 : decode cX10_many 30 = .ok (.invokevirtual 320, 3) := by decide +kernel
theorem dX10_many_33 : decode cX10_many 33 = .ok (.goto 5, 3) := by decide +kernel
theorem dX10_many_36 : decode cX10_many 36 = .ok (.ldc 105, 2) := by decide +kernel
theorem dX10_many_38 : decode cX10_many 38 = .ok (.ireturn, 1) := by decide +kernel
theorem dX10_began_0 : decode cX10_began 0 = .ok (.aload_n 0, 1) := by decide +kernel
theorem dX10_began_1 : decode cX10_began 1 = .ok (.iload_n 1, 1) := by decide +kernel
theorem dX10_began_2 : decode cX10_began 2 = .ok (.invokevirtual 308, 3) := by decide +kernel
theorem dX10_began_5 : decode cX10_began 5 = .ok (.ifCond .eq 17, 3) := by decide +kernel
theorem dX10_began_8 : decode cX10_began 8 = .ok (.iload_n 2, 1) := by decide +kernel
theorem dX10_began_9 : decode cX10_began 9 = .ok (.aload_n 0, 1) := by decide +kernel
theorem dX10_began_10 : decode cX10_began 10 = .ok (.getfield 90, 3) := by decide +kernel
theorem dX10_began_13 : decode cX10_began 13 = .ok (.invokevirtual 317, 3) := by decide +kernel
theorem dX10_began_16 : decode cX10_began 16 = .ok (.invokestatic 271, 3) := by decide +kernel
theorem dX10_began_19 : decode cX10_began 19 = .ok (.ifCond .ne 6, 3) := by decide +kernel
theorem dX10_began_22 : decode cX10_began 22 = .ok (.ldc 167, 2) := by decide +kernel
theorem dX10_began_24 : decode cX10_began 24 = .ok (.ireturn, 1) := by decide +kernel
theorem dX10_began_25 : decode cX10_began 25 = .ok (.iload_n 3, 1) := by decide +kernel
theorem dX10_began_26 : decode cX10_began 26 = .ok (.invokestatic 311, 3) := by decide +kernel
theorem dX10_began_29 : decode cX10_began 29 = .ok (.ifCond .eq 16, 3) := by decide +kernel
theorem dX10_began_32 : decode cX10_began 32 = .ok (.aload_n 0, 1) := by decide +kernel
theorem dX10_began_33 : decode cX10_began 33 = .ok (.getfield 90, 3) := by decide +kernel
theorem dX10_began_36 : decode cX10_began 36 = .ok (.iload_n 1, 1) := by decide +kernel
theorem dX10_began_37 : decode cX10_began 37 = .ok (.iload_n 2, 1) := by decide +kernel
theorem dX10_began_38 : decode cX10_began 38 = .ok (.iload_n 3, 1) := by decide +kernel
theorem dX10_began_39 : decode cX10_began 39 = .ok (.invokevirtual 323, 3) := by decide +kernel
theorem dX10_began_42 : decode cX10_began 42 = .ok (.goto 5, 3) := by decide +kernel
theorem dX10_began_45 : decode cX10_began 45 = .ok (.ldc 105, 2) := by decide +kernel
theorem dX10_began_47 : decode cX10_began 47 = .ok (.ireturn, 1) := by decide +kernel
theorem dX10_speak_0 : decode cX10_speak 0 = .ok (.iload_n 1, 1) := by decide +kernel
theorem dX10_speak_1 : decode cX10_speak 1 = .ok (.iconst 1, 1) := by decide +kernel
theorem dX10_speak_2 : decode cX10_speak 2 = .ok (.if_icmp .lt 15, 3) := by decide +kernel
theorem dX10_speak_5 : decode cX10_speak 5 = .ok (.iload_n 1, 1) := by decide +kernel
theorem dX10_speak_6 : decode cX10_speak 6 = .ok (.iconst 3, 1) := by decide +kernel
theorem dX10_speak_7 : decode cX10_speak 7 = .ok (.if_icmp .gt 10, 3) := by decide +kernel
theorem dX10_speak_10 : decode cX10_speak 10 = .ok (.iload_n 2, 1) := by decide +kernel
theorem dX10_speak_11 : decode cX10_speak 11 = .ok (.invokestatic 311, 3) := by decide +kernel
theorem dX10_speak_14 : decode cX10_speak 14 = .ok (.ifCond .ne 8, 3) := by decide +kernel
theorem dX10_speak_17 : decode cX10_speak 17 = .ok (.ldc 105, 2) := by decide +kernel
theorem dX10_speak_19 : decode cX10_speak 19 = .ok (.goto 12, 3) := by decide +kernel
theorem dX10_speak_22 : decode cX10_speak 22 = .ok (.aload_n 0, 1) := by decide +kernel
theorem dX10_speak_23 : decode cX10_speak 23 = .ok (.getfield 90, 3) := by decide +kernel
theorem dX10_speak_26 : decode cX10_speak 26 = .ok (.iload_n 1, 1) := by decide +kernel
theorem dX10_speak_27 : decode cX10_speak 27 = .ok (.iload_n 2, 1) := by decide +kernel
theorem dX10_speak_28 : decode cX10_speak 28 = .ok (.invokevirtual 326, 3) := by decide +kernel
theorem dX10_speak_31 : decode cX10_speak 31 = .ok (.ireturn, 1) := by decide +kernel
theorem dX10_road_0 : decode cX10_road 0 = .ok (.iload_n 1, 1) := by decide +kernel
theorem dX10_road_1 : decode cX10_road 1 = .ok (.invokestatic 329, 3) := by decide +kernel
theorem dX10_road_4 : decode cX10_road 4 = .ok (.ifCond .eq 25, 3) := by decide +kernel
theorem dX10_road_7 : decode cX10_road 7 = .ok (.iload_n 2, 1) := by decide +kernel
theorem dX10_road_8 : decode cX10_road 8 = .ok (.invokestatic 329, 3) := by decide +kernel
theorem dX10_road_11 : decode cX10_road 11 = .ok (.ifCond .eq 18, 3) := by decide +kernel
theorem dX10_road_14 : decode cX10_road 14 = .ok (.iload_n 1, 1) := by decide +kernel
theorem dX10_road_15 : decode cX10_road 15 = .ok (.iload_n 2, 1) := by decide +kernel
theorem dX10_road_16 : decode cX10_road 16 = .ok (.if_icmp .eq 13, 3) := by decide +kernel
theorem dX10_road_19 : decode cX10_road 19 = .ok (.iload_n 3, 1) := by decide +kernel
theorem dX10_road_20 : decode cX10_road 20 = .ok (.ifCond .lt 9, 3) := by decide +kernel
theorem dX10_road_23 : decode cX10_road 23 = .ok (.iload_n 3, 1) := by decide +kernel
theorem dX10_road_24 : decode cX10_road 24 = .ok (.bipush 30, 2) := by decide +kernel
theorem dX10_road_26 : decode cX10_road 26 = .ok (.if_icmp .le 6, 3) := by decide +kernel
theorem dX10_road_29 : decode cX10_road 29 = .ok (.ldc 105, 2) := by decide +kernel
theorem dX10_road_31 : decode cX10_road 31 = .ok (.ireturn, 1) := by decide +kernel
theorem dX10_road_32 : decode cX10_road 32 = .ok (.aload_n 0, 1) := by decide +kernel
theorem dX10_road_33 : decode cX10_road 33 = .ok (.getfield 97, 3) := by decide +kernel
theorem dX10_road_36 : decode cX10_road 36 = .ok (.iload_n 1, 1) := by decide +kernel
theorem dX10_road_37 : decode cX10_road 37 = .ok (.iload_n 2, 1) := by decide +kernel
theorem dX10_road_38 : decode cX10_road 38 = .ok (.iload_n 3, 1) := by decide +kernel
theorem dX10_road_39 : decode cX10_road 39 = .ok (.invokevirtual 332, 3) := by decide +kernel
theorem dX10_road_42 : decode cX10_road 42 = .ok (.ireturn, 1) := by decide +kernel
theorem dX10_report_0 : decode cX10_report 0 = .ok (.iload_n 1, 1) := by decide +kernel
theorem dX10_report_1 : decode cX10_report 1 = .ok (.invokestatic 329, 3) := by decide +kernel
theorem dX10_report_4 : decode cX10_report 4 = .ok (.ifCond .eq 14, 3) := by decide +kernel
theorem dX10_report_7 : decode cX10_report 7 = .ok (.iload_n 2, 1) := by decide +kernel
theorem dX10_report_8 : decode cX10_report 8 = .ok (.ifCond .lt 10, 3) := by decide +kernel
theorem dX10_report_11 : decode cX10_report 11 = .ok (.iload_n 2, 1) := by decide +kernel
theorem dX10_report_12 : decode cX10_report 12 = .ok (.sipush 999, 3) := by decide +kernel
theorem dX10_report_15 : decode cX10_report 15 = .ok (.if_icmp .le 8, 3) := by decide +kernel
theorem dX10_report_18 : decode cX10_report 18 = .ok (.ldc 105, 2) := by decide +kernel
theorem dX10_report_20 : decode cX10_report 20 = .ok (.goto 12, 3) := by decide +kernel
theorem dX10_report_23 : decode cX10_report 23 = .ok (.aload_n 0, 1) := by decide +kernel
theorem dX10_report_24 : decode cX10_report 24 = .ok (.getfield 97, 3) := by decide +kernel
theorem dX10_report_27 : decode cX10_report 27 = .ok (.iload_n 1, 1) := by decide +kernel
theorem dX10_report_28 : decode cX10_report 28 = .ok (.iload_n 2, 1) := by decide +kernel
theorem dX10_report_29 : decode cX10_report 29 = .ok (.invokevirtual 335, 3) := by decide +kernel
theorem dX10_report_32 : decode cX10_report 32 = .ok (.ireturn, 1) := by decide +kernel
theorem dX10_silence_0 : decode cX10_silence 0 = .ok (.aload_n 0, 1) := by decide +kernel
theorem dX10_silence_1 : decode cX10_silence 1 = .ok (.getfield 97, 3) := by decide +kernel
theorem dX10_silence_4 : decode cX10_silence 4 = .ok (.getfield 338, 3) := by decide +kernel
theorem dX10_silence_7 : decode cX10_silence 7 = .ok (.istore_n 1, 1) := by decide +kernel
theorem dX10_silence_8 : decode cX10_silence 8 = .ok (.aload_n 0, 1) := by decide +kernel
theorem dX10_silence_9 : decode cX10_silence 9 = .ok (.getfield 97, 3) := by decide +kernel
theorem dX10_silence_12 : decode cX10_silence 12 = .ok (.invokevirtual 341, 3) := by decide +kernel
theorem dX10_silence_15 : decode cX10_silence 15 = .ok (.iload_n 1, 1) := by decide +kernel
theorem dX10_silence_16 : decode cX10_silence 16 = .ok (.ireturn, 1) := by decide +kernel
theorem dX10_source_0 : decode cX10_source 0 = .ok (.iload_n 1, 1) := by decide +kernel
theorem dX10_source_1 : decode cX10_source 1 = .ok (.iconst 1, 1) := by decide +kernel
theorem dX10_source_2 : decode cX10_source 2 = .ok (.if_icmp .lt 18, 3) := by decide +kernel
theorem dX10_source_5 : decode cX10_source 5 = .ok (.iload_n 1, 1) := by decide +kernel
theorem dX10_source_6 : decode cX10_source 6 = .ok (.bipush 20, 2) := by decide +kernel
theorem dX10_source_8 : decode cX10_source 8 = .ok (.if_icmp .gt 12, 3) := by decide +kernel
theorem dX10_source_11 : decode cX10_source 11 = .ok (.iload_n 2, 1) := by decide +kernel
theorem dX10_source_12 : decode cX10_source 12 = .ok (.ifCond .lt 8, 3) := by decide +kernel
theorem dX10_source_15 : decode cX10_source 15 = .ok (.iload_n 2, 1) := by decide +kernel
theorem dX10_source_16 : decode cX10_source 16 = .ok (.iconst 2, 1) := by decide +kernel
theorem dX10_source_17 : decode cX10_source 17 = .ok (.if_icmp .le 6, 3) := by decide +kernel
theorem dX10_source_20 : decode cX10_source 20 = .ok (.ldc 105, 2) := by decide +kernel
theorem dX10_source_22 : decode cX10_source 22 = .ok (.ireturn, 1) := by decide +kernel
theorem dX10_source_23 : decode cX10_source 23 = .ok (.aload_n 0, 1) := by decide +kernel
theorem dX10_source_24 : decode cX10_source 24 = .ok (.getfield 97, 3) := by decide +kernel
theorem dX10_source_27 : decode cX10_source 27 = .ok (.invokevirtual 344, 3) := by decide +kernel
theorem dX10_source_30 : decode cX10_source 30 = .ok (.aload_n 0, 1) := by decide +kernel
theorem dX10_source_31 : decode cX10_source 31 = .ok (.getfield 97, 3) := by decide +kernel
theorem dX10_source_34 : decode cX10_source 34 = .ok (.iload_n 1, 1) := by decide +kernel
theorem dX10_source_35 : decode cX10_source 35 = .ok (.invokevirtual 347, 3) := by decide +kernel
theorem dX10_source_38 : decode cX10_source 38 = .ok (.aload_n 0, 1) := by decide +kernel
theorem dX10_source_39 : decode cX10_source 39 = .ok (.getfield 97, 3) := by decide +kernel
theorem dX10_source_42 : decode cX10_source 42 = .ok (.getfield 351, 3) := by decide +kernel
theorem dX10_source_45 : decode cX10_source 45 = .ok (.iconst (-1), 1) := by decide +kernel
theorem dX10_source_46 : decode cX10_source 46 = .ok (.if_icmp .ne 5, 3) := by decide +kernel
theorem dX10_source_49 : decode cX10_source 49 = .ok (.iconst (-1), 1) := by decide +kernel
theorem dX10_source_50 : decode cX10_source 50 = .ok (.ireturn, 1) := by decide +kernel
theorem dX10_source_51 : decode cX10_source 51 = .ok (.iload_n 2, 1) := by decide +kernel
theorem dX10_source_52 : decode cX10_source 52 = .ok (.ifCond .ne 13, 3) := by decide +kernel
theorem dX10_source_55 : decode cX10_source 55 = .ok (.aload_n 0, 1) := by decide +kernel
theorem dX10_source_56 : decode cX10_source 56 = .ok (.getfield 97, 3) := by decide +kernel
theorem dX10_source_59 : decode cX10_source 59 = .ok (.getfield 351, 3) := by decide +kernel
theorem dX10_source_62 : decode cX10_source 62 = .ok (.goto 29, 3) := by decide +kernel
theorem dX10_source_65 : decode cX10_source 65 = .ok (.iload_n 2, 1) := by decide +kernel
theorem dX10_source_66 : decode cX10_source 66 = .ok (.iconst 1, 1) := by decide +kernel
theorem dX10_source_67 : decode cX10_source 67 = .ok (.if_icmp .ne 17, 3) := by decide +kernel
theorem dX10_source_70 : decode cX10_source 70 = .ok (.aload_n 0, 1) := by decide +kernel
theorem dX10_source_71 : decode cX10_source 71 = .ok (.getfield 97, 3) := by decide +kernel
theorem dX10_source_74 : decode cX10_source 74 = .ok (.getfield 354, 3) := by decide +kernel
theorem dX10_source_77 : decode cX10_source 77 = .ok (.sipush 1000, 3) := by decide +kernel
theorem dX10_source_80 : decode cX10_source 80 = .ok (.iadd, 1) := by decide +kernel
theorem dX10_source_81 : decode cX10_source 81 = .ok (.goto 10, 3) := by decide +kernel
theorem dX10_source_84 : decode cX10_source 84 = .ok (.aload_n 0, 1) := by decide +kernel
theorem dX10_source_85 : decode cX10_source 85 = .ok (.getfield 97, 3) := by decide +kernel
theorem dX10_source_88 : decode cX10_source 88 = .ok (.getfield 357, 3) := by decide +kernel
theorem dX10_source_91 : decode cX10_source 91 = .ok (.ireturn, 1) := by decide +kernel
theorem dX10_pace_0 : decode cX10_pace 0 = .ok (.aload_n 0, 1) := by decide +kernel
theorem dX10_pace_1 : decode cX10_pace 1 = .ok (.getfield 97, 3) := by decide +kernel
theorem dX10_pace_4 : decode cX10_pace 4 = .ok (.invokevirtual 360, 3) := by decide +kernel
theorem dX10_pace_7 : decode cX10_pace 7 = .ok (.ireturn, 1) := by decide +kernel
theorem dX10_seed_0 : decode cX10_seed 0 = .ok (.iload_n 1, 1) := by decide +kernel
theorem dX10_seed_1 : decode cX10_seed 1 = .ok (.ifCond .ge 6, 3) := by decide +kernel
theorem dX10_seed_4 : decode cX10_seed 4 = .ok (.ldc 105, 2) := by decide +kernel
theorem dX10_seed_6 : decode cX10_seed 6 = .ok (.ireturn, 1) := by decide +kernel
theorem dX10_seed_7 : decode cX10_seed 7 = .ok (.aload_n 0, 1) := by decide +kernel
theorem dX10_seed_8 : decode cX10_seed 8 = .ok (.getfield 55, 3) := by decide +kernel
theorem dX10_seed_11 : decode cX10_seed 11 = .ok (.getfield 275, 3) := by decide +kernel
theorem dX10_seed_14 : decode cX10_seed 14 = .ok (.l2i, 1) := by decide +kernel
theorem dX10_seed_15 : decode cX10_seed 15 = .ok (.istore_n 2, 1) := by decide +kernel
theorem dX10_seed_16 : decode cX10_seed 16 = .ok (.aload_n 0, 1) := by decide +kernel
theorem dX10_seed_17 : decode cX10_seed 17 = .ok (.getfield 55, 3) := by decide +kernel
theorem dX10_seed_20 : decode cX10_seed 20 = .ok (.iload_n 1, 1) := by decide +kernel
theorem dX10_seed_21 : decode cX10_seed 21 = .ok (.i2l, 1) := by decide +kernel
theorem dX10_seed_22 : decode cX10_seed 22 = .ok (.putfield 275, 3) := by decide +kernel
theorem dX10_seed_25 : decode cX10_seed 25 = .ok (.iload_n 2, 1) := by decide +kernel
theorem dX10_seed_26 : decode cX10_seed 26 = .ok (.ireturn, 1) := by decide +kernel
theorem dX10_keep_0 : decode cX10_keep 0 = .ok (.iload_n 1, 1) := by decide +kernel
theorem dX10_keep_1 : decode cX10_keep 1 = .ok (.ifCond .lt 8, 3) := by decide +kernel
theorem dX10_keep_4 : decode cX10_keep 4 = .ok (.iload_n 1, 1) := by decide +kernel
theorem dX10_keep_5 : decode cX10_keep 5 = .ok (.iconst 2, 1) := by decide +kernel
theorem dX10_keep_6 : decode cX10_keep 6 = .ok (.if_icmp .lt 6, 3) := by decide +kernel
theorem dX10_keep_9 : decode cX10_keep 9 = .ok (.ldc 167, 2) := by decide +kernel
theorem dX10_keep_11 : decode cX10_keep 11 = .ok (.ireturn, 1) := by decide +kernel
theorem dX10_keep_12 : decode cX10_keep 12 = .ok (.aload_n 0, 1) := by decide +kernel
theorem dX10_keep_13 : decode cX10_keep 13 = .ok (.getfield 65, 3) := by decide +kernel
theorem dX10_keep_16 : decode cX10_keep 16 = .ok (.iload_n 1, 1) := by decide +kernel
theorem dX10_keep_17 : decode cX10_keep 17 = .ok (.aaload, 1) := by decide +kernel
theorem dX10_keep_18 : decode cX10_keep 18 = .ok (.aload_n 0, 1) := by decide +kernel
theorem dX10_keep_19 : decode cX10_keep 19 = .ok (.getfield 55, 3) := by decide +kernel
theorem dX10_keep_22 : decode cX10_keep 22 = .ok (.invokevirtual 303, 3) := by decide +kernel
theorem dX10_keep_25 : decode cX10_keep 25 = .ok (.aload_n 0, 1) := by decide +kernel
theorem dX10_keep_26 : decode cX10_keep 26 = .ok (.getfield 65, 3) := by decide +kernel
theorem dX10_keep_29 : decode cX10_keep 29 = .ok (.iload_n 1, 1) := by decide +kernel
theorem dX10_keep_30 : decode cX10_keep 30 = .ok (.aaload, 1) := by decide +kernel
theorem dX10_keep_31 : decode cX10_keep 31 = .ok (.iconst 1, 1) := by decide +kernel
theorem dX10_keep_32 : decode cX10_keep 32 = .ok (.putfield 363, 3) := by decide +kernel
theorem dX10_keep_35 : decode cX10_keep 35 = .ok (.iconst 1, 1) := by decide +kernel
theorem dX10_keep_36 : decode cX10_keep 36 = .ok (.ireturn, 1) := by decide +kernel
theorem dX10_goBack_0 : decode cX10_goBack 0 = .ok (.iload_n 1, 1) := by decide +kernel
theorem dX10_goBack_1 : decode cX10_goBack 1 = .ok (.ifCond .lt 8, 3) := by decide +kernel
theorem dX10_goBack_4 : decode cX10_goBack 4 = .ok (.iload_n 1, 1) := by decide +kernel
theorem dX10_goBack_5 : decode cX10_goBack 5 = .ok (.iconst 2, 1) := by decide +kernel
theorem dX10_goBack_6 : decode cX10_goBack 6 = .ok (.if_icmp .lt 6, 3) := by decide +kernel
theorem dX10_goBack_9 : decode cX10_goBack 9 = .ok (.ldc 167, 2) := by decide +kernel
theorem dX10_goBack_11 : decode cX10_goBack 11 = .ok (.ireturn, 1) := by decide +kernel
theorem dX10_goBack_12 : decode cX10_goBack 12 = .ok (.aload_n 0, 1) := by decide +kernel
theorem dX10_goBack_13 : decode cX10_goBack 13 = .ok (.getfield 65, 3) := by decide +kernel
theorem dX10_goBack_16 : decode cX10_goBack 16 = .ok (.iload_n 1, 1) := by decide +kernel
theorem dX10_goBack_17 : decode cX10_goBack 17 = .ok (.aaload, 1) := by decide +kernel
theorem dX10_goBack_18 : decode cX10_goBack 18 = .ok (.getfield 363, 3) := by decide +kernel
theorem dX10_goBack_21 : decode cX10_goBack 21 = .ok (.ifCond .ne 6, 3) := by decide +kernel
theorem dX10_goBack_24 : decode cX10_goBack 24 = .ok (.ldc 140, 2) := by decide +kernel
theorem dX10_goBack_26 : decode cX10_goBack 26 = .ok (.ireturn, 1) := by decide +kernel
theorem dX10_goBack_27 : decode cX10_goBack 27 = .ok (.aload_n 0, 1) := by decide +kernel
theorem dX10_goBack_28 : decode cX10_goBack 28 = .ok (.getfield 55, 3) := by decide +kernel
theorem dX10_goBack_31 : decode cX10_goBack 31 = .ok (.aload_n 0, 1) := by decide +kernel
theorem dX10_goBack_32 : decode cX10_goBack 32 = .ok (.getfield 65, 3) := by decide +kernel
theorem dX10_goBack_35 : decode cX10_goBack 35 = .ok (.iload_n 1, 1) := by decide +kernel
theorem dX10_goBack_36 : decode cX10_goBack 36 = .ok (.aaload, 1) := by decide +kernel
theorem dX10_goBack_37 : decode cX10_goBack 37 = .ok (.invokevirtual 303, 3) := by decide +kernel
theorem dX10_goBack_40 : decode cX10_goBack 40 = .ok (.iconst 1, 1) := by decide +kernel
theorem dX10_goBack_41 : decode cX10_goBack 41 = .ok (.ireturn, 1) := by decide +kernel
theorem dX10_isPerson_0 : decode cX10_isPerson 0 = .ok (.iload_n 1, 1) := by decide +kernel
theorem dX10_isPerson_1 : decode cX10_isPerson 1 = .ok (.ifCond .lt 18, 3) := by decide +kernel
theorem dX10_isPerson_4 : decode cX10_isPerson 4 = .ok (.iload_n 1, 1) := by decide +kernel
theorem dX10_isPerson_5 : decode cX10_isPerson 5 = .ok (.aload_n 0, 1) := by decide +kernel
theorem dX10_isPerson_6 : decode cX10_isPerson 6 = .ok (.getfield 19, 3) := by decide +kernel
theorem dX10_isPerson_9 : decode cX10_isPerson 9 = .ok (.getfield 137, 3) := by decide +kernel
theorem dX10_isPerson_12 : decode cX10_isPerson 12 = .ok (.if_icmp .ge 7, 3) := by decide +kernel
theorem dX10_isPerson_15 : decode cX10_isPerson 15 = .ok (.iconst 1, 1) := by decide +kernel
theorem dX10_isPerson_16 : decode cX10_isPerson 16 = .ok (.goto 4, 3) := by decide +kernel
theorem dX10_isPerson_19 : decode cX10_isPerson 19 = .ok (.iconst 0, 1) := by decide +kernel
theorem dX10_isPerson_20 : decode cX10_isPerson 20 = .ok (.ireturn, 1) := by decide +kernel
theorem dX10_isSaying_0 : decode cX10_isSaying 0 = .ok (.iload_n 1, 1) := by decide +kernel
theorem dX10_isSaying_1 : decode cX10_isSaying 1 = .ok (.ifCond .lt 18, 3) := by decide +kernel
theorem dX10_isSaying_4 : decode cX10_isSaying 4 = .ok (.iload_n 1, 1) := by decide +kernel
theorem dX10_isSaying_5 : decode cX10_isSaying 5 = .ok (.aload_n 0, 1) := by decide +kernel
theorem dX10_isSaying_6 : decode cX10_isSaying 6 = .ok (.getfield 29, 3) := by decide +kernel
theorem dX10_isSaying_9 : decode cX10_isSaying 9 = .ok (.getfield 145, 3) := by decide +kernel
theorem dX10_isSaying_12 : decode cX10_isSaying 12 = .ok (.if_icmp .ge 7, 3) := by decide +kernel
theorem dX10_isSaying_15 : decode cX10_isSaying 15 = .ok (.iconst 1, 1) := by decide +kernel
theorem dX10_isSaying_16 : decode cX10_isSaying 16 = .ok (.goto 4, 3) := by decide +kernel
theorem dX10_isSaying_19 : decode cX10_isSaying 19 = .ok (.iconst 0, 1) := by decide +kernel
theorem dX10_isSaying_20 : decode cX10_isSaying 20 = .ok (.ireturn, 1) := by decide +kernel
theorem dX10_isOfNet_0 : decode cX10_isOfNet 0 = .ok (.iload_n 1, 1) := by decide +kernel
theorem dX10_isOfNet_1 : decode cX10_isOfNet 1 = .ok (.ifCond .lt 18, 3) := by decide +kernel
theorem dX10_isOfNet_4 : decode cX10_isOfNet 4 = .ok (.iload_n 1, 1) := by decide +kernel
theorem dX10_isOfNet_5 : decode cX10_isOfNet 5 = .ok (.aload_n 0, 1) := by decide +kernel
theorem dX10_isOfNet_6 : decode cX10_isOfNet 6 = .ok (.getfield 90, 3) := by decide +kernel
theorem dX10_isOfNet_9 : decode cX10_isOfNet 9 = .ok (.invokevirtual 317, 3) := by decide +kernel
theorem dX10_isOfNet_12 : decode cX10_isOfNet 12 = .ok (.if_icmp .ge 7, 3) := by decide +kernel
theorem dX10_isOfNet_15 : decode cX10_isOfNet 15 = .ok (.iconst 1, 1) := by decide +kernel
theorem dX10_isOfNet_16 : decode cX10_isOfNet 16 = .ok (.goto 4, 3) := by decide +kernel
theorem dX10_isOfNet_19 : decode cX10_isOfNet 19 = .ok (.iconst 0, 1) := by decide +kernel
theorem dX10_isOfNet_20 : decode cX10_isOfNet 20 = .ok (.ireturn, 1) := by decide +kernel
theorem dX10_isSetOf_0 : decode cX10_isSetOf 0 = .ok (.iload_n 0, 1) := by decide +kernel
theorem dX10_isSetOf_1 : decode cX10_isSetOf 1 = .ok (.iload_n 1, 1) := by decide +kernel
theorem dX10_isSetOf_2 : decode cX10_isSetOf 2 = .ok (.ishr, 1) := by decide +kernel
theorem dX10_isSetOf_3 : decode cX10_isSetOf 3 = .ok (.ifCond .ne 7, 3) := by decide +kernel
theorem dX10_isSetOf_6 : decode cX10_isSetOf 6 = .ok (.iconst 1, 1) := by decide +kernel
theorem dX10_isSetOf_7 : decode cX10_isSetOf 7 = .ok (.goto 4, 3) := by decide +kernel
theorem dX10_isSetOf_10 : decode cX10_isSetOf 10 = .ok (.iconst 0, 1) := by decide +kernel
theorem dX10_isSetOf_11 : decode cX10_isSetOf 11 = .ok (.ireturn, 1) := by decide +kernel
theorem dX10_isSteps_0 : decode cX10_isSteps 0 = .ok (.iload_n 0, 1) := by decide +kernel
theorem dX10_isSteps_1 : decode cX10_isSteps 1 = .ok (.ifCond .lt 13, 3) := by decide +kernel
theorem dX10_isSteps_4 : decode cX10_isSteps 4 = .ok (.iload_n 0, 1) := by decide +kernel
theorem dX10_isSteps_5 : decode cX10_isSteps 5 = .ok (.bipush 12, 2) := by decide +kernel
theorem dX10_isSteps_7 : decode cX10_isSteps 7 = .ok (.if_icmp .gt 7, 3) := by decide +kernel
theorem dX10_isSteps_10 : decode cX10_isSteps 10 = .ok (.iconst 1, 1) := by decide +kernel
theorem dX10_isSteps_11 : decode cX10_isSteps 11 = .ok (.goto 4, 3) := by decide +kernel
theorem dX10_isSteps_14 : decode cX10_isSteps 14 = .ok (.iconst 0, 1) := by decide +kernel
theorem dX10_isSteps_15 : decode cX10_isSteps 15 = .ok (.ireturn, 1) := by decide +kernel
theorem dX10_isMarket_0 : decode cX10_isMarket 0 = .ok (.iload_n 0, 1) := by decide +kernel
theorem dX10_isMarket_1 : decode cX10_isMarket 1 = .ok (.ifCond .lt 13, 3) := by decide +kernel
theorem dX10_isMarket_4 : decode cX10_isMarket 4 = .ok (.iload_n 0, 1) := by decide +kernel
theorem dX10_isMarket_5 : decode cX10_isMarket 5 = .ok (.bipush 12, 2) := by decide +kernel
theorem dX10_isMarket_7 : decode cX10_isMarket 7 = .ok (.if_icmp .ge 7, 3) := by decide +kernel
theorem dX10_isMarket_10 : decode cX10_isMarket 10 = .ok (.iconst 1, 1) := by decide +kernel
theorem dX10_isMarket_11 : decode cX10_isMarket 11 = .ok (.goto 4, 3) := by decide +kernel
theorem dX10_isMarket_14 : decode cX10_isMarket 14 = .ok (.iconst 0, 1) := by decide +kernel
theorem dX10_isMarket_15 : decode cX10_isMarket 15 = .ok (.ireturn, 1) := by decide +kernel
theorem dX10_closeText_0 : decode cX10_closeText 0 = .ok (.aload_n 0, 1) := by decide +kernel
theorem dX10_closeText_1 : decode cX10_closeText 1 = .ok (.aload_n 0, 1) := by decide +kernel
theorem dX10_closeText_2 : decode cX10_closeText 2 = .ok (.getfield 12, 3) := by decide +kernel
theorem dX10_closeText_5 : decode cX10_closeText 5 = .ok (.getfield 366, 3) := by decide +kernel
theorem dX10_closeText_8 : decode cX10_closeText 8 = .ok (.putfield 101, 3) := by decide +kernel
theorem dX10_closeText_11 : decode cX10_closeText 11 = .ok (.aload_n 0, 1) := by decide +kernel
theorem dX10_closeText_12 : decode cX10_closeText 12 = .ok (.getfield 12, 3) := by decide +kernel
theorem dX10_closeText_15 : decode cX10_closeText 15 = .ok (.iconst 0, 1) := by decide +kernel
theorem dX10_closeText_16 : decode cX10_closeText 16 = .ok (.putfield 106, 3) := by decide +kernel
theorem dX10_closeText_19 : decode cX10_closeText 19 = .ok (.aload_n 0, 1) := by decide +kernel
theorem dX10_closeText_20 : decode cX10_closeText 20 = .ok (.getfield 12, 3) := by decide +kernel
theorem dX10_closeText_23 : decode cX10_closeText 23 = .ok (.getfield 369, 3) := by decide +kernel
theorem dX10_closeText_26 : decode cX10_closeText 26 = .ok (.ireturn, 1) := by decide +kernel
theorem dX10_startAnew_0 : decode cX10_startAnew 0 = .ok (.aload_n 0, 1) := by decide +kernel
theorem dX10_startAnew_1 : decode cX10_startAnew 1 = .ok (.getfield 55, 3) := by decide +kernel
theorem dX10_startAnew_4 : decode cX10_startAnew 4 = .ok (.invokevirtual 274, 3) := by decide +kernel
theorem dX10_startAnew_7 : decode cX10_startAnew 7 = .ok (.iconst 0, 1) := by decide +kernel
theorem dX10_startAnew_8 : decode cX10_startAnew 8 = .ok (.istore_n 1, 1) := by decide +kernel
theorem dX10_startAnew_9 : decode cX10_startAnew 9 = .ok (.iload_n 1, 1) := by decide +kernel
theorem dX10_startAnew_10 : decode cX10_startAnew 10 = .ok (.iconst 2, 1) := by decide +kernel
theorem dX10_startAnew_11 : decode cX10_startAnew 11 = .ok (.if_icmp .ge 19, 3) := by decide +kernel
theorem dX10_startAnew_14 : decode cX10_startAnew 14 = .ok (.aload_n 0, 1) := by decide +kernel
theorem dX10_startAnew_15 : decode cX10_startAnew 15 = .ok (.getfield 65, 3) := by decide +kernel
theorem dX10_startAnew_18 : decode cX10_startAnew 18 = .ok (.iload_n 1, 1) := by decide +kernel
theorem dX10_startAnew_19 : decode cX10_startAnew 19 = .ok (.aaload, 1) := by decide +kernel
theorem dX10_startAnew_20 : decode cX10_startAnew 20 = .ok (.iconst 0, 1) := by decide +kernel
theorem dX10_startAnew_21 : decode cX10_startAnew 21 = .ok (.putfield 363, 3) := by decide +kernel
theorem dX10_startAnew_24 : decode cX10_startAnew 24 = .ok (.iinc 1 1, 3) := by decide +kernel
theorem dX10_startAnew_27 : decode cX10_startAnew 27 = .ok (.goto (-18), 3) := by decide +kernel
theorem dX10_startAnew_30 : decode cX10_startAnew 30 = .ok (.return_, 1) := by decide +kernel
theorem dX10_heldBehind_0 : decode cX10_heldBehind 0 = .ok (.aload_n 0, 1) := by decide +kernel
theorem dX10_heldBehind_1 : decode cX10_heldBehind 1 = .ok (.getfield 48, 3) := by decide +kernel
theorem dX10_heldBehind_4 : decode cX10_heldBehind 4 = .ok (.aload_n 0, 1) := by decide +kernel
theorem dX10_heldBehind_5 : decode cX10_heldBehind 5 = .ok (.getfield 62, 3) := by decide +kernel
theorem dX10_heldBehind_8 : decode cX10_heldBehind 8 = .ok (.iload_n 2, 1) := by decide +kernel
theorem dX10_heldBehind_9 : decode cX10_heldBehind 9 = .ok (.invokevirtual 233, 3) := by decide +kernel
theorem dX10_heldBehind_12 : decode cX10_heldBehind 12 = .ok (.pop, 1) := by decide +kernel
theorem dX10_heldBehind_13 : decode cX10_heldBehind 13 = .ok (.aload_n 0, 1) := by decide +kernel
theorem dX10_heldBehind_14 : decode cX10_heldBehind 14 = .ok (.getfield 62, 3) := by decide +kernel
theorem dX10_heldBehind_17 : decode cX10_heldBehind 17 = .ok (.iload_n 1, 1) := by decide +kernel
theorem dX10_heldBehind_18 : decode cX10_heldBehind 18 = .ok (.aload_n 0, 1) := by decide +kernel
theorem dX10_heldBehind_19 : decode cX10_heldBehind 19 = .ok (.getfield 19, 3) := by decide +kernel
theorem dX10_heldBehind_22 : decode cX10_heldBehind 22 = .ok (.getfield 137, 3) := by decide +kernel
theorem dX10_heldBehind_25 : decode cX10_heldBehind 25 = .ok (.invokevirtual 224, 3) := by decide +kernel
theorem dX10_heldBehind_28 : decode cX10_heldBehind 28 = .ok (.invokestatic 227, 3) := by decide +kernel
theorem dX10_heldBehind_31 : decode cX10_heldBehind 31 = .ok (.ireturn, 1) := by decide +kernel
