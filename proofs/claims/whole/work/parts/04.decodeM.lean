theorem dX10_init_0 : decode cX10_init 0 = .ok (.aload_n 0, 1) := by decide +kernel
theorem dX10_init_1 : decode cX10_init 1 = .ok (.invokespecial 1, 3) := by decide +kernel
theorem dX10_init_4 : decode cX10_init 4 = .ok (.aload_n 0, 1) := by decide +kernel
theorem dX10_init_5 : decode cX10_init 5 = .ok (.bipush 10, 2) := by decide +kernel
theorem dX10_init_7 : decode cX10_init 7 = .ok (.newarray .int, 2) := by decide +kernel
theorem dX10_init_9 : decode cX10_init 9 = .ok (.putfield 7, 3) := by decide +kernel
theorem dX10_init_12 : decode cX10_init 12 = .ok (.aload_n 0, 1) := by decide +kernel
theorem dX10_init_13 : decode cX10_init 13 = .ok (.sipush 600, 3) := by decide +kernel
theorem dX10_init_16 : decode cX10_init 16 = .ok (.newarray .int, 2) := by decide +kernel
theorem dX10_init_18 : decode cX10_init 18 = .ok (.putfield 13, 3) := by decide +kernel
theorem dX10_init_21 : decode cX10_init 21 = .ok (.aload_n 0, 1) := by decide +kernel
theorem dX10_init_22 : decode cX10_init 22 = .ok (.sipush 600, 3) := by decide +kernel
theorem dX10_init_25 : decode cX10_init 25 = .ok (.newarray .int, 2) := by decide +kernel
theorem dX10_init_27 : decode cX10_init 27 = .ok (.putfield 16, 3) := by decide +kernel
theorem dX10_init_30 : decode cX10_init 30 = .ok (.aload_n 0, 1) := by decide +kernel
theorem dX10_init_31 : decode cX10_init 31 = .ok (.sipush 600, 3) := by decide +kernel
theorem dX10_init_34 : decode cX10_init 34 = .ok (.newarray .int, 2) := by decide +kernel
theorem dX10_init_36 : decode cX10_init 36 = .ok (.putfield 19, 3) := by decide +kernel
theorem dX10_init_39 : decode cX10_init 39 = .ok (.aload_n 0, 1) := by decide +kernel
theorem dX10_init_40 : decode cX10_init 40 = .ok (.sipush 600, 3) := by decide +kernel
theorem dX10_init_43 : decode cX10_init 43 = .ok (.newarray .boolean, 2) := by decide +kernel
theorem dX10_init_45 : decode cX10_init 45 = .ok (.putfield 22, 3) := by decide +kernel
theorem dX10_init_48 : decode cX10_init 48 = .ok (.aload_n 0, 1) := by decide +kernel
theorem dX10_init_49 : decode cX10_init 49 = .ok (.sipush 600, 3) := by decide +kernel
theorem dX10_init_52 : decode cX10_init 52 = .ok (.newarray .int, 2) := by decide +kernel
theorem dX10_init_54 : decode cX10_init 54 = .ok (.putfield 26, 3) := by decide +kernel
theorem dX10_init_57 : decode cX10_init 57 = .ok (.aload_n 0, 1) := by decide +kernel
theorem dX10_init_58 : decode cX10_init 58 = .ok (.iconst 4, 1) := by decide +kernel
theorem dX10_init_59 : decode cX10_init 59 = .ok (.newarray .int, 2) := by decide +kernel
theorem dX10_init_61 : decode cX10_init 61 = .ok (.putfield 29, 3) := by decide +kernel
theorem dX10_init_64 : decode cX10_init 64 = .ok (.aload_n 0, 1) := by decide +kernel
theorem dX10_init_65 : decode cX10_init 65 = .ok (.bipush 80, 2) := by decide +kernel
theorem dX10_init_67 : decode cX10_init 67 = .ok (.newarray .int, 2) := by decide +kernel
theorem dX10_init_69 : decode cX10_init 69 = .ok (.putfield 32, 3) := by decide +kernel
theorem dX10_init_72 : decode cX10_init 72 = .ok (.aload_n 0, 1) := by decide +kernel
theorem dX10_init_73 : decode cX10_init 73 = .ok (.iconst 4, 1) := by decide +kernel
theorem dX10_init_74 : decode cX10_init 74 = .ok (.newarray .int, 2) := by decide +kernel
theorem dX10_init_76 : decode cX10_init 76 = .ok (.putfield 35, 3) := by decide +kernel
theorem dX10_init_79 : decode cX10_init 79 = .ok (.aload_n 0, 1) := by decide +kernel
theorem dX10_init_80 : decode cX10_init 80 = .ok (.iconst 4, 1) := by decide +kernel
theorem dX10_init_81 : decode cX10_init 81 = .ok (.newarray .int, 2) := by decide +kernel
theorem dX10_init_83 : decode cX10_init 83 = .ok (.putfield 38, 3) := by decide +kernel
theorem dX10_init_86 : decode cX10_init 86 = .ok (.aload_n 0, 1) := by decide +kernel
theorem dX10_init_87 : decode cX10_init 87 = .ok (.bipush 40, 2) := by decide +kernel
theorem dX10_init_89 : decode cX10_init 89 = .ok (.newarray .int, 2) := by decide +kernel
theorem dX10_init_91 : decode cX10_init 91 = .ok (.putfield 41, 3) := by decide +kernel
theorem dX10_init_94 : decode cX10_init 94 = .ok (.aload_n 0, 1) := by decide +kernel
theorem dX10_init_95 : decode cX10_init 95 = .ok (.iconst 2, 1) := by decide +kernel
theorem dX10_init_96 : decode cX10_init 96 = .ok (.newarray .int, 2) := by decide +kernel
theorem dX10_init_98 : decode cX10_init 98 = .ok (.putfield 44, 3) := by decide +kernel
theorem dX10_init_101 : decode cX10_init 101 = .ok (.aload_n 0, 1) := by decide +kernel
theorem dX10_init_102 : decode cX10_init 102 = .ok (.bipush 16, 2) := by decide +kernel
theorem dX10_init_104 : decode cX10_init 104 = .ok (.newarray .int, 2) := by decide +kernel
theorem dX10_init_106 : decode cX10_init 106 = .ok (.putfield 47, 3) := by decide +kernel
theorem dX10_init_109 : decode cX10_init 109 = .ok (.aload_n 0, 1) := by decide +kernel
theorem dX10_init_110 : decode cX10_init 110 = .ok (.sipush 128, 3) := by decide +kernel
theorem dX10_init_113 : decode cX10_init 113 = .ok (.newarray .int, 2) := by decide +kernel
theorem dX10_init_115 : decode cX10_init 115 = .ok (.putfield 50, 3) := by decide +kernel
theorem dX10_init_118 : decode cX10_init 118 = .ok (.aload_n 0, 1) := by decide +kernel
theorem dX10_init_119 : decode cX10_init 119 = .ok (.iconst 4, 1) := by decide +kernel
theorem dX10_init_120 : decode cX10_init 120 = .ok (.newarray .boolean, 2) := by decide +kernel
theorem dX10_init_122 : decode cX10_init 122 = .ok (.putfield 53, 3) := by decide +kernel
theorem dX10_init_125 : decode cX10_init 125 = .ok (.aload_n 0, 1) := by decide +kernel
theorem dX10_init_126 : decode cX10_init 126 = .ok (.iconst 4, 1) := by decide +kernel
theorem dX10_init_127 : decode cX10_init 127 = .ok (.newarray .int, 2) := by decide +kernel
theorem dX10_init_129 : decode cX10_init 129 = .ok (.putfield 56, 3) := by decide +kernel
theorem dX10_init_132 : decode cX10_init 132 = .ok (.aload_n 0, 1) := by decide +kernel
theorem dX10_init_133 : decode cX10_init 133 = .ok (.bipush 7, 2) := by decide +kernel
theorem dX10_init_135 : decode cX10_init 135 = .ok (.newarray .int, 2) := by decide +kernel
theorem dX10_init_137 : decode cX10_init 137 = .ok (.putfield 59, 3) := by decide +kernel
theorem dX10_init_140 : decode cX10_init 140 = .ok (.iconst 0, 1) := by decide +kernel
theorem dX10_init_141 : decode cX10_init 141 = .ok (.istore_n 1, 1) := by decide +kernel
theorem dX10_init_142 : decode cX10_init 142 = .ok (.iload_n 1, 1) := by decide +kernel
theorem dX10_init_143 : decode cX10_init 143 = .ok (.bipush 10, 2) := by decide +kernel
theorem dX10_init_145 : decode cX10_init 145 = .ok (.if_icmp .ge 16, 3) := by decide +kernel
theorem dX10_init_148 : decode cX10_init 148 = .ok (.aload_n 0, 1) := by decide +kernel
theorem dX10_init_149 : decode cX10_init 149 = .ok (.getfield 7, 3) := by decide +kernel
theorem dX10_init_152 : decode cX10_init 152 = .ok (.iload_n 1, 1) := by decide +kernel
theorem dX10_init_153 : decode cX10_init 153 = .ok (.iconst (-1), 1) := by decide +kernel
theorem dX10_init_154 : decode cX10_init 154 = .ok (.iastore, 1) := by decide +kernel
theorem dX10_init_155 : decode cX10_init 155 = .ok (.iinc 1 1, 3) := by decide +kernel
theorem dX10_init_158 : decode cX10_init 158 = .ok (.goto (-16), 3) := by decide +kernel
theorem dX10_init_161 : decode cX10_init 161 = .ok (.iconst 0, 1) := by decide +kernel
theorem dX10_init_162 : decode cX10_init 162 = .ok (.istore_n 1, 1) := by decide +kernel
theorem dX10_init_163 : decode cX10_init 163 = .ok (.iload_n 1, 1) := by decide +kernel
theorem dX10_init_164 : decode cX10_init 164 = .ok (.iconst 4, 1) := by decide +kernel
theorem dX10_init_165 : decode cX10_init 165 = .ok (.if_icmp .ge 23, 3) := by decide +kernel
theorem dX10_init_168 : decode cX10_init 168 = .ok (.aload_n 0, 1) := by decide +kernel
theorem dX10_init_169 : decode cX10_init 169 = .ok (.getfield 29, 3) := by decide +kernel
theorem dX10_init_172 : decode cX10_init 172 = .ok (.iload_n 1, 1) := by decide +kernel
theorem dX10_init_173 : decode cX10_init 173 = .ok (.iconst (-1), 1) := by decide +kernel
theorem dX10_init_174 : decode cX10_init 174 = .ok (.iastore, 1) := by decide +kernel
theorem dX10_init_175 : decode cX10_init 175 = .ok (.aload_n 0, 1) := by decide +kernel
theorem dX10_init_176 : decode cX10_init 176 = .ok (.getfield 35, 3) := by decide +kernel
theorem dX10_init_179 : decode cX10_init 179 = .ok (.iload_n 1, 1) := by decide +kernel
theorem dX10_init_180 : decode cX10_init 180 = .ok (.iconst (-1), 1) := by decide +kernel
theorem dX10_init_181 : decode cX10_init 181 = .ok (.iastore, 1) := by decide +kernel
theorem dX10_init_182 : decode cX10_init 182 = .ok (.iinc 1 1, 3) := by decide +kernel
theorem dX10_init_185 : decode cX10_init 185 = .ok (.goto (-22), 3) := by decide +kernel
theorem dX10_init_188 : decode cX10_init 188 = .ok (.aload_n 0, 1) := by decide +kernel
theorem dX10_init_189 : decode cX10_init 189 = .ok (.getfield 44, 3) := by decide +kernel
theorem dX10_init_192 : decode cX10_init 192 = .ok (.iconst 0, 1) := by decide +kernel
theorem dX10_init_193 : decode cX10_init 193 = .ok (.iconst (-1), 1) := by decide +kernel
theorem dX10_init_194 : decode cX10_init 194 = .ok (.iastore, 1) := by decide +kernel
theorem dX10_init_195 : decode cX10_init 195 = .ok (.aload_n 0, 1) := by decide +kernel
theorem dX10_init_196 : decode cX10_init 196 = .ok (.getfield 44, 3) := by decide +kernel
theorem dX10_init_199 : decode cX10_init 199 = .ok (.iconst 1, 1) := by decide +kernel
theorem dX10_init_200 : decode cX10_init 200 = .ok (.iconst (-1), 1) := by decide +kernel
theorem dX10_init_201 : decode cX10_init 201 = .ok (.iastore, 1) := by decide +kernel
theorem dX10_init_202 : decode cX10_init 202 = .ok (.return_, 1) := by decide +kernel
theorem dX10_in_0 : decode cX10_in 0 = .ok (.iload_n 0, 1) := by decide +kernel
theorem dX10_in_1 : decode cX10_in 1 = .ok (.iload_n 1, 1) := by decide +kernel
theorem dX10_in_2 : decode cX10_in 2 = .ok (.if_icmp .lt 12, 3) := by decide +kernel
theorem dX10_in_5 : decode cX10_in 5 = .ok (.iload_n 0, 1) := by decide +kernel
theorem dX10_in_6 : decode cX10_in 6 = .ok (.iload_n 2, 1) := by decide +kernel
theorem dX10_in_7 : decode cX10_in 7 = .ok (.if_icmp .gt 7, 3) := by decide +kernel
theorem dX10_in_10 : decode cX10_in 10 = .ok (.iconst 1, 1) := by decide +kernel
theorem dX10_in_11 : decode cX10_in 11 = .ok (.goto 4, 3) := by decide +kernel
theorem dX10_in_14 : decode cX10_in 14 = .ok (.iconst 0, 1) := by decide +kernel
theorem dX10_in_15 : decode cX10_in 15 = .ok (.ireturn, 1) := by decide +kernel
theorem dX10_says_0 : decode cX10_says 0 = .ok (.aload_n 0, 1) := by decide +kernel
theorem dX10_says_1 : decode cX10_says 1 = .ok (.iconst 0, 1) := by decide +kernel
theorem dX10_says_2 : decode cX10_says 2 = .ok (.putfield 62, 3) := by decide +kernel
theorem dX10_says_5 : decode cX10_says 5 = .ok (.iload_n 1, 1) := by decide +kernel
theorem dX10_says_6 : decode cX10_says 6 = .ok (.ireturn, 1) := by decide +kernel
theorem dX10_refuses_0 : decode cX10_refuses 0 = .ok (.aload_n 0, 1) := by decide +kernel
theorem dX10_refuses_1 : decode cX10_refuses 1 = .ok (.iload_n 1, 1) := by decide +kernel
theorem dX10_refuses_2 : decode cX10_refuses 2 = .ok (.putfield 62, 3) := by decide +kernel
theorem dX10_refuses_5 : decode cX10_refuses 5 = .ok (.iload_n 1, 1) := by decide +kernel
theorem dX10_refuses_6 : decode cX10_refuses 6 = .ok (.ireturn, 1) := by decide +kernel
theorem dX10_fails_0 : decode cX10_fails 0 = .ok (.aload_n 0, 1) := by decide +kernel
theorem dX10_fails_1 : decode cX10_fails 1 = .ok (.iload_n 1, 1) := by decide +kernel
theorem dX10_fails_2 : decode cX10_fails 2 = .ok (.putfield 66, 3) := by decide +kernel
theorem dX10_fails_5 : decode cX10_fails 5 = .ok (.aload_n 0, 1) := by decide +kernel
theorem dX10_fails_6 : decode cX10_fails 6 = .ok (.getfield 59, 3) := by decide +kernel
theorem dX10_fails_9 : decode cX10_fails 9 = .ok (.iload_n 1, 1) := by decide +kernel
theorem dX10_fails_10 : decode cX10_fails 10 = .ok (.dup2, 1) := by decide +kernel
theorem dX10_fails_11 : decode cX10_fails 11 = .ok (.iaload, 1) := by decide +kernel
theorem dX10_fails_12 : decode cX10_fails 12 = .ok (.iconst 1, 1) := by decide +kernel
theorem dX10_fails_13 : decode cX10_fails 13 = .ok (.iadd, 1) := by decide +kernel
theorem dX10_fails_14 : decode cX10_fails 14 = .ok (.iastore, 1) := by decide +kernel
theorem dX10_fails_15 : decode cX10_fails 15 = .ok (.aload_n 0, 1) := by decide +kernel
theorem dX10_fails_16 : decode cX10_fails 16 = .ok (.bipush (-10), 2) := by decide +kernel
theorem dX10_fails_18 : decode cX10_fails 18 = .ok (.iload_n 1, 1) := by decide +kernel
theorem dX10_fails_19 : decode cX10_fails 19 = .ok (.isub, 1) := by decide +kernel
theorem dX10_fails_20 : decode cX10_fails 20 = .ok (.putfield 62, 3) := by decide +kernel
theorem dX10_fails_23 : decode cX10_fails 23 = .ok (.aload_n 0, 1) := by decide +kernel
theorem dX10_fails_24 : decode cX10_fails 24 = .ok (.getfield 62, 3) := by decide +kernel
theorem dX10_fails_27 : decode cX10_fails 27 = .ok (.ireturn, 1) := by decide +kernel
theorem dX10_tool_0 : decode cX10_tool 0 = .ok (.iload_n 1, 1) := by decide +kernel
theorem dX10_tool_1 : decode cX10_tool 1 = .ok (.iconst 0, 1) := by decide +kernel
theorem dX10_tool_2 : decode cX10_tool 2 = .ok (.bipush 9, 2) := by decide +kernel
theorem dX10_tool_4 : decode cX10_tool 4 = .ok (.invokestatic 69, 3) := by decide +kernel
theorem dX10_tool_7 : decode cX10_tool 7 = .ok (.ifCond .ne 10, 3) := by decide +kernel
theorem dX10_tool_10 : decode cX10_tool 10 = .ok (.aload_n 0, 1) := by decide +kernel
theorem dX10_tool_11 : decode cX10_tool 11 = .ok (.bipush (-2), 2) := by decide +kernel
theorem dX10_tool_13 : decode cX10_tool 13 = .ok (.invokevirtual 73, 3) := by decide +kernel
theorem dX10_tool_16 : decode cX10_tool 16 = .ok (.ireturn, 1) := by decide +kernel
theorem dX10_tool_17 : decode cX10_tool 17 = .ok (.iload_n 2, 1) := by decide +kernel
theorem dX10_tool_18 : decode cX10_tool 18 = .ok (.iconst 0, 1) := by decide +kernel
theorem dX10_tool_19 : decode cX10_tool 19 = .ok (.iconst 3, 1) := by decide +kernel
theorem dX10_tool_20 : decode cX10_tool 20 = .ok (.invokestatic 69, 3) := by decide +kernel
theorem dX10_tool_23 : decode cX10_tool 23 = .ok (.ifCond .ne 10, 3) := by decide +kernel
theorem dX10_tool_26 : decode cX10_tool 26 = .ok (.aload_n 0, 1) := by decide +kernel
theorem dX10_tool_27 : decode cX10_tool 27 = .ok (.bipush (-3), 2) := by decide +kernel
theorem dX10_tool_29 : decode cX10_tool 29 = .ok (.invokevirtual 73, 3) := by decide +kernel
theorem dX10_tool_32 : decode cX10_tool 32 = .ok (.ireturn, 1) := by decide +kernel
theorem dX10_tool_33 : decode cX10_tool 33 = .ok (.aload_n 0, 1) := by decide +kernel
theorem dX10_tool_34 : decode cX10_tool 34 = .ok (.getfield 7, 3) := by decide +kernel
theorem dX10_tool_37 : decode cX10_tool 37 = .ok (.iload_n 1, 1) := by decide +kernel
theorem dX10_tool_38 : decode cX10_tool 38 = .ok (.iaload, 1) := by decide +kernel
theorem dX10_tool_39 : decode cX10_tool 39 = .ok (.iconst (-1), 1) := by decide +kernel
theorem dX10_tool_40 : decode cX10_tool 40 = .ok (.if_icmp .ne 7, 3) := by decide +kernel
theorem dX10_tool_43 : decode cX10_tool 43 = .ok (.iconst 0, 1) := by decide +kernel
theorem dX10_tool_44 : decode cX10_tool 44 = .ok (.goto 4, 3) := by decide +kernel
theorem dX10_tool_47 : decode cX10_tool 47 = .ok (.iconst 1, 1) := by decide +kernel
theorem dX10_tool_48 : decode cX10_tool 48 = .ok (.istore_n 3, 1) := by decide +kernel
theorem dX10_tool_49 : decode cX10_tool 49 = .ok (.aload_n 0, 1) := by decide +kernel
theorem dX10_tool_50 : decode cX10_tool 50 = .ok (.getfield 13, 3) := by decide +kernel
theorem dX10_tool_53 : decode cX10_tool 53 = .ok (.aload_n 0, 1) := by decide +kernel
theorem dX10_tool_54 : decode cX10_tool 54 = .ok (.getfield 77, 3) := by decide +kernel
theorem dX10_tool_57 : decode cX10_tool 57 = .ok (.iload_n 2, 1) := by decide +kernel
theorem dX10_tool_58 : decode cX10_tool 58 = .ok (.iastore, 1) := by decide +kernel
theorem dX10_tool_59 : decode cX10_tool 59 = .ok (.aload_n 0, 1) := by decide +kernel
theorem dX10_tool_60 : decode cX10_tool 60 = .ok (.getfield 16, 3) := by decide +kernel
theorem dX10_tool_63 : decode cX10_tool 63 = .ok (.aload_n 0, 1) := by decide +kernel
theorem dX10_tool_64 : decode cX10_tool 64 = .ok (.getfield 77, 3) := by decide +kernel
theorem dX10_tool_67 : decode cX10_tool 67 = .ok (.iconst 0, 1) := by decide +kernel
theorem dX10_tool_68 : decode cX10_tool 68 = .ok (.iastore, 1) := by decide +kernel
theorem dX10_tool_69 : decode cX10_tool 69 = .ok (.aload_n 0, 1) := by decide +kernel
theorem dX10_tool_70 : decode cX10_tool 70 = .ok (.getfield 19, 3) := by decide +kernel
theorem dX10_tool_73 : decode cX10_tool 73 = .ok (.aload_n 0, 1) := by decide +kernel
theorem dX10_tool_74 : decode cX10_tool 74 = .ok (.getfield 77, 3) := by decide +kernel
theorem dX10_tool_77 : decode cX10_tool 77 = .ok (.bipush 100, 2) := by decide +kernel
theorem dX10_tool_79 : decode cX10_tool 79 = .ok (.iastore, 1) := by decide +kernel
theorem dX10_tool_80 : decode cX10_tool 80 = .ok (.aload_n 0, 1) := by decide +kernel
theorem dX10_tool_81 : decode cX10_tool 81 = .ok (.getfield 22, 3) := by decide +kernel
theorem dX10_tool_84 : decode cX10_tool 84 = .ok (.aload_n 0, 1) := by decide +kernel
theorem dX10_tool_85 : decode cX10_tool 85 = .ok (.getfield 77, 3) := by decide +kernel
theorem dX10_tool_88 : decode cX10_tool 88 = .ok (.iconst 0, 1) := by decide +kernel
theorem dX10_tool_89 : decode cX10_tool 89 = .ok (.bastore, 1) := by decide +kernel
theorem dX10_tool_90 : decode cX10_tool 90 = .ok (.aload_n 0, 1) := by decide +kernel
theorem dX10_tool_91 : decode cX10_tool 91 = .ok (.getfield 7, 3) := by decide +kernel
theorem dX10_tool_94 : decode cX10_tool 94 = .ok (.iload_n 1, 1) := by decide +kernel
theorem dX10_tool_95 : decode cX10_tool 95 = .ok (.aload_n 0, 1) := by decide +kernel
theorem dX10_tool_96 : decode cX10_tool 96 = .ok (.getfield 77, 3) := by decide +kernel
theorem dX10_tool_99 : decode cX10_tool 99 = .ok (.iastore, 1) := by decide +kernel
theorem dX10_tool_100 : decode cX10_tool 100 = .ok (.aload_n 0, 1) := by decide +kernel
theorem dX10_tool_101 : decode cX10_tool 101 = .ok (.dup, 1) := by decide +kernel
theorem dX10_tool_102 : decode cX10_tool 102 = .ok (.getfield 77, 3) := by decide +kernel
theorem dX10_tool_105 : decode cX10_tool 105 = .ok (.iconst 1, 1) := by decide +kernel
theorem dX10_tool_106 : decode cX10_tool 106 = .ok (.iadd, 1) := by decide +kernel
theorem dX10_tool_107 : decode cX10_tool 107 = .ok (.putfield 77, 3) := by decide +kernel
theorem dX10_tool_110 : decode cX10_tool 110 = .ok (.aload_n 0, 1) := by decide +kernel
theorem dX10_tool_111 : decode cX10_tool 111 = .ok (.iload_n 3, 1) := by decide +kernel
theorem dX10_tool_112 : decode cX10_tool 112 = .ok (.invokevirtual 80, 3) := by decide +kernel
theorem dX10_tool_115 : decode cX10_tool 115 = .ok (.ireturn, 1) := by decide +kernel
theorem dX10_hang_0 : decode cX10_hang 0 = .ok (.iload_n 1, 1) := by decide +kernel
theorem dX10_hang_1 : decode cX10_hang 1 = .ok (.iconst 0, 1) := by decide +kernel
theorem dX10_hang_2 : decode cX10_hang 2 = .ok (.bipush 9, 2) := by decide +kernel
theorem dX10_hang_4 : decode cX10_hang 4 = .ok (.invokestatic 69, 3) := by decide +kernel
theorem dX10_hang_7 : decode cX10_hang 7 = .ok (.ifCond .eq 13, 3) := by decide +kernel
theorem dX10_hang_10 : decode cX10_hang 10 = .ok (.iload_n 2, 1) := by decide +kernel
theorem dX10_hang_11 : decode cX10_hang 11 = .ok (.iconst 0, 1) := by decide +kernel
theorem dX10_hang_12 : decode cX10_hang 12 = .ok (.bipush 9, 2) := by decide +kernel
theorem dX10_hang_14 : decode cX10_hang 14 = .ok (.invokestatic 69, 3) := by decide +kernel
theorem dX10_hang_17 : decode cX10_hang 17 = .ok (.ifCond .ne 10, 3) := by decide +kernel
theorem dX10_hang_20 : decode cX10_hang 20 = .ok (.aload_n 0, 1) := by decide +kernel
theorem dX10_hang_21 : decode cX10_hang 21 = .ok (.bipush (-2), 2) := by decide +kernel
theorem dX10_hang_23 : decode cX10_hang 23 = .ok (.invokevirtual 73, 3) := by decide +kernel
theorem dX10_hang_26 : decode cX10_hang 26 = .ok (.ireturn, 1) := by decide +kernel
theorem dX10_hang_27 : decode cX10_hang 27 = .ok (.aload_n 0, 1) := by decide +kernel
theorem dX10_hang_28 : decode cX10_hang 28 = .ok (.getfield 7, 3) := by decide +kernel
theorem dX10_hang_31 : decode cX10_hang 31 = .ok (.iload_n 1, 1) := by decide +kernel
theorem dX10_hang_32 : decode cX10_hang 32 = .ok (.aload_n 0, 1) := by decide +kernel
theorem dX10_hang_33 : decode cX10_hang 33 = .ok (.getfield 7, 3) := by decide +kernel
theorem dX10_hang_36 : decode cX10_hang 36 = .ok (.iload_n 2, 1) := by decide +kernel
theorem dX10_hang_37 : decode cX10_hang 37 = .ok (.iaload, 1) := by decide +kernel
theorem dX10_hang_38 : decode cX10_hang 38 = .ok (.iastore, 1) := by decide +kernel
theorem dX10_hang_39 : decode cX10_hang 39 = .ok (.aload_n 0, 1) := by decide +kernel
theorem dX10_hang_40 : decode cX10_hang 40 = .ok (.aload_n 0, 1) := by decide +kernel
theorem dX10_hang_41 : decode cX10_hang 41 = .ok (.getfield 7, 3) := by decide +kernel
theorem dX10_hang_44 : decode cX10_hang 44 = .ok (.iload_n 1, 1) := by decide +kernel
theorem dX10_hang_45 : decode cX10_hang 45 = .ok (.iaload, 1) := by decide +kernel
theorem dX10_hang_46 : decode cX10_hang 46 = .ok (.iconst (-1), 1) := by decide +kernel
theorem dX10_hang_47 : decode cX10_hang 47 = .ok (.if_icmp .ne 7, 3) := by decide +kernel
theorem dX10_hang_50 : decode cX10_hang 50 = .ok (.iconst 0, 1) := by decide +kernel
theorem dX10_hang_51 : decode cX10_hang 51 = .ok (.goto 4, 3) := by decide +kernel
theorem dX10_hang_54 : decode cX10_hang 54 = .ok (.iconst 1, 1) := by decide +kernel
theorem dX10_hang_55 : decode cX10_hang 55 = .ok (.invokevirtual 80, 3) := by decide +kernel
theorem dX10_hang_58 : decode cX10_hang 58 = .ok (.ireturn, 1) := by decide +kernel
theorem dX10_unhang_0 : decode cX10_unhang 0 = .ok (.iload_n 1, 1) := by decide +kernel
theorem dX10_unhang_1 : decode cX10_unhang 1 = .ok (.iconst 0, 1) := by decide +kernel
theorem dX10_unhang_2 : decode cX10_unhang 2 = .ok (.bipush 9, 2) := by decide +kernel
theorem dX10_unhang_4 : decode cX10_unhang 4 = .ok (.invokestatic 69, 3) := by decide +kernel
theorem dX10_unhang_7 : decode cX10_unhang 7 = .ok (.ifCond .ne 10, 3) := by decide +kernel
theorem dX10_unhang_10 : decode cX10_unhang 10 = .ok (.aload_n 0, 1) := by decide +kernel
theorem dX10_unhang_11 : decode cX10_unhang 11 = .ok (.bipush (-2), 2) := by decide +kernel
theorem dX10_unhang_13 : decode cX10_unhang 13 = .ok (.invokevirtual 73, 3) := by decide +kernel
theorem dX10_unhang_16 : decode cX10_unhang 16 = .ok (.ireturn, 1) := by decide +kernel
theorem dX10_unhang_17 : decode cX10_unhang 17 = .ok (.aload_n 0, 1) := by decide +kernel
theorem dX10_unhang_18 : decode cX10_unhang 18 = .ok (.getfield 7, 3) := by decide +kernel
theorem dX10_unhang_21 : decode cX10_unhang 21 = .ok (.iload_n 1, 1) := by decide +kernel
theorem dX10_unhang_22 : decode cX10_unhang 22 = .ok (.iaload, 1) := by decide +kernel
theorem dX10_unhang_23 : decode cX10_unhang 23 = .ok (.iconst (-1), 1) := by decide +kernel
theorem dX10_unhang_24 : decode cX10_unhang 24 = .ok (.if_icmp .ne 7, 3) := by decide +kernel
theorem dX10_unhang_27 : decode cX10_unhang 27 = .ok (.iconst 0, 1) := by decide +kernel
theorem dX10_unhang_28 : decode cX10_unhang 28 = .ok (.goto 4, 3) := by decide +kernel
theorem dX10_unhang_31 : decode cX10_unhang 31 = .ok (.iconst 1, 1) := by decide +kernel
theorem dX10_unhang_32 : decode cX10_unhang 32 = .ok (.istore_n 2, 1) := by decide +kernel
theorem dX10_unhang_33 : decode cX10_unhang 33 = .ok (.aload_n 0, 1) := by decide +kernel
theorem dX10_unhang_34 : decode cX10_unhang 34 = .ok (.getfield 7, 3) := by decide +kernel
theorem dX10_unhang_37 : decode cX10_unhang 37 = .ok (.iload_n 1, 1) := by decide +kernel
theorem dX10_unhang_38 : decode cX10_unhang 38 = .ok (.iconst (-1), 1) := by decide +kernel
theorem dX10_unhang_39 : decode cX10_unhang 39 = .ok (.iastore, 1) := by decide +kernel
theorem dX10_unhang_40 : decode cX10_unhang 40 = .ok (.aload_n 0, 1) := by decide +kernel
theorem dX10_unhang_41 : decode cX10_unhang 41 = .ok (.iload_n 2, 1) := by decide +kernel
theorem dX10_unhang_42 : decode cX10_unhang 42 = .ok (.invokevirtual 80, 3) := by decide +kernel
theorem dX10_unhang_45 : decode cX10_unhang 45 = .ok (.ireturn, 1) := by decide +kernel
theorem dX10_kind_0 : decode cX10_kind 0 = .ok (.iload_n 1, 1) := by decide +kernel
theorem dX10_kind_1 : decode cX10_kind 1 = .ok (.iconst 0, 1) := by decide +kernel
theorem dX10_kind_2 : decode cX10_kind 2 = .ok (.bipush 9, 2) := by decide +kernel
theorem dX10_kind_4 : decode cX10_kind 4 = .ok (.invokestatic 69, 3) := by decide +kernel
theorem dX10_kind_7 : decode cX10_kind 7 = .ok (.ifCond .ne 10, 3) := by decide +kernel
theorem dX10_kind_10 : decode cX10_kind 10 = .ok (.aload_n 0, 1) := by decide +kernel
theorem dX10_kind_11 : decode cX10_kind 11 = .ok (.bipush (-2), 2) := by decide +kernel
theorem dX10_kind_13 : decode cX10_kind 13 = .ok (.invokevirtual 73, 3) := by decide +kernel
theorem dX10_kind_16 : decode cX10_kind 16 = .ok (.ireturn, 1) := by decide +kernel
theorem dX10_kind_17 : decode cX10_kind 17 = .ok (.aload_n 0, 1) := by decide +kernel
theorem dX10_kind_18 : decode cX10_kind 18 = .ok (.aload_n 0, 1) := by decide +kernel
theorem dX10_kind_19 : decode cX10_kind 19 = .ok (.getfield 7, 3) := by decide +kernel
theorem dX10_kind_22 : decode cX10_kind 22 = .ok (.iload_n 1, 1) := by decide +kernel
theorem dX10_kind_23 : decode cX10_kind 23 = .ok (.iaload, 1) := by decide +kernel
theorem dX10_kind_24 : decode cX10_kind 24 = .ok (.iconst (-1), 1) := by decide +kernel
theorem dX10_kind_25 : decode cX10_kind 25 = .ok (.if_icmp .ne 7, 3) := by decide +kernel
theorem dX10_kind_28 : decode cX10_kind 28 = .ok (.iconst (-1), 1) := by decide +kernel
theorem dX10_kind_29 : decode cX10_kind 29 = .ok (.goto 14, 3) := by decide +kernel
theorem dX10_kind_32 : decode cX10_kind 32 = .ok (.aload_n 0, 1) := by decide +kernel
theorem dX10_kind_33 : decode cX10_kind 33 = .ok (.getfield 13, 3) := by decide +kernel
theorem dX10_kind_36 : decode cX10_kind 36 = .ok (.aload_n 0, 1) := by decide +kernel
theorem dX10_kind_37 : decode cX10_kind 37 = .ok (.getfield 7, 3) := by decide +kernel
theorem dX10_kind_40 : decode cX10_kind 40 = .ok (.iload_n 1, 1) := by decide +kernel
theorem dX10_kind_41 : decode cX10_kind 41 = .ok (.iaload, 1) := by decide +kernel
theorem dX10_kind_42 : decode cX10_kind 42 = .ok (.iaload, 1) := by decide +kernel
theorem dX10_kind_43 : decode cX10_kind 43 = .ok (.invokevirtual 80, 3) := by decide +kernel
theorem dX10_kind_46 : decode cX10_kind 46 = .ok (.ireturn, 1) := by decide +kernel
theorem dX10_card_0 : decode cX10_card 0 = .ok (.iload_n 1, 1) := by decide +kernel
theorem dX10_card_1 : decode cX10_card 1 = .ok (.iconst 0, 1) := by decide +kernel
theorem dX10_card_2 : decode cX10_card 2 = .ok (.bipush 9, 2) := by decide +kernel
theorem dX10_card_4 : decode cX10_card 4 = .ok (.invokestatic 69, 3) := by decide +kernel
theorem dX10_card_7 : decode cX10_card 7 = .ok (.ifCond .ne 10, 3) := by decide +kernel
theorem dX10_card_10 : decode cX10_card 10 = .ok (.aload_n 0, 1) := by decide +kernel
theorem dX10_card_11 : decode cX10_card 11 = .ok (.bipush (-2), 2) := by decide +kernel
theorem dX10_card_13 : decode cX10_card 13 = .ok (.invokevirtual 73, 3) := by decide +kernel
theorem dX10_card_16 : decode cX10_card 16 = .ok (.ireturn, 1) := by decide +kernel
theorem dX10_card_17 : decode cX10_card 17 = .ok (.aload_n 0, 1) := by decide +kernel
theorem dX10_card_18 : decode cX10_card 18 = .ok (.getfield 7, 3) := by decide +kernel
theorem dX10_card_21 : decode cX10_card 21 = .ok (.iload_n 1, 1) := by decide +kernel
theorem dX10_card_22 : decode cX10_card 22 = .ok (.iaload, 1) := by decide +kernel
theorem dX10_card_23 : decode cX10_card 23 = .ok (.iconst (-1), 1) := by decide +kernel
theorem dX10_card_24 : decode cX10_card 24 = .ok (.if_icmp .ne 9, 3) := by decide +kernel
theorem dX10_card_27 : decode cX10_card 27 = .ok (.aload_n 0, 1) := by decide +kernel
theorem dX10_card_28 : decode cX10_card 28 = .ok (.iconst 1, 1) := by decide +kernel
theorem dX10_card_29 : decode cX10_card 29 = .ok (.invokevirtual 83, 3) := by decide +kernel
theorem dX10_card_32 : decode cX10_card 32 = .ok (.ireturn, 1) := by decide +kernel
theorem dX10_card_33 : decode cX10_card 33 = .ok (.aload_n 0, 1) := by decide +kernel
theorem dX10_card_34 : decode cX10_card 34 = .ok (.getfield 22, 3) := by decide +kernel
theorem dX10_card_37 : decode cX10_card 37 = .ok (.aload_n 0, 1) := by decide +kernel
theorem dX10_card_38 : decode cX10_card 38 = .ok (.getfield 7, 3) := by decide +kernel
theorem dX10_card_41 : decode cX10_card 41 = .ok (.iload_n 1, 1) := by decide +kernel
theorem dX10_card_42 : decode cX10_card 42 = .ok (.iaload, 1) := by decide +kernel
theorem dX10_card_43 : decode cX10_card 43 = .ok (.iconst 1, 1) := by decide +kernel
theorem dX10_card_44 : decode cX10_card 44 = .ok (.bastore, 1) := by decide +kernel
theorem dX10_card_45 : decode cX10_card 45 = .ok (.aload_n 0, 1) := by decide +kernel
theorem dX10_card_46 : decode cX10_card 46 = .ok (.getfield 26, 3) := by decide +kernel
theorem dX10_card_49 : decode cX10_card 49 = .ok (.aload_n 0, 1) := by decide +kernel
theorem dX10_card_50 : decode cX10_card 50 = .ok (.getfield 7, 3) := by decide +kernel
theorem dX10_card_53 : decode cX10_card 53 = .ok (.iload_n 1, 1) := by decide +kernel
theorem dX10_card_54 : decode cX10_card 54 = .ok (.iaload, 1) := by decide +kernel
theorem dX10_card_55 : decode cX10_card 55 = .ok (.iload_n 2, 1) := by decide +kernel
theorem dX10_card_56 : decode cX10_card 56 = .ok (.iastore, 1) := by decide +kernel
theorem dX10_card_57 : decode cX10_card 57 = .ok (.aload_n 0, 1) := by decide +kernel
theorem dX10_card_58 : decode cX10_card 58 = .ok (.iconst 1, 1) := by decide +kernel
theorem dX10_card_59 : decode cX10_card 59 = .ok (.invokevirtual 80, 3) := by decide +kernel
theorem dX10_card_62 : decode cX10_card 62 = .ok (.ireturn, 1) := by decide +kernel
theorem dX10_uncard_0 : decode cX10_uncard 0 = .ok (.iload_n 1, 1) := by decide +kernel
theorem dX10_uncard_1 : decode cX10_uncard 1 = .ok (.iconst 0, 1) := by decide +kernel
theorem dX10_uncard_2 : decode cX10_uncard 2 = .ok (.bipush 9, 2) := by decide +kernel
theorem dX10_uncard_4 : decode cX10_uncard 4 = .ok (.invokestatic 69, 3) := by decide +kernel
theorem dX10_uncard_7 : decode cX10_uncard 7 = .ok (.ifCond .ne 10, 3) := by decide +kernel
theorem dX10_uncard_10 : decode cX10_uncard 10 = .ok (.aload_n 0, 1) := by decide +kernel
theorem dX10_uncard_11 : decode cX10_uncard 11 = .ok (.bipush (-2), 2) := by decide +kernel
theorem dX10_uncard_13 : decode cX10_uncard 13 = .ok (.invokevirtual 73, 3) := by decide +kernel
theorem dX10_uncard_16 : decode cX10_uncard 16 = .ok (.ireturn, 1) := by decide +kernel
theorem dX10_uncard_17 : decode cX10_uncard 17 = .ok (.aload_n 0, 1) := by decide +kernel
theorem dX10_uncard_18 : decode cX10_uncard 18 = .ok (.getfield 7, 3) := by decide +kernel
theorem dX10_uncard_21 : decode cX10_uncard 21 = .ok (.iload_n 1, 1) := by decide +kernel
theorem dX10_uncard_22 : decode cX10_uncard 22 = .ok (.iaload, 1) := by decide +kernel
theorem dX10_uncard_23 : decode cX10_uncard 23 = .ok (.iconst (-1), 1) := by decide +kernel
theorem dX10_uncard_24 : decode cX10_uncard 24 = .ok (.if_icmp .ne 9, 3) := by decide +kernel
theorem dX10_uncard_27 : decode cX10_uncard 27 = .ok (.aload_n 0, 1) := by decide +kernel
theorem dX10_uncard_28 : decode cX10_uncard 28 = .ok (.iconst 1, 1) := by decide +kernel
theorem dX10_uncard_29 : decode cX10_uncard 29 = .ok (.invokevirtual 83, 3) := by decide +kernel
theorem dX10_uncard_32 : decode cX10_uncard 32 = .ok (.ireturn, 1) := by decide +kernel
theorem dX10_uncard_33 : decode cX10_uncard 33 = .ok (.aload_n 0, 1) := by decide +kernel
theorem dX10_uncard_34 : decode cX10_uncard 34 = .ok (.getfield 22, 3) := by decide +kernel
theorem dX10_uncard_37 : decode cX10_uncard 37 = .ok (.aload_n 0, 1) := by decide +kernel
theorem dX10_uncard_38 : decode cX10_uncard 38 = .ok (.getfield 7, 3) := by decide +kernel
theorem dX10_uncard_41 : decode cX10_uncard 41 = .ok (.iload_n 1, 1) := by decide +kernel
theorem dX10_uncard_42 : decode cX10_uncard 42 = .ok (.iaload, 1) := by decide +kernel
theorem dX10_uncard_43 : decode cX10_uncard 43 = .ok (.iconst 0, 1) := by decide +kernel
theorem dX10_uncard_44 : decode cX10_uncard 44 = .ok (.bastore, 1) := by decide +kernel
theorem dX10_uncard_45 : decode cX10_uncard 45 = .ok (.aload_n 0, 1) := by decide +kernel
theorem dX10_uncard_46 : decode cX10_uncard 46 = .ok (.iconst 1, 1) := by decide +kernel
theorem dX10_uncard_47 : decode cX10_uncard 47 = .ok (.invokevirtual 80, 3) := by decide +kernel
theorem dX10_uncard_50 : decode cX10_uncard 50 = .ok (.ireturn, 1) := by decide +kernel
theorem dX10_rename_0 : decode cX10_rename 0 = .ok (.iload_n 1, 1) := by decide +kernel
theorem dX10_rename_1 : decode cX10_rename 1 = .ok (.iconst 0, 1) := by decide +kernel
theorem dX10_rename_2 : decode cX10_rename 2 = .ok (.bipush 9, 2) := by decide +kernel
theorem dX10_rename_4 : decode cX10_rename 4 = .ok (.invokestatic 69, 3) := by decide +kernel
theorem dX10_rename_7 : decode cX10_rename 7 = .ok (.ifCond .ne 10, 3) := by decide +kernel
theorem dX10_rename_10 : decode cX10_rename 10 = .ok (.aload_n 0, 1) := by decide +kernel
theorem dX10_rename_11 : decode cX10_rename 11 = .ok (.bipush (-2), 2) := by decide +kernel
theorem dX10_rename_13 : decode cX10_rename 13 = .ok (.invokevirtual 73, 3) := by decide +kernel
theorem dX10_rename_16 : decode cX10_rename 16 = .ok (.ireturn, 1) := by decide +kernel
theorem dX10_rename_17 : decode cX10_rename 17 = .ok (.aload_n 0, 1) := by decide +kernel
theorem dX10_rename_18 : decode cX10_rename 18 = .ok (.getfield 7, 3) := by decide +kernel
theorem dX10_rename_21 : decode cX10_rename 21 = .ok (.iload_n 1, 1) := by decide +kernel
theorem dX10_rename_22 : decode cX10_rename 22 = .ok (.iaload, 1) := by decide +kernel
theorem dX10_rename_23 : decode cX10_rename 23 = .ok (.iconst (-1), 1) := by decide +kernel
theorem dX10_rename_24 : decode cX10_rename 24 = .ok (.if_icmp .eq 17, 3) := by decide +kernel
theorem dX10_rename_27 : decode cX10_rename 27 = .ok (.aload_n 0, 1) := by decide +kernel
theorem dX10_rename_28 : decode cX10_rename 28 = .ok (.getfield 22, 3) := by decide +kernel
theorem dX10_rename_31 : decode cX10_rename 31 = .ok (.aload_n 0, 1) := by decide +kernel
theorem dX10_rename_32 : decode cX10_rename 32 = .ok (.getfield 7, 3) := by decide +kernel
theorem dX10_rename_35 : decode cX10_rename 35 = .ok (.iload_n 1, 1) := by decide +kernel
theorem dX10_rename_36 : decode cX10_rename 36 = .ok (.iaload, 1) := by decide +kernel
theorem dX10_rename_37 : decode cX10_rename 37 = .ok (.baload, 1) := by decide +kernel
theorem dX10_rename_38 : decode cX10_rename 38 = .ok (.ifCond .ne 9, 3) := by decide +kernel
theorem dX10_rename_41 : decode cX10_rename 41 = .ok (.aload_n 0, 1) := by decide +kernel
theorem dX10_rename_42 : decode cX10_rename 42 = .ok (.iconst 1, 1) := by decide +kernel
theorem dX10_rename_43 : decode cX10_rename 43 = .ok (.invokevirtual 83, 3) := by decide +kernel
theorem dX10_rename_46 : decode cX10_rename 46 = .ok (.ireturn, 1) := by decide +kernel
theorem dX10_rename_47 : decode cX10_rename 47 = .ok (.aload_n 0, 1) := by decide +kernel
theorem dX10_rename_48 : decode cX10_rename 48 = .ok (.getfield 26, 3) := by decide +kernel
theorem dX10_rename_51 : decode cX10_rename 51 = .ok (.aload_n 0, 1) := by decide +kernel
theorem dX10_rename_52 : decode cX10_rename 52 = .ok (.getfield 7, 3) := by decide +kernel
theorem dX10_rename_55 : decode cX10_rename 55 = .ok (.iload_n 1, 1) := by decide +kernel
theorem dX10_rename_56 : decode cX10_rename 56 = .ok (.iaload, 1) := by decide +kernel
theorem dX10_rename_57 : decode cX10_rename 57 = .ok (.iload_n 2, 1) := by decide +kernel
theorem dX10_rename_58 : decode cX10_rename 58 = .ok (.iastore, 1) := by decide +kernel
theorem dX10_rename_59 : decode cX10_rename 59 = .ok (.aload_n 0, 1) := by decide +kernel
theorem dX10_rename_60 : decode cX10_rename 60 = .ok (.iconst 1, 1) := by decide +kernel
theorem dX10_rename_61 : decode cX10_rename 61 = .ok (.invokevirtual 80, 3) := by decide +kernel
theorem dX10_rename_64 : decode cX10_rename 64 = .ok (.ireturn, 1) := by decide +kernel
theorem dX10_isBlade_0 : decode cX10_isBlade 0 = .ok (.iload_n 0, 1) := by decide +kernel
theorem dX10_isBlade_1 : decode cX10_isBlade 1 = .ok (.iconst 1, 1) := by decide +kernel
theorem dX10_isBlade_2 : decode cX10_isBlade 2 = .ok (.if_icmp .eq 8, 3) := by decide +kernel
theorem dX10_isBlade_5 : decode cX10_isBlade 5 = .ok (.iload_n 0, 1) := by decide +kernel
theorem dX10_isBlade_6 : decode cX10_isBlade 6 = .ok (.iconst 2, 1) := by decide +kernel
theorem dX10_isBlade_7 : decode cX10_isBlade 7 = .ok (.if_icmp .ne 7, 3) := by decide +kernel
theorem dX10_isBlade_10 : decode cX10_isBlade 10 = .ok (.iconst 1, 1) := by decide +kernel
theorem dX10_isBlade_11 : decode cX10_isBlade 11 = .ok (.goto 4, 3) := by decide +kernel
theorem dX10_isBlade_14 : decode cX10_isBlade 14 = .ok (.iconst 0, 1) := by decide +kernel
theorem dX10_isBlade_15 : decode cX10_isBlade 15 = .ok (.ireturn, 1) := by decide +kernel
theorem dX10_weight_0 : decode cX10_weight 0 = .ok (.aload_n 0, 1) := by decide +kernel
theorem dX10_weight_1 : decode cX10_weight 1 = .ok (.getfield 13, 3) := by decide +kernel
theorem dX10_weight_4 : decode cX10_weight 4 = .ok (.iload_n 1, 1) := by decide +kernel
theorem dX10_weight_5 : decode cX10_weight 5 = .ok (.iaload, 1) := by decide +kernel
theorem dX10_weight_6 : decode cX10_weight 6 = .ok (.ifCond .ne 15, 3) := by decide +kernel
theorem dX10_weight_9 : decode cX10_weight 9 = .ok (.bipush 50, 2) := by decide +kernel
theorem dX10_weight_11 : decode cX10_weight 11 = .ok (.aload_n 0, 1) := by decide +kernel
theorem dX10_weight_12 : decode cX10_weight 12 = .ok (.getfield 16, 3) := by decide +kernel
theorem dX10_weight_15 : decode cX10_weight 15 = .ok (.iload_n 1, 1) := by decide +kernel
theorem dX10_weight_16 : decode cX10_weight 16 = .ok (.iaload, 1) := by decide +kernel
theorem dX10_weight_17 : decode cX10_weight 17 = .ok (.iadd, 1) := by decide +kernel
theorem dX10_weight_18 : decode cX10_weight 18 = .ok (.goto 34, 3) := by decide +kernel
theorem dX10_weight_21 : decode cX10_weight 21 = .ok (.aload_n 0, 1) := by decide +kernel
theorem dX10_weight_22 : decode cX10_weight 22 = .ok (.getfield 13, 3) := by decide +kernel
theorem dX10_weight_25 : decode cX10_weight 25 = .ok (.iload_n 1, 1) := by decide +kernel
theorem dX10_weight_26 : decode cX10_weight 26 = .ok (.iaload, 1) := by decide +kernel
theorem dX10_weight_27 : decode cX10_weight 27 = .ok (.iconst 1, 1) := by decide +kernel
theorem dX10_weight_28 : decode cX10_weight 28 = .ok (.if_icmp .ne 8, 3) := by decide +kernel
theorem dX10_weight_31 : decode cX10_weight 31 = .ok (.bipush 10, 2) := by decide +kernel
theorem dX10_weight_33 : decode cX10_weight 33 = .ok (.goto 19, 3) := by decide +kernel
theorem dX10_weight_36 : decode cX10_weight 36 = .ok (.aload_n 0, 1) := by decide +kernel
theorem dX10_weight_37 : decode cX10_weight 37 = .ok (.getfield 13, 3) := by decide +kernel
theorem dX10_weight_40 : decode cX10_weight 40 = .ok (.iload_n 1, 1) := by decide +kernel
theorem dX10_weight_41 : decode cX10_weight 41 = .ok (.iaload, 1) := by decide +kernel
theorem dX10_weight_42 : decode cX10_weight 42 = .ok (.iconst 2, 1) := by decide +kernel
theorem dX10_weight_43 : decode cX10_weight 43 = .ok (.if_icmp .ne 8, 3) := by decide +kernel
theorem dX10_weight_46 : decode cX10_weight 46 = .ok (.bipush 12, 2) := by decide +kernel
theorem dX10_weight_48 : decode cX10_weight 48 = .ok (.goto 4, 3) := by decide +kernel
theorem dX10_weight_51 : decode cX10_weight 51 = .ok (.iconst 5, 1) := by decide +kernel
theorem dX10_weight_52 : decode cX10_weight 52 = .ok (.ireturn, 1) := by decide +kernel
theorem dX10_of_0 : decode cX10_of 0 = .ok (.aload_n 0, 1) := by decide +kernel
theorem dX10_of_1 : decode cX10_of 1 = .ok (.iload_n 1, 1) := by decide +kernel
theorem dX10_of_2 : decode cX10_of 2 = .ok (.iconst 0, 1) := by decide +kernel
theorem dX10_of_3 : decode cX10_of 3 = .ok (.bipush 9, 2) := by decide +kernel
theorem dX10_of_5 : decode cX10_of 5 = .ok (.invokestatic 69, 3) := by decide +kernel
theorem dX10_of_8 : decode cX10_of 8 = .ok (.ifCond .ne 8, 3) := by decide +kernel
theorem dX10_of_11 : decode cX10_of 11 = .ok (.bipush (-2), 2) := by decide +kernel
theorem dX10_of_13 : decode cX10_of 13 = .ok (.goto 18, 3) := by decide +kernel
theorem dX10_of_16 : decode cX10_of 16 = .ok (.iload_n 2, 1) := by decide +kernel
theorem dX10_of_17 : decode cX10_of 17 = .ok (.iconst 0, 1) := by decide +kernel
theorem dX10_of_18 : decode cX10_of 18 = .ok (.iconst 3, 1) := by decide +kernel
theorem dX10_of_19 : decode cX10_of 19 = .ok (.invokestatic 69, 3) := by decide +kernel
theorem dX10_of_22 : decode cX10_of 22 = .ok (.ifCond .ne 8, 3) := by decide +kernel
theorem dX10_of_25 : decode cX10_of 25 = .ok (.bipush (-3), 2) := by decide +kernel
theorem dX10_of_27 : decode cX10_of 27 = .ok (.goto 4, 3) := by decide +kernel
theorem dX10_of_30 : decode cX10_of 30 = .ok (.iconst 0, 1) := by decide +kernel
theorem dX10_of_31 : decode cX10_of 31 = .ok (.putfield 62, 3) := by decide +kernel
theorem dX10_of_34 : decode cX10_of 34 = .ok (.aload_n 0, 1) := by decide +kernel
theorem dX10_of_35 : decode cX10_of 35 = .ok (.getfield 62, 3) := by decide +kernel
theorem dX10_of_38 : decode cX10_of 38 = .ok (.ifCond .eq 5, 3) := by decide +kernel
theorem dX10_of_41 : decode cX10_of 41 = .ok (.iconst 0, 1) := by decide +kernel
theorem dX10_of_42 : decode cX10_of 42 = .ok (.ireturn, 1) := by decide +kernel
theorem dX10_of_43 : decode cX10_of 43 = .ok (.aload_n 0, 1) := by decide +kernel
theorem dX10_of_44 : decode cX10_of 44 = .ok (.getfield 7, 3) := by decide +kernel
theorem dX10_of_47 : decode cX10_of 47 = .ok (.iload_n 1, 1) := by decide +kernel
theorem dX10_of_48 : decode cX10_of 48 = .ok (.iaload, 1) := by decide +kernel
theorem dX10_of_49 : decode cX10_of 49 = .ok (.istore_n 3, 1) := by decide +kernel
theorem dX10_of_50 : decode cX10_of 50 = .ok (.iload_n 3, 1) := by decide +kernel
theorem dX10_of_51 : decode cX10_of 51 = .ok (.iconst (-1), 1) := by decide +kernel
theorem dX10_of_52 : decode cX10_of 52 = .ok (.if_icmp .eq 16, 3) := by decide +kernel
theorem dX10_of_55 : decode cX10_of 55 = .ok (.iload_n 2, 1) := by decide +kernel
theorem dX10_of_56 : decode cX10_of 56 = .ok (.ifCond .ne 16, 3) := by decide +kernel
theorem dX10_of_59 : decode cX10_of 59 = .ok (.aload_n 0, 1) := by decide +kernel
theorem dX10_of_60 : decode cX10_of 60 = .ok (.getfield 22, 3) := by decide +kernel
theorem dX10_of_63 : decode cX10_of 63 = .ok (.iload_n 3, 1) := by decide +kernel
theorem dX10_of_64 : decode cX10_of 64 = .ok (.baload, 1) := by decide +kernel
theorem dX10_of_65 : decode cX10_of 65 = .ok (.ifCond .ne 7, 3) := by decide +kernel
theorem dX10_of_68 : decode cX10_of 68 = .ok (.iconst 1, 1) := by decide +kernel
theorem dX10_of_69 : decode cX10_of 69 = .ok (.goto 25, 3) := by decide +kernel
theorem dX10_of_72 : decode cX10_of 72 = .ok (.iload_n 2, 1) := by decide +kernel
theorem dX10_of_73 : decode cX10_of 73 = .ok (.iconst 3, 1) := by decide +kernel
theorem dX10_of_74 : decode cX10_of 74 = .ok (.if_icmp .ne 19, 3) := by decide +kernel
theorem dX10_of_77 : decode cX10_of 77 = .ok (.aload_n 0, 1) := by decide +kernel
theorem dX10_of_78 : decode cX10_of 78 = .ok (.getfield 13, 3) := by decide +kernel
theorem dX10_of_81 : decode cX10_of 81 = .ok (.iload_n 3, 1) := by decide +kernel
theorem dX10_of_82 : decode cX10_of 82 = .ok (.iaload, 1) := by decide +kernel
theorem dX10_of_83 : decode cX10_of 83 = .ok (.invokestatic 86, 3) := by decide +kernel
theorem dX10_of_86 : decode cX10_of 86 = .ok (.ifCond .ne 7, 3) := by decide +kernel
theorem dX10_of_89 : decode cX10_of 89 = .ok (.iconst 4, 1) := by decide +kernel
theorem dX10_of_90 : decode cX10_of 90 = .ok (.goto 4, 3) := by decide +kernel
theorem dX10_of_93 : decode cX10_of 93 = .ok (.iconst 0, 1) := by decide +kernel
theorem dX10_of_94 : decode cX10_of 94 = .ok (.istore 4, 2) := by decide +kernel
theorem dX10_of_96 : decode cX10_of 96 = .ok (.iload 4, 2) := by decide +kernel
theorem dX10_of_98 : decode cX10_of 98 = .ok (.ifCond .eq 13, 3) := by decide +kernel
theorem dX10_of_101 : decode cX10_of 101 = .ok (.aload_n 0, 1) := by decide +kernel
theorem dX10_of_102 : decode cX10_of 102 = .ok (.iload 4, 2) := by decide +kernel
theorem dX10_of_104 : decode cX10_of 104 = .ok (.invokevirtual 83, 3) := by decide +kernel
theorem dX10_of_107 : decode cX10_of 107 = .ok (.istore 4, 2) := by decide +kernel
theorem dX10_of_109 : decode cX10_of 109 = .ok (.iconst 0, 1) := by decide +kernel
theorem dX10_of_110 : decode cX10_of 110 = .ok (.ireturn, 1) := by decide +kernel
theorem dX10_of_111 : decode cX10_of 111 = .ok (.iload_n 2, 1) := by decide +kernel
theorem dX10_of_112 : decode cX10_of 112 = .ok (.ifCond .ne 12, 3) := by decide +kernel
theorem dX10_of_115 : decode cX10_of 115 = .ok (.aload_n 0, 1) := by decide +kernel
theorem dX10_of_116 : decode cX10_of 116 = .ok (.getfield 26, 3) := by decide +kernel
theorem dX10_of_119 : decode cX10_of 119 = .ok (.iload_n 3, 1) := by decide +kernel
theorem dX10_of_120 : decode cX10_of 120 = .ok (.iaload, 1) := by decide +kernel
theorem dX10_of_121 : decode cX10_of 121 = .ok (.goto 36, 3) := by decide +kernel
theorem dX10_of_124 : decode cX10_of 124 = .ok (.iload_n 2, 1) := by decide +kernel
theorem dX10_of_125 : decode cX10_of 125 = .ok (.iconst 1, 1) := by decide +kernel
theorem dX10_of_126 : decode cX10_of 126 = .ok (.if_icmp .ne 12, 3) := by decide +kernel
theorem dX10_of_129 : decode cX10_of 129 = .ok (.aload_n 0, 1) := by decide +kernel
theorem dX10_of_130 : decode cX10_of 130 = .ok (.getfield 16, 3) := by decide +kernel
theorem dX10_of_133 : decode cX10_of 133 = .ok (.iload_n 3, 1) := by decide +kernel
theorem dX10_of_134 : decode cX10_of 134 = .ok (.iaload, 1) := by decide +kernel
theorem dX10_of_135 : decode cX10_of 135 = .ok (.goto 22, 3) := by decide +kernel
theorem dX10_of_138 : decode cX10_of 138 = .ok (.iload_n 2, 1) := by decide +kernel
theorem dX10_of_139 : decode cX10_of 139 = .ok (.iconst 2, 1) := by decide +kernel
theorem dX10_of_140 : decode cX10_of 140 = .ok (.if_icmp .ne 11, 3) := by decide +kernel
theorem dX10_of_143 : decode cX10_of 143 = .ok (.aload_n 0, 1) := by decide +kernel
theorem dX10_of_144 : decode cX10_of 144 = .ok (.iload_n 3, 1) := by decide +kernel
theorem dX10_of_145 : decode cX10_of 145 = .ok (.invokevirtual 90, 3) := by decide +kernel
theorem dX10_of_148 : decode cX10_of 148 = .ok (.goto 9, 3) := by decide +kernel
theorem dX10_of_151 : decode cX10_of 151 = .ok (.aload_n 0, 1) := by decide +kernel
theorem dX10_of_152 : decode cX10_of 152 = .ok (.getfield 19, 3) := by decide +kernel
theorem dX10_of_155 : decode cX10_of 155 = .ok (.iload_n 3, 1) := by decide +kernel
theorem dX10_of_156 : decode cX10_of 156 = .ok (.iaload, 1) := by decide +kernel
theorem dX10_of_157 : decode cX10_of 157 = .ok (.ireturn, 1) := by decide +kernel
theorem dX10_hone_0 : decode cX10_hone 0 = .ok (.iload_n 1, 1) := by decide +kernel
theorem dX10_hone_1 : decode cX10_hone 1 = .ok (.iconst 0, 1) := by decide +kernel
theorem dX10_hone_2 : decode cX10_hone 2 = .ok (.bipush 9, 2) := by decide +kernel
theorem dX10_hone_4 : decode cX10_hone 4 = .ok (.invokestatic 69, 3) := by decide +kernel
theorem dX10_hone_7 : decode cX10_hone 7 = .ok (.ifCond .ne 10, 3) := by decide +kernel
theorem dX10_hone_10 : decode cX10_hone 10 = .ok (.aload_n 0, 1) := by decide +kernel
theorem dX10_hone_11 : decode cX10_hone 11 = .ok (.bipush (-2), 2) := by decide +kernel
theorem dX10_hone_13 : decode cX10_hone 13 = .ok (.invokevirtual 73, 3) := by decide +kernel
theorem dX10_hone_16 : decode cX10_hone 16 = .ok (.ireturn, 1) := by decide +kernel
theorem dX10_hone_17 : decode cX10_hone 17 = .ok (.aload_n 0, 1) := by decide +kernel
theorem dX10_hone_18 : decode cX10_hone 18 = .ok (.getfield 7, 3) := by decide +kernel
theorem dX10_hone_21 : decode cX10_hone 21 = .ok (.iload_n 1, 1) := by decide +kernel
theorem dX10_hone_22 : decode cX10_hone 22 = .ok (.iaload, 1) := by decide +kernel
theorem dX10_hone_23 : decode cX10_hone 23 = .ok (.istore_n 3, 1) := by decide +kernel
theorem dX10_hone_24 : decode cX10_hone 24 = .ok (.iload_n 3, 1) := by decide +kernel
theorem dX10_hone_25 : decode cX10_hone 25 = .ok (.iconst (-1), 1) := by decide +kernel
theorem dX10_hone_26 : decode cX10_hone 26 = .ok (.if_icmp .eq 15, 3) := by decide +kernel
theorem dX10_hone_29 : decode cX10_hone 29 = .ok (.aload_n 0, 1) := by decide +kernel
theorem dX10_hone_30 : decode cX10_hone 30 = .ok (.getfield 13, 3) := by decide +kernel
theorem dX10_hone_33 : decode cX10_hone 33 = .ok (.iload_n 3, 1) := by decide +kernel
theorem dX10_hone_34 : decode cX10_hone 34 = .ok (.iaload, 1) := by decide +kernel
theorem dX10_hone_35 : decode cX10_hone 35 = .ok (.invokestatic 86, 3) := by decide +kernel
theorem dX10_hone_38 : decode cX10_hone 38 = .ok (.ifCond .ne 18, 3) := by decide +kernel
theorem dX10_hone_41 : decode cX10_hone 41 = .ok (.aload_n 0, 1) := by decide +kernel
theorem dX10_hone_42 : decode cX10_hone 42 = .ok (.iload_n 3, 1) := by decide +kernel
theorem dX10_hone_43 : decode cX10_hone 43 = .ok (.iconst (-1), 1) := by decide +kernel
theorem dX10_hone_44 : decode cX10_hone 44 = .ok (.if_icmp .ne 7, 3) := by decide +kernel
theorem dX10_hone_47 : decode cX10_hone 47 = .ok (.iconst 1, 1) := by decide +kernel
theorem dX10_hone_48 : decode cX10_hone 48 = .ok (.goto 4, 3) := by decide +kernel
theorem dX10_hone_51 : decode cX10_hone 51 = .ok (.iconst 4, 1) := by decide +kernel
theorem dX10_hone_52 : decode cX10_hone 52 = .ok (.invokevirtual 83, 3) := by decide +kernel
theorem dX10_hone_55 : decode cX10_hone 55 = .ok (.ireturn, 1) := by decide +kernel
theorem dX10_hone_56 : decode cX10_hone 56 = .ok (.aload_n 0, 1) := by decide +kernel
theorem dX10_hone_57 : decode cX10_hone 57 = .ok (.getfield 19, 3) := by decide +kernel
theorem dX10_hone_60 : decode cX10_hone 60 = .ok (.iload_n 3, 1) := by decide +kernel
theorem dX10_hone_61 : decode cX10_hone 61 = .ok (.iload_n 2, 1) := by decide +kernel
theorem dX10_hone_62 : decode cX10_hone 62 = .ok (.iastore, 1) := by decide +kernel
theorem dX10_hone_63 : decode cX10_hone 63 = .ok (.aload_n 0, 1) := by decide +kernel
theorem dX10_hone_64 : decode cX10_hone 64 = .ok (.iconst 1, 1) := by decide +kernel
theorem dX10_hone_65 : decode cX10_hone 65 = .ok (.invokevirtual 80, 3) := by decide +kernel
theorem dX10_hone_68 : decode cX10_hone 68 = .ok (.ireturn, 1) := by decide +kernel
theorem dX10_used_0 : decode cX10_used 0 = .ok (.aload_n 0, 1) := by decide +kernel
theorem dX10_used_1 : decode cX10_used 1 = .ok (.dup, 1) := by decide +kernel
theorem dX10_used_2 : decode cX10_used 2 = .ok (.getfield 93, 3) := by decide +kernel
theorem dX10_used_5 : decode cX10_used 5 = .ok (.iconst 1, 1) := by decide +kernel
theorem dX10_used_6 : decode cX10_used 6 = .ok (.iadd, 1) := by decide +kernel
theorem dX10_used_7 : decode cX10_used 7 = .ok (.putfield 93, 3) := by decide +kernel
theorem dX10_used_10 : decode cX10_used 10 = .ok (.aload_n 0, 1) := by decide +kernel
theorem dX10_used_11 : decode cX10_used 11 = .ok (.getfield 13, 3) := by decide +kernel
theorem dX10_used_14 : decode cX10_used 14 = .ok (.iload_n 1, 1) := by decide +kernel
theorem dX10_used_15 : decode cX10_used 15 = .ok (.iaload, 1) := by decide +kernel
theorem dX10_used_16 : decode cX10_used 16 = .ok (.tableswitch 88 0 2 #[28, 42, 61], 28) := by decide +kernel
theorem dX10_used_44 : decode cX10_used 44 = .ok (.aload_n 0, 1) := by decide +kernel
theorem dX10_used_45 : decode cX10_used 45 = .ok (.getfield 16, 3) := by decide +kernel
theorem dX10_used_48 : decode cX10_used 48 = .ok (.iload_n 1, 1) := by decide +kernel
theorem dX10_used_49 : decode cX10_used 49 = .ok (.dup2, 1) := by decide +kernel
theorem dX10_used_50 : decode cX10_used 50 = .ok (.iaload, 1) := by decide +kernel
theorem dX10_used_51 : decode cX10_used 51 = .ok (.iload_n 2, 1) := by decide +kernel
theorem dX10_used_52 : decode cX10_used 52 = .ok (.iadd, 1) := by decide +kernel
theorem dX10_used_53 : decode cX10_used 53 = .ok (.iastore, 1) := by decide +kernel
theorem dX10_used_54 : decode cX10_used 54 = .ok (.iload_n 2, 1) := by decide +kernel
theorem dX10_used_55 : decode cX10_used 55 = .ok (.iload_n 2, 1) := by decide +kernel
theorem dX10_used_56 : decode cX10_used 56 = .ok (.iadd, 1) := by decide +kernel
theorem dX10_used_57 : decode cX10_used 57 = .ok (.ireturn, 1) := by decide +kernel
theorem dX10_used_58 : decode cX10_used 58 = .ok (.aload_n 0, 1) := by decide +kernel
theorem dX10_used_59 : decode cX10_used 59 = .ok (.getfield 19, 3) := by decide +kernel
theorem dX10_used_62 : decode cX10_used 62 = .ok (.iload_n 1, 1) := by decide +kernel
theorem dX10_used_63 : decode cX10_used 63 = .ok (.dup2, 1) := by decide +kernel
theorem dX10_used_64 : decode cX10_used 64 = .ok (.iaload, 1) := by decide +kernel
theorem dX10_used_65 : decode cX10_used 65 = .ok (.iload_n 2, 1) := by decide +kernel
theorem dX10_used_66 : decode cX10_used 66 = .ok (.isub, 1) := by decide +kernel
theorem dX10_used_67 : decode cX10_used 67 = .ok (.iastore, 1) := by decide +kernel
theorem dX10_used_68 : decode cX10_used 68 = .ok (.iload_n 2, 1) := by decide +kernel
theorem dX10_used_69 : decode cX10_used 69 = .ok (.aload_n 0, 1) := by decide +kernel
theorem dX10_used_70 : decode cX10_used 70 = .ok (.getfield 16, 3) := by decide +kernel
theorem dX10_used_73 : decode cX10_used 73 = .ok (.iload_n 1, 1) := by decide +kernel
theorem dX10_used_74 : decode cX10_used 74 = .ok (.iaload, 1) := by decide +kernel
theorem dX10_used_75 : decode cX10_used 75 = .ok (.iadd, 1) := by decide +kernel
theorem dX10_used_76 : decode cX10_used 76 = .ok (.ireturn, 1) := by decide +kernel
theorem dX10_used_77 : decode cX10_used 77 = .ok (.aload_n 0, 1) := by decide +kernel
theorem dX10_used_78 : decode cX10_used 78 = .ok (.getfield 19, 3) := by decide +kernel
theorem dX10_used_81 : decode cX10_used 81 = .ok (.iload_n 1, 1) := by decide +kernel
theorem dX10_used_82 : decode cX10_used 82 = .ok (.aload_n 0, 1) := by decide +kernel
theorem dX10_used_83 : decode cX10_used 83 = .ok (.getfield 19, 3) := by decide +kernel
theorem dX10_used_86 : decode cX10_used 86 = .ok (.iload_n 1, 1) := by decide +kernel
theorem dX10_used_87 : decode cX10_used 87 = .ok (.iaload, 1) := by decide +kernel
theorem dX10_used_88 : decode cX10_used 88 = .ok (.iload_n 2, 1) := by decide +kernel
theorem dX10_used_89 : decode cX10_used 89 = .ok (.isub, 1) := by decide +kernel
theorem dX10_used_90 : decode cX10_used 90 = .ok (.iconst 1, 1) := by decide +kernel
theorem dX10_used_91 : decode cX10_used 91 = .ok (.iadd, 1) := by decide +kernel
theorem dX10_used_92 : decode cX10_used 92 = .ok (.iastore, 1) := by decide +kernel
theorem dX10_used_93 : decode cX10_used 93 = .ok (.iload_n 2, 1) := by decide +kernel
theorem dX10_used_94 : decode cX10_used 94 = .ok (.aload_n 0, 1) := by decide +kernel
theorem dX10_used_95 : decode cX10_used 95 = .ok (.getfield 16, 3) := by decide +kernel
theorem dX10_used_98 : decode cX10_used 98 = .ok (.iload_n 1, 1) := by decide +kernel
theorem dX10_used_99 : decode cX10_used 99 = .ok (.iaload, 1) := by decide +kernel
theorem dX10_used_100 : decode cX10_used 100 = .ok (.iadd, 1) := by decide +kernel
theorem dX10_used_101 : decode cX10_used 101 = .ok (.iconst 1, 1) := by decide +kernel
theorem dX10_used_102 : decode cX10_used 102 = .ok (.iadd, 1) := by decide +kernel
theorem dX10_used_103 : decode cX10_used 103 = .ok (.ireturn, 1) := by decide +kernel
theorem dX10_used_104 : decode cX10_used 104 = .ok (.aload_n 0, 1) := by decide +kernel
theorem dX10_used_105 : decode cX10_used 105 = .ok (.getfield 16, 3) := by decide +kernel
theorem dX10_used_108 : decode cX10_used 108 = .ok (.iload_n 1, 1) := by decide +kernel
theorem dX10_used_109 : decode cX10_used 109 = .ok (.iaload, 1) := by decide +kernel
theorem dX10_used_110 : decode cX10_used 110 = .ok (.istore_n 3, 1) := by decide +kernel
theorem dX10_used_111 : decode cX10_used 111 = .ok (.aload_n 0, 1) := by decide +kernel
theorem dX10_used_112 : decode cX10_used 112 = .ok (.getfield 16, 3) := by decide +kernel
theorem dX10_used_115 : decode cX10_used 115 = .ok (.iload_n 1, 1) := by decide +kernel
theorem dX10_used_116 : decode cX10_used 116 = .ok (.dup2, 1) := by decide +kernel
theorem dX10_used_117 : decode cX10_used 117 = .ok (.iaload, 1) := by decide +kernel
theorem dX10_used_118 : decode cX10_used 118 = .ok (.iconst 1, 1) := by decide +kernel
theorem dX10_used_119 : decode cX10_used 119 = .ok (.iadd, 1) := by decide +kernel
theorem dX10_used_120 : decode cX10_used 120 = .ok (.iastore, 1) := by decide +kernel
theorem dX10_used_121 : decode cX10_used 121 = .ok (.iload_n 3, 1) := by decide +kernel
theorem dX10_used_122 : decode cX10_used 122 = .ok (.ireturn, 1) := by decide +kernel
theorem dX10_use_0 : decode cX10_use 0 = .ok (.aload_n 0, 1) := by decide +kernel
theorem dX10_use_1 : decode cX10_use 1 = .ok (.iload_n 1, 1) := by decide +kernel
theorem dX10_use_2 : decode cX10_use 2 = .ok (.iconst 0, 1) := by decide +kernel
theorem dX10_use_3 : decode cX10_use 3 = .ok (.bipush 9, 2) := by decide +kernel
theorem dX10_use_5 : decode cX10_use 5 = .ok (.invokestatic 69, 3) := by decide +kernel
theorem dX10_use_8 : decode cX10_use 8 = .ok (.ifCond .eq 7, 3) := by decide +kernel
theorem dX10_use_11 : decode cX10_use 11 = .ok (.iconst 0, 1) := by decide +kernel
theorem dX10_use_12 : decode cX10_use 12 = .ok (.goto 5, 3) := by decide +kernel
theorem dX10_use_15 : decode cX10_use 15 = .ok (.bipush (-2), 2) := by decide +kernel
theorem dX10_use_17 : decode cX10_use 17 = .ok (.putfield 62, 3) := by decide +kernel
theorem dX10_use_20 : decode cX10_use 20 = .ok (.aload_n 0, 1) := by decide +kernel
theorem dX10_use_21 : decode cX10_use 21 = .ok (.getfield 62, 3) := by decide +kernel
theorem dX10_use_24 : decode cX10_use 24 = .ok (.ifCond .eq 5, 3) := by decide +kernel
theorem dX10_use_27 : decode cX10_use 27 = .ok (.iconst 0, 1) := by decide +kernel
theorem dX10_use_28 : decode cX10_use 28 = .ok (.ireturn, 1) := by decide +kernel
theorem dX10_use_29 : decode cX10_use 29 = .ok (.aload_n 0, 1) := by decide +kernel
theorem dX10_use_30 : decode cX10_use 30 = .ok (.getfield 7, 3) := by decide +kernel
theorem dX10_use_33 : decode cX10_use 33 = .ok (.iload_n 1, 1) := by decide +kernel
theorem dX10_use_34 : decode cX10_use 34 = .ok (.iaload, 1) := by decide +kernel
theorem dX10_use_35 : decode cX10_use 35 = .ok (.iconst (-1), 1) := by decide +kernel
theorem dX10_use_36 : decode cX10_use 36 = .ok (.if_icmp .ne 11, 3) := by decide +kernel
theorem dX10_use_39 : decode cX10_use 39 = .ok (.aload_n 0, 1) := by decide +kernel
theorem dX10_use_40 : decode cX10_use 40 = .ok (.iconst 1, 1) := by decide +kernel
theorem dX10_use_41 : decode cX10_use 41 = .ok (.invokevirtual 83, 3) := by decide +kernel
theorem dX10_use_44 : decode cX10_use 44 = .ok (.goto 4, 3) := by decide +kernel
theorem dX10_use_47 : decode cX10_use 47 = .ok (.iconst 0, 1) := by decide +kernel
theorem dX10_use_48 : decode cX10_use 48 = .ok (.istore_n 3, 1) := by decide +kernel
theorem dX10_use_49 : decode cX10_use 49 = .ok (.iload_n 3, 1) := by decide +kernel
theorem dX10_use_50 : decode cX10_use 50 = .ok (.ifCond .eq 7, 3) := by decide +kernel
theorem dX10_use_53 : decode cX10_use 53 = .ok (.iconst 0, 1) := by decide +kernel
theorem dX10_use_54 : decode cX10_use 54 = .ok (.goto 14, 3) := by decide +kernel
theorem dX10_use_57 : decode cX10_use 57 = .ok (.aload_n 0, 1) := by decide +kernel
theorem dX10_use_58 : decode cX10_use 58 = .ok (.aload_n 0, 1) := by decide +kernel
theorem dX10_use_59 : decode cX10_use 59 = .ok (.getfield 7, 3) := by decide +kernel
theorem dX10_use_62 : decode cX10_use 62 = .ok (.iload_n 1, 1) := by decide +kernel
theorem dX10_use_63 : decode cX10_use 63 = .ok (.iaload, 1) := by decide +kernel
theorem dX10_use_64 : decode cX10_use 64 = .ok (.iload_n 2, 1) := by decide +kernel
theorem dX10_use_65 : decode cX10_use 65 = .ok (.invokevirtual 96, 3) := by decide +kernel
theorem dX10_use_68 : decode cX10_use 68 = .ok (.ireturn, 1) := by decide +kernel
theorem dX10_shift_0 : decode cX10_shift 0 = .ok (.iload_n 1, 1) := by decide +kernel
theorem dX10_shift_1 : decode cX10_shift 1 = .ok (.iconst 0, 1) := by decide +kernel
theorem dX10_shift_2 : decode cX10_shift 2 = .ok (.bipush 9, 2) := by decide +kernel
theorem dX10_shift_4 : decode cX10_shift 4 = .ok (.invokestatic 69, 3) := by decide +kernel
theorem dX10_shift_7 : decode cX10_shift 7 = .ok (.ifCond .eq 13, 3) := by decide +kernel
theorem dX10_shift_10 : decode cX10_shift 10 = .ok (.iload 4, 2) := by decide +kernel
theorem dX10_shift_12 : decode cX10_shift 12 = .ok (.iconst 0, 1) := by decide +kernel
theorem dX10_shift_13 : decode cX10_shift 13 = .ok (.iconst 3, 1) := by decide +kernel
theorem dX10_shift_14 : decode cX10_shift 14 = .ok (.invokestatic 69, 3) := by decide +kernel
theorem dX10_shift_17 : decode cX10_shift 17 = .ok (.ifCond .ne 10, 3) := by decide +kernel
theorem dX10_shift_20 : decode cX10_shift 20 = .ok (.aload_n 0, 1) := by decide +kernel
theorem dX10_shift_21 : decode cX10_shift 21 = .ok (.bipush (-2), 2) := by decide +kernel
theorem dX10_shift_23 : decode cX10_shift 23 = .ok (.invokevirtual 73, 3) := by decide +kernel
theorem dX10_shift_26 : decode cX10_shift 26 = .ok (.ireturn, 1) := by decide +kernel
theorem dX10_shift_27 : decode cX10_shift 27 = .ok (.iload_n 2, 1) := by decide +kernel
theorem dX10_shift_28 : decode cX10_shift 28 = .ok (.iconst 0, 1) := by decide +kernel
theorem dX10_shift_29 : decode cX10_shift 29 = .ok (.bipush 9, 2) := by decide +kernel
theorem dX10_shift_31 : decode cX10_shift 31 = .ok (.invokestatic 69, 3) := by decide +kernel
theorem dX10_shift_34 : decode cX10_shift 34 = .ok (.ifCond .ne 10, 3) := by decide +kernel
theorem dX10_shift_37 : decode cX10_shift 37 = .ok (.aload_n 0, 1) := by decide +kernel
theorem dX10_shift_38 : decode cX10_shift 38 = .ok (.bipush (-3), 2) := by decide +kernel
theorem dX10_shift_40 : decode cX10_shift 40 = .ok (.invokevirtual 73, 3) := by decide +kernel
theorem dX10_shift_43 : decode cX10_shift 43 = .ok (.ireturn, 1) := by decide +kernel
theorem dX10_shift_44 : decode cX10_shift 44 = .ok (.iconst 0, 1) := by decide +kernel
theorem dX10_shift_45 : decode cX10_shift 45 = .ok (.istore 5, 2) := by decide +kernel
theorem dX10_shift_47 : decode cX10_shift 47 = .ok (.iload 5, 2) := by decide +kernel
theorem dX10_shift_49 : decode cX10_shift 49 = .ok (.iload_n 2, 1) := by decide +kernel
theorem dX10_shift_50 : decode cX10_shift 50 = .ok (.if_icmp .ge 108, 3) := by decide +kernel
theorem dX10_shift_53 : decode cX10_shift 53 = .ok (.iload_n 1, 1) := by decide +kernel
theorem dX10_shift_54 : decode cX10_shift 54 = .ok (.iload 5, 2) := by decide +kernel
theorem dX10_shift_56 : decode cX10_shift 56 = .ok (.iadd, 1) := by decide +kernel
theorem dX10_shift_57 : decode cX10_shift 57 = .ok (.bipush 9, 2) := by decide +kernel
theorem dX10_shift_59 : decode cX10_shift 59 = .ok (.if_icmp .le 9, 3) := by decide +kernel
theorem dX10_shift_62 : decode cX10_shift 62 = .ok (.aload_n 0, 1) := by decide +kernel
theorem dX10_shift_63 : decode cX10_shift 63 = .ok (.iconst 2, 1) := by decide +kernel
theorem dX10_shift_64 : decode cX10_shift 64 = .ok (.invokevirtual 83, 3) := by decide +kernel
theorem dX10_shift_67 : decode cX10_shift 67 = .ok (.ireturn, 1) := by decide +kernel
theorem dX10_shift_68 : decode cX10_shift 68 = .ok (.aload_n 0, 1) := by decide +kernel
theorem dX10_shift_69 : decode cX10_shift 69 = .ok (.getfield 7, 3) := by decide +kernel
theorem dX10_shift_72 : decode cX10_shift 72 = .ok (.iload_n 1, 1) := by decide +kernel
theorem dX10_shift_73 : decode cX10_shift 73 = .ok (.iload 5, 2) := by decide +kernel
theorem dX10_shift_75 : decode cX10_shift 75 = .ok (.iadd, 1) := by decide +kernel
theorem dX10_shift_76 : decode cX10_shift 76 = .ok (.iaload, 1) := by decide +kernel
theorem dX10_shift_77 : decode cX10_shift 77 = .ok (.iconst (-1), 1) := by decide +kernel
theorem dX10_shift_78 : decode cX10_shift 78 = .ok (.if_icmp .ne 9, 3) := by decide +kernel
theorem dX10_shift_81 : decode cX10_shift 81 = .ok (.aload_n 0, 1) := by decide +kernel
theorem dX10_shift_82 : decode cX10_shift 82 = .ok (.iconst 1, 1) := by decide +kernel
theorem dX10_shift_83 : decode cX10_shift 83 = .ok (.invokevirtual 83, 3) := by decide +kernel
theorem dX10_shift_86 : decode cX10_shift 86 = .ok (.ireturn, 1) := by decide +kernel
theorem dX10_shift_87 : decode cX10_shift 87 = .ok (.aload_n 0, 1) := by decide +kernel
theorem dX10_shift_88 : decode cX10_shift 88 = .ok (.aload_n 0, 1) := by decide +kernel
theorem dX10_shift_89 : decode cX10_shift 89 = .ok (.getfield 7, 3) := by decide +kernel
theorem dX10_shift_92 : decode cX10_shift 92 = .ok (.iload_n 1, 1) := by decide +kernel
theorem dX10_shift_93 : decode cX10_shift 93 = .ok (.iload 5, 2) := by decide +kernel
theorem dX10_shift_95 : decode cX10_shift 95 = .ok (.iadd, 1) := by decide +kernel
theorem dX10_shift_96 : decode cX10_shift 96 = .ok (.iaload, 1) := by decide +kernel
theorem dX10_shift_97 : decode cX10_shift 97 = .ok (.iload_n 3, 1) := by decide +kernel
theorem dX10_shift_98 : decode cX10_shift 98 = .ok (.invokevirtual 96, 3) := by decide +kernel
theorem dX10_shift_101 : decode cX10_shift 101 = .ok (.istore 6, 2) := by decide +kernel
theorem dX10_shift_103 : decode cX10_shift 103 = .ok (.aload_n 0, 1) := by decide +kernel
theorem dX10_shift_104 : decode cX10_shift 104 = .ok (.getfield 29, 3) := by decide +kernel
theorem dX10_shift_107 : decode cX10_shift 107 = .ok (.iload 4, 2) := by decide +kernel
theorem dX10_shift_109 : decode cX10_shift 109 = .ok (.iaload, 1) := by decide +kernel
theorem dX10_shift_110 : decode cX10_shift 110 = .ok (.ifCond .ge 9, 3) := by decide +kernel
theorem dX10_shift_113 : decode cX10_shift 113 = .ok (.aload_n 0, 1) := by decide +kernel
theorem dX10_shift_114 : decode cX10_shift 114 = .ok (.iconst 1, 1) := by decide +kernel
theorem dX10_shift_115 : decode cX10_shift 115 = .ok (.invokevirtual 83, 3) := by decide +kernel
theorem dX10_shift_118 : decode cX10_shift 118 = .ok (.ireturn, 1) := by decide +kernel
theorem dX10_shift_119 : decode cX10_shift 119 = .ok (.iload 5, 2) := by decide +kernel
theorem dX10_shift_121 : decode cX10_shift 121 = .ok (.aload_n 0, 1) := by decide +kernel
theorem dX10_shift_122 : decode cX10_shift 122 = .ok (.getfield 29, 3) := by decide +kernel
theorem dX10_shift_125 : decode cX10_shift 125 = .ok (.iload 4, 2) := by decide +kernel
theorem dX10_shift_127 : decode cX10_shift 127 = .ok (.iaload, 1) := by decide +kernel
theorem dX10_shift_128 : decode cX10_shift 128 = .ok (.if_icmp .lt 9, 3) := by decide +kernel
theorem dX10_shift_131 : decode cX10_shift 131 = .ok (.aload_n 0, 1) := by decide +kernel
theorem dX10_shift_132 : decode cX10_shift 132 = .ok (.iconst 2, 1) := by decide +kernel
theorem dX10_shift_133 : decode cX10_shift 133 = .ok (.invokevirtual 83, 3) := by decide +kernel
theorem dX10_shift_136 : decode cX10_shift 136 = .ok (.ireturn, 1) := by decide +kernel
theorem dX10_shift_137 : decode cX10_shift 137 = .ok (.aload_n 0, 1) := by decide +kernel
theorem dX10_shift_138 : decode cX10_shift 138 = .ok (.getfield 32, 3) := by decide +kernel
theorem dX10_shift_141 : decode cX10_shift 141 = .ok (.bipush 20, 2) := by decide +kernel
theorem dX10_shift_143 : decode cX10_shift 143 = .ok (.iload 4, 2) := by decide +kernel
theorem dX10_shift_145 : decode cX10_shift 145 = .ok (.imul, 1) := by decide +kernel
theorem dX10_shift_146 : decode cX10_shift 146 = .ok (.iload 5, 2) := by decide +kernel
theorem dX10_shift_148 : decode cX10_shift 148 = .ok (.iadd, 1) := by decide +kernel
theorem dX10_shift_149 : decode cX10_shift 149 = .ok (.iload 6, 2) := by decide +kernel
theorem dX10_shift_151 : decode cX10_shift 151 = .ok (.iastore, 1) := by decide +kernel
theorem dX10_shift_152 : decode cX10_shift 152 = .ok (.iinc 5 1, 3) := by decide +kernel
theorem dX10_shift_155 : decode cX10_shift 155 = .ok (.goto (-108), 3) := by decide +kernel
theorem dX10_shift_158 : decode cX10_shift 158 = .ok (.aload_n 0, 1) := by decide +kernel
theorem dX10_shift_159 : decode cX10_shift 159 = .ok (.iload_n 2, 1) := by decide +kernel
theorem dX10_shift_160 : decode cX10_shift 160 = .ok (.invokevirtual 80, 3) := by decide +kernel
theorem dX10_shift_163 : decode cX10_shift 163 = .ok (.ireturn, 1) := by decide +kernel
theorem dX10_tray_0 : decode cX10_tray 0 = .ok (.iload_n 1, 1) := by decide +kernel
theorem dX10_tray_1 : decode cX10_tray 1 = .ok (.iconst 0, 1) := by decide +kernel
theorem dX10_tray_2 : decode cX10_tray 2 = .ok (.iconst 3, 1) := by decide +kernel
theorem dX10_tray_3 : decode cX10_tray 3 = .ok (.invokestatic 69, 3) := by decide +kernel
theorem dX10_tray_6 : decode cX10_tray 6 = .ok (.ifCond .ne 10, 3) := by decide +kernel
theorem dX10_tray_9 : decode cX10_tray 9 = .ok (.aload_n 0, 1) := by decide +kernel
theorem dX10_tray_10 : decode cX10_tray 10 = .ok (.bipush (-2), 2) := by decide +kernel
theorem dX10_tray_12 : decode cX10_tray 12 = .ok (.invokevirtual 73, 3) := by decide +kernel
theorem dX10_tray_15 : decode cX10_tray 15 = .ok (.ireturn, 1) := by decide +kernel
theorem dX10_tray_16 : decode cX10_tray 16 = .ok (.iload_n 2, 1) := by decide +kernel
theorem dX10_tray_17 : decode cX10_tray 17 = .ok (.bipush 20, 2) := by decide +kernel
theorem dX10_tray_19 : decode cX10_tray 19 = .ok (.if_icmp .le 10, 3) := by decide +kernel
theorem dX10_tray_22 : decode cX10_tray 22 = .ok (.aload_n 0, 1) := by decide +kernel
theorem dX10_tray_23 : decode cX10_tray 23 = .ok (.bipush (-3), 2) := by decide +kernel
theorem dX10_tray_25 : decode cX10_tray 25 = .ok (.invokevirtual 73, 3) := by decide +kernel
theorem dX10_tray_28 : decode cX10_tray 28 = .ok (.ireturn, 1) := by decide +kernel
theorem dX10_tray_29 : decode cX10_tray 29 = .ok (.iload_n 2, 1) := by decide +kernel
theorem dX10_tray_30 : decode cX10_tray 30 = .ok (.ifCond .ge 9, 3) := by decide +kernel
theorem dX10_tray_33 : decode cX10_tray 33 = .ok (.aload_n 0, 1) := by decide +kernel
theorem dX10_tray_34 : decode cX10_tray 34 = .ok (.iconst 3, 1) := by decide +kernel
theorem dX10_tray_35 : decode cX10_tray 35 = .ok (.invokevirtual 83, 3) := by decide +kernel
theorem dX10_tray_38 : decode cX10_tray 38 = .ok (.ireturn, 1) := by decide +kernel
theorem dX10_tray_39 : decode cX10_tray 39 = .ok (.aload_n 0, 1) := by decide +kernel
theorem dX10_tray_40 : decode cX10_tray 40 = .ok (.getfield 29, 3) := by decide +kernel
theorem dX10_tray_43 : decode cX10_tray 43 = .ok (.iload_n 1, 1) := by decide +kernel
theorem dX10_tray_44 : decode cX10_tray 44 = .ok (.iload_n 2, 1) := by decide +kernel
theorem dX10_tray_45 : decode cX10_tray 45 = .ok (.iastore, 1) := by decide +kernel
theorem dX10_tray_46 : decode cX10_tray 46 = .ok (.iconst 0, 1) := by decide +kernel
theorem dX10_tray_47 : decode cX10_tray 47 = .ok (.istore_n 3, 1) := by decide +kernel
theorem dX10_tray_48 : decode cX10_tray 48 = .ok (.iload_n 3, 1) := by decide +kernel
theorem dX10_tray_49 : decode cX10_tray 49 = .ok (.iload_n 2, 1) := by decide +kernel
theorem dX10_tray_50 : decode cX10_tray 50 = .ok (.if_icmp .ge 21, 3) := by decide +kernel
theorem dX10_tray_53 : decode cX10_tray 53 = .ok (.aload_n 0, 1) := by decide +kernel
theorem dX10_tray_54 : decode cX10_tray 54 = .ok (.getfield 32, 3) := by decide +kernel
theorem dX10_tray_57 : decode cX10_tray 57 = .ok (.bipush 20, 2) := by decide +kernel
theorem dX10_tray_59 : decode cX10_tray 59 = .ok (.iload_n 1, 1) := by decide +kernel
theorem dX10_tray_60 : decode cX10_tray 60 = .ok (.imul, 1) := by decide +kernel
theorem dX10_tray_61 : decode cX10_tray 61 = .ok (.iload_n 3, 1) := by decide +kernel
theorem dX10_tray_62 : decode cX10_tray 62 = .ok (.iadd, 1) := by decide +kernel
theorem dX10_tray_63 : decode cX10_tray 63 = .ok (.iconst 0, 1) := by decide +kernel
theorem dX10_tray_64 : decode cX10_tray 64 = .ok (.iastore, 1) := by decide +kernel
theorem dX10_tray_65 : decode cX10_tray 65 = .ok (.iinc 3 1, 3) := by decide +kernel
theorem dX10_tray_68 : decode cX10_tray 68 = .ok (.goto (-20), 3) := by decide +kernel
theorem dX10_tray_71 : decode cX10_tray 71 = .ok (.aload_n 0, 1) := by decide +kernel
theorem dX10_tray_72 : decode cX10_tray 72 = .ok (.iload_n 2, 1) := by decide +kernel
theorem dX10_tray_73 : decode cX10_tray 73 = .ok (.invokevirtual 80, 3) := by decide +kernel
theorem dX10_tray_76 : decode cX10_tray 76 = .ok (.ireturn, 1) := by decide +kernel
theorem dX10_isThing_0 : decode cX10_isThing 0 = .ok (.iload_n 1, 1) := by decide +kernel
theorem dX10_isThing_1 : decode cX10_isThing 1 = .ok (.iconst 0, 1) := by decide +kernel
theorem dX10_isThing_2 : decode cX10_isThing 2 = .ok (.iload_n 0, 1) := by decide +kernel
theorem dX10_isThing_3 : decode cX10_isThing 3 = .ok (.iconst 2, 1) := by decide +kernel
theorem dX10_isThing_4 : decode cX10_isThing 4 = .ok (.if_icmp .ne 7, 3) := by decide +kernel
theorem dX10_isThing_7 : decode cX10_isThing 7 = .ok (.iconst 1, 1) := by decide +kernel
theorem dX10_isThing_8 : decode cX10_isThing 8 = .ok (.goto 4, 3) := by decide +kernel
theorem dX10_isThing_11 : decode cX10_isThing 11 = .ok (.iconst 3, 1) := by decide +kernel
theorem dX10_isThing_12 : decode cX10_isThing 12 = .ok (.invokestatic 69, 3) := by decide +kernel
theorem dX10_isThing_15 : decode cX10_isThing 15 = .ok (.ireturn, 1) := by decide +kernel
theorem dX10_sizeOf_0 : decode cX10_sizeOf 0 = .ok (.iload_n 1, 1) := by decide +kernel
theorem dX10_sizeOf_1 : decode cX10_sizeOf 1 = .ok (.ifCond .ne 12, 3) := by decide +kernel
theorem dX10_sizeOf_4 : decode cX10_sizeOf 4 = .ok (.aload_n 0, 1) := by decide +kernel
theorem dX10_sizeOf_5 : decode cX10_sizeOf 5 = .ok (.getfield 29, 3) := by decide +kernel
theorem dX10_sizeOf_8 : decode cX10_sizeOf 8 = .ok (.iload_n 2, 1) := by decide +kernel
theorem dX10_sizeOf_9 : decode cX10_sizeOf 9 = .ok (.iaload, 1) := by decide +kernel
theorem dX10_sizeOf_10 : decode cX10_sizeOf 10 = .ok (.goto 23, 3) := by decide +kernel
theorem dX10_sizeOf_13 : decode cX10_sizeOf 13 = .ok (.iload_n 1, 1) := by decide +kernel
theorem dX10_sizeOf_14 : decode cX10_sizeOf 14 = .ok (.iconst 1, 1) := by decide +kernel
theorem dX10_sizeOf_15 : decode cX10_sizeOf 15 = .ok (.if_icmp .ne 12, 3) := by decide +kernel
theorem dX10_sizeOf_18 : decode cX10_sizeOf 18 = .ok (.aload_n 0, 1) := by decide +kernel
theorem dX10_sizeOf_19 : decode cX10_sizeOf 19 = .ok (.getfield 35, 3) := by decide +kernel
theorem dX10_sizeOf_22 : decode cX10_sizeOf 22 = .ok (.iload_n 2, 1) := by decide +kernel
theorem dX10_sizeOf_23 : decode cX10_sizeOf 23 = .ok (.iaload, 1) := by decide +kernel
theorem dX10_sizeOf_24 : decode cX10_sizeOf 24 = .ok (.goto 9, 3) := by decide +kernel
theorem dX10_sizeOf_27 : decode cX10_sizeOf 27 = .ok (.aload_n 0, 1) := by decide +kernel
theorem dX10_sizeOf_28 : decode cX10_sizeOf 28 = .ok (.getfield 44, 3) := by decide +kernel
theorem dX10_sizeOf_31 : decode cX10_sizeOf 31 = .ok (.iload_n 2, 1) := by decide +kernel
theorem dX10_sizeOf_32 : decode cX10_sizeOf 32 = .ok (.iaload, 1) := by decide +kernel
theorem dX10_sizeOf_33 : decode cX10_sizeOf 33 = .ok (.ireturn, 1) := by decide +kernel
theorem dX10_lose_0 : decode cX10_lose 0 = .ok (.iload_n 1, 1) := by decide +kernel
theorem dX10_lose_1 : decode cX10_lose 1 = .ok (.iconst 0, 1) := by decide +kernel
theorem dX10_lose_2 : decode cX10_lose 2 = .ok (.iconst 2, 1) := by decide +kernel
theorem dX10_lose_3 : decode cX10_lose 3 = .ok (.invokestatic 69, 3) := by decide +kernel
theorem dX10_lose_6 : decode cX10_lose 6 = .ok (.ifCond .ne 10, 3) := by decide +kernel
theorem dX10_lose_9 : decode cX10_lose 9 = .ok (.aload_n 0, 1) := by decide +kernel
theorem dX10_lose_10 : decode cX10_lose 10 = .ok (.bipush (-3), 2) := by decide +kernel
theorem dX10_lose_12 : decode cX10_lose 12 = .ok (.invokevirtual 73, 3) := by decide +kernel
theorem dX10_lose_15 : decode cX10_lose 15 = .ok (.ireturn, 1) := by decide +kernel
theorem dX10_lose_16 : decode cX10_lose 16 = .ok (.iload_n 1, 1) := by decide +kernel
theorem dX10_lose_17 : decode cX10_lose 17 = .ok (.iload_n 2, 1) := by decide +kernel
theorem dX10_lose_18 : decode cX10_lose 18 = .ok (.invokestatic 100, 3) := by decide +kernel
theorem dX10_lose_21 : decode cX10_lose 21 = .ok (.ifCond .ne 10, 3) := by decide +kernel
theorem dX10_lose_24 : decode cX10_lose 24 = .ok (.aload_n 0, 1) := by decide +kernel
theorem dX10_lose_25 : decode cX10_lose 25 = .ok (.bipush (-2), 2) := by decide +kernel
theorem dX10_lose_27 : decode cX10_lose 27 = .ok (.invokevirtual 73, 3) := by decide +kernel
theorem dX10_lose_30 : decode cX10_lose 30 = .ok (.ireturn, 1) := by decide +kernel
theorem dX10_lose_31 : decode cX10_lose 31 = .ok (.aload_n 0, 1) := by decide +kernel
theorem dX10_lose_32 : decode cX10_lose 32 = .ok (.iload_n 1, 1) := by decide +kernel
theorem dX10_lose_33 : decode cX10_lose 33 = .ok (.iload_n 2, 1) := by decide +kernel
theorem dX10_lose_34 : decode cX10_lose 34 = .ok (.invokevirtual 104, 3) := by decide +kernel
theorem dX10_lose_37 : decode cX10_lose 37 = .ok (.ifCond .ge 7, 3) := by decide +kernel
theorem dX10_lose_40 : decode cX10_lose 40 = .ok (.iconst 0, 1) := by decide +kernel
theorem dX10_lose_41 : decode cX10_lose 41 = .ok (.goto 4, 3) := by decide +kernel
theorem dX10_lose_44 : decode cX10_lose 44 = .ok (.iconst 1, 1) := by decide +kernel
theorem dX10_lose_45 : decode cX10_lose 45 = .ok (.istore_n 3, 1) := by decide +kernel
theorem dX10_lose_46 : decode cX10_lose 46 = .ok (.iload_n 1, 1) := by decide +kernel
theorem dX10_lose_47 : decode cX10_lose 47 = .ok (.ifCond .ne 13, 3) := by decide +kernel
theorem dX10_lose_50 : decode cX10_lose 50 = .ok (.aload_n 0, 1) := by decide +kernel
theorem dX10_lose_51 : decode cX10_lose 51 = .ok (.getfield 29, 3) := by decide +kernel
theorem dX10_lose_54 : decode cX10_lose 54 = .ok (.iload_n 2, 1) := by decide +kernel
theorem dX10_lose_55 : decode cX10_lose 55 = .ok (.iconst (-1), 1) := by decide +kernel
theorem dX10_lose_56 : decode cX10_lose 56 = .ok (.iastore, 1) := by decide +kernel
theorem dX10_lose_57 : decode cX10_lose 57 = .ok (.goto 25, 3) := by decide +kernel
theorem dX10_lose_60 : decode cX10_lose 60 = .ok (.iload_n 1, 1) := by decide +kernel
theorem dX10_lose_61 : decode cX10_lose 61 = .ok (.iconst 1, 1) := by decide +kernel
theorem dX10_lose_62 : decode cX10_lose 62 = .ok (.if_icmp .ne 13, 3) := by decide +kernel
theorem dX10_lose_65 : decode cX10_lose 65 = .ok (.aload_n 0, 1) := by decide +kernel
theorem dX10_lose_66 : decode cX10_lose 66 = .ok (.getfield 35, 3) := by decide +kernel
theorem dX10_lose_69 : decode cX10_lose 69 = .ok (.iload_n 2, 1) := by decide +kernel
theorem dX10_lose_70 : decode cX10_lose 70 = .ok (.iconst (-1), 1) := by decide +kernel
theorem dX10_lose_71 : decode cX10_lose 71 = .ok (.iastore, 1) := by decide +kernel
theorem dX10_lose_72 : decode cX10_lose 72 = .ok (.goto 10, 3) := by decide +kernel
theorem dX10_lose_75 : decode cX10_lose 75 = .ok (.aload_n 0, 1) := by decide +kernel
theorem dX10_lose_76 : decode cX10_lose 76 = .ok (.getfield 44, 3) := by decide +kernel
theorem dX10_lose_79 : decode cX10_lose 79 = .ok (.iload_n 2, 1) := by decide +kernel
theorem dX10_lose_80 : decode cX10_lose 80 = .ok (.iconst (-1), 1) := by decide +kernel
theorem dX10_lose_81 : decode cX10_lose 81 = .ok (.iastore, 1) := by decide +kernel
theorem dX10_lose_82 : decode cX10_lose 82 = .ok (.aload_n 0, 1) := by decide +kernel
theorem dX10_lose_83 : decode cX10_lose 83 = .ok (.iload_n 3, 1) := by decide +kernel
theorem dX10_lose_84 : decode cX10_lose 84 = .ok (.invokevirtual 80, 3) := by decide +kernel
theorem dX10_lose_87 : decode cX10_lose 87 = .ok (.ireturn, 1) := by decide +kernel
theorem dX10_lacks_0 : decode cX10_lacks 0 = .ok (.iload_n 0, 1) := by decide +kernel
theorem dX10_lacks_1 : decode cX10_lacks 1 = .ok (.ifCond .ge 7, 3) := by decide +kernel
theorem dX10_lacks_4 : decode cX10_lacks 4 = .ok (.iconst 1, 1) := by decide +kernel
theorem dX10_lacks_5 : decode cX10_lacks 5 = .ok (.goto 19, 3) := by decide +kernel
theorem dX10_lacks_8 : decode cX10_lacks 8 = .ok (.iload_n 1, 1) := by decide +kernel
theorem dX10_lacks_9 : decode cX10_lacks 9 = .ok (.iconst 0, 1) := by decide +kernel
theorem dX10_lacks_10 : decode cX10_lacks 10 = .ok (.iload_n 0, 1) := by decide +kernel
theorem dX10_lacks_11 : decode cX10_lacks 11 = .ok (.iconst 1, 1) := by decide +kernel
theorem dX10_lacks_12 : decode cX10_lacks 12 = .ok (.isub, 1) := by decide +kernel
theorem dX10_lacks_13 : decode cX10_lacks 13 = .ok (.invokestatic 69, 3) := by decide +kernel
theorem dX10_lacks_16 : decode cX10_lacks 16 = .ok (.ifCond .eq 7, 3) := by decide +kernel
theorem dX10_lacks_19 : decode cX10_lacks 19 = .ok (.iconst 0, 1) := by decide +kernel
theorem dX10_lacks_20 : decode cX10_lacks 20 = .ok (.goto 4, 3) := by decide +kernel
theorem dX10_lacks_23 : decode cX10_lacks 23 = .ok (.iconst 2, 1) := by decide +kernel
theorem dX10_lacks_24 : decode cX10_lacks 24 = .ok (.ireturn, 1) := by decide +kernel
theorem dX10_put_0 : decode cX10_put 0 = .ok (.iload_n 1, 1) := by decide +kernel
theorem dX10_put_1 : decode cX10_put 1 = .ok (.iconst 0, 1) := by decide +kernel
theorem dX10_put_2 : decode cX10_put 2 = .ok (.iconst 3, 1) := by decide +kernel
theorem dX10_put_3 : decode cX10_put 3 = .ok (.invokestatic 69, 3) := by decide +kernel
theorem dX10_put_6 : decode cX10_put 6 = .ok (.ifCond .ne 10, 3) := by decide +kernel
theorem dX10_put_9 : decode cX10_put 9 = .ok (.aload_n 0, 1) := by decide +kernel
theorem dX10_put_10 : decode cX10_put 10 = .ok (.bipush (-2), 2) := by decide +kernel
theorem dX10_put_12 : decode cX10_put 12 = .ok (.invokevirtual 73, 3) := by decide +kernel
theorem dX10_put_15 : decode cX10_put 15 = .ok (.ireturn, 1) := by decide +kernel
theorem dX10_put_16 : decode cX10_put 16 = .ok (.aload_n 0, 1) := by decide +kernel
theorem dX10_put_17 : decode cX10_put 17 = .ok (.getfield 29, 3) := by decide +kernel
theorem dX10_put_20 : decode cX10_put 20 = .ok (.iload_n 1, 1) := by decide +kernel
theorem dX10_put_21 : decode cX10_put 21 = .ok (.iaload, 1) := by decide +kernel
theorem dX10_put_22 : decode cX10_put 22 = .ok (.iload_n 2, 1) := by decide +kernel
theorem dX10_put_23 : decode cX10_put 23 = .ok (.invokestatic 107, 3) := by decide +kernel
theorem dX10_put_26 : decode cX10_put 26 = .ok (.istore 4, 2) := by decide +kernel
theorem dX10_put_28 : decode cX10_put 28 = .ok (.iload 4, 2) := by decide +kernel
theorem dX10_put_30 : decode cX10_put 30 = .ok (.ifCond .eq 10, 3) := by decide +kernel
theorem dX10_put_33 : decode cX10_put 33 = .ok (.aload_n 0, 1) := by decide +kernel
theorem dX10_put_34 : decode cX10_put 34 = .ok (.iload 4, 2) := by decide +kernel
theorem dX10_put_36 : decode cX10_put 36 = .ok (.invokevirtual 83, 3) := by decide +kernel
theorem dX10_put_39 : decode cX10_put 39 = .ok (.ireturn, 1) := by decide +kernel
theorem dX10_put_40 : decode cX10_put 40 = .ok (.aload_n 0, 1) := by decide +kernel
theorem dX10_put_41 : decode cX10_put 41 = .ok (.getfield 32, 3) := by decide +kernel
theorem dX10_put_44 : decode cX10_put 44 = .ok (.bipush 20, 2) := by decide +kernel
theorem dX10_put_46 : decode cX10_put 46 = .ok (.iload_n 1, 1) := by decide +kernel
theorem dX10_put_47 : decode cX10_put 47 = .ok (.imul, 1) := by decide +kernel
theorem dX10_put_48 : decode cX10_put 48 = .ok (.iload_n 2, 1) := by decide +kernel
theorem dX10_put_49 : decode cX10_put 49 = .ok (.iadd, 1) := by decide +kernel
theorem dX10_put_50 : decode cX10_put 50 = .ok (.iload_n 3, 1) := by decide +kernel
theorem dX10_put_51 : decode cX10_put 51 = .ok (.iastore, 1) := by decide +kernel
theorem dX10_put_52 : decode cX10_put 52 = .ok (.aload_n 0, 1) := by decide +kernel
theorem dX10_put_53 : decode cX10_put 53 = .ok (.iconst 1, 1) := by decide +kernel
theorem dX10_put_54 : decode cX10_put 54 = .ok (.invokevirtual 80, 3) := by decide +kernel
theorem dX10_put_57 : decode cX10_put 57 = .ok (.ireturn, 1) := by decide +kernel
theorem dX10_get_0 : decode cX10_get 0 = .ok (.aload_n 0, 1) := by decide +kernel
theorem dX10_get_1 : decode cX10_get 1 = .ok (.iload_n 1, 1) := by decide +kernel
theorem dX10_get_2 : decode cX10_get 2 = .ok (.iconst 0, 1) := by decide +kernel
theorem dX10_get_3 : decode cX10_get 3 = .ok (.iconst 3, 1) := by decide +kernel
theorem dX10_get_4 : decode cX10_get 4 = .ok (.invokestatic 69, 3) := by decide +kernel
theorem dX10_get_7 : decode cX10_get 7 = .ok (.ifCond .eq 7, 3) := by decide +kernel
theorem dX10_get_10 : decode cX10_get 10 = .ok (.iconst 0, 1) := by decide +kernel
theorem dX10_get_11 : decode cX10_get 11 = .ok (.goto 5, 3) := by decide +kernel
theorem dX10_get_14 : decode cX10_get 14 = .ok (.bipush (-2), 2) := by decide +kernel
theorem dX10_get_16 : decode cX10_get 16 = .ok (.putfield 62, 3) := by decide +kernel
theorem dX10_get_19 : decode cX10_get 19 = .ok (.aload_n 0, 1) := by decide +kernel
theorem dX10_get_20 : decode cX10_get 20 = .ok (.getfield 62, 3) := by decide +kernel
theorem dX10_get_23 : decode cX10_get 23 = .ok (.ifCond .eq 5, 3) := by decide +kernel
theorem dX10_get_26 : decode cX10_get 26 = .ok (.iconst 0, 1) := by decide +kernel
theorem dX10_get_27 : decode cX10_get 27 = .ok (.ireturn, 1) := by decide +kernel
theorem dX10_get_28 : decode cX10_get 28 = .ok (.aload_n 0, 1) := by decide +kernel
theorem dX10_get_29 : decode cX10_get 29 = .ok (.getfield 29, 3) := by decide +kernel
theorem dX10_get_32 : decode cX10_get 32 = .ok (.iload_n 1, 1) := by decide +kernel
theorem dX10_get_33 : decode cX10_get 33 = .ok (.iaload, 1) := by decide +kernel
theorem dX10_get_34 : decode cX10_get 34 = .ok (.iload_n 2, 1) := by decide +kernel
theorem dX10_get_35 : decode cX10_get 35 = .ok (.invokestatic 107, 3) := by decide +kernel
theorem dX10_get_38 : decode cX10_get 38 = .ok (.istore_n 3, 1) := by decide +kernel
theorem dX10_get_39 : decode cX10_get 39 = .ok (.iload_n 3, 1) := by decide +kernel
theorem dX10_get_40 : decode cX10_get 40 = .ok (.ifCond .eq 11, 3) := by decide +kernel
theorem dX10_get_43 : decode cX10_get 43 = .ok (.aload_n 0, 1) := by decide +kernel
theorem dX10_get_44 : decode cX10_get 44 = .ok (.iload_n 3, 1) := by decide +kernel
theorem dX10_get_45 : decode cX10_get 45 = .ok (.invokevirtual 83, 3) := by decide +kernel
theorem dX10_get_48 : decode cX10_get 48 = .ok (.istore_n 3, 1) := by decide +kernel
theorem dX10_get_49 : decode cX10_get 49 = .ok (.iconst 0, 1) := by decide +kernel
theorem dX10_get_50 : decode cX10_get 50 = .ok (.ireturn, 1) := by decide +kernel
theorem dX10_get_51 : decode cX10_get 51 = .ok (.aload_n 0, 1) := by decide +kernel
theorem dX10_get_52 : decode cX10_get 52 = .ok (.getfield 32, 3) := by decide +kernel
theorem dX10_get_55 : decode cX10_get 55 = .ok (.bipush 20, 2) := by decide +kernel
theorem dX10_get_57 : decode cX10_get 57 = .ok (.iload_n 1, 1) := by decide +kernel
theorem dX10_get_58 : decode cX10_get 58 = .ok (.imul, 1) := by decide +kernel
theorem dX10_get_59 : decode cX10_get 59 = .ok (.iload_n 2, 1) := by decide +kernel
theorem dX10_get_60 : decode cX10_get 60 = .ok (.iadd, 1) := by decide +kernel
theorem dX10_get_61 : decode cX10_get 61 = .ok (.iaload, 1) := by decide +kernel
theorem dX10_get_62 : decode cX10_get 62 = .ok (.ireturn, 1) := by decide +kernel
theorem dX10_length_0 : decode cX10_length 0 = .ok (.iload_n 1, 1) := by decide +kernel
theorem dX10_length_1 : decode cX10_length 1 = .ok (.iconst 0, 1) := by decide +kernel
theorem dX10_length_2 : decode cX10_length 2 = .ok (.iconst 2, 1) := by decide +kernel
theorem dX10_length_3 : decode cX10_length 3 = .ok (.invokestatic 69, 3) := by decide +kernel
theorem dX10_length_6 : decode cX10_length 6 = .ok (.ifCond .ne 10, 3) := by decide +kernel
theorem dX10_length_9 : decode cX10_length 9 = .ok (.aload_n 0, 1) := by decide +kernel
theorem dX10_length_10 : decode cX10_length 10 = .ok (.bipush (-3), 2) := by decide +kernel
theorem dX10_length_12 : decode cX10_length 12 = .ok (.invokevirtual 73, 3) := by decide +kernel
theorem dX10_length_15 : decode cX10_length 15 = .ok (.ireturn, 1) := by decide +kernel
theorem dX10_length_16 : decode cX10_length 16 = .ok (.iload_n 1, 1) := by decide +kernel
theorem dX10_length_17 : decode cX10_length 17 = .ok (.iload_n 2, 1) := by decide +kernel
theorem dX10_length_18 : decode cX10_length 18 = .ok (.invokestatic 100, 3) := by decide +kernel
theorem dX10_length_21 : decode cX10_length 21 = .ok (.ifCond .ne 10, 3) := by decide +kernel
theorem dX10_length_24 : decode cX10_length 24 = .ok (.aload_n 0, 1) := by decide +kernel
theorem dX10_length_25 : decode cX10_length 25 = .ok (.bipush (-2), 2) := by decide +kernel
theorem dX10_length_27 : decode cX10_length 27 = .ok (.invokevirtual 73, 3) := by decide +kernel
theorem dX10_length_30 : decode cX10_length 30 = .ok (.ireturn, 1) := by decide +kernel
theorem dX10_length_31 : decode cX10_length 31 = .ok (.aload_n 0, 1) := by decide +kernel
theorem dX10_length_32 : decode cX10_length 32 = .ok (.iload_n 1, 1) := by decide +kernel
theorem dX10_length_33 : decode cX10_length 33 = .ok (.iload_n 2, 1) := by decide +kernel
theorem dX10_length_34 : decode cX10_length 34 = .ok (.invokevirtual 104, 3) := by decide +kernel
theorem dX10_length_37 : decode cX10_length 37 = .ok (.ifCond .ge 11, 3) := by decide +kernel
theorem dX10_length_40 : decode cX10_length 40 = .ok (.aload_n 0, 1) := by decide +kernel
theorem dX10_length_41 : decode cX10_length 41 = .ok (.iconst 1, 1) := by decide +kernel
theorem dX10_length_42 : decode cX10_length 42 = .ok (.invokevirtual 83, 3) := by decide +kernel
theorem dX10_length_45 : decode cX10_length 45 = .ok (.goto 13, 3) := by decide +kernel
theorem dX10_length_48 : decode cX10_length 48 = .ok (.aload_n 0, 1) := by decide +kernel
theorem dX10_length_49 : decode cX10_length 49 = .ok (.aload_n 0, 1) := by decide +kernel
theorem dX10_length_50 : decode cX10_length 50 = .ok (.iload_n 1, 1) := by decide +kernel
theorem dX10_length_51 : decode cX10_length 51 = .ok (.iload_n 2, 1) := by decide +kernel
theorem dX10_length_52 : decode cX10_length 52 = .ok (.invokevirtual 104, 3) := by decide +kernel
theorem dX10_length_55 : decode cX10_length 55 = .ok (.invokevirtual 80, 3) := by decide +kernel
theorem dX10_length_58 : decode cX10_length 58 = .ok (.ireturn, 1) := by decide +kernel
theorem dX10_rack_0 : decode cX10_rack 0 = .ok (.iload_n 1, 1) := by decide +kernel
theorem dX10_rack_1 : decode cX10_rack 1 = .ok (.iconst 0, 1) := by decide +kernel
theorem dX10_rack_2 : decode cX10_rack 2 = .ok (.iconst 3, 1) := by decide +kernel
theorem dX10_rack_3 : decode cX10_rack 3 = .ok (.invokestatic 69, 3) := by decide +kernel
theorem dX10_rack_6 : decode cX10_rack 6 = .ok (.ifCond .ne 10, 3) := by decide +kernel
theorem dX10_rack_9 : decode cX10_rack 9 = .ok (.aload_n 0, 1) := by decide +kernel
theorem dX10_rack_10 : decode cX10_rack 10 = .ok (.bipush (-2), 2) := by decide +kernel
theorem dX10_rack_12 : decode cX10_rack 12 = .ok (.invokevirtual 73, 3) := by decide +kernel
theorem dX10_rack_15 : decode cX10_rack 15 = .ok (.ireturn, 1) := by decide +kernel
theorem dX10_rack_16 : decode cX10_rack 16 = .ok (.iload_n 2, 1) := by decide +kernel
theorem dX10_rack_17 : decode cX10_rack 17 = .ok (.iconst 0, 1) := by decide +kernel
theorem dX10_rack_18 : decode cX10_rack 18 = .ok (.iconst 2, 1) := by decide +kernel
theorem dX10_rack_19 : decode cX10_rack 19 = .ok (.invokestatic 69, 3) := by decide +kernel
theorem dX10_rack_22 : decode cX10_rack 22 = .ok (.ifCond .eq 9, 3) := by decide +kernel
theorem dX10_rack_25 : decode cX10_rack 25 = .ok (.iload_n 3, 1) := by decide +kernel
theorem dX10_rack_26 : decode cX10_rack 26 = .ok (.bipush 10, 2) := by decide +kernel
theorem dX10_rack_28 : decode cX10_rack 28 = .ok (.if_icmp .le 10, 3) := by decide +kernel
theorem dX10_rack_31 : decode cX10_rack 31 = .ok (.aload_n 0, 1) := by decide +kernel
theorem dX10_rack_32 : decode cX10_rack 32 = .ok (.bipush (-3), 2) := by decide +kernel
theorem dX10_rack_34 : decode cX10_rack 34 = .ok (.invokevirtual 73, 3) := by decide +kernel
theorem dX10_rack_37 : decode cX10_rack 37 = .ok (.ireturn, 1) := by decide +kernel
theorem dX10_rack_38 : decode cX10_rack 38 = .ok (.iload_n 3, 1) := by decide +kernel
theorem dX10_rack_39 : decode cX10_rack 39 = .ok (.ifCond .ge 9, 3) := by decide +kernel
theorem dX10_rack_42 : decode cX10_rack 42 = .ok (.aload_n 0, 1) := by decide +kernel
theorem dX10_rack_43 : decode cX10_rack 43 = .ok (.iconst 3, 1) := by decide +kernel
theorem dX10_rack_44 : decode cX10_rack 44 = .ok (.invokevirtual 83, 3) := by decide +kernel
theorem dX10_rack_47 : decode cX10_rack 47 = .ok (.ireturn, 1) := by decide +kernel
theorem dX10_rack_48 : decode cX10_rack 48 = .ok (.aload_n 0, 1) := by decide +kernel
theorem dX10_rack_49 : decode cX10_rack 49 = .ok (.getfield 35, 3) := by decide +kernel
theorem dX10_rack_52 : decode cX10_rack 52 = .ok (.iload_n 1, 1) := by decide +kernel
theorem dX10_rack_53 : decode cX10_rack 53 = .ok (.iload_n 3, 1) := by decide +kernel
theorem dX10_rack_54 : decode cX10_rack 54 = .ok (.iastore, 1) := by decide +kernel
theorem dX10_rack_55 : decode cX10_rack 55 = .ok (.aload_n 0, 1) := by decide +kernel
theorem dX10_rack_56 : decode cX10_rack 56 = .ok (.getfield 38, 3) := by decide +kernel
theorem dX10_rack_59 : decode cX10_rack 59 = .ok (.iload_n 1, 1) := by decide +kernel
theorem dX10_rack_60 : decode cX10_rack 60 = .ok (.iload_n 2, 1) := by decide +kernel
theorem dX10_rack_61 : decode cX10_rack 61 = .ok (.iastore, 1) := by decide +kernel
theorem dX10_rack_62 : decode cX10_rack 62 = .ok (.iconst 0, 1) := by decide +kernel
theorem dX10_rack_63 : decode cX10_rack 63 = .ok (.istore 4, 2) := by decide +kernel
theorem dX10_rack_65 : decode cX10_rack 65 = .ok (.iload 4, 2) := by decide +kernel
theorem dX10_rack_67 : decode cX10_rack 67 = .ok (.iload_n 3, 1) := by decide +kernel
theorem dX10_rack_68 : decode cX10_rack 68 = .ok (.if_icmp .ge 22, 3) := by decide +kernel
theorem dX10_rack_71 : decode cX10_rack 71 = .ok (.aload_n 0, 1) := by decide +kernel
theorem dX10_rack_72 : decode cX10_rack 72 = .ok (.getfield 41, 3) := by decide +kernel
theorem dX10_rack_75 : decode cX10_rack 75 = .ok (.bipush 10, 2) := by decide +kernel
theorem dX10_rack_77 : decode cX10_rack 77 = .ok (.iload_n 1, 1) := by decide +kernel
theorem dX10_rack_78 : decode cX10_rack 78 = .ok (.imul, 1) := by decide +kernel
theorem dX10_rack_79 : decode cX10_rack 79 = .ok (.iload 4, 2) := by decide +kernel
theorem dX10_rack_81 : decode cX10_rack 81 = .ok (.iadd, 1) := by decide +kernel
theorem dX10_rack_82 : decode cX10_rack 82 = .ok (.iconst (-1), 1) := by decide +kernel
theorem dX10_rack_83 : decode cX10_rack 83 = .ok (.iastore, 1) := by decide +kernel
theorem dX10_rack_84 : decode cX10_rack 84 = .ok (.iinc 4 1, 3) := by decide +kernel
theorem dX10_rack_87 : decode cX10_rack 87 = .ok (.goto (-22), 3) := by decide +kernel
theorem dX10_rack_90 : decode cX10_rack 90 = .ok (.aload_n 0, 1) := by decide +kernel
theorem dX10_rack_91 : decode cX10_rack 91 = .ok (.iload_n 3, 1) := by decide +kernel
theorem dX10_rack_92 : decode cX10_rack 92 = .ok (.invokevirtual 80, 3) := by decide +kernel
theorem dX10_rack_95 : decode cX10_rack 95 = .ok (.ireturn, 1) := by decide +kernel
theorem dX10_isOf_0 : decode cX10_isOf 0 = .ok (.iload_n 1, 1) := by decide +kernel
theorem dX10_isOf_1 : decode cX10_isOf 1 = .ok (.iconst (-1), 1) := by decide +kernel
theorem dX10_isOf_2 : decode cX10_isOf 2 = .ok (.if_icmp .eq 37, 3) := by decide +kernel
theorem dX10_isOf_5 : decode cX10_isOf 5 = .ok (.iload_n 2, 1) := by decide +kernel
theorem dX10_isOf_6 : decode cX10_isOf 6 = .ok (.ifCond .eq 33, 3) := by decide +kernel
theorem dX10_isOf_9 : decode cX10_isOf 9 = .ok (.iload_n 2, 1) := by decide +kernel
theorem dX10_isOf_10 : decode cX10_isOf 10 = .ok (.iconst 1, 1) := by decide +kernel
theorem dX10_isOf_11 : decode cX10_isOf 11 = .ok (.if_icmp .ne 18, 3) := by decide +kernel
theorem dX10_isOf_14 : decode cX10_isOf 14 = .ok (.aload_n 0, 1) := by decide +kernel
theorem dX10_isOf_15 : decode cX10_isOf 15 = .ok (.getfield 13, 3) := by decide +kernel
theorem dX10_isOf_18 : decode cX10_isOf 18 = .ok (.iload_n 1, 1) := by decide +kernel
theorem dX10_isOf_19 : decode cX10_isOf 19 = .ok (.iaload, 1) := by decide +kernel
theorem dX10_isOf_20 : decode cX10_isOf 20 = .ok (.invokestatic 86, 3) := by decide +kernel
theorem dX10_isOf_23 : decode cX10_isOf 23 = .ok (.ifCond .eq 20, 3) := by decide +kernel
theorem dX10_isOf_26 : decode cX10_isOf 26 = .ok (.goto 13, 3) := by decide +kernel
theorem dX10_isOf_29 : decode cX10_isOf 29 = .ok (.aload_n 0, 1) := by decide +kernel
theorem dX10_isOf_30 : decode cX10_isOf 30 = .ok (.getfield 13, 3) := by decide +kernel
theorem dX10_isOf_33 : decode cX10_isOf 33 = .ok (.iload_n 1, 1) := by decide +kernel
theorem dX10_isOf_34 : decode cX10_isOf 34 = .ok (.iaload, 1) := by decide +kernel
theorem dX10_isOf_35 : decode cX10_isOf 35 = .ok (.iconst 3, 1) := by decide +kernel
theorem dX10_isOf_36 : decode cX10_isOf 36 = .ok (.if_icmp .ne 7, 3) := by decide +kernel
theorem dX10_isOf_39 : decode cX10_isOf 39 = .ok (.iconst 1, 1) := by decide +kernel
theorem dX10_isOf_40 : decode cX10_isOf 40 = .ok (.goto 4, 3) := by decide +kernel
theorem dX10_isOf_43 : decode cX10_isOf 43 = .ok (.iconst 0, 1) := by decide +kernel
theorem dX10_isOf_44 : decode cX10_isOf 44 = .ok (.ireturn, 1) := by decide +kernel
theorem dX10_lay_0 : decode cX10_lay 0 = .ok (.iload_n 1, 1) := by decide +kernel
theorem dX10_lay_1 : decode cX10_lay 1 = .ok (.iconst 0, 1) := by decide +kernel
theorem dX10_lay_2 : decode cX10_lay 2 = .ok (.iconst 3, 1) := by decide +kernel
theorem dX10_lay_3 : decode cX10_lay 3 = .ok (.invokestatic 69, 3) := by decide +kernel
theorem dX10_lay_6 : decode cX10_lay 6 = .ok (.ifCond .eq 13, 3) := by decide +kernel
theorem dX10_lay_9 : decode cX10_lay 9 = .ok (.iload_n 3, 1) := by decide +kernel
theorem dX10_lay_10 : decode cX10_lay 10 = .ok (.iconst 0, 1) := by decide +kernel
theorem dX10_lay_11 : decode cX10_lay 11 = .ok (.bipush 9, 2) := by decide +kernel
theorem dX10_lay_13 : decode cX10_lay 13 = .ok (.invokestatic 69, 3) := by decide +kernel
theorem dX10_lay_16 : decode cX10_lay 16 = .ok (.ifCond .ne 10, 3) := by decide +kernel
theorem dX10_lay_19 : decode cX10_lay 19 = .ok (.aload_n 0, 1) := by decide +kernel
theorem dX10_lay_20 : decode cX10_lay 20 = .ok (.bipush (-2), 2) := by decide +kernel
theorem dX10_lay_22 : decode cX10_lay 22 = .ok (.invokevirtual 73, 3) := by decide +kernel
theorem dX10_lay_25 : decode cX10_lay 25 = .ok (.ireturn, 1) := by decide +kernel
theorem dX10_lay_26 : decode cX10_lay 26 = .ok (.aload_n 0, 1) := by decide +kernel
theorem dX10_lay_27 : decode cX10_lay 27 = .ok (.getfield 35, 3) := by decide +kernel
theorem dX10_lay_30 : decode cX10_lay 30 = .ok (.iload_n 1, 1) := by decide +kernel
theorem dX10_lay_31 : decode cX10_lay 31 = .ok (.iaload, 1) := by decide +kernel
theorem dX10_lay_32 : decode cX10_lay 32 = .ok (.iload_n 2, 1) := by decide +kernel
theorem dX10_lay_33 : decode cX10_lay 33 = .ok (.invokestatic 107, 3) := by decide +kernel
theorem dX10_lay_36 : decode cX10_lay 36 = .ok (.istore 4, 2) := by decide +kernel
theorem dX10_lay_38 : decode cX10_lay 38 = .ok (.iload 4, 2) := by decide +kernel
theorem dX10_lay_40 : decode cX10_lay 40 = .ok (.ifCond .ne 25, 3) := by decide +kernel
theorem dX10_lay_43 : decode cX10_lay 43 = .ok (.aload_n 0, 1) := by decide +kernel
theorem dX10_lay_44 : decode cX10_lay 44 = .ok (.aload_n 0, 1) := by decide +kernel
theorem dX10_lay_45 : decode cX10_lay 45 = .ok (.getfield 7, 3) := by decide +kernel
theorem dX10_lay_48 : decode cX10_lay 48 = .ok (.iload_n 3, 1) := by decide +kernel
theorem dX10_lay_49 : decode cX10_lay 49 = .ok (.iaload, 1) := by decide +kernel
theorem dX10_lay_50 : decode cX10_lay 50 = .ok (.aload_n 0, 1) := by decide +kernel
theorem dX10_lay_51 : decode cX10_lay 51 = .ok (.getfield 38, 3) := by decide +kernel
theorem dX10_lay_54 : decode cX10_lay 54 = .ok (.iload_n 1, 1) := by decide +kernel
theorem dX10_lay_55 : decode cX10_lay 55 = .ok (.iaload, 1) := by decide +kernel
theorem dX10_lay_56 : decode cX10_lay 56 = .ok (.invokevirtual 110, 3) := by decide +kernel
theorem dX10_lay_59 : decode cX10_lay 59 = .ok (.ifCond .ne 6, 3) := by decide +kernel
theorem dX10_lay_62 : decode cX10_lay 62 = .ok (.iconst 5, 1) := by decide +kernel
theorem dX10_lay_63 : decode cX10_lay 63 = .ok (.istore 4, 2) := by decide +kernel
theorem dX10_lay_65 : decode cX10_lay 65 = .ok (.iload 4, 2) := by decide +kernel
theorem dX10_lay_67 : decode cX10_lay 67 = .ok (.ifCond .eq 10, 3) := by decide +kernel
theorem dX10_lay_70 : decode cX10_lay 70 = .ok (.aload_n 0, 1) := by decide +kernel
theorem dX10_lay_71 : decode cX10_lay 71 = .ok (.iload 4, 2) := by decide +kernel
theorem dX10_lay_73 : decode cX10_lay 73 = .ok (.invokevirtual 83, 3) := by decide +kernel
theorem dX10_lay_76 : decode cX10_lay 76 = .ok (.ireturn, 1) := by decide +kernel
theorem dX10_lay_77 : decode cX10_lay 77 = .ok (.aload_n 0, 1) := by decide +kernel
theorem dX10_lay_78 : decode cX10_lay 78 = .ok (.getfield 41, 3) := by decide +kernel
theorem dX10_lay_81 : decode cX10_lay 81 = .ok (.bipush 10, 2) := by decide +kernel
theorem dX10_lay_83 : decode cX10_lay 83 = .ok (.iload_n 1, 1) := by decide +kernel
theorem dX10_lay_84 : decode cX10_lay 84 = .ok (.imul, 1) := by decide +kernel
theorem dX10_lay_85 : decode cX10_lay 85 = .ok (.iload_n 2, 1) := by decide +kernel
theorem dX10_lay_86 : decode cX10_lay 86 = .ok (.iadd, 1) := by decide +kernel
theorem dX10_lay_87 : decode cX10_lay 87 = .ok (.aload_n 0, 1) := by decide +kernel
theorem dX10_lay_88 : decode cX10_lay 88 = .ok (.getfield 7, 3) := by decide +kernel
theorem dX10_lay_91 : decode cX10_lay 91 = .ok (.iload_n 3, 1) := by decide +kernel
theorem dX10_lay_92 : decode cX10_lay 92 = .ok (.iaload, 1) := by decide +kernel
theorem dX10_lay_93 : decode cX10_lay 93 = .ok (.iastore, 1) := by decide +kernel
theorem dX10_lay_94 : decode cX10_lay 94 = .ok (.aload_n 0, 1) := by decide +kernel
theorem dX10_lay_95 : decode cX10_lay 95 = .ok (.iconst 1, 1) := by decide +kernel
theorem dX10_lay_96 : decode cX10_lay 96 = .ok (.invokevirtual 80, 3) := by decide +kernel
theorem dX10_lay_99 : decode cX10_lay 99 = .ok (.ireturn, 1) := by decide +kernel
theorem dX10_fetch_0 : decode cX10_fetch 0 = .ok (.iload_n 1, 1) := by decide +kernel
theorem dX10_fetch_1 : decode cX10_fetch 1 = .ok (.iconst 0, 1) := by decide +kernel
theorem dX10_fetch_2 : decode cX10_fetch 2 = .ok (.iconst 3, 1) := by decide +kernel
theorem dX10_fetch_3 : decode cX10_fetch 3 = .ok (.invokestatic 69, 3) := by decide +kernel
theorem dX10_fetch_6 : decode cX10_fetch 6 = .ok (.ifCond .eq 14, 3) := by decide +kernel
theorem dX10_fetch_9 : decode cX10_fetch 9 = .ok (.iload 4, 2) := by decide +kernel
theorem dX10_fetch_11 : decode cX10_fetch 11 = .ok (.iconst 0, 1) := by decide +kernel
theorem dX10_fetch_12 : decode cX10_fetch 12 = .ok (.bipush 9, 2) := by decide +kernel
theorem dX10_fetch_14 : decode cX10_fetch 14 = .ok (.invokestatic 69, 3) := by decide +kernel
theorem dX10_fetch_17 : decode cX10_fetch 17 = .ok (.ifCond .ne 10, 3) := by decide +kernel
theorem dX10_fetch_20 : decode cX10_fetch 20 = .ok (.aload_n 0, 1) := by decide +kernel
theorem dX10_fetch_21 : decode cX10_fetch 21 = .ok (.bipush (-2), 2) := by decide +kernel
theorem dX10_fetch_23 : decode cX10_fetch 23 = .ok (.invokevirtual 73, 3) := by decide +kernel
theorem dX10_fetch_26 : decode cX10_fetch 26 = .ok (.ireturn, 1) := by decide +kernel
theorem dX10_fetch_27 : decode cX10_fetch 27 = .ok (.iload_n 3, 1) := by decide +kernel
theorem dX10_fetch_28 : decode cX10_fetch 28 = .ok (.iconst 0, 1) := by decide +kernel
theorem dX10_fetch_29 : decode cX10_fetch 29 = .ok (.iconst 2, 1) := by decide +kernel
theorem dX10_fetch_30 : decode cX10_fetch 30 = .ok (.invokestatic 69, 3) := by decide +kernel
theorem dX10_fetch_33 : decode cX10_fetch 33 = .ok (.ifCond .ne 10, 3) := by decide +kernel
theorem dX10_fetch_36 : decode cX10_fetch 36 = .ok (.aload_n 0, 1) := by decide +kernel
theorem dX10_fetch_37 : decode cX10_fetch 37 = .ok (.bipush (-3), 2) := by decide +kernel
theorem dX10_fetch_39 : decode cX10_fetch 39 = .ok (.invokevirtual 73, 3) := by decide +kernel
theorem dX10_fetch_42 : decode cX10_fetch 42 = .ok (.ireturn, 1) := by decide +kernel
theorem dX10_fetch_43 : decode cX10_fetch 43 = .ok (.aload_n 0, 1) := by decide +kernel
theorem dX10_fetch_44 : decode cX10_fetch 44 = .ok (.getfield 35, 3) := by decide +kernel
theorem dX10_fetch_47 : decode cX10_fetch 47 = .ok (.iload_n 1, 1) := by decide +kernel
theorem dX10_fetch_48 : decode cX10_fetch 48 = .ok (.iaload, 1) := by decide +kernel
theorem dX10_fetch_49 : decode cX10_fetch 49 = .ok (.iload_n 2, 1) := by decide +kernel
theorem dX10_fetch_50 : decode cX10_fetch 50 = .ok (.invokestatic 107, 3) := by decide +kernel
theorem dX10_fetch_53 : decode cX10_fetch 53 = .ok (.istore 5, 2) := by decide +kernel
theorem dX10_fetch_55 : decode cX10_fetch 55 = .ok (.iload 5, 2) := by decide +kernel
theorem dX10_fetch_57 : decode cX10_fetch 57 = .ok (.ifCond .ne 25, 3) := by decide +kernel
theorem dX10_fetch_60 : decode cX10_fetch 60 = .ok (.aload_n 0, 1) := by decide +kernel
theorem dX10_fetch_61 : decode cX10_fetch 61 = .ok (.aload_n 0, 1) := by decide +kernel
theorem dX10_fetch_62 : decode cX10_fetch 62 = .ok (.getfield 41, 3) := by decide +kernel
theorem dX10_fetch_65 : decode cX10_fetch 65 = .ok (.bipush 10, 2) := by decide +kernel
theorem dX10_fetch_67 : decode cX10_fetch 67 = .ok (.iload_n 1, 1) := by decide +kernel
theorem dX10_fetch_68 : decode cX10_fetch 68 = .ok (.imul, 1) := by decide +kernel
theorem dX10_fetch_69 : decode cX10_fetch 69 = .ok (.iload_n 2, 1) := by decide +kernel
theorem dX10_fetch_70 : decode cX10_fetch 70 = .ok (.iadd, 1) := by decide +kernel
theorem dX10_fetch_71 : decode cX10_fetch 71 = .ok (.iaload, 1) := by decide +kernel
theorem dX10_fetch_72 : decode cX10_fetch 72 = .ok (.iload_n 3, 1) := by decide +kernel
theorem dX10_fetch_73 : decode cX10_fetch 73 = .ok (.invokevirtual 110, 3) := by decide +kernel
theorem dX10_fetch_76 : decode cX10_fetch 76 = .ok (.ifCond .ne 6, 3) := by decide +kernel
theorem dX10_fetch_79 : decode cX10_fetch 79 = .ok (.iconst 4, 1) := by decide +kernel
theorem dX10_fetch_80 : decode cX10_fetch 80 = .ok (.istore 5, 2) := by decide +kernel
theorem dX10_fetch_82 : decode cX10_fetch 82 = .ok (.iload 5, 2) := by decide +kernel
theorem dX10_fetch_84 : decode cX10_fetch 84 = .ok (.ifCond .eq 10, 3) := by decide +kernel
theorem dX10_fetch_87 : decode cX10_fetch 87 = .ok (.aload_n 0, 1) := by decide +kernel
theorem dX10_fetch_88 : decode cX10_fetch 88 = .ok (.iload 5, 2) := by decide +kernel
theorem dX10_fetch_90 : decode cX10_fetch 90 = .ok (.invokevirtual 83, 3) := by decide +kernel
theorem dX10_fetch_93 : decode cX10_fetch 93 = .ok (.ireturn, 1) := by decide +kernel
theorem dX10_fetch_94 : decode cX10_fetch 94 = .ok (.aload_n 0, 1) := by decide +kernel
theorem dX10_fetch_95 : decode cX10_fetch 95 = .ok (.getfield 7, 3) := by decide +kernel
theorem dX10_fetch_98 : decode cX10_fetch 98 = .ok (.iload 4, 2) := by decide +kernel
theorem dX10_fetch_100 : decode cX10_fetch 100 = .ok (.aload_n 0, 1) := by decide +kernel
theorem dX10_fetch_101 : decode cX10_fetch 101 = .ok (.getfield 41, 3) := by decide +kernel
theorem dX10_fetch_104 : decode cX10_fetch 104 = .ok (.bipush 10, 2) := by decide +kernel
theorem dX10_fetch_106 : decode cX10_fetch 106 = .ok (.iload_n 1, 1) := by decide +kernel
theorem dX10_fetch_107 : decode cX10_fetch 107 = .ok (.imul, 1) := by decide +kernel
theorem dX10_fetch_108 : decode cX10_fetch 108 = .ok (.iload_n 2, 1) := by decide +kernel
theorem dX10_fetch_109 : decode cX10_fetch 109 = .ok (.iadd, 1) := by decide +kernel
theorem dX10_fetch_110 : decode cX10_fetch 110 = .ok (.iaload, 1) := by decide +kernel
theorem dX10_fetch_111 : decode cX10_fetch 111 = .ok (.iastore, 1) := by decide +kernel
theorem dX10_fetch_112 : decode cX10_fetch 112 = .ok (.aload_n 0, 1) := by decide +kernel
theorem dX10_fetch_113 : decode cX10_fetch 113 = .ok (.iconst 1, 1) := by decide +kernel
theorem dX10_fetch_114 : decode cX10_fetch 114 = .ok (.invokevirtual 80, 3) := by decide +kernel
theorem dX10_fetch_117 : decode cX10_fetch 117 = .ok (.ireturn, 1) := by decide +kernel
theorem dX10_grid_0 : decode cX10_grid 0 = .ok (.iload_n 1, 1) := by decide +kernel
theorem dX10_grid_1 : decode cX10_grid 1 = .ok (.iconst 0, 1) := by decide +kernel
theorem dX10_grid_2 : decode cX10_grid 2 = .ok (.iconst 1, 1) := by decide +kernel
theorem dX10_grid_3 : decode cX10_grid 3 = .ok (.invokestatic 69, 3) := by decide +kernel
theorem dX10_grid_6 : decode cX10_grid 6 = .ok (.ifCond .ne 10, 3) := by decide +kernel
theorem dX10_grid_9 : decode cX10_grid 9 = .ok (.aload_n 0, 1) := by decide +kernel
theorem dX10_grid_10 : decode cX10_grid 10 = .ok (.bipush (-2), 2) := by decide +kernel
theorem dX10_grid_12 : decode cX10_grid 12 = .ok (.invokevirtual 73, 3) := by decide +kernel
theorem dX10_grid_15 : decode cX10_grid 15 = .ok (.ireturn, 1) := by decide +kernel
theorem dX10_grid_16 : decode cX10_grid 16 = .ok (.iload_n 2, 1) := by decide +kernel
theorem dX10_grid_17 : decode cX10_grid 17 = .ok (.bipush 8, 2) := by decide +kernel
theorem dX10_grid_19 : decode cX10_grid 19 = .ok (.if_icmp .gt 9, 3) := by decide +kernel
theorem dX10_grid_22 : decode cX10_grid 22 = .ok (.iload_n 3, 1) := by decide +kernel
theorem dX10_grid_23 : decode cX10_grid 23 = .ok (.bipush 8, 2) := by decide +kernel
theorem dX10_grid_25 : decode cX10_grid 25 = .ok (.if_icmp .le 10, 3) := by decide +kernel
theorem dX10_grid_28 : decode cX10_grid 28 = .ok (.aload_n 0, 1) := by decide +kernel
theorem dX10_grid_29 : decode cX10_grid 29 = .ok (.bipush (-3), 2) := by decide +kernel
theorem dX10_grid_31 : decode cX10_grid 31 = .ok (.invokevirtual 73, 3) := by decide +kernel
theorem dX10_grid_34 : decode cX10_grid 34 = .ok (.ireturn, 1) := by decide +kernel
theorem dX10_grid_35 : decode cX10_grid 35 = .ok (.iload_n 2, 1) := by decide +kernel
theorem dX10_grid_36 : decode cX10_grid 36 = .ok (.ifCond .lt 7, 3) := by decide +kernel
theorem dX10_grid_39 : decode cX10_grid 39 = .ok (.iload_n 3, 1) := by decide +kernel
theorem dX10_grid_40 : decode cX10_grid 40 = .ok (.ifCond .ge 9, 3) := by decide +kernel
theorem dX10_grid_43 : decode cX10_grid 43 = .ok (.aload_n 0, 1) := by decide +kernel
theorem dX10_grid_44 : decode cX10_grid 44 = .ok (.iconst 3, 1) := by decide +kernel
theorem dX10_grid_45 : decode cX10_grid 45 = .ok (.invokevirtual 83, 3) := by decide +kernel
theorem dX10_grid_48 : decode cX10_grid 48 = .ok (.ireturn, 1) := by decide +kernel
theorem dX10_grid_49 : decode cX10_grid 49 = .ok (.aload_n 0, 1) := by decide +kernel
theorem dX10_grid_50 : decode cX10_grid 50 = .ok (.getfield 44, 3) := by decide +kernel
theorem dX10_grid_53 : decode cX10_grid 53 = .ok (.iload_n 1, 1) := by decide +kernel
theorem dX10_grid_54 : decode cX10_grid 54 = .ok (.iload_n 2, 1) := by decide +kernel
theorem dX10_grid_55 : decode cX10_grid 55 = .ok (.iastore, 1) := by decide +kernel
theorem dX10_grid_56 : decode cX10_grid 56 = .ok (.iconst 0, 1) := by decide +kernel
theorem dX10_grid_57 : decode cX10_grid 57 = .ok (.istore 4, 2) := by decide +kernel
theorem dX10_grid_59 : decode cX10_grid 59 = .ok (.iload 4, 2) := by decide +kernel
theorem dX10_grid_61 : decode cX10_grid 61 = .ok (.iload_n 2, 1) := by decide +kernel
theorem dX10_grid_62 : decode cX10_grid 62 = .ok (.if_icmp .ge 56, 3) := by decide +kernel
theorem dX10_grid_65 : decode cX10_grid 65 = .ok (.aload_n 0, 1) := by decide +kernel
theorem dX10_grid_66 : decode cX10_grid 66 = .ok (.getfield 47, 3) := by decide +kernel
theorem dX10_grid_69 : decode cX10_grid 69 = .ok (.bipush 8, 2) := by decide +kernel
theorem dX10_grid_71 : decode cX10_grid 71 = .ok (.iload_n 1, 1) := by decide +kernel
theorem dX10_grid_72 : decode cX10_grid 72 = .ok (.imul, 1) := by decide +kernel
theorem dX10_grid_73 : decode cX10_grid 73 = .ok (.iload 4, 2) := by decide +kernel
theorem dX10_grid_75 : decode cX10_grid 75 = .ok (.iadd, 1) := by decide +kernel
theorem dX10_grid_76 : decode cX10_grid 76 = .ok (.iload_n 3, 1) := by decide +kernel
theorem dX10_grid_77 : decode cX10_grid 77 = .ok (.iastore, 1) := by decide +kernel
theorem dX10_grid_78 : decode cX10_grid 78 = .ok (.iconst 0, 1) := by decide +kernel
theorem dX10_grid_79 : decode cX10_grid 79 = .ok (.istore 5, 2) := by decide +kernel
theorem dX10_grid_81 : decode cX10_grid 81 = .ok (.iload 5, 2) := by decide +kernel
theorem dX10_grid_83 : decode cX10_grid 83 = .ok (.iload_n 3, 1) := by decide +kernel
theorem dX10_grid_84 : decode cX10_grid 84 = .ok (.if_icmp .ge 28, 3) := by decide +kernel
theorem dX10_grid_87 : decode cX10_grid 87 = .ok (.aload_n 0, 1) := by decide +kernel
theorem dX10_grid_88 : decode cX10_grid 88 = .ok (.getfield 50, 3) := by decide +kernel
theorem dX10_grid_91 : decode cX10_grid 91 = .ok (.bipush 64, 2) := by decide +kernel
theorem dX10_grid_93 : decode cX10_grid 93 = .ok (.iload_n 1, 1) := by decide +kernel
theorem dX10_grid_94 : decode cX10_grid 94 = .ok (.imul, 1) := by decide +kernel
theorem dX10_grid_95 : decode cX10_grid 95 = .ok (.bipush 8, 2) := by decide +kernel
theorem dX10_grid_97 : decode cX10_grid 97 = .ok (.iload 4, 2) := by decide +kernel
theorem dX10_grid_99 : decode cX10_grid 99 = .ok (.imul, 1) := by decide +kernel
theorem dX10_grid_100 : decode cX10_grid 100 = .ok (.iadd, 1) := by decide +kernel
theorem dX10_grid_101 : decode cX10_grid 101 = .ok (.iload 5, 2) := by decide +kernel
theorem dX10_grid_103 : decode cX10_grid 103 = .ok (.iadd, 1) := by decide +kernel
theorem dX10_grid_104 : decode cX10_grid 104 = .ok (.iconst 0, 1) := by decide +kernel
theorem dX10_grid_105 : decode cX10_grid 105 = .ok (.iastore, 1) := by decide +kernel
theorem dX10_grid_106 : decode cX10_grid 106 = .ok (.iinc 5 1, 3) := by decide +kernel
theorem dX10_grid_109 : decode cX10_grid 109 = .ok (.goto (-28), 3) := by decide +kernel
theorem dX10_grid_112 : decode cX10_grid 112 = .ok (.iinc 4 1, 3) := by decide +kernel
theorem dX10_grid_115 : decode cX10_grid 115 = .ok (.goto (-56), 3) := by decide +kernel
theorem dX10_grid_118 : decode cX10_grid 118 = .ok (.aload_n 0, 1) := by decide +kernel
theorem dX10_grid_119 : decode cX10_grid 119 = .ok (.iload_n 2, 1) := by decide +kernel
theorem dX10_grid_120 : decode cX10_grid 120 = .ok (.invokevirtual 80, 3) := by decide +kernel
theorem dX10_grid_123 : decode cX10_grid 123 = .ok (.ireturn, 1) := by decide +kernel
theorem dX10_strike_0 : decode cX10_strike 0 = .ok (.iload_n 1, 1) := by decide +kernel
theorem dX10_strike_1 : decode cX10_strike 1 = .ok (.iconst 0, 1) := by decide +kernel
theorem dX10_strike_2 : decode cX10_strike 2 = .ok (.iconst 1, 1) := by decide +kernel
theorem dX10_strike_3 : decode cX10_strike 3 = .ok (.invokestatic 69, 3) := by decide +kernel
theorem dX10_strike_6 : decode cX10_strike 6 = .ok (.ifCond .ne 10, 3) := by decide +kernel
theorem dX10_strike_9 : decode cX10_strike 9 = .ok (.aload_n 0, 1) := by decide +kernel
theorem dX10_strike_10 : decode cX10_strike 10 = .ok (.bipush (-2), 2) := by decide +kernel
theorem dX10_strike_12 : decode cX10_strike 12 = .ok (.invokevirtual 73, 3) := by decide +kernel
theorem dX10_strike_15 : decode cX10_strike 15 = .ok (.ireturn, 1) := by decide +kernel
theorem dX10_strike_16 : decode cX10_strike 16 = .ok (.aload_n 0, 1) := by decide +kernel
theorem dX10_strike_17 : decode cX10_strike 17 = .ok (.getfield 44, 3) := by decide +kernel
theorem dX10_strike_20 : decode cX10_strike 20 = .ok (.iload_n 1, 1) := by decide +kernel
theorem dX10_strike_21 : decode cX10_strike 21 = .ok (.iaload, 1) := by decide +kernel
theorem dX10_strike_22 : decode cX10_strike 22 = .ok (.iload_n 2, 1) := by decide +kernel
theorem dX10_strike_23 : decode cX10_strike 23 = .ok (.invokestatic 107, 3) := by decide +kernel
theorem dX10_strike_26 : decode cX10_strike 26 = .ok (.istore_n 3, 1) := by decide +kernel
theorem dX10_strike_27 : decode cX10_strike 27 = .ok (.iload_n 3, 1) := by decide +kernel
theorem dX10_strike_28 : decode cX10_strike 28 = .ok (.ifCond .eq 9, 3) := by decide +kernel
theorem dX10_strike_31 : decode cX10_strike 31 = .ok (.aload_n 0, 1) := by decide +kernel
theorem dX10_strike_32 : decode cX10_strike 32 = .ok (.iload_n 3, 1) := by decide +kernel
theorem dX10_strike_33 : decode cX10_strike 33 = .ok (.invokevirtual 83, 3) := by decide +kernel
theorem dX10_strike_36 : decode cX10_strike 36 = .ok (.ireturn, 1) := by decide +kernel
theorem dX10_strike_37 : decode cX10_strike 37 = .ok (.aload_n 0, 1) := by decide +kernel
theorem dX10_strike_38 : decode cX10_strike 38 = .ok (.getfield 47, 3) := by decide +kernel
theorem dX10_strike_41 : decode cX10_strike 41 = .ok (.bipush 8, 2) := by decide +kernel
theorem dX10_strike_43 : decode cX10_strike 43 = .ok (.iload_n 1, 1) := by decide +kernel
theorem dX10_strike_44 : decode cX10_strike 44 = .ok (.imul, 1) := by decide +kernel
theorem dX10_strike_45 : decode cX10_strike 45 = .ok (.iload_n 2, 1) := by decide +kernel
theorem dX10_strike_46 : decode cX10_strike 46 = .ok (.iadd, 1) := by decide +kernel
theorem dX10_strike_47 : decode cX10_strike 47 = .ok (.iaload, 1) := by decide +kernel
theorem dX10_strike_48 : decode cX10_strike 48 = .ok (.ifCond .ge 7, 3) := by decide +kernel
theorem dX10_strike_51 : decode cX10_strike 51 = .ok (.iconst 0, 1) := by decide +kernel
theorem dX10_strike_52 : decode cX10_strike 52 = .ok (.goto 4, 3) := by decide +kernel
theorem dX10_strike_55 : decode cX10_strike 55 = .ok (.iconst 1, 1) := by decide +kernel
theorem dX10_strike_56 : decode cX10_strike 56 = .ok (.istore 4, 2) := by decide +kernel
theorem dX10_strike_58 : decode cX10_strike 58 = .ok (.aload_n 0, 1) := by decide +kernel
theorem dX10_strike_59 : decode cX10_strike 59 = .ok (.getfield 47, 3) := by decide +kernel
theorem dX10_strike_62 : decode cX10_strike 62 = .ok (.bipush 8, 2) := by decide +kernel
theorem dX10_strike_64 : decode cX10_strike 64 = .ok (.iload_n 1, 1) := by decide +kernel
theorem dX10_strike_65 : decode cX10_strike 65 = .ok (.imul, 1) := by decide +kernel
theorem dX10_strike_66 : decode cX10_strike 66 = .ok (.iload_n 2, 1) := by decide +kernel
theorem dX10_strike_67 : decode cX10_strike 67 = .ok (.iadd, 1) := by decide +kernel
theorem dX10_strike_68 : decode cX10_strike 68 = .ok (.iconst (-1), 1) := by decide +kernel
theorem dX10_strike_69 : decode cX10_strike 69 = .ok (.iastore, 1) := by decide +kernel
theorem dX10_strike_70 : decode cX10_strike 70 = .ok (.aload_n 0, 1) := by decide +kernel
theorem dX10_strike_71 : decode cX10_strike 71 = .ok (.iload 4, 2) := by decide +kernel
theorem dX10_strike_73 : decode cX10_strike 73 = .ok (.invokevirtual 80, 3) := by decide +kernel
theorem dX10_strike_76 : decode cX10_strike 76 = .ok (.ireturn, 1) := by decide +kernel
theorem dX10_lacksCell_0 : decode cX10_lacksCell 0 = .ok (.aload_n 0, 1) := by decide +kernel
theorem dX10_lacksCell_1 : decode cX10_lacksCell 1 = .ok (.getfield 44, 3) := by decide +kernel
theorem dX10_lacksCell_4 : decode cX10_lacksCell 4 = .ok (.iload_n 1, 1) := by decide +kernel
theorem dX10_lacksCell_5 : decode cX10_lacksCell 5 = .ok (.iaload, 1) := by decide +kernel
theorem dX10_lacksCell_6 : decode cX10_lacksCell 6 = .ok (.iload_n 2, 1) := by decide +kernel
theorem dX10_lacksCell_7 : decode cX10_lacksCell 7 = .ok (.invokestatic 107, 3) := by decide +kernel
theorem dX10_lacksCell_10 : decode cX10_lacksCell 10 = .ok (.istore 4, 2) := by decide +kernel
theorem dX10_lacksCell_12 : decode cX10_lacksCell 12 = .ok (.iload 4, 2) := by decide +kernel
theorem dX10_lacksCell_14 : decode cX10_lacksCell 14 = .ok (.ifCond .eq 8, 3) := by decide +kernel
theorem dX10_lacksCell_17 : decode cX10_lacksCell 17 = .ok (.iload 4, 2) := by decide +kernel
theorem dX10_lacksCell_19 : decode cX10_lacksCell 19 = .ok (.goto 18, 3) := by decide +kernel
theorem dX10_lacksCell_22 : decode cX10_lacksCell 22 = .ok (.aload_n 0, 1) := by decide +kernel
theorem dX10_lacksCell_23 : decode cX10_lacksCell 23 = .ok (.getfield 47, 3) := by decide +kernel
theorem dX10_lacksCell_26 : decode cX10_lacksCell 26 = .ok (.bipush 8, 2) := by decide +kernel
theorem dX10_lacksCell_28 : decode cX10_lacksCell 28 = .ok (.iload_n 1, 1) := by decide +kernel
theorem dX10_lacksCell_29 : decode cX10_lacksCell 29 = .ok (.imul, 1) := by decide +kernel
theorem dX10_lacksCell_30 : decode cX10_lacksCell 30 = .ok (.iload_n 2, 1) := by decide +kernel
theorem dX10_lacksCell_31 : decode cX10_lacksCell 31 = .ok (.iadd, 1) := by decide +kernel
theorem dX10_lacksCell_32 : decode cX10_lacksCell 32 = .ok (.iaload, 1) := by decide +kernel
theorem dX10_lacksCell_33 : decode cX10_lacksCell 33 = .ok (.iload_n 3, 1) := by decide +kernel
theorem dX10_lacksCell_34 : decode cX10_lacksCell 34 = .ok (.invokestatic 107, 3) := by decide +kernel
theorem dX10_lacksCell_37 : decode cX10_lacksCell 37 = .ok (.ireturn, 1) := by decide +kernel
theorem dX10_mark_0 : decode cX10_mark 0 = .ok (.iload_n 1, 1) := by decide +kernel
theorem dX10_mark_1 : decode cX10_mark 1 = .ok (.iconst 0, 1) := by decide +kernel
theorem dX10_mark_2 : decode cX10_mark 2 = .ok (.iconst 1, 1) := by decide +kernel
theorem dX10_mark_3 : decode cX10_mark 3 = .ok (.invokestatic 69, 3) := by decide +kernel
theorem dX10_mark_6 : decode cX10_mark 6 = .ok (.ifCond .ne 10, 3) := by decide +kernel
theorem dX10_mark_9 : decode cX10_mark 9 = .ok (.aload_n 0, 1) := by decide +kernel
theorem dX10_mark_10 : decode cX10_mark 10 = .ok (.bipush (-2), 2) := by decide +kernel
theorem dX10_mark_12 : decode cX10_mark 12 = .ok (.invokevirtual 73, 3) := by decide +kernel
theorem dX10_mark_15 : decode cX10_mark 15 = .ok (.ireturn, 1) := by decide +kernel
theorem dX10_mark_16 : decode cX10_mark 16 = .ok (.aload_n 0, 1) := by decide +kernel
theorem dX10_mark_17 : decode cX10_mark 17 = .ok (.iload_n 1, 1) := by decide +kernel
theorem dX10_mark_18 : decode cX10_mark 18 = .ok (.iload_n 2, 1) := by decide +kernel
theorem dX10_mark_19 : decode cX10_mark 19 = .ok (.iload_n 3, 1) := by decide +kernel
theorem dX10_mark_20 : decode cX10_mark 20 = .ok (.invokevirtual 113, 3) := by decide +kernel
theorem dX10_mark_23 : decode cX10_mark 23 = .ok (.istore 5, 2) := by decide +kernel
theorem dX10_mark_25 : decode cX10_mark 25 = .ok (.iload 5, 2) := by decide +kernel
theorem dX10_mark_27 : decode cX10_mark 27 = .ok (.ifCond .eq 10, 3) := by decide +kernel
theorem dX10_mark_30 : decode cX10_mark 30 = .ok (.aload_n 0, 1) := by decide +kernel
theorem dX10_mark_31 : decode cX10_mark 31 = .ok (.iload 5, 2) := by decide +kernel
theorem dX10_mark_33 : decode cX10_mark 33 = .ok (.invokevirtual 83, 3) := by decide +kernel
theorem dX10_mark_36 : decode cX10_mark 36 = .ok (.ireturn, 1) := by decide +kernel
theorem dX10_mark_37 : decode cX10_mark 37 = .ok (.aload_n 0, 1) := by decide +kernel
theorem dX10_mark_38 : decode cX10_mark 38 = .ok (.getfield 50, 3) := by decide +kernel
theorem dX10_mark_41 : decode cX10_mark 41 = .ok (.bipush 64, 2) := by decide +kernel
theorem dX10_mark_43 : decode cX10_mark 43 = .ok (.iload_n 1, 1) := by decide +kernel
theorem dX10_mark_44 : decode cX10_mark 44 = .ok (.imul, 1) := by decide +kernel
theorem dX10_mark_45 : decode cX10_mark 45 = .ok (.bipush 8, 2) := by decide +kernel
theorem dX10_mark_47 : decode cX10_mark 47 = .ok (.iload_n 2, 1) := by decide +kernel
theorem dX10_mark_48 : decode cX10_mark 48 = .ok (.imul, 1) := by decide +kernel
theorem dX10_mark_49 : decode cX10_mark 49 = .ok (.iadd, 1) := by decide +kernel
theorem dX10_mark_50 : decode cX10_mark 50 = .ok (.iload_n 3, 1) := by decide +kernel
theorem dX10_mark_51 : decode cX10_mark 51 = .ok (.iadd, 1) := by decide +kernel
theorem dX10_mark_52 : decode cX10_mark 52 = .ok (.iload 4, 2) := by decide +kernel
theorem dX10_mark_54 : decode cX10_mark 54 = .ok (.iastore, 1) := by decide +kernel
theorem dX10_mark_55 : decode cX10_mark 55 = .ok (.aload_n 0, 1) := by decide +kernel
theorem dX10_mark_56 : decode cX10_mark 56 = .ok (.iconst 1, 1) := by decide +kernel
theorem dX10_mark_57 : decode cX10_mark 57 = .ok (.invokevirtual 80, 3) := by decide +kernel
theorem dX10_mark_60 : decode cX10_mark 60 = .ok (.ireturn, 1) := by decide +kernel
theorem dX10_cell_0 : decode cX10_cell 0 = .ok (.aload_n 0, 1) := by decide +kernel
theorem dX10_cell_1 : decode cX10_cell 1 = .ok (.iload_n 1, 1) := by decide +kernel
theorem dX10_cell_2 : decode cX10_cell 2 = .ok (.iconst 0, 1) := by decide +kernel
theorem dX10_cell_3 : decode cX10_cell 3 = .ok (.iconst 1, 1) := by decide +kernel
theorem dX10_cell_4 : decode cX10_cell 4 = .ok (.invokestatic 69, 3) := by decide +kernel
theorem dX10_cell_7 : decode cX10_cell 7 = .ok (.ifCond .eq 7, 3) := by decide +kernel
theorem dX10_cell_10 : decode cX10_cell 10 = .ok (.iconst 0, 1) := by decide +kernel
theorem dX10_cell_11 : decode cX10_cell 11 = .ok (.goto 5, 3) := by decide +kernel
theorem dX10_cell_14 : decode cX10_cell 14 = .ok (.bipush (-2), 2) := by decide +kernel
theorem dX10_cell_16 : decode cX10_cell 16 = .ok (.putfield 62, 3) := by decide +kernel
theorem dX10_cell_19 : decode cX10_cell 19 = .ok (.aload_n 0, 1) := by decide +kernel
theorem dX10_cell_20 : decode cX10_cell 20 = .ok (.getfield 62, 3) := by decide +kernel
theorem dX10_cell_23 : decode cX10_cell 23 = .ok (.ifCond .eq 5, 3) := by decide +kernel
theorem dX10_cell_26 : decode cX10_cell 26 = .ok (.iconst 0, 1) := by decide +kernel
theorem dX10_cell_27 : decode cX10_cell 27 = .ok (.ireturn, 1) := by decide +kernel
theorem dX10_cell_28 : decode cX10_cell 28 = .ok (.aload_n 0, 1) := by decide +kernel
theorem dX10_cell_29 : decode cX10_cell 29 = .ok (.iload_n 1, 1) := by decide +kernel
theorem dX10_cell_30 : decode cX10_cell 30 = .ok (.iload_n 2, 1) := by decide +kernel
theorem dX10_cell_31 : decode cX10_cell 31 = .ok (.iload_n 3, 1) := by decide +kernel
theorem dX10_cell_32 : decode cX10_cell 32 = .ok (.invokevirtual 113, 3) := by decide +kernel
theorem dX10_cell_35 : decode cX10_cell 35 = .ok (.istore 4, 2) := by decide +kernel
theorem dX10_cell_37 : decode cX10_cell 37 = .ok (.iload 4, 2) := by decide +kernel
theorem dX10_cell_39 : decode cX10_cell 39 = .ok (.ifCond .eq 13, 3) := by decide +kernel
theorem dX10_cell_42 : decode cX10_cell 42 = .ok (.aload_n 0, 1) := by decide +kernel
theorem dX10_cell_43 : decode cX10_cell 43 = .ok (.iload 4, 2) := by decide +kernel
theorem dX10_cell_45 : decode cX10_cell 45 = .ok (.invokevirtual 83, 3) := by decide +kernel
theorem dX10_cell_48 : decode cX10_cell 48 = .ok (.istore 4, 2) := by decide +kernel
theorem dX10_cell_50 : decode cX10_cell 50 = .ok (.iconst 0, 1) := by decide +kernel
theorem dX10_cell_51 : decode cX10_cell 51 = .ok (.ireturn, 1) := by decide +kernel
theorem dX10_cell_52 : decode cX10_cell 52 = .ok (.aload_n 0, 1) := by decide +kernel
theorem dX10_cell_53 : decode cX10_cell 53 = .ok (.getfield 50, 3) := by decide +kernel
theorem dX10_cell_56 : decode cX10_cell 56 = .ok (.bipush 64, 2) := by decide +kernel
theorem dX10_cell_58 : decode cX10_cell 58 = .ok (.iload_n 1, 1) := by decide +kernel
theorem dX10_cell_59 : decode cX10_cell 59 = .ok (.imul, 1) := by decide +kernel
theorem dX10_cell_60 : decode cX10_cell 60 = .ok (.bipush 8, 2) := by decide +kernel
theorem dX10_cell_62 : decode cX10_cell 62 = .ok (.iload_n 2, 1) := by decide +kernel
theorem dX10_cell_63 : decode cX10_cell 63 = .ok (.imul, 1) := by decide +kernel
theorem dX10_cell_64 : decode cX10_cell 64 = .ok (.iadd, 1) := by decide +kernel
theorem dX10_cell_65 : decode cX10_cell 65 = .ok (.iload_n 3, 1) := by decide +kernel
theorem dX10_cell_66 : decode cX10_cell 66 = .ok (.iadd, 1) := by decide +kernel
theorem dX10_cell_67 : decode cX10_cell 67 = .ok (.iaload, 1) := by decide +kernel
theorem dX10_cell_68 : decode cX10_cell 68 = .ok (.ireturn, 1) := by decide +kernel
theorem dX10_alarm_0 : decode cX10_alarm 0 = .ok (.iload_n 1, 1) := by decide +kernel
theorem dX10_alarm_1 : decode cX10_alarm 1 = .ok (.iconst 0, 1) := by decide +kernel
theorem dX10_alarm_2 : decode cX10_alarm 2 = .ok (.iconst 3, 1) := by decide +kernel
theorem dX10_alarm_3 : decode cX10_alarm 3 = .ok (.invokestatic 69, 3) := by decide +kernel
theorem dX10_alarm_6 : decode cX10_alarm 6 = .ok (.ifCond .ne 10, 3) := by decide +kernel
theorem dX10_alarm_9 : decode cX10_alarm 9 = .ok (.aload_n 0, 1) := by decide +kernel
theorem dX10_alarm_10 : decode cX10_alarm 10 = .ok (.bipush (-2), 2) := by decide +kernel
theorem dX10_alarm_12 : decode cX10_alarm 12 = .ok (.invokevirtual 73, 3) := by decide +kernel
theorem dX10_alarm_15 : decode cX10_alarm 15 = .ok (.ireturn, 1) := by decide +kernel
theorem dX10_alarm_16 : decode cX10_alarm 16 = .ok (.aload_n 0, 1) := by decide +kernel
theorem dX10_alarm_17 : decode cX10_alarm 17 = .ok (.getfield 53, 3) := by decide +kernel
theorem dX10_alarm_20 : decode cX10_alarm 20 = .ok (.iload_n 1, 1) := by decide +kernel
theorem dX10_alarm_21 : decode cX10_alarm 21 = .ok (.baload, 1) := by decide +kernel
theorem dX10_alarm_22 : decode cX10_alarm 22 = .ok (.ifCond .eq 7, 3) := by decide +kernel
theorem dX10_alarm_25 : decode cX10_alarm 25 = .ok (.iconst 0, 1) := by decide +kernel
theorem dX10_alarm_26 : decode cX10_alarm 26 = .ok (.goto 4, 3) := by decide +kernel
theorem dX10_alarm_29 : decode cX10_alarm 29 = .ok (.iconst 1, 1) := by decide +kernel
theorem dX10_alarm_30 : decode cX10_alarm 30 = .ok (.istore_n 3, 1) := by decide +kernel
theorem dX10_alarm_31 : decode cX10_alarm 31 = .ok (.aload_n 0, 1) := by decide +kernel
theorem dX10_alarm_32 : decode cX10_alarm 32 = .ok (.getfield 53, 3) := by decide +kernel
theorem dX10_alarm_35 : decode cX10_alarm 35 = .ok (.iload_n 1, 1) := by decide +kernel
theorem dX10_alarm_36 : decode cX10_alarm 36 = .ok (.iconst 1, 1) := by decide +kernel
theorem dX10_alarm_37 : decode cX10_alarm 37 = .ok (.bastore, 1) := by decide +kernel
theorem dX10_alarm_38 : decode cX10_alarm 38 = .ok (.aload_n 0, 1) := by decide +kernel
theorem dX10_alarm_39 : decode cX10_alarm 39 = .ok (.getfield 56, 3) := by decide +kernel
theorem dX10_alarm_42 : decode cX10_alarm 42 = .ok (.iload_n 1, 1) := by decide +kernel
theorem dX10_alarm_43 : decode cX10_alarm 43 = .ok (.iload_n 2, 1) := by decide +kernel
theorem dX10_alarm_44 : decode cX10_alarm 44 = .ok (.iastore, 1) := by decide +kernel
theorem dX10_alarm_45 : decode cX10_alarm 45 = .ok (.aload_n 0, 1) := by decide +kernel
theorem dX10_alarm_46 : decode cX10_alarm 46 = .ok (.iload_n 3, 1) := by decide +kernel
theorem dX10_alarm_47 : decode cX10_alarm 47 = .ok (.invokevirtual 80, 3) := by decide +kernel
theorem dX10_alarm_50 : decode cX10_alarm 50 = .ok (.ireturn, 1) := by decide +kernel
theorem dX10_calm_0 : decode cX10_calm 0 = .ok (.iload_n 1, 1) := by decide +kernel
theorem dX10_calm_1 : decode cX10_calm 1 = .ok (.iconst 0, 1) := by decide +kernel
theorem dX10_calm_2 : decode cX10_calm 2 = .ok (.iconst 3, 1) := by decide +kernel
theorem dX10_calm_3 : decode cX10_calm 3 = .ok (.invokestatic 69, 3) := by decide +kernel
theorem dX10_calm_6 : decode cX10_calm 6 = .ok (.ifCond .ne 10, 3) := by decide +kernel
theorem dX10_calm_9 : decode cX10_calm 9 = .ok (.aload_n 0, 1) := by decide +kernel
theorem dX10_calm_10 : decode cX10_calm 10 = .ok (.bipush (-2), 2) := by decide +kernel
theorem dX10_calm_12 : decode cX10_calm 12 = .ok (.invokevirtual 73, 3) := by decide +kernel
theorem dX10_calm_15 : decode cX10_calm 15 = .ok (.ireturn, 1) := by decide +kernel
theorem dX10_calm_16 : decode cX10_calm 16 = .ok (.aload_n 0, 1) := by decide +kernel
theorem dX10_calm_17 : decode cX10_calm 17 = .ok (.getfield 53, 3) := by decide +kernel
theorem dX10_calm_20 : decode cX10_calm 20 = .ok (.iload_n 1, 1) := by decide +kernel
theorem dX10_calm_21 : decode cX10_calm 21 = .ok (.baload, 1) := by decide +kernel
theorem dX10_calm_22 : decode cX10_calm 22 = .ok (.ifCond .eq 7, 3) := by decide +kernel
theorem dX10_calm_25 : decode cX10_calm 25 = .ok (.iconst 1, 1) := by decide +kernel
theorem dX10_calm_26 : decode cX10_calm 26 = .ok (.goto 4, 3) := by decide +kernel
theorem dX10_calm_29 : decode cX10_calm 29 = .ok (.iconst 0, 1) := by decide +kernel
theorem dX10_calm_30 : decode cX10_calm 30 = .ok (.istore_n 2, 1) := by decide +kernel
theorem dX10_calm_31 : decode cX10_calm 31 = .ok (.aload_n 0, 1) := by decide +kernel
theorem dX10_calm_32 : decode cX10_calm 32 = .ok (.getfield 53, 3) := by decide +kernel
theorem dX10_calm_35 : decode cX10_calm 35 = .ok (.iload_n 1, 1) := by decide +kernel
theorem dX10_calm_36 : decode cX10_calm 36 = .ok (.iconst 0, 1) := by decide +kernel
theorem dX10_calm_37 : decode cX10_calm 37 = .ok (.bastore, 1) := by decide +kernel
theorem dX10_calm_38 : decode cX10_calm 38 = .ok (.aload_n 0, 1) := by decide +kernel
theorem dX10_calm_39 : decode cX10_calm 39 = .ok (.iload_n 2, 1) := by decide +kernel
theorem dX10_calm_40 : decode cX10_calm 40 = .ok (.invokevirtual 80, 3) := by decide +kernel
theorem dX10_calm_43 : decode cX10_calm 43 = .ok (.ireturn, 1) := by decide +kernel
theorem dX10_let_0 : decode cX10_let 0 = .ok (.iload_n 1, 1) := by decide +kernel
theorem dX10_let_1 : decode cX10_let 1 = .ok (.iconst 0, 1) := by decide +kernel
theorem dX10_let_2 : decode cX10_let 2 = .ok (.iconst 3, 1) := by decide +kernel
theorem dX10_let_3 : decode cX10_let 3 = .ok (.invokestatic 69, 3) := by decide +kernel
theorem dX10_let_6 : decode cX10_let 6 = .ok (.ifCond .ne 10, 3) := by decide +kernel
theorem dX10_let_9 : decode cX10_let 9 = .ok (.aload_n 0, 1) := by decide +kernel
theorem dX10_let_10 : decode cX10_let 10 = .ok (.bipush (-2), 2) := by decide +kernel
theorem dX10_let_12 : decode cX10_let 12 = .ok (.invokevirtual 73, 3) := by decide +kernel
theorem dX10_let_15 : decode cX10_let 15 = .ok (.ireturn, 1) := by decide +kernel
theorem dX10_let_16 : decode cX10_let 16 = .ok (.aload_n 0, 1) := by decide +kernel
theorem dX10_let_17 : decode cX10_let 17 = .ok (.getfield 53, 3) := by decide +kernel
theorem dX10_let_20 : decode cX10_let 20 = .ok (.iload_n 1, 1) := by decide +kernel
theorem dX10_let_21 : decode cX10_let 21 = .ok (.baload, 1) := by decide +kernel
theorem dX10_let_22 : decode cX10_let 22 = .ok (.ifCond .ne 9, 3) := by decide +kernel
theorem dX10_let_25 : decode cX10_let 25 = .ok (.aload_n 0, 1) := by decide +kernel
theorem dX10_let_26 : decode cX10_let 26 = .ok (.iconst 1, 1) := by decide +kernel
theorem dX10_let_27 : decode cX10_let 27 = .ok (.invokevirtual 83, 3) := by decide +kernel
theorem dX10_let_30 : decode cX10_let 30 = .ok (.ireturn, 1) := by decide +kernel
theorem dX10_let_31 : decode cX10_let 31 = .ok (.aload_n 0, 1) := by decide +kernel
theorem dX10_let_32 : decode cX10_let 32 = .ok (.bipush 6, 2) := by decide +kernel
theorem dX10_let_34 : decode cX10_let 34 = .ok (.invokevirtual 83, 3) := by decide +kernel
theorem dX10_let_37 : decode cX10_let 37 = .ok (.istore_n 2, 1) := by decide +kernel
theorem dX10_let_38 : decode cX10_let 38 = .ok (.aload_n 0, 1) := by decide +kernel
theorem dX10_let_39 : decode cX10_let 39 = .ok (.aload_n 0, 1) := by decide +kernel
theorem dX10_let_40 : decode cX10_let 40 = .ok (.getfield 56, 3) := by decide +kernel
theorem dX10_let_43 : decode cX10_let 43 = .ok (.iload_n 1, 1) := by decide +kernel
theorem dX10_let_44 : decode cX10_let 44 = .ok (.iaload, 1) := by decide +kernel
theorem dX10_let_45 : decode cX10_let 45 = .ok (.putfield 62, 3) := by decide +kernel
theorem dX10_let_48 : decode cX10_let 48 = .ok (.iload_n 2, 1) := by decide +kernel
theorem dX10_let_49 : decode cX10_let 49 = .ok (.ireturn, 1) := by decide +kernel
theorem dX10_why_0 : decode cX10_why 0 = .ok (.aload_n 0, 1) := by decide +kernel
theorem dX10_why_1 : decode cX10_why 1 = .ok (.getfield 62, 3) := by decide +kernel
theorem dX10_why_4 : decode cX10_why 4 = .ok (.ireturn, 1) := by decide +kernel
theorem dX10_count_0 : decode cX10_count 0 = .ok (.iload_n 1, 1) := by decide +kernel
theorem dX10_count_1 : decode cX10_count 1 = .ok (.iconst 0, 1) := by decide +kernel
theorem dX10_count_2 : decode cX10_count 2 = .ok (.bipush 7, 2) := by decide +kernel
theorem dX10_count_4 : decode cX10_count 4 = .ok (.invokestatic 69, 3) := by decide +kernel
theorem dX10_count_7 : decode cX10_count 7 = .ok (.ifCond .ne 6, 3) := by decide +kernel
theorem dX10_count_10 : decode cX10_count 10 = .ok (.bipush (-3), 2) := by decide +kernel
theorem dX10_count_12 : decode cX10_count 12 = .ok (.ireturn, 1) := by decide +kernel
theorem dX10_count_13 : decode cX10_count 13 = .ok (.iload_n 1, 1) := by decide +kernel
theorem dX10_count_14 : decode cX10_count 14 = .ok (.ifCond .ne 10, 3) := by decide +kernel
theorem dX10_count_17 : decode cX10_count 17 = .ok (.aload_n 0, 1) := by decide +kernel
theorem dX10_count_18 : decode cX10_count 18 = .ok (.getfield 66, 3) := by decide +kernel
theorem dX10_count_21 : decode cX10_count 21 = .ok (.goto 22, 3) := by decide +kernel
theorem dX10_count_24 : decode cX10_count 24 = .ok (.iload_n 1, 1) := by decide +kernel
theorem dX10_count_25 : decode cX10_count 25 = .ok (.bipush 7, 2) := by decide +kernel
theorem dX10_count_27 : decode cX10_count 27 = .ok (.if_icmp .ne 10, 3) := by decide +kernel
theorem dX10_count_30 : decode cX10_count 30 = .ok (.aload_n 0, 1) := by decide +kernel
theorem dX10_count_31 : decode cX10_count 31 = .ok (.getfield 93, 3) := by decide +kernel
theorem dX10_count_34 : decode cX10_count 34 = .ok (.goto 9, 3) := by decide +kernel
theorem dX10_count_37 : decode cX10_count 37 = .ok (.aload_n 0, 1) := by decide +kernel
theorem dX10_count_38 : decode cX10_count 38 = .ok (.getfield 59, 3) := by decide +kernel
theorem dX10_count_41 : decode cX10_count 41 = .ok (.iload_n 1, 1) := by decide +kernel
theorem dX10_count_42 : decode cX10_count 42 = .ok (.iaload, 1) := by decide +kernel
theorem dX10_count_43 : decode cX10_count 43 = .ok (.ireturn, 1) := by decide +kernel
