theorem dX4_init_0 : decode cX4_init 0 = .ok (.aload_n 0, 1) := by decide +kernel
theorem dX4_init_1 : decode cX4_init 1 = .ok (.invokespecial 1, 3) := by decide +kernel
theorem dX4_init_4 : decode cX4_init 4 = .ok (.aload_n 0, 1) := by decide +kernel
theorem dX4_init_5 : decode cX4_init 5 = .ok (.iconst 2, 1) := by decide +kernel
theorem dX4_init_6 : decode cX4_init 6 = .ok (.newarray .int, 2) := by decide +kernel
theorem dX4_init_8 : decode cX4_init 8 = .ok (.putfield 7, 3) := by decide +kernel
theorem dX4_init_11 : decode cX4_init 11 = .ok (.aload_n 0, 1) := by decide +kernel
theorem dX4_init_12 : decode cX4_init 12 = .ok (.iconst 2, 1) := by decide +kernel
theorem dX4_init_13 : decode cX4_init 13 = .ok (.newarray .int, 2) := by decide +kernel
theorem dX4_init_15 : decode cX4_init 15 = .ok (.putfield 13, 3) := by decide +kernel
theorem dX4_init_18 : decode cX4_init 18 = .ok (.aload_n 0, 1) := by decide +kernel
theorem dX4_init_19 : decode cX4_init 19 = .ok (.iconst 2, 1) := by decide +kernel
theorem dX4_init_20 : decode cX4_init 20 = .ok (.newarray .int, 2) := by decide +kernel
theorem dX4_init_22 : decode cX4_init 22 = .ok (.putfield 16, 3) := by decide +kernel
theorem dX4_init_25 : decode cX4_init 25 = .ok (.aload_n 0, 1) := by decide +kernel
theorem dX4_init_26 : decode cX4_init 26 = .ok (.iconst 2, 1) := by decide +kernel
theorem dX4_init_27 : decode cX4_init 27 = .ok (.newarray .int, 2) := by decide +kernel
theorem dX4_init_29 : decode cX4_init 29 = .ok (.putfield 19, 3) := by decide +kernel
theorem dX4_init_32 : decode cX4_init 32 = .ok (.aload_n 0, 1) := by decide +kernel
theorem dX4_init_33 : decode cX4_init 33 = .ok (.iconst 2, 1) := by decide +kernel
theorem dX4_init_34 : decode cX4_init 34 = .ok (.newarray .int, 2) := by decide +kernel
theorem dX4_init_36 : decode cX4_init 36 = .ok (.putfield 22, 3) := by decide +kernel
theorem dX4_init_39 : decode cX4_init 39 = .ok (.aload_n 0, 1) := by decide +kernel
theorem dX4_init_40 : decode cX4_init 40 = .ok (.iconst 2, 1) := by decide +kernel
theorem dX4_init_41 : decode cX4_init 41 = .ok (.newarray .int, 2) := by decide +kernel
theorem dX4_init_43 : decode cX4_init 43 = .ok (.putfield 25, 3) := by decide +kernel
theorem dX4_init_46 : decode cX4_init 46 = .ok (.aload_n 0, 1) := by decide +kernel
theorem dX4_init_47 : decode cX4_init 47 = .ok (.bipush 16, 2) := by decide +kernel
theorem dX4_init_49 : decode cX4_init 49 = .ok (.newarray .int, 2) := by decide +kernel
theorem dX4_init_51 : decode cX4_init 51 = .ok (.putfield 28, 3) := by decide +kernel
theorem dX4_init_54 : decode cX4_init 54 = .ok (.aload_n 0, 1) := by decide +kernel
theorem dX4_init_55 : decode cX4_init 55 = .ok (.iconst 2, 1) := by decide +kernel
theorem dX4_init_56 : decode cX4_init 56 = .ok (.newarray .boolean, 2) := by decide +kernel
theorem dX4_init_58 : decode cX4_init 58 = .ok (.putfield 31, 3) := by decide +kernel
theorem dX4_init_61 : decode cX4_init 61 = .ok (.aload_n 0, 1) := by decide +kernel
theorem dX4_init_62 : decode cX4_init 62 = .ok (.iconst 2, 1) := by decide +kernel
theorem dX4_init_63 : decode cX4_init 63 = .ok (.newarray .boolean, 2) := by decide +kernel
theorem dX4_init_65 : decode cX4_init 65 = .ok (.putfield 35, 3) := by decide +kernel
theorem dX4_init_68 : decode cX4_init 68 = .ok (.aload_n 0, 1) := by decide +kernel
theorem dX4_init_69 : decode cX4_init 69 = .ok (.bipush 8, 2) := by decide +kernel
theorem dX4_init_71 : decode cX4_init 71 = .ok (.newarray .int, 2) := by decide +kernel
theorem dX4_init_73 : decode cX4_init 73 = .ok (.putfield 38, 3) := by decide +kernel
theorem dX4_init_76 : decode cX4_init 76 = .ok (.aload_n 0, 1) := by decide +kernel
theorem dX4_init_77 : decode cX4_init 77 = .ok (.bipush 8, 2) := by decide +kernel
theorem dX4_init_79 : decode cX4_init 79 = .ok (.newarray .int, 2) := by decide +kernel
theorem dX4_init_81 : decode cX4_init 81 = .ok (.putfield 41, 3) := by decide +kernel
theorem dX4_init_84 : decode cX4_init 84 = .ok (.aload_n 0, 1) := by decide +kernel
theorem dX4_init_85 : decode cX4_init 85 = .ok (.bipush 8, 2) := by decide +kernel
theorem dX4_init_87 : decode cX4_init 87 = .ok (.newarray .int, 2) := by decide +kernel
theorem dX4_init_89 : decode cX4_init 89 = .ok (.putfield 44, 3) := by decide +kernel
theorem dX4_init_92 : decode cX4_init 92 = .ok (.aload_n 0, 1) := by decide +kernel
theorem dX4_init_93 : decode cX4_init 93 = .ok (.bipush 8, 2) := by decide +kernel
theorem dX4_init_95 : decode cX4_init 95 = .ok (.newarray .int, 2) := by decide +kernel
theorem dX4_init_97 : decode cX4_init 97 = .ok (.putfield 47, 3) := by decide +kernel
theorem dX4_init_100 : decode cX4_init 100 = .ok (.aload_n 0, 1) := by decide +kernel
theorem dX4_init_101 : decode cX4_init 101 = .ok (.bipush 8, 2) := by decide +kernel
theorem dX4_init_103 : decode cX4_init 103 = .ok (.newarray .int, 2) := by decide +kernel
theorem dX4_init_105 : decode cX4_init 105 = .ok (.putfield 50, 3) := by decide +kernel
theorem dX4_init_108 : decode cX4_init 108 = .ok (.aload_n 0, 1) := by decide +kernel
theorem dX4_init_109 : decode cX4_init 109 = .ok (.bipush 8, 2) := by decide +kernel
theorem dX4_init_111 : decode cX4_init 111 = .ok (.newarray .int, 2) := by decide +kernel
theorem dX4_init_113 : decode cX4_init 113 = .ok (.putfield 53, 3) := by decide +kernel
theorem dX4_init_116 : decode cX4_init 116 = .ok (.aload_n 0, 1) := by decide +kernel
theorem dX4_init_117 : decode cX4_init 117 = .ok (.bipush 8, 2) := by decide +kernel
theorem dX4_init_119 : decode cX4_init 119 = .ok (.newarray .int, 2) := by decide +kernel
theorem dX4_init_121 : decode cX4_init 121 = .ok (.putfield 56, 3) := by decide +kernel
theorem dX4_init_124 : decode cX4_init 124 = .ok (.aload_n 0, 1) := by decide +kernel
theorem dX4_init_125 : decode cX4_init 125 = .ok (.bipush 8, 2) := by decide +kernel
theorem dX4_init_127 : decode cX4_init 127 = .ok (.newarray .int, 2) := by decide +kernel
theorem dX4_init_129 : decode cX4_init 129 = .ok (.putfield 59, 3) := by decide +kernel
theorem dX4_init_132 : decode cX4_init 132 = .ok (.aload_n 0, 1) := by decide +kernel
theorem dX4_init_133 : decode cX4_init 133 = .ok (.bipush 8, 2) := by decide +kernel
theorem dX4_init_135 : decode cX4_init 135 = .ok (.newarray .int, 2) := by decide +kernel
theorem dX4_init_137 : decode cX4_init 137 = .ok (.putfield 62, 3) := by decide +kernel
theorem dX4_init_140 : decode cX4_init 140 = .ok (.aload_n 0, 1) := by decide +kernel
theorem dX4_init_141 : decode cX4_init 141 = .ok (.bipush 8, 2) := by decide +kernel
theorem dX4_init_143 : decode cX4_init 143 = .ok (.newarray .int, 2) := by decide +kernel
theorem dX4_init_145 : decode cX4_init 145 = .ok (.putfield 65, 3) := by decide +kernel
theorem dX4_init_148 : decode cX4_init 148 = .ok (.aload_n 0, 1) := by decide +kernel
theorem dX4_init_149 : decode cX4_init 149 = .ok (.bipush 8, 2) := by decide +kernel
theorem dX4_init_151 : decode cX4_init 151 = .ok (.newarray .int, 2) := by decide +kernel
theorem dX4_init_153 : decode cX4_init 153 = .ok (.putfield 68, 3) := by decide +kernel
theorem dX4_init_156 : decode cX4_init 156 = .ok (.aload_n 0, 1) := by decide +kernel
theorem dX4_init_157 : decode cX4_init 157 = .ok (.bipush 8, 2) := by decide +kernel
theorem dX4_init_159 : decode cX4_init 159 = .ok (.newarray .char, 2) := by decide +kernel
theorem dX4_init_161 : decode cX4_init 161 = .ok (.dup, 1) := by decide +kernel
theorem dX4_init_162 : decode cX4_init 162 = .ok (.iconst 0, 1) := by decide +kernel
theorem dX4_init_163 : decode cX4_init 163 = .ok (.bipush 110, 2) := by decide +kernel
theorem dX4_init_165 : decode cX4_init 165 = .ok (.castore, 1) := by decide +kernel
theorem dX4_init_166 : decode cX4_init 166 = .ok (.dup, 1) := by decide +kernel
theorem dX4_init_167 : decode cX4_init 167 = .ok (.iconst 1, 1) := by decide +kernel
theorem dX4_init_168 : decode cX4_init 168 = .ok (.bipush 110, 2) := by decide +kernel
theorem dX4_init_170 : decode cX4_init 170 = .ok (.castore, 1) := by decide +kernel
theorem dX4_init_171 : decode cX4_init 171 = .ok (.dup, 1) := by decide +kernel
theorem dX4_init_172 : decode cX4_init 172 = .ok (.iconst 2, 1) := by decide +kernel
theorem dX4_init_173 : decode cX4_init 173 = .ok (.bipush 110, 2) := by decide +kernel
theorem dX4_init_175 : decode cX4_init 175 = .ok (.castore, 1) := by decide +kernel
theorem dX4_init_176 : decode cX4_init 176 = .ok (.dup, 1) := by decide +kernel
theorem dX4_init_177 : decode cX4_init 177 = .ok (.iconst 3, 1) := by decide +kernel
theorem dX4_init_178 : decode cX4_init 178 = .ok (.bipush 110, 2) := by decide +kernel
theorem dX4_init_180 : decode cX4_init 180 = .ok (.castore, 1) := by decide +kernel
theorem dX4_init_181 : decode cX4_init 181 = .ok (.dup, 1) := by decide +kernel
theorem dX4_init_182 : decode cX4_init 182 = .ok (.iconst 4, 1) := by decide +kernel
theorem dX4_init_183 : decode cX4_init 183 = .ok (.bipush 110, 2) := by decide +kernel
theorem dX4_init_185 : decode cX4_init 185 = .ok (.castore, 1) := by decide +kernel
theorem dX4_init_186 : decode cX4_init 186 = .ok (.dup, 1) := by decide +kernel
theorem dX4_init_187 : decode cX4_init 187 = .ok (.iconst 5, 1) := by decide +kernel
theorem dX4_init_188 : decode cX4_init 188 = .ok (.bipush 110, 2) := by decide +kernel
theorem dX4_init_190 : decode cX4_init 190 = .ok (.castore, 1) := by decide +kernel
theorem dX4_init_191 : decode cX4_init 191 = .ok (.dup, 1) := by decide +kernel
theorem dX4_init_192 : decode cX4_init 192 = .ok (.bipush 6, 2) := by decide +kernel
theorem dX4_init_194 : decode cX4_init 194 = .ok (.bipush 110, 2) := by decide +kernel
theorem dX4_init_196 : decode cX4_init 196 = .ok (.castore, 1) := by decide +kernel
theorem dX4_init_197 : decode cX4_init 197 = .ok (.dup, 1) := by decide +kernel
theorem dX4_init_198 : decode cX4_init 198 = .ok (.bipush 7, 2) := by decide +kernel
theorem dX4_init_200 : decode cX4_init 200 = .ok (.bipush 110, 2) := by decide +kernel
theorem dX4_init_202 : decode cX4_init 202 = .ok (.castore, 1) := by decide +kernel
theorem dX4_init_203 : decode cX4_init 203 = .ok (.putfield 71, 3) := by decide +kernel
theorem dX4_init_206 : decode cX4_init 206 = .ok (.aload_n 0, 1) := by decide +kernel
theorem dX4_init_207 : decode cX4_init 207 = .ok (.bipush 10, 2) := by decide +kernel
theorem dX4_init_209 : decode cX4_init 209 = .ok (.newarray .boolean, 2) := by decide +kernel
theorem dX4_init_211 : decode cX4_init 211 = .ok (.putfield 75, 3) := by decide +kernel
theorem dX4_init_214 : decode cX4_init 214 = .ok (.aload_n 0, 1) := by decide +kernel
theorem dX4_init_215 : decode cX4_init 215 = .ok (.bipush 10, 2) := by decide +kernel
theorem dX4_init_217 : decode cX4_init 217 = .ok (.newarray .boolean, 2) := by decide +kernel
theorem dX4_init_219 : decode cX4_init 219 = .ok (.putfield 78, 3) := by decide +kernel
theorem dX4_init_222 : decode cX4_init 222 = .ok (.return_, 1) := by decide +kernel
theorem dX4_thrown_0 : decode cX4_thrown 0 = .ok (.aload_n 0, 1) := by decide +kernel
theorem dX4_thrown_1 : decode cX4_thrown 1 = .ok (.getfield 81, 3) := by decide +kernel
theorem dX4_thrown_4 : decode cX4_thrown 4 = .ok (.ireturn, 1) := by decide +kernel
theorem dX4_in_0 : decode cX4_in 0 = .ok (.iload_n 0, 1) := by decide +kernel
theorem dX4_in_1 : decode cX4_in 1 = .ok (.iload_n 1, 1) := by decide +kernel
theorem dX4_in_2 : decode cX4_in 2 = .ok (.if_icmp .lt 12, 3) := by decide +kernel
theorem dX4_in_5 : decode cX4_in 5 = .ok (.iload_n 0, 1) := by decide +kernel
theorem dX4_in_6 : decode cX4_in 6 = .ok (.iload_n 2, 1) := by decide +kernel
theorem dX4_in_7 : decode cX4_in 7 = .ok (.if_icmp .gt 7, 3) := by decide +kernel
theorem dX4_in_10 : decode cX4_in 10 = .ok (.iconst 1, 1) := by decide +kernel
theorem dX4_in_11 : decode cX4_in 11 = .ok (.goto 4, 3) := by decide +kernel
theorem dX4_in_14 : decode cX4_in 14 = .ok (.iconst 0, 1) := by decide +kernel
theorem dX4_in_15 : decode cX4_in 15 = .ok (.ireturn, 1) := by decide +kernel
theorem dX4_fails_0 : decode cX4_fails 0 = .ok (.aload_n 0, 1) := by decide +kernel
theorem dX4_fails_1 : decode cX4_fails 1 = .ok (.iload_n 1, 1) := by decide +kernel
theorem dX4_fails_2 : decode cX4_fails 2 = .ok (.putfield 81, 3) := by decide +kernel
theorem dX4_fails_5 : decode cX4_fails 5 = .ok (.iconst 0, 1) := by decide +kernel
theorem dX4_fails_6 : decode cX4_fails 6 = .ok (.ireturn, 1) := by decide +kernel
theorem dX4_tells_0 : decode cX4_tells 0 = .ok (.aload_n 0, 1) := by decide +kernel
theorem dX4_tells_1 : decode cX4_tells 1 = .ok (.iconst 0, 1) := by decide +kernel
theorem dX4_tells_2 : decode cX4_tells 2 = .ok (.putfield 81, 3) := by decide +kernel
theorem dX4_tells_5 : decode cX4_tells 5 = .ok (.iload_n 1, 1) := by decide +kernel
theorem dX4_tells_6 : decode cX4_tells 6 = .ok (.ireturn, 1) := by decide +kernel
theorem dX4_asks_0 : decode cX4_asks 0 = .ok (.aload_n 0, 1) := by decide +kernel
theorem dX4_asks_1 : decode cX4_asks 1 = .ok (.iload_n 1, 1) := by decide +kernel
theorem dX4_asks_2 : decode cX4_asks 2 = .ok (.putfield 81, 3) := by decide +kernel
theorem dX4_asks_5 : decode cX4_asks 5 = .ok (.iload_n 1, 1) := by decide +kernel
theorem dX4_asks_6 : decode cX4_asks 6 = .ok (.ifCond .ne 11, 3) := by decide +kernel
theorem dX4_asks_9 : decode cX4_asks 9 = .ok (.iload_n 2, 1) := by decide +kernel
theorem dX4_asks_10 : decode cX4_asks 10 = .ok (.ifCond .eq 7, 3) := by decide +kernel
theorem dX4_asks_13 : decode cX4_asks 13 = .ok (.iconst 1, 1) := by decide +kernel
theorem dX4_asks_14 : decode cX4_asks 14 = .ok (.goto 4, 3) := by decide +kernel
theorem dX4_asks_17 : decode cX4_asks 17 = .ok (.iconst 0, 1) := by decide +kernel
theorem dX4_asks_18 : decode cX4_asks 18 = .ok (.ireturn, 1) := by decide +kernel
theorem dX4_isLine_0 : decode cX4_isLine 0 = .ok (.iload_n 1, 1) := by decide +kernel
theorem dX4_isLine_1 : decode cX4_isLine 1 = .ok (.iconst 0, 1) := by decide +kernel
theorem dX4_isLine_2 : decode cX4_isLine 2 = .ok (.aload_n 0, 1) := by decide +kernel
theorem dX4_isLine_3 : decode cX4_isLine 3 = .ok (.getfield 85, 3) := by decide +kernel
theorem dX4_isLine_6 : decode cX4_isLine 6 = .ok (.iconst 1, 1) := by decide +kernel
theorem dX4_isLine_7 : decode cX4_isLine 7 = .ok (.isub, 1) := by decide +kernel
theorem dX4_isLine_8 : decode cX4_isLine 8 = .ok (.invokestatic 88, 3) := by decide +kernel
theorem dX4_isLine_11 : decode cX4_isLine 11 = .ok (.ireturn, 1) := by decide +kernel
theorem dX4_isProposal_0 : decode cX4_isProposal 0 = .ok (.iload_n 1, 1) := by decide +kernel
theorem dX4_isProposal_1 : decode cX4_isProposal 1 = .ok (.iconst 0, 1) := by decide +kernel
theorem dX4_isProposal_2 : decode cX4_isProposal 2 = .ok (.aload_n 0, 1) := by decide +kernel
theorem dX4_isProposal_3 : decode cX4_isProposal 3 = .ok (.getfield 92, 3) := by decide +kernel
theorem dX4_isProposal_6 : decode cX4_isProposal 6 = .ok (.iconst 1, 1) := by decide +kernel
theorem dX4_isProposal_7 : decode cX4_isProposal 7 = .ok (.isub, 1) := by decide +kernel
theorem dX4_isProposal_8 : decode cX4_isProposal 8 = .ok (.invokestatic 88, 3) := by decide +kernel
theorem dX4_isProposal_11 : decode cX4_isProposal 11 = .ok (.ireturn, 1) := by decide +kernel
theorem dX4_isUser_0 : decode cX4_isUser 0 = .ok (.iload_n 0, 1) := by decide +kernel
theorem dX4_isUser_1 : decode cX4_isUser 1 = .ok (.iconst 0, 1) := by decide +kernel
theorem dX4_isUser_2 : decode cX4_isUser 2 = .ok (.bipush 9, 2) := by decide +kernel
theorem dX4_isUser_4 : decode cX4_isUser 4 = .ok (.invokestatic 88, 3) := by decide +kernel
theorem dX4_isUser_7 : decode cX4_isUser 7 = .ok (.ireturn, 1) := by decide +kernel
theorem dX4_addBeamline_0 : decode cX4_addBeamline 0 = .ok (.iload_n 1, 1) := by decide +kernel
theorem dX4_addBeamline_1 : decode cX4_addBeamline 1 = .ok (.iconst 3, 1) := by decide +kernel
theorem dX4_addBeamline_2 : decode cX4_addBeamline 2 = .ok (.bipush 40, 2) := by decide +kernel
theorem dX4_addBeamline_4 : decode cX4_addBeamline 4 = .ok (.invokestatic 88, 3) := by decide +kernel
theorem dX4_addBeamline_7 : decode cX4_addBeamline 7 = .ok (.ifCond .eq 15, 3) := by decide +kernel
theorem dX4_addBeamline_10 : decode cX4_addBeamline 10 = .ok (.iload_n 2, 1) := by decide +kernel
theorem dX4_addBeamline_11 : decode cX4_addBeamline 11 = .ok (.bipush 10, 2) := by decide +kernel
theorem dX4_addBeamline_13 : decode cX4_addBeamline 13 = .ok (.sipush 999, 3) := by decide +kernel
theorem dX4_addBeamline_16 : decode cX4_addBeamline 16 = .ok (.invokestatic 88, 3) := by decide +kernel
theorem dX4_addBeamline_19 : decode cX4_addBeamline 19 = .ok (.ifCond .ne 9, 3) := by decide +kernel
theorem dX4_addBeamline_22 : decode cX4_addBeamline 22 = .ok (.aload_n 0, 1) := by decide +kernel
theorem dX4_addBeamline_23 : decode cX4_addBeamline 23 = .ok (.iconst 1, 1) := by decide +kernel
theorem dX4_addBeamline_24 : decode cX4_addBeamline 24 = .ok (.invokevirtual 95, 3) := by decide +kernel
theorem dX4_addBeamline_27 : decode cX4_addBeamline 27 = .ok (.ireturn, 1) := by decide +kernel
theorem dX4_addBeamline_28 : decode cX4_addBeamline 28 = .ok (.aload_n 0, 1) := by decide +kernel
theorem dX4_addBeamline_29 : decode cX4_addBeamline 29 = .ok (.getfield 85, 3) := by decide +kernel
theorem dX4_addBeamline_32 : decode cX4_addBeamline 32 = .ok (.iconst 2, 1) := by decide +kernel
theorem dX4_addBeamline_33 : decode cX4_addBeamline 33 = .ok (.if_icmp .ne 9, 3) := by decide +kernel
theorem dX4_addBeamline_36 : decode cX4_addBeamline 36 = .ok (.aload_n 0, 1) := by decide +kernel
theorem dX4_addBeamline_37 : decode cX4_addBeamline 37 = .ok (.iconst 2, 1) := by decide +kernel
theorem dX4_addBeamline_38 : decode cX4_addBeamline 38 = .ok (.invokevirtual 95, 3) := by decide +kernel
theorem dX4_addBeamline_41 : decode cX4_addBeamline 41 = .ok (.ireturn, 1) := by decide +kernel
theorem dX4_addBeamline_42 : decode cX4_addBeamline 42 = .ok (.aload_n 0, 1) := by decide +kernel
theorem dX4_addBeamline_43 : decode cX4_addBeamline 43 = .ok (.getfield 7, 3) := by decide +kernel
theorem dX4_addBeamline_46 : decode cX4_addBeamline 46 = .ok (.aload_n 0, 1) := by decide +kernel
theorem dX4_addBeamline_47 : decode cX4_addBeamline 47 = .ok (.getfield 85, 3) := by decide +kernel
theorem dX4_addBeamline_50 : decode cX4_addBeamline 50 = .ok (.iload_n 1, 1) := by decide +kernel
theorem dX4_addBeamline_51 : decode cX4_addBeamline 51 = .ok (.iastore, 1) := by decide +kernel
theorem dX4_addBeamline_52 : decode cX4_addBeamline 52 = .ok (.aload_n 0, 1) := by decide +kernel
theorem dX4_addBeamline_53 : decode cX4_addBeamline 53 = .ok (.getfield 13, 3) := by decide +kernel
theorem dX4_addBeamline_56 : decode cX4_addBeamline 56 = .ok (.aload_n 0, 1) := by decide +kernel
theorem dX4_addBeamline_57 : decode cX4_addBeamline 57 = .ok (.getfield 85, 3) := by decide +kernel
theorem dX4_addBeamline_60 : decode cX4_addBeamline 60 = .ok (.iload_n 2, 1) := by decide +kernel
theorem dX4_addBeamline_61 : decode cX4_addBeamline 61 = .ok (.iastore, 1) := by decide +kernel
theorem dX4_addBeamline_62 : decode cX4_addBeamline 62 = .ok (.aload_n 0, 1) := by decide +kernel
theorem dX4_addBeamline_63 : decode cX4_addBeamline 63 = .ok (.dup, 1) := by decide +kernel
theorem dX4_addBeamline_64 : decode cX4_addBeamline 64 = .ok (.getfield 85, 3) := by decide +kernel
theorem dX4_addBeamline_67 : decode cX4_addBeamline 67 = .ok (.iconst 1, 1) := by decide +kernel
theorem dX4_addBeamline_68 : decode cX4_addBeamline 68 = .ok (.iadd, 1) := by decide +kernel
theorem dX4_addBeamline_69 : decode cX4_addBeamline 69 = .ok (.putfield 85, 3) := by decide +kernel
theorem dX4_addBeamline_72 : decode cX4_addBeamline 72 = .ok (.aload_n 0, 1) := by decide +kernel
theorem dX4_addBeamline_73 : decode cX4_addBeamline 73 = .ok (.aload_n 0, 1) := by decide +kernel
theorem dX4_addBeamline_74 : decode cX4_addBeamline 74 = .ok (.getfield 85, 3) := by decide +kernel
theorem dX4_addBeamline_77 : decode cX4_addBeamline 77 = .ok (.iconst 1, 1) := by decide +kernel
theorem dX4_addBeamline_78 : decode cX4_addBeamline 78 = .ok (.isub, 1) := by decide +kernel
theorem dX4_addBeamline_79 : decode cX4_addBeamline 79 = .ok (.invokevirtual 99, 3) := by decide +kernel
theorem dX4_addBeamline_82 : decode cX4_addBeamline 82 = .ok (.ireturn, 1) := by decide +kernel
theorem dX4_setRate_0 : decode cX4_setRate 0 = .ok (.aload_n 0, 1) := by decide +kernel
theorem dX4_setRate_1 : decode cX4_setRate 1 = .ok (.iload_n 1, 1) := by decide +kernel
theorem dX4_setRate_2 : decode cX4_setRate 2 = .ok (.invokevirtual 102, 3) := by decide +kernel
theorem dX4_setRate_5 : decode cX4_setRate 5 = .ok (.ifCond .ne 9, 3) := by decide +kernel
theorem dX4_setRate_8 : decode cX4_setRate 8 = .ok (.aload_n 0, 1) := by decide +kernel
theorem dX4_setRate_9 : decode cX4_setRate 9 = .ok (.iconst 1, 1) := by decide +kernel
theorem dX4_setRate_10 : decode cX4_setRate 10 = .ok (.invokevirtual 95, 3) := by decide +kernel
theorem dX4_setRate_13 : decode cX4_setRate 13 = .ok (.ireturn, 1) := by decide +kernel
theorem dX4_setRate_14 : decode cX4_setRate 14 = .ok (.iload_n 2, 1) := by decide +kernel
theorem dX4_setRate_15 : decode cX4_setRate 15 = .ok (.iconst 0, 1) := by decide +kernel
theorem dX4_setRate_16 : decode cX4_setRate 16 = .ok (.bipush 99, 2) := by decide +kernel
theorem dX4_setRate_18 : decode cX4_setRate 18 = .ok (.invokestatic 88, 3) := by decide +kernel
theorem dX4_setRate_21 : decode cX4_setRate 21 = .ok (.ifCond .ne 9, 3) := by decide +kernel
theorem dX4_setRate_24 : decode cX4_setRate 24 = .ok (.aload_n 0, 1) := by decide +kernel
theorem dX4_setRate_25 : decode cX4_setRate 25 = .ok (.iconst 2, 1) := by decide +kernel
theorem dX4_setRate_26 : decode cX4_setRate 26 = .ok (.invokevirtual 95, 3) := by decide +kernel
theorem dX4_setRate_29 : decode cX4_setRate 29 = .ok (.ireturn, 1) := by decide +kernel
theorem dX4_setRate_30 : decode cX4_setRate 30 = .ok (.aload_n 0, 1) := by decide +kernel
theorem dX4_setRate_31 : decode cX4_setRate 31 = .ok (.getfield 16, 3) := by decide +kernel
theorem dX4_setRate_34 : decode cX4_setRate 34 = .ok (.iload_n 1, 1) := by decide +kernel
theorem dX4_setRate_35 : decode cX4_setRate 35 = .ok (.iaload, 1) := by decide +kernel
theorem dX4_setRate_36 : decode cX4_setRate 36 = .ok (.istore_n 3, 1) := by decide +kernel
theorem dX4_setRate_37 : decode cX4_setRate 37 = .ok (.aload_n 0, 1) := by decide +kernel
theorem dX4_setRate_38 : decode cX4_setRate 38 = .ok (.getfield 16, 3) := by decide +kernel
theorem dX4_setRate_41 : decode cX4_setRate 41 = .ok (.iload_n 1, 1) := by decide +kernel
theorem dX4_setRate_42 : decode cX4_setRate 42 = .ok (.iload_n 2, 1) := by decide +kernel
theorem dX4_setRate_43 : decode cX4_setRate 43 = .ok (.iastore, 1) := by decide +kernel
theorem dX4_setRate_44 : decode cX4_setRate 44 = .ok (.aload_n 0, 1) := by decide +kernel
theorem dX4_setRate_45 : decode cX4_setRate 45 = .ok (.iload_n 3, 1) := by decide +kernel
theorem dX4_setRate_46 : decode cX4_setRate 46 = .ok (.invokevirtual 99, 3) := by decide +kernel
theorem dX4_setRate_49 : decode cX4_setRate 49 = .ok (.ireturn, 1) := by decide +kernel
theorem dX4_propose_0 : decode cX4_propose 0 = .ok (.aload_n 0, 1) := by decide +kernel
theorem dX4_propose_1 : decode cX4_propose 1 = .ok (.iload_n 1, 1) := by decide +kernel
theorem dX4_propose_2 : decode cX4_propose 2 = .ok (.invokevirtual 102, 3) := by decide +kernel
theorem dX4_propose_5 : decode cX4_propose 5 = .ok (.ifCond .ne 9, 3) := by decide +kernel
theorem dX4_propose_8 : decode cX4_propose 8 = .ok (.aload_n 0, 1) := by decide +kernel
theorem dX4_propose_9 : decode cX4_propose 9 = .ok (.iconst 1, 1) := by decide +kernel
theorem dX4_propose_10 : decode cX4_propose 10 = .ok (.invokevirtual 95, 3) := by decide +kernel
theorem dX4_propose_13 : decode cX4_propose 13 = .ok (.ireturn, 1) := by decide +kernel
theorem dX4_propose_14 : decode cX4_propose 14 = .ok (.iload_n 2, 1) := by decide +kernel
theorem dX4_propose_15 : decode cX4_propose 15 = .ok (.invokestatic 106, 3) := by decide +kernel
theorem dX4_propose_18 : decode cX4_propose 18 = .ok (.ifCond .eq 35, 3) := by decide +kernel
theorem dX4_propose_21 : decode cX4_propose 21 = .ok (.iload_n 3, 1) := by decide +kernel
theorem dX4_propose_22 : decode cX4_propose 22 = .ok (.iconst 0, 1) := by decide +kernel
theorem dX4_propose_23 : decode cX4_propose 23 = .ok (.bipush 100, 2) := by decide +kernel
theorem dX4_propose_25 : decode cX4_propose 25 = .ok (.invokestatic 88, 3) := by decide +kernel
theorem dX4_propose_28 : decode cX4_propose 28 = .ok (.ifCond .eq 25, 3) := by decide +kernel
theorem dX4_propose_31 : decode cX4_propose 31 = .ok (.iload 4, 2) := by decide +kernel
theorem dX4_propose_33 : decode cX4_propose 33 = .ok (.iconst 1, 1) := by decide +kernel
theorem dX4_propose_34 : decode cX4_propose 34 = .ok (.bipush 9, 2) := by decide +kernel
theorem dX4_propose_36 : decode cX4_propose 36 = .ok (.invokestatic 88, 3) := by decide +kernel
theorem dX4_propose_39 : decode cX4_propose 39 = .ok (.ifCond .eq 14, 3) := by decide +kernel
theorem dX4_propose_42 : decode cX4_propose 42 = .ok (.iload 5, 2) := by decide +kernel
theorem dX4_propose_44 : decode cX4_propose 44 = .ok (.iconst 0, 1) := by decide +kernel
theorem dX4_propose_45 : decode cX4_propose 45 = .ok (.bipush 99, 2) := by decide +kernel
theorem dX4_propose_47 : decode cX4_propose 47 = .ok (.invokestatic 88, 3) := by decide +kernel
theorem dX4_propose_50 : decode cX4_propose 50 = .ok (.ifCond .ne 9, 3) := by decide +kernel
theorem dX4_propose_53 : decode cX4_propose 53 = .ok (.aload_n 0, 1) := by decide +kernel
theorem dX4_propose_54 : decode cX4_propose 54 = .ok (.iconst 2, 1) := by decide +kernel
theorem dX4_propose_55 : decode cX4_propose 55 = .ok (.invokevirtual 95, 3) := by decide +kernel
theorem dX4_propose_58 : decode cX4_propose 58 = .ok (.ireturn, 1) := by decide +kernel
theorem dX4_propose_59 : decode cX4_propose 59 = .ok (.aload_n 0, 1) := by decide +kernel
theorem dX4_propose_60 : decode cX4_propose 60 = .ok (.getfield 31, 3) := by decide +kernel
theorem dX4_propose_63 : decode cX4_propose 63 = .ok (.iload_n 1, 1) := by decide +kernel
theorem dX4_propose_64 : decode cX4_propose 64 = .ok (.baload, 1) := by decide +kernel
theorem dX4_propose_65 : decode cX4_propose 65 = .ok (.ifCond .ne 12, 3) := by decide +kernel
theorem dX4_propose_68 : decode cX4_propose 68 = .ok (.aload_n 0, 1) := by decide +kernel
theorem dX4_propose_69 : decode cX4_propose 69 = .ok (.getfield 92, 3) := by decide +kernel
theorem dX4_propose_72 : decode cX4_propose 72 = .ok (.bipush 8, 2) := by decide +kernel
theorem dX4_propose_74 : decode cX4_propose 74 = .ok (.if_icmp .ne 9, 3) := by decide +kernel
theorem dX4_propose_77 : decode cX4_propose 77 = .ok (.aload_n 0, 1) := by decide +kernel
theorem dX4_propose_78 : decode cX4_propose 78 = .ok (.iconst 3, 1) := by decide +kernel
theorem dX4_propose_79 : decode cX4_propose 79 = .ok (.invokevirtual 95, 3) := by decide +kernel
theorem dX4_propose_82 : decode cX4_propose 82 = .ok (.ireturn, 1) := by decide +kernel
theorem dX4_propose_83 : decode cX4_propose 83 = .ok (.aload_n 0, 1) := by decide +kernel
theorem dX4_propose_84 : decode cX4_propose 84 = .ok (.getfield 38, 3) := by decide +kernel
theorem dX4_propose_87 : decode cX4_propose 87 = .ok (.aload_n 0, 1) := by decide +kernel
theorem dX4_propose_88 : decode cX4_propose 88 = .ok (.getfield 92, 3) := by decide +kernel
theorem dX4_propose_91 : decode cX4_propose 91 = .ok (.iload_n 1, 1) := by decide +kernel
theorem dX4_propose_92 : decode cX4_propose 92 = .ok (.iastore, 1) := by decide +kernel
theorem dX4_propose_93 : decode cX4_propose 93 = .ok (.aload_n 0, 1) := by decide +kernel
theorem dX4_propose_94 : decode cX4_propose 94 = .ok (.getfield 41, 3) := by decide +kernel
theorem dX4_propose_97 : decode cX4_propose 97 = .ok (.aload_n 0, 1) := by decide +kernel
theorem dX4_propose_98 : decode cX4_propose 98 = .ok (.getfield 92, 3) := by decide +kernel
theorem dX4_propose_101 : decode cX4_propose 101 = .ok (.iload_n 2, 1) := by decide +kernel
theorem dX4_propose_102 : decode cX4_propose 102 = .ok (.iastore, 1) := by decide +kernel
theorem dX4_propose_103 : decode cX4_propose 103 = .ok (.aload_n 0, 1) := by decide +kernel
theorem dX4_propose_104 : decode cX4_propose 104 = .ok (.getfield 44, 3) := by decide +kernel
theorem dX4_propose_107 : decode cX4_propose 107 = .ok (.aload_n 0, 1) := by decide +kernel
theorem dX4_propose_108 : decode cX4_propose 108 = .ok (.getfield 92, 3) := by decide +kernel
theorem dX4_propose_111 : decode cX4_propose 111 = .ok (.iload_n 3, 1) := by decide +kernel
theorem dX4_propose_112 : decode cX4_propose 112 = .ok (.iastore, 1) := by decide +kernel
theorem dX4_propose_113 : decode cX4_propose 113 = .ok (.aload_n 0, 1) := by decide +kernel
theorem dX4_propose_114 : decode cX4_propose 114 = .ok (.getfield 47, 3) := by decide +kernel
theorem dX4_propose_117 : decode cX4_propose 117 = .ok (.aload_n 0, 1) := by decide +kernel
theorem dX4_propose_118 : decode cX4_propose 118 = .ok (.getfield 92, 3) := by decide +kernel
theorem dX4_propose_121 : decode cX4_propose 121 = .ok (.iload 4, 2) := by decide +kernel
theorem dX4_propose_123 : decode cX4_propose 123 = .ok (.iastore, 1) := by decide +kernel
theorem dX4_propose_124 : decode cX4_propose 124 = .ok (.aload_n 0, 1) := by decide +kernel
theorem dX4_propose_125 : decode cX4_propose 125 = .ok (.getfield 50, 3) := by decide +kernel
theorem dX4_propose_128 : decode cX4_propose 128 = .ok (.aload_n 0, 1) := by decide +kernel
theorem dX4_propose_129 : decode cX4_propose 129 = .ok (.getfield 92, 3) := by decide +kernel
theorem dX4_propose_132 : decode cX4_propose 132 = .ok (.iload 5, 2) := by decide +kernel
theorem dX4_propose_134 : decode cX4_propose 134 = .ok (.iastore, 1) := by decide +kernel
theorem dX4_propose_135 : decode cX4_propose 135 = .ok (.aload_n 0, 1) := by decide +kernel
theorem dX4_propose_136 : decode cX4_propose 136 = .ok (.dup, 1) := by decide +kernel
theorem dX4_propose_137 : decode cX4_propose 137 = .ok (.getfield 92, 3) := by decide +kernel
theorem dX4_propose_140 : decode cX4_propose 140 = .ok (.iconst 1, 1) := by decide +kernel
theorem dX4_propose_141 : decode cX4_propose 141 = .ok (.iadd, 1) := by decide +kernel
theorem dX4_propose_142 : decode cX4_propose 142 = .ok (.putfield 92, 3) := by decide +kernel
theorem dX4_propose_145 : decode cX4_propose 145 = .ok (.aload_n 0, 1) := by decide +kernel
theorem dX4_propose_146 : decode cX4_propose 146 = .ok (.aload_n 0, 1) := by decide +kernel
theorem dX4_propose_147 : decode cX4_propose 147 = .ok (.getfield 92, 3) := by decide +kernel
theorem dX4_propose_150 : decode cX4_propose 150 = .ok (.iconst 1, 1) := by decide +kernel
theorem dX4_propose_151 : decode cX4_propose 151 = .ok (.isub, 1) := by decide +kernel
theorem dX4_propose_152 : decode cX4_propose 152 = .ok (.invokevirtual 99, 3) := by decide +kernel
theorem dX4_propose_155 : decode cX4_propose 155 = .ok (.ireturn, 1) := by decide +kernel
theorem dX4_meet_0 : decode cX4_meet 0 = .ok (.aload_n 0, 1) := by decide +kernel
theorem dX4_meet_1 : decode cX4_meet 1 = .ok (.iload_n 1, 1) := by decide +kernel
theorem dX4_meet_2 : decode cX4_meet 2 = .ok (.invokevirtual 102, 3) := by decide +kernel
theorem dX4_meet_5 : decode cX4_meet 5 = .ok (.ifCond .ne 9, 3) := by decide +kernel
theorem dX4_meet_8 : decode cX4_meet 8 = .ok (.aload_n 0, 1) := by decide +kernel
theorem dX4_meet_9 : decode cX4_meet 9 = .ok (.iconst 1, 1) := by decide +kernel
theorem dX4_meet_10 : decode cX4_meet 10 = .ok (.invokevirtual 95, 3) := by decide +kernel
theorem dX4_meet_13 : decode cX4_meet 13 = .ok (.ireturn, 1) := by decide +kernel
theorem dX4_meet_14 : decode cX4_meet 14 = .ok (.aload_n 0, 1) := by decide +kernel
theorem dX4_meet_15 : decode cX4_meet 15 = .ok (.getfield 31, 3) := by decide +kernel
theorem dX4_meet_18 : decode cX4_meet 18 = .ok (.iload_n 1, 1) := by decide +kernel
theorem dX4_meet_19 : decode cX4_meet 19 = .ok (.baload, 1) := by decide +kernel
theorem dX4_meet_20 : decode cX4_meet 20 = .ok (.ifCond .eq 9, 3) := by decide +kernel
theorem dX4_meet_23 : decode cX4_meet 23 = .ok (.aload_n 0, 1) := by decide +kernel
theorem dX4_meet_24 : decode cX4_meet 24 = .ok (.iconst 2, 1) := by decide +kernel
theorem dX4_meet_25 : decode cX4_meet 25 = .ok (.invokevirtual 95, 3) := by decide +kernel
theorem dX4_meet_28 : decode cX4_meet 28 = .ok (.ireturn, 1) := by decide +kernel
theorem dX4_meet_29 : decode cX4_meet 29 = .ok (.aload_n 0, 1) := by decide +kernel
theorem dX4_meet_30 : decode cX4_meet 30 = .ok (.getfield 31, 3) := by decide +kernel
theorem dX4_meet_33 : decode cX4_meet 33 = .ok (.iload_n 1, 1) := by decide +kernel
theorem dX4_meet_34 : decode cX4_meet 34 = .ok (.iconst 1, 1) := by decide +kernel
theorem dX4_meet_35 : decode cX4_meet 35 = .ok (.bastore, 1) := by decide +kernel
theorem dX4_meet_36 : decode cX4_meet 36 = .ok (.aload_n 0, 1) := by decide +kernel
theorem dX4_meet_37 : decode cX4_meet 37 = .ok (.getfield 22, 3) := by decide +kernel
theorem dX4_meet_40 : decode cX4_meet 40 = .ok (.iload_n 1, 1) := by decide +kernel
theorem dX4_meet_41 : decode cX4_meet 41 = .ok (.aload_n 0, 1) := by decide +kernel
theorem dX4_meet_42 : decode cX4_meet 42 = .ok (.getfield 7, 3) := by decide +kernel
theorem dX4_meet_45 : decode cX4_meet 45 = .ok (.iload_n 1, 1) := by decide +kernel
theorem dX4_meet_46 : decode cX4_meet 46 = .ok (.iaload, 1) := by decide +kernel
theorem dX4_meet_47 : decode cX4_meet 47 = .ok (.iastore, 1) := by decide +kernel
theorem dX4_meet_48 : decode cX4_meet 48 = .ok (.bipush 100, 2) := by decide +kernel
theorem dX4_meet_50 : decode cX4_meet 50 = .ok (.istore_n 2, 1) := by decide +kernel
theorem dX4_meet_51 : decode cX4_meet 51 = .ok (.iload_n 2, 1) := by decide +kernel
theorem dX4_meet_52 : decode cX4_meet 52 = .ok (.ifCond .lt 117, 3) := by decide +kernel
theorem dX4_meet_55 : decode cX4_meet 55 = .ok (.iconst 0, 1) := by decide +kernel
theorem dX4_meet_56 : decode cX4_meet 56 = .ok (.istore_n 3, 1) := by decide +kernel
theorem dX4_meet_57 : decode cX4_meet 57 = .ok (.iload_n 3, 1) := by decide +kernel
theorem dX4_meet_58 : decode cX4_meet 58 = .ok (.aload_n 0, 1) := by decide +kernel
theorem dX4_meet_59 : decode cX4_meet 59 = .ok (.getfield 92, 3) := by decide +kernel
theorem dX4_meet_62 : decode cX4_meet 62 = .ok (.if_icmp .ge 101, 3) := by decide +kernel
theorem dX4_meet_65 : decode cX4_meet 65 = .ok (.aload_n 0, 1) := by decide +kernel
theorem dX4_meet_66 : decode cX4_meet 66 = .ok (.getfield 38, 3) := by decide +kernel
theorem dX4_meet_69 : decode cX4_meet 69 = .ok (.iload_n 3, 1) := by decide +kernel
theorem dX4_meet_70 : decode cX4_meet 70 = .ok (.iaload, 1) := by decide +kernel
theorem dX4_meet_71 : decode cX4_meet 71 = .ok (.iload_n 1, 1) := by decide +kernel
theorem dX4_meet_72 : decode cX4_meet 72 = .ok (.if_icmp .ne 85, 3) := by decide +kernel
theorem dX4_meet_75 : decode cX4_meet 75 = .ok (.aload_n 0, 1) := by decide +kernel
theorem dX4_meet_76 : decode cX4_meet 76 = .ok (.getfield 44, 3) := by decide +kernel
theorem dX4_meet_79 : decode cX4_meet 79 = .ok (.iload_n 3, 1) := by decide +kernel
theorem dX4_meet_80 : decode cX4_meet 80 = .ok (.iaload, 1) := by decide +kernel
theorem dX4_meet_81 : decode cX4_meet 81 = .ok (.iload_n 2, 1) := by decide +kernel
theorem dX4_meet_82 : decode cX4_meet 82 = .ok (.if_icmp .ne 75, 3) := by decide +kernel
theorem dX4_meet_85 : decode cX4_meet 85 = .ok (.aload_n 0, 1) := by decide +kernel
theorem dX4_meet_86 : decode cX4_meet 86 = .ok (.getfield 47, 3) := by decide +kernel
theorem dX4_meet_89 : decode cX4_meet 89 = .ok (.iload_n 3, 1) := by decide +kernel
theorem dX4_meet_90 : decode cX4_meet 90 = .ok (.iaload, 1) := by decide +kernel
theorem dX4_meet_91 : decode cX4_meet 91 = .ok (.aload_n 0, 1) := by decide +kernel
theorem dX4_meet_92 : decode cX4_meet 92 = .ok (.getfield 22, 3) := by decide +kernel
theorem dX4_meet_95 : decode cX4_meet 95 = .ok (.iload_n 1, 1) := by decide +kernel
theorem dX4_meet_96 : decode cX4_meet 96 = .ok (.iaload, 1) := by decide +kernel
theorem dX4_meet_97 : decode cX4_meet 97 = .ok (.if_icmp .le 6, 3) := by decide +kernel
theorem dX4_meet_100 : decode cX4_meet 100 = .ok (.goto 57, 3) := by decide +kernel
theorem dX4_meet_103 : decode cX4_meet 103 = .ok (.aload_n 0, 1) := by decide +kernel
theorem dX4_meet_104 : decode cX4_meet 104 = .ok (.getfield 28, 3) := by decide +kernel
theorem dX4_meet_107 : decode cX4_meet 107 = .ok (.bipush 8, 2) := by decide +kernel
theorem dX4_meet_109 : decode cX4_meet 109 = .ok (.iload_n 1, 1) := by decide +kernel
theorem dX4_meet_110 : decode cX4_meet 110 = .ok (.imul, 1) := by decide +kernel
theorem dX4_meet_111 : decode cX4_meet 111 = .ok (.aload_n 0, 1) := by decide +kernel
theorem dX4_meet_112 : decode cX4_meet 112 = .ok (.getfield 25, 3) := by decide +kernel
theorem dX4_meet_115 : decode cX4_meet 115 = .ok (.iload_n 1, 1) := by decide +kernel
theorem dX4_meet_116 : decode cX4_meet 116 = .ok (.iaload, 1) := by decide +kernel
theorem dX4_meet_117 : decode cX4_meet 117 = .ok (.iadd, 1) := by decide +kernel
theorem dX4_meet_118 : decode cX4_meet 118 = .ok (.iload_n 3, 1) := by decide +kernel
theorem dX4_meet_119 : decode cX4_meet 119 = .ok (.iastore, 1) := by decide +kernel
theorem dX4_meet_120 : decode cX4_meet 120 = .ok (.aload_n 0, 1) := by decide +kernel
theorem dX4_meet_121 : decode cX4_meet 121 = .ok (.getfield 25, 3) := by decide +kernel
theorem dX4_meet_124 : decode cX4_meet 124 = .ok (.iload_n 1, 1) := by decide +kernel
theorem dX4_meet_125 : decode cX4_meet 125 = .ok (.dup2, 1) := by decide +kernel
theorem dX4_meet_126 : decode cX4_meet 126 = .ok (.iaload, 1) := by decide +kernel
theorem dX4_meet_127 : decode cX4_meet 127 = .ok (.iconst 1, 1) := by decide +kernel
theorem dX4_meet_128 : decode cX4_meet 128 = .ok (.iadd, 1) := by decide +kernel
theorem dX4_meet_129 : decode cX4_meet 129 = .ok (.iastore, 1) := by decide +kernel
theorem dX4_meet_130 : decode cX4_meet 130 = .ok (.aload_n 0, 1) := by decide +kernel
theorem dX4_meet_131 : decode cX4_meet 131 = .ok (.getfield 53, 3) := by decide +kernel
theorem dX4_meet_134 : decode cX4_meet 134 = .ok (.iload_n 3, 1) := by decide +kernel
theorem dX4_meet_135 : decode cX4_meet 135 = .ok (.aload_n 0, 1) := by decide +kernel
theorem dX4_meet_136 : decode cX4_meet 136 = .ok (.getfield 47, 3) := by decide +kernel
theorem dX4_meet_139 : decode cX4_meet 139 = .ok (.iload_n 3, 1) := by decide +kernel
theorem dX4_meet_140 : decode cX4_meet 140 = .ok (.iaload, 1) := by decide +kernel
theorem dX4_meet_141 : decode cX4_meet 141 = .ok (.iastore, 1) := by decide +kernel
theorem dX4_meet_142 : decode cX4_meet 142 = .ok (.aload_n 0, 1) := by decide +kernel
theorem dX4_meet_143 : decode cX4_meet 143 = .ok (.getfield 22, 3) := by decide +kernel
theorem dX4_meet_146 : decode cX4_meet 146 = .ok (.iload_n 1, 1) := by decide +kernel
theorem dX4_meet_147 : decode cX4_meet 147 = .ok (.dup2, 1) := by decide +kernel
theorem dX4_meet_148 : decode cX4_meet 148 = .ok (.iaload, 1) := by decide +kernel
theorem dX4_meet_149 : decode cX4_meet 149 = .ok (.aload_n 0, 1) := by decide +kernel
theorem dX4_meet_150 : decode cX4_meet 150 = .ok (.getfield 47, 3) := by decide +kernel
theorem dX4_meet_153 : decode cX4_meet 153 = .ok (.iload_n 3, 1) := by decide +kernel
theorem dX4_meet_154 : decode cX4_meet 154 = .ok (.iaload, 1) := by decide +kernel
theorem dX4_meet_155 : decode cX4_meet 155 = .ok (.isub, 1) := by decide +kernel
theorem dX4_meet_156 : decode cX4_meet 156 = .ok (.iastore, 1) := by decide +kernel
theorem dX4_meet_157 : decode cX4_meet 157 = .ok (.iinc 3 1, 3) := by decide +kernel
theorem dX4_meet_160 : decode cX4_meet 160 = .ok (.goto (-103), 3) := by decide +kernel
theorem dX4_meet_163 : decode cX4_meet 163 = .ok (.iinc 2 (-1), 3) := by decide +kernel
theorem dX4_meet_166 : decode cX4_meet 166 = .ok (.goto (-115), 3) := by decide +kernel
theorem dX4_meet_169 : decode cX4_meet 169 = .ok (.aload_n 0, 1) := by decide +kernel
theorem dX4_meet_170 : decode cX4_meet 170 = .ok (.aload_n 0, 1) := by decide +kernel
theorem dX4_meet_171 : decode cX4_meet 171 = .ok (.getfield 25, 3) := by decide +kernel
theorem dX4_meet_174 : decode cX4_meet 174 = .ok (.iload_n 1, 1) := by decide +kernel
theorem dX4_meet_175 : decode cX4_meet 175 = .ok (.iaload, 1) := by decide +kernel
theorem dX4_meet_176 : decode cX4_meet 176 = .ok (.invokevirtual 99, 3) := by decide +kernel
theorem dX4_meet_179 : decode cX4_meet 179 = .ok (.ireturn, 1) := by decide +kernel
theorem dX4_reserve_0 : decode cX4_reserve 0 = .ok (.aload_n 0, 1) := by decide +kernel
theorem dX4_reserve_1 : decode cX4_reserve 1 = .ok (.iload_n 1, 1) := by decide +kernel
theorem dX4_reserve_2 : decode cX4_reserve 2 = .ok (.invokevirtual 102, 3) := by decide +kernel
theorem dX4_reserve_5 : decode cX4_reserve 5 = .ok (.ifCond .ne 9, 3) := by decide +kernel
theorem dX4_reserve_8 : decode cX4_reserve 8 = .ok (.aload_n 0, 1) := by decide +kernel
theorem dX4_reserve_9 : decode cX4_reserve 9 = .ok (.iconst 1, 1) := by decide +kernel
theorem dX4_reserve_10 : decode cX4_reserve 10 = .ok (.invokevirtual 95, 3) := by decide +kernel
theorem dX4_reserve_13 : decode cX4_reserve 13 = .ok (.ireturn, 1) := by decide +kernel
theorem dX4_reserve_14 : decode cX4_reserve 14 = .ok (.aload_n 0, 1) := by decide +kernel
theorem dX4_reserve_15 : decode cX4_reserve 15 = .ok (.getfield 31, 3) := by decide +kernel
theorem dX4_reserve_18 : decode cX4_reserve 18 = .ok (.iload_n 1, 1) := by decide +kernel
theorem dX4_reserve_19 : decode cX4_reserve 19 = .ok (.baload, 1) := by decide +kernel
theorem dX4_reserve_20 : decode cX4_reserve 20 = .ok (.ifCond .eq 16, 3) := by decide +kernel
theorem dX4_reserve_23 : decode cX4_reserve 23 = .ok (.aload_n 0, 1) := by decide +kernel
theorem dX4_reserve_24 : decode cX4_reserve 24 = .ok (.aload_n 0, 1) := by decide +kernel
theorem dX4_reserve_25 : decode cX4_reserve 25 = .ok (.getfield 22, 3) := by decide +kernel
theorem dX4_reserve_28 : decode cX4_reserve 28 = .ok (.iload_n 1, 1) := by decide +kernel
theorem dX4_reserve_29 : decode cX4_reserve 29 = .ok (.iaload, 1) := by decide +kernel
theorem dX4_reserve_30 : decode cX4_reserve 30 = .ok (.invokevirtual 99, 3) := by decide +kernel
theorem dX4_reserve_33 : decode cX4_reserve 33 = .ok (.goto 8, 3) := by decide +kernel
theorem dX4_reserve_36 : decode cX4_reserve 36 = .ok (.aload_n 0, 1) := by decide +kernel
theorem dX4_reserve_37 : decode cX4_reserve 37 = .ok (.iconst 2, 1) := by decide +kernel
theorem dX4_reserve_38 : decode cX4_reserve 38 = .ok (.invokevirtual 95, 3) := by decide +kernel
theorem dX4_reserve_41 : decode cX4_reserve 41 = .ok (.ireturn, 1) := by decide +kernel
theorem dX4_train_0 : decode cX4_train 0 = .ok (.iload_n 1, 1) := by decide +kernel
theorem dX4_train_1 : decode cX4_train 1 = .ok (.invokestatic 106, 3) := by decide +kernel
theorem dX4_train_4 : decode cX4_train 4 = .ok (.ifCond .ne 9, 3) := by decide +kernel
theorem dX4_train_7 : decode cX4_train 7 = .ok (.aload_n 0, 1) := by decide +kernel
theorem dX4_train_8 : decode cX4_train 8 = .ok (.iconst 1, 1) := by decide +kernel
theorem dX4_train_9 : decode cX4_train 9 = .ok (.invokevirtual 95, 3) := by decide +kernel
theorem dX4_train_12 : decode cX4_train 12 = .ok (.ireturn, 1) := by decide +kernel
theorem dX4_train_13 : decode cX4_train 13 = .ok (.aload_n 0, 1) := by decide +kernel
theorem dX4_train_14 : decode cX4_train 14 = .ok (.getfield 75, 3) := by decide +kernel
theorem dX4_train_17 : decode cX4_train 17 = .ok (.iload_n 1, 1) := by decide +kernel
theorem dX4_train_18 : decode cX4_train 18 = .ok (.baload, 1) := by decide +kernel
theorem dX4_train_19 : decode cX4_train 19 = .ok (.ifCond .eq 9, 3) := by decide +kernel
theorem dX4_train_22 : decode cX4_train 22 = .ok (.aload_n 0, 1) := by decide +kernel
theorem dX4_train_23 : decode cX4_train 23 = .ok (.iconst 2, 1) := by decide +kernel
theorem dX4_train_24 : decode cX4_train 24 = .ok (.invokevirtual 95, 3) := by decide +kernel
theorem dX4_train_27 : decode cX4_train 27 = .ok (.ireturn, 1) := by decide +kernel
theorem dX4_train_28 : decode cX4_train 28 = .ok (.aload_n 0, 1) := by decide +kernel
theorem dX4_train_29 : decode cX4_train 29 = .ok (.getfield 75, 3) := by decide +kernel
theorem dX4_train_32 : decode cX4_train 32 = .ok (.iload_n 1, 1) := by decide +kernel
theorem dX4_train_33 : decode cX4_train 33 = .ok (.iconst 1, 1) := by decide +kernel
theorem dX4_train_34 : decode cX4_train 34 = .ok (.bastore, 1) := by decide +kernel
theorem dX4_train_35 : decode cX4_train 35 = .ok (.aload_n 0, 1) := by decide +kernel
theorem dX4_train_36 : decode cX4_train 36 = .ok (.dup, 1) := by decide +kernel
theorem dX4_train_37 : decode cX4_train 37 = .ok (.getfield 109, 3) := by decide +kernel
theorem dX4_train_40 : decode cX4_train 40 = .ok (.iconst 1, 1) := by decide +kernel
theorem dX4_train_41 : decode cX4_train 41 = .ok (.iadd, 1) := by decide +kernel
theorem dX4_train_42 : decode cX4_train 42 = .ok (.putfield 109, 3) := by decide +kernel
theorem dX4_train_45 : decode cX4_train 45 = .ok (.aload_n 0, 1) := by decide +kernel
theorem dX4_train_46 : decode cX4_train 46 = .ok (.aload_n 0, 1) := by decide +kernel
theorem dX4_train_47 : decode cX4_train 47 = .ok (.getfield 109, 3) := by decide +kernel
theorem dX4_train_50 : decode cX4_train 50 = .ok (.invokevirtual 99, 3) := by decide +kernel
theorem dX4_train_53 : decode cX4_train 53 = .ok (.ireturn, 1) := by decide +kernel
theorem dX4_setThere_0 : decode cX4_setThere 0 = .ok (.iload_n 1, 1) := by decide +kernel
theorem dX4_setThere_1 : decode cX4_setThere 1 = .ok (.invokestatic 106, 3) := by decide +kernel
theorem dX4_setThere_4 : decode cX4_setThere 4 = .ok (.ifCond .ne 10, 3) := by decide +kernel
theorem dX4_setThere_7 : decode cX4_setThere 7 = .ok (.aload_n 0, 1) := by decide +kernel
theorem dX4_setThere_8 : decode cX4_setThere 8 = .ok (.iconst 1, 1) := by decide +kernel
theorem dX4_setThere_9 : decode cX4_setThere 9 = .ok (.iconst 0, 1) := by decide +kernel
theorem dX4_setThere_10 : decode cX4_setThere 10 = .ok (.invokevirtual 112, 3) := by decide +kernel
theorem dX4_setThere_13 : decode cX4_setThere 13 = .ok (.ireturn, 1) := by decide +kernel
theorem dX4_setThere_14 : decode cX4_setThere 14 = .ok (.aload_n 0, 1) := by decide +kernel
theorem dX4_setThere_15 : decode cX4_setThere 15 = .ok (.getfield 78, 3) := by decide +kernel
theorem dX4_setThere_18 : decode cX4_setThere 18 = .ok (.iload_n 1, 1) := by decide +kernel
theorem dX4_setThere_19 : decode cX4_setThere 19 = .ok (.baload, 1) := by decide +kernel
theorem dX4_setThere_20 : decode cX4_setThere 20 = .ok (.istore_n 3, 1) := by decide +kernel
theorem dX4_setThere_21 : decode cX4_setThere 21 = .ok (.aload_n 0, 1) := by decide +kernel
theorem dX4_setThere_22 : decode cX4_setThere 22 = .ok (.getfield 78, 3) := by decide +kernel
theorem dX4_setThere_25 : decode cX4_setThere 25 = .ok (.iload_n 1, 1) := by decide +kernel
theorem dX4_setThere_26 : decode cX4_setThere 26 = .ok (.iload_n 2, 1) := by decide +kernel
theorem dX4_setThere_27 : decode cX4_setThere 27 = .ok (.bastore, 1) := by decide +kernel
theorem dX4_setThere_28 : decode cX4_setThere 28 = .ok (.aload_n 0, 1) := by decide +kernel
theorem dX4_setThere_29 : decode cX4_setThere 29 = .ok (.iconst 0, 1) := by decide +kernel
theorem dX4_setThere_30 : decode cX4_setThere 30 = .ok (.iload_n 3, 1) := by decide +kernel
theorem dX4_setThere_31 : decode cX4_setThere 31 = .ok (.invokevirtual 112, 3) := by decide +kernel
theorem dX4_setThere_34 : decode cX4_setThere 34 = .ok (.ireturn, 1) := by decide +kernel
theorem dX4_bring_0 : decode cX4_bring 0 = .ok (.aload_n 0, 1) := by decide +kernel
theorem dX4_bring_1 : decode cX4_bring 1 = .ok (.iload_n 1, 1) := by decide +kernel
theorem dX4_bring_2 : decode cX4_bring 2 = .ok (.invokevirtual 116, 3) := by decide +kernel
theorem dX4_bring_5 : decode cX4_bring 5 = .ok (.ifCond .ne 9, 3) := by decide +kernel
theorem dX4_bring_8 : decode cX4_bring 8 = .ok (.aload_n 0, 1) := by decide +kernel
theorem dX4_bring_9 : decode cX4_bring 9 = .ok (.iconst 1, 1) := by decide +kernel
theorem dX4_bring_10 : decode cX4_bring 10 = .ok (.invokevirtual 95, 3) := by decide +kernel
theorem dX4_bring_13 : decode cX4_bring 13 = .ok (.ireturn, 1) := by decide +kernel
theorem dX4_bring_14 : decode cX4_bring 14 = .ok (.iload_n 2, 1) := by decide +kernel
theorem dX4_bring_15 : decode cX4_bring 15 = .ok (.iconst 1, 1) := by decide +kernel
theorem dX4_bring_16 : decode cX4_bring 16 = .ok (.bipush 50, 2) := by decide +kernel
theorem dX4_bring_18 : decode cX4_bring 18 = .ok (.invokestatic 88, 3) := by decide +kernel
theorem dX4_bring_21 : decode cX4_bring 21 = .ok (.ifCond .ne 9, 3) := by decide +kernel
theorem dX4_bring_24 : decode cX4_bring 24 = .ok (.aload_n 0, 1) := by decide +kernel
theorem dX4_bring_25 : decode cX4_bring 25 = .ok (.iconst 2, 1) := by decide +kernel
theorem dX4_bring_26 : decode cX4_bring 26 = .ok (.invokevirtual 95, 3) := by decide +kernel
theorem dX4_bring_29 : decode cX4_bring 29 = .ok (.ireturn, 1) := by decide +kernel
theorem dX4_bring_30 : decode cX4_bring 30 = .ok (.aload_n 0, 1) := by decide +kernel
theorem dX4_bring_31 : decode cX4_bring 31 = .ok (.getfield 71, 3) := by decide +kernel
theorem dX4_bring_34 : decode cX4_bring 34 = .ok (.iload_n 1, 1) := by decide +kernel
theorem dX4_bring_35 : decode cX4_bring 35 = .ok (.caload, 1) := by decide +kernel
theorem dX4_bring_36 : decode cX4_bring 36 = .ok (.bipush 110, 2) := by decide +kernel
theorem dX4_bring_38 : decode cX4_bring 38 = .ok (.if_icmp .ne 7, 3) := by decide +kernel
theorem dX4_bring_41 : decode cX4_bring 41 = .ok (.iconst (-1), 1) := by decide +kernel
theorem dX4_bring_42 : decode cX4_bring 42 = .ok (.goto 9, 3) := by decide +kernel
theorem dX4_bring_45 : decode cX4_bring 45 = .ok (.aload_n 0, 1) := by decide +kernel
theorem dX4_bring_46 : decode cX4_bring 46 = .ok (.getfield 68, 3) := by decide +kernel
theorem dX4_bring_49 : decode cX4_bring 49 = .ok (.iload_n 1, 1) := by decide +kernel
theorem dX4_bring_50 : decode cX4_bring 50 = .ok (.iaload, 1) := by decide +kernel
theorem dX4_bring_51 : decode cX4_bring 51 = .ok (.istore_n 3, 1) := by decide +kernel
theorem dX4_bring_52 : decode cX4_bring 52 = .ok (.aload_n 0, 1) := by decide +kernel
theorem dX4_bring_53 : decode cX4_bring 53 = .ok (.getfield 71, 3) := by decide +kernel
theorem dX4_bring_56 : decode cX4_bring 56 = .ok (.iload_n 1, 1) := by decide +kernel
theorem dX4_bring_57 : decode cX4_bring 57 = .ok (.bipush 114, 2) := by decide +kernel
theorem dX4_bring_59 : decode cX4_bring 59 = .ok (.castore, 1) := by decide +kernel
theorem dX4_bring_60 : decode cX4_bring 60 = .ok (.aload_n 0, 1) := by decide +kernel
theorem dX4_bring_61 : decode cX4_bring 61 = .ok (.getfield 68, 3) := by decide +kernel
theorem dX4_bring_64 : decode cX4_bring 64 = .ok (.iload_n 1, 1) := by decide +kernel
theorem dX4_bring_65 : decode cX4_bring 65 = .ok (.iload_n 2, 1) := by decide +kernel
theorem dX4_bring_66 : decode cX4_bring 66 = .ok (.iastore, 1) := by decide +kernel
theorem dX4_bring_67 : decode cX4_bring 67 = .ok (.aload_n 0, 1) := by decide +kernel
theorem dX4_bring_68 : decode cX4_bring 68 = .ok (.iload_n 3, 1) := by decide +kernel
theorem dX4_bring_69 : decode cX4_bring 69 = .ok (.invokevirtual 99, 3) := by decide +kernel
theorem dX4_bring_72 : decode cX4_bring 72 = .ok (.ireturn, 1) := by decide +kernel
theorem dX4_cold_0 : decode cX4_cold 0 = .ok (.iconst 0, 1) := by decide +kernel
theorem dX4_cold_1 : decode cX4_cold 1 = .ok (.istore_n 1, 1) := by decide +kernel
theorem dX4_cold_2 : decode cX4_cold 2 = .ok (.iconst 0, 1) := by decide +kernel
theorem dX4_cold_3 : decode cX4_cold 3 = .ok (.istore_n 2, 1) := by decide +kernel
theorem dX4_cold_4 : decode cX4_cold 4 = .ok (.iload_n 2, 1) := by decide +kernel
theorem dX4_cold_5 : decode cX4_cold 5 = .ok (.aload_n 0, 1) := by decide +kernel
theorem dX4_cold_6 : decode cX4_cold 6 = .ok (.getfield 92, 3) := by decide +kernel
theorem dX4_cold_9 : decode cX4_cold 9 = .ok (.if_icmp .ge 28, 3) := by decide +kernel
theorem dX4_cold_12 : decode cX4_cold 12 = .ok (.iload_n 1, 1) := by decide +kernel
theorem dX4_cold_13 : decode cX4_cold 13 = .ok (.aload_n 0, 1) := by decide +kernel
theorem dX4_cold_14 : decode cX4_cold 14 = .ok (.getfield 71, 3) := by decide +kernel
theorem dX4_cold_17 : decode cX4_cold 17 = .ok (.iload_n 2, 1) := by decide +kernel
theorem dX4_cold_18 : decode cX4_cold 18 = .ok (.caload, 1) := by decide +kernel
theorem dX4_cold_19 : decode cX4_cold 19 = .ok (.bipush 99, 2) := by decide +kernel
theorem dX4_cold_21 : decode cX4_cold 21 = .ok (.if_icmp .ne 7, 3) := by decide +kernel
theorem dX4_cold_24 : decode cX4_cold 24 = .ok (.iconst 1, 1) := by decide +kernel
theorem dX4_cold_25 : decode cX4_cold 25 = .ok (.goto 4, 3) := by decide +kernel
theorem dX4_cold_28 : decode cX4_cold 28 = .ok (.iconst 0, 1) := by decide +kernel
theorem dX4_cold_29 : decode cX4_cold 29 = .ok (.iadd, 1) := by decide +kernel
theorem dX4_cold_30 : decode cX4_cold 30 = .ok (.istore_n 1, 1) := by decide +kernel
theorem dX4_cold_31 : decode cX4_cold 31 = .ok (.iinc 2 1, 3) := by decide +kernel
theorem dX4_cold_34 : decode cX4_cold 34 = .ok (.goto (-30), 3) := by decide +kernel
theorem dX4_cold_37 : decode cX4_cold 37 = .ok (.iload_n 1, 1) := by decide +kernel
theorem dX4_cold_38 : decode cX4_cold 38 = .ok (.ireturn, 1) := by decide +kernel
theorem dX4_put_0 : decode cX4_put 0 = .ok (.aload_n 0, 1) := by decide +kernel
theorem dX4_put_1 : decode cX4_put 1 = .ok (.iload_n 1, 1) := by decide +kernel
theorem dX4_put_2 : decode cX4_put 2 = .ok (.invokevirtual 116, 3) := by decide +kernel
theorem dX4_put_5 : decode cX4_put 5 = .ok (.ifCond .eq 12, 3) := by decide +kernel
theorem dX4_put_8 : decode cX4_put 8 = .ok (.aload_n 0, 1) := by decide +kernel
theorem dX4_put_9 : decode cX4_put 9 = .ok (.getfield 71, 3) := by decide +kernel
theorem dX4_put_12 : decode cX4_put 12 = .ok (.iload_n 1, 1) := by decide +kernel
theorem dX4_put_13 : decode cX4_put 13 = .ok (.caload, 1) := by decide +kernel
theorem dX4_put_14 : decode cX4_put 14 = .ok (.goto 5, 3) := by decide +kernel
theorem dX4_put_17 : decode cX4_put 17 = .ok (.bipush 110, 2) := by decide +kernel
theorem dX4_put_19 : decode cX4_put 19 = .ok (.istore_n 3, 1) := by decide +kernel
theorem dX4_put_20 : decode cX4_put 20 = .ok (.aload_n 0, 1) := by decide +kernel
theorem dX4_put_21 : decode cX4_put 21 = .ok (.aload_n 0, 1) := by decide +kernel
theorem dX4_put_22 : decode cX4_put 22 = .ok (.iload_n 1, 1) := by decide +kernel
theorem dX4_put_23 : decode cX4_put 23 = .ok (.invokevirtual 116, 3) := by decide +kernel
theorem dX4_put_26 : decode cX4_put 26 = .ok (.ifCond .ne 7, 3) := by decide +kernel
theorem dX4_put_29 : decode cX4_put 29 = .ok (.iconst 1, 1) := by decide +kernel
theorem dX4_put_30 : decode cX4_put 30 = .ok (.goto 60, 3) := by decide +kernel
theorem dX4_put_33 : decode cX4_put 33 = .ok (.iload_n 2, 1) := by decide +kernel
theorem dX4_put_34 : decode cX4_put 34 = .ok (.bipush 114, 2) := by decide +kernel
theorem dX4_put_36 : decode cX4_put 36 = .ok (.if_icmp .eq 19, 3) := by decide +kernel
theorem dX4_put_39 : decode cX4_put 39 = .ok (.iload_n 2, 1) := by decide +kernel
theorem dX4_put_40 : decode cX4_put 40 = .ok (.bipush 99, 2) := by decide +kernel
theorem dX4_put_42 : decode cX4_put 42 = .ok (.if_icmp .eq 13, 3) := by decide +kernel
theorem dX4_put_45 : decode cX4_put 45 = .ok (.iload_n 2, 1) := by decide +kernel
theorem dX4_put_46 : decode cX4_put 46 = .ok (.bipush 98, 2) := by decide +kernel
theorem dX4_put_48 : decode cX4_put 48 = .ok (.if_icmp .eq 7, 3) := by decide +kernel
theorem dX4_put_51 : decode cX4_put 51 = .ok (.iconst 2, 1) := by decide +kernel
theorem dX4_put_52 : decode cX4_put 52 = .ok (.goto 38, 3) := by decide +kernel
theorem dX4_put_55 : decode cX4_put 55 = .ok (.iload_n 3, 1) := by decide +kernel
theorem dX4_put_56 : decode cX4_put 56 = .ok (.bipush 110, 2) := by decide +kernel
theorem dX4_put_58 : decode cX4_put 58 = .ok (.if_icmp .ne 7, 3) := by decide +kernel
theorem dX4_put_61 : decode cX4_put 61 = .ok (.iconst 3, 1) := by decide +kernel
theorem dX4_put_62 : decode cX4_put 62 = .ok (.goto 28, 3) := by decide +kernel
theorem dX4_put_65 : decode cX4_put 65 = .ok (.iload_n 2, 1) := by decide +kernel
theorem dX4_put_66 : decode cX4_put 66 = .ok (.bipush 99, 2) := by decide +kernel
theorem dX4_put_68 : decode cX4_put 68 = .ok (.if_icmp .ne 21, 3) := by decide +kernel
theorem dX4_put_71 : decode cX4_put 71 = .ok (.iload_n 3, 1) := by decide +kernel
theorem dX4_put_72 : decode cX4_put 72 = .ok (.bipush 99, 2) := by decide +kernel
theorem dX4_put_74 : decode cX4_put 74 = .ok (.if_icmp .eq 15, 3) := by decide +kernel
theorem dX4_put_77 : decode cX4_put 77 = .ok (.aload_n 0, 1) := by decide +kernel
theorem dX4_put_78 : decode cX4_put 78 = .ok (.invokevirtual 119, 3) := by decide +kernel
theorem dX4_put_81 : decode cX4_put 81 = .ok (.iconst 3, 1) := by decide +kernel
theorem dX4_put_82 : decode cX4_put 82 = .ok (.if_icmp .ne 7, 3) := by decide +kernel
theorem dX4_put_85 : decode cX4_put 85 = .ok (.iconst 4, 1) := by decide +kernel
theorem dX4_put_86 : decode cX4_put 86 = .ok (.goto 4, 3) := by decide +kernel
theorem dX4_put_89 : decode cX4_put 89 = .ok (.iconst 0, 1) := by decide +kernel
theorem dX4_put_90 : decode cX4_put 90 = .ok (.putfield 81, 3) := by decide +kernel
theorem dX4_put_93 : decode cX4_put 93 = .ok (.aload_n 0, 1) := by decide +kernel
theorem dX4_put_94 : decode cX4_put 94 = .ok (.getfield 81, 3) := by decide +kernel
theorem dX4_put_97 : decode cX4_put 97 = .ok (.ifCond .le 6, 3) := by decide +kernel
theorem dX4_put_100 : decode cX4_put 100 = .ok (.bipush 97, 2) := by decide +kernel
theorem dX4_put_102 : decode cX4_put 102 = .ok (.ireturn, 1) := by decide +kernel
theorem dX4_put_103 : decode cX4_put 103 = .ok (.aload_n 0, 1) := by decide +kernel
theorem dX4_put_104 : decode cX4_put 104 = .ok (.getfield 71, 3) := by decide +kernel
theorem dX4_put_107 : decode cX4_put 107 = .ok (.iload_n 1, 1) := by decide +kernel
theorem dX4_put_108 : decode cX4_put 108 = .ok (.iload_n 2, 1) := by decide +kernel
theorem dX4_put_109 : decode cX4_put 109 = .ok (.castore, 1) := by decide +kernel
theorem dX4_put_110 : decode cX4_put 110 = .ok (.iload_n 3, 1) := by decide +kernel
theorem dX4_put_111 : decode cX4_put 111 = .ok (.ireturn, 1) := by decide +kernel
theorem dX4_life_0 : decode cX4_life 0 = .ok (.aload_n 0, 1) := by decide +kernel
theorem dX4_life_1 : decode cX4_life 1 = .ok (.iload_n 1, 1) := by decide +kernel
theorem dX4_life_2 : decode cX4_life 2 = .ok (.invokevirtual 116, 3) := by decide +kernel
theorem dX4_life_5 : decode cX4_life 5 = .ok (.ifCond .ne 9, 3) := by decide +kernel
theorem dX4_life_8 : decode cX4_life 8 = .ok (.aload_n 0, 1) := by decide +kernel
theorem dX4_life_9 : decode cX4_life 9 = .ok (.iconst 1, 1) := by decide +kernel
theorem dX4_life_10 : decode cX4_life 10 = .ok (.invokevirtual 95, 3) := by decide +kernel
theorem dX4_life_13 : decode cX4_life 13 = .ok (.ireturn, 1) := by decide +kernel
theorem dX4_life_14 : decode cX4_life 14 = .ok (.aload_n 0, 1) := by decide +kernel
theorem dX4_life_15 : decode cX4_life 15 = .ok (.getfield 71, 3) := by decide +kernel
theorem dX4_life_18 : decode cX4_life 18 = .ok (.iload_n 1, 1) := by decide +kernel
theorem dX4_life_19 : decode cX4_life 19 = .ok (.caload, 1) := by decide +kernel
theorem dX4_life_20 : decode cX4_life 20 = .ok (.bipush 110, 2) := by decide +kernel
theorem dX4_life_22 : decode cX4_life 22 = .ok (.if_icmp .ne 11, 3) := by decide +kernel
theorem dX4_life_25 : decode cX4_life 25 = .ok (.aload_n 0, 1) := by decide +kernel
theorem dX4_life_26 : decode cX4_life 26 = .ok (.iconst 2, 1) := by decide +kernel
theorem dX4_life_27 : decode cX4_life 27 = .ok (.invokevirtual 95, 3) := by decide +kernel
theorem dX4_life_30 : decode cX4_life 30 = .ok (.goto 13, 3) := by decide +kernel
theorem dX4_life_33 : decode cX4_life 33 = .ok (.aload_n 0, 1) := by decide +kernel
theorem dX4_life_34 : decode cX4_life 34 = .ok (.aload_n 0, 1) := by decide +kernel
theorem dX4_life_35 : decode cX4_life 35 = .ok (.getfield 68, 3) := by decide +kernel
theorem dX4_life_38 : decode cX4_life 38 = .ok (.iload_n 1, 1) := by decide +kernel
theorem dX4_life_39 : decode cX4_life 39 = .ok (.iaload, 1) := by decide +kernel
theorem dX4_life_40 : decode cX4_life 40 = .ok (.invokevirtual 99, 3) := by decide +kernel
theorem dX4_life_43 : decode cX4_life 43 = .ok (.ireturn, 1) := by decide +kernel
theorem dX4_isOn_0 : decode cX4_isOn 0 = .ok (.iconst 0, 1) := by decide +kernel
theorem dX4_isOn_1 : decode cX4_isOn 1 = .ok (.istore_n 2, 1) := by decide +kernel
theorem dX4_isOn_2 : decode cX4_isOn 2 = .ok (.iload_n 2, 1) := by decide +kernel
theorem dX4_isOn_3 : decode cX4_isOn 3 = .ok (.aload_n 0, 1) := by decide +kernel
theorem dX4_isOn_4 : decode cX4_isOn 4 = .ok (.getfield 25, 3) := by decide +kernel
theorem dX4_isOn_7 : decode cX4_isOn 7 = .ok (.iload_n 1, 1) := by decide +kernel
theorem dX4_isOn_8 : decode cX4_isOn 8 = .ok (.iaload, 1) := by decide +kernel
theorem dX4_isOn_9 : decode cX4_isOn 9 = .ok (.if_icmp .ge 40, 3) := by decide +kernel
theorem dX4_isOn_12 : decode cX4_isOn 12 = .ok (.aload_n 0, 1) := by decide +kernel
theorem dX4_isOn_13 : decode cX4_isOn 13 = .ok (.getfield 53, 3) := by decide +kernel
theorem dX4_isOn_16 : decode cX4_isOn 16 = .ok (.aload_n 0, 1) := by decide +kernel
theorem dX4_isOn_17 : decode cX4_isOn 17 = .ok (.getfield 28, 3) := by decide +kernel
theorem dX4_isOn_20 : decode cX4_isOn 20 = .ok (.bipush 8, 2) := by decide +kernel
theorem dX4_isOn_22 : decode cX4_isOn 22 = .ok (.iload_n 1, 1) := by decide +kernel
theorem dX4_isOn_23 : decode cX4_isOn 23 = .ok (.imul, 1) := by decide +kernel
theorem dX4_isOn_24 : decode cX4_isOn 24 = .ok (.iload_n 2, 1) := by decide +kernel
theorem dX4_isOn_25 : decode cX4_isOn 25 = .ok (.iadd, 1) := by decide +kernel
theorem dX4_isOn_26 : decode cX4_isOn 26 = .ok (.iaload, 1) := by decide +kernel
theorem dX4_isOn_27 : decode cX4_isOn 27 = .ok (.iaload, 1) := by decide +kernel
theorem dX4_isOn_28 : decode cX4_isOn 28 = .ok (.ifCond .le 15, 3) := by decide +kernel
theorem dX4_isOn_31 : decode cX4_isOn 31 = .ok (.aload_n 0, 1) := by decide +kernel
theorem dX4_isOn_32 : decode cX4_isOn 32 = .ok (.getfield 28, 3) := by decide +kernel
theorem dX4_isOn_35 : decode cX4_isOn 35 = .ok (.bipush 8, 2) := by decide +kernel
theorem dX4_isOn_37 : decode cX4_isOn 37 = .ok (.iload_n 1, 1) := by decide +kernel
theorem dX4_isOn_38 : decode cX4_isOn 38 = .ok (.imul, 1) := by decide +kernel
theorem dX4_isOn_39 : decode cX4_isOn 39 = .ok (.iload_n 2, 1) := by decide +kernel
theorem dX4_isOn_40 : decode cX4_isOn 40 = .ok (.iadd, 1) := by decide +kernel
theorem dX4_isOn_41 : decode cX4_isOn 41 = .ok (.iaload, 1) := by decide +kernel
theorem dX4_isOn_42 : decode cX4_isOn 42 = .ok (.ireturn, 1) := by decide +kernel
theorem dX4_isOn_43 : decode cX4_isOn 43 = .ok (.iinc 2 1, 3) := by decide +kernel
theorem dX4_isOn_46 : decode cX4_isOn 46 = .ok (.goto (-44), 3) := by decide +kernel
theorem dX4_isOn_49 : decode cX4_isOn 49 = .ok (.iconst (-1), 1) := by decide +kernel
theorem dX4_isOn_50 : decode cX4_isOn 50 = .ok (.ireturn, 1) := by decide +kernel
theorem dX4_why_0 : decode cX4_why 0 = .ok (.aload_n 0, 1) := by decide +kernel
theorem dX4_why_1 : decode cX4_why 1 = .ok (.iload_n 1, 1) := by decide +kernel
theorem dX4_why_2 : decode cX4_why 2 = .ok (.invokevirtual 123, 3) := by decide +kernel
theorem dX4_why_5 : decode cX4_why 5 = .ok (.istore_n 2, 1) := by decide +kernel
theorem dX4_why_6 : decode cX4_why 6 = .ok (.iload_n 2, 1) := by decide +kernel
theorem dX4_why_7 : decode cX4_why 7 = .ok (.iconst (-1), 1) := by decide +kernel
theorem dX4_why_8 : decode cX4_why 8 = .ok (.if_icmp .ne 6, 3) := by decide +kernel
theorem dX4_why_11 : decode cX4_why 11 = .ok (.bipush 113, 2) := by decide +kernel
theorem dX4_why_13 : decode cX4_why 13 = .ok (.ireturn, 1) := by decide +kernel
theorem dX4_why_14 : decode cX4_why 14 = .ok (.aload_n 0, 1) := by decide +kernel
theorem dX4_why_15 : decode cX4_why 15 = .ok (.getfield 35, 3) := by decide +kernel
theorem dX4_why_18 : decode cX4_why 18 = .ok (.iload_n 1, 1) := by decide +kernel
theorem dX4_why_19 : decode cX4_why 19 = .ok (.baload, 1) := by decide +kernel
theorem dX4_why_20 : decode cX4_why 20 = .ok (.ifCond .eq 6, 3) := by decide +kernel
theorem dX4_why_23 : decode cX4_why 23 = .ok (.bipush 102, 2) := by decide +kernel
theorem dX4_why_25 : decode cX4_why 25 = .ok (.ireturn, 1) := by decide +kernel
theorem dX4_why_26 : decode cX4_why 26 = .ok (.aload_n 0, 1) := by decide +kernel
theorem dX4_why_27 : decode cX4_why 27 = .ok (.getfield 75, 3) := by decide +kernel
theorem dX4_why_30 : decode cX4_why 30 = .ok (.aload_n 0, 1) := by decide +kernel
theorem dX4_why_31 : decode cX4_why 31 = .ok (.getfield 41, 3) := by decide +kernel
theorem dX4_why_34 : decode cX4_why 34 = .ok (.iload_n 2, 1) := by decide +kernel
theorem dX4_why_35 : decode cX4_why 35 = .ok (.iaload, 1) := by decide +kernel
theorem dX4_why_36 : decode cX4_why 36 = .ok (.baload, 1) := by decide +kernel
theorem dX4_why_37 : decode cX4_why 37 = .ok (.ifCond .ne 6, 3) := by decide +kernel
theorem dX4_why_40 : decode cX4_why 40 = .ok (.bipush 116, 2) := by decide +kernel
theorem dX4_why_42 : decode cX4_why 42 = .ok (.ireturn, 1) := by decide +kernel
theorem dX4_why_43 : decode cX4_why 43 = .ok (.aload_n 0, 1) := by decide +kernel
theorem dX4_why_44 : decode cX4_why 44 = .ok (.getfield 78, 3) := by decide +kernel
theorem dX4_why_47 : decode cX4_why 47 = .ok (.aload_n 0, 1) := by decide +kernel
theorem dX4_why_48 : decode cX4_why 48 = .ok (.getfield 41, 3) := by decide +kernel
theorem dX4_why_51 : decode cX4_why 51 = .ok (.iload_n 2, 1) := by decide +kernel
theorem dX4_why_52 : decode cX4_why 52 = .ok (.iaload, 1) := by decide +kernel
theorem dX4_why_53 : decode cX4_why 53 = .ok (.baload, 1) := by decide +kernel
theorem dX4_why_54 : decode cX4_why 54 = .ok (.ifCond .ne 6, 3) := by decide +kernel
theorem dX4_why_57 : decode cX4_why 57 = .ok (.bipush 112, 2) := by decide +kernel
theorem dX4_why_59 : decode cX4_why 59 = .ok (.ireturn, 1) := by decide +kernel
theorem dX4_why_60 : decode cX4_why 60 = .ok (.aload_n 0, 1) := by decide +kernel
theorem dX4_why_61 : decode cX4_why 61 = .ok (.getfield 71, 3) := by decide +kernel
theorem dX4_why_64 : decode cX4_why 64 = .ok (.iload_n 2, 1) := by decide +kernel
theorem dX4_why_65 : decode cX4_why 65 = .ok (.caload, 1) := by decide +kernel
theorem dX4_why_66 : decode cX4_why 66 = .ok (.bipush 98, 2) := by decide +kernel
theorem dX4_why_68 : decode cX4_why 68 = .ok (.if_icmp .ne 12, 3) := by decide +kernel
theorem dX4_why_71 : decode cX4_why 71 = .ok (.aload_n 0, 1) := by decide +kernel
theorem dX4_why_72 : decode cX4_why 72 = .ok (.getfield 68, 3) := by decide +kernel
theorem dX4_why_75 : decode cX4_why 75 = .ok (.iload_n 2, 1) := by decide +kernel
theorem dX4_why_76 : decode cX4_why 76 = .ok (.iaload, 1) := by decide +kernel
theorem dX4_why_77 : decode cX4_why 77 = .ok (.ifCond .ne 6, 3) := by decide +kernel
theorem dX4_why_80 : decode cX4_why 80 = .ok (.bipush 115, 2) := by decide +kernel
theorem dX4_why_82 : decode cX4_why 82 = .ok (.ireturn, 1) := by decide +kernel
theorem dX4_why_83 : decode cX4_why 83 = .ok (.aload_n 0, 1) := by decide +kernel
theorem dX4_why_84 : decode cX4_why 84 = .ok (.getfield 19, 3) := by decide +kernel
theorem dX4_why_87 : decode cX4_why 87 = .ok (.iload_n 1, 1) := by decide +kernel
theorem dX4_why_88 : decode cX4_why 88 = .ok (.iaload, 1) := by decide +kernel
theorem dX4_why_89 : decode cX4_why 89 = .ok (.aload_n 0, 1) := by decide +kernel
theorem dX4_why_90 : decode cX4_why 90 = .ok (.getfield 50, 3) := by decide +kernel
theorem dX4_why_93 : decode cX4_why 93 = .ok (.iload_n 2, 1) := by decide +kernel
theorem dX4_why_94 : decode cX4_why 94 = .ok (.iaload, 1) := by decide +kernel
theorem dX4_why_95 : decode cX4_why 95 = .ok (.iadd, 1) := by decide +kernel
theorem dX4_why_96 : decode cX4_why 96 = .ok (.aload_n 0, 1) := by decide +kernel
theorem dX4_why_97 : decode cX4_why 97 = .ok (.getfield 13, 3) := by decide +kernel
theorem dX4_why_100 : decode cX4_why 100 = .ok (.iload_n 1, 1) := by decide +kernel
theorem dX4_why_101 : decode cX4_why 101 = .ok (.iaload, 1) := by decide +kernel
theorem dX4_why_102 : decode cX4_why 102 = .ok (.if_icmp .le 8, 3) := by decide +kernel
theorem dX4_why_105 : decode cX4_why 105 = .ok (.bipush 100, 2) := by decide +kernel
theorem dX4_why_107 : decode cX4_why 107 = .ok (.goto 5, 3) := by decide +kernel
theorem dX4_why_110 : decode cX4_why 110 = .ok (.bipush 45, 2) := by decide +kernel
theorem dX4_why_112 : decode cX4_why 112 = .ok (.ireturn, 1) := by decide +kernel
theorem dX4_on_0 : decode cX4_on 0 = .ok (.aload_n 0, 1) := by decide +kernel
theorem dX4_on_1 : decode cX4_on 1 = .ok (.iload_n 1, 1) := by decide +kernel
theorem dX4_on_2 : decode cX4_on 2 = .ok (.invokevirtual 102, 3) := by decide +kernel
theorem dX4_on_5 : decode cX4_on 5 = .ok (.ifCond .ne 9, 3) := by decide +kernel
theorem dX4_on_8 : decode cX4_on 8 = .ok (.aload_n 0, 1) := by decide +kernel
theorem dX4_on_9 : decode cX4_on 9 = .ok (.iconst 1, 1) := by decide +kernel
theorem dX4_on_10 : decode cX4_on 10 = .ok (.invokevirtual 95, 3) := by decide +kernel
theorem dX4_on_13 : decode cX4_on 13 = .ok (.ireturn, 1) := by decide +kernel
theorem dX4_on_14 : decode cX4_on 14 = .ok (.aload_n 0, 1) := by decide +kernel
theorem dX4_on_15 : decode cX4_on 15 = .ok (.iload_n 1, 1) := by decide +kernel
theorem dX4_on_16 : decode cX4_on 16 = .ok (.invokevirtual 123, 3) := by decide +kernel
theorem dX4_on_19 : decode cX4_on 19 = .ok (.iconst (-1), 1) := by decide +kernel
theorem dX4_on_20 : decode cX4_on 20 = .ok (.if_icmp .ne 11, 3) := by decide +kernel
theorem dX4_on_23 : decode cX4_on 23 = .ok (.aload_n 0, 1) := by decide +kernel
theorem dX4_on_24 : decode cX4_on 24 = .ok (.iconst 2, 1) := by decide +kernel
theorem dX4_on_25 : decode cX4_on 25 = .ok (.invokevirtual 95, 3) := by decide +kernel
theorem dX4_on_28 : decode cX4_on 28 = .ok (.goto 12, 3) := by decide +kernel
theorem dX4_on_31 : decode cX4_on 31 = .ok (.aload_n 0, 1) := by decide +kernel
theorem dX4_on_32 : decode cX4_on 32 = .ok (.aload_n 0, 1) := by decide +kernel
theorem dX4_on_33 : decode cX4_on 33 = .ok (.iload_n 1, 1) := by decide +kernel
theorem dX4_on_34 : decode cX4_on 34 = .ok (.invokevirtual 123, 3) := by decide +kernel
theorem dX4_on_37 : decode cX4_on 37 = .ok (.invokevirtual 99, 3) := by decide +kernel
theorem dX4_on_40 : decode cX4_on 40 = .ok (.ireturn, 1) := by decide +kernel
theorem dX4_reason_0 : decode cX4_reason 0 = .ok (.aload_n 0, 1) := by decide +kernel
theorem dX4_reason_1 : decode cX4_reason 1 = .ok (.aload_n 0, 1) := by decide +kernel
theorem dX4_reason_2 : decode cX4_reason 2 = .ok (.iload_n 1, 1) := by decide +kernel
theorem dX4_reason_3 : decode cX4_reason 3 = .ok (.invokevirtual 102, 3) := by decide +kernel
theorem dX4_reason_6 : decode cX4_reason 6 = .ok (.ifCond .eq 7, 3) := by decide +kernel
theorem dX4_reason_9 : decode cX4_reason 9 = .ok (.iconst 0, 1) := by decide +kernel
theorem dX4_reason_10 : decode cX4_reason 10 = .ok (.goto 4, 3) := by decide +kernel
theorem dX4_reason_13 : decode cX4_reason 13 = .ok (.iconst 1, 1) := by decide +kernel
theorem dX4_reason_14 : decode cX4_reason 14 = .ok (.putfield 81, 3) := by decide +kernel
theorem dX4_reason_17 : decode cX4_reason 17 = .ok (.aload_n 0, 1) := by decide +kernel
theorem dX4_reason_18 : decode cX4_reason 18 = .ok (.getfield 81, 3) := by decide +kernel
theorem dX4_reason_21 : decode cX4_reason 21 = .ok (.ifCond .ne 11, 3) := by decide +kernel
theorem dX4_reason_24 : decode cX4_reason 24 = .ok (.aload_n 0, 1) := by decide +kernel
theorem dX4_reason_25 : decode cX4_reason 25 = .ok (.iload_n 1, 1) := by decide +kernel
theorem dX4_reason_26 : decode cX4_reason 26 = .ok (.invokevirtual 126, 3) := by decide +kernel
theorem dX4_reason_29 : decode cX4_reason 29 = .ok (.goto 5, 3) := by decide +kernel
theorem dX4_reason_32 : decode cX4_reason 32 = .ok (.bipush 97, 2) := by decide +kernel
theorem dX4_reason_34 : decode cX4_reason 34 = .ok (.ireturn, 1) := by decide +kernel
theorem dX4_fail_0 : decode cX4_fail 0 = .ok (.aload_n 0, 1) := by decide +kernel
theorem dX4_fail_1 : decode cX4_fail 1 = .ok (.iload_n 1, 1) := by decide +kernel
theorem dX4_fail_2 : decode cX4_fail 2 = .ok (.invokevirtual 102, 3) := by decide +kernel
theorem dX4_fail_5 : decode cX4_fail 5 = .ok (.ifCond .ne 10, 3) := by decide +kernel
theorem dX4_fail_8 : decode cX4_fail 8 = .ok (.aload_n 0, 1) := by decide +kernel
theorem dX4_fail_9 : decode cX4_fail 9 = .ok (.iconst 1, 1) := by decide +kernel
theorem dX4_fail_10 : decode cX4_fail 10 = .ok (.iconst 0, 1) := by decide +kernel
theorem dX4_fail_11 : decode cX4_fail 11 = .ok (.invokevirtual 112, 3) := by decide +kernel
theorem dX4_fail_14 : decode cX4_fail 14 = .ok (.ireturn, 1) := by decide +kernel
theorem dX4_fail_15 : decode cX4_fail 15 = .ok (.aload_n 0, 1) := by decide +kernel
theorem dX4_fail_16 : decode cX4_fail 16 = .ok (.getfield 35, 3) := by decide +kernel
theorem dX4_fail_19 : decode cX4_fail 19 = .ok (.iload_n 1, 1) := by decide +kernel
theorem dX4_fail_20 : decode cX4_fail 20 = .ok (.baload, 1) := by decide +kernel
theorem dX4_fail_21 : decode cX4_fail 21 = .ok (.ifCond .eq 10, 3) := by decide +kernel
theorem dX4_fail_24 : decode cX4_fail 24 = .ok (.aload_n 0, 1) := by decide +kernel
theorem dX4_fail_25 : decode cX4_fail 25 = .ok (.iconst 2, 1) := by decide +kernel
theorem dX4_fail_26 : decode cX4_fail 26 = .ok (.iconst 0, 1) := by decide +kernel
theorem dX4_fail_27 : decode cX4_fail 27 = .ok (.invokevirtual 112, 3) := by decide +kernel
theorem dX4_fail_30 : decode cX4_fail 30 = .ok (.ireturn, 1) := by decide +kernel
theorem dX4_fail_31 : decode cX4_fail 31 = .ok (.aload_n 0, 1) := by decide +kernel
theorem dX4_fail_32 : decode cX4_fail 32 = .ok (.getfield 35, 3) := by decide +kernel
theorem dX4_fail_35 : decode cX4_fail 35 = .ok (.iload_n 1, 1) := by decide +kernel
theorem dX4_fail_36 : decode cX4_fail 36 = .ok (.iconst 1, 1) := by decide +kernel
theorem dX4_fail_37 : decode cX4_fail 37 = .ok (.bastore, 1) := by decide +kernel
theorem dX4_fail_38 : decode cX4_fail 38 = .ok (.aload_n 0, 1) := by decide +kernel
theorem dX4_fail_39 : decode cX4_fail 39 = .ok (.iconst 0, 1) := by decide +kernel
theorem dX4_fail_40 : decode cX4_fail 40 = .ok (.aload_n 0, 1) := by decide +kernel
theorem dX4_fail_41 : decode cX4_fail 41 = .ok (.iload_n 1, 1) := by decide +kernel
theorem dX4_fail_42 : decode cX4_fail 42 = .ok (.invokevirtual 123, 3) := by decide +kernel
theorem dX4_fail_45 : decode cX4_fail 45 = .ok (.iconst (-1), 1) := by decide +kernel
theorem dX4_fail_46 : decode cX4_fail 46 = .ok (.if_icmp .eq 7, 3) := by decide +kernel
theorem dX4_fail_49 : decode cX4_fail 49 = .ok (.iconst 1, 1) := by decide +kernel
theorem dX4_fail_50 : decode cX4_fail 50 = .ok (.goto 4, 3) := by decide +kernel
theorem dX4_fail_53 : decode cX4_fail 53 = .ok (.iconst 0, 1) := by decide +kernel
theorem dX4_fail_54 : decode cX4_fail 54 = .ok (.invokevirtual 112, 3) := by decide +kernel
theorem dX4_fail_57 : decode cX4_fail 57 = .ok (.ireturn, 1) := by decide +kernel
theorem dX4_loses_0 : decode cX4_loses 0 = .ok (.aload_n 0, 1) := by decide +kernel
theorem dX4_loses_1 : decode cX4_loses 1 = .ok (.getfield 62, 3) := by decide +kernel
theorem dX4_loses_4 : decode cX4_loses 4 = .ok (.iload_n 2, 1) := by decide +kernel
theorem dX4_loses_5 : decode cX4_loses 5 = .ok (.dup2, 1) := by decide +kernel
theorem dX4_loses_6 : decode cX4_loses 6 = .ok (.iaload, 1) := by decide +kernel
theorem dX4_loses_7 : decode cX4_loses 7 = .ok (.iconst 1, 1) := by decide +kernel
theorem dX4_loses_8 : decode cX4_loses 8 = .ok (.iadd, 1) := by decide +kernel
theorem dX4_loses_9 : decode cX4_loses 9 = .ok (.iastore, 1) := by decide +kernel
theorem dX4_loses_10 : decode cX4_loses 10 = .ok (.aload_n 0, 1) := by decide +kernel
theorem dX4_loses_11 : decode cX4_loses 11 = .ok (.getfield 22, 3) := by decide +kernel
theorem dX4_loses_14 : decode cX4_loses 14 = .ok (.iload_n 1, 1) := by decide +kernel
theorem dX4_loses_15 : decode cX4_loses 15 = .ok (.iaload, 1) := by decide +kernel
theorem dX4_loses_16 : decode cX4_loses 16 = .ok (.ifCond .le 14, 3) := by decide +kernel
theorem dX4_loses_19 : decode cX4_loses 19 = .ok (.aload_n 0, 1) := by decide +kernel
theorem dX4_loses_20 : decode cX4_loses 20 = .ok (.getfield 22, 3) := by decide +kernel
theorem dX4_loses_23 : decode cX4_loses 23 = .ok (.iload_n 1, 1) := by decide +kernel
theorem dX4_loses_24 : decode cX4_loses 24 = .ok (.dup2, 1) := by decide +kernel
theorem dX4_loses_25 : decode cX4_loses 25 = .ok (.iaload, 1) := by decide +kernel
theorem dX4_loses_26 : decode cX4_loses 26 = .ok (.iconst 1, 1) := by decide +kernel
theorem dX4_loses_27 : decode cX4_loses 27 = .ok (.isub, 1) := by decide +kernel
theorem dX4_loses_28 : decode cX4_loses 28 = .ok (.iastore, 1) := by decide +kernel
theorem dX4_loses_29 : decode cX4_loses 29 = .ok (.return_, 1) := by decide +kernel
theorem dX4_loses_30 : decode cX4_loses 30 = .ok (.aload_n 0, 1) := by decide +kernel
theorem dX4_loses_31 : decode cX4_loses 31 = .ok (.getfield 25, 3) := by decide +kernel
theorem dX4_loses_34 : decode cX4_loses 34 = .ok (.iload_n 1, 1) := by decide +kernel
theorem dX4_loses_35 : decode cX4_loses 35 = .ok (.iaload, 1) := by decide +kernel
theorem dX4_loses_36 : decode cX4_loses 36 = .ok (.iconst 1, 1) := by decide +kernel
theorem dX4_loses_37 : decode cX4_loses 37 = .ok (.isub, 1) := by decide +kernel
theorem dX4_loses_38 : decode cX4_loses 38 = .ok (.istore_n 3, 1) := by decide +kernel
theorem dX4_loses_39 : decode cX4_loses 39 = .ok (.iload_n 3, 1) := by decide +kernel
theorem dX4_loses_40 : decode cX4_loses 40 = .ok (.ifCond .lt 58, 3) := by decide +kernel
theorem dX4_loses_43 : decode cX4_loses 43 = .ok (.aload_n 0, 1) := by decide +kernel
theorem dX4_loses_44 : decode cX4_loses 44 = .ok (.getfield 28, 3) := by decide +kernel
theorem dX4_loses_47 : decode cX4_loses 47 = .ok (.bipush 8, 2) := by decide +kernel
theorem dX4_loses_49 : decode cX4_loses 49 = .ok (.iload_n 1, 1) := by decide +kernel
theorem dX4_loses_50 : decode cX4_loses 50 = .ok (.imul, 1) := by decide +kernel
theorem dX4_loses_51 : decode cX4_loses 51 = .ok (.iload_n 3, 1) := by decide +kernel
theorem dX4_loses_52 : decode cX4_loses 52 = .ok (.iadd, 1) := by decide +kernel
theorem dX4_loses_53 : decode cX4_loses 53 = .ok (.iaload, 1) := by decide +kernel
theorem dX4_loses_54 : decode cX4_loses 54 = .ok (.istore 4, 2) := by decide +kernel
theorem dX4_loses_56 : decode cX4_loses 56 = .ok (.aload_n 0, 1) := by decide +kernel
theorem dX4_loses_57 : decode cX4_loses 57 = .ok (.getfield 53, 3) := by decide +kernel
theorem dX4_loses_60 : decode cX4_loses 60 = .ok (.iload 4, 2) := by decide +kernel
theorem dX4_loses_62 : decode cX4_loses 62 = .ok (.iaload, 1) := by decide +kernel
theorem dX4_loses_63 : decode cX4_loses 63 = .ok (.ifCond .ne 6, 3) := by decide +kernel
theorem dX4_loses_66 : decode cX4_loses 66 = .ok (.goto 26, 3) := by decide +kernel
theorem dX4_loses_69 : decode cX4_loses 69 = .ok (.aload_n 0, 1) := by decide +kernel
theorem dX4_loses_70 : decode cX4_loses 70 = .ok (.getfield 53, 3) := by decide +kernel
theorem dX4_loses_73 : decode cX4_loses 73 = .ok (.iload 4, 2) := by decide +kernel
theorem dX4_loses_75 : decode cX4_loses 75 = .ok (.dup2, 1) := by decide +kernel
theorem dX4_loses_76 : decode cX4_loses 76 = .ok (.iaload, 1) := by decide +kernel
theorem dX4_loses_77 : decode cX4_loses 77 = .ok (.iconst 1, 1) := by decide +kernel
theorem dX4_loses_78 : decode cX4_loses 78 = .ok (.isub, 1) := by decide +kernel
theorem dX4_loses_79 : decode cX4_loses 79 = .ok (.iastore, 1) := by decide +kernel
theorem dX4_loses_80 : decode cX4_loses 80 = .ok (.aload_n 0, 1) := by decide +kernel
theorem dX4_loses_81 : decode cX4_loses 81 = .ok (.getfield 65, 3) := by decide +kernel
theorem dX4_loses_84 : decode cX4_loses 84 = .ok (.iload 4, 2) := by decide +kernel
theorem dX4_loses_86 : decode cX4_loses 86 = .ok (.dup2, 1) := by decide +kernel
theorem dX4_loses_87 : decode cX4_loses 87 = .ok (.iaload, 1) := by decide +kernel
theorem dX4_loses_88 : decode cX4_loses 88 = .ok (.iconst 1, 1) := by decide +kernel
theorem dX4_loses_89 : decode cX4_loses 89 = .ok (.iadd, 1) := by decide +kernel
theorem dX4_loses_90 : decode cX4_loses 90 = .ok (.iastore, 1) := by decide +kernel
theorem dX4_loses_91 : decode cX4_loses 91 = .ok (.return_, 1) := by decide +kernel
theorem dX4_loses_92 : decode cX4_loses 92 = .ok (.iinc 3 (-1), 3) := by decide +kernel
theorem dX4_loses_95 : decode cX4_loses 95 = .ok (.goto (-56), 3) := by decide +kernel
theorem dX4_loses_98 : decode cX4_loses 98 = .ok (.return_, 1) := by decide +kernel
theorem dX4_shift_0 : decode cX4_shift 0 = .ok (.aload_n 0, 1) := by decide +kernel
theorem dX4_shift_1 : decode cX4_shift 1 = .ok (.iload_n 1, 1) := by decide +kernel
theorem dX4_shift_2 : decode cX4_shift 2 = .ok (.invokevirtual 123, 3) := by decide +kernel
theorem dX4_shift_5 : decode cX4_shift 5 = .ok (.istore_n 2, 1) := by decide +kernel
theorem dX4_shift_6 : decode cX4_shift 6 = .ok (.aload_n 0, 1) := by decide +kernel
theorem dX4_shift_7 : decode cX4_shift 7 = .ok (.iload_n 1, 1) := by decide +kernel
theorem dX4_shift_8 : decode cX4_shift 8 = .ok (.invokevirtual 126, 3) := by decide +kernel
theorem dX4_shift_11 : decode cX4_shift 11 = .ok (.istore_n 3, 1) := by decide +kernel
theorem dX4_shift_12 : decode cX4_shift 12 = .ok (.iload_n 3, 1) := by decide +kernel
theorem dX4_shift_13 : decode cX4_shift 13 = .ok (.bipush 45, 2) := by decide +kernel
theorem dX4_shift_15 : decode cX4_shift 15 = .ok (.if_icmp .ne 41, 3) := by decide +kernel
theorem dX4_shift_18 : decode cX4_shift 18 = .ok (.aload_n 0, 1) := by decide +kernel
theorem dX4_shift_19 : decode cX4_shift 19 = .ok (.getfield 53, 3) := by decide +kernel
theorem dX4_shift_22 : decode cX4_shift 22 = .ok (.iload_n 2, 1) := by decide +kernel
theorem dX4_shift_23 : decode cX4_shift 23 = .ok (.dup2, 1) := by decide +kernel
theorem dX4_shift_24 : decode cX4_shift 24 = .ok (.iaload, 1) := by decide +kernel
theorem dX4_shift_25 : decode cX4_shift 25 = .ok (.iconst 1, 1) := by decide +kernel
theorem dX4_shift_26 : decode cX4_shift 26 = .ok (.isub, 1) := by decide +kernel
theorem dX4_shift_27 : decode cX4_shift 27 = .ok (.iastore, 1) := by decide +kernel
theorem dX4_shift_28 : decode cX4_shift 28 = .ok (.aload_n 0, 1) := by decide +kernel
theorem dX4_shift_29 : decode cX4_shift 29 = .ok (.getfield 56, 3) := by decide +kernel
theorem dX4_shift_32 : decode cX4_shift 32 = .ok (.iload_n 2, 1) := by decide +kernel
theorem dX4_shift_33 : decode cX4_shift 33 = .ok (.dup2, 1) := by decide +kernel
theorem dX4_shift_34 : decode cX4_shift 34 = .ok (.iaload, 1) := by decide +kernel
theorem dX4_shift_35 : decode cX4_shift 35 = .ok (.iconst 1, 1) := by decide +kernel
theorem dX4_shift_36 : decode cX4_shift 36 = .ok (.iadd, 1) := by decide +kernel
theorem dX4_shift_37 : decode cX4_shift 37 = .ok (.iastore, 1) := by decide +kernel
theorem dX4_shift_38 : decode cX4_shift 38 = .ok (.aload_n 0, 1) := by decide +kernel
theorem dX4_shift_39 : decode cX4_shift 39 = .ok (.getfield 19, 3) := by decide +kernel
theorem dX4_shift_42 : decode cX4_shift 42 = .ok (.iload_n 1, 1) := by decide +kernel
theorem dX4_shift_43 : decode cX4_shift 43 = .ok (.dup2, 1) := by decide +kernel
theorem dX4_shift_44 : decode cX4_shift 44 = .ok (.iaload, 1) := by decide +kernel
theorem dX4_shift_45 : decode cX4_shift 45 = .ok (.aload_n 0, 1) := by decide +kernel
theorem dX4_shift_46 : decode cX4_shift 46 = .ok (.getfield 50, 3) := by decide +kernel
theorem dX4_shift_49 : decode cX4_shift 49 = .ok (.iload_n 2, 1) := by decide +kernel
theorem dX4_shift_50 : decode cX4_shift 50 = .ok (.iaload, 1) := by decide +kernel
theorem dX4_shift_51 : decode cX4_shift 51 = .ok (.iadd, 1) := by decide +kernel
theorem dX4_shift_52 : decode cX4_shift 52 = .ok (.iastore, 1) := by decide +kernel
theorem dX4_shift_53 : decode cX4_shift 53 = .ok (.goto 44, 3) := by decide +kernel
theorem dX4_shift_56 : decode cX4_shift 56 = .ok (.iload_n 3, 1) := by decide +kernel
theorem dX4_shift_57 : decode cX4_shift 57 = .ok (.bipush 102, 2) := by decide +kernel
theorem dX4_shift_59 : decode cX4_shift 59 = .ok (.if_icmp .ne 12, 3) := by decide +kernel
theorem dX4_shift_62 : decode cX4_shift 62 = .ok (.aload_n 0, 1) := by decide +kernel
theorem dX4_shift_63 : decode cX4_shift 63 = .ok (.iload_n 1, 1) := by decide +kernel
theorem dX4_shift_64 : decode cX4_shift 64 = .ok (.iload_n 2, 1) := by decide +kernel
theorem dX4_shift_65 : decode cX4_shift 65 = .ok (.invokevirtual 130, 3) := by decide +kernel
theorem dX4_shift_68 : decode cX4_shift 68 = .ok (.goto 29, 3) := by decide +kernel
theorem dX4_shift_71 : decode cX4_shift 71 = .ok (.iload_n 3, 1) := by decide +kernel
theorem dX4_shift_72 : decode cX4_shift 72 = .ok (.bipush 113, 2) := by decide +kernel
theorem dX4_shift_74 : decode cX4_shift 74 = .ok (.if_icmp .eq 23, 3) := by decide +kernel
theorem dX4_shift_77 : decode cX4_shift 77 = .ok (.aload_n 0, 1) := by decide +kernel
theorem dX4_shift_78 : decode cX4_shift 78 = .ok (.getfield 53, 3) := by decide +kernel
theorem dX4_shift_81 : decode cX4_shift 81 = .ok (.iload_n 2, 1) := by decide +kernel
theorem dX4_shift_82 : decode cX4_shift 82 = .ok (.dup2, 1) := by decide +kernel
theorem dX4_shift_83 : decode cX4_shift 83 = .ok (.iaload, 1) := by decide +kernel
theorem dX4_shift_84 : decode cX4_shift 84 = .ok (.iconst 1, 1) := by decide +kernel
theorem dX4_shift_85 : decode cX4_shift 85 = .ok (.isub, 1) := by decide +kernel
theorem dX4_shift_86 : decode cX4_shift 86 = .ok (.iastore, 1) := by decide +kernel
theorem dX4_shift_87 : decode cX4_shift 87 = .ok (.aload_n 0, 1) := by decide +kernel
theorem dX4_shift_88 : decode cX4_shift 88 = .ok (.getfield 59, 3) := by decide +kernel
theorem dX4_shift_91 : decode cX4_shift 91 = .ok (.iload_n 2, 1) := by decide +kernel
theorem dX4_shift_92 : decode cX4_shift 92 = .ok (.dup2, 1) := by decide +kernel
theorem dX4_shift_93 : decode cX4_shift 93 = .ok (.iaload, 1) := by decide +kernel
theorem dX4_shift_94 : decode cX4_shift 94 = .ok (.iconst 1, 1) := by decide +kernel
theorem dX4_shift_95 : decode cX4_shift 95 = .ok (.iadd, 1) := by decide +kernel
theorem dX4_shift_96 : decode cX4_shift 96 = .ok (.iastore, 1) := by decide +kernel
theorem dX4_shift_97 : decode cX4_shift 97 = .ok (.aload_n 0, 1) := by decide +kernel
theorem dX4_shift_98 : decode cX4_shift 98 = .ok (.getfield 19, 3) := by decide +kernel
theorem dX4_shift_101 : decode cX4_shift 101 = .ok (.iload_n 1, 1) := by decide +kernel
theorem dX4_shift_102 : decode cX4_shift 102 = .ok (.aload_n 0, 1) := by decide +kernel
theorem dX4_shift_103 : decode cX4_shift 103 = .ok (.getfield 19, 3) := by decide +kernel
theorem dX4_shift_106 : decode cX4_shift 106 = .ok (.iload_n 1, 1) := by decide +kernel
theorem dX4_shift_107 : decode cX4_shift 107 = .ok (.iaload, 1) := by decide +kernel
theorem dX4_shift_108 : decode cX4_shift 108 = .ok (.aload_n 0, 1) := by decide +kernel
theorem dX4_shift_109 : decode cX4_shift 109 = .ok (.getfield 16, 3) := by decide +kernel
theorem dX4_shift_112 : decode cX4_shift 112 = .ok (.iload_n 1, 1) := by decide +kernel
theorem dX4_shift_113 : decode cX4_shift 113 = .ok (.iaload, 1) := by decide +kernel
theorem dX4_shift_114 : decode cX4_shift 114 = .ok (.if_icmp .le 19, 3) := by decide +kernel
theorem dX4_shift_117 : decode cX4_shift 117 = .ok (.aload_n 0, 1) := by decide +kernel
theorem dX4_shift_118 : decode cX4_shift 118 = .ok (.getfield 19, 3) := by decide +kernel
theorem dX4_shift_121 : decode cX4_shift 121 = .ok (.iload_n 1, 1) := by decide +kernel
theorem dX4_shift_122 : decode cX4_shift 122 = .ok (.iaload, 1) := by decide +kernel
theorem dX4_shift_123 : decode cX4_shift 123 = .ok (.aload_n 0, 1) := by decide +kernel
theorem dX4_shift_124 : decode cX4_shift 124 = .ok (.getfield 16, 3) := by decide +kernel
theorem dX4_shift_127 : decode cX4_shift 127 = .ok (.iload_n 1, 1) := by decide +kernel
theorem dX4_shift_128 : decode cX4_shift 128 = .ok (.iaload, 1) := by decide +kernel
theorem dX4_shift_129 : decode cX4_shift 129 = .ok (.isub, 1) := by decide +kernel
theorem dX4_shift_130 : decode cX4_shift 130 = .ok (.goto 4, 3) := by decide +kernel
theorem dX4_shift_133 : decode cX4_shift 133 = .ok (.iconst 0, 1) := by decide +kernel
theorem dX4_shift_134 : decode cX4_shift 134 = .ok (.iastore, 1) := by decide +kernel
theorem dX4_shift_135 : decode cX4_shift 135 = .ok (.aload_n 0, 1) := by decide +kernel
theorem dX4_shift_136 : decode cX4_shift 136 = .ok (.getfield 35, 3) := by decide +kernel
theorem dX4_shift_139 : decode cX4_shift 139 = .ok (.iload_n 1, 1) := by decide +kernel
theorem dX4_shift_140 : decode cX4_shift 140 = .ok (.iconst 0, 1) := by decide +kernel
theorem dX4_shift_141 : decode cX4_shift 141 = .ok (.bastore, 1) := by decide +kernel
theorem dX4_shift_142 : decode cX4_shift 142 = .ok (.iload_n 3, 1) := by decide +kernel
theorem dX4_shift_143 : decode cX4_shift 143 = .ok (.bipush 45, 2) := by decide +kernel
theorem dX4_shift_145 : decode cX4_shift 145 = .ok (.if_icmp .ne 7, 3) := by decide +kernel
theorem dX4_shift_148 : decode cX4_shift 148 = .ok (.iconst 1, 1) := by decide +kernel
theorem dX4_shift_149 : decode cX4_shift 149 = .ok (.goto 4, 3) := by decide +kernel
theorem dX4_shift_152 : decode cX4_shift 152 = .ok (.iconst 0, 1) := by decide +kernel
theorem dX4_shift_153 : decode cX4_shift 153 = .ok (.ireturn, 1) := by decide +kernel
theorem dX4_pass_0 : decode cX4_pass 0 = .ok (.iload_n 1, 1) := by decide +kernel
theorem dX4_pass_1 : decode cX4_pass 1 = .ok (.iconst 1, 1) := by decide +kernel
theorem dX4_pass_2 : decode cX4_pass 2 = .ok (.bipush 20, 2) := by decide +kernel
theorem dX4_pass_4 : decode cX4_pass 4 = .ok (.invokestatic 88, 3) := by decide +kernel
theorem dX4_pass_7 : decode cX4_pass 7 = .ok (.ifCond .ne 9, 3) := by decide +kernel
theorem dX4_pass_10 : decode cX4_pass 10 = .ok (.aload_n 0, 1) := by decide +kernel
theorem dX4_pass_11 : decode cX4_pass 11 = .ok (.iconst 1, 1) := by decide +kernel
theorem dX4_pass_12 : decode cX4_pass 12 = .ok (.invokevirtual 95, 3) := by decide +kernel
theorem dX4_pass_15 : decode cX4_pass 15 = .ok (.ireturn, 1) := by decide +kernel
theorem dX4_pass_16 : decode cX4_pass 16 = .ok (.aload_n 0, 1) := by decide +kernel
theorem dX4_pass_17 : decode cX4_pass 17 = .ok (.getfield 134, 3) := by decide +kernel
theorem dX4_pass_20 : decode cX4_pass 20 = .ok (.iload_n 1, 1) := by decide +kernel
theorem dX4_pass_21 : decode cX4_pass 21 = .ok (.iadd, 1) := by decide +kernel
theorem dX4_pass_22 : decode cX4_pass 22 = .ok (.sipush 200, 3) := by decide +kernel
theorem dX4_pass_25 : decode cX4_pass 25 = .ok (.if_icmp .le 9, 3) := by decide +kernel
theorem dX4_pass_28 : decode cX4_pass 28 = .ok (.aload_n 0, 1) := by decide +kernel
theorem dX4_pass_29 : decode cX4_pass 29 = .ok (.iconst 2, 1) := by decide +kernel
theorem dX4_pass_30 : decode cX4_pass 30 = .ok (.invokevirtual 95, 3) := by decide +kernel
theorem dX4_pass_33 : decode cX4_pass 33 = .ok (.ireturn, 1) := by decide +kernel
theorem dX4_pass_34 : decode cX4_pass 34 = .ok (.iconst 0, 1) := by decide +kernel
theorem dX4_pass_35 : decode cX4_pass 35 = .ok (.istore_n 2, 1) := by decide +kernel
theorem dX4_pass_36 : decode cX4_pass 36 = .ok (.iconst 0, 1) := by decide +kernel
theorem dX4_pass_37 : decode cX4_pass 37 = .ok (.istore_n 3, 1) := by decide +kernel
theorem dX4_pass_38 : decode cX4_pass 38 = .ok (.iload_n 3, 1) := by decide +kernel
theorem dX4_pass_39 : decode cX4_pass 39 = .ok (.iload_n 1, 1) := by decide +kernel
theorem dX4_pass_40 : decode cX4_pass 40 = .ok (.if_icmp .ge 113, 3) := by decide +kernel
theorem dX4_pass_43 : decode cX4_pass 43 = .ok (.iconst 0, 1) := by decide +kernel
theorem dX4_pass_44 : decode cX4_pass 44 = .ok (.istore 4, 2) := by decide +kernel
theorem dX4_pass_46 : decode cX4_pass 46 = .ok (.iload 4, 2) := by decide +kernel
theorem dX4_pass_48 : decode cX4_pass 48 = .ok (.aload_n 0, 1) := by decide +kernel
theorem dX4_pass_49 : decode cX4_pass 49 = .ok (.getfield 85, 3) := by decide +kernel
theorem dX4_pass_52 : decode cX4_pass 52 = .ok (.if_icmp .ge 18, 3) := by decide +kernel
theorem dX4_pass_55 : decode cX4_pass 55 = .ok (.iload_n 2, 1) := by decide +kernel
theorem dX4_pass_56 : decode cX4_pass 56 = .ok (.aload_n 0, 1) := by decide +kernel
theorem dX4_pass_57 : decode cX4_pass 57 = .ok (.iload 4, 2) := by decide +kernel
theorem dX4_pass_59 : decode cX4_pass 59 = .ok (.invokevirtual 137, 3) := by decide +kernel
theorem dX4_pass_62 : decode cX4_pass 62 = .ok (.iadd, 1) := by decide +kernel
theorem dX4_pass_63 : decode cX4_pass 63 = .ok (.istore_n 2, 1) := by decide +kernel
theorem dX4_pass_64 : decode cX4_pass 64 = .ok (.iinc 4 1, 3) := by decide +kernel
theorem dX4_pass_67 : decode cX4_pass 67 = .ok (.goto (-21), 3) := by decide +kernel
theorem dX4_pass_70 : decode cX4_pass 70 = .ok (.iconst 0, 1) := by decide +kernel
theorem dX4_pass_71 : decode cX4_pass 71 = .ok (.istore 4, 2) := by decide +kernel
theorem dX4_pass_73 : decode cX4_pass 73 = .ok (.iload 4, 2) := by decide +kernel
theorem dX4_pass_75 : decode cX4_pass 75 = .ok (.aload_n 0, 1) := by decide +kernel
theorem dX4_pass_76 : decode cX4_pass 76 = .ok (.getfield 92, 3) := by decide +kernel
theorem dX4_pass_79 : decode cX4_pass 79 = .ok (.if_icmp .ge 58, 3) := by decide +kernel
theorem dX4_pass_82 : decode cX4_pass 82 = .ok (.aload_n 0, 1) := by decide +kernel
theorem dX4_pass_83 : decode cX4_pass 83 = .ok (.getfield 68, 3) := by decide +kernel
theorem dX4_pass_86 : decode cX4_pass 86 = .ok (.iload 4, 2) := by decide +kernel
theorem dX4_pass_88 : decode cX4_pass 88 = .ok (.dup2, 1) := by decide +kernel
theorem dX4_pass_89 : decode cX4_pass 89 = .ok (.iaload, 1) := by decide +kernel
theorem dX4_pass_90 : decode cX4_pass 90 = .ok (.aload_n 0, 1) := by decide +kernel
theorem dX4_pass_91 : decode cX4_pass 91 = .ok (.getfield 71, 3) := by decide +kernel
theorem dX4_pass_94 : decode cX4_pass 94 = .ok (.iload 4, 2) := by decide +kernel
theorem dX4_pass_96 : decode cX4_pass 96 = .ok (.caload, 1) := by decide +kernel
theorem dX4_pass_97 : decode cX4_pass 97 = .ok (.bipush 114, 2) := by decide +kernel
theorem dX4_pass_99 : decode cX4_pass 99 = .ok (.if_icmp .eq 15, 3) := by decide +kernel
theorem dX4_pass_102 : decode cX4_pass 102 = .ok (.aload_n 0, 1) := by decide +kernel
theorem dX4_pass_103 : decode cX4_pass 103 = .ok (.getfield 71, 3) := by decide +kernel
theorem dX4_pass_106 : decode cX4_pass 106 = .ok (.iload 4, 2) := by decide +kernel
theorem dX4_pass_108 : decode cX4_pass 108 = .ok (.caload, 1) := by decide +kernel
theorem dX4_pass_109 : decode cX4_pass 109 = .ok (.bipush 98, 2) := by decide +kernel
theorem dX4_pass_111 : decode cX4_pass 111 = .ok (.if_icmp .ne 17, 3) := by decide +kernel
theorem dX4_pass_114 : decode cX4_pass 114 = .ok (.aload_n 0, 1) := by decide +kernel
theorem dX4_pass_115 : decode cX4_pass 115 = .ok (.getfield 68, 3) := by decide +kernel
theorem dX4_pass_118 : decode cX4_pass 118 = .ok (.iload 4, 2) := by decide +kernel
theorem dX4_pass_120 : decode cX4_pass 120 = .ok (.iaload, 1) := by decide +kernel
theorem dX4_pass_121 : decode cX4_pass 121 = .ok (.ifCond .le 7, 3) := by decide +kernel
theorem dX4_pass_124 : decode cX4_pass 124 = .ok (.iconst 1, 1) := by decide +kernel
theorem dX4_pass_125 : decode cX4_pass 125 = .ok (.goto 4, 3) := by decide +kernel
theorem dX4_pass_128 : decode cX4_pass 128 = .ok (.iconst 0, 1) := by decide +kernel
theorem dX4_pass_129 : decode cX4_pass 129 = .ok (.isub, 1) := by decide +kernel
theorem dX4_pass_130 : decode cX4_pass 130 = .ok (.iastore, 1) := by decide +kernel
theorem dX4_pass_131 : decode cX4_pass 131 = .ok (.iinc 4 1, 3) := by decide +kernel
theorem dX4_pass_134 : decode cX4_pass 134 = .ok (.goto (-61), 3) := by decide +kernel
theorem dX4_pass_137 : decode cX4_pass 137 = .ok (.aload_n 0, 1) := by decide +kernel
theorem dX4_pass_138 : decode cX4_pass 138 = .ok (.dup, 1) := by decide +kernel
theorem dX4_pass_139 : decode cX4_pass 139 = .ok (.getfield 134, 3) := by decide +kernel
theorem dX4_pass_142 : decode cX4_pass 142 = .ok (.iconst 1, 1) := by decide +kernel
theorem dX4_pass_143 : decode cX4_pass 143 = .ok (.iadd, 1) := by decide +kernel
theorem dX4_pass_144 : decode cX4_pass 144 = .ok (.putfield 134, 3) := by decide +kernel
theorem dX4_pass_147 : decode cX4_pass 147 = .ok (.iinc 3 1, 3) := by decide +kernel
theorem dX4_pass_150 : decode cX4_pass 150 = .ok (.goto (-112), 3) := by decide +kernel
theorem dX4_pass_153 : decode cX4_pass 153 = .ok (.aload_n 0, 1) := by decide +kernel
theorem dX4_pass_154 : decode cX4_pass 154 = .ok (.iload_n 2, 1) := by decide +kernel
theorem dX4_pass_155 : decode cX4_pass 155 = .ok (.invokevirtual 99, 3) := by decide +kernel
theorem dX4_pass_158 : decode cX4_pass 158 = .ok (.ireturn, 1) := by decide +kernel
theorem dX4_time_0 : decode cX4_time 0 = .ok (.aload_n 0, 1) := by decide +kernel
theorem dX4_time_1 : decode cX4_time 1 = .ok (.aload_n 0, 1) := by decide +kernel
theorem dX4_time_2 : decode cX4_time 2 = .ok (.getfield 134, 3) := by decide +kernel
theorem dX4_time_5 : decode cX4_time 5 = .ok (.invokevirtual 99, 3) := by decide +kernel
theorem dX4_time_8 : decode cX4_time 8 = .ok (.ireturn, 1) := by decide +kernel
theorem dX4_used_0 : decode cX4_used 0 = .ok (.aload_n 0, 1) := by decide +kernel
theorem dX4_used_1 : decode cX4_used 1 = .ok (.iload_n 1, 1) := by decide +kernel
theorem dX4_used_2 : decode cX4_used 2 = .ok (.invokevirtual 102, 3) := by decide +kernel
theorem dX4_used_5 : decode cX4_used 5 = .ok (.ifCond .eq 16, 3) := by decide +kernel
theorem dX4_used_8 : decode cX4_used 8 = .ok (.aload_n 0, 1) := by decide +kernel
theorem dX4_used_9 : decode cX4_used 9 = .ok (.aload_n 0, 1) := by decide +kernel
theorem dX4_used_10 : decode cX4_used 10 = .ok (.getfield 19, 3) := by decide +kernel
theorem dX4_used_13 : decode cX4_used 13 = .ok (.iload_n 1, 1) := by decide +kernel
theorem dX4_used_14 : decode cX4_used 14 = .ok (.iaload, 1) := by decide +kernel
theorem dX4_used_15 : decode cX4_used 15 = .ok (.invokevirtual 99, 3) := by decide +kernel
theorem dX4_used_18 : decode cX4_used 18 = .ok (.goto 8, 3) := by decide +kernel
theorem dX4_used_21 : decode cX4_used 21 = .ok (.aload_n 0, 1) := by decide +kernel
theorem dX4_used_22 : decode cX4_used 22 = .ok (.iconst 1, 1) := by decide +kernel
theorem dX4_used_23 : decode cX4_used 23 = .ok (.invokevirtual 95, 3) := by decide +kernel
theorem dX4_used_26 : decode cX4_used 26 = .ok (.ireturn, 1) := by decide +kernel
theorem dX4_left_0 : decode cX4_left 0 = .ok (.aload_n 0, 1) := by decide +kernel
theorem dX4_left_1 : decode cX4_left 1 = .ok (.iload_n 1, 1) := by decide +kernel
theorem dX4_left_2 : decode cX4_left 2 = .ok (.invokevirtual 116, 3) := by decide +kernel
theorem dX4_left_5 : decode cX4_left 5 = .ok (.ifCond .eq 16, 3) := by decide +kernel
theorem dX4_left_8 : decode cX4_left 8 = .ok (.aload_n 0, 1) := by decide +kernel
theorem dX4_left_9 : decode cX4_left 9 = .ok (.aload_n 0, 1) := by decide +kernel
theorem dX4_left_10 : decode cX4_left 10 = .ok (.getfield 53, 3) := by decide +kernel
theorem dX4_left_13 : decode cX4_left 13 = .ok (.iload_n 1, 1) := by decide +kernel
theorem dX4_left_14 : decode cX4_left 14 = .ok (.iaload, 1) := by decide +kernel
theorem dX4_left_15 : decode cX4_left 15 = .ok (.invokevirtual 99, 3) := by decide +kernel
theorem dX4_left_18 : decode cX4_left 18 = .ok (.goto 8, 3) := by decide +kernel
theorem dX4_left_21 : decode cX4_left 21 = .ok (.aload_n 0, 1) := by decide +kernel
theorem dX4_left_22 : decode cX4_left 22 = .ok (.iconst 1, 1) := by decide +kernel
theorem dX4_left_23 : decode cX4_left 23 = .ok (.invokevirtual 95, 3) := by decide +kernel
theorem dX4_left_26 : decode cX4_left 26 = .ok (.ireturn, 1) := by decide +kernel
theorem dX4_leftAnew_0 : decode cX4_leftAnew 0 = .ok (.aload_n 0, 1) := by decide +kernel
theorem dX4_leftAnew_1 : decode cX4_leftAnew 1 = .ok (.iload_n 1, 1) := by decide +kernel
theorem dX4_leftAnew_2 : decode cX4_leftAnew 2 = .ok (.invokevirtual 116, 3) := by decide +kernel
theorem dX4_leftAnew_5 : decode cX4_leftAnew 5 = .ok (.ifCond .eq 16, 3) := by decide +kernel
theorem dX4_leftAnew_8 : decode cX4_leftAnew 8 = .ok (.aload_n 0, 1) := by decide +kernel
theorem dX4_leftAnew_9 : decode cX4_leftAnew 9 = .ok (.aload_n 0, 1) := by decide +kernel
theorem dX4_leftAnew_10 : decode cX4_leftAnew 10 = .ok (.getfield 53, 3) := by decide +kernel
theorem dX4_leftAnew_13 : decode cX4_leftAnew 13 = .ok (.iload_n 1, 1) := by decide +kernel
theorem dX4_leftAnew_14 : decode cX4_leftAnew 14 = .ok (.iaload, 1) := by decide +kernel
theorem dX4_leftAnew_15 : decode cX4_leftAnew 15 = .ok (.invokevirtual 99, 3) := by decide +kernel
theorem dX4_leftAnew_18 : decode cX4_leftAnew 18 = .ok (.goto 8, 3) := by decide +kernel
theorem dX4_leftAnew_21 : decode cX4_leftAnew 21 = .ok (.aload_n 0, 1) := by decide +kernel
theorem dX4_leftAnew_22 : decode cX4_leftAnew 22 = .ok (.iconst 1, 1) := by decide +kernel
theorem dX4_leftAnew_23 : decode cX4_leftAnew 23 = .ok (.invokevirtual 95, 3) := by decide +kernel
theorem dX4_leftAnew_26 : decode cX4_leftAnew 26 = .ok (.ireturn, 1) := by decide +kernel
theorem dX4_nextAt_0 : decode cX4_nextAt 0 = .ok (.aload_n 0, 1) := by decide +kernel
theorem dX4_nextAt_1 : decode cX4_nextAt 1 = .ok (.iload_n 1, 1) := by decide +kernel
theorem dX4_nextAt_2 : decode cX4_nextAt 2 = .ok (.invokevirtual 116, 3) := by decide +kernel
theorem dX4_nextAt_5 : decode cX4_nextAt 5 = .ok (.ifCond .ne 9, 3) := by decide +kernel
theorem dX4_nextAt_8 : decode cX4_nextAt 8 = .ok (.aload_n 0, 1) := by decide +kernel
theorem dX4_nextAt_9 : decode cX4_nextAt 9 = .ok (.iconst 1, 1) := by decide +kernel
theorem dX4_nextAt_10 : decode cX4_nextAt 10 = .ok (.invokevirtual 95, 3) := by decide +kernel
theorem dX4_nextAt_13 : decode cX4_nextAt 13 = .ok (.ireturn, 1) := by decide +kernel
theorem dX4_nextAt_14 : decode cX4_nextAt 14 = .ok (.aload_n 0, 1) := by decide +kernel
theorem dX4_nextAt_15 : decode cX4_nextAt 15 = .ok (.getfield 53, 3) := by decide +kernel
theorem dX4_nextAt_18 : decode cX4_nextAt 18 = .ok (.iload_n 1, 1) := by decide +kernel
theorem dX4_nextAt_19 : decode cX4_nextAt 19 = .ok (.iaload, 1) := by decide +kernel
theorem dX4_nextAt_20 : decode cX4_nextAt 20 = .ok (.ifCond .ne 9, 3) := by decide +kernel
theorem dX4_nextAt_23 : decode cX4_nextAt 23 = .ok (.aload_n 0, 1) := by decide +kernel
theorem dX4_nextAt_24 : decode cX4_nextAt 24 = .ok (.iconst 2, 1) := by decide +kernel
theorem dX4_nextAt_25 : decode cX4_nextAt 25 = .ok (.invokevirtual 95, 3) := by decide +kernel
theorem dX4_nextAt_28 : decode cX4_nextAt 28 = .ok (.ireturn, 1) := by decide +kernel
theorem dX4_nextAt_29 : decode cX4_nextAt 29 = .ok (.aload_n 0, 1) := by decide +kernel
theorem dX4_nextAt_30 : decode cX4_nextAt 30 = .ok (.getfield 134, 3) := by decide +kernel
theorem dX4_nextAt_33 : decode cX4_nextAt 33 = .ok (.istore_n 2, 1) := by decide +kernel
theorem dX4_nextAt_34 : decode cX4_nextAt 34 = .ok (.iconst 0, 1) := by decide +kernel
theorem dX4_nextAt_35 : decode cX4_nextAt 35 = .ok (.istore_n 3, 1) := by decide +kernel
theorem dX4_nextAt_36 : decode cX4_nextAt 36 = .ok (.aload_n 0, 1) := by decide +kernel
theorem dX4_nextAt_37 : decode cX4_nextAt 37 = .ok (.getfield 28, 3) := by decide +kernel
theorem dX4_nextAt_40 : decode cX4_nextAt 40 = .ok (.bipush 8, 2) := by decide +kernel
theorem dX4_nextAt_42 : decode cX4_nextAt 42 = .ok (.aload_n 0, 1) := by decide +kernel
theorem dX4_nextAt_43 : decode cX4_nextAt 43 = .ok (.getfield 38, 3) := by decide +kernel
theorem dX4_nextAt_46 : decode cX4_nextAt 46 = .ok (.iload_n 1, 1) := by decide +kernel
theorem dX4_nextAt_47 : decode cX4_nextAt 47 = .ok (.iaload, 1) := by decide +kernel
theorem dX4_nextAt_48 : decode cX4_nextAt 48 = .ok (.imul, 1) := by decide +kernel
theorem dX4_nextAt_49 : decode cX4_nextAt 49 = .ok (.iload_n 3, 1) := by decide +kernel
theorem dX4_nextAt_50 : decode cX4_nextAt 50 = .ok (.iadd, 1) := by decide +kernel
theorem dX4_nextAt_51 : decode cX4_nextAt 51 = .ok (.iaload, 1) := by decide +kernel
theorem dX4_nextAt_52 : decode cX4_nextAt 52 = .ok (.iload_n 1, 1) := by decide +kernel
theorem dX4_nextAt_53 : decode cX4_nextAt 53 = .ok (.if_icmp .eq 33, 3) := by decide +kernel
theorem dX4_nextAt_56 : decode cX4_nextAt 56 = .ok (.iload_n 2, 1) := by decide +kernel
theorem dX4_nextAt_57 : decode cX4_nextAt 57 = .ok (.aload_n 0, 1) := by decide +kernel
theorem dX4_nextAt_58 : decode cX4_nextAt 58 = .ok (.getfield 53, 3) := by decide +kernel
theorem dX4_nextAt_61 : decode cX4_nextAt 61 = .ok (.aload_n 0, 1) := by decide +kernel
theorem dX4_nextAt_62 : decode cX4_nextAt 62 = .ok (.getfield 28, 3) := by decide +kernel
theorem dX4_nextAt_65 : decode cX4_nextAt 65 = .ok (.bipush 8, 2) := by decide +kernel
theorem dX4_nextAt_67 : decode cX4_nextAt 67 = .ok (.aload_n 0, 1) := by decide +kernel
theorem dX4_nextAt_68 : decode cX4_nextAt 68 = .ok (.getfield 38, 3) := by decide +kernel
theorem dX4_nextAt_71 : decode cX4_nextAt 71 = .ok (.iload_n 1, 1) := by decide +kernel
theorem dX4_nextAt_72 : decode cX4_nextAt 72 = .ok (.iaload, 1) := by decide +kernel
theorem dX4_nextAt_73 : decode cX4_nextAt 73 = .ok (.imul, 1) := by decide +kernel
theorem dX4_nextAt_74 : decode cX4_nextAt 74 = .ok (.iload_n 3, 1) := by decide +kernel
theorem dX4_nextAt_75 : decode cX4_nextAt 75 = .ok (.iadd, 1) := by decide +kernel
theorem dX4_nextAt_76 : decode cX4_nextAt 76 = .ok (.iaload, 1) := by decide +kernel
theorem dX4_nextAt_77 : decode cX4_nextAt 77 = .ok (.iaload, 1) := by decide +kernel
theorem dX4_nextAt_78 : decode cX4_nextAt 78 = .ok (.iadd, 1) := by decide +kernel
theorem dX4_nextAt_79 : decode cX4_nextAt 79 = .ok (.istore_n 2, 1) := by decide +kernel
theorem dX4_nextAt_80 : decode cX4_nextAt 80 = .ok (.iinc 3 1, 3) := by decide +kernel
theorem dX4_nextAt_83 : decode cX4_nextAt 83 = .ok (.goto (-47), 3) := by decide +kernel
theorem dX4_nextAt_86 : decode cX4_nextAt 86 = .ok (.aload_n 0, 1) := by decide +kernel
theorem dX4_nextAt_87 : decode cX4_nextAt 87 = .ok (.iload_n 2, 1) := by decide +kernel
theorem dX4_nextAt_88 : decode cX4_nextAt 88 = .ok (.invokevirtual 99, 3) := by decide +kernel
theorem dX4_nextAt_91 : decode cX4_nextAt 91 = .ok (.ireturn, 1) := by decide +kernel
theorem dX4_count_0 : decode cX4_count 0 = .ok (.aload_n 0, 1) := by decide +kernel
theorem dX4_count_1 : decode cX4_count 1 = .ok (.iload_n 1, 1) := by decide +kernel
theorem dX4_count_2 : decode cX4_count 2 = .ok (.invokevirtual 116, 3) := by decide +kernel
theorem dX4_count_5 : decode cX4_count 5 = .ok (.ifCond .ne 9, 3) := by decide +kernel
theorem dX4_count_8 : decode cX4_count 8 = .ok (.aload_n 0, 1) := by decide +kernel
theorem dX4_count_9 : decode cX4_count 9 = .ok (.iconst 1, 1) := by decide +kernel
theorem dX4_count_10 : decode cX4_count 10 = .ok (.invokevirtual 95, 3) := by decide +kernel
theorem dX4_count_13 : decode cX4_count 13 = .ok (.ireturn, 1) := by decide +kernel
theorem dX4_count_14 : decode cX4_count 14 = .ok (.iload_n 2, 1) := by decide +kernel
theorem dX4_count_15 : decode cX4_count 15 = .ok (.bipush 100, 2) := by decide +kernel
theorem dX4_count_17 : decode cX4_count 17 = .ok (.if_icmp .ne 14, 3) := by decide +kernel
theorem dX4_count_20 : decode cX4_count 20 = .ok (.aload_n 0, 1) := by decide +kernel
theorem dX4_count_21 : decode cX4_count 21 = .ok (.aload_n 0, 1) := by decide +kernel
theorem dX4_count_22 : decode cX4_count 22 = .ok (.getfield 56, 3) := by decide +kernel
theorem dX4_count_25 : decode cX4_count 25 = .ok (.iload_n 1, 1) := by decide +kernel
theorem dX4_count_26 : decode cX4_count 26 = .ok (.iaload, 1) := by decide +kernel
theorem dX4_count_27 : decode cX4_count 27 = .ok (.invokevirtual 99, 3) := by decide +kernel
theorem dX4_count_30 : decode cX4_count 30 = .ok (.ireturn, 1) := by decide +kernel
theorem dX4_count_31 : decode cX4_count 31 = .ok (.iload_n 2, 1) := by decide +kernel
theorem dX4_count_32 : decode cX4_count 32 = .ok (.bipush 109, 2) := by decide +kernel
theorem dX4_count_34 : decode cX4_count 34 = .ok (.if_icmp .ne 14, 3) := by decide +kernel
theorem dX4_count_37 : decode cX4_count 37 = .ok (.aload_n 0, 1) := by decide +kernel
theorem dX4_count_38 : decode cX4_count 38 = .ok (.aload_n 0, 1) := by decide +kernel
theorem dX4_count_39 : decode cX4_count 39 = .ok (.getfield 59, 3) := by decide +kernel
theorem dX4_count_42 : decode cX4_count 42 = .ok (.iload_n 1, 1) := by decide +kernel
theorem dX4_count_43 : decode cX4_count 43 = .ok (.iaload, 1) := by decide +kernel
theorem dX4_count_44 : decode cX4_count 44 = .ok (.invokevirtual 99, 3) := by decide +kernel
theorem dX4_count_47 : decode cX4_count 47 = .ok (.ireturn, 1) := by decide +kernel
theorem dX4_count_48 : decode cX4_count 48 = .ok (.iload_n 2, 1) := by decide +kernel
theorem dX4_count_49 : decode cX4_count 49 = .ok (.bipush 108, 2) := by decide +kernel
theorem dX4_count_51 : decode cX4_count 51 = .ok (.if_icmp .ne 14, 3) := by decide +kernel
theorem dX4_count_54 : decode cX4_count 54 = .ok (.aload_n 0, 1) := by decide +kernel
theorem dX4_count_55 : decode cX4_count 55 = .ok (.aload_n 0, 1) := by decide +kernel
theorem dX4_count_56 : decode cX4_count 56 = .ok (.getfield 62, 3) := by decide +kernel
theorem dX4_count_59 : decode cX4_count 59 = .ok (.iload_n 1, 1) := by decide +kernel
theorem dX4_count_60 : decode cX4_count 60 = .ok (.iaload, 1) := by decide +kernel
theorem dX4_count_61 : decode cX4_count 61 = .ok (.invokevirtual 99, 3) := by decide +kernel
theorem dX4_count_64 : decode cX4_count 64 = .ok (.ireturn, 1) := by decide +kernel
theorem dX4_count_65 : decode cX4_count 65 = .ok (.iload_n 2, 1) := by decide +kernel
theorem dX4_count_66 : decode cX4_count 66 = .ok (.bipush 111, 2) := by decide +kernel
theorem dX4_count_68 : decode cX4_count 68 = .ok (.if_icmp .ne 16, 3) := by decide +kernel
theorem dX4_count_71 : decode cX4_count 71 = .ok (.aload_n 0, 1) := by decide +kernel
theorem dX4_count_72 : decode cX4_count 72 = .ok (.aload_n 0, 1) := by decide +kernel
theorem dX4_count_73 : decode cX4_count 73 = .ok (.getfield 65, 3) := by decide +kernel
theorem dX4_count_76 : decode cX4_count 76 = .ok (.iload_n 1, 1) := by decide +kernel
theorem dX4_count_77 : decode cX4_count 77 = .ok (.iaload, 1) := by decide +kernel
theorem dX4_count_78 : decode cX4_count 78 = .ok (.invokevirtual 99, 3) := by decide +kernel
theorem dX4_count_81 : decode cX4_count 81 = .ok (.goto 8, 3) := by decide +kernel
theorem dX4_count_84 : decode cX4_count 84 = .ok (.aload_n 0, 1) := by decide +kernel
theorem dX4_count_85 : decode cX4_count 85 = .ok (.iconst 2, 1) := by decide +kernel
theorem dX4_count_86 : decode cX4_count 86 = .ok (.invokevirtual 95, 3) := by decide +kernel
theorem dX4_count_89 : decode cX4_count 89 = .ok (.ireturn, 1) := by decide +kernel
theorem dX4_owedTo_0 : decode cX4_owedTo 0 = .ok (.iconst 0, 1) := by decide +kernel
theorem dX4_owedTo_1 : decode cX4_owedTo 1 = .ok (.istore_n 2, 1) := by decide +kernel
theorem dX4_owedTo_2 : decode cX4_owedTo 2 = .ok (.iconst 0, 1) := by decide +kernel
theorem dX4_owedTo_3 : decode cX4_owedTo 3 = .ok (.istore_n 3, 1) := by decide +kernel
theorem dX4_owedTo_4 : decode cX4_owedTo 4 = .ok (.iload_n 3, 1) := by decide +kernel
theorem dX4_owedTo_5 : decode cX4_owedTo 5 = .ok (.aload_n 0, 1) := by decide +kernel
theorem dX4_owedTo_6 : decode cX4_owedTo 6 = .ok (.getfield 92, 3) := by decide +kernel
theorem dX4_owedTo_9 : decode cX4_owedTo 9 = .ok (.if_icmp .ge 32, 3) := by decide +kernel
theorem dX4_owedTo_12 : decode cX4_owedTo 12 = .ok (.iload_n 2, 1) := by decide +kernel
theorem dX4_owedTo_13 : decode cX4_owedTo 13 = .ok (.aload_n 0, 1) := by decide +kernel
theorem dX4_owedTo_14 : decode cX4_owedTo 14 = .ok (.getfield 41, 3) := by decide +kernel
theorem dX4_owedTo_17 : decode cX4_owedTo 17 = .ok (.iload_n 3, 1) := by decide +kernel
theorem dX4_owedTo_18 : decode cX4_owedTo 18 = .ok (.iaload, 1) := by decide +kernel
theorem dX4_owedTo_19 : decode cX4_owedTo 19 = .ok (.iload_n 1, 1) := by decide +kernel
theorem dX4_owedTo_20 : decode cX4_owedTo 20 = .ok (.if_icmp .ne 12, 3) := by decide +kernel
theorem dX4_owedTo_23 : decode cX4_owedTo 23 = .ok (.aload_n 0, 1) := by decide +kernel
theorem dX4_owedTo_24 : decode cX4_owedTo 24 = .ok (.getfield 65, 3) := by decide +kernel
theorem dX4_owedTo_27 : decode cX4_owedTo 27 = .ok (.iload_n 3, 1) := by decide +kernel
theorem dX4_owedTo_28 : decode cX4_owedTo 28 = .ok (.iaload, 1) := by decide +kernel
theorem dX4_owedTo_29 : decode cX4_owedTo 29 = .ok (.goto 4, 3) := by decide +kernel
theorem dX4_owedTo_32 : decode cX4_owedTo 32 = .ok (.iconst 0, 1) := by decide +kernel
theorem dX4_owedTo_33 : decode cX4_owedTo 33 = .ok (.iadd, 1) := by decide +kernel
theorem dX4_owedTo_34 : decode cX4_owedTo 34 = .ok (.istore_n 2, 1) := by decide +kernel
theorem dX4_owedTo_35 : decode cX4_owedTo 35 = .ok (.iinc 3 1, 3) := by decide +kernel
theorem dX4_owedTo_38 : decode cX4_owedTo 38 = .ok (.goto (-34), 3) := by decide +kernel
theorem dX4_owedTo_41 : decode cX4_owedTo 41 = .ok (.iload_n 2, 1) := by decide +kernel
theorem dX4_owedTo_42 : decode cX4_owedTo 42 = .ok (.ireturn, 1) := by decide +kernel
theorem dX4_mostOwed_0 : decode cX4_mostOwed 0 = .ok (.iconst 0, 1) := by decide +kernel
theorem dX4_mostOwed_1 : decode cX4_mostOwed 1 = .ok (.istore_n 1, 1) := by decide +kernel
theorem dX4_mostOwed_2 : decode cX4_mostOwed 2 = .ok (.iconst 1, 1) := by decide +kernel
theorem dX4_mostOwed_3 : decode cX4_mostOwed 3 = .ok (.istore_n 2, 1) := by decide +kernel
theorem dX4_mostOwed_4 : decode cX4_mostOwed 4 = .ok (.iload_n 2, 1) := by decide +kernel
theorem dX4_mostOwed_5 : decode cX4_mostOwed 5 = .ok (.bipush 10, 2) := by decide +kernel
theorem dX4_mostOwed_7 : decode cX4_mostOwed 7 = .ok (.if_icmp .ge 28, 3) := by decide +kernel
theorem dX4_mostOwed_10 : decode cX4_mostOwed 10 = .ok (.aload_n 0, 1) := by decide +kernel
theorem dX4_mostOwed_11 : decode cX4_mostOwed 11 = .ok (.iload_n 2, 1) := by decide +kernel
theorem dX4_mostOwed_12 : decode cX4_mostOwed 12 = .ok (.invokevirtual 140, 3) := by decide +kernel
theorem dX4_mostOwed_15 : decode cX4_mostOwed 15 = .ok (.aload_n 0, 1) := by decide +kernel
theorem dX4_mostOwed_16 : decode cX4_mostOwed 16 = .ok (.iload_n 1, 1) := by decide +kernel
theorem dX4_mostOwed_17 : decode cX4_mostOwed 17 = .ok (.invokevirtual 140, 3) := by decide +kernel
theorem dX4_mostOwed_20 : decode cX4_mostOwed 20 = .ok (.if_icmp .le 7, 3) := by decide +kernel
theorem dX4_mostOwed_23 : decode cX4_mostOwed 23 = .ok (.iload_n 2, 1) := by decide +kernel
theorem dX4_mostOwed_24 : decode cX4_mostOwed 24 = .ok (.goto 4, 3) := by decide +kernel
theorem dX4_mostOwed_27 : decode cX4_mostOwed 27 = .ok (.iload_n 1, 1) := by decide +kernel
theorem dX4_mostOwed_28 : decode cX4_mostOwed 28 = .ok (.istore_n 1, 1) := by decide +kernel
theorem dX4_mostOwed_29 : decode cX4_mostOwed 29 = .ok (.iinc 2 1, 3) := by decide +kernel
theorem dX4_mostOwed_32 : decode cX4_mostOwed 32 = .ok (.goto (-28), 3) := by decide +kernel
theorem dX4_mostOwed_35 : decode cX4_mostOwed 35 = .ok (.aload_n 0, 1) := by decide +kernel
theorem dX4_mostOwed_36 : decode cX4_mostOwed 36 = .ok (.iload_n 1, 1) := by decide +kernel
theorem dX4_mostOwed_37 : decode cX4_mostOwed 37 = .ok (.invokevirtual 140, 3) := by decide +kernel
theorem dX4_mostOwed_40 : decode cX4_mostOwed 40 = .ok (.ifCond .ne 11, 3) := by decide +kernel
theorem dX4_mostOwed_43 : decode cX4_mostOwed 43 = .ok (.aload_n 0, 1) := by decide +kernel
theorem dX4_mostOwed_44 : decode cX4_mostOwed 44 = .ok (.iconst 1, 1) := by decide +kernel
theorem dX4_mostOwed_45 : decode cX4_mostOwed 45 = .ok (.invokevirtual 95, 3) := by decide +kernel
theorem dX4_mostOwed_48 : decode cX4_mostOwed 48 = .ok (.goto 8, 3) := by decide +kernel
theorem dX4_mostOwed_51 : decode cX4_mostOwed 51 = .ok (.aload_n 0, 1) := by decide +kernel
theorem dX4_mostOwed_52 : decode cX4_mostOwed 52 = .ok (.iload_n 1, 1) := by decide +kernel
theorem dX4_mostOwed_53 : decode cX4_mostOwed 53 = .ok (.invokevirtual 99, 3) := by decide +kernel
theorem dX4_mostOwed_56 : decode cX4_mostOwed 56 = .ok (.ireturn, 1) := by decide +kernel
theorem dX4_doneShare_0 : decode cX4_doneShare 0 = .ok (.iconst 0, 1) := by decide +kernel
theorem dX4_doneShare_1 : decode cX4_doneShare 1 = .ok (.istore_n 1, 1) := by decide +kernel
theorem dX4_doneShare_2 : decode cX4_doneShare 2 = .ok (.iconst 0, 1) := by decide +kernel
theorem dX4_doneShare_3 : decode cX4_doneShare 3 = .ok (.istore_n 2, 1) := by decide +kernel
theorem dX4_doneShare_4 : decode cX4_doneShare 4 = .ok (.iconst 0, 1) := by decide +kernel
theorem dX4_doneShare_5 : decode cX4_doneShare 5 = .ok (.istore_n 3, 1) := by decide +kernel
theorem dX4_doneShare_6 : decode cX4_doneShare 6 = .ok (.iload_n 3, 1) := by decide +kernel
theorem dX4_doneShare_7 : decode cX4_doneShare 7 = .ok (.aload_n 0, 1) := by decide +kernel
theorem dX4_doneShare_8 : decode cX4_doneShare 8 = .ok (.getfield 92, 3) := by decide +kernel
theorem dX4_doneShare_11 : decode cX4_doneShare 11 = .ok (.if_icmp .ge 41, 3) := by decide +kernel
theorem dX4_doneShare_14 : decode cX4_doneShare 14 = .ok (.iload_n 1, 1) := by decide +kernel
theorem dX4_doneShare_15 : decode cX4_doneShare 15 = .ok (.aload_n 0, 1) := by decide +kernel
theorem dX4_doneShare_16 : decode cX4_doneShare 16 = .ok (.getfield 56, 3) := by decide +kernel
theorem dX4_doneShare_19 : decode cX4_doneShare 19 = .ok (.iload_n 3, 1) := by decide +kernel
theorem dX4_doneShare_20 : decode cX4_doneShare 20 = .ok (.iaload, 1) := by decide +kernel
theorem dX4_doneShare_21 : decode cX4_doneShare 21 = .ok (.aload_n 0, 1) := by decide +kernel
theorem dX4_doneShare_22 : decode cX4_doneShare 22 = .ok (.getfield 59, 3) := by decide +kernel
theorem dX4_doneShare_25 : decode cX4_doneShare 25 = .ok (.iload_n 3, 1) := by decide +kernel
theorem dX4_doneShare_26 : decode cX4_doneShare 26 = .ok (.iaload, 1) := by decide +kernel
theorem dX4_doneShare_27 : decode cX4_doneShare 27 = .ok (.iadd, 1) := by decide +kernel
theorem dX4_doneShare_28 : decode cX4_doneShare 28 = .ok (.aload_n 0, 1) := by decide +kernel
theorem dX4_doneShare_29 : decode cX4_doneShare 29 = .ok (.getfield 62, 3) := by decide +kernel
theorem dX4_doneShare_32 : decode cX4_doneShare 32 = .ok (.iload_n 3, 1) := by decide +kernel
theorem dX4_doneShare_33 : decode cX4_doneShare 33 = .ok (.iaload, 1) := by decide +kernel
theorem dX4_doneShare_34 : decode cX4_doneShare 34 = .ok (.iadd, 1) := by decide +kernel
theorem dX4_doneShare_35 : decode cX4_doneShare 35 = .ok (.iadd, 1) := by decide +kernel
theorem dX4_doneShare_36 : decode cX4_doneShare 36 = .ok (.istore_n 1, 1) := by decide +kernel
theorem dX4_doneShare_37 : decode cX4_doneShare 37 = .ok (.iload_n 2, 1) := by decide +kernel
theorem dX4_doneShare_38 : decode cX4_doneShare 38 = .ok (.aload_n 0, 1) := by decide +kernel
theorem dX4_doneShare_39 : decode cX4_doneShare 39 = .ok (.getfield 56, 3) := by decide +kernel
theorem dX4_doneShare_42 : decode cX4_doneShare 42 = .ok (.iload_n 3, 1) := by decide +kernel
theorem dX4_doneShare_43 : decode cX4_doneShare 43 = .ok (.iaload, 1) := by decide +kernel
theorem dX4_doneShare_44 : decode cX4_doneShare 44 = .ok (.iadd, 1) := by decide +kernel
theorem dX4_doneShare_45 : decode cX4_doneShare 45 = .ok (.istore_n 2, 1) := by decide +kernel
theorem dX4_doneShare_46 : decode cX4_doneShare 46 = .ok (.iinc 3 1, 3) := by decide +kernel
theorem dX4_doneShare_49 : decode cX4_doneShare 49 = .ok (.goto (-43), 3) := by decide +kernel
theorem dX4_doneShare_52 : decode cX4_doneShare 52 = .ok (.aload_n 0, 1) := by decide +kernel
theorem dX4_doneShare_53 : decode cX4_doneShare 53 = .ok (.iload_n 1, 1) := by decide +kernel
theorem dX4_doneShare_54 : decode cX4_doneShare 54 = .ok (.ifCond .ne 7, 3) := by decide +kernel
theorem dX4_doneShare_57 : decode cX4_doneShare 57 = .ok (.iconst 1, 1) := by decide +kernel
theorem dX4_doneShare_58 : decode cX4_doneShare 58 = .ok (.goto 4, 3) := by decide +kernel
theorem dX4_doneShare_61 : decode cX4_doneShare 61 = .ok (.iconst 0, 1) := by decide +kernel
theorem dX4_doneShare_62 : decode cX4_doneShare 62 = .ok (.putfield 81, 3) := by decide +kernel
theorem dX4_doneShare_65 : decode cX4_doneShare 65 = .ok (.iload_n 1, 1) := by decide +kernel
theorem dX4_doneShare_66 : decode cX4_doneShare 66 = .ok (.ifCond .ne 7, 3) := by decide +kernel
theorem dX4_doneShare_69 : decode cX4_doneShare 69 = .ok (.fconst 0, 1) := by decide +kernel
theorem dX4_doneShare_70 : decode cX4_doneShare 70 = .ok (.goto 8, 3) := by decide +kernel
theorem dX4_doneShare_73 : decode cX4_doneShare 73 = .ok (.iload_n 2, 1) := by decide +kernel
theorem dX4_doneShare_74 : decode cX4_doneShare 74 = .ok (.i2f, 1) := by decide +kernel
theorem dX4_doneShare_75 : decode cX4_doneShare 75 = .ok (.iload_n 1, 1) := by decide +kernel
theorem dX4_doneShare_76 : decode cX4_doneShare 76 = .ok (.i2f, 1) := by decide +kernel
theorem dX4_doneShare_77 : decode cX4_doneShare 77 = .ok (.fdiv, 1) := by decide +kernel
theorem dX4_doneShare_78 : decode cX4_doneShare 78 = .ok (.freturn, 1) := by decide +kernel
theorem dX4_meanScore_0 : decode cX4_meanScore 0 = .ok (.iconst 0, 1) := by decide +kernel
theorem dX4_meanScore_1 : decode cX4_meanScore 1 = .ok (.istore_n 1, 1) := by decide +kernel
theorem dX4_meanScore_2 : decode cX4_meanScore 2 = .ok (.iconst 0, 1) := by decide +kernel
theorem dX4_meanScore_3 : decode cX4_meanScore 3 = .ok (.istore_n 2, 1) := by decide +kernel
theorem dX4_meanScore_4 : decode cX4_meanScore 4 = .ok (.iconst 0, 1) := by decide +kernel
theorem dX4_meanScore_5 : decode cX4_meanScore 5 = .ok (.istore_n 3, 1) := by decide +kernel
theorem dX4_meanScore_6 : decode cX4_meanScore 6 = .ok (.iload_n 3, 1) := by decide +kernel
theorem dX4_meanScore_7 : decode cX4_meanScore 7 = .ok (.aload_n 0, 1) := by decide +kernel
theorem dX4_meanScore_8 : decode cX4_meanScore 8 = .ok (.getfield 85, 3) := by decide +kernel
theorem dX4_meanScore_11 : decode cX4_meanScore 11 = .ok (.if_icmp .ge 58, 3) := by decide +kernel
theorem dX4_meanScore_14 : decode cX4_meanScore 14 = .ok (.iconst 0, 1) := by decide +kernel
theorem dX4_meanScore_15 : decode cX4_meanScore 15 = .ok (.istore 4, 2) := by decide +kernel
theorem dX4_meanScore_17 : decode cX4_meanScore 17 = .ok (.iload 4, 2) := by decide +kernel
theorem dX4_meanScore_19 : decode cX4_meanScore 19 = .ok (.aload_n 0, 1) := by decide +kernel
theorem dX4_meanScore_20 : decode cX4_meanScore 20 = .ok (.getfield 25, 3) := by decide +kernel
theorem dX4_meanScore_23 : decode cX4_meanScore 23 = .ok (.iload_n 3, 1) := by decide +kernel
theorem dX4_meanScore_24 : decode cX4_meanScore 24 = .ok (.iaload, 1) := by decide +kernel
theorem dX4_meanScore_25 : decode cX4_meanScore 25 = .ok (.if_icmp .ge 29, 3) := by decide +kernel
theorem dX4_meanScore_28 : decode cX4_meanScore 28 = .ok (.iload_n 1, 1) := by decide +kernel
theorem dX4_meanScore_29 : decode cX4_meanScore 29 = .ok (.aload_n 0, 1) := by decide +kernel
theorem dX4_meanScore_30 : decode cX4_meanScore 30 = .ok (.getfield 44, 3) := by decide +kernel
theorem dX4_meanScore_33 : decode cX4_meanScore 33 = .ok (.aload_n 0, 1) := by decide +kernel
theorem dX4_meanScore_34 : decode cX4_meanScore 34 = .ok (.getfield 28, 3) := by decide +kernel
theorem dX4_meanScore_37 : decode cX4_meanScore 37 = .ok (.bipush 8, 2) := by decide +kernel
theorem dX4_meanScore_39 : decode cX4_meanScore 39 = .ok (.iload_n 3, 1) := by decide +kernel
theorem dX4_meanScore_40 : decode cX4_meanScore 40 = .ok (.imul, 1) := by decide +kernel
theorem dX4_meanScore_41 : decode cX4_meanScore 41 = .ok (.iload 4, 2) := by decide +kernel
theorem dX4_meanScore_43 : decode cX4_meanScore 43 = .ok (.iadd, 1) := by decide +kernel
theorem dX4_meanScore_44 : decode cX4_meanScore 44 = .ok (.iaload, 1) := by decide +kernel
theorem dX4_meanScore_45 : decode cX4_meanScore 45 = .ok (.iaload, 1) := by decide +kernel
theorem dX4_meanScore_46 : decode cX4_meanScore 46 = .ok (.iadd, 1) := by decide +kernel
theorem dX4_meanScore_47 : decode cX4_meanScore 47 = .ok (.istore_n 1, 1) := by decide +kernel
theorem dX4_meanScore_48 : decode cX4_meanScore 48 = .ok (.iinc 4 1, 3) := by decide +kernel
theorem dX4_meanScore_51 : decode cX4_meanScore 51 = .ok (.goto (-34), 3) := by decide +kernel
theorem dX4_meanScore_54 : decode cX4_meanScore 54 = .ok (.iload_n 2, 1) := by decide +kernel
theorem dX4_meanScore_55 : decode cX4_meanScore 55 = .ok (.aload_n 0, 1) := by decide +kernel
theorem dX4_meanScore_56 : decode cX4_meanScore 56 = .ok (.getfield 25, 3) := by decide +kernel
theorem dX4_meanScore_59 : decode cX4_meanScore 59 = .ok (.iload_n 3, 1) := by decide +kernel
theorem dX4_meanScore_60 : decode cX4_meanScore 60 = .ok (.iaload, 1) := by decide +kernel
theorem dX4_meanScore_61 : decode cX4_meanScore 61 = .ok (.iadd, 1) := by decide +kernel
theorem dX4_meanScore_62 : decode cX4_meanScore 62 = .ok (.istore_n 2, 1) := by decide +kernel
theorem dX4_meanScore_63 : decode cX4_meanScore 63 = .ok (.iinc 3 1, 3) := by decide +kernel
theorem dX4_meanScore_66 : decode cX4_meanScore 66 = .ok (.goto (-60), 3) := by decide +kernel
theorem dX4_meanScore_69 : decode cX4_meanScore 69 = .ok (.aload_n 0, 1) := by decide +kernel
theorem dX4_meanScore_70 : decode cX4_meanScore 70 = .ok (.iload_n 2, 1) := by decide +kernel
theorem dX4_meanScore_71 : decode cX4_meanScore 71 = .ok (.ifCond .ne 7, 3) := by decide +kernel
theorem dX4_meanScore_74 : decode cX4_meanScore 74 = .ok (.iconst 1, 1) := by decide +kernel
theorem dX4_meanScore_75 : decode cX4_meanScore 75 = .ok (.goto 4, 3) := by decide +kernel
theorem dX4_meanScore_78 : decode cX4_meanScore 78 = .ok (.iconst 0, 1) := by decide +kernel
theorem dX4_meanScore_79 : decode cX4_meanScore 79 = .ok (.putfield 81, 3) := by decide +kernel
theorem dX4_meanScore_82 : decode cX4_meanScore 82 = .ok (.iload_n 2, 1) := by decide +kernel
theorem dX4_meanScore_83 : decode cX4_meanScore 83 = .ok (.ifCond .ne 7, 3) := by decide +kernel
theorem dX4_meanScore_86 : decode cX4_meanScore 86 = .ok (.dconst 0, 1) := by decide +kernel
theorem dX4_meanScore_87 : decode cX4_meanScore 87 = .ok (.goto 8, 3) := by decide +kernel
theorem dX4_meanScore_90 : decode cX4_meanScore 90 = .ok (.iload_n 1, 1) := by decide +kernel
theorem dX4_meanScore_91 : decode cX4_meanScore 91 = .ok (.i2d, 1) := by decide +kernel
theorem dX4_meanScore_92 : decode cX4_meanScore 92 = .ok (.iload_n 2, 1) := by decide +kernel
theorem dX4_meanScore_93 : decode cX4_meanScore 93 = .ok (.i2d, 1) := by decide +kernel
theorem dX4_meanScore_94 : decode cX4_meanScore 94 = .ok (.ddiv, 1) := by decide +kernel
theorem dX4_meanScore_95 : decode cX4_meanScore 95 = .ok (.dreturn, 1) := by decide +kernel
