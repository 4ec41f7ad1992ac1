theorem dX4_isSeen_0 : decode cX4_isSeen 0 = .ok (.aload_n 0, 1) := by decide +kernel
theorem dX4_isSeen_1 : decode cX4_isSeen 1 = .ok (.getfield 66, 3) := by decide +kernel
theorem dX4_isSeen_4 : decode cX4_isSeen 4 = .ok (.iload_n 1, 1) := by decide +kernel
theorem dX4_isSeen_5 : decode cX4_isSeen 5 = .ok (.baload, 1) := by decide +kernel
theorem dX4_isSeen_6 : decode cX4_isSeen 6 = .ok (.ifCond .eq 24, 3) := by decide +kernel
theorem dX4_isSeen_9 : decode cX4_isSeen 9 = .ok (.aload_n 0, 1) := by decide +kernel
theorem dX4_isSeen_10 : decode cX4_isSeen 10 = .ok (.iload_n 1, 1) := by decide +kernel
theorem dX4_isSeen_11 : decode cX4_isSeen 11 = .ok (.invokevirtual 149, 3) := by decide +kernel
theorem dX4_isSeen_14 : decode cX4_isSeen 14 = .ok (.ifCond .ne 12, 3) := by decide +kernel
theorem dX4_isSeen_17 : decode cX4_isSeen 17 = .ok (.aload_n 0, 1) := by decide +kernel
theorem dX4_isSeen_18 : decode cX4_isSeen 18 = .ok (.iload_n 1, 1) := by decide +kernel
theorem dX4_isSeen_19 : decode cX4_isSeen 19 = .ok (.invokevirtual 152, 3) := by decide +kernel
theorem dX4_isSeen_22 : decode cX4_isSeen 22 = .ok (.iconst (-1), 1) := by decide +kernel
theorem dX4_isSeen_23 : decode cX4_isSeen 23 = .ok (.if_icmp .eq 7, 3) := by decide +kernel
theorem dX4_isSeen_26 : decode cX4_isSeen 26 = .ok (.iconst 1, 1) := by decide +kernel
theorem dX4_isSeen_27 : decode cX4_isSeen 27 = .ok (.goto 4, 3) := by decide +kernel
theorem dX4_isSeen_30 : decode cX4_isSeen 30 = .ok (.iconst 0, 1) := by decide +kernel
theorem dX4_isSeen_31 : decode cX4_isSeen 31 = .ok (.ireturn, 1) := by decide +kernel
theorem dX4_isQuery_0 : decode cX4_isQuery 0 = .ok (.aload_n 0, 1) := by decide +kernel
theorem dX4_isQuery_1 : decode cX4_isQuery 1 = .ok (.getfield 75, 3) := by decide +kernel
theorem dX4_isQuery_4 : decode cX4_isQuery 4 = .ok (.iload_n 1, 1) := by decide +kernel
theorem dX4_isQuery_5 : decode cX4_isQuery 5 = .ok (.iaload, 1) := by decide +kernel
theorem dX4_isQuery_6 : decode cX4_isQuery 6 = .ok (.bipush 10, 2) := by decide +kernel
theorem dX4_isQuery_8 : decode cX4_isQuery 8 = .ok (.if_icmp .lt 7, 3) := by decide +kernel
theorem dX4_isQuery_11 : decode cX4_isQuery 11 = .ok (.iconst 1, 1) := by decide +kernel
theorem dX4_isQuery_12 : decode cX4_isQuery 12 = .ok (.goto 4, 3) := by decide +kernel
theorem dX4_isQuery_15 : decode cX4_isQuery 15 = .ok (.iconst 0, 1) := by decide +kernel
theorem dX4_isQuery_16 : decode cX4_isQuery 16 = .ok (.ireturn, 1) := by decide +kernel
theorem dX4_ends_0 : decode cX4_ends 0 = .ok (.aload_n 0, 1) := by decide +kernel
theorem dX4_ends_1 : decode cX4_ends 1 = .ok (.getfield 87, 3) := by decide +kernel
theorem dX4_ends_4 : decode cX4_ends 4 = .ok (.aload_n 0, 1) := by decide +kernel
theorem dX4_ends_5 : decode cX4_ends 5 = .ok (.getfield 42, 3) := by decide +kernel
theorem dX4_ends_8 : decode cX4_ends 8 = .ok (.iload_n 1, 1) := by decide +kernel
theorem dX4_ends_9 : decode cX4_ends 9 = .ok (.iaload, 1) := by decide +kernel
theorem dX4_ends_10 : decode cX4_ends 10 = .ok (.aload_n 0, 1) := by decide +kernel
theorem dX4_ends_11 : decode cX4_ends 11 = .ok (.getfield 136, 3) := by decide +kernel
theorem dX4_ends_14 : decode cX4_ends 14 = .ok (.iastore, 1) := by decide +kernel
theorem dX4_ends_15 : decode cX4_ends 15 = .ok (.aload_n 0, 1) := by decide +kernel
theorem dX4_ends_16 : decode cX4_ends 16 = .ok (.getfield 36, 3) := by decide +kernel
theorem dX4_ends_19 : decode cX4_ends 19 = .ok (.iload_n 1, 1) := by decide +kernel
theorem dX4_ends_20 : decode cX4_ends 20 = .ok (.iconst 0, 1) := by decide +kernel
theorem dX4_ends_21 : decode cX4_ends 21 = .ok (.iastore, 1) := by decide +kernel
theorem dX4_ends_22 : decode cX4_ends 22 = .ok (.aload_n 0, 1) := by decide +kernel
theorem dX4_ends_23 : decode cX4_ends 23 = .ok (.getfield 45, 3) := by decide +kernel
theorem dX4_ends_26 : decode cX4_ends 26 = .ok (.iload_n 1, 1) := by decide +kernel
theorem dX4_ends_27 : decode cX4_ends 27 = .ok (.iconst 0, 1) := by decide +kernel
theorem dX4_ends_28 : decode cX4_ends 28 = .ok (.iastore, 1) := by decide +kernel
theorem dX4_ends_29 : decode cX4_ends 29 = .ok (.aload_n 0, 1) := by decide +kernel
theorem dX4_ends_30 : decode cX4_ends 30 = .ok (.getfield 42, 3) := by decide +kernel
theorem dX4_ends_33 : decode cX4_ends 33 = .ok (.iload_n 1, 1) := by decide +kernel
theorem dX4_ends_34 : decode cX4_ends 34 = .ok (.iconst 0, 1) := by decide +kernel
theorem dX4_ends_35 : decode cX4_ends 35 = .ok (.iastore, 1) := by decide +kernel
theorem dX4_ends_36 : decode cX4_ends 36 = .ok (.return_, 1) := by decide +kernel
theorem dX4_take_0 : decode cX4_take 0 = .ok (.aload_n 0, 1) := by decide +kernel
theorem dX4_take_1 : decode cX4_take 1 = .ok (.getfield 42, 3) := by decide +kernel
theorem dX4_take_4 : decode cX4_take 4 = .ok (.iload_n 1, 1) := by decide +kernel
theorem dX4_take_5 : decode cX4_take 5 = .ok (.iaload, 1) := by decide +kernel
theorem dX4_take_6 : decode cX4_take 6 = .ok (.istore_n 2, 1) := by decide +kernel
theorem dX4_take_7 : decode cX4_take 7 = .ok (.aload_n 0, 1) := by decide +kernel
theorem dX4_take_8 : decode cX4_take 8 = .ok (.iload_n 1, 1) := by decide +kernel
theorem dX4_take_9 : decode cX4_take 9 = .ok (.invokevirtual 149, 3) := by decide +kernel
theorem dX4_take_12 : decode cX4_take 12 = .ok (.ifCond .eq 7, 3) := by decide +kernel
theorem dX4_take_15 : decode cX4_take 15 = .ok (.iconst (-1), 1) := by decide +kernel
theorem dX4_take_16 : decode cX4_take 16 = .ok (.goto 8, 3) := by decide +kernel
theorem dX4_take_19 : decode cX4_take 19 = .ok (.aload_n 0, 1) := by decide +kernel
theorem dX4_take_20 : decode cX4_take 20 = .ok (.iload_n 1, 1) := by decide +kernel
theorem dX4_take_21 : decode cX4_take 21 = .ok (.invokevirtual 152, 3) := by decide +kernel
theorem dX4_take_24 : decode cX4_take 24 = .ok (.istore_n 3, 1) := by decide +kernel
theorem dX4_take_25 : decode cX4_take 25 = .ok (.iload_n 3, 1) := by decide +kernel
theorem dX4_take_26 : decode cX4_take 26 = .ok (.iconst (-1), 1) := by decide +kernel
theorem dX4_take_27 : decode cX4_take 27 = .ok (.if_icmp .ne 7, 3) := by decide +kernel
theorem dX4_take_30 : decode cX4_take 30 = .ok (.iconst 0, 1) := by decide +kernel
theorem dX4_take_31 : decode cX4_take 31 = .ok (.goto 27, 3) := by decide +kernel
theorem dX4_take_34 : decode cX4_take 34 = .ok (.aload_n 0, 1) := by decide +kernel
theorem dX4_take_35 : decode cX4_take 35 = .ok (.getfield 54, 3) := by decide +kernel
theorem dX4_take_38 : decode cX4_take 38 = .ok (.sipush 512, 3) := by decide +kernel
theorem dX4_take_41 : decode cX4_take 41 = .ok (.iload_n 3, 1) := by decide +kernel
theorem dX4_take_42 : decode cX4_take 42 = .ok (.imul, 1) := by decide +kernel
theorem dX4_take_43 : decode cX4_take 43 = .ok (.aload_n 0, 1) := by decide +kernel
theorem dX4_take_44 : decode cX4_take 44 = .ok (.getfield 60, 3) := by decide +kernel
theorem dX4_take_47 : decode cX4_take 47 = .ok (.bipush 31, 2) := by decide +kernel
theorem dX4_take_49 : decode cX4_take 49 = .ok (.iload_n 1, 1) := by decide +kernel
theorem dX4_take_50 : decode cX4_take 50 = .ok (.imul, 1) := by decide +kernel
theorem dX4_take_51 : decode cX4_take 51 = .ok (.iload_n 3, 1) := by decide +kernel
theorem dX4_take_52 : decode cX4_take 52 = .ok (.iadd, 1) := by decide +kernel
theorem dX4_take_53 : decode cX4_take 53 = .ok (.iaload, 1) := by decide +kernel
theorem dX4_take_54 : decode cX4_take 54 = .ok (.iadd, 1) := by decide +kernel
theorem dX4_take_55 : decode cX4_take 55 = .ok (.iconst 1, 1) := by decide +kernel
theorem dX4_take_56 : decode cX4_take 56 = .ok (.isub, 1) := by decide +kernel
theorem dX4_take_57 : decode cX4_take 57 = .ok (.iaload, 1) := by decide +kernel
theorem dX4_take_58 : decode cX4_take 58 = .ok (.istore 4, 2) := by decide +kernel
theorem dX4_take_60 : decode cX4_take 60 = .ok (.iconst 0, 1) := by decide +kernel
theorem dX4_take_61 : decode cX4_take 61 = .ok (.istore 5, 2) := by decide +kernel
theorem dX4_take_63 : decode cX4_take 63 = .ok (.iload 5, 2) := by decide +kernel
theorem dX4_take_65 : decode cX4_take 65 = .ok (.aload_n 0, 1) := by decide +kernel
theorem dX4_take_66 : decode cX4_take 66 = .ok (.getfield 108, 3) := by decide +kernel
theorem dX4_take_69 : decode cX4_take 69 = .ok (.if_icmp .ge 54, 3) := by decide +kernel
theorem dX4_take_72 : decode cX4_take 72 = .ok (.aload_n 0, 1) := by decide +kernel
theorem dX4_take_73 : decode cX4_take 73 = .ok (.getfield 99, 3) := by decide +kernel
theorem dX4_take_76 : decode cX4_take 76 = .ok (.bipush 31, 2) := by decide +kernel
theorem dX4_take_78 : decode cX4_take 78 = .ok (.iload_n 2, 1) := by decide +kernel
theorem dX4_take_79 : decode cX4_take 79 = .ok (.imul, 1) := by decide +kernel
theorem dX4_take_80 : decode cX4_take 80 = .ok (.iload 5, 2) := by decide +kernel
theorem dX4_take_82 : decode cX4_take 82 = .ok (.iadd, 1) := by decide +kernel
theorem dX4_take_83 : decode cX4_take 83 = .ok (.iload_n 3, 1) := by decide +kernel
theorem dX4_take_84 : decode cX4_take 84 = .ok (.iconst (-1), 1) := by decide +kernel
theorem dX4_take_85 : decode cX4_take 85 = .ok (.if_icmp .ne 18, 3) := by decide +kernel
theorem dX4_take_88 : decode cX4_take 88 = .ok (.aload_n 0, 1) := by decide +kernel
theorem dX4_take_89 : decode cX4_take 89 = .ok (.getfield 60, 3) := by decide +kernel
theorem dX4_take_92 : decode cX4_take 92 = .ok (.bipush 31, 2) := by decide +kernel
theorem dX4_take_94 : decode cX4_take 94 = .ok (.iload_n 1, 1) := by decide +kernel
theorem dX4_take_95 : decode cX4_take 95 = .ok (.imul, 1) := by decide +kernel
theorem dX4_take_96 : decode cX4_take 96 = .ok (.iload 5, 2) := by decide +kernel
theorem dX4_take_98 : decode cX4_take 98 = .ok (.iadd, 1) := by decide +kernel
theorem dX4_take_99 : decode cX4_take 99 = .ok (.iaload, 1) := by decide +kernel
theorem dX4_take_100 : decode cX4_take 100 = .ok (.goto 16, 3) := by decide +kernel
theorem dX4_take_103 : decode cX4_take 103 = .ok (.aload_n 0, 1) := by decide +kernel
theorem dX4_take_104 : decode cX4_take 104 = .ok (.getfield 99, 3) := by decide +kernel
theorem dX4_take_107 : decode cX4_take 107 = .ok (.bipush 31, 2) := by decide +kernel
theorem dX4_take_109 : decode cX4_take 109 = .ok (.iload 4, 2) := by decide +kernel
theorem dX4_take_111 : decode cX4_take 111 = .ok (.imul, 1) := by decide +kernel
theorem dX4_take_112 : decode cX4_take 112 = .ok (.iload 5, 2) := by decide +kernel
theorem dX4_take_114 : decode cX4_take 114 = .ok (.iadd, 1) := by decide +kernel
theorem dX4_take_115 : decode cX4_take 115 = .ok (.iaload, 1) := by decide +kernel
theorem dX4_take_116 : decode cX4_take 116 = .ok (.iastore, 1) := by decide +kernel
theorem dX4_take_117 : decode cX4_take 117 = .ok (.iinc 5 1, 3) := by decide +kernel
theorem dX4_take_120 : decode cX4_take 120 = .ok (.goto (-57), 3) := by decide +kernel
theorem dX4_take_123 : decode cX4_take 123 = .ok (.aload_n 0, 1) := by decide +kernel
theorem dX4_take_124 : decode cX4_take 124 = .ok (.getfield 102, 3) := by decide +kernel
theorem dX4_take_127 : decode cX4_take 127 = .ok (.iload_n 2, 1) := by decide +kernel
theorem dX4_take_128 : decode cX4_take 128 = .ok (.iconst 1, 1) := by decide +kernel
theorem dX4_take_129 : decode cX4_take 129 = .ok (.bastore, 1) := by decide +kernel
theorem dX4_take_130 : decode cX4_take 130 = .ok (.aload_n 0, 1) := by decide +kernel
theorem dX4_take_131 : decode cX4_take 131 = .ok (.getfield 93, 3) := by decide +kernel
theorem dX4_take_134 : decode cX4_take 134 = .ok (.iload_n 2, 1) := by decide +kernel
theorem dX4_take_135 : decode cX4_take 135 = .ok (.iload_n 3, 1) := by decide +kernel
theorem dX4_take_136 : decode cX4_take 136 = .ok (.iastore, 1) := by decide +kernel
theorem dX4_take_137 : decode cX4_take 137 = .ok (.aload_n 0, 1) := by decide +kernel
theorem dX4_take_138 : decode cX4_take 138 = .ok (.dup, 1) := by decide +kernel
theorem dX4_take_139 : decode cX4_take 139 = .ok (.getfield 156, 3) := by decide +kernel
theorem dX4_take_142 : decode cX4_take 142 = .ok (.iload_n 3, 1) := by decide +kernel
theorem dX4_take_143 : decode cX4_take 143 = .ok (.iconst (-1), 1) := by decide +kernel
theorem dX4_take_144 : decode cX4_take 144 = .ok (.if_icmp .ne 7, 3) := by decide +kernel
theorem dX4_take_147 : decode cX4_take 147 = .ok (.iconst 0, 1) := by decide +kernel
theorem dX4_take_148 : decode cX4_take 148 = .ok (.goto 4, 3) := by decide +kernel
theorem dX4_take_151 : decode cX4_take 151 = .ok (.iconst 1, 1) := by decide +kernel
theorem dX4_take_152 : decode cX4_take 152 = .ok (.iadd, 1) := by decide +kernel
theorem dX4_take_153 : decode cX4_take 153 = .ok (.putfield 156, 3) := by decide +kernel
theorem dX4_take_156 : decode cX4_take 156 = .ok (.aload_n 0, 1) := by decide +kernel
theorem dX4_take_157 : decode cX4_take 157 = .ok (.iload_n 2, 1) := by decide +kernel
theorem dX4_take_158 : decode cX4_take 158 = .ok (.invokevirtual 159, 3) := by decide +kernel
theorem dX4_take_161 : decode cX4_take 161 = .ok (.ifCond .eq 9, 3) := by decide +kernel
theorem dX4_take_164 : decode cX4_take 164 = .ok (.aload_n 0, 1) := by decide +kernel
theorem dX4_take_165 : decode cX4_take 165 = .ok (.iload_n 1, 1) := by decide +kernel
theorem dX4_take_166 : decode cX4_take 166 = .ok (.invokevirtual 162, 3) := by decide +kernel
theorem dX4_take_169 : decode cX4_take 169 = .ok (.return_, 1) := by decide +kernel
theorem dX4_take_170 : decode cX4_take 170 = .ok (.aload_n 0, 1) := by decide +kernel
theorem dX4_take_171 : decode cX4_take 171 = .ok (.getfield 54, 3) := by decide +kernel
theorem dX4_take_174 : decode cX4_take 174 = .ok (.sipush 512, 3) := by decide +kernel
theorem dX4_take_177 : decode cX4_take 177 = .ok (.iload_n 1, 1) := by decide +kernel
theorem dX4_take_178 : decode cX4_take 178 = .ok (.imul, 1) := by decide +kernel
theorem dX4_take_179 : decode cX4_take 179 = .ok (.aload_n 0, 1) := by decide +kernel
theorem dX4_take_180 : decode cX4_take 180 = .ok (.getfield 51, 3) := by decide +kernel
theorem dX4_take_183 : decode cX4_take 183 = .ok (.iload_n 1, 1) := by decide +kernel
theorem dX4_take_184 : decode cX4_take 184 = .ok (.iaload, 1) := by decide +kernel
theorem dX4_take_185 : decode cX4_take 185 = .ok (.iadd, 1) := by decide +kernel
theorem dX4_take_186 : decode cX4_take 186 = .ok (.iload_n 2, 1) := by decide +kernel
theorem dX4_take_187 : decode cX4_take 187 = .ok (.iastore, 1) := by decide +kernel
theorem dX4_take_188 : decode cX4_take 188 = .ok (.aload_n 0, 1) := by decide +kernel
theorem dX4_take_189 : decode cX4_take 189 = .ok (.getfield 51, 3) := by decide +kernel
theorem dX4_take_192 : decode cX4_take 192 = .ok (.iload_n 1, 1) := by decide +kernel
theorem dX4_take_193 : decode cX4_take 193 = .ok (.dup2, 1) := by decide +kernel
theorem dX4_take_194 : decode cX4_take 194 = .ok (.iaload, 1) := by decide +kernel
theorem dX4_take_195 : decode cX4_take 195 = .ok (.iconst 1, 1) := by decide +kernel
theorem dX4_take_196 : decode cX4_take 196 = .ok (.iadd, 1) := by decide +kernel
theorem dX4_take_197 : decode cX4_take 197 = .ok (.iastore, 1) := by decide +kernel
theorem dX4_take_198 : decode cX4_take 198 = .ok (.aload_n 0, 1) := by decide +kernel
theorem dX4_take_199 : decode cX4_take 199 = .ok (.getfield 96, 3) := by decide +kernel
theorem dX4_take_202 : decode cX4_take 202 = .ok (.iload_n 2, 1) := by decide +kernel
theorem dX4_take_203 : decode cX4_take 203 = .ok (.aload_n 0, 1) := by decide +kernel
theorem dX4_take_204 : decode cX4_take 204 = .ok (.getfield 51, 3) := by decide +kernel
theorem dX4_take_207 : decode cX4_take 207 = .ok (.iload_n 1, 1) := by decide +kernel
theorem dX4_take_208 : decode cX4_take 208 = .ok (.iaload, 1) := by decide +kernel
theorem dX4_take_209 : decode cX4_take 209 = .ok (.iastore, 1) := by decide +kernel
theorem dX4_take_210 : decode cX4_take 210 = .ok (.iconst 0, 1) := by decide +kernel
theorem dX4_take_211 : decode cX4_take 211 = .ok (.istore 5, 2) := by decide +kernel
theorem dX4_take_213 : decode cX4_take 213 = .ok (.iload 5, 2) := by decide +kernel
theorem dX4_take_215 : decode cX4_take 215 = .ok (.aload_n 0, 1) := by decide +kernel
theorem dX4_take_216 : decode cX4_take 216 = .ok (.getfield 108, 3) := by decide +kernel
theorem dX4_take_219 : decode cX4_take 219 = .ok (.if_icmp .ge 37, 3) := by decide +kernel
theorem dX4_take_222 : decode cX4_take 222 = .ok (.aload_n 0, 1) := by decide +kernel
theorem dX4_take_223 : decode cX4_take 223 = .ok (.getfield 57, 3) := by decide +kernel
theorem dX4_take_226 : decode cX4_take 226 = .ok (.bipush 31, 2) := by decide +kernel
theorem dX4_take_228 : decode cX4_take 228 = .ok (.iload_n 1, 1) := by decide +kernel
theorem dX4_take_229 : decode cX4_take 229 = .ok (.imul, 1) := by decide +kernel
theorem dX4_take_230 : decode cX4_take 230 = .ok (.iload 5, 2) := by decide +kernel
theorem dX4_take_232 : decode cX4_take 232 = .ok (.iadd, 1) := by decide +kernel
theorem dX4_take_233 : decode cX4_take 233 = .ok (.iload 5, 2) := by decide +kernel
theorem dX4_take_235 : decode cX4_take 235 = .ok (.iload_n 1, 1) := by decide +kernel
theorem dX4_take_236 : decode cX4_take 236 = .ok (.if_icmp .ne 12, 3) := by decide +kernel
theorem dX4_take_239 : decode cX4_take 239 = .ok (.aload_n 0, 1) := by decide +kernel
theorem dX4_take_240 : decode cX4_take 240 = .ok (.getfield 51, 3) := by decide +kernel
theorem dX4_take_243 : decode cX4_take 243 = .ok (.iload_n 1, 1) := by decide +kernel
theorem dX4_take_244 : decode cX4_take 244 = .ok (.iaload, 1) := by decide +kernel
theorem dX4_take_245 : decode cX4_take 245 = .ok (.goto 4, 3) := by decide +kernel
theorem dX4_take_248 : decode cX4_take 248 = .ok (.iconst 0, 1) := by decide +kernel
theorem dX4_take_249 : decode cX4_take 249 = .ok (.iastore, 1) := by decide +kernel
theorem dX4_take_250 : decode cX4_take 250 = .ok (.iinc 5 1, 3) := by decide +kernel
theorem dX4_take_253 : decode cX4_take 253 = .ok (.goto (-40), 3) := by decide +kernel
theorem dX4_take_256 : decode cX4_take 256 = .ok (.aload_n 0, 1) := by decide +kernel
theorem dX4_take_257 : decode cX4_take 257 = .ok (.getfield 36, 3) := by decide +kernel
theorem dX4_take_260 : decode cX4_take 260 = .ok (.iload_n 1, 1) := by decide +kernel
theorem dX4_take_261 : decode cX4_take 261 = .ok (.iconst 3, 1) := by decide +kernel
theorem dX4_take_262 : decode cX4_take 262 = .ok (.iastore, 1) := by decide +kernel
theorem dX4_take_263 : decode cX4_take 263 = .ok (.aload_n 0, 1) := by decide +kernel
theorem dX4_take_264 : decode cX4_take 264 = .ok (.iload_n 1, 1) := by decide +kernel
theorem dX4_take_265 : decode cX4_take 265 = .ok (.iconst 2, 1) := by decide +kernel
theorem dX4_take_266 : decode cX4_take 266 = .ok (.aload_n 0, 1) := by decide +kernel
theorem dX4_take_267 : decode cX4_take 267 = .ok (.getfield 57, 3) := by decide +kernel
theorem dX4_take_270 : decode cX4_take 270 = .ok (.invokevirtual 125, 3) := by decide +kernel
theorem dX4_take_273 : decode cX4_take 273 = .ok (.return_, 1) := by decide +kernel
theorem dX4_through_0 : decode cX4_through 0 = .ok (.aload_n 0, 1) := by decide +kernel
theorem dX4_through_1 : decode cX4_through 1 = .ok (.iload_n 1, 1) := by decide +kernel
theorem dX4_through_2 : decode cX4_through 2 = .ok (.invokevirtual 165, 3) := by decide +kernel
theorem dX4_through_5 : decode cX4_through 5 = .ok (.ifCond .eq 9, 3) := by decide +kernel
theorem dX4_through_8 : decode cX4_through 8 = .ok (.aload_n 0, 1) := by decide +kernel
theorem dX4_through_9 : decode cX4_through 9 = .ok (.iload_n 1, 1) := by decide +kernel
theorem dX4_through_10 : decode cX4_through 10 = .ok (.invokevirtual 168, 3) := by decide +kernel
theorem dX4_through_13 : decode cX4_through 13 = .ok (.return_, 1) := by decide +kernel
theorem dX4_through_14 : decode cX4_through 14 = .ok (.iconst 0, 1) := by decide +kernel
theorem dX4_through_15 : decode cX4_through 15 = .ok (.istore_n 2, 1) := by decide +kernel
theorem dX4_through_16 : decode cX4_through 16 = .ok (.iload_n 2, 1) := by decide +kernel
theorem dX4_through_17 : decode cX4_through 17 = .ok (.aload_n 0, 1) := by decide +kernel
theorem dX4_through_18 : decode cX4_through 18 = .ok (.getfield 108, 3) := by decide +kernel
theorem dX4_through_21 : decode cX4_through 21 = .ok (.if_icmp .ge 66, 3) := by decide +kernel
theorem dX4_through_24 : decode cX4_through 24 = .ok (.bipush 31, 2) := by decide +kernel
theorem dX4_through_26 : decode cX4_through 26 = .ok (.iload_n 1, 1) := by decide +kernel
theorem dX4_through_27 : decode cX4_through 27 = .ok (.imul, 1) := by decide +kernel
theorem dX4_through_28 : decode cX4_through 28 = .ok (.iload_n 2, 1) := by decide +kernel
theorem dX4_through_29 : decode cX4_through 29 = .ok (.iadd, 1) := by decide +kernel
theorem dX4_through_30 : decode cX4_through 30 = .ok (.istore_n 3, 1) := by decide +kernel
theorem dX4_through_31 : decode cX4_through 31 = .ok (.aload_n 0, 1) := by decide +kernel
theorem dX4_through_32 : decode cX4_through 32 = .ok (.getfield 69, 3) := by decide +kernel
theorem dX4_through_35 : decode cX4_through 35 = .ok (.iload_n 3, 1) := by decide +kernel
theorem dX4_through_36 : decode cX4_through 36 = .ok (.dup2, 1) := by decide +kernel
theorem dX4_through_37 : decode cX4_through 37 = .ok (.iaload, 1) := by decide +kernel
theorem dX4_through_38 : decode cX4_through 38 = .ok (.aload_n 0, 1) := by decide +kernel
theorem dX4_through_39 : decode cX4_through 39 = .ok (.getfield 66, 3) := by decide +kernel
theorem dX4_through_42 : decode cX4_through 42 = .ok (.iload_n 1, 1) := by decide +kernel
theorem dX4_through_43 : decode cX4_through 43 = .ok (.baload, 1) := by decide +kernel
theorem dX4_through_44 : decode cX4_through 44 = .ok (.ifCond .eq 22, 3) := by decide +kernel
theorem dX4_through_47 : decode cX4_through 47 = .ok (.aload_n 0, 1) := by decide +kernel
theorem dX4_through_48 : decode cX4_through 48 = .ok (.getfield 63, 3) := by decide +kernel
theorem dX4_through_51 : decode cX4_through 51 = .ok (.iload_n 3, 1) := by decide +kernel
theorem dX4_through_52 : decode cX4_through 52 = .ok (.iaload, 1) := by decide +kernel
theorem dX4_through_53 : decode cX4_through 53 = .ok (.aload_n 0, 1) := by decide +kernel
theorem dX4_through_54 : decode cX4_through 54 = .ok (.getfield 60, 3) := by decide +kernel
theorem dX4_through_57 : decode cX4_through 57 = .ok (.iload_n 3, 1) := by decide +kernel
theorem dX4_through_58 : decode cX4_through 58 = .ok (.iaload, 1) := by decide +kernel
theorem dX4_through_59 : decode cX4_through 59 = .ok (.if_icmp .eq 7, 3) := by decide +kernel
theorem dX4_through_62 : decode cX4_through 62 = .ok (.iconst 1, 1) := by decide +kernel
theorem dX4_through_63 : decode cX4_through 63 = .ok (.goto 4, 3) := by decide +kernel
theorem dX4_through_66 : decode cX4_through 66 = .ok (.iconst 0, 1) := by decide +kernel
theorem dX4_through_67 : decode cX4_through 67 = .ok (.iadd, 1) := by decide +kernel
theorem dX4_through_68 : decode cX4_through 68 = .ok (.iastore, 1) := by decide +kernel
theorem dX4_through_69 : decode cX4_through 69 = .ok (.aload_n 0, 1) := by decide +kernel
theorem dX4_through_70 : decode cX4_through 70 = .ok (.getfield 63, 3) := by decide +kernel
theorem dX4_through_73 : decode cX4_through 73 = .ok (.iload_n 3, 1) := by decide +kernel
theorem dX4_through_74 : decode cX4_through 74 = .ok (.aload_n 0, 1) := by decide +kernel
theorem dX4_through_75 : decode cX4_through 75 = .ok (.getfield 60, 3) := by decide +kernel
theorem dX4_through_78 : decode cX4_through 78 = .ok (.iload_n 3, 1) := by decide +kernel
theorem dX4_through_79 : decode cX4_through 79 = .ok (.iaload, 1) := by decide +kernel
theorem dX4_through_80 : decode cX4_through 80 = .ok (.iastore, 1) := by decide +kernel
theorem dX4_through_81 : decode cX4_through 81 = .ok (.iinc 2 1, 3) := by decide +kernel
theorem dX4_through_84 : decode cX4_through 84 = .ok (.goto (-68), 3) := by decide +kernel
theorem dX4_through_87 : decode cX4_through 87 = .ok (.aload_n 0, 1) := by decide +kernel
theorem dX4_through_88 : decode cX4_through 88 = .ok (.getfield 66, 3) := by decide +kernel
theorem dX4_through_91 : decode cX4_through 91 = .ok (.iload_n 1, 1) := by decide +kernel
theorem dX4_through_92 : decode cX4_through 92 = .ok (.iconst 1, 1) := by decide +kernel
theorem dX4_through_93 : decode cX4_through 93 = .ok (.bastore, 1) := by decide +kernel
theorem dX4_through_94 : decode cX4_through 94 = .ok (.aload_n 0, 1) := by decide +kernel
theorem dX4_through_95 : decode cX4_through 95 = .ok (.iload_n 1, 1) := by decide +kernel
theorem dX4_through_96 : decode cX4_through 96 = .ok (.invokevirtual 139, 3) := by decide +kernel
theorem dX4_through_99 : decode cX4_through 99 = .ok (.return_, 1) := by decide +kernel
theorem dX4_counts_0 : decode cX4_counts 0 = .ok (.aload_n 0, 1) := by decide +kernel
theorem dX4_counts_1 : decode cX4_counts 1 = .ok (.getfield 16, 3) := by decide +kernel
theorem dX4_counts_4 : decode cX4_counts 4 = .ok (.iload_n 1, 1) := by decide +kernel
theorem dX4_counts_5 : decode cX4_counts 5 = .ok (.iaload, 1) := by decide +kernel
theorem dX4_counts_6 : decode cX4_counts 6 = .ok (.istore_n 2, 1) := by decide +kernel
theorem dX4_counts_7 : decode cX4_counts 7 = .ok (.aload_n 0, 1) := by decide +kernel
theorem dX4_counts_8 : decode cX4_counts 8 = .ok (.getfield 33, 3) := by decide +kernel
theorem dX4_counts_11 : decode cX4_counts 11 = .ok (.iload_n 2, 1) := by decide +kernel
theorem dX4_counts_12 : decode cX4_counts 12 = .ok (.baload, 1) := by decide +kernel
theorem dX4_counts_13 : decode cX4_counts 13 = .ok (.ifCond .ne 18, 3) := by decide +kernel
theorem dX4_counts_16 : decode cX4_counts 16 = .ok (.aload_n 0, 1) := by decide +kernel
theorem dX4_counts_17 : decode cX4_counts 17 = .ok (.getfield 19, 3) := by decide +kernel
theorem dX4_counts_20 : decode cX4_counts 20 = .ok (.iload_n 1, 1) := by decide +kernel
theorem dX4_counts_21 : decode cX4_counts 21 = .ok (.iaload, 1) := by decide +kernel
theorem dX4_counts_22 : decode cX4_counts 22 = .ok (.aload_n 0, 1) := by decide +kernel
theorem dX4_counts_23 : decode cX4_counts 23 = .ok (.getfield 39, 3) := by decide +kernel
theorem dX4_counts_26 : decode cX4_counts 26 = .ok (.iload_n 2, 1) := by decide +kernel
theorem dX4_counts_27 : decode cX4_counts 27 = .ok (.iaload, 1) := by decide +kernel
theorem dX4_counts_28 : decode cX4_counts 28 = .ok (.if_icmp .eq 5, 3) := by decide +kernel
theorem dX4_counts_31 : decode cX4_counts 31 = .ok (.iconst 0, 1) := by decide +kernel
theorem dX4_counts_32 : decode cX4_counts 32 = .ok (.ireturn, 1) := by decide +kernel
theorem dX4_counts_33 : decode cX4_counts 33 = .ok (.aload_n 0, 1) := by decide +kernel
theorem dX4_counts_34 : decode cX4_counts 34 = .ok (.getfield 7, 3) := by decide +kernel
theorem dX4_counts_37 : decode cX4_counts 37 = .ok (.iload_n 1, 1) := by decide +kernel
theorem dX4_counts_38 : decode cX4_counts 38 = .ok (.iaload, 1) := by decide +kernel
theorem dX4_counts_39 : decode cX4_counts 39 = .ok (.iconst 1, 1) := by decide +kernel
theorem dX4_counts_40 : decode cX4_counts 40 = .ok (.if_icmp .ne 21, 3) := by decide +kernel
theorem dX4_counts_43 : decode cX4_counts 43 = .ok (.aload_n 0, 1) := by decide +kernel
theorem dX4_counts_44 : decode cX4_counts 44 = .ok (.getfield 36, 3) := by decide +kernel
theorem dX4_counts_47 : decode cX4_counts 47 = .ok (.iload_n 2, 1) := by decide +kernel
theorem dX4_counts_48 : decode cX4_counts 48 = .ok (.iaload, 1) := by decide +kernel
theorem dX4_counts_49 : decode cX4_counts 49 = .ok (.iconst 1, 1) := by decide +kernel
theorem dX4_counts_50 : decode cX4_counts 50 = .ok (.if_icmp .ne 7, 3) := by decide +kernel
theorem dX4_counts_53 : decode cX4_counts 53 = .ok (.iconst 1, 1) := by decide +kernel
theorem dX4_counts_54 : decode cX4_counts 54 = .ok (.goto 32, 3) := by decide +kernel
theorem dX4_counts_57 : decode cX4_counts 57 = .ok (.iconst 0, 1) := by decide +kernel
theorem dX4_counts_58 : decode cX4_counts 58 = .ok (.goto 28, 3) := by decide +kernel
theorem dX4_counts_61 : decode cX4_counts 61 = .ok (.aload_n 0, 1) := by decide +kernel
theorem dX4_counts_62 : decode cX4_counts 62 = .ok (.getfield 36, 3) := by decide +kernel
theorem dX4_counts_65 : decode cX4_counts 65 = .ok (.iload_n 2, 1) := by decide +kernel
theorem dX4_counts_66 : decode cX4_counts 66 = .ok (.iaload, 1) := by decide +kernel
theorem dX4_counts_67 : decode cX4_counts 67 = .ok (.iconst 2, 1) := by decide +kernel
theorem dX4_counts_68 : decode cX4_counts 68 = .ok (.if_icmp .eq 13, 3) := by decide +kernel
theorem dX4_counts_71 : decode cX4_counts 71 = .ok (.aload_n 0, 1) := by decide +kernel
theorem dX4_counts_72 : decode cX4_counts 72 = .ok (.getfield 36, 3) := by decide +kernel
theorem dX4_counts_75 : decode cX4_counts 75 = .ok (.iload_n 2, 1) := by decide +kernel
theorem dX4_counts_76 : decode cX4_counts 76 = .ok (.iaload, 1) := by decide +kernel
theorem dX4_counts_77 : decode cX4_counts 77 = .ok (.iconst 3, 1) := by decide +kernel
theorem dX4_counts_78 : decode cX4_counts 78 = .ok (.if_icmp .ne 7, 3) := by decide +kernel
theorem dX4_counts_81 : decode cX4_counts 81 = .ok (.iconst 1, 1) := by decide +kernel
theorem dX4_counts_82 : decode cX4_counts 82 = .ok (.goto 4, 3) := by decide +kernel
theorem dX4_counts_85 : decode cX4_counts 85 = .ok (.iconst 0, 1) := by decide +kernel
theorem dX4_counts_86 : decode cX4_counts 86 = .ok (.ireturn, 1) := by decide +kernel
theorem dX4_wanted_0 : decode cX4_wanted 0 = .ok (.aload_n 0, 1) := by decide +kernel
theorem dX4_wanted_1 : decode cX4_wanted 1 = .ok (.getfield 16, 3) := by decide +kernel
theorem dX4_wanted_4 : decode cX4_wanted 4 = .ok (.iload_n 1, 1) := by decide +kernel
theorem dX4_wanted_5 : decode cX4_wanted 5 = .ok (.iaload, 1) := by decide +kernel
theorem dX4_wanted_6 : decode cX4_wanted 6 = .ok (.istore_n 2, 1) := by decide +kernel
theorem dX4_wanted_7 : decode cX4_wanted 7 = .ok (.aload_n 0, 1) := by decide +kernel
theorem dX4_wanted_8 : decode cX4_wanted 8 = .ok (.getfield 33, 3) := by decide +kernel
theorem dX4_wanted_11 : decode cX4_wanted 11 = .ok (.iload_n 2, 1) := by decide +kernel
theorem dX4_wanted_12 : decode cX4_wanted 12 = .ok (.baload, 1) := by decide +kernel
theorem dX4_wanted_13 : decode cX4_wanted 13 = .ok (.ifCond .eq 5, 3) := by decide +kernel
theorem dX4_wanted_16 : decode cX4_wanted 16 = .ok (.iconst 0, 1) := by decide +kernel
theorem dX4_wanted_17 : decode cX4_wanted 17 = .ok (.ireturn, 1) := by decide +kernel
theorem dX4_wanted_18 : decode cX4_wanted 18 = .ok (.aload_n 0, 1) := by decide +kernel
theorem dX4_wanted_19 : decode cX4_wanted 19 = .ok (.getfield 7, 3) := by decide +kernel
theorem dX4_wanted_22 : decode cX4_wanted 22 = .ok (.iload_n 1, 1) := by decide +kernel
theorem dX4_wanted_23 : decode cX4_wanted 23 = .ok (.iaload, 1) := by decide +kernel
theorem dX4_wanted_24 : decode cX4_wanted 24 = .ok (.ifCond .eq 13, 3) := by decide +kernel
theorem dX4_wanted_27 : decode cX4_wanted 27 = .ok (.aload_n 0, 1) := by decide +kernel
theorem dX4_wanted_28 : decode cX4_wanted 28 = .ok (.getfield 7, 3) := by decide +kernel
theorem dX4_wanted_31 : decode cX4_wanted 31 = .ok (.iload_n 1, 1) := by decide +kernel
theorem dX4_wanted_32 : decode cX4_wanted 32 = .ok (.iaload, 1) := by decide +kernel
theorem dX4_wanted_33 : decode cX4_wanted 33 = .ok (.iconst 2, 1) := by decide +kernel
theorem dX4_wanted_34 : decode cX4_wanted 34 = .ok (.if_icmp .ne 5, 3) := by decide +kernel
theorem dX4_wanted_37 : decode cX4_wanted 37 = .ok (.iconst 1, 1) := by decide +kernel
theorem dX4_wanted_38 : decode cX4_wanted 38 = .ok (.ireturn, 1) := by decide +kernel
theorem dX4_wanted_39 : decode cX4_wanted 39 = .ok (.aload_n 0, 1) := by decide +kernel
theorem dX4_wanted_40 : decode cX4_wanted 40 = .ok (.iload_n 1, 1) := by decide +kernel
theorem dX4_wanted_41 : decode cX4_wanted 41 = .ok (.invokevirtual 171, 3) := by decide +kernel
theorem dX4_wanted_44 : decode cX4_wanted 44 = .ok (.ifCond .eq 30, 3) := by decide +kernel
theorem dX4_wanted_47 : decode cX4_wanted 47 = .ok (.iconst 2, 1) := by decide +kernel
theorem dX4_wanted_48 : decode cX4_wanted 48 = .ok (.aload_n 0, 1) := by decide +kernel
theorem dX4_wanted_49 : decode cX4_wanted 49 = .ok (.getfield 45, 3) := by decide +kernel
theorem dX4_wanted_52 : decode cX4_wanted 52 = .ok (.iload_n 2, 1) := by decide +kernel
theorem dX4_wanted_53 : decode cX4_wanted 53 = .ok (.iaload, 1) := by decide +kernel
theorem dX4_wanted_54 : decode cX4_wanted 54 = .ok (.iconst 1, 1) := by decide +kernel
theorem dX4_wanted_55 : decode cX4_wanted 55 = .ok (.iadd, 1) := by decide +kernel
theorem dX4_wanted_56 : decode cX4_wanted 56 = .ok (.imul, 1) := by decide +kernel
theorem dX4_wanted_57 : decode cX4_wanted 57 = .ok (.aload_n 0, 1) := by decide +kernel
theorem dX4_wanted_58 : decode cX4_wanted 58 = .ok (.getfield 108, 3) := by decide +kernel
theorem dX4_wanted_61 : decode cX4_wanted 61 = .ok (.if_icmp .le 13, 3) := by decide +kernel
theorem dX4_wanted_64 : decode cX4_wanted 64 = .ok (.aload_n 0, 1) := by decide +kernel
theorem dX4_wanted_65 : decode cX4_wanted 65 = .ok (.getfield 36, 3) := by decide +kernel
theorem dX4_wanted_68 : decode cX4_wanted 68 = .ok (.iload_n 2, 1) := by decide +kernel
theorem dX4_wanted_69 : decode cX4_wanted 69 = .ok (.iaload, 1) := by decide +kernel
theorem dX4_wanted_70 : decode cX4_wanted 70 = .ok (.iconst 3, 1) := by decide +kernel
theorem dX4_wanted_71 : decode cX4_wanted 71 = .ok (.if_icmp .ne 5, 3) := by decide +kernel
theorem dX4_wanted_74 : decode cX4_wanted 74 = .ok (.iconst 0, 1) := by decide +kernel
theorem dX4_wanted_75 : decode cX4_wanted 75 = .ok (.ireturn, 1) := by decide +kernel
theorem dX4_wanted_76 : decode cX4_wanted 76 = .ok (.aload_n 0, 1) := by decide +kernel
theorem dX4_wanted_77 : decode cX4_wanted 77 = .ok (.getfield 36, 3) := by decide +kernel
theorem dX4_wanted_80 : decode cX4_wanted 80 = .ok (.iload_n 2, 1) := by decide +kernel
theorem dX4_wanted_81 : decode cX4_wanted 81 = .ok (.iaload, 1) := by decide +kernel
theorem dX4_wanted_82 : decode cX4_wanted 82 = .ok (.iconst 2, 1) := by decide +kernel
theorem dX4_wanted_83 : decode cX4_wanted 83 = .ok (.if_icmp .ne 28, 3) := by decide +kernel
theorem dX4_wanted_86 : decode cX4_wanted 86 = .ok (.aload_n 0, 1) := by decide +kernel
theorem dX4_wanted_87 : decode cX4_wanted 87 = .ok (.iload_n 2, 1) := by decide +kernel
theorem dX4_wanted_88 : decode cX4_wanted 88 = .ok (.invokevirtual 165, 3) := by decide +kernel
theorem dX4_wanted_91 : decode cX4_wanted 91 = .ok (.ifCond .eq 20, 3) := by decide +kernel
theorem dX4_wanted_94 : decode cX4_wanted 94 = .ok (.aload_n 0, 1) := by decide +kernel
theorem dX4_wanted_95 : decode cX4_wanted 95 = .ok (.aload_n 0, 1) := by decide +kernel
theorem dX4_wanted_96 : decode cX4_wanted 96 = .ok (.getfield 42, 3) := by decide +kernel
theorem dX4_wanted_99 : decode cX4_wanted 99 = .ok (.iload_n 2, 1) := by decide +kernel
theorem dX4_wanted_100 : decode cX4_wanted 100 = .ok (.iaload, 1) := by decide +kernel
theorem dX4_wanted_101 : decode cX4_wanted 101 = .ok (.invokevirtual 159, 3) := by decide +kernel
theorem dX4_wanted_104 : decode cX4_wanted 104 = .ok (.ifCond .eq 7, 3) := by decide +kernel
theorem dX4_wanted_107 : decode cX4_wanted 107 = .ok (.iconst 0, 1) := by decide +kernel
theorem dX4_wanted_108 : decode cX4_wanted 108 = .ok (.goto 7, 3) := by decide +kernel
theorem dX4_wanted_111 : decode cX4_wanted 111 = .ok (.aload_n 0, 1) := by decide +kernel
theorem dX4_wanted_112 : decode cX4_wanted 112 = .ok (.getfield 108, 3) := by decide +kernel
theorem dX4_wanted_115 : decode cX4_wanted 115 = .ok (.ireturn, 1) := by decide +kernel
theorem dX4_replies_0 : decode cX4_replies 0 = .ok (.aload_n 0, 1) := by decide +kernel
theorem dX4_replies_1 : decode cX4_replies 1 = .ok (.getfield 16, 3) := by decide +kernel
theorem dX4_replies_4 : decode cX4_replies 4 = .ok (.iload_n 1, 1) := by decide +kernel
theorem dX4_replies_5 : decode cX4_replies 5 = .ok (.iaload, 1) := by decide +kernel
theorem dX4_replies_6 : decode cX4_replies 6 = .ok (.istore_n 2, 1) := by decide +kernel
theorem dX4_replies_7 : decode cX4_replies 7 = .ok (.aload_n 0, 1) := by decide +kernel
theorem dX4_replies_8 : decode cX4_replies 8 = .ok (.getfield 7, 3) := by decide +kernel
theorem dX4_replies_11 : decode cX4_replies 11 = .ok (.iload_n 1, 1) := by decide +kernel
theorem dX4_replies_12 : decode cX4_replies 12 = .ok (.iaload, 1) := by decide +kernel
theorem dX4_replies_13 : decode cX4_replies 13 = .ok (.istore_n 3, 1) := by decide +kernel
theorem dX4_replies_14 : decode cX4_replies 14 = .ok (.aload_n 0, 1) := by decide +kernel
theorem dX4_replies_15 : decode cX4_replies 15 = .ok (.getfield 13, 3) := by decide +kernel
theorem dX4_replies_18 : decode cX4_replies 18 = .ok (.iload_n 1, 1) := by decide +kernel
theorem dX4_replies_19 : decode cX4_replies 19 = .ok (.iaload, 1) := by decide +kernel
theorem dX4_replies_20 : decode cX4_replies 20 = .ok (.istore 4, 2) := by decide +kernel
theorem dX4_replies_22 : decode cX4_replies 22 = .ok (.aload_n 0, 1) := by decide +kernel
theorem dX4_replies_23 : decode cX4_replies 23 = .ok (.getfield 19, 3) := by decide +kernel
theorem dX4_replies_26 : decode cX4_replies 26 = .ok (.iload_n 1, 1) := by decide +kernel
theorem dX4_replies_27 : decode cX4_replies 27 = .ok (.iaload, 1) := by decide +kernel
theorem dX4_replies_28 : decode cX4_replies 28 = .ok (.istore 5, 2) := by decide +kernel
theorem dX4_replies_30 : decode cX4_replies 30 = .ok (.iconst 0, 1) := by decide +kernel
theorem dX4_replies_31 : decode cX4_replies 31 = .ok (.istore 6, 2) := by decide +kernel
theorem dX4_replies_33 : decode cX4_replies 33 = .ok (.iload 6, 2) := by decide +kernel
theorem dX4_replies_35 : decode cX4_replies 35 = .ok (.aload_n 0, 1) := by decide +kernel
theorem dX4_replies_36 : decode cX4_replies 36 = .ok (.getfield 108, 3) := by decide +kernel
theorem dX4_replies_39 : decode cX4_replies 39 = .ok (.if_icmp .ge 52, 3) := by decide +kernel
theorem dX4_replies_42 : decode cX4_replies 42 = .ok (.iload_n 3, 1) := by decide +kernel
theorem dX4_replies_43 : decode cX4_replies 43 = .ok (.iconst 2, 1) := by decide +kernel
theorem dX4_replies_44 : decode cX4_replies 44 = .ok (.if_icmp .ne 47, 3) := by decide +kernel
theorem dX4_replies_47 : decode cX4_replies 47 = .ok (.bipush 31, 2) := by decide +kernel
theorem dX4_replies_49 : decode cX4_replies 49 = .ok (.iload_n 2, 1) := by decide +kernel
theorem dX4_replies_50 : decode cX4_replies 50 = .ok (.imul, 1) := by decide +kernel
theorem dX4_replies_51 : decode cX4_replies 51 = .ok (.iload 6, 2) := by decide +kernel
theorem dX4_replies_53 : decode cX4_replies 53 = .ok (.iadd, 1) := by decide +kernel
theorem dX4_replies_54 : decode cX4_replies 54 = .ok (.istore 7, 2) := by decide +kernel
theorem dX4_replies_56 : decode cX4_replies 56 = .ok (.aload_n 0, 1) := by decide +kernel
theorem dX4_replies_57 : decode cX4_replies 57 = .ok (.getfield 48, 3) := by decide +kernel
theorem dX4_replies_60 : decode cX4_replies 60 = .ok (.iload 7, 2) := by decide +kernel
theorem dX4_replies_62 : decode cX4_replies 62 = .ok (.aload_n 0, 1) := by decide +kernel
theorem dX4_replies_63 : decode cX4_replies 63 = .ok (.getfield 48, 3) := by decide +kernel
theorem dX4_replies_66 : decode cX4_replies 66 = .ok (.iload 7, 2) := by decide +kernel
theorem dX4_replies_68 : decode cX4_replies 68 = .ok (.iaload, 1) := by decide +kernel
theorem dX4_replies_69 : decode cX4_replies 69 = .ok (.aload_n 0, 1) := by decide +kernel
theorem dX4_replies_70 : decode cX4_replies 70 = .ok (.getfield 23, 3) := by decide +kernel
theorem dX4_replies_73 : decode cX4_replies 73 = .ok (.bipush 31, 2) := by decide +kernel
theorem dX4_replies_75 : decode cX4_replies 75 = .ok (.iload_n 1, 1) := by decide +kernel
theorem dX4_replies_76 : decode cX4_replies 76 = .ok (.imul, 1) := by decide +kernel
theorem dX4_replies_77 : decode cX4_replies 77 = .ok (.iload 6, 2) := by decide +kernel
theorem dX4_replies_79 : decode cX4_replies 79 = .ok (.iadd, 1) := by decide +kernel
theorem dX4_replies_80 : decode cX4_replies 80 = .ok (.iaload, 1) := by decide +kernel
theorem dX4_replies_81 : decode cX4_replies 81 = .ok (.invokestatic 174, 3) := by decide +kernel
theorem dX4_replies_84 : decode cX4_replies 84 = .ok (.iastore, 1) := by decide +kernel
theorem dX4_replies_85 : decode cX4_replies 85 = .ok (.iinc 6 1, 3) := by decide +kernel
theorem dX4_replies_88 : decode cX4_replies 88 = .ok (.goto (-55), 3) := by decide +kernel
theorem dX4_replies_91 : decode cX4_replies 91 = .ok (.aload_n 0, 1) := by decide +kernel
theorem dX4_replies_92 : decode cX4_replies 92 = .ok (.iload_n 3, 1) := by decide +kernel
theorem dX4_replies_93 : decode cX4_replies 93 = .ok (.iconst 2, 1) := by decide +kernel
theorem dX4_replies_94 : decode cX4_replies 94 = .ok (.if_icmp .ne 7, 3) := by decide +kernel
theorem dX4_replies_97 : decode cX4_replies 97 = .ok (.iconst 3, 1) := by decide +kernel
theorem dX4_replies_98 : decode cX4_replies 98 = .ok (.goto 4, 3) := by decide +kernel
theorem dX4_replies_101 : decode cX4_replies 101 = .ok (.iconst 1, 1) := by decide +kernel
theorem dX4_replies_102 : decode cX4_replies 102 = .ok (.iload_n 2, 1) := by decide +kernel
theorem dX4_replies_103 : decode cX4_replies 103 = .ok (.iload 4, 2) := by decide +kernel
theorem dX4_replies_105 : decode cX4_replies 105 = .ok (.iload 5, 2) := by decide +kernel
theorem dX4_replies_107 : decode cX4_replies 107 = .ok (.invokevirtual 121, 3) := by decide +kernel
theorem dX4_replies_110 : decode cX4_replies 110 = .ok (.istore 6, 2) := by decide +kernel
theorem dX4_replies_112 : decode cX4_replies 112 = .ok (.iconst 0, 1) := by decide +kernel
theorem dX4_replies_113 : decode cX4_replies 113 = .ok (.istore 7, 2) := by decide +kernel
theorem dX4_replies_115 : decode cX4_replies 115 = .ok (.iload 7, 2) := by decide +kernel
theorem dX4_replies_117 : decode cX4_replies 117 = .ok (.aload_n 0, 1) := by decide +kernel
theorem dX4_replies_118 : decode cX4_replies 118 = .ok (.getfield 108, 3) := by decide +kernel
theorem dX4_replies_121 : decode cX4_replies 121 = .ok (.if_icmp .ge 38, 3) := by decide +kernel
theorem dX4_replies_124 : decode cX4_replies 124 = .ok (.iload_n 3, 1) := by decide +kernel
theorem dX4_replies_125 : decode cX4_replies 125 = .ok (.ifCond .ne 34, 3) := by decide +kernel
theorem dX4_replies_128 : decode cX4_replies 128 = .ok (.aload_n 0, 1) := by decide +kernel
theorem dX4_replies_129 : decode cX4_replies 129 = .ok (.getfield 23, 3) := by decide +kernel
theorem dX4_replies_132 : decode cX4_replies 132 = .ok (.bipush 31, 2) := by decide +kernel
theorem dX4_replies_134 : decode cX4_replies 134 = .ok (.iload 6, 2) := by decide +kernel
theorem dX4_replies_136 : decode cX4_replies 136 = .ok (.imul, 1) := by decide +kernel
theorem dX4_replies_137 : decode cX4_replies 137 = .ok (.iload 7, 2) := by decide +kernel
theorem dX4_replies_139 : decode cX4_replies 139 = .ok (.iadd, 1) := by decide +kernel
theorem dX4_replies_140 : decode cX4_replies 140 = .ok (.aload_n 0, 1) := by decide +kernel
theorem dX4_replies_141 : decode cX4_replies 141 = .ok (.getfield 48, 3) := by decide +kernel
theorem dX4_replies_144 : decode cX4_replies 144 = .ok (.bipush 31, 2) := by decide +kernel
theorem dX4_replies_146 : decode cX4_replies 146 = .ok (.iload_n 2, 1) := by decide +kernel
theorem dX4_replies_147 : decode cX4_replies 147 = .ok (.imul, 1) := by decide +kernel
theorem dX4_replies_148 : decode cX4_replies 148 = .ok (.iload 7, 2) := by decide +kernel
theorem dX4_replies_150 : decode cX4_replies 150 = .ok (.iadd, 1) := by decide +kernel
theorem dX4_replies_151 : decode cX4_replies 151 = .ok (.iaload, 1) := by decide +kernel
theorem dX4_replies_152 : decode cX4_replies 152 = .ok (.iastore, 1) := by decide +kernel
theorem dX4_replies_153 : decode cX4_replies 153 = .ok (.iinc 7 1, 3) := by decide +kernel
theorem dX4_replies_156 : decode cX4_replies 156 = .ok (.goto (-41), 3) := by decide +kernel
theorem dX4_replies_159 : decode cX4_replies 159 = .ok (.return_, 1) := by decide +kernel
theorem dX4_hears_0 : decode cX4_hears 0 = .ok (.aload_n 0, 1) := by decide +kernel
theorem dX4_hears_1 : decode cX4_hears 1 = .ok (.getfield 16, 3) := by decide +kernel
theorem dX4_hears_4 : decode cX4_hears 4 = .ok (.iload_n 1, 1) := by decide +kernel
theorem dX4_hears_5 : decode cX4_hears 5 = .ok (.iaload, 1) := by decide +kernel
theorem dX4_hears_6 : decode cX4_hears 6 = .ok (.istore_n 2, 1) := by decide +kernel
theorem dX4_hears_7 : decode cX4_hears 7 = .ok (.aload_n 0, 1) := by decide +kernel
theorem dX4_hears_8 : decode cX4_hears 8 = .ok (.getfield 45, 3) := by decide +kernel
theorem dX4_hears_11 : decode cX4_hears 11 = .ok (.iload_n 2, 1) := by decide +kernel
theorem dX4_hears_12 : decode cX4_hears 12 = .ok (.dup2, 1) := by decide +kernel
theorem dX4_hears_13 : decode cX4_hears 13 = .ok (.iaload, 1) := by decide +kernel
theorem dX4_hears_14 : decode cX4_hears 14 = .ok (.iconst 1, 1) := by decide +kernel
theorem dX4_hears_15 : decode cX4_hears 15 = .ok (.iadd, 1) := by decide +kernel
theorem dX4_hears_16 : decode cX4_hears 16 = .ok (.iastore, 1) := by decide +kernel
theorem dX4_hears_17 : decode cX4_hears 17 = .ok (.iconst 0, 1) := by decide +kernel
theorem dX4_hears_18 : decode cX4_hears 18 = .ok (.istore_n 3, 1) := by decide +kernel
theorem dX4_hears_19 : decode cX4_hears 19 = .ok (.iload_n 3, 1) := by decide +kernel
theorem dX4_hears_20 : decode cX4_hears 20 = .ok (.aload_n 0, 1) := by decide +kernel
theorem dX4_hears_21 : decode cX4_hears 21 = .ok (.getfield 108, 3) := by decide +kernel
theorem dX4_hears_24 : decode cX4_hears 24 = .ok (.if_icmp .ge 55, 3) := by decide +kernel
theorem dX4_hears_27 : decode cX4_hears 27 = .ok (.aload_n 0, 1) := by decide +kernel
theorem dX4_hears_28 : decode cX4_hears 28 = .ok (.getfield 7, 3) := by decide +kernel
theorem dX4_hears_31 : decode cX4_hears 31 = .ok (.iload_n 1, 1) := by decide +kernel
theorem dX4_hears_32 : decode cX4_hears 32 = .ok (.iaload, 1) := by decide +kernel
theorem dX4_hears_33 : decode cX4_hears 33 = .ok (.iconst 1, 1) := by decide +kernel
theorem dX4_hears_34 : decode cX4_hears 34 = .ok (.if_icmp .ne 45, 3) := by decide +kernel
theorem dX4_hears_37 : decode cX4_hears 37 = .ok (.bipush 31, 2) := by decide +kernel
theorem dX4_hears_39 : decode cX4_hears 39 = .ok (.iload_n 2, 1) := by decide +kernel
theorem dX4_hears_40 : decode cX4_hears 40 = .ok (.imul, 1) := by decide +kernel
theorem dX4_hears_41 : decode cX4_hears 41 = .ok (.iload_n 3, 1) := by decide +kernel
theorem dX4_hears_42 : decode cX4_hears 42 = .ok (.iadd, 1) := by decide +kernel
theorem dX4_hears_43 : decode cX4_hears 43 = .ok (.istore 4, 2) := by decide +kernel
theorem dX4_hears_45 : decode cX4_hears 45 = .ok (.aload_n 0, 1) := by decide +kernel
theorem dX4_hears_46 : decode cX4_hears 46 = .ok (.getfield 57, 3) := by decide +kernel
theorem dX4_hears_49 : decode cX4_hears 49 = .ok (.iload 4, 2) := by decide +kernel
theorem dX4_hears_51 : decode cX4_hears 51 = .ok (.aload_n 0, 1) := by decide +kernel
theorem dX4_hears_52 : decode cX4_hears 52 = .ok (.getfield 57, 3) := by decide +kernel
theorem dX4_hears_55 : decode cX4_hears 55 = .ok (.iload 4, 2) := by decide +kernel
theorem dX4_hears_57 : decode cX4_hears 57 = .ok (.iaload, 1) := by decide +kernel
theorem dX4_hears_58 : decode cX4_hears 58 = .ok (.aload_n 0, 1) := by decide +kernel
theorem dX4_hears_59 : decode cX4_hears 59 = .ok (.getfield 23, 3) := by decide +kernel
theorem dX4_hears_62 : decode cX4_hears 62 = .ok (.bipush 31, 2) := by decide +kernel
theorem dX4_hears_64 : decode cX4_hears 64 = .ok (.iload_n 1, 1) := by decide +kernel
theorem dX4_hears_65 : decode cX4_hears 65 = .ok (.imul, 1) := by decide +kernel
theorem dX4_hears_66 : decode cX4_hears 66 = .ok (.iload_n 3, 1) := by decide +kernel
theorem dX4_hears_67 : decode cX4_hears 67 = .ok (.iadd, 1) := by decide +kernel
theorem dX4_hears_68 : decode cX4_hears 68 = .ok (.iaload, 1) := by decide +kernel
theorem dX4_hears_69 : decode cX4_hears 69 = .ok (.invokestatic 174, 3) := by decide +kernel
theorem dX4_hears_72 : decode cX4_hears 72 = .ok (.iastore, 1) := by decide +kernel
theorem dX4_hears_73 : decode cX4_hears 73 = .ok (.iinc 3 1, 3) := by decide +kernel
theorem dX4_hears_76 : decode cX4_hears 76 = .ok (.goto (-57), 3) := by decide +kernel
theorem dX4_hears_79 : decode cX4_hears 79 = .ok (.iconst 2, 1) := by decide +kernel
theorem dX4_hears_80 : decode cX4_hears 80 = .ok (.aload_n 0, 1) := by decide +kernel
theorem dX4_hears_81 : decode cX4_hears 81 = .ok (.getfield 45, 3) := by decide +kernel
theorem dX4_hears_84 : decode cX4_hears 84 = .ok (.iload_n 2, 1) := by decide +kernel
theorem dX4_hears_85 : decode cX4_hears 85 = .ok (.iaload, 1) := by decide +kernel
theorem dX4_hears_86 : decode cX4_hears 86 = .ok (.imul, 1) := by decide +kernel
theorem dX4_hears_87 : decode cX4_hears 87 = .ok (.aload_n 0, 1) := by decide +kernel
theorem dX4_hears_88 : decode cX4_hears 88 = .ok (.getfield 108, 3) := by decide +kernel
theorem dX4_hears_91 : decode cX4_hears 91 = .ok (.if_icmp .gt 4, 3) := by decide +kernel
theorem dX4_hears_94 : decode cX4_hears 94 = .ok (.return_, 1) := by decide +kernel
theorem dX4_hears_95 : decode cX4_hears 95 = .ok (.aload_n 0, 1) := by decide +kernel
theorem dX4_hears_96 : decode cX4_hears 96 = .ok (.getfield 36, 3) := by decide +kernel
theorem dX4_hears_99 : decode cX4_hears 99 = .ok (.iload_n 2, 1) := by decide +kernel
theorem dX4_hears_100 : decode cX4_hears 100 = .ok (.iaload, 1) := by decide +kernel
theorem dX4_hears_101 : decode cX4_hears 101 = .ok (.iconst 1, 1) := by decide +kernel
theorem dX4_hears_102 : decode cX4_hears 102 = .ok (.if_icmp .ne 61, 3) := by decide +kernel
theorem dX4_hears_105 : decode cX4_hears 105 = .ok (.iconst 0, 1) := by decide +kernel
theorem dX4_hears_106 : decode cX4_hears 106 = .ok (.istore_n 3, 1) := by decide +kernel
theorem dX4_hears_107 : decode cX4_hears 107 = .ok (.iload_n 3, 1) := by decide +kernel
theorem dX4_hears_108 : decode cX4_hears 108 = .ok (.aload_n 0, 1) := by decide +kernel
theorem dX4_hears_109 : decode cX4_hears 109 = .ok (.getfield 108, 3) := by decide +kernel
theorem dX4_hears_112 : decode cX4_hears 112 = .ok (.if_icmp .ge 31, 3) := by decide +kernel
theorem dX4_hears_115 : decode cX4_hears 115 = .ok (.aload_n 0, 1) := by decide +kernel
theorem dX4_hears_116 : decode cX4_hears 116 = .ok (.getfield 60, 3) := by decide +kernel
theorem dX4_hears_119 : decode cX4_hears 119 = .ok (.bipush 31, 2) := by decide +kernel
theorem dX4_hears_121 : decode cX4_hears 121 = .ok (.iload_n 2, 1) := by decide +kernel
theorem dX4_hears_122 : decode cX4_hears 122 = .ok (.imul, 1) := by decide +kernel
theorem dX4_hears_123 : decode cX4_hears 123 = .ok (.iload_n 3, 1) := by decide +kernel
theorem dX4_hears_124 : decode cX4_hears 124 = .ok (.iadd, 1) := by decide +kernel
theorem dX4_hears_125 : decode cX4_hears 125 = .ok (.aload_n 0, 1) := by decide +kernel
theorem dX4_hears_126 : decode cX4_hears 126 = .ok (.getfield 57, 3) := by decide +kernel
theorem dX4_hears_129 : decode cX4_hears 129 = .ok (.bipush 31, 2) := by decide +kernel
theorem dX4_hears_131 : decode cX4_hears 131 = .ok (.iload_n 2, 1) := by decide +kernel
theorem dX4_hears_132 : decode cX4_hears 132 = .ok (.imul, 1) := by decide +kernel
theorem dX4_hears_133 : decode cX4_hears 133 = .ok (.iload_n 3, 1) := by decide +kernel
theorem dX4_hears_134 : decode cX4_hears 134 = .ok (.iadd, 1) := by decide +kernel
theorem dX4_hears_135 : decode cX4_hears 135 = .ok (.iaload, 1) := by decide +kernel
theorem dX4_hears_136 : decode cX4_hears 136 = .ok (.iastore, 1) := by decide +kernel
theorem dX4_hears_137 : decode cX4_hears 137 = .ok (.iinc 3 1, 3) := by decide +kernel
theorem dX4_hears_140 : decode cX4_hears 140 = .ok (.goto (-33), 3) := by decide +kernel
theorem dX4_hears_143 : decode cX4_hears 143 = .ok (.aload_n 0, 1) := by decide +kernel
theorem dX4_hears_144 : decode cX4_hears 144 = .ok (.getfield 36, 3) := by decide +kernel
theorem dX4_hears_147 : decode cX4_hears 147 = .ok (.iload_n 2, 1) := by decide +kernel
theorem dX4_hears_148 : decode cX4_hears 148 = .ok (.iconst 2, 1) := by decide +kernel
theorem dX4_hears_149 : decode cX4_hears 149 = .ok (.iastore, 1) := by decide +kernel
theorem dX4_hears_150 : decode cX4_hears 150 = .ok (.aload_n 0, 1) := by decide +kernel
theorem dX4_hears_151 : decode cX4_hears 151 = .ok (.iload_n 2, 1) := by decide +kernel
theorem dX4_hears_152 : decode cX4_hears 152 = .ok (.iconst 2, 1) := by decide +kernel
theorem dX4_hears_153 : decode cX4_hears 153 = .ok (.aload_n 0, 1) := by decide +kernel
theorem dX4_hears_154 : decode cX4_hears 154 = .ok (.getfield 60, 3) := by decide +kernel
theorem dX4_hears_157 : decode cX4_hears 157 = .ok (.invokevirtual 125, 3) := by decide +kernel
theorem dX4_hears_160 : decode cX4_hears 160 = .ok (.goto 26, 3) := by decide +kernel
theorem dX4_hears_163 : decode cX4_hears 163 = .ok (.aload_n 0, 1) := by decide +kernel
theorem dX4_hears_164 : decode cX4_hears 164 = .ok (.getfield 36, 3) := by decide +kernel
theorem dX4_hears_167 : decode cX4_hears 167 = .ok (.iload_n 2, 1) := by decide +kernel
theorem dX4_hears_168 : decode cX4_hears 168 = .ok (.iaload, 1) := by decide +kernel
theorem dX4_hears_169 : decode cX4_hears 169 = .ok (.iconst 2, 1) := by decide +kernel
theorem dX4_hears_170 : decode cX4_hears 170 = .ok (.if_icmp .ne 11, 3) := by decide +kernel
theorem dX4_hears_173 : decode cX4_hears 173 = .ok (.aload_n 0, 1) := by decide +kernel
theorem dX4_hears_174 : decode cX4_hears 174 = .ok (.iload_n 2, 1) := by decide +kernel
theorem dX4_hears_175 : decode cX4_hears 175 = .ok (.invokevirtual 180, 3) := by decide +kernel
theorem dX4_hears_178 : decode cX4_hears 178 = .ok (.goto 8, 3) := by decide +kernel
theorem dX4_hears_181 : decode cX4_hears 181 = .ok (.aload_n 0, 1) := by decide +kernel
theorem dX4_hears_182 : decode cX4_hears 182 = .ok (.iload_n 2, 1) := by decide +kernel
theorem dX4_hears_183 : decode cX4_hears 183 = .ok (.invokevirtual 162, 3) := by decide +kernel
theorem dX4_hears_186 : decode cX4_hears 186 = .ok (.return_, 1) := by decide +kernel
theorem dX4_come_0 : decode cX4_come 0 = .ok (.aload_n 0, 1) := by decide +kernel
theorem dX4_come_1 : decode cX4_come 1 = .ok (.getfield 30, 3) := by decide +kernel
theorem dX4_come_4 : decode cX4_come 4 = .ok (.iload_n 1, 1) := by decide +kernel
theorem dX4_come_5 : decode cX4_come 5 = .ok (.iaload, 1) := by decide +kernel
theorem dX4_come_6 : decode cX4_come 6 = .ok (.istore_n 2, 1) := by decide +kernel
theorem dX4_come_7 : decode cX4_come 7 = .ok (.aload_n 0, 1) := by decide +kernel
theorem dX4_come_8 : decode cX4_come 8 = .ok (.aload_n 0, 1) := by decide +kernel
theorem dX4_come_9 : decode cX4_come 9 = .ok (.iload_n 2, 1) := by decide +kernel
theorem dX4_come_10 : decode cX4_come 10 = .ok (.invokevirtual 183, 3) := by decide +kernel
theorem dX4_come_13 : decode cX4_come 13 = .ok (.iconst 1, 1) := by decide +kernel
theorem dX4_come_14 : decode cX4_come 14 = .ok (.isub, 1) := by decide +kernel
theorem dX4_come_15 : decode cX4_come 15 = .ok (.invokevirtual 132, 3) := by decide +kernel
theorem dX4_come_18 : decode cX4_come 18 = .ok (.ifCond .ne 5, 3) := by decide +kernel
theorem dX4_come_21 : decode cX4_come 21 = .ok (.iconst (-1), 1) := by decide +kernel
theorem dX4_come_22 : decode cX4_come 22 = .ok (.ireturn, 1) := by decide +kernel
theorem dX4_come_23 : decode cX4_come 23 = .ok (.iload_n 1, 1) := by decide +kernel
theorem dX4_come_24 : decode cX4_come 24 = .ok (.iconst 1, 1) := by decide +kernel
theorem dX4_come_25 : decode cX4_come 25 = .ok (.iadd, 1) := by decide +kernel
theorem dX4_come_26 : decode cX4_come 26 = .ok (.istore_n 3, 1) := by decide +kernel
theorem dX4_come_27 : decode cX4_come 27 = .ok (.iload_n 3, 1) := by decide +kernel
theorem dX4_come_28 : decode cX4_come 28 = .ok (.aload_n 0, 1) := by decide +kernel
theorem dX4_come_29 : decode cX4_come 29 = .ok (.getfield 115, 3) := by decide +kernel
theorem dX4_come_32 : decode cX4_come 32 = .ok (.if_icmp .ge 23, 3) := by decide +kernel
theorem dX4_come_35 : decode cX4_come 35 = .ok (.aload_n 0, 1) := by decide +kernel
theorem dX4_come_36 : decode cX4_come 36 = .ok (.getfield 30, 3) := by decide +kernel
theorem dX4_come_39 : decode cX4_come 39 = .ok (.iload_n 3, 1) := by decide +kernel
theorem dX4_come_40 : decode cX4_come 40 = .ok (.iconst 1, 1) := by decide +kernel
theorem dX4_come_41 : decode cX4_come 41 = .ok (.isub, 1) := by decide +kernel
theorem dX4_come_42 : decode cX4_come 42 = .ok (.aload_n 0, 1) := by decide +kernel
theorem dX4_come_43 : decode cX4_come 43 = .ok (.getfield 30, 3) := by decide +kernel
theorem dX4_come_46 : decode cX4_come 46 = .ok (.iload_n 3, 1) := by decide +kernel
theorem dX4_come_47 : decode cX4_come 47 = .ok (.iaload, 1) := by decide +kernel
theorem dX4_come_48 : decode cX4_come 48 = .ok (.iastore, 1) := by decide +kernel
theorem dX4_come_49 : decode cX4_come 49 = .ok (.iinc 3 1, 3) := by decide +kernel
theorem dX4_come_52 : decode cX4_come 52 = .ok (.goto (-25), 3) := by decide +kernel
theorem dX4_come_55 : decode cX4_come 55 = .ok (.aload_n 0, 1) := by decide +kernel
theorem dX4_come_56 : decode cX4_come 56 = .ok (.dup, 1) := by decide +kernel
theorem dX4_come_57 : decode cX4_come 57 = .ok (.getfield 115, 3) := by decide +kernel
theorem dX4_come_60 : decode cX4_come 60 = .ok (.iconst 1, 1) := by decide +kernel
theorem dX4_come_61 : decode cX4_come 61 = .ok (.isub, 1) := by decide +kernel
theorem dX4_come_62 : decode cX4_come 62 = .ok (.putfield 115, 3) := by decide +kernel
theorem dX4_come_65 : decode cX4_come 65 = .ok (.aload_n 0, 1) := by decide +kernel
theorem dX4_come_66 : decode cX4_come 66 = .ok (.dup, 1) := by decide +kernel
theorem dX4_come_67 : decode cX4_come 67 = .ok (.getfield 186, 3) := by decide +kernel
theorem dX4_come_70 : decode cX4_come 70 = .ok (.iconst 1, 1) := by decide +kernel
theorem dX4_come_71 : decode cX4_come 71 = .ok (.iadd, 1) := by decide +kernel
theorem dX4_come_72 : decode cX4_come 72 = .ok (.putfield 186, 3) := by decide +kernel
theorem dX4_come_75 : decode cX4_come 75 = .ok (.aload_n 0, 1) := by decide +kernel
theorem dX4_come_76 : decode cX4_come 76 = .ok (.dup, 1) := by decide +kernel
theorem dX4_come_77 : decode cX4_come 77 = .ok (.getfield 136, 3) := by decide +kernel
theorem dX4_come_80 : decode cX4_come 80 = .ok (.iconst 1, 1) := by decide +kernel
theorem dX4_come_81 : decode cX4_come 81 = .ok (.iadd, 1) := by decide +kernel
theorem dX4_come_82 : decode cX4_come 82 = .ok (.putfield 136, 3) := by decide +kernel
theorem dX4_come_85 : decode cX4_come 85 = .ok (.aload_n 0, 1) := by decide +kernel
theorem dX4_come_86 : decode cX4_come 86 = .ok (.getfield 33, 3) := by decide +kernel
theorem dX4_come_89 : decode cX4_come 89 = .ok (.aload_n 0, 1) := by decide +kernel
theorem dX4_come_90 : decode cX4_come 90 = .ok (.getfield 16, 3) := by decide +kernel
theorem dX4_come_93 : decode cX4_come 93 = .ok (.iload_n 2, 1) := by decide +kernel
theorem dX4_come_94 : decode cX4_come 94 = .ok (.iaload, 1) := by decide +kernel
theorem dX4_come_95 : decode cX4_come 95 = .ok (.baload, 1) := by decide +kernel
theorem dX4_come_96 : decode cX4_come 96 = .ok (.ifCond .ne 7, 3) := by decide +kernel
theorem dX4_come_99 : decode cX4_come 99 = .ok (.iconst 1, 1) := by decide +kernel
theorem dX4_come_100 : decode cX4_come 100 = .ok (.goto 4, 3) := by decide +kernel
theorem dX4_come_103 : decode cX4_come 103 = .ok (.iconst 0, 1) := by decide +kernel
theorem dX4_come_104 : decode cX4_come 104 = .ok (.istore_n 3, 1) := by decide +kernel
theorem dX4_come_105 : decode cX4_come 105 = .ok (.iload_n 3, 1) := by decide +kernel
theorem dX4_come_106 : decode cX4_come 106 = .ok (.ifCond .eq 30, 3) := by decide +kernel
theorem dX4_come_109 : decode cX4_come 109 = .ok (.aload_n 0, 1) := by decide +kernel
theorem dX4_come_110 : decode cX4_come 110 = .ok (.getfield 7, 3) := by decide +kernel
theorem dX4_come_113 : decode cX4_come 113 = .ok (.iload_n 2, 1) := by decide +kernel
theorem dX4_come_114 : decode cX4_come 114 = .ok (.iaload, 1) := by decide +kernel
theorem dX4_come_115 : decode cX4_come 115 = .ok (.ifCond .eq 13, 3) := by decide +kernel
theorem dX4_come_118 : decode cX4_come 118 = .ok (.aload_n 0, 1) := by decide +kernel
theorem dX4_come_119 : decode cX4_come 119 = .ok (.getfield 7, 3) := by decide +kernel
theorem dX4_come_122 : decode cX4_come 122 = .ok (.iload_n 2, 1) := by decide +kernel
theorem dX4_come_123 : decode cX4_come 123 = .ok (.iaload, 1) := by decide +kernel
theorem dX4_come_124 : decode cX4_come 124 = .ok (.iconst 2, 1) := by decide +kernel
theorem dX4_come_125 : decode cX4_come 125 = .ok (.if_icmp .ne 11, 3) := by decide +kernel
theorem dX4_come_128 : decode cX4_come 128 = .ok (.aload_n 0, 1) := by decide +kernel
theorem dX4_come_129 : decode cX4_come 129 = .ok (.iload_n 2, 1) := by decide +kernel
theorem dX4_come_130 : decode cX4_come 130 = .ok (.invokevirtual 189, 3) := by decide +kernel
theorem dX4_come_133 : decode cX4_come 133 = .ok (.goto 20, 3) := by decide +kernel
theorem dX4_come_136 : decode cX4_come 136 = .ok (.iload_n 3, 1) := by decide +kernel
theorem dX4_come_137 : decode cX4_come 137 = .ok (.ifCond .eq 16, 3) := by decide +kernel
theorem dX4_come_140 : decode cX4_come 140 = .ok (.aload_n 0, 1) := by decide +kernel
theorem dX4_come_141 : decode cX4_come 141 = .ok (.iload_n 2, 1) := by decide +kernel
theorem dX4_come_142 : decode cX4_come 142 = .ok (.invokevirtual 171, 3) := by decide +kernel
theorem dX4_come_145 : decode cX4_come 145 = .ok (.ifCond .eq 8, 3) := by decide +kernel
theorem dX4_come_148 : decode cX4_come 148 = .ok (.aload_n 0, 1) := by decide +kernel
theorem dX4_come_149 : decode cX4_come 149 = .ok (.iload_n 2, 1) := by decide +kernel
theorem dX4_come_150 : decode cX4_come 150 = .ok (.invokevirtual 192, 3) := by decide +kernel
theorem dX4_come_153 : decode cX4_come 153 = .ok (.aload_n 0, 1) := by decide +kernel
theorem dX4_come_154 : decode cX4_come 154 = .ok (.getfield 26, 3) := by decide +kernel
theorem dX4_come_157 : decode cX4_come 157 = .ok (.iload_n 2, 1) := by decide +kernel
theorem dX4_come_158 : decode cX4_come 158 = .ok (.iconst 0, 1) := by decide +kernel
theorem dX4_come_159 : decode cX4_come 159 = .ok (.bastore, 1) := by decide +kernel
theorem dX4_come_160 : decode cX4_come 160 = .ok (.aload_n 0, 1) := by decide +kernel
theorem dX4_come_161 : decode cX4_come 161 = .ok (.getfield 7, 3) := by decide +kernel
theorem dX4_come_164 : decode cX4_come 164 = .ok (.iload_n 2, 1) := by decide +kernel
theorem dX4_come_165 : decode cX4_come 165 = .ok (.iaload, 1) := by decide +kernel
theorem dX4_come_166 : decode cX4_come 166 = .ok (.ireturn, 1) := by decide +kernel
theorem dX4_deliver_0 : decode cX4_deliver 0 = .ok (.aload_n 0, 1) := by decide +kernel
theorem dX4_deliver_1 : decode cX4_deliver 1 = .ok (.iload_n 1, 1) := by decide +kernel
theorem dX4_deliver_2 : decode cX4_deliver 2 = .ok (.ifCond .lt 11, 3) := by decide +kernel
theorem dX4_deliver_5 : decode cX4_deliver 5 = .ok (.iload_n 1, 1) := by decide +kernel
theorem dX4_deliver_6 : decode cX4_deliver 6 = .ok (.aload_n 0, 1) := by decide +kernel
theorem dX4_deliver_7 : decode cX4_deliver 7 = .ok (.getfield 115, 3) := by decide +kernel
theorem dX4_deliver_10 : decode cX4_deliver 10 = .ok (.if_icmp .lt 7, 3) := by decide +kernel
theorem dX4_deliver_13 : decode cX4_deliver 13 = .ok (.iconst 1, 1) := by decide +kernel
theorem dX4_deliver_14 : decode cX4_deliver 14 = .ok (.goto 4, 3) := by decide +kernel
theorem dX4_deliver_17 : decode cX4_deliver 17 = .ok (.iconst 0, 1) := by decide +kernel
theorem dX4_deliver_18 : decode cX4_deliver 18 = .ok (.putfield 112, 3) := by decide +kernel
theorem dX4_deliver_21 : decode cX4_deliver 21 = .ok (.aload_n 0, 1) := by decide +kernel
theorem dX4_deliver_22 : decode cX4_deliver 22 = .ok (.getfield 112, 3) := by decide +kernel
theorem dX4_deliver_25 : decode cX4_deliver 25 = .ok (.ifCond .le 7, 3) := by decide +kernel
theorem dX4_deliver_28 : decode cX4_deliver 28 = .ok (.iconst 0, 1) := by decide +kernel
theorem dX4_deliver_29 : decode cX4_deliver 29 = .ok (.goto 8, 3) := by decide +kernel
theorem dX4_deliver_32 : decode cX4_deliver 32 = .ok (.aload_n 0, 1) := by decide +kernel
theorem dX4_deliver_33 : decode cX4_deliver 33 = .ok (.iload_n 1, 1) := by decide +kernel
theorem dX4_deliver_34 : decode cX4_deliver 34 = .ok (.invokevirtual 195, 3) := by decide +kernel
theorem dX4_deliver_37 : decode cX4_deliver 37 = .ok (.ireturn, 1) := by decide +kernel
theorem dX4_calm_0 : decode cX4_calm 0 = .ok (.aload_n 0, 1) := by decide +kernel
theorem dX4_calm_1 : decode cX4_calm 1 = .ok (.iload_n 1, 1) := by decide +kernel
theorem dX4_calm_2 : decode cX4_calm 2 = .ok (.ifCond .lt 10, 3) := by decide +kernel
theorem dX4_calm_5 : decode cX4_calm 5 = .ok (.iload_n 1, 1) := by decide +kernel
theorem dX4_calm_6 : decode cX4_calm 6 = .ok (.sipush 2000, 3) := by decide +kernel
theorem dX4_calm_9 : decode cX4_calm 9 = .ok (.if_icmp .le 7, 3) := by decide +kernel
theorem dX4_calm_12 : decode cX4_calm 12 = .ok (.iconst 1, 1) := by decide +kernel
theorem dX4_calm_13 : decode cX4_calm 13 = .ok (.goto 4, 3) := by decide +kernel
theorem dX4_calm_16 : decode cX4_calm 16 = .ok (.iconst 0, 1) := by decide +kernel
theorem dX4_calm_17 : decode cX4_calm 17 = .ok (.putfield 112, 3) := by decide +kernel
theorem dX4_calm_20 : decode cX4_calm 20 = .ok (.iconst 0, 1) := by decide +kernel
theorem dX4_calm_21 : decode cX4_calm 21 = .ok (.istore_n 2, 1) := by decide +kernel
theorem dX4_calm_22 : decode cX4_calm 22 = .ok (.aload_n 0, 1) := by decide +kernel
theorem dX4_calm_23 : decode cX4_calm 23 = .ok (.getfield 112, 3) := by decide +kernel
theorem dX4_calm_26 : decode cX4_calm 26 = .ok (.ifCond .ne 30, 3) := by decide +kernel
theorem dX4_calm_29 : decode cX4_calm 29 = .ok (.iload_n 2, 1) := by decide +kernel
theorem dX4_calm_30 : decode cX4_calm 30 = .ok (.iload_n 1, 1) := by decide +kernel
theorem dX4_calm_31 : decode cX4_calm 31 = .ok (.if_icmp .ge 25, 3) := by decide +kernel
theorem dX4_calm_34 : decode cX4_calm 34 = .ok (.aload_n 0, 1) := by decide +kernel
theorem dX4_calm_35 : decode cX4_calm 35 = .ok (.getfield 115, 3) := by decide +kernel
theorem dX4_calm_38 : decode cX4_calm 38 = .ok (.ifCond .le 18, 3) := by decide +kernel
theorem dX4_calm_41 : decode cX4_calm 41 = .ok (.aload_n 0, 1) := by decide +kernel
theorem dX4_calm_42 : decode cX4_calm 42 = .ok (.iconst 0, 1) := by decide +kernel
theorem dX4_calm_43 : decode cX4_calm 43 = .ok (.invokevirtual 195, 3) := by decide +kernel
theorem dX4_calm_46 : decode cX4_calm 46 = .ok (.iconst (-1), 1) := by decide +kernel
theorem dX4_calm_47 : decode cX4_calm 47 = .ok (.if_icmp .eq 9, 3) := by decide +kernel
theorem dX4_calm_50 : decode cX4_calm 50 = .ok (.iinc 2 1, 3) := by decide +kernel
theorem dX4_calm_53 : decode cX4_calm 53 = .ok (.goto (-31), 3) := by decide +kernel
theorem dX4_calm_56 : decode cX4_calm 56 = .ok (.iload_n 2, 1) := by decide +kernel
theorem dX4_calm_57 : decode cX4_calm 57 = .ok (.ireturn, 1) := by decide +kernel
theorem dX4_crash_0 : decode cX4_crash 0 = .ok (.aload_n 0, 1) := by decide +kernel
theorem dX4_crash_1 : decode cX4_crash 1 = .ok (.aload_n 0, 1) := by decide +kernel
theorem dX4_crash_2 : decode cX4_crash 2 = .ok (.iload_n 1, 1) := by decide +kernel
theorem dX4_crash_3 : decode cX4_crash 3 = .ok (.invokevirtual 143, 3) := by decide +kernel
theorem dX4_crash_6 : decode cX4_crash 6 = .ok (.ifCond .eq 7, 3) := by decide +kernel
theorem dX4_crash_9 : decode cX4_crash 9 = .ok (.iconst 0, 1) := by decide +kernel
theorem dX4_crash_10 : decode cX4_crash 10 = .ok (.goto 4, 3) := by decide +kernel
theorem dX4_crash_13 : decode cX4_crash 13 = .ok (.iconst 1, 1) := by decide +kernel
theorem dX4_crash_14 : decode cX4_crash 14 = .ok (.putfield 112, 3) := by decide +kernel
theorem dX4_crash_17 : decode cX4_crash 17 = .ok (.aload_n 0, 1) := by decide +kernel
theorem dX4_crash_18 : decode cX4_crash 18 = .ok (.getfield 112, 3) := by decide +kernel
theorem dX4_crash_21 : decode cX4_crash 21 = .ok (.ifCond .gt 12, 3) := by decide +kernel
theorem dX4_crash_24 : decode cX4_crash 24 = .ok (.aload_n 0, 1) := by decide +kernel
theorem dX4_crash_25 : decode cX4_crash 25 = .ok (.getfield 33, 3) := by decide +kernel
theorem dX4_crash_28 : decode cX4_crash 28 = .ok (.iload_n 1, 1) := by decide +kernel
theorem dX4_crash_29 : decode cX4_crash 29 = .ok (.baload, 1) := by decide +kernel
theorem dX4_crash_30 : decode cX4_crash 30 = .ok (.ifCond .eq 5, 3) := by decide +kernel
theorem dX4_crash_33 : decode cX4_crash 33 = .ok (.iconst 0, 1) := by decide +kernel
theorem dX4_crash_34 : decode cX4_crash 34 = .ok (.ireturn, 1) := by decide +kernel
theorem dX4_crash_35 : decode cX4_crash 35 = .ok (.aload_n 0, 1) := by decide +kernel
theorem dX4_crash_36 : decode cX4_crash 36 = .ok (.getfield 33, 3) := by decide +kernel
theorem dX4_crash_39 : decode cX4_crash 39 = .ok (.iload_n 1, 1) := by decide +kernel
theorem dX4_crash_40 : decode cX4_crash 40 = .ok (.iconst 1, 1) := by decide +kernel
theorem dX4_crash_41 : decode cX4_crash 41 = .ok (.bastore, 1) := by decide +kernel
theorem dX4_crash_42 : decode cX4_crash 42 = .ok (.aload_n 0, 1) := by decide +kernel
theorem dX4_crash_43 : decode cX4_crash 43 = .ok (.dup, 1) := by decide +kernel
theorem dX4_crash_44 : decode cX4_crash 44 = .ok (.getfield 136, 3) := by decide +kernel
theorem dX4_crash_47 : decode cX4_crash 47 = .ok (.iconst 1, 1) := by decide +kernel
theorem dX4_crash_48 : decode cX4_crash 48 = .ok (.iadd, 1) := by decide +kernel
theorem dX4_crash_49 : decode cX4_crash 49 = .ok (.putfield 136, 3) := by decide +kernel
theorem dX4_crash_52 : decode cX4_crash 52 = .ok (.iconst 1, 1) := by decide +kernel
theorem dX4_crash_53 : decode cX4_crash 53 = .ok (.ireturn, 1) := by decide +kernel
theorem dX4_isOperation_0 : decode cX4_isOperation 0 = .ok (.iload_n 1, 1) := by decide +kernel
theorem dX4_isOperation_1 : decode cX4_isOperation 1 = .ok (.iconst 1, 1) := by decide +kernel
theorem dX4_isOperation_2 : decode cX4_isOperation 2 = .ok (.if_icmp .lt 15, 3) := by decide +kernel
theorem dX4_isOperation_5 : decode cX4_isOperation 5 = .ok (.iload_n 1, 1) := by decide +kernel
theorem dX4_isOperation_6 : decode cX4_isOperation 6 = .ok (.aload_n 0, 1) := by decide +kernel
theorem dX4_isOperation_7 : decode cX4_isOperation 7 = .ok (.getfield 129, 3) := by decide +kernel
theorem dX4_isOperation_10 : decode cX4_isOperation 10 = .ok (.if_icmp .gt 7, 3) := by decide +kernel
theorem dX4_isOperation_13 : decode cX4_isOperation 13 = .ok (.iconst 1, 1) := by decide +kernel
theorem dX4_isOperation_14 : decode cX4_isOperation 14 = .ok (.goto 4, 3) := by decide +kernel
theorem dX4_isOperation_17 : decode cX4_isOperation 17 = .ok (.iconst 0, 1) := by decide +kernel
theorem dX4_isOperation_18 : decode cX4_isOperation 18 = .ok (.ireturn, 1) := by decide +kernel
