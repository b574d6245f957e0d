theorem dX5_melt_213 : decode cX5_melt 213 = .ok (.iastore, 1) := by decide +kernel
theorem dX5_melt_214 : decode cX5_melt 214 = .ok (.iconst 0, 1) := by decide +kernel
theorem dX5_melt_215 : decode cX5_melt 215 = .ok (.istore 4, 2) := by decide +kernel
theorem dX5_melt_217 : decode cX5_melt 217 = .ok (.iload 4, 2) := by decide +kernel
theorem dX5_melt_219 : decode cX5_melt 219 = .ok (.iconst 3, 1) := by decide +kernel
theorem dX5_melt_220 : decode cX5_melt 220 = .ok (.if_icmp .ge 34, 3) := by decide +kernel
theorem dX5_melt_223 : decode cX5_melt 223 = .ok (.aload_n 0, 1) := by decide +kernel
theorem dX5_melt_224 : decode cX5_melt 224 = .ok (.getfield 39, 3) := by decide +kernel
theorem dX5_melt_227 : decode cX5_melt 227 = .ok (.iconst 3, 1) := by decide +kernel
theorem dX5_melt_228 : decode cX5_melt 228 = .ok (.iload_n 1, 1) := by decide +kernel
theorem dX5_melt_229 : decode cX5_melt 229 = .ok (.imul, 1) := by decide +kernel
theorem dX5_melt_230 : decode cX5_melt 230 = .ok (.iload 4, 2) := by decide +kernel
theorem dX5_melt_232 : decode cX5_melt 232 = .ok (.iadd, 1) := by decide +kernel
theorem dX5_melt_233 : decode cX5_melt 233 = .ok (.dup2, 1) := by decide +kernel
theorem dX5_melt_234 : decode cX5_melt 234 = .ok (.iaload, 1) := by decide +kernel
theorem dX5_melt_235 : decode cX5_melt 235 = .ok (.aload_n 0, 1) := by decide +kernel
theorem dX5_melt_236 : decode cX5_melt 236 = .ok (.getfield 39, 3) := by decide +kernel
theorem dX5_melt_239 : decode cX5_melt 239 = .ok (.iconst 3, 1) := by decide +kernel
theorem dX5_melt_240 : decode cX5_melt 240 = .ok (.iload_n 2, 1) := by decide +kernel
theorem dX5_melt_241 : decode cX5_melt 241 = .ok (.imul, 1) := by decide +kernel
theorem dX5_melt_242 : decode cX5_melt 242 = .ok (.iload 4, 2) := by decide +kernel
theorem dX5_melt_244 : decode cX5_melt 244 = .ok (.iadd, 1) := by decide +kernel
theorem dX5_melt_245 : decode cX5_melt 245 = .ok (.iaload, 1) := by decide +kernel
theorem dX5_melt_246 : decode cX5_melt 246 = .ok (.ior, 1) := by decide +kernel
theorem dX5_melt_247 : decode cX5_melt 247 = .ok (.iastore, 1) := by decide +kernel
theorem dX5_melt_248 : decode cX5_melt 248 = .ok (.iinc 4 1, 3) := by decide +kernel
theorem dX5_melt_251 : decode cX5_melt 251 = .ok (.goto (-34), 3) := by decide +kernel
theorem dX5_melt_254 : decode cX5_melt 254 = .ok (.aload_n 0, 1) := by decide +kernel
theorem dX5_melt_255 : decode cX5_melt 255 = .ok (.getfield 29, 3) := by decide +kernel
theorem dX5_melt_258 : decode cX5_melt 258 = .ok (.iload_n 2, 1) := by decide +kernel
theorem dX5_melt_259 : decode cX5_melt 259 = .ok (.iload_n 1, 1) := by decide +kernel
theorem dX5_melt_260 : decode cX5_melt 260 = .ok (.iastore, 1) := by decide +kernel
theorem dX5_melt_261 : decode cX5_melt 261 = .ok (.iconst 1, 1) := by decide +kernel
theorem dX5_melt_262 : decode cX5_melt 262 = .ok (.ireturn, 1) := by decide +kernel
theorem dX5_vote_0 : decode cX5_vote 0 = .ok (.aload_n 0, 1) := by decide +kernel
theorem dX5_vote_1 : decode cX5_vote 1 = .ok (.iload_n 1, 1) := by decide +kernel
theorem dX5_vote_2 : decode cX5_vote 2 = .ok (.invokevirtual 111, 3) := by decide +kernel
theorem dX5_vote_5 : decode cX5_vote 5 = .ok (.ifCond .ne 7, 3) := by decide +kernel
theorem dX5_vote_8 : decode cX5_vote 8 = .ok (.sipush (-1001), 3) := by decide +kernel
theorem dX5_vote_11 : decode cX5_vote 11 = .ok (.ireturn, 1) := by decide +kernel
theorem dX5_vote_12 : decode cX5_vote 12 = .ok (.aload_n 0, 1) := by decide +kernel
theorem dX5_vote_13 : decode cX5_vote 13 = .ok (.getfield 29, 3) := by decide +kernel
theorem dX5_vote_16 : decode cX5_vote 16 = .ok (.iload_n 1, 1) := by decide +kernel
theorem dX5_vote_17 : decode cX5_vote 17 = .ok (.iaload, 1) := by decide +kernel
theorem dX5_vote_18 : decode cX5_vote 18 = .ok (.ifCond .lt 7, 3) := by decide +kernel
theorem dX5_vote_21 : decode cX5_vote 21 = .ok (.sipush (-1003), 3) := by decide +kernel
theorem dX5_vote_24 : decode cX5_vote 24 = .ok (.ireturn, 1) := by decide +kernel
theorem dX5_vote_25 : decode cX5_vote 25 = .ok (.aload_n 0, 1) := by decide +kernel
theorem dX5_vote_26 : decode cX5_vote 26 = .ok (.getfield 48, 3) := by decide +kernel
theorem dX5_vote_29 : decode cX5_vote 29 = .ok (.iload_n 1, 1) := by decide +kernel
theorem dX5_vote_30 : decode cX5_vote 30 = .ok (.dup2, 1) := by decide +kernel
theorem dX5_vote_31 : decode cX5_vote 31 = .ok (.iaload, 1) := by decide +kernel
theorem dX5_vote_32 : decode cX5_vote 32 = .ok (.iload_n 2, 1) := by decide +kernel
theorem dX5_vote_33 : decode cX5_vote 33 = .ok (.ifCond .eq 7, 3) := by decide +kernel
theorem dX5_vote_36 : decode cX5_vote 36 = .ok (.iconst 1, 1) := by decide +kernel
theorem dX5_vote_37 : decode cX5_vote 37 = .ok (.goto 4, 3) := by decide +kernel
theorem dX5_vote_40 : decode cX5_vote 40 = .ok (.iconst (-1), 1) := by decide +kernel
theorem dX5_vote_41 : decode cX5_vote 41 = .ok (.iadd, 1) := by decide +kernel
theorem dX5_vote_42 : decode cX5_vote 42 = .ok (.iastore, 1) := by decide +kernel
theorem dX5_vote_43 : decode cX5_vote 43 = .ok (.aload_n 0, 1) := by decide +kernel
theorem dX5_vote_44 : decode cX5_vote 44 = .ok (.getfield 48, 3) := by decide +kernel
theorem dX5_vote_47 : decode cX5_vote 47 = .ok (.iload_n 1, 1) := by decide +kernel
theorem dX5_vote_48 : decode cX5_vote 48 = .ok (.iaload, 1) := by decide +kernel
theorem dX5_vote_49 : decode cX5_vote 49 = .ok (.ireturn, 1) := by decide +kernel
theorem dX5_partMany_0 : decode cX5_partMany 0 = .ok (.iconst 0, 1) := by decide +kernel
theorem dX5_partMany_1 : decode cX5_partMany 1 = .ok (.istore_n 2, 1) := by decide +kernel
theorem dX5_partMany_2 : decode cX5_partMany 2 = .ok (.iconst 0, 1) := by decide +kernel
theorem dX5_partMany_3 : decode cX5_partMany 3 = .ok (.istore_n 3, 1) := by decide +kernel
theorem dX5_partMany_4 : decode cX5_partMany 4 = .ok (.iload_n 3, 1) := by decide +kernel
theorem dX5_partMany_5 : decode cX5_partMany 5 = .ok (.iconst 4, 1) := by decide +kernel
theorem dX5_partMany_6 : decode cX5_partMany 6 = .ok (.if_icmp .ge 30, 3) := by decide +kernel
theorem dX5_partMany_9 : decode cX5_partMany 9 = .ok (.iload_n 2, 1) := by decide +kernel
theorem dX5_partMany_10 : decode cX5_partMany 10 = .ok (.aload_n 0, 1) := by decide +kernel
theorem dX5_partMany_11 : decode cX5_partMany 11 = .ok (.getfield 51, 3) := by decide +kernel
theorem dX5_partMany_14 : decode cX5_partMany 14 = .ok (.iconst 4, 1) := by decide +kernel
theorem dX5_partMany_15 : decode cX5_partMany 15 = .ok (.iload_n 1, 1) := by decide +kernel
theorem dX5_partMany_16 : decode cX5_partMany 16 = .ok (.imul, 1) := by decide +kernel
theorem dX5_partMany_17 : decode cX5_partMany 17 = .ok (.iload_n 3, 1) := by decide +kernel
theorem dX5_partMany_18 : decode cX5_partMany 18 = .ok (.iadd, 1) := by decide +kernel
theorem dX5_partMany_19 : decode cX5_partMany 19 = .ok (.iaload, 1) := by decide +kernel
theorem dX5_partMany_20 : decode cX5_partMany 20 = .ok (.ifCond .lt 7, 3) := by decide +kernel
theorem dX5_partMany_23 : decode cX5_partMany 23 = .ok (.iconst 1, 1) := by decide +kernel
theorem dX5_partMany_24 : decode cX5_partMany 24 = .ok (.goto 4, 3) := by decide +kernel
theorem dX5_partMany_27 : decode cX5_partMany 27 = .ok (.iconst 0, 1) := by decide +kernel
theorem dX5_partMany_28 : decode cX5_partMany 28 = .ok (.iadd, 1) := by decide +kernel
theorem dX5_partMany_29 : decode cX5_partMany 29 = .ok (.istore_n 2, 1) := by decide +kernel
theorem dX5_partMany_30 : decode cX5_partMany 30 = .ok (.iinc 3 1, 3) := by decide +kernel
theorem dX5_partMany_33 : decode cX5_partMany 33 = .ok (.goto (-29), 3) := by decide +kernel
theorem dX5_partMany_36 : decode cX5_partMany 36 = .ok (.iload_n 2, 1) := by decide +kernel
theorem dX5_partMany_37 : decode cX5_partMany 37 = .ok (.ireturn, 1) := by decide +kernel
theorem dX5_told_0 : decode cX5_told 0 = .ok (.aload_n 0, 1) := by decide +kernel
theorem dX5_told_1 : decode cX5_told 1 = .ok (.iload_n 1, 1) := by decide +kernel
theorem dX5_told_2 : decode cX5_told 2 = .ok (.invokevirtual 111, 3) := by decide +kernel
theorem dX5_told_5 : decode cX5_told 5 = .ok (.ifCond .ne 7, 3) := by decide +kernel
theorem dX5_told_8 : decode cX5_told 8 = .ok (.sipush (-1001), 3) := by decide +kernel
theorem dX5_told_11 : decode cX5_told 11 = .ok (.ireturn, 1) := by decide +kernel
theorem dX5_told_12 : decode cX5_told 12 = .ok (.iload_n 2, 1) := by decide +kernel
theorem dX5_told_13 : decode cX5_told 13 = .ok (.i2l, 1) := by decide +kernel
theorem dX5_told_14 : decode cX5_told 14 = .ok (.lconst 0, 1) := by decide +kernel
theorem dX5_told_15 : decode cX5_told 15 = .ok (.ldc2_w 141, 3) := by decide +kernel
theorem dX5_told_18 : decode cX5_told 18 = .ok (.invokestatic 82, 3) := by decide +kernel
theorem dX5_told_21 : decode cX5_told 21 = .ok (.ifCond .ne 7, 3) := by decide +kernel
theorem dX5_told_24 : decode cX5_told 24 = .ok (.sipush (-1002), 3) := by decide +kernel
theorem dX5_told_27 : decode cX5_told 27 = .ok (.ireturn, 1) := by decide +kernel
theorem dX5_told_28 : decode cX5_told 28 = .ok (.aload_n 0, 1) := by decide +kernel
theorem dX5_told_29 : decode cX5_told 29 = .ok (.invokevirtual 118, 3) := by decide +kernel
theorem dX5_told_32 : decode cX5_told 32 = .ok (.aload_n 0, 1) := by decide +kernel
theorem dX5_told_33 : decode cX5_told 33 = .ok (.getfield 29, 3) := by decide +kernel
theorem dX5_told_36 : decode cX5_told 36 = .ok (.iload_n 1, 1) := by decide +kernel
theorem dX5_told_37 : decode cX5_told 37 = .ok (.iaload, 1) := by decide +kernel
theorem dX5_told_38 : decode cX5_told 38 = .ok (.ifCond .lt 7, 3) := by decide +kernel
theorem dX5_told_41 : decode cX5_told 41 = .ok (.iconst 1, 1) := by decide +kernel
theorem dX5_told_42 : decode cX5_told 42 = .ok (.goto 4, 3) := by decide +kernel
theorem dX5_told_45 : decode cX5_told 45 = .ok (.iconst 0, 1) := by decide +kernel
theorem dX5_told_46 : decode cX5_told 46 = .ok (.istore_n 3, 1) := by decide +kernel
theorem dX5_told_47 : decode cX5_told 47 = .ok (.iload_n 2, 1) := by decide +kernel
theorem dX5_told_48 : decode cX5_told 48 = .ok (.tableswitch 136 0 9 #[56, 71, 77, 84, 84, 84, 97, 104, 123, 130], 56) := by decide +kernel
theorem dX5_told_104 : decode cX5_told 104 = .ok (.iload_n 3, 1) := by decide +kernel
theorem dX5_told_105 : decode cX5_told 105 = .ok (.ifCond .eq 7, 3) := by decide +kernel
theorem dX5_told_108 : decode cX5_told 108 = .ok (.iconst 2, 1) := by decide +kernel
theorem dX5_told_109 : decode cX5_told 109 = .ok (.goto 9, 3) := by decide +kernel
theorem dX5_told_112 : decode cX5_told 112 = .ok (.aload_n 0, 1) := by decide +kernel
theorem dX5_told_113 : decode cX5_told 113 = .ok (.getfield 26, 3) := by decide +kernel
theorem dX5_told_116 : decode cX5_told 116 = .ok (.iload_n 1, 1) := by decide +kernel
theorem dX5_told_117 : decode cX5_told 117 = .ok (.iaload, 1) := by decide +kernel
theorem dX5_told_118 : decode cX5_told 118 = .ok (.ireturn, 1) := by decide +kernel
theorem dX5_told_119 : decode cX5_told 119 = .ok (.aload_n 0, 1) := by decide +kernel
theorem dX5_told_120 : decode cX5_told 120 = .ok (.iload_n 1, 1) := by decide +kernel
theorem dX5_told_121 : decode cX5_told 121 = .ok (.invokevirtual 121, 3) := by decide +kernel
theorem dX5_told_124 : decode cX5_told 124 = .ok (.ireturn, 1) := by decide +kernel
theorem dX5_told_125 : decode cX5_told 125 = .ok (.aload_n 0, 1) := by decide +kernel
theorem dX5_told_126 : decode cX5_told 126 = .ok (.getfield 36, 3) := by decide +kernel
theorem dX5_told_129 : decode cX5_told 129 = .ok (.iload_n 1, 1) := by decide +kernel
theorem dX5_told_130 : decode cX5_told 130 = .ok (.iaload, 1) := by decide +kernel
theorem dX5_told_131 : decode cX5_told 131 = .ok (.ireturn, 1) := by decide +kernel
theorem dX5_told_132 : decode cX5_told 132 = .ok (.aload_n 0, 1) := by decide +kernel
theorem dX5_told_133 : decode cX5_told 133 = .ok (.getfield 67, 3) := by decide +kernel
theorem dX5_told_136 : decode cX5_told 136 = .ok (.iconst 3, 1) := by decide +kernel
theorem dX5_told_137 : decode cX5_told 137 = .ok (.iload_n 1, 1) := by decide +kernel
theorem dX5_told_138 : decode cX5_told 138 = .ok (.imul, 1) := by decide +kernel
theorem dX5_told_139 : decode cX5_told 139 = .ok (.iload_n 2, 1) := by decide +kernel
theorem dX5_told_140 : decode cX5_told 140 = .ok (.iadd, 1) := by decide +kernel
theorem dX5_told_141 : decode cX5_told 141 = .ok (.iconst 3, 1) := by decide +kernel
theorem dX5_told_142 : decode cX5_told 142 = .ok (.isub, 1) := by decide +kernel
theorem dX5_told_143 : decode cX5_told 143 = .ok (.iaload, 1) := by decide +kernel
theorem dX5_told_144 : decode cX5_told 144 = .ok (.ireturn, 1) := by decide +kernel
theorem dX5_told_145 : decode cX5_told 145 = .ok (.aload_n 0, 1) := by decide +kernel
theorem dX5_told_146 : decode cX5_told 146 = .ok (.getfield 70, 3) := by decide +kernel
theorem dX5_told_149 : decode cX5_told 149 = .ok (.iload_n 1, 1) := by decide +kernel
theorem dX5_told_150 : decode cX5_told 150 = .ok (.iaload, 1) := by decide +kernel
theorem dX5_told_151 : decode cX5_told 151 = .ok (.ireturn, 1) := by decide +kernel
theorem dX5_told_152 : decode cX5_told 152 = .ok (.iload_n 3, 1) := by decide +kernel
theorem dX5_told_153 : decode cX5_told 153 = .ok (.ifCond .ne 16, 3) := by decide +kernel
theorem dX5_told_156 : decode cX5_told 156 = .ok (.aload_n 0, 1) := by decide +kernel
theorem dX5_told_157 : decode cX5_told 157 = .ok (.getfield 73, 3) := by decide +kernel
theorem dX5_told_160 : decode cX5_told 160 = .ok (.iload_n 1, 1) := by decide +kernel
theorem dX5_told_161 : decode cX5_told 161 = .ok (.baload, 1) := by decide +kernel
theorem dX5_told_162 : decode cX5_told 162 = .ok (.ifCond .eq 7, 3) := by decide +kernel
theorem dX5_told_165 : decode cX5_told 165 = .ok (.iconst 1, 1) := by decide +kernel
theorem dX5_told_166 : decode cX5_told 166 = .ok (.goto 4, 3) := by decide +kernel
theorem dX5_told_169 : decode cX5_told 169 = .ok (.iconst 0, 1) := by decide +kernel
theorem dX5_told_170 : decode cX5_told 170 = .ok (.ireturn, 1) := by decide +kernel
theorem dX5_told_171 : decode cX5_told 171 = .ok (.aload_n 0, 1) := by decide +kernel
theorem dX5_told_172 : decode cX5_told 172 = .ok (.getfield 48, 3) := by decide +kernel
theorem dX5_told_175 : decode cX5_told 175 = .ok (.iload_n 1, 1) := by decide +kernel
theorem dX5_told_176 : decode cX5_told 176 = .ok (.iaload, 1) := by decide +kernel
theorem dX5_told_177 : decode cX5_told 177 = .ok (.ireturn, 1) := by decide +kernel
theorem dX5_told_178 : decode cX5_told 178 = .ok (.aload_n 0, 1) := by decide +kernel
theorem dX5_told_179 : decode cX5_told 179 = .ok (.iload_n 1, 1) := by decide +kernel
theorem dX5_told_180 : decode cX5_told 180 = .ok (.invokevirtual 143, 3) := by decide +kernel
theorem dX5_told_183 : decode cX5_told 183 = .ok (.ireturn, 1) := by decide +kernel
theorem dX5_told_184 : decode cX5_told 184 = .ok (.aload_n 0, 1) := by decide +kernel
theorem dX5_told_185 : decode cX5_told 185 = .ok (.getfield 51, 3) := by decide +kernel
theorem dX5_told_188 : decode cX5_told 188 = .ok (.iconst 4, 1) := by decide +kernel
theorem dX5_told_189 : decode cX5_told 189 = .ok (.iload_n 1, 1) := by decide +kernel
theorem dX5_told_190 : decode cX5_told 190 = .ok (.imul, 1) := by decide +kernel
theorem dX5_told_191 : decode cX5_told 191 = .ok (.iload_n 2, 1) := by decide +kernel
theorem dX5_told_192 : decode cX5_told 192 = .ok (.iadd, 1) := by decide +kernel
theorem dX5_told_193 : decode cX5_told 193 = .ok (.bipush 10, 2) := by decide +kernel
theorem dX5_told_195 : decode cX5_told 195 = .ok (.isub, 1) := by decide +kernel
theorem dX5_told_196 : decode cX5_told 196 = .ok (.iaload, 1) := by decide +kernel
theorem dX5_told_197 : decode cX5_told 197 = .ok (.ifCond .ge 7, 3) := by decide +kernel
theorem dX5_told_200 : decode cX5_told 200 = .ok (.iconst (-1), 1) := by decide +kernel
theorem dX5_told_201 : decode cX5_told 201 = .ok (.goto 20, 3) := by decide +kernel
theorem dX5_told_204 : decode cX5_told 204 = .ok (.aload_n 0, 1) := by decide +kernel
theorem dX5_told_205 : decode cX5_told 205 = .ok (.aload_n 0, 1) := by decide +kernel
theorem dX5_told_206 : decode cX5_told 206 = .ok (.getfield 51, 3) := by decide +kernel
theorem dX5_told_209 : decode cX5_told 209 = .ok (.iconst 4, 1) := by decide +kernel
theorem dX5_told_210 : decode cX5_told 210 = .ok (.iload_n 1, 1) := by decide +kernel
theorem dX5_told_211 : decode cX5_told 211 = .ok (.imul, 1) := by decide +kernel
theorem dX5_told_212 : decode cX5_told 212 = .ok (.iload_n 2, 1) := by decide +kernel
theorem dX5_told_213 : decode cX5_told 213 = .ok (.iadd, 1) := by decide +kernel
theorem dX5_told_214 : decode cX5_told 214 = .ok (.bipush 10, 2) := by decide +kernel
theorem dX5_told_216 : decode cX5_told 216 = .ok (.isub, 1) := by decide +kernel
theorem dX5_told_217 : decode cX5_told 217 = .ok (.iaload, 1) := by decide +kernel
theorem dX5_told_218 : decode cX5_told 218 = .ok (.invokevirtual 121, 3) := by decide +kernel
theorem dX5_told_221 : decode cX5_told 221 = .ok (.ireturn, 1) := by decide +kernel
theorem dX5_words_0 : decode cX5_words 0 = .ok (.aload_n 0, 1) := by decide +kernel
theorem dX5_words_1 : decode cX5_words 1 = .ok (.iload_n 1, 1) := by decide +kernel
theorem dX5_words_2 : decode cX5_words 2 = .ok (.invokevirtual 111, 3) := by decide +kernel
theorem dX5_words_5 : decode cX5_words 5 = .ok (.ifCond .ne 7, 3) := by decide +kernel
theorem dX5_words_8 : decode cX5_words 8 = .ok (.ldc2_w 146, 3) := by decide +kernel
theorem dX5_words_11 : decode cX5_words 11 = .ok (.lreturn, 1) := by decide +kernel
theorem dX5_words_12 : decode cX5_words 12 = .ok (.aload_n 0, 1) := by decide +kernel
theorem dX5_words_13 : decode cX5_words 13 = .ok (.invokevirtual 118, 3) := by decide +kernel
theorem dX5_words_16 : decode cX5_words 16 = .ok (.aload_n 0, 1) := by decide +kernel
theorem dX5_words_17 : decode cX5_words 17 = .ok (.getfield 64, 3) := by decide +kernel
theorem dX5_words_20 : decode cX5_words 20 = .ok (.iload_n 1, 1) := by decide +kernel
theorem dX5_words_21 : decode cX5_words 21 = .ok (.laload, 1) := by decide +kernel
theorem dX5_words_22 : decode cX5_words 22 = .ok (.lreturn, 1) := by decide +kernel
theorem dX5_isValue_0 : decode cX5_isValue 0 = .ok (.iload_n 1, 1) := by decide +kernel
theorem dX5_isValue_1 : decode cX5_isValue 1 = .ok (.i2l, 1) := by decide +kernel
theorem dX5_isValue_2 : decode cX5_isValue 2 = .ok (.lconst 0, 1) := by decide +kernel
theorem dX5_isValue_3 : decode cX5_isValue 3 = .ok (.iload_n 0, 1) := by decide +kernel
theorem dX5_isValue_4 : decode cX5_isValue 4 = .ok (.ifCond .ne 9, 3) := by decide +kernel
theorem dX5_isValue_7 : decode cX5_isValue 7 = .ok (.ldc2_w 148, 3) := by decide +kernel
theorem dX5_isValue_10 : decode cX5_isValue 10 = .ok (.goto 17, 3) := by decide +kernel
theorem dX5_isValue_13 : decode cX5_isValue 13 = .ok (.iload_n 0, 1) := by decide +kernel
theorem dX5_isValue_14 : decode cX5_isValue 14 = .ok (.iconst 1, 1) := by decide +kernel
theorem dX5_isValue_15 : decode cX5_isValue 15 = .ok (.if_icmp .ne 9, 3) := by decide +kernel
theorem dX5_isValue_18 : decode cX5_isValue 18 = .ok (.ldc2_w 88, 3) := by decide +kernel
theorem dX5_isValue_21 : decode cX5_isValue 21 = .ok (.goto 6, 3) := by decide +kernel
theorem dX5_isValue_24 : decode cX5_isValue 24 = .ok (.ldc2_w 150, 3) := by decide +kernel
theorem dX5_isValue_27 : decode cX5_isValue 27 = .ok (.invokestatic 82, 3) := by decide +kernel
theorem dX5_isValue_30 : decode cX5_isValue 30 = .ok (.ireturn, 1) := by decide +kernel
theorem dX5_holds_0 : decode cX5_holds 0 = .ok (.aload_n 0, 1) := by decide +kernel
theorem dX5_holds_1 : decode cX5_holds 1 = .ok (.iload_n 1, 1) := by decide +kernel
theorem dX5_holds_2 : decode cX5_holds 2 = .ok (.invokevirtual 111, 3) := by decide +kernel
theorem dX5_holds_5 : decode cX5_holds 5 = .ok (.ifCond .ne 7, 3) := by decide +kernel
theorem dX5_holds_8 : decode cX5_holds 8 = .ok (.sipush (-1001), 3) := by decide +kernel
theorem dX5_holds_11 : decode cX5_holds 11 = .ok (.ireturn, 1) := by decide +kernel
theorem dX5_holds_12 : decode cX5_holds 12 = .ok (.iconst 0, 1) := by decide +kernel
theorem dX5_holds_13 : decode cX5_holds 13 = .ok (.iload_n 2, 1) := by decide +kernel
theorem dX5_holds_14 : decode cX5_holds 14 = .ok (.invokestatic 152, 3) := by decide +kernel
theorem dX5_holds_17 : decode cX5_holds 17 = .ok (.ifCond .eq 20, 3) := by decide +kernel
theorem dX5_holds_20 : decode cX5_holds 20 = .ok (.iconst 1, 1) := by decide +kernel
theorem dX5_holds_21 : decode cX5_holds 21 = .ok (.iload_n 3, 1) := by decide +kernel
theorem dX5_holds_22 : decode cX5_holds 22 = .ok (.invokestatic 152, 3) := by decide +kernel
theorem dX5_holds_25 : decode cX5_holds 25 = .ok (.ifCond .eq 12, 3) := by decide +kernel
theorem dX5_holds_28 : decode cX5_holds 28 = .ok (.iconst 2, 1) := by decide +kernel
theorem dX5_holds_29 : decode cX5_holds 29 = .ok (.iload 4, 2) := by decide +kernel
theorem dX5_holds_31 : decode cX5_holds 31 = .ok (.invokestatic 152, 3) := by decide +kernel
theorem dX5_holds_34 : decode cX5_holds 34 = .ok (.ifCond .ne 7, 3) := by decide +kernel
theorem dX5_holds_37 : decode cX5_holds 37 = .ok (.sipush (-1002), 3) := by decide +kernel
theorem dX5_holds_40 : decode cX5_holds 40 = .ok (.ireturn, 1) := by decide +kernel
theorem dX5_holds_41 : decode cX5_holds 41 = .ok (.aload_n 0, 1) := by decide +kernel
theorem dX5_holds_42 : decode cX5_holds 42 = .ok (.invokevirtual 118, 3) := by decide +kernel
theorem dX5_holds_45 : decode cX5_holds 45 = .ok (.aload_n 0, 1) := by decide +kernel
theorem dX5_holds_46 : decode cX5_holds 46 = .ok (.getfield 29, 3) := by decide +kernel
theorem dX5_holds_49 : decode cX5_holds 49 = .ok (.iload_n 1, 1) := by decide +kernel
theorem dX5_holds_50 : decode cX5_holds 50 = .ok (.iaload, 1) := by decide +kernel
theorem dX5_holds_51 : decode cX5_holds 51 = .ok (.ifCond .ge 60, 3) := by decide +kernel
theorem dX5_holds_54 : decode cX5_holds 54 = .ok (.aload_n 0, 1) := by decide +kernel
theorem dX5_holds_55 : decode cX5_holds 55 = .ok (.getfield 67, 3) := by decide +kernel
theorem dX5_holds_58 : decode cX5_holds 58 = .ok (.iconst 3, 1) := by decide +kernel
theorem dX5_holds_59 : decode cX5_holds 59 = .ok (.iload_n 1, 1) := by decide +kernel
theorem dX5_holds_60 : decode cX5_holds 60 = .ok (.imul, 1) := by decide +kernel
theorem dX5_holds_61 : decode cX5_holds 61 = .ok (.iaload, 1) := by decide +kernel
theorem dX5_holds_62 : decode cX5_holds 62 = .ok (.iload_n 2, 1) := by decide +kernel
theorem dX5_holds_63 : decode cX5_holds 63 = .ok (.ishr, 1) := by decide +kernel
theorem dX5_holds_64 : decode cX5_holds 64 = .ok (.iconst 1, 1) := by decide +kernel
theorem dX5_holds_65 : decode cX5_holds 65 = .ok (.iand, 1) := by decide +kernel
theorem dX5_holds_66 : decode cX5_holds 66 = .ok (.iconst 1, 1) := by decide +kernel
theorem dX5_holds_67 : decode cX5_holds 67 = .ok (.if_icmp .ne 44, 3) := by decide +kernel
theorem dX5_holds_70 : decode cX5_holds 70 = .ok (.aload_n 0, 1) := by decide +kernel
theorem dX5_holds_71 : decode cX5_holds 71 = .ok (.getfield 67, 3) := by decide +kernel
theorem dX5_holds_74 : decode cX5_holds 74 = .ok (.iconst 3, 1) := by decide +kernel
theorem dX5_holds_75 : decode cX5_holds 75 = .ok (.iload_n 1, 1) := by decide +kernel
theorem dX5_holds_76 : decode cX5_holds 76 = .ok (.imul, 1) := by decide +kernel
theorem dX5_holds_77 : decode cX5_holds 77 = .ok (.iconst 1, 1) := by decide +kernel
theorem dX5_holds_78 : decode cX5_holds 78 = .ok (.iadd, 1) := by decide +kernel
theorem dX5_holds_79 : decode cX5_holds 79 = .ok (.iaload, 1) := by decide +kernel
theorem dX5_holds_80 : decode cX5_holds 80 = .ok (.iload_n 3, 1) := by decide +kernel
theorem dX5_holds_81 : decode cX5_holds 81 = .ok (.ishr, 1) := by decide +kernel
theorem dX5_holds_82 : decode cX5_holds 82 = .ok (.iconst 1, 1) := by decide +kernel
theorem dX5_holds_83 : decode cX5_holds 83 = .ok (.iand, 1) := by decide +kernel
theorem dX5_holds_84 : decode cX5_holds 84 = .ok (.iconst 1, 1) := by decide +kernel
theorem dX5_holds_85 : decode cX5_holds 85 = .ok (.if_icmp .ne 26, 3) := by decide +kernel
theorem dX5_holds_88 : decode cX5_holds 88 = .ok (.aload_n 0, 1) := by decide +kernel
theorem dX5_holds_89 : decode cX5_holds 89 = .ok (.getfield 67, 3) := by decide +kernel
theorem dX5_holds_92 : decode cX5_holds 92 = .ok (.iconst 3, 1) := by decide +kernel
theorem dX5_holds_93 : decode cX5_holds 93 = .ok (.iload_n 1, 1) := by decide +kernel
theorem dX5_holds_94 : decode cX5_holds 94 = .ok (.imul, 1) := by decide +kernel
theorem dX5_holds_95 : decode cX5_holds 95 = .ok (.iconst 2, 1) := by decide +kernel
theorem dX5_holds_96 : decode cX5_holds 96 = .ok (.iadd, 1) := by decide +kernel
theorem dX5_holds_97 : decode cX5_holds 97 = .ok (.iaload, 1) := by decide +kernel
theorem dX5_holds_98 : decode cX5_holds 98 = .ok (.iload 4, 2) := by decide +kernel
theorem dX5_holds_100 : decode cX5_holds 100 = .ok (.ishr, 1) := by decide +kernel
theorem dX5_holds_101 : decode cX5_holds 101 = .ok (.iconst 1, 1) := by decide +kernel
theorem dX5_holds_102 : decode cX5_holds 102 = .ok (.iand, 1) := by decide +kernel
theorem dX5_holds_103 : decode cX5_holds 103 = .ok (.iconst 1, 1) := by decide +kernel
theorem dX5_holds_104 : decode cX5_holds 104 = .ok (.if_icmp .ne 7, 3) := by decide +kernel
theorem dX5_holds_107 : decode cX5_holds 107 = .ok (.iconst 1, 1) := by decide +kernel
theorem dX5_holds_108 : decode cX5_holds 108 = .ok (.goto 4, 3) := by decide +kernel
theorem dX5_holds_111 : decode cX5_holds 111 = .ok (.iconst 0, 1) := by decide +kernel
theorem dX5_holds_112 : decode cX5_holds 112 = .ok (.istore 5, 2) := by decide +kernel
theorem dX5_holds_114 : decode cX5_holds 114 = .ok (.iload 5, 2) := by decide +kernel
theorem dX5_holds_116 : decode cX5_holds 116 = .ok (.ifCond .eq 7, 3) := by decide +kernel
theorem dX5_holds_119 : decode cX5_holds 119 = .ok (.iconst 1, 1) := by decide +kernel
theorem dX5_holds_120 : decode cX5_holds 120 = .ok (.goto 4, 3) := by decide +kernel
theorem dX5_holds_123 : decode cX5_holds 123 = .ok (.iconst 0, 1) := by decide +kernel
theorem dX5_holds_124 : decode cX5_holds 124 = .ok (.ireturn, 1) := by decide +kernel
theorem dX5_far_0 : decode cX5_far 0 = .ok (.aload_n 0, 1) := by decide +kernel
theorem dX5_far_1 : decode cX5_far 1 = .ok (.lload_n 1, 1) := by decide +kernel
theorem dX5_far_2 : decode cX5_far 2 = .ok (.invokevirtual 155, 3) := by decide +kernel
theorem dX5_far_5 : decode cX5_far 5 = .ok (.aload_n 0, 1) := by decide +kernel
theorem dX5_far_6 : decode cX5_far 6 = .ok (.lload_n 3, 1) := by decide +kernel
theorem dX5_far_7 : decode cX5_far 7 = .ok (.invokevirtual 155, 3) := by decide +kernel
theorem dX5_far_10 : decode cX5_far 10 = .ok (.lxor, 1) := by decide +kernel
theorem dX5_far_11 : decode cX5_far 11 = .ok (.invokestatic 159, 3) := by decide +kernel
theorem dX5_far_14 : decode cX5_far 14 = .ok (.ireturn, 1) := by decide +kernel
theorem dX5_quarrels_0 : decode cX5_quarrels 0 = .ok (.aload_n 0, 1) := by decide +kernel
theorem dX5_quarrels_1 : decode cX5_quarrels 1 = .ok (.iload_n 1, 1) := by decide +kernel
theorem dX5_quarrels_2 : decode cX5_quarrels 2 = .ok (.invokevirtual 115, 3) := by decide +kernel
theorem dX5_quarrels_5 : decode cX5_quarrels 5 = .ok (.ifCond .eq 53, 3) := by decide +kernel
theorem dX5_quarrels_8 : decode cX5_quarrels 8 = .ok (.aload_n 0, 1) := by decide +kernel
theorem dX5_quarrels_9 : decode cX5_quarrels 9 = .ok (.iload_n 2, 1) := by decide +kernel
theorem dX5_quarrels_10 : decode cX5_quarrels 10 = .ok (.invokevirtual 115, 3) := by decide +kernel
theorem dX5_quarrels_13 : decode cX5_quarrels 13 = .ok (.ifCond .eq 45, 3) := by decide +kernel
theorem dX5_quarrels_16 : decode cX5_quarrels 16 = .ok (.aload_n 0, 1) := by decide +kernel
theorem dX5_quarrels_17 : decode cX5_quarrels 17 = .ok (.getfield 36, 3) := by decide +kernel
theorem dX5_quarrels_20 : decode cX5_quarrels 20 = .ok (.iload_n 1, 1) := by decide +kernel
theorem dX5_quarrels_21 : decode cX5_quarrels 21 = .ok (.iaload, 1) := by decide +kernel
theorem dX5_quarrels_22 : decode cX5_quarrels 22 = .ok (.aload_n 0, 1) := by decide +kernel
theorem dX5_quarrels_23 : decode cX5_quarrels 23 = .ok (.getfield 36, 3) := by decide +kernel
theorem dX5_quarrels_26 : decode cX5_quarrels 26 = .ok (.iload_n 2, 1) := by decide +kernel
theorem dX5_quarrels_27 : decode cX5_quarrels 27 = .ok (.iaload, 1) := by decide +kernel
theorem dX5_quarrels_28 : decode cX5_quarrels 28 = .ok (.if_icmp .eq 30, 3) := by decide +kernel
theorem dX5_quarrels_31 : decode cX5_quarrels 31 = .ok (.aload_n 0, 1) := by decide +kernel
theorem dX5_quarrels_32 : decode cX5_quarrels 32 = .ok (.aload_n 0, 1) := by decide +kernel
theorem dX5_quarrels_33 : decode cX5_quarrels 33 = .ok (.getfield 32, 3) := by decide +kernel
theorem dX5_quarrels_36 : decode cX5_quarrels 36 = .ok (.iload_n 1, 1) := by decide +kernel
theorem dX5_quarrels_37 : decode cX5_quarrels 37 = .ok (.laload, 1) := by decide +kernel
theorem dX5_quarrels_38 : decode cX5_quarrels 38 = .ok (.aload_n 0, 1) := by decide +kernel
theorem dX5_quarrels_39 : decode cX5_quarrels 39 = .ok (.getfield 32, 3) := by decide +kernel
theorem dX5_quarrels_42 : decode cX5_quarrels 42 = .ok (.iload_n 2, 1) := by decide +kernel
theorem dX5_quarrels_43 : decode cX5_quarrels 43 = .ok (.laload, 1) := by decide +kernel
theorem dX5_quarrels_44 : decode cX5_quarrels 44 = .ok (.invokevirtual 163, 3) := by decide +kernel
theorem dX5_quarrels_47 : decode cX5_quarrels 47 = .ok (.aload_n 0, 1) := by decide +kernel
theorem dX5_quarrels_48 : decode cX5_quarrels 48 = .ok (.getfield 19, 3) := by decide +kernel
theorem dX5_quarrels_51 : decode cX5_quarrels 51 = .ok (.if_icmp .gt 7, 3) := by decide +kernel
theorem dX5_quarrels_54 : decode cX5_quarrels 54 = .ok (.iconst 1, 1) := by decide +kernel
theorem dX5_quarrels_55 : decode cX5_quarrels 55 = .ok (.goto 4, 3) := by decide +kernel
theorem dX5_quarrels_58 : decode cX5_quarrels 58 = .ok (.iconst 0, 1) := by decide +kernel
theorem dX5_quarrels_59 : decode cX5_quarrels 59 = .ok (.istore_n 3, 1) := by decide +kernel
theorem dX5_quarrels_60 : decode cX5_quarrels 60 = .ok (.iconst 0, 1) := by decide +kernel
theorem dX5_quarrels_61 : decode cX5_quarrels 61 = .ok (.istore 4, 2) := by decide +kernel
theorem dX5_quarrels_63 : decode cX5_quarrels 63 = .ok (.iload 4, 2) := by decide +kernel
theorem dX5_quarrels_65 : decode cX5_quarrels 65 = .ok (.iconst 3, 1) := by decide +kernel
theorem dX5_quarrels_66 : decode cX5_quarrels 66 = .ok (.if_icmp .ge 45, 3) := by decide +kernel
theorem dX5_quarrels_69 : decode cX5_quarrels 69 = .ok (.iload_n 3, 1) := by decide +kernel
theorem dX5_quarrels_70 : decode cX5_quarrels 70 = .ok (.ifCond .eq 33, 3) := by decide +kernel
theorem dX5_quarrels_73 : decode cX5_quarrels 73 = .ok (.aload_n 0, 1) := by decide +kernel
theorem dX5_quarrels_74 : decode cX5_quarrels 74 = .ok (.getfield 39, 3) := by decide +kernel
theorem dX5_quarrels_77 : decode cX5_quarrels 77 = .ok (.iconst 3, 1) := by decide +kernel
theorem dX5_quarrels_78 : decode cX5_quarrels 78 = .ok (.iload_n 1, 1) := by decide +kernel
theorem dX5_quarrels_79 : decode cX5_quarrels 79 = .ok (.imul, 1) := by decide +kernel
theorem dX5_quarrels_80 : decode cX5_quarrels 80 = .ok (.iload 4, 2) := by decide +kernel
theorem dX5_quarrels_82 : decode cX5_quarrels 82 = .ok (.iadd, 1) := by decide +kernel
theorem dX5_quarrels_83 : decode cX5_quarrels 83 = .ok (.iaload, 1) := by decide +kernel
theorem dX5_quarrels_84 : decode cX5_quarrels 84 = .ok (.aload_n 0, 1) := by decide +kernel
theorem dX5_quarrels_85 : decode cX5_quarrels 85 = .ok (.getfield 39, 3) := by decide +kernel
theorem dX5_quarrels_88 : decode cX5_quarrels 88 = .ok (.iconst 3, 1) := by decide +kernel
theorem dX5_quarrels_89 : decode cX5_quarrels 89 = .ok (.iload_n 2, 1) := by decide +kernel
theorem dX5_quarrels_90 : decode cX5_quarrels 90 = .ok (.imul, 1) := by decide +kernel
theorem dX5_quarrels_91 : decode cX5_quarrels 91 = .ok (.iload 4, 2) := by decide +kernel
theorem dX5_quarrels_93 : decode cX5_quarrels 93 = .ok (.iadd, 1) := by decide +kernel
theorem dX5_quarrels_94 : decode cX5_quarrels 94 = .ok (.iaload, 1) := by decide +kernel
theorem dX5_quarrels_95 : decode cX5_quarrels 95 = .ok (.iand, 1) := by decide +kernel
theorem dX5_quarrels_96 : decode cX5_quarrels 96 = .ok (.ifCond .eq 7, 3) := by decide +kernel
theorem dX5_quarrels_99 : decode cX5_quarrels 99 = .ok (.iconst 1, 1) := by decide +kernel
theorem dX5_quarrels_100 : decode cX5_quarrels 100 = .ok (.goto 4, 3) := by decide +kernel
theorem dX5_quarrels_103 : decode cX5_quarrels 103 = .ok (.iconst 0, 1) := by decide +kernel
theorem dX5_quarrels_104 : decode cX5_quarrels 104 = .ok (.istore_n 3, 1) := by decide +kernel
theorem dX5_quarrels_105 : decode cX5_quarrels 105 = .ok (.iinc 4 1, 3) := by decide +kernel
theorem dX5_quarrels_108 : decode cX5_quarrels 108 = .ok (.goto (-45), 3) := by decide +kernel
theorem dX5_quarrels_111 : decode cX5_quarrels 111 = .ok (.iload_n 3, 1) := by decide +kernel
theorem dX5_quarrels_112 : decode cX5_quarrels 112 = .ok (.ireturn, 1) := by decide +kernel
theorem dX5_leastOf_0 : decode cX5_leastOf 0 = .ok (.iconst 0, 1) := by decide +kernel
theorem dX5_leastOf_1 : decode cX5_leastOf 1 = .ok (.istore_n 1, 1) := by decide +kernel
theorem dX5_leastOf_2 : decode cX5_leastOf 2 = .ok (.iload_n 0, 1) := by decide +kernel
theorem dX5_leastOf_3 : decode cX5_leastOf 3 = .ok (.iload_n 1, 1) := by decide +kernel
theorem dX5_leastOf_4 : decode cX5_leastOf 4 = .ok (.ishr, 1) := by decide +kernel
theorem dX5_leastOf_5 : decode cX5_leastOf 5 = .ok (.iconst 1, 1) := by decide +kernel
theorem dX5_leastOf_6 : decode cX5_leastOf 6 = .ok (.iand, 1) := by decide +kernel
theorem dX5_leastOf_7 : decode cX5_leastOf 7 = .ok (.ifCond .ne 9, 3) := by decide +kernel
theorem dX5_leastOf_10 : decode cX5_leastOf 10 = .ok (.iinc 1 1, 3) := by decide +kernel
theorem dX5_leastOf_13 : decode cX5_leastOf 13 = .ok (.goto (-11), 3) := by decide +kernel
theorem dX5_leastOf_16 : decode cX5_leastOf 16 = .ok (.iload_n 1, 1) := by decide +kernel
theorem dX5_leastOf_17 : decode cX5_leastOf 17 = .ok (.ireturn, 1) := by decide +kernel
theorem dX5_quarrel_0 : decode cX5_quarrel 0 = .ok (.iload_n 2, 1) := by decide +kernel
theorem dX5_quarrel_1 : decode cX5_quarrel 1 = .ok (.i2l, 1) := by decide +kernel
theorem dX5_quarrel_2 : decode cX5_quarrel 2 = .ok (.lconst 0, 1) := by decide +kernel
theorem dX5_quarrel_3 : decode cX5_quarrel 3 = .ok (.ldc2_w 167, 3) := by decide +kernel
theorem dX5_quarrel_6 : decode cX5_quarrel 6 = .ok (.invokestatic 82, 3) := by decide +kernel
theorem dX5_quarrel_9 : decode cX5_quarrel 9 = .ok (.ifCond .ne 7, 3) := by decide +kernel
theorem dX5_quarrel_12 : decode cX5_quarrel 12 = .ok (.sipush (-1002), 3) := by decide +kernel
theorem dX5_quarrel_15 : decode cX5_quarrel 15 = .ok (.ireturn, 1) := by decide +kernel
theorem dX5_quarrel_16 : decode cX5_quarrel 16 = .ok (.iconst 0, 1) := by decide +kernel
theorem dX5_quarrel_17 : decode cX5_quarrel 17 = .ok (.istore_n 3, 1) := by decide +kernel
theorem dX5_quarrel_18 : decode cX5_quarrel 18 = .ok (.iconst 0, 1) := by decide +kernel
theorem dX5_quarrel_19 : decode cX5_quarrel 19 = .ok (.istore 4, 2) := by decide +kernel
theorem dX5_quarrel_21 : decode cX5_quarrel 21 = .ok (.iload 4, 2) := by decide +kernel
theorem dX5_quarrel_23 : decode cX5_quarrel 23 = .ok (.aload_n 0, 1) := by decide +kernel
theorem dX5_quarrel_24 : decode cX5_quarrel 24 = .ok (.getfield 79, 3) := by decide +kernel
theorem dX5_quarrel_27 : decode cX5_quarrel 27 = .ok (.if_icmp .ge 99, 3) := by decide +kernel
theorem dX5_quarrel_30 : decode cX5_quarrel 30 = .ok (.iload 4, 2) := by decide +kernel
theorem dX5_quarrel_32 : decode cX5_quarrel 32 = .ok (.iconst 1, 1) := by decide +kernel
theorem dX5_quarrel_33 : decode cX5_quarrel 33 = .ok (.iadd, 1) := by decide +kernel
theorem dX5_quarrel_34 : decode cX5_quarrel 34 = .ok (.istore 5, 2) := by decide +kernel
theorem dX5_quarrel_36 : decode cX5_quarrel 36 = .ok (.iload 5, 2) := by decide +kernel
theorem dX5_quarrel_38 : decode cX5_quarrel 38 = .ok (.aload_n 0, 1) := by decide +kernel
theorem dX5_quarrel_39 : decode cX5_quarrel 39 = .ok (.getfield 79, 3) := by decide +kernel
theorem dX5_quarrel_42 : decode cX5_quarrel 42 = .ok (.if_icmp .ge 78, 3) := by decide +kernel
theorem dX5_quarrel_45 : decode cX5_quarrel 45 = .ok (.aload_n 0, 1) := by decide +kernel
theorem dX5_quarrel_46 : decode cX5_quarrel 46 = .ok (.iload 4, 2) := by decide +kernel
theorem dX5_quarrel_48 : decode cX5_quarrel 48 = .ok (.iload 5, 2) := by decide +kernel
theorem dX5_quarrel_50 : decode cX5_quarrel 50 = .ok (.invokevirtual 169, 3) := by decide +kernel
theorem dX5_quarrel_53 : decode cX5_quarrel 53 = .ok (.ifCond .eq 61, 3) := by decide +kernel
theorem dX5_quarrel_56 : decode cX5_quarrel 56 = .ok (.iload_n 3, 1) := by decide +kernel
theorem dX5_quarrel_57 : decode cX5_quarrel 57 = .ok (.iload_n 1, 1) := by decide +kernel
theorem dX5_quarrel_58 : decode cX5_quarrel 58 = .ok (.if_icmp .ne 53, 3) := by decide +kernel
theorem dX5_quarrel_61 : decode cX5_quarrel 61 = .ok (.iload_n 2, 1) := by decide +kernel
theorem dX5_quarrel_62 : decode cX5_quarrel 62 = .ok (.ifCond .ne 8, 3) := by decide +kernel
theorem dX5_quarrel_65 : decode cX5_quarrel 65 = .ok (.iload 4, 2) := by decide +kernel
theorem dX5_quarrel_67 : decode cX5_quarrel 67 = .ok (.goto 43, 3) := by decide +kernel
theorem dX5_quarrel_70 : decode cX5_quarrel 70 = .ok (.iload_n 2, 1) := by decide +kernel
theorem dX5_quarrel_71 : decode cX5_quarrel 71 = .ok (.iconst 1, 1) := by decide +kernel
theorem dX5_quarrel_72 : decode cX5_quarrel 72 = .ok (.if_icmp .ne 8, 3) := by decide +kernel
theorem dX5_quarrel_75 : decode cX5_quarrel 75 = .ok (.iload 5, 2) := by decide +kernel
theorem dX5_quarrel_77 : decode cX5_quarrel 77 = .ok (.goto 33, 3) := by decide +kernel
theorem dX5_quarrel_80 : decode cX5_quarrel 80 = .ok (.aload_n 0, 1) := by decide +kernel
theorem dX5_quarrel_81 : decode cX5_quarrel 81 = .ok (.getfield 39, 3) := by decide +kernel
theorem dX5_quarrel_84 : decode cX5_quarrel 84 = .ok (.iconst 3, 1) := by decide +kernel
theorem dX5_quarrel_85 : decode cX5_quarrel 85 = .ok (.iload 4, 2) := by decide +kernel
theorem dX5_quarrel_87 : decode cX5_quarrel 87 = .ok (.imul, 1) := by decide +kernel
theorem dX5_quarrel_88 : decode cX5_quarrel 88 = .ok (.iload_n 2, 1) := by decide +kernel
theorem dX5_quarrel_89 : decode cX5_quarrel 89 = .ok (.iadd, 1) := by decide +kernel
theorem dX5_quarrel_90 : decode cX5_quarrel 90 = .ok (.iconst 2, 1) := by decide +kernel
theorem dX5_quarrel_91 : decode cX5_quarrel 91 = .ok (.isub, 1) := by decide +kernel
theorem dX5_quarrel_92 : decode cX5_quarrel 92 = .ok (.iaload, 1) := by decide +kernel
theorem dX5_quarrel_93 : decode cX5_quarrel 93 = .ok (.aload_n 0, 1) := by decide +kernel
theorem dX5_quarrel_94 : decode cX5_quarrel 94 = .ok (.getfield 39, 3) := by decide +kernel
theorem dX5_quarrel_97 : decode cX5_quarrel 97 = .ok (.iconst 3, 1) := by decide +kernel
theorem dX5_quarrel_98 : decode cX5_quarrel 98 = .ok (.iload 5, 2) := by decide +kernel
theorem dX5_quarrel_100 : decode cX5_quarrel 100 = .ok (.imul, 1) := by decide +kernel
theorem dX5_quarrel_101 : decode cX5_quarrel 101 = .ok (.iload_n 2, 1) := by decide +kernel
theorem dX5_quarrel_102 : decode cX5_quarrel 102 = .ok (.iadd, 1) := by decide +kernel
theorem dX5_quarrel_103 : decode cX5_quarrel 103 = .ok (.iconst 2, 1) := by decide +kernel
theorem dX5_quarrel_104 : decode cX5_quarrel 104 = .ok (.isub, 1) := by decide +kernel
theorem dX5_quarrel_105 : decode cX5_quarrel 105 = .ok (.iaload, 1) := by decide +kernel
theorem dX5_quarrel_106 : decode cX5_quarrel 106 = .ok (.iand, 1) := by decide +kernel
theorem dX5_quarrel_107 : decode cX5_quarrel 107 = .ok (.invokestatic 172, 3) := by decide +kernel
theorem dX5_quarrel_110 : decode cX5_quarrel 110 = .ok (.ireturn, 1) := by decide +kernel
theorem dX5_quarrel_111 : decode cX5_quarrel 111 = .ok (.iinc 3 1, 3) := by decide +kernel
theorem dX5_quarrel_114 : decode cX5_quarrel 114 = .ok (.iinc 5 1, 3) := by decide +kernel
theorem dX5_quarrel_117 : decode cX5_quarrel 117 = .ok (.goto (-81), 3) := by decide +kernel
theorem dX5_quarrel_120 : decode cX5_quarrel 120 = .ok (.iinc 4 1, 3) := by decide +kernel
theorem dX5_quarrel_123 : decode cX5_quarrel 123 = .ok (.goto (-102), 3) := by decide +kernel
theorem dX5_quarrel_126 : decode cX5_quarrel 126 = .ok (.iconst (-1), 1) := by decide +kernel
theorem dX5_quarrel_127 : decode cX5_quarrel 127 = .ok (.ireturn, 1) := by decide +kernel
theorem dX5_ask_0 : decode cX5_ask 0 = .ok (.iload_n 3, 1) := by decide +kernel
theorem dX5_ask_1 : decode cX5_ask 1 = .ok (.iconst (-1), 1) := by decide +kernel
theorem dX5_ask_2 : decode cX5_ask 2 = .ok (.if_icmp .eq 11, 3) := by decide +kernel
theorem dX5_ask_5 : decode cX5_ask 5 = .ok (.iconst 0, 1) := by decide +kernel
theorem dX5_ask_6 : decode cX5_ask 6 = .ok (.iload_n 3, 1) := by decide +kernel
theorem dX5_ask_7 : decode cX5_ask 7 = .ok (.invokestatic 152, 3) := by decide +kernel
theorem dX5_ask_10 : decode cX5_ask 10 = .ok (.ifCond .eq 7, 3) := by decide +kernel
theorem dX5_ask_13 : decode cX5_ask 13 = .ok (.iconst 1, 1) := by decide +kernel
theorem dX5_ask_14 : decode cX5_ask 14 = .ok (.goto 4, 3) := by decide +kernel
theorem dX5_ask_17 : decode cX5_ask 17 = .ok (.iconst 0, 1) := by decide +kernel
theorem dX5_ask_18 : decode cX5_ask 18 = .ok (.istore 6, 2) := by decide +kernel
theorem dX5_ask_20 : decode cX5_ask 20 = .ok (.iload 6, 2) := by decide +kernel
theorem dX5_ask_22 : decode cX5_ask 22 = .ok (.ifCond .eq 37, 3) := by decide +kernel
theorem dX5_ask_25 : decode cX5_ask 25 = .ok (.iload 4, 2) := by decide +kernel
theorem dX5_ask_27 : decode cX5_ask 27 = .ok (.iconst (-1), 1) := by decide +kernel
theorem dX5_ask_28 : decode cX5_ask 28 = .ok (.if_icmp .eq 12, 3) := by decide +kernel
theorem dX5_ask_31 : decode cX5_ask 31 = .ok (.iconst 1, 1) := by decide +kernel
theorem dX5_ask_32 : decode cX5_ask 32 = .ok (.iload 4, 2) := by decide +kernel
theorem dX5_ask_34 : decode cX5_ask 34 = .ok (.invokestatic 152, 3) := by decide +kernel
theorem dX5_ask_37 : decode cX5_ask 37 = .ok (.ifCond .eq 22, 3) := by decide +kernel
theorem dX5_ask_40 : decode cX5_ask 40 = .ok (.iload 5, 2) := by decide +kernel
theorem dX5_ask_42 : decode cX5_ask 42 = .ok (.iconst (-1), 1) := by decide +kernel
theorem dX5_ask_43 : decode cX5_ask 43 = .ok (.if_icmp .eq 12, 3) := by decide +kernel
theorem dX5_ask_46 : decode cX5_ask 46 = .ok (.iconst 2, 1) := by decide +kernel
theorem dX5_ask_47 : decode cX5_ask 47 = .ok (.iload 5, 2) := by decide +kernel
theorem dX5_ask_49 : decode cX5_ask 49 = .ok (.invokestatic 152, 3) := by decide +kernel
theorem dX5_ask_52 : decode cX5_ask 52 = .ok (.ifCond .eq 7, 3) := by decide +kernel
theorem dX5_ask_55 : decode cX5_ask 55 = .ok (.iconst 1, 1) := by decide +kernel
theorem dX5_ask_56 : decode cX5_ask 56 = .ok (.goto 4, 3) := by decide +kernel
theorem dX5_ask_59 : decode cX5_ask 59 = .ok (.iconst 0, 1) := by decide +kernel
theorem dX5_ask_60 : decode cX5_ask 60 = .ok (.istore 6, 2) := by decide +kernel
theorem dX5_ask_62 : decode cX5_ask 62 = .ok (.lload_n 1, 1) := by decide +kernel
theorem dX5_ask_63 : decode cX5_ask 63 = .ok (.lconst 0, 1) := by decide +kernel
theorem dX5_ask_64 : decode cX5_ask 64 = .ok (.ldc2_w 97, 3) := by decide +kernel
theorem dX5_ask_67 : decode cX5_ask 67 = .ok (.invokestatic 82, 3) := by decide +kernel
theorem dX5_ask_70 : decode cX5_ask 70 = .ok (.ifCond .eq 8, 3) := by decide +kernel
theorem dX5_ask_73 : decode cX5_ask 73 = .ok (.iload 6, 2) := by decide +kernel
theorem dX5_ask_75 : decode cX5_ask 75 = .ok (.ifCond .ne 7, 3) := by decide +kernel
theorem dX5_ask_78 : decode cX5_ask 78 = .ok (.sipush (-1002), 3) := by decide +kernel
theorem dX5_ask_81 : decode cX5_ask 81 = .ok (.ireturn, 1) := by decide +kernel
theorem dX5_ask_82 : decode cX5_ask 82 = .ok (.aload_n 0, 1) := by decide +kernel
theorem dX5_ask_83 : decode cX5_ask 83 = .ok (.getfield 175, 3) := by decide +kernel
theorem dX5_ask_86 : decode cX5_ask 86 = .ok (.bipush 30, 2) := by decide +kernel
theorem dX5_ask_88 : decode cX5_ask 88 = .ok (.if_icmp .ne 7, 3) := by decide +kernel
theorem dX5_ask_91 : decode cX5_ask 91 = .ok (.sipush (-1004), 3) := by decide +kernel
theorem dX5_ask_94 : decode cX5_ask 94 = .ok (.ireturn, 1) := by decide +kernel
theorem dX5_ask_95 : decode cX5_ask 95 = .ok (.aload_n 0, 1) := by decide +kernel
theorem dX5_ask_96 : decode cX5_ask 96 = .ok (.getfield 54, 3) := by decide +kernel
theorem dX5_ask_99 : decode cX5_ask 99 = .ok (.aload_n 0, 1) := by decide +kernel
theorem dX5_ask_100 : decode cX5_ask 100 = .ok (.getfield 175, 3) := by decide +kernel
theorem dX5_ask_103 : decode cX5_ask 103 = .ok (.lload_n 1, 1) := by decide +kernel
theorem dX5_ask_104 : decode cX5_ask 104 = .ok (.lastore, 1) := by decide +kernel
theorem dX5_ask_105 : decode cX5_ask 105 = .ok (.aload_n 0, 1) := by decide +kernel
theorem dX5_ask_106 : decode cX5_ask 106 = .ok (.getfield 57, 3) := by decide +kernel
theorem dX5_ask_109 : decode cX5_ask 109 = .ok (.iconst 3, 1) := by decide +kernel
theorem dX5_ask_110 : decode cX5_ask 110 = .ok (.aload_n 0, 1) := by decide +kernel
theorem dX5_ask_111 : decode cX5_ask 111 = .ok (.getfield 175, 3) := by decide +kernel
theorem dX5_ask_114 : decode cX5_ask 114 = .ok (.imul, 1) := by decide +kernel
theorem dX5_ask_115 : decode cX5_ask 115 = .ok (.iload_n 3, 1) := by decide +kernel
theorem dX5_ask_116 : decode cX5_ask 116 = .ok (.iastore, 1) := by decide +kernel
theorem dX5_ask_117 : decode cX5_ask 117 = .ok (.aload_n 0, 1) := by decide +kernel
theorem dX5_ask_118 : decode cX5_ask 118 = .ok (.getfield 57, 3) := by decide +kernel
theorem dX5_ask_121 : decode cX5_ask 121 = .ok (.iconst 3, 1) := by decide +kernel
theorem dX5_ask_122 : decode cX5_ask 122 = .ok (.aload_n 0, 1) := by decide +kernel
theorem dX5_ask_123 : decode cX5_ask 123 = .ok (.getfield 175, 3) := by decide +kernel
theorem dX5_ask_126 : decode cX5_ask 126 = .ok (.imul, 1) := by decide +kernel
theorem dX5_ask_127 : decode cX5_ask 127 = .ok (.iconst 1, 1) := by decide +kernel
theorem dX5_ask_128 : decode cX5_ask 128 = .ok (.iadd, 1) := by decide +kernel
theorem dX5_ask_129 : decode cX5_ask 129 = .ok (.iload 4, 2) := by decide +kernel
theorem dX5_ask_131 : decode cX5_ask 131 = .ok (.iastore, 1) := by decide +kernel
theorem dX5_ask_132 : decode cX5_ask 132 = .ok (.aload_n 0, 1) := by decide +kernel
theorem dX5_ask_133 : decode cX5_ask 133 = .ok (.getfield 57, 3) := by decide +kernel
theorem dX5_ask_136 : decode cX5_ask 136 = .ok (.iconst 3, 1) := by decide +kernel
theorem dX5_ask_137 : decode cX5_ask 137 = .ok (.aload_n 0, 1) := by decide +kernel
theorem dX5_ask_138 : decode cX5_ask 138 = .ok (.getfield 175, 3) := by decide +kernel
theorem dX5_ask_141 : decode cX5_ask 141 = .ok (.imul, 1) := by decide +kernel
theorem dX5_ask_142 : decode cX5_ask 142 = .ok (.iconst 2, 1) := by decide +kernel
theorem dX5_ask_143 : decode cX5_ask 143 = .ok (.iadd, 1) := by decide +kernel
theorem dX5_ask_144 : decode cX5_ask 144 = .ok (.iload 5, 2) := by decide +kernel
theorem dX5_ask_146 : decode cX5_ask 146 = .ok (.iastore, 1) := by decide +kernel
theorem dX5_ask_147 : decode cX5_ask 147 = .ok (.aload_n 0, 1) := by decide +kernel
theorem dX5_ask_148 : decode cX5_ask 148 = .ok (.dup, 1) := by decide +kernel
theorem dX5_ask_149 : decode cX5_ask 149 = .ok (.getfield 175, 3) := by decide +kernel
theorem dX5_ask_152 : decode cX5_ask 152 = .ok (.iconst 1, 1) := by decide +kernel
theorem dX5_ask_153 : decode cX5_ask 153 = .ok (.iadd, 1) := by decide +kernel
theorem dX5_ask_154 : decode cX5_ask 154 = .ok (.putfield 175, 3) := by decide +kernel
theorem dX5_ask_157 : decode cX5_ask 157 = .ok (.aload_n 0, 1) := by decide +kernel
theorem dX5_ask_158 : decode cX5_ask 158 = .ok (.getfield 175, 3) := by decide +kernel
theorem dX5_ask_161 : decode cX5_ask 161 = .ok (.iconst 1, 1) := by decide +kernel
theorem dX5_ask_162 : decode cX5_ask 162 = .ok (.isub, 1) := by decide +kernel
theorem dX5_ask_163 : decode cX5_ask 163 = .ok (.ireturn, 1) := by decide +kernel
theorem dX5_isAsk_0 : decode cX5_isAsk 0 = .ok (.iload_n 1, 1) := by decide +kernel
theorem dX5_isAsk_1 : decode cX5_isAsk 1 = .ok (.i2l, 1) := by decide +kernel
theorem dX5_isAsk_2 : decode cX5_isAsk 2 = .ok (.lconst 0, 1) := by decide +kernel
theorem dX5_isAsk_3 : decode cX5_isAsk 3 = .ok (.aload_n 0, 1) := by decide +kernel
theorem dX5_isAsk_4 : decode cX5_isAsk 4 = .ok (.getfield 175, 3) := by decide +kernel
theorem dX5_isAsk_7 : decode cX5_isAsk 7 = .ok (.iconst 1, 1) := by decide +kernel
theorem dX5_isAsk_8 : decode cX5_isAsk 8 = .ok (.isub, 1) := by decide +kernel
theorem dX5_isAsk_9 : decode cX5_isAsk 9 = .ok (.i2l, 1) := by decide +kernel
theorem dX5_isAsk_10 : decode cX5_isAsk 10 = .ok (.invokestatic 82, 3) := by decide +kernel
theorem dX5_isAsk_13 : decode cX5_isAsk 13 = .ok (.ireturn, 1) := by decide +kernel
theorem dX5_isFit_0 : decode cX5_isFit 0 = .ok (.aload_n 0, 1) := by decide +kernel
theorem dX5_isFit_1 : decode cX5_isFit 1 = .ok (.getfield 29, 3) := by decide +kernel
theorem dX5_isFit_4 : decode cX5_isFit 4 = .ok (.iload_n 2, 1) := by decide +kernel
theorem dX5_isFit_5 : decode cX5_isFit 5 = .ok (.iaload, 1) := by decide +kernel
theorem dX5_isFit_6 : decode cX5_isFit 6 = .ok (.ifCond .ge 7, 3) := by decide +kernel
theorem dX5_isFit_9 : decode cX5_isFit 9 = .ok (.iconst 1, 1) := by decide +kernel
theorem dX5_isFit_10 : decode cX5_isFit 10 = .ok (.goto 4, 3) := by decide +kernel
theorem dX5_isFit_13 : decode cX5_isFit 13 = .ok (.iconst 0, 1) := by decide +kernel
theorem dX5_isFit_14 : decode cX5_isFit 14 = .ok (.istore_n 3, 1) := by decide +kernel
theorem dX5_isFit_15 : decode cX5_isFit 15 = .ok (.iconst 0, 1) := by decide +kernel
theorem dX5_isFit_16 : decode cX5_isFit 16 = .ok (.istore 4, 2) := by decide +kernel
theorem dX5_isFit_18 : decode cX5_isFit 18 = .ok (.iload 4, 2) := by decide +kernel
theorem dX5_isFit_20 : decode cX5_isFit 20 = .ok (.iconst 3, 1) := by decide +kernel
theorem dX5_isFit_21 : decode cX5_isFit 21 = .ok (.if_icmp .ge 66, 3) := by decide +kernel
theorem dX5_isFit_24 : decode cX5_isFit 24 = .ok (.aload_n 0, 1) := by decide +kernel
theorem dX5_isFit_25 : decode cX5_isFit 25 = .ok (.getfield 57, 3) := by decide +kernel
theorem dX5_isFit_28 : decode cX5_isFit 28 = .ok (.iconst 3, 1) := by decide +kernel
theorem dX5_isFit_29 : decode cX5_isFit 29 = .ok (.iload_n 1, 1) := by decide +kernel
theorem dX5_isFit_30 : decode cX5_isFit 30 = .ok (.imul, 1) := by decide +kernel
theorem dX5_isFit_31 : decode cX5_isFit 31 = .ok (.iload 4, 2) := by decide +kernel
theorem dX5_isFit_33 : decode cX5_isFit 33 = .ok (.iadd, 1) := by decide +kernel
theorem dX5_isFit_34 : decode cX5_isFit 34 = .ok (.iaload, 1) := by decide +kernel
theorem dX5_isFit_35 : decode cX5_isFit 35 = .ok (.istore 5, 2) := by decide +kernel
theorem dX5_isFit_37 : decode cX5_isFit 37 = .ok (.aload_n 0, 1) := by decide +kernel
theorem dX5_isFit_38 : decode cX5_isFit 38 = .ok (.getfield 67, 3) := by decide +kernel
theorem dX5_isFit_41 : decode cX5_isFit 41 = .ok (.iconst 3, 1) := by decide +kernel
theorem dX5_isFit_42 : decode cX5_isFit 42 = .ok (.iload_n 2, 1) := by decide +kernel
theorem dX5_isFit_43 : decode cX5_isFit 43 = .ok (.imul, 1) := by decide +kernel
theorem dX5_isFit_44 : decode cX5_isFit 44 = .ok (.iload 4, 2) := by decide +kernel
theorem dX5_isFit_46 : decode cX5_isFit 46 = .ok (.iadd, 1) := by decide +kernel
theorem dX5_isFit_47 : decode cX5_isFit 47 = .ok (.iaload, 1) := by decide +kernel
theorem dX5_isFit_48 : decode cX5_isFit 48 = .ok (.istore 6, 2) := by decide +kernel
theorem dX5_isFit_50 : decode cX5_isFit 50 = .ok (.iload_n 3, 1) := by decide +kernel
theorem dX5_isFit_51 : decode cX5_isFit 51 = .ok (.ifCond .eq 28, 3) := by decide +kernel
theorem dX5_isFit_54 : decode cX5_isFit 54 = .ok (.iload 6, 2) := by decide +kernel
theorem dX5_isFit_56 : decode cX5_isFit 56 = .ok (.ifCond .eq 23, 3) := by decide +kernel
theorem dX5_isFit_59 : decode cX5_isFit 59 = .ok (.iload 5, 2) := by decide +kernel
theorem dX5_isFit_61 : decode cX5_isFit 61 = .ok (.ifCond .lt 14, 3) := by decide +kernel
theorem dX5_isFit_64 : decode cX5_isFit 64 = .ok (.iload 6, 2) := by decide +kernel
theorem dX5_isFit_66 : decode cX5_isFit 66 = .ok (.iload 5, 2) := by decide +kernel
theorem dX5_isFit_68 : decode cX5_isFit 68 = .ok (.ishr, 1) := by decide +kernel
theorem dX5_isFit_69 : decode cX5_isFit 69 = .ok (.iconst 1, 1) := by decide +kernel
theorem dX5_isFit_70 : decode cX5_isFit 70 = .ok (.iand, 1) := by decide +kernel
theorem dX5_isFit_71 : decode cX5_isFit 71 = .ok (.iconst 1, 1) := by decide +kernel
theorem dX5_isFit_72 : decode cX5_isFit 72 = .ok (.if_icmp .ne 7, 3) := by decide +kernel
theorem dX5_isFit_75 : decode cX5_isFit 75 = .ok (.iconst 1, 1) := by decide +kernel
theorem dX5_isFit_76 : decode cX5_isFit 76 = .ok (.goto 4, 3) := by decide +kernel
theorem dX5_isFit_79 : decode cX5_isFit 79 = .ok (.iconst 0, 1) := by decide +kernel
theorem dX5_isFit_80 : decode cX5_isFit 80 = .ok (.istore_n 3, 1) := by decide +kernel
theorem dX5_isFit_81 : decode cX5_isFit 81 = .ok (.iinc 4 1, 3) := by decide +kernel
theorem dX5_isFit_84 : decode cX5_isFit 84 = .ok (.goto (-66), 3) := by decide +kernel
theorem dX5_isFit_87 : decode cX5_isFit 87 = .ok (.iload_n 3, 1) := by decide +kernel
theorem dX5_isFit_88 : decode cX5_isFit 88 = .ok (.ireturn, 1) := by decide +kernel
theorem dX5_questionOf_0 : decode cX5_questionOf 0 = .ok (.iconst 0, 1) := by decide +kernel
theorem dX5_questionOf_1 : decode cX5_questionOf 1 = .ok (.istore_n 3, 1) := by decide +kernel
theorem dX5_questionOf_2 : decode cX5_questionOf 2 = .ok (.iload_n 3, 1) := by decide +kernel
theorem dX5_questionOf_3 : decode cX5_questionOf 3 = .ok (.iconst 3, 1) := by decide +kernel
theorem dX5_questionOf_4 : decode cX5_questionOf 4 = .ok (.if_icmp .ge 41, 3) := by decide +kernel
theorem dX5_questionOf_7 : decode cX5_questionOf 7 = .ok (.aload_n 0, 1) := by decide +kernel
theorem dX5_questionOf_8 : decode cX5_questionOf 8 = .ok (.getfield 57, 3) := by decide +kernel
theorem dX5_questionOf_11 : decode cX5_questionOf 11 = .ok (.iconst 3, 1) := by decide +kernel
theorem dX5_questionOf_12 : decode cX5_questionOf 12 = .ok (.iload_n 1, 1) := by decide +kernel
theorem dX5_questionOf_13 : decode cX5_questionOf 13 = .ok (.imul, 1) := by decide +kernel
theorem dX5_questionOf_14 : decode cX5_questionOf 14 = .ok (.iload_n 3, 1) := by decide +kernel
theorem dX5_questionOf_15 : decode cX5_questionOf 15 = .ok (.iadd, 1) := by decide +kernel
theorem dX5_questionOf_16 : decode cX5_questionOf 16 = .ok (.iaload, 1) := by decide +kernel
theorem dX5_questionOf_17 : decode cX5_questionOf 17 = .ok (.ifCond .ge 22, 3) := by decide +kernel
theorem dX5_questionOf_20 : decode cX5_questionOf 20 = .ok (.aload_n 0, 1) := by decide +kernel
theorem dX5_questionOf_21 : decode cX5_questionOf 21 = .ok (.getfield 67, 3) := by decide +kernel
theorem dX5_questionOf_24 : decode cX5_questionOf 24 = .ok (.iconst 3, 1) := by decide +kernel
theorem dX5_questionOf_25 : decode cX5_questionOf 25 = .ok (.iload_n 2, 1) := by decide +kernel
theorem dX5_questionOf_26 : decode cX5_questionOf 26 = .ok (.imul, 1) := by decide +kernel
theorem dX5_questionOf_27 : decode cX5_questionOf 27 = .ok (.iload_n 3, 1) := by decide +kernel
theorem dX5_questionOf_28 : decode cX5_questionOf 28 = .ok (.iadd, 1) := by decide +kernel
theorem dX5_questionOf_29 : decode cX5_questionOf 29 = .ok (.iaload, 1) := by decide +kernel
theorem dX5_questionOf_30 : decode cX5_questionOf 30 = .ok (.iload_n 3, 1) := by decide +kernel
theorem dX5_questionOf_31 : decode cX5_questionOf 31 = .ok (.invokestatic 124, 3) := by decide +kernel
theorem dX5_questionOf_34 : decode cX5_questionOf 34 = .ok (.if_icmp .eq 5, 3) := by decide +kernel
theorem dX5_questionOf_37 : decode cX5_questionOf 37 = .ok (.iload_n 3, 1) := by decide +kernel
theorem dX5_questionOf_38 : decode cX5_questionOf 38 = .ok (.ireturn, 1) := by decide +kernel
theorem dX5_questionOf_39 : decode cX5_questionOf 39 = .ok (.iinc 3 1, 3) := by decide +kernel
theorem dX5_questionOf_42 : decode cX5_questionOf 42 = .ok (.goto (-40), 3) := by decide +kernel
theorem dX5_questionOf_45 : decode cX5_questionOf 45 = .ok (.iconst (-1), 1) := by decide +kernel
theorem dX5_questionOf_46 : decode cX5_questionOf 46 = .ok (.ireturn, 1) := by decide +kernel
theorem dX5_costWith_0 : decode cX5_costWith 0 = .ok (.aload_n 0, 1) := by decide +kernel
theorem dX5_costWith_1 : decode cX5_costWith 1 = .ok (.lload_n 1, 1) := by decide +kernel
theorem dX5_costWith_2 : decode cX5_costWith 2 = .ok (.invokevirtual 155, 3) := by decide +kernel
theorem dX5_costWith_5 : decode cX5_costWith 5 = .ok (.lstore 5, 2) := by decide +kernel
theorem dX5_costWith_7 : decode cX5_costWith 7 = .ok (.aload_n 0, 1) := by decide +kernel
theorem dX5_costWith_8 : decode cX5_costWith 8 = .ok (.aload_n 0, 1) := by decide +kernel
theorem dX5_costWith_9 : decode cX5_costWith 9 = .ok (.getfield 64, 3) := by decide +kernel
theorem dX5_costWith_12 : decode cX5_costWith 12 = .ok (.iload 4, 2) := by decide +kernel
theorem dX5_costWith_14 : decode cX5_costWith 14 = .ok (.laload, 1) := by decide +kernel
theorem dX5_costWith_15 : decode cX5_costWith 15 = .ok (.invokevirtual 155, 3) := by decide +kernel
theorem dX5_costWith_18 : decode cX5_costWith 18 = .ok (.lstore 7, 2) := by decide +kernel
theorem dX5_costWith_20 : decode cX5_costWith 20 = .ok (.aload_n 0, 1) := by decide +kernel
theorem dX5_costWith_21 : decode cX5_costWith 21 = .ok (.getfield 48, 3) := by decide +kernel
theorem dX5_costWith_24 : decode cX5_costWith 24 = .ok (.iload 4, 2) := by decide +kernel
theorem dX5_costWith_26 : decode cX5_costWith 26 = .ok (.iaload, 1) := by decide +kernel
theorem dX5_costWith_27 : decode cX5_costWith 27 = .ok (.bipush 9, 2) := by decide +kernel
theorem dX5_costWith_29 : decode cX5_costWith 29 = .ok (.if_icmp .le 8, 3) := by decide +kernel
theorem dX5_costWith_32 : decode cX5_costWith 32 = .ok (.bipush 9, 2) := by decide +kernel
theorem dX5_costWith_34 : decode cX5_costWith 34 = .ok (.goto 27, 3) := by decide +kernel
theorem dX5_costWith_37 : decode cX5_costWith 37 = .ok (.aload_n 0, 1) := by decide +kernel
theorem dX5_costWith_38 : decode cX5_costWith 38 = .ok (.getfield 48, 3) := by decide +kernel
theorem dX5_costWith_41 : decode cX5_costWith 41 = .ok (.iload 4, 2) := by decide +kernel
theorem dX5_costWith_43 : decode cX5_costWith 43 = .ok (.iaload, 1) := by decide +kernel
theorem dX5_costWith_44 : decode cX5_costWith 44 = .ok (.bipush (-9), 2) := by decide +kernel
theorem dX5_costWith_46 : decode cX5_costWith 46 = .ok (.if_icmp .ge 8, 3) := by decide +kernel
theorem dX5_costWith_49 : decode cX5_costWith 49 = .ok (.bipush (-9), 2) := by decide +kernel
theorem dX5_costWith_51 : decode cX5_costWith 51 = .ok (.goto 10, 3) := by decide +kernel
theorem dX5_costWith_54 : decode cX5_costWith 54 = .ok (.aload_n 0, 1) := by decide +kernel
theorem dX5_costWith_55 : decode cX5_costWith 55 = .ok (.getfield 48, 3) := by decide +kernel
theorem dX5_costWith_58 : decode cX5_costWith 58 = .ok (.iload 4, 2) := by decide +kernel
theorem dX5_costWith_60 : decode cX5_costWith 60 = .ok (.iaload, 1) := by decide +kernel
theorem dX5_costWith_61 : decode cX5_costWith 61 = .ok (.istore 9, 2) := by decide +kernel
theorem dX5_costWith_63 : decode cX5_costWith 63 = .ok (.bipush 10, 2) := by decide +kernel
theorem dX5_costWith_65 : decode cX5_costWith 65 = .ok (.lload 5, 2) := by decide +kernel
theorem dX5_costWith_67 : decode cX5_costWith 67 = .ok (.lload 7, 2) := by decide +kernel
theorem dX5_costWith_69 : decode cX5_costWith 69 = .ok (.ldc2_w 178, 3) := by decide +kernel
theorem dX5_costWith_72 : decode cX5_costWith 72 = .ok (.lxor, 1) := by decide +kernel
theorem dX5_costWith_73 : decode cX5_costWith 73 = .ok (.land, 1) := by decide +kernel
theorem dX5_costWith_74 : decode cX5_costWith 74 = .ok (.invokestatic 159, 3) := by decide +kernel
theorem dX5_costWith_77 : decode cX5_costWith 77 = .ok (.imul, 1) := by decide +kernel
theorem dX5_costWith_78 : decode cX5_costWith 78 = .ok (.iconst 3, 1) := by decide +kernel
theorem dX5_costWith_79 : decode cX5_costWith 79 = .ok (.lload 7, 2) := by decide +kernel
theorem dX5_costWith_81 : decode cX5_costWith 81 = .ok (.lload 5, 2) := by decide +kernel
theorem dX5_costWith_83 : decode cX5_costWith 83 = .ok (.ldc2_w 178, 3) := by decide +kernel
theorem dX5_costWith_86 : decode cX5_costWith 86 = .ok (.lxor, 1) := by decide +kernel
theorem dX5_costWith_87 : decode cX5_costWith 87 = .ok (.land, 1) := by decide +kernel
theorem dX5_costWith_88 : decode cX5_costWith 88 = .ok (.invokestatic 159, 3) := by decide +kernel
theorem dX5_costWith_91 : decode cX5_costWith 91 = .ok (.imul, 1) := by decide +kernel
theorem dX5_costWith_92 : decode cX5_costWith 92 = .ok (.iadd, 1) := by decide +kernel
theorem dX5_costWith_93 : decode cX5_costWith 93 = .ok (.aload_n 0, 1) := by decide +kernel
theorem dX5_costWith_94 : decode cX5_costWith 94 = .ok (.getfield 73, 3) := by decide +kernel
theorem dX5_costWith_97 : decode cX5_costWith 97 = .ok (.iload 4, 2) := by decide +kernel
theorem dX5_costWith_99 : decode cX5_costWith 99 = .ok (.baload, 1) := by decide +kernel
theorem dX5_costWith_100 : decode cX5_costWith 100 = .ok (.ifCond .eq 8, 3) := by decide +kernel
theorem dX5_costWith_103 : decode cX5_costWith 103 = .ok (.bipush 15, 2) := by decide +kernel
theorem dX5_costWith_105 : decode cX5_costWith 105 = .ok (.goto 4, 3) := by decide +kernel
theorem dX5_costWith_108 : decode cX5_costWith 108 = .ok (.iconst 0, 1) := by decide +kernel
theorem dX5_costWith_109 : decode cX5_costWith 109 = .ok (.iadd, 1) := by decide +kernel
theorem dX5_costWith_110 : decode cX5_costWith 110 = .ok (.aload_n 0, 1) := by decide +kernel
theorem dX5_costWith_111 : decode cX5_costWith 111 = .ok (.iload_n 3, 1) := by decide +kernel
theorem dX5_costWith_112 : decode cX5_costWith 112 = .ok (.iload 4, 2) := by decide +kernel
theorem dX5_costWith_114 : decode cX5_costWith 114 = .ok (.invokevirtual 180, 3) := by decide +kernel
theorem dX5_costWith_117 : decode cX5_costWith 117 = .ok (.ifCond .lt 7, 3) := by decide +kernel
theorem dX5_costWith_120 : decode cX5_costWith 120 = .ok (.iconst 5, 1) := by decide +kernel
theorem dX5_costWith_121 : decode cX5_costWith 121 = .ok (.goto 4, 3) := by decide +kernel
theorem dX5_costWith_124 : decode cX5_costWith 124 = .ok (.iconst 0, 1) := by decide +kernel
theorem dX5_costWith_125 : decode cX5_costWith 125 = .ok (.iadd, 1) := by decide +kernel
theorem dX5_costWith_126 : decode cX5_costWith 126 = .ok (.iload 9, 2) := by decide +kernel
theorem dX5_costWith_128 : decode cX5_costWith 128 = .ok (.isub, 1) := by decide +kernel
theorem dX5_costWith_129 : decode cX5_costWith 129 = .ok (.ireturn, 1) := by decide +kernel
theorem dX5_findsWith_0 : decode cX5_findsWith 0 = .ok (.iconst 0, 1) := by decide +kernel
theorem dX5_findsWith_1 : decode cX5_findsWith 1 = .ok (.istore 4, 2) := by decide +kernel
theorem dX5_findsWith_3 : decode cX5_findsWith 3 = .ok (.iconst 0, 1) := by decide +kernel
theorem dX5_findsWith_4 : decode cX5_findsWith 4 = .ok (.istore 5, 2) := by decide +kernel
theorem dX5_findsWith_6 : decode cX5_findsWith 6 = .ok (.iload 5, 2) := by decide +kernel
theorem dX5_findsWith_8 : decode cX5_findsWith 8 = .ok (.aload_n 0, 1) := by decide +kernel
theorem dX5_findsWith_9 : decode cX5_findsWith 9 = .ok (.getfield 79, 3) := by decide +kernel
theorem dX5_findsWith_12 : decode cX5_findsWith 12 = .ok (.if_icmp .ge 44, 3) := by decide +kernel
theorem dX5_findsWith_15 : decode cX5_findsWith 15 = .ok (.iload 4, 2) := by decide +kernel
theorem dX5_findsWith_17 : decode cX5_findsWith 17 = .ok (.aload_n 0, 1) := by decide +kernel
theorem dX5_findsWith_18 : decode cX5_findsWith 18 = .ok (.iload_n 3, 1) := by decide +kernel
theorem dX5_findsWith_19 : decode cX5_findsWith 19 = .ok (.iload 5, 2) := by decide +kernel
theorem dX5_findsWith_21 : decode cX5_findsWith 21 = .ok (.invokevirtual 184, 3) := by decide +kernel
theorem dX5_findsWith_24 : decode cX5_findsWith 24 = .ok (.ifCond .eq 22, 3) := by decide +kernel
theorem dX5_findsWith_27 : decode cX5_findsWith 27 = .ok (.aload_n 0, 1) := by decide +kernel
theorem dX5_findsWith_28 : decode cX5_findsWith 28 = .ok (.lload_n 1, 1) := by decide +kernel
theorem dX5_findsWith_29 : decode cX5_findsWith 29 = .ok (.iload_n 3, 1) := by decide +kernel
theorem dX5_findsWith_30 : decode cX5_findsWith 30 = .ok (.iload 5, 2) := by decide +kernel
theorem dX5_findsWith_32 : decode cX5_findsWith 32 = .ok (.invokevirtual 187, 3) := by decide +kernel
theorem dX5_findsWith_35 : decode cX5_findsWith 35 = .ok (.aload_n 0, 1) := by decide +kernel
theorem dX5_findsWith_36 : decode cX5_findsWith 36 = .ok (.getfield 23, 3) := by decide +kernel
theorem dX5_findsWith_39 : decode cX5_findsWith 39 = .ok (.if_icmp .gt 7, 3) := by decide +kernel
theorem dX5_findsWith_42 : decode cX5_findsWith 42 = .ok (.iconst 1, 1) := by decide +kernel
theorem dX5_findsWith_43 : decode cX5_findsWith 43 = .ok (.goto 4, 3) := by decide +kernel
theorem dX5_findsWith_46 : decode cX5_findsWith 46 = .ok (.iconst 0, 1) := by decide +kernel
theorem dX5_findsWith_47 : decode cX5_findsWith 47 = .ok (.iadd, 1) := by decide +kernel
theorem dX5_findsWith_48 : decode cX5_findsWith 48 = .ok (.istore 4, 2) := by decide +kernel
theorem dX5_findsWith_50 : decode cX5_findsWith 50 = .ok (.iinc 5 1, 3) := by decide +kernel
theorem dX5_findsWith_53 : decode cX5_findsWith 53 = .ok (.goto (-47), 3) := by decide +kernel
theorem dX5_findsWith_56 : decode cX5_findsWith 56 = .ok (.iload 4, 2) := by decide +kernel
theorem dX5_findsWith_58 : decode cX5_findsWith 58 = .ok (.ireturn, 1) := by decide +kernel
theorem dX5_cost_0 : decode cX5_cost 0 = .ok (.aload_n 0, 1) := by decide +kernel
theorem dX5_cost_1 : decode cX5_cost 1 = .ok (.iload_n 1, 1) := by decide +kernel
theorem dX5_cost_2 : decode cX5_cost 2 = .ok (.invokevirtual 191, 3) := by decide +kernel
theorem dX5_cost_5 : decode cX5_cost 5 = .ok (.ifCond .eq 11, 3) := by decide +kernel
theorem dX5_cost_8 : decode cX5_cost 8 = .ok (.aload_n 0, 1) := by decide +kernel
theorem dX5_cost_9 : decode cX5_cost 9 = .ok (.iload_n 2, 1) := by decide +kernel
theorem dX5_cost_10 : decode cX5_cost 10 = .ok (.invokevirtual 111, 3) := by decide +kernel
theorem dX5_cost_13 : decode cX5_cost 13 = .ok (.ifCond .ne 7, 3) := by decide +kernel
theorem dX5_cost_16 : decode cX5_cost 16 = .ok (.sipush (-1001), 3) := by decide +kernel
theorem dX5_cost_19 : decode cX5_cost 19 = .ok (.ireturn, 1) := by decide +kernel
theorem dX5_cost_20 : decode cX5_cost 20 = .ok (.aload_n 0, 1) := by decide +kernel
theorem dX5_cost_21 : decode cX5_cost 21 = .ok (.invokevirtual 118, 3) := by decide +kernel
theorem dX5_cost_24 : decode cX5_cost 24 = .ok (.aload_n 0, 1) := by decide +kernel
theorem dX5_cost_25 : decode cX5_cost 25 = .ok (.iload_n 1, 1) := by decide +kernel
theorem dX5_cost_26 : decode cX5_cost 26 = .ok (.iload_n 2, 1) := by decide +kernel
theorem dX5_cost_27 : decode cX5_cost 27 = .ok (.invokevirtual 184, 3) := by decide +kernel
theorem dX5_cost_30 : decode cX5_cost 30 = .ok (.ifCond .eq 18, 3) := by decide +kernel
theorem dX5_cost_33 : decode cX5_cost 33 = .ok (.aload_n 0, 1) := by decide +kernel
theorem dX5_cost_34 : decode cX5_cost 34 = .ok (.aload_n 0, 1) := by decide +kernel
theorem dX5_cost_35 : decode cX5_cost 35 = .ok (.getfield 54, 3) := by decide +kernel
theorem dX5_cost_38 : decode cX5_cost 38 = .ok (.iload_n 1, 1) := by decide +kernel
theorem dX5_cost_39 : decode cX5_cost 39 = .ok (.laload, 1) := by decide +kernel
theorem dX5_cost_40 : decode cX5_cost 40 = .ok (.iload_n 1, 1) := by decide +kernel
theorem dX5_cost_41 : decode cX5_cost 41 = .ok (.iload_n 2, 1) := by decide +kernel
theorem dX5_cost_42 : decode cX5_cost 42 = .ok (.invokevirtual 187, 3) := by decide +kernel
theorem dX5_cost_45 : decode cX5_cost 45 = .ok (.goto 6, 3) := by decide +kernel
theorem dX5_cost_48 : decode cX5_cost 48 = .ok (.sipush (-1003), 3) := by decide +kernel
theorem dX5_cost_51 : decode cX5_cost 51 = .ok (.ireturn, 1) := by decide +kernel
theorem dX5_found_0 : decode cX5_found 0 = .ok (.aload_n 0, 1) := by decide +kernel
theorem dX5_found_1 : decode cX5_found 1 = .ok (.iload_n 1, 1) := by decide +kernel
theorem dX5_found_2 : decode cX5_found 2 = .ok (.invokevirtual 191, 3) := by decide +kernel
theorem dX5_found_5 : decode cX5_found 5 = .ok (.ifCond .ne 7, 3) := by decide +kernel
theorem dX5_found_8 : decode cX5_found 8 = .ok (.sipush (-1001), 3) := by decide +kernel
theorem dX5_found_11 : decode cX5_found 11 = .ok (.ireturn, 1) := by decide +kernel
theorem dX5_found_12 : decode cX5_found 12 = .ok (.iload_n 3, 1) := by decide +kernel
theorem dX5_found_13 : decode cX5_found 13 = .ok (.i2l, 1) := by decide +kernel
theorem dX5_found_14 : decode cX5_found 14 = .ok (.lconst 0, 1) := by decide +kernel
theorem dX5_found_15 : decode cX5_found 15 = .ok (.ldc2_w 194, 3) := by decide +kernel
theorem dX5_found_18 : decode cX5_found 18 = .ok (.invokestatic 82, 3) := by decide +kernel
theorem dX5_found_21 : decode cX5_found 21 = .ok (.ifCond .ne 7, 3) := by decide +kernel
theorem dX5_found_24 : decode cX5_found 24 = .ok (.sipush (-1002), 3) := by decide +kernel
theorem dX5_found_27 : decode cX5_found 27 = .ok (.ireturn, 1) := by decide +kernel
theorem dX5_found_28 : decode cX5_found 28 = .ok (.aload_n 0, 1) := by decide +kernel
theorem dX5_found_29 : decode cX5_found 29 = .ok (.invokevirtual 118, 3) := by decide +kernel
theorem dX5_found_32 : decode cX5_found 32 = .ok (.iconst 0, 1) := by decide +kernel
theorem dX5_found_33 : decode cX5_found 33 = .ok (.istore 4, 2) := by decide +kernel
theorem dX5_found_35 : decode cX5_found 35 = .ok (.iload 4, 2) := by decide +kernel
theorem dX5_found_37 : decode cX5_found 37 = .ok (.aload_n 0, 1) := by decide +kernel
theorem dX5_found_38 : decode cX5_found 38 = .ok (.getfield 79, 3) := by decide +kernel
theorem dX5_found_41 : decode cX5_found 41 = .ok (.if_icmp .ge 180, 3) := by decide +kernel
theorem dX5_found_44 : decode cX5_found 44 = .ok (.aload_n 0, 1) := by decide +kernel
theorem dX5_found_45 : decode cX5_found 45 = .ok (.iload_n 1, 1) := by decide +kernel
theorem dX5_found_46 : decode cX5_found 46 = .ok (.iload 4, 2) := by decide +kernel
theorem dX5_found_48 : decode cX5_found 48 = .ok (.invokevirtual 184, 3) := by decide +kernel
theorem dX5_found_51 : decode cX5_found 51 = .ok (.ifCond .eq 19, 3) := by decide +kernel
theorem dX5_found_54 : decode cX5_found 54 = .ok (.aload_n 0, 1) := by decide +kernel
theorem dX5_found_55 : decode cX5_found 55 = .ok (.aload_n 0, 1) := by decide +kernel
theorem dX5_found_56 : decode cX5_found 56 = .ok (.getfield 54, 3) := by decide +kernel
theorem dX5_found_59 : decode cX5_found 59 = .ok (.iload_n 1, 1) := by decide +kernel
theorem dX5_found_60 : decode cX5_found 60 = .ok (.laload, 1) := by decide +kernel
theorem dX5_found_61 : decode cX5_found 61 = .ok (.iload_n 1, 1) := by decide +kernel
theorem dX5_found_62 : decode cX5_found 62 = .ok (.iload 4, 2) := by decide +kernel
theorem dX5_found_64 : decode cX5_found 64 = .ok (.invokevirtual 187, 3) := by decide +kernel
theorem dX5_found_67 : decode cX5_found 67 = .ok (.goto 9, 3) := by decide +kernel
theorem dX5_found_70 : decode cX5_found 70 = .ok (.aload_n 0, 1) := by decide +kernel
theorem dX5_found_71 : decode cX5_found 71 = .ok (.getfield 23, 3) := by decide +kernel
theorem dX5_found_74 : decode cX5_found 74 = .ok (.iconst 1, 1) := by decide +kernel
theorem dX5_found_75 : decode cX5_found 75 = .ok (.iadd, 1) := by decide +kernel
theorem dX5_found_76 : decode cX5_found 76 = .ok (.istore 5, 2) := by decide +kernel
theorem dX5_found_78 : decode cX5_found 78 = .ok (.iload 5, 2) := by decide +kernel
theorem dX5_found_80 : decode cX5_found 80 = .ok (.aload_n 0, 1) := by decide +kernel
theorem dX5_found_81 : decode cX5_found 81 = .ok (.getfield 23, 3) := by decide +kernel
theorem dX5_found_84 : decode cX5_found 84 = .ok (.if_icmp .gt 131, 3) := by decide +kernel
theorem dX5_found_87 : decode cX5_found 87 = .ok (.iconst 0, 1) := by decide +kernel
theorem dX5_found_88 : decode cX5_found 88 = .ok (.istore 6, 2) := by decide +kernel
theorem dX5_found_90 : decode cX5_found 90 = .ok (.iconst 0, 1) := by decide +kernel
theorem dX5_found_91 : decode cX5_found 91 = .ok (.istore 7, 2) := by decide +kernel
theorem dX5_found_93 : decode cX5_found 93 = .ok (.iload 7, 2) := by decide +kernel
theorem dX5_found_95 : decode cX5_found 95 = .ok (.aload_n 0, 1) := by decide +kernel
theorem dX5_found_96 : decode cX5_found 96 = .ok (.getfield 79, 3) := by decide +kernel
theorem dX5_found_99 : decode cX5_found 99 = .ok (.if_icmp .ge 83, 3) := by decide +kernel
theorem dX5_found_102 : decode cX5_found 102 = .ok (.aload_n 0, 1) := by decide +kernel
theorem dX5_found_103 : decode cX5_found 103 = .ok (.iload_n 1, 1) := by decide +kernel
theorem dX5_found_104 : decode cX5_found 104 = .ok (.iload 7, 2) := by decide +kernel
theorem dX5_found_106 : decode cX5_found 106 = .ok (.invokevirtual 184, 3) := by decide +kernel
theorem dX5_found_109 : decode cX5_found 109 = .ok (.ifCond .eq 19, 3) := by decide +kernel
theorem dX5_found_112 : decode cX5_found 112 = .ok (.aload_n 0, 1) := by decide +kernel
theorem dX5_found_113 : decode cX5_found 113 = .ok (.aload_n 0, 1) := by decide +kernel
theorem dX5_found_114 : decode cX5_found 114 = .ok (.getfield 54, 3) := by decide +kernel
theorem dX5_found_117 : decode cX5_found 117 = .ok (.iload_n 1, 1) := by decide +kernel
theorem dX5_found_118 : decode cX5_found 118 = .ok (.laload, 1) := by decide +kernel
theorem dX5_found_119 : decode cX5_found 119 = .ok (.iload_n 1, 1) := by decide +kernel
theorem dX5_found_120 : decode cX5_found 120 = .ok (.iload 7, 2) := by decide +kernel
theorem dX5_found_122 : decode cX5_found 122 = .ok (.invokevirtual 187, 3) := by decide +kernel
theorem dX5_found_125 : decode cX5_found 125 = .ok (.goto 9, 3) := by decide +kernel
theorem dX5_found_128 : decode cX5_found 128 = .ok (.aload_n 0, 1) := by decide +kernel
theorem dX5_found_129 : decode cX5_found 129 = .ok (.getfield 23, 3) := by decide +kernel
theorem dX5_found_132 : decode cX5_found 132 = .ok (.iconst 1, 1) := by decide +kernel
theorem dX5_found_133 : decode cX5_found 133 = .ok (.iadd, 1) := by decide +kernel
theorem dX5_found_134 : decode cX5_found 134 = .ok (.istore 8, 2) := by decide +kernel
theorem dX5_found_136 : decode cX5_found 136 = .ok (.iload 6, 2) := by decide +kernel
theorem dX5_found_138 : decode cX5_found 138 = .ok (.iload 8, 2) := by decide +kernel
theorem dX5_found_140 : decode cX5_found 140 = .ok (.aload_n 0, 1) := by decide +kernel
theorem dX5_found_141 : decode cX5_found 141 = .ok (.getfield 23, 3) := by decide +kernel
theorem dX5_found_144 : decode cX5_found 144 = .ok (.if_icmp .gt 28, 3) := by decide +kernel
theorem dX5_found_147 : decode cX5_found 147 = .ok (.iload 8, 2) := by decide +kernel
theorem dX5_found_149 : decode cX5_found 149 = .ok (.iload 5, 2) := by decide +kernel
theorem dX5_found_151 : decode cX5_found 151 = .ok (.if_icmp .lt 17, 3) := by decide +kernel
theorem dX5_found_154 : decode cX5_found 154 = .ok (.iload 8, 2) := by decide +kernel
theorem dX5_found_156 : decode cX5_found 156 = .ok (.iload 5, 2) := by decide +kernel
theorem dX5_found_158 : decode cX5_found 158 = .ok (.if_icmp .ne 14, 3) := by decide +kernel
theorem dX5_found_161 : decode cX5_found 161 = .ok (.iload 7, 2) := by decide +kernel
theorem dX5_found_163 : decode cX5_found 163 = .ok (.iload 4, 2) := by decide +kernel
theorem dX5_found_165 : decode cX5_found 165 = .ok (.if_icmp .ge 7, 3) := by decide +kernel
theorem dX5_found_168 : decode cX5_found 168 = .ok (.iconst 1, 1) := by decide +kernel
theorem dX5_found_169 : decode cX5_found 169 = .ok (.goto 4, 3) := by decide +kernel
theorem dX5_found_172 : decode cX5_found 172 = .ok (.iconst 0, 1) := by decide +kernel
theorem dX5_found_173 : decode cX5_found 173 = .ok (.iadd, 1) := by decide +kernel
theorem dX5_found_174 : decode cX5_found 174 = .ok (.istore 6, 2) := by decide +kernel
theorem dX5_found_176 : decode cX5_found 176 = .ok (.iinc 7 1, 3) := by decide +kernel
theorem dX5_found_179 : decode cX5_found 179 = .ok (.goto (-86), 3) := by decide +kernel
theorem dX5_found_182 : decode cX5_found 182 = .ok (.iload 6, 2) := by decide +kernel
theorem dX5_found_184 : decode cX5_found 184 = .ok (.iload_n 2, 1) := by decide +kernel
theorem dX5_found_185 : decode cX5_found 185 = .ok (.if_icmp .ne 30, 3) := by decide +kernel
theorem dX5_found_188 : decode cX5_found 188 = .ok (.iload_n 3, 1) := by decide +kernel
theorem dX5_found_189 : decode cX5_found 189 = .ok (.ifCond .ne 8, 3) := by decide +kernel
theorem dX5_found_192 : decode cX5_found 192 = .ok (.iload 4, 2) := by decide +kernel
theorem dX5_found_194 : decode cX5_found 194 = .ok (.goto 20, 3) := by decide +kernel
theorem dX5_found_197 : decode cX5_found 197 = .ok (.iload_n 3, 1) := by decide +kernel
theorem dX5_found_198 : decode cX5_found 198 = .ok (.iconst 1, 1) := by decide +kernel
theorem dX5_found_199 : decode cX5_found 199 = .ok (.if_icmp .ne 8, 3) := by decide +kernel
theorem dX5_found_202 : decode cX5_found 202 = .ok (.iload 5, 2) := by decide +kernel
theorem dX5_found_204 : decode cX5_found 204 = .ok (.goto 10, 3) := by decide +kernel
theorem dX5_found_207 : decode cX5_found 207 = .ok (.aload_n 0, 1) := by decide +kernel
theorem dX5_found_208 : decode cX5_found 208 = .ok (.iload_n 1, 1) := by decide +kernel
theorem dX5_found_209 : decode cX5_found 209 = .ok (.iload 4, 2) := by decide +kernel
theorem dX5_found_211 : decode cX5_found 211 = .ok (.invokevirtual 180, 3) := by decide +kernel
theorem dX5_found_214 : decode cX5_found 214 = .ok (.ireturn, 1) := by decide +kernel
theorem dX5_found_215 : decode cX5_found 215 = .ok (.iinc 4 1, 3) := by decide +kernel
theorem dX5_found_218 : decode cX5_found 218 = .ok (.goto (-183), 3) := by decide +kernel
theorem dX5_found_221 : decode cX5_found 221 = .ok (.iconst (-1), 1) := by decide +kernel
theorem dX5_found_222 : decode cX5_found 222 = .ok (.ireturn, 1) := by decide +kernel
theorem dX5_findHeaps_0 : decode cX5_findHeaps 0 = .ok (.aload_n 0, 1) := by decide +kernel
theorem dX5_findHeaps_1 : decode cX5_findHeaps 1 = .ok (.invokevirtual 118, 3) := by decide +kernel
theorem dX5_findHeaps_4 : decode cX5_findHeaps 4 = .ok (.iconst 0, 1) := by decide +kernel
theorem dX5_findHeaps_5 : decode cX5_findHeaps 5 = .ok (.istore_n 1, 1) := by decide +kernel
theorem dX5_findHeaps_6 : decode cX5_findHeaps 6 = .ok (.iload_n 1, 1) := by decide +kernel
theorem dX5_findHeaps_7 : decode cX5_findHeaps 7 = .ok (.aload_n 0, 1) := by decide +kernel
theorem dX5_findHeaps_8 : decode cX5_findHeaps 8 = .ok (.getfield 175, 3) := by decide +kernel
theorem dX5_findHeaps_11 : decode cX5_findHeaps 11 = .ok (.if_icmp .ge 34, 3) := by decide +kernel
theorem dX5_findHeaps_14 : decode cX5_findHeaps 14 = .ok (.aload_n 0, 1) := by decide +kernel
theorem dX5_findHeaps_15 : decode cX5_findHeaps 15 = .ok (.getfield 76, 3) := by decide +kernel
theorem dX5_findHeaps_18 : decode cX5_findHeaps 18 = .ok (.iload_n 1, 1) := by decide +kernel
theorem dX5_findHeaps_19 : decode cX5_findHeaps 19 = .ok (.aload_n 0, 1) := by decide +kernel
theorem dX5_findHeaps_20 : decode cX5_findHeaps 20 = .ok (.aload_n 0, 1) := by decide +kernel
theorem dX5_findHeaps_21 : decode cX5_findHeaps 21 = .ok (.getfield 54, 3) := by decide +kernel
theorem dX5_findHeaps_24 : decode cX5_findHeaps 24 = .ok (.iload_n 1, 1) := by decide +kernel
theorem dX5_findHeaps_25 : decode cX5_findHeaps 25 = .ok (.laload, 1) := by decide +kernel
theorem dX5_findHeaps_26 : decode cX5_findHeaps 26 = .ok (.iload_n 1, 1) := by decide +kernel
theorem dX5_findHeaps_27 : decode cX5_findHeaps 27 = .ok (.invokevirtual 196, 3) := by decide +kernel
theorem dX5_findHeaps_30 : decode cX5_findHeaps 30 = .ok (.ifCond .ne 7, 3) := by decide +kernel
theorem dX5_findHeaps_33 : decode cX5_findHeaps 33 = .ok (.iload_n 1, 1) := by decide +kernel
theorem dX5_findHeaps_34 : decode cX5_findHeaps 34 = .ok (.goto 4, 3) := by decide +kernel
theorem dX5_findHeaps_37 : decode cX5_findHeaps 37 = .ok (.iconst (-1), 1) := by decide +kernel
theorem dX5_findHeaps_38 : decode cX5_findHeaps 38 = .ok (.iastore, 1) := by decide +kernel
theorem dX5_findHeaps_39 : decode cX5_findHeaps 39 = .ok (.iinc 1 1, 3) := by decide +kernel
theorem dX5_findHeaps_42 : decode cX5_findHeaps 42 = .ok (.goto (-36), 3) := by decide +kernel
theorem dX5_findHeaps_45 : decode cX5_findHeaps 45 = .ok (.iconst 1, 1) := by decide +kernel
theorem dX5_findHeaps_46 : decode cX5_findHeaps 46 = .ok (.istore_n 1, 1) := by decide +kernel
theorem dX5_findHeaps_47 : decode cX5_findHeaps 47 = .ok (.iload_n 1, 1) := by decide +kernel
theorem dX5_findHeaps_48 : decode cX5_findHeaps 48 = .ok (.ifCond .eq 110, 3) := by decide +kernel
theorem dX5_findHeaps_51 : decode cX5_findHeaps 51 = .ok (.iconst 0, 1) := by decide +kernel
theorem dX5_findHeaps_52 : decode cX5_findHeaps 52 = .ok (.istore_n 1, 1) := by decide +kernel
theorem dX5_findHeaps_53 : decode cX5_findHeaps 53 = .ok (.iconst 0, 1) := by decide +kernel
theorem dX5_findHeaps_54 : decode cX5_findHeaps 54 = .ok (.istore_n 2, 1) := by decide +kernel
theorem dX5_findHeaps_55 : decode cX5_findHeaps 55 = .ok (.iload_n 2, 1) := by decide +kernel
theorem dX5_findHeaps_56 : decode cX5_findHeaps 56 = .ok (.aload_n 0, 1) := by decide +kernel
theorem dX5_findHeaps_57 : decode cX5_findHeaps 57 = .ok (.getfield 175, 3) := by decide +kernel
theorem dX5_findHeaps_60 : decode cX5_findHeaps 60 = .ok (.if_icmp .ge 95, 3) := by decide +kernel
theorem dX5_findHeaps_63 : decode cX5_findHeaps 63 = .ok (.iconst 0, 1) := by decide +kernel
theorem dX5_findHeaps_64 : decode cX5_findHeaps 64 = .ok (.istore_n 3, 1) := by decide +kernel
theorem dX5_findHeaps_65 : decode cX5_findHeaps 65 = .ok (.iload_n 3, 1) := by decide +kernel
theorem dX5_findHeaps_66 : decode cX5_findHeaps 66 = .ok (.aload_n 0, 1) := by decide +kernel
theorem dX5_findHeaps_67 : decode cX5_findHeaps 67 = .ok (.getfield 175, 3) := by decide +kernel
theorem dX5_findHeaps_70 : decode cX5_findHeaps 70 = .ok (.if_icmp .ge 79, 3) := by decide +kernel
theorem dX5_findHeaps_73 : decode cX5_findHeaps 73 = .ok (.aload_n 0, 1) := by decide +kernel
theorem dX5_findHeaps_74 : decode cX5_findHeaps 74 = .ok (.getfield 76, 3) := by decide +kernel
theorem dX5_findHeaps_77 : decode cX5_findHeaps 77 = .ok (.iload_n 2, 1) := by decide +kernel
theorem dX5_findHeaps_78 : decode cX5_findHeaps 78 = .ok (.iaload, 1) := by decide +kernel
theorem dX5_findHeaps_79 : decode cX5_findHeaps 79 = .ok (.ifCond .lt 64, 3) := by decide +kernel
theorem dX5_findHeaps_82 : decode cX5_findHeaps 82 = .ok (.aload_n 0, 1) := by decide +kernel
theorem dX5_findHeaps_83 : decode cX5_findHeaps 83 = .ok (.getfield 76, 3) := by decide +kernel
theorem dX5_findHeaps_86 : decode cX5_findHeaps 86 = .ok (.iload_n 3, 1) := by decide +kernel
theorem dX5_findHeaps_87 : decode cX5_findHeaps 87 = .ok (.iaload, 1) := by decide +kernel
theorem dX5_findHeaps_88 : decode cX5_findHeaps 88 = .ok (.ifCond .lt 55, 3) := by decide +kernel
theorem dX5_findHeaps_91 : decode cX5_findHeaps 91 = .ok (.aload_n 0, 1) := by decide +kernel
theorem dX5_findHeaps_92 : decode cX5_findHeaps 92 = .ok (.getfield 76, 3) := by decide +kernel
theorem dX5_findHeaps_95 : decode cX5_findHeaps 95 = .ok (.iload_n 3, 1) := by decide +kernel
theorem dX5_findHeaps_96 : decode cX5_findHeaps 96 = .ok (.iaload, 1) := by decide +kernel
theorem dX5_findHeaps_97 : decode cX5_findHeaps 97 = .ok (.aload_n 0, 1) := by decide +kernel
theorem dX5_findHeaps_98 : decode cX5_findHeaps 98 = .ok (.getfield 76, 3) := by decide +kernel
theorem dX5_findHeaps_101 : decode cX5_findHeaps 101 = .ok (.iload_n 2, 1) := by decide +kernel
theorem dX5_findHeaps_102 : decode cX5_findHeaps 102 = .ok (.iaload, 1) := by decide +kernel
theorem dX5_findHeaps_103 : decode cX5_findHeaps 103 = .ok (.if_icmp .ge 40, 3) := by decide +kernel
theorem dX5_findHeaps_106 : decode cX5_findHeaps 106 = .ok (.aload_n 0, 1) := by decide +kernel
theorem dX5_findHeaps_107 : decode cX5_findHeaps 107 = .ok (.aload_n 0, 1) := by decide +kernel
theorem dX5_findHeaps_108 : decode cX5_findHeaps 108 = .ok (.getfield 54, 3) := by decide +kernel
theorem dX5_findHeaps_111 : decode cX5_findHeaps 111 = .ok (.iload_n 3, 1) := by decide +kernel
theorem dX5_findHeaps_112 : decode cX5_findHeaps 112 = .ok (.laload, 1) := by decide +kernel
theorem dX5_findHeaps_113 : decode cX5_findHeaps 113 = .ok (.aload_n 0, 1) := by decide +kernel
theorem dX5_findHeaps_114 : decode cX5_findHeaps 114 = .ok (.getfield 54, 3) := by decide +kernel
theorem dX5_findHeaps_117 : decode cX5_findHeaps 117 = .ok (.iload_n 2, 1) := by decide +kernel
theorem dX5_findHeaps_118 : decode cX5_findHeaps 118 = .ok (.laload, 1) := by decide +kernel
theorem dX5_findHeaps_119 : decode cX5_findHeaps 119 = .ok (.invokevirtual 163, 3) := by decide +kernel
theorem dX5_findHeaps_122 : decode cX5_findHeaps 122 = .ok (.aload_n 0, 1) := by decide +kernel
theorem dX5_findHeaps_123 : decode cX5_findHeaps 123 = .ok (.getfield 19, 3) := by decide +kernel
theorem dX5_findHeaps_126 : decode cX5_findHeaps 126 = .ok (.if_icmp .gt 17, 3) := by decide +kernel
theorem dX5_findHeaps_129 : decode cX5_findHeaps 129 = .ok (.aload_n 0, 1) := by decide +kernel
theorem dX5_findHeaps_130 : decode cX5_findHeaps 130 = .ok (.getfield 76, 3) := by decide +kernel
theorem dX5_findHeaps_133 : decode cX5_findHeaps 133 = .ok (.iload_n 2, 1) := by decide +kernel
theorem dX5_findHeaps_134 : decode cX5_findHeaps 134 = .ok (.aload_n 0, 1) := by decide +kernel
theorem dX5_findHeaps_135 : decode cX5_findHeaps 135 = .ok (.getfield 76, 3) := by decide +kernel
theorem dX5_findHeaps_138 : decode cX5_findHeaps 138 = .ok (.iload_n 3, 1) := by decide +kernel
theorem dX5_findHeaps_139 : decode cX5_findHeaps 139 = .ok (.iaload, 1) := by decide +kernel
theorem dX5_findHeaps_140 : decode cX5_findHeaps 140 = .ok (.iastore, 1) := by decide +kernel
theorem dX5_findHeaps_141 : decode cX5_findHeaps 141 = .ok (.iconst 1, 1) := by decide +kernel
theorem dX5_findHeaps_142 : decode cX5_findHeaps 142 = .ok (.istore_n 1, 1) := by decide +kernel
theorem dX5_findHeaps_143 : decode cX5_findHeaps 143 = .ok (.iinc 3 1, 3) := by decide +kernel
theorem dX5_findHeaps_146 : decode cX5_findHeaps 146 = .ok (.goto (-81), 3) := by decide +kernel
theorem dX5_findHeaps_149 : decode cX5_findHeaps 149 = .ok (.iinc 2 1, 3) := by decide +kernel
theorem dX5_findHeaps_152 : decode cX5_findHeaps 152 = .ok (.goto (-97), 3) := by decide +kernel
theorem dX5_findHeaps_155 : decode cX5_findHeaps 155 = .ok (.goto (-108), 3) := by decide +kernel
theorem dX5_findHeaps_158 : decode cX5_findHeaps 158 = .ok (.return_, 1) := by decide +kernel
theorem dX5_heapOf_0 : decode cX5_heapOf 0 = .ok (.aload_n 0, 1) := by decide +kernel
theorem dX5_heapOf_1 : decode cX5_heapOf 1 = .ok (.getfield 76, 3) := by decide +kernel
theorem dX5_heapOf_4 : decode cX5_heapOf 4 = .ok (.iload_n 1, 1) := by decide +kernel
theorem dX5_heapOf_5 : decode cX5_heapOf 5 = .ok (.iaload, 1) := by decide +kernel
theorem dX5_heapOf_6 : decode cX5_heapOf 6 = .ok (.ifCond .ge 5, 3) := by decide +kernel
theorem dX5_heapOf_9 : decode cX5_heapOf 9 = .ok (.iconst (-1), 1) := by decide +kernel
theorem dX5_heapOf_10 : decode cX5_heapOf 10 = .ok (.ireturn, 1) := by decide +kernel
theorem dX5_heapOf_11 : decode cX5_heapOf 11 = .ok (.iconst 0, 1) := by decide +kernel
theorem dX5_heapOf_12 : decode cX5_heapOf 12 = .ok (.istore_n 2, 1) := by decide +kernel
theorem dX5_heapOf_13 : decode cX5_heapOf 13 = .ok (.iconst 0, 1) := by decide +kernel
theorem dX5_heapOf_14 : decode cX5_heapOf 14 = .ok (.istore_n 3, 1) := by decide +kernel
theorem dX5_heapOf_15 : decode cX5_heapOf 15 = .ok (.iload_n 3, 1) := by decide +kernel
theorem dX5_heapOf_16 : decode cX5_heapOf 16 = .ok (.aload_n 0, 1) := by decide +kernel
theorem dX5_heapOf_17 : decode cX5_heapOf 17 = .ok (.getfield 76, 3) := by decide +kernel
theorem dX5_heapOf_20 : decode cX5_heapOf 20 = .ok (.iload_n 1, 1) := by decide +kernel
theorem dX5_heapOf_21 : decode cX5_heapOf 21 = .ok (.iaload, 1) := by decide +kernel
theorem dX5_heapOf_22 : decode cX5_heapOf 22 = .ok (.if_icmp .ge 27, 3) := by decide +kernel
theorem dX5_heapOf_25 : decode cX5_heapOf 25 = .ok (.iload_n 2, 1) := by decide +kernel
theorem dX5_heapOf_26 : decode cX5_heapOf 26 = .ok (.aload_n 0, 1) := by decide +kernel
theorem dX5_heapOf_27 : decode cX5_heapOf 27 = .ok (.getfield 76, 3) := by decide +kernel
theorem dX5_heapOf_30 : decode cX5_heapOf 30 = .ok (.iload_n 3, 1) := by decide +kernel
theorem dX5_heapOf_31 : decode cX5_heapOf 31 = .ok (.iaload, 1) := by decide +kernel
theorem dX5_heapOf_32 : decode cX5_heapOf 32 = .ok (.iload_n 3, 1) := by decide +kernel
theorem dX5_heapOf_33 : decode cX5_heapOf 33 = .ok (.if_icmp .ne 7, 3) := by decide +kernel
theorem dX5_heapOf_36 : decode cX5_heapOf 36 = .ok (.iconst 1, 1) := by decide +kernel
theorem dX5_heapOf_37 : decode cX5_heapOf 37 = .ok (.goto 4, 3) := by decide +kernel
theorem dX5_heapOf_40 : decode cX5_heapOf 40 = .ok (.iconst 0, 1) := by decide +kernel
theorem dX5_heapOf_41 : decode cX5_heapOf 41 = .ok (.iadd, 1) := by decide +kernel
theorem dX5_heapOf_42 : decode cX5_heapOf 42 = .ok (.istore_n 2, 1) := by decide +kernel
theorem dX5_heapOf_43 : decode cX5_heapOf 43 = .ok (.iinc 3 1, 3) := by decide +kernel
theorem dX5_heapOf_46 : decode cX5_heapOf 46 = .ok (.goto (-31), 3) := by decide +kernel
theorem dX5_heapOf_49 : decode cX5_heapOf 49 = .ok (.iload_n 2, 1) := by decide +kernel
theorem dX5_heapOf_50 : decode cX5_heapOf 50 = .ok (.ireturn, 1) := by decide +kernel
theorem dX5_helpOf_0 : decode cX5_helpOf 0 = .ok (.iconst 0, 1) := by decide +kernel
theorem dX5_helpOf_1 : decode cX5_helpOf 1 = .ok (.istore_n 2, 1) := by decide +kernel
theorem dX5_helpOf_2 : decode cX5_helpOf 2 = .ok (.iload_n 2, 1) := by decide +kernel
theorem dX5_helpOf_3 : decode cX5_helpOf 3 = .ok (.bipush 40, 2) := by decide +kernel
theorem dX5_helpOf_5 : decode cX5_helpOf 5 = .ok (.if_icmp .ge 29, 3) := by decide +kernel
theorem dX5_helpOf_8 : decode cX5_helpOf 8 = .ok (.aload_n 0, 1) := by decide +kernel
theorem dX5_helpOf_9 : decode cX5_helpOf 9 = .ok (.aload_n 0, 1) := by decide +kernel
theorem dX5_helpOf_10 : decode cX5_helpOf 10 = .ok (.getfield 54, 3) := by decide +kernel
theorem dX5_helpOf_13 : decode cX5_helpOf 13 = .ok (.iload_n 1, 1) := by decide +kernel
theorem dX5_helpOf_14 : decode cX5_helpOf 14 = .ok (.laload, 1) := by decide +kernel
theorem dX5_helpOf_15 : decode cX5_helpOf 15 = .ok (.lconst 1, 1) := by decide +kernel
theorem dX5_helpOf_16 : decode cX5_helpOf 16 = .ok (.iload_n 2, 1) := by decide +kernel
theorem dX5_helpOf_17 : decode cX5_helpOf 17 = .ok (.lshl, 1) := by decide +kernel
theorem dX5_helpOf_18 : decode cX5_helpOf 18 = .ok (.lor, 1) := by decide +kernel
theorem dX5_helpOf_19 : decode cX5_helpOf 19 = .ok (.iload_n 1, 1) := by decide +kernel
theorem dX5_helpOf_20 : decode cX5_helpOf 20 = .ok (.invokevirtual 196, 3) := by decide +kernel
theorem dX5_helpOf_23 : decode cX5_helpOf 23 = .ok (.ifCond .le 5, 3) := by decide +kernel
theorem dX5_helpOf_26 : decode cX5_helpOf 26 = .ok (.iload_n 2, 1) := by decide +kernel
theorem dX5_helpOf_27 : decode cX5_helpOf 27 = .ok (.ireturn, 1) := by decide +kernel
theorem dX5_helpOf_28 : decode cX5_helpOf 28 = .ok (.iinc 2 1, 3) := by decide +kernel
theorem dX5_helpOf_31 : decode cX5_helpOf 31 = .ok (.goto (-29), 3) := by decide +kernel
theorem dX5_helpOf_34 : decode cX5_helpOf 34 = .ok (.iconst (-1), 1) := by decide +kernel
theorem dX5_helpOf_35 : decode cX5_helpOf 35 = .ok (.ireturn, 1) := by decide +kernel
theorem dX5_asked_0 : decode cX5_asked 0 = .ok (.aload_n 0, 1) := by decide +kernel
theorem dX5_asked_1 : decode cX5_asked 1 = .ok (.iload_n 1, 1) := by decide +kernel
theorem dX5_asked_2 : decode cX5_asked 2 = .ok (.invokevirtual 191, 3) := by decide +kernel
theorem dX5_asked_5 : decode cX5_asked 5 = .ok (.ifCond .ne 7, 3) := by decide +kernel
theorem dX5_asked_8 : decode cX5_asked 8 = .ok (.sipush (-1001), 3) := by decide +kernel
theorem dX5_asked_11 : decode cX5_asked 11 = .ok (.ireturn, 1) := by decide +kernel
theorem dX5_asked_12 : decode cX5_asked 12 = .ok (.iload_n 2, 1) := by decide +kernel
theorem dX5_asked_13 : decode cX5_asked 13 = .ok (.i2l, 1) := by decide +kernel
theorem dX5_asked_14 : decode cX5_asked 14 = .ok (.lconst 0, 1) := by decide +kernel
theorem dX5_asked_15 : decode cX5_asked 15 = .ok (.ldc2_w 150, 3) := by decide +kernel
theorem dX5_asked_18 : decode cX5_asked 18 = .ok (.invokestatic 82, 3) := by decide +kernel
theorem dX5_asked_21 : decode cX5_asked 21 = .ok (.ifCond .ne 7, 3) := by decide +kernel
theorem dX5_asked_24 : decode cX5_asked 24 = .ok (.sipush (-1002), 3) := by decide +kernel
theorem dX5_asked_27 : decode cX5_asked 27 = .ok (.ireturn, 1) := by decide +kernel
theorem dX5_asked_28 : decode cX5_asked 28 = .ok (.aload_n 0, 1) := by decide +kernel
theorem dX5_asked_29 : decode cX5_asked 29 = .ok (.invokevirtual 200, 3) := by decide +kernel
theorem dX5_asked_32 : decode cX5_asked 32 = .ok (.iload_n 2, 1) := by decide +kernel
theorem dX5_asked_33 : decode cX5_asked 33 = .ok (.tableswitch 67 0 2 #[27, 42, 48], 27) := by decide +kernel
theorem dX5_asked_60 : decode cX5_asked 60 = .ok (.aload_n 0, 1) := by decide +kernel
theorem dX5_asked_61 : decode cX5_asked 61 = .ok (.getfield 76, 3) := by decide +kernel
theorem dX5_asked_64 : decode cX5_asked 64 = .ok (.iload_n 1, 1) := by decide +kernel
theorem dX5_asked_65 : decode cX5_asked 65 = .ok (.iaload, 1) := by decide +kernel
theorem dX5_asked_66 : decode cX5_asked 66 = .ok (.ifCond .lt 7, 3) := by decide +kernel
theorem dX5_asked_69 : decode cX5_asked 69 = .ok (.iconst 1, 1) := by decide +kernel
theorem dX5_asked_70 : decode cX5_asked 70 = .ok (.goto 4, 3) := by decide +kernel
theorem dX5_asked_73 : decode cX5_asked 73 = .ok (.iconst 0, 1) := by decide +kernel
theorem dX5_asked_74 : decode cX5_asked 74 = .ok (.ireturn, 1) := by decide +kernel
theorem dX5_asked_75 : decode cX5_asked 75 = .ok (.aload_n 0, 1) := by decide +kernel
theorem dX5_asked_76 : decode cX5_asked 76 = .ok (.iload_n 1, 1) := by decide +kernel
theorem dX5_asked_77 : decode cX5_asked 77 = .ok (.invokevirtual 203, 3) := by decide +kernel
theorem dX5_asked_80 : decode cX5_asked 80 = .ok (.ireturn, 1) := by decide +kernel
theorem dX5_asked_81 : decode cX5_asked 81 = .ok (.aload_n 0, 1) := by decide +kernel
theorem dX5_asked_82 : decode cX5_asked 82 = .ok (.getfield 76, 3) := by decide +kernel
theorem dX5_asked_85 : decode cX5_asked 85 = .ok (.iload_n 1, 1) := by decide +kernel
theorem dX5_asked_86 : decode cX5_asked 86 = .ok (.iaload, 1) := by decide +kernel
theorem dX5_asked_87 : decode cX5_asked 87 = .ok (.ifCond .lt 11, 3) := by decide +kernel
theorem dX5_asked_90 : decode cX5_asked 90 = .ok (.aload_n 0, 1) := by decide +kernel
theorem dX5_asked_91 : decode cX5_asked 91 = .ok (.iload_n 1, 1) := by decide +kernel
theorem dX5_asked_92 : decode cX5_asked 92 = .ok (.invokevirtual 206, 3) := by decide +kernel
theorem dX5_asked_95 : decode cX5_asked 95 = .ok (.goto 4, 3) := by decide +kernel
theorem dX5_asked_98 : decode cX5_asked 98 = .ok (.iconst (-1), 1) := by decide +kernel
theorem dX5_asked_99 : decode cX5_asked 99 = .ok (.ireturn, 1) := by decide +kernel
theorem dX5_asked_100 : decode cX5_asked 100 = .ok (.aload_n 0, 1) := by decide +kernel
theorem dX5_asked_101 : decode cX5_asked 101 = .ok (.aload_n 0, 1) := by decide +kernel
theorem dX5_asked_102 : decode cX5_asked 102 = .ok (.getfield 54, 3) := by decide +kernel
theorem dX5_asked_105 : decode cX5_asked 105 = .ok (.iload_n 1, 1) := by decide +kernel
theorem dX5_asked_106 : decode cX5_asked 106 = .ok (.laload, 1) := by decide +kernel
theorem dX5_asked_107 : decode cX5_asked 107 = .ok (.iload_n 1, 1) := by decide +kernel
theorem dX5_asked_108 : decode cX5_asked 108 = .ok (.invokevirtual 196, 3) := by decide +kernel
theorem dX5_asked_111 : decode cX5_asked 111 = .ok (.ireturn, 1) := by decide +kernel
theorem dX5_counted_0 : decode cX5_counted 0 = .ok (.aload_n 0, 1) := by decide +kernel
theorem dX5_counted_1 : decode cX5_counted 1 = .ok (.getfield 29, 3) := by decide +kernel
theorem dX5_counted_4 : decode cX5_counted 4 = .ok (.iload_n 1, 1) := by decide +kernel
theorem dX5_counted_5 : decode cX5_counted 5 = .ok (.iaload, 1) := by decide +kernel
theorem dX5_counted_6 : decode cX5_counted 6 = .ok (.ifCond .lt 7, 3) := by decide +kernel
theorem dX5_counted_9 : decode cX5_counted 9 = .ok (.iconst 1, 1) := by decide +kernel
theorem dX5_counted_10 : decode cX5_counted 10 = .ok (.goto 4, 3) := by decide +kernel
theorem dX5_counted_13 : decode cX5_counted 13 = .ok (.iconst 0, 1) := by decide +kernel
theorem dX5_counted_14 : decode cX5_counted 14 = .ok (.istore_n 3, 1) := by decide +kernel
theorem dX5_counted_15 : decode cX5_counted 15 = .ok (.iload_n 2, 1) := by decide +kernel
theorem dX5_counted_16 : decode cX5_counted 16 = .ok (.iconst 1, 1) := by decide +kernel
theorem dX5_counted_17 : decode cX5_counted 17 = .ok (.if_icmp .ne 16, 3) := by decide +kernel
theorem dX5_counted_20 : decode cX5_counted 20 = .ok (.iload_n 3, 1) := by decide +kernel
theorem dX5_counted_21 : decode cX5_counted 21 = .ok (.ifCond .ne 12, 3) := by decide +kernel
theorem dX5_counted_24 : decode cX5_counted 24 = .ok (.aload_n 0, 1) := by decide +kernel
theorem dX5_counted_25 : decode cX5_counted 25 = .ok (.getfield 26, 3) := by decide +kernel
theorem dX5_counted_28 : decode cX5_counted 28 = .ok (.iload_n 1, 1) := by decide +kernel
theorem dX5_counted_29 : decode cX5_counted 29 = .ok (.iaload, 1) := by decide +kernel
theorem dX5_counted_30 : decode cX5_counted 30 = .ok (.ifCond .eq 49, 3) := by decide +kernel
theorem dX5_counted_33 : decode cX5_counted 33 = .ok (.iload_n 2, 1) := by decide +kernel
theorem dX5_counted_34 : decode cX5_counted 34 = .ok (.iconst 2, 1) := by decide +kernel
theorem dX5_counted_35 : decode cX5_counted 35 = .ok (.if_icmp .ne 17, 3) := by decide +kernel
theorem dX5_counted_38 : decode cX5_counted 38 = .ok (.iload_n 3, 1) := by decide +kernel
theorem dX5_counted_39 : decode cX5_counted 39 = .ok (.ifCond .ne 13, 3) := by decide +kernel
theorem dX5_counted_42 : decode cX5_counted 42 = .ok (.aload_n 0, 1) := by decide +kernel
theorem dX5_counted_43 : decode cX5_counted 43 = .ok (.getfield 26, 3) := by decide +kernel
theorem dX5_counted_46 : decode cX5_counted 46 = .ok (.iload_n 1, 1) := by decide +kernel
theorem dX5_counted_47 : decode cX5_counted 47 = .ok (.iaload, 1) := by decide +kernel
theorem dX5_counted_48 : decode cX5_counted 48 = .ok (.iconst 1, 1) := by decide +kernel
theorem dX5_counted_49 : decode cX5_counted 49 = .ok (.if_icmp .eq 30, 3) := by decide +kernel
theorem dX5_counted_52 : decode cX5_counted 52 = .ok (.iload_n 2, 1) := by decide +kernel
theorem dX5_counted_53 : decode cX5_counted 53 = .ok (.iconst 3, 1) := by decide +kernel
theorem dX5_counted_54 : decode cX5_counted 54 = .ok (.if_icmp .ne 7, 3) := by decide +kernel
theorem dX5_counted_57 : decode cX5_counted 57 = .ok (.iload_n 3, 1) := by decide +kernel
theorem dX5_counted_58 : decode cX5_counted 58 = .ok (.ifCond .ne 21, 3) := by decide +kernel
theorem dX5_counted_61 : decode cX5_counted 61 = .ok (.iload_n 2, 1) := by decide +kernel
theorem dX5_counted_62 : decode cX5_counted 62 = .ok (.iconst 4, 1) := by decide +kernel
theorem dX5_counted_63 : decode cX5_counted 63 = .ok (.if_icmp .ne 20, 3) := by decide +kernel
theorem dX5_counted_66 : decode cX5_counted 66 = .ok (.iload_n 3, 1) := by decide +kernel
theorem dX5_counted_67 : decode cX5_counted 67 = .ok (.ifCond .ne 16, 3) := by decide +kernel
theorem dX5_counted_70 : decode cX5_counted 70 = .ok (.aload_n 0, 1) := by decide +kernel
theorem dX5_counted_71 : decode cX5_counted 71 = .ok (.getfield 73, 3) := by decide +kernel
theorem dX5_counted_74 : decode cX5_counted 74 = .ok (.iload_n 1, 1) := by decide +kernel
theorem dX5_counted_75 : decode cX5_counted 75 = .ok (.baload, 1) := by decide +kernel
theorem dX5_counted_76 : decode cX5_counted 76 = .ok (.ifCond .eq 7, 3) := by decide +kernel
theorem dX5_counted_79 : decode cX5_counted 79 = .ok (.iconst 1, 1) := by decide +kernel
theorem dX5_counted_80 : decode cX5_counted 80 = .ok (.goto 4, 3) := by decide +kernel
theorem dX5_counted_83 : decode cX5_counted 83 = .ok (.iconst 0, 1) := by decide +kernel
theorem dX5_counted_84 : decode cX5_counted 84 = .ok (.ireturn, 1) := by decide +kernel
theorem dX5_count_0 : decode cX5_count 0 = .ok (.iload_n 1, 1) := by decide +kernel
theorem dX5_count_1 : decode cX5_count 1 = .ok (.i2l, 1) := by decide +kernel
theorem dX5_count_2 : decode cX5_count 2 = .ok (.lconst 0, 1) := by decide +kernel
theorem dX5_count_3 : decode cX5_count 3 = .ok (.ldc2_w 209, 3) := by decide +kernel
theorem dX5_count_6 : decode cX5_count 6 = .ok (.invokestatic 82, 3) := by decide +kernel
theorem dX5_count_9 : decode cX5_count 9 = .ok (.ifCond .ne 7, 3) := by decide +kernel
theorem dX5_count_12 : decode cX5_count 12 = .ok (.sipush (-1002), 3) := by decide +kernel
theorem dX5_count_15 : decode cX5_count 15 = .ok (.ireturn, 1) := by decide +kernel
theorem dX5_count_16 : decode cX5_count 16 = .ok (.aload_n 0, 1) := by decide +kernel
theorem dX5_count_17 : decode cX5_count 17 = .ok (.invokevirtual 200, 3) := by decide +kernel
theorem dX5_count_20 : decode cX5_count 20 = .ok (.iconst 0, 1) := by decide +kernel
theorem dX5_count_21 : decode cX5_count 21 = .ok (.istore_n 2, 1) := by decide +kernel
theorem dX5_count_22 : decode cX5_count 22 = .ok (.iconst 0, 1) := by decide +kernel
theorem dX5_count_23 : decode cX5_count 23 = .ok (.istore_n 3, 1) := by decide +kernel
theorem dX5_count_24 : decode cX5_count 24 = .ok (.iload_n 3, 1) := by decide +kernel
theorem dX5_count_25 : decode cX5_count 25 = .ok (.aload_n 0, 1) := by decide +kernel
theorem dX5_count_26 : decode cX5_count 26 = .ok (.getfield 79, 3) := by decide +kernel
theorem dX5_count_29 : decode cX5_count 29 = .ok (.if_icmp .ge 61, 3) := by decide +kernel
theorem dX5_count_32 : decode cX5_count 32 = .ok (.iload_n 2, 1) := by decide +kernel
theorem dX5_count_33 : decode cX5_count 33 = .ok (.aload_n 0, 1) := by decide +kernel
theorem dX5_count_34 : decode cX5_count 34 = .ok (.iload_n 3, 1) := by decide +kernel
theorem dX5_count_35 : decode cX5_count 35 = .ok (.iload_n 1, 1) := by decide +kernel
theorem dX5_count_36 : decode cX5_count 36 = .ok (.invokevirtual 211, 3) := by decide +kernel
theorem dX5_count_39 : decode cX5_count 39 = .ok (.iadd, 1) := by decide +kernel
theorem dX5_count_40 : decode cX5_count 40 = .ok (.istore_n 2, 1) := by decide +kernel
theorem dX5_count_41 : decode cX5_count 41 = .ok (.iload_n 3, 1) := by decide +kernel
theorem dX5_count_42 : decode cX5_count 42 = .ok (.iconst 1, 1) := by decide +kernel
theorem dX5_count_43 : decode cX5_count 43 = .ok (.iadd, 1) := by decide +kernel
theorem dX5_count_44 : decode cX5_count 44 = .ok (.istore 4, 2) := by decide +kernel
theorem dX5_count_46 : decode cX5_count 46 = .ok (.iload 4, 2) := by decide +kernel
theorem dX5_count_48 : decode cX5_count 48 = .ok (.aload_n 0, 1) := by decide +kernel
theorem dX5_count_49 : decode cX5_count 49 = .ok (.getfield 79, 3) := by decide +kernel
theorem dX5_count_52 : decode cX5_count 52 = .ok (.if_icmp .ge 32, 3) := by decide +kernel
theorem dX5_count_55 : decode cX5_count 55 = .ok (.iload_n 1, 1) := by decide +kernel
theorem dX5_count_56 : decode cX5_count 56 = .ok (.iconst 5, 1) := by decide +kernel
theorem dX5_count_57 : decode cX5_count 57 = .ok (.if_icmp .ne 27, 3) := by decide +kernel
theorem dX5_count_60 : decode cX5_count 60 = .ok (.iload_n 2, 1) := by decide +kernel
theorem dX5_count_61 : decode cX5_count 61 = .ok (.aload_n 0, 1) := by decide +kernel
theorem dX5_count_62 : decode cX5_count 62 = .ok (.iload_n 3, 1) := by decide +kernel
theorem dX5_count_63 : decode cX5_count 63 = .ok (.iload 4, 2) := by decide +kernel
theorem dX5_count_65 : decode cX5_count 65 = .ok (.invokevirtual 169, 3) := by decide +kernel
theorem dX5_count_68 : decode cX5_count 68 = .ok (.ifCond .eq 7, 3) := by decide +kernel
theorem dX5_count_71 : decode cX5_count 71 = .ok (.iconst 1, 1) := by decide +kernel
theorem dX5_count_72 : decode cX5_count 72 = .ok (.goto 4, 3) := by decide +kernel
theorem dX5_count_75 : decode cX5_count 75 = .ok (.iconst 0, 1) := by decide +kernel
theorem dX5_count_76 : decode cX5_count 76 = .ok (.iadd, 1) := by decide +kernel
theorem dX5_count_77 : decode cX5_count 77 = .ok (.istore_n 2, 1) := by decide +kernel
theorem dX5_count_78 : decode cX5_count 78 = .ok (.iinc 4 1, 3) := by decide +kernel
theorem dX5_count_81 : decode cX5_count 81 = .ok (.goto (-35), 3) := by decide +kernel
theorem dX5_count_84 : decode cX5_count 84 = .ok (.iinc 3 1, 3) := by decide +kernel
theorem dX5_count_87 : decode cX5_count 87 = .ok (.goto (-63), 3) := by decide +kernel
theorem dX5_count_90 : decode cX5_count 90 = .ok (.iconst 0, 1) := by decide +kernel
theorem dX5_count_91 : decode cX5_count 91 = .ok (.istore_n 3, 1) := by decide +kernel
theorem dX5_count_92 : decode cX5_count 92 = .ok (.iload_n 3, 1) := by decide +kernel
theorem dX5_count_93 : decode cX5_count 93 = .ok (.aload_n 0, 1) := by decide +kernel
theorem dX5_count_94 : decode cX5_count 94 = .ok (.getfield 175, 3) := by decide +kernel
theorem dX5_count_97 : decode cX5_count 97 = .ok (.if_icmp .ge 48, 3) := by decide +kernel
theorem dX5_count_100 : decode cX5_count 100 = .ok (.iload_n 2, 1) := by decide +kernel
theorem dX5_count_101 : decode cX5_count 101 = .ok (.iload_n 1, 1) := by decide +kernel
theorem dX5_count_102 : decode cX5_count 102 = .ok (.bipush 7, 2) := by decide +kernel
theorem dX5_count_104 : decode cX5_count 104 = .ok (.if_icmp .ne 12, 3) := by decide +kernel
theorem dX5_count_107 : decode cX5_count 107 = .ok (.aload_n 0, 1) := by decide +kernel
theorem dX5_count_108 : decode cX5_count 108 = .ok (.getfield 76, 3) := by decide +kernel
theorem dX5_count_111 : decode cX5_count 111 = .ok (.iload_n 3, 1) := by decide +kernel
theorem dX5_count_112 : decode cX5_count 112 = .ok (.iaload, 1) := by decide +kernel
theorem dX5_count_113 : decode cX5_count 113 = .ok (.ifCond .ge 19, 3) := by decide +kernel
theorem dX5_count_116 : decode cX5_count 116 = .ok (.iload_n 1, 1) := by decide +kernel
theorem dX5_count_117 : decode cX5_count 117 = .ok (.bipush 8, 2) := by decide +kernel
theorem dX5_count_119 : decode cX5_count 119 = .ok (.if_icmp .ne 17, 3) := by decide +kernel
theorem dX5_count_122 : decode cX5_count 122 = .ok (.aload_n 0, 1) := by decide +kernel
theorem dX5_count_123 : decode cX5_count 123 = .ok (.getfield 76, 3) := by decide +kernel
theorem dX5_count_126 : decode cX5_count 126 = .ok (.iload_n 3, 1) := by decide +kernel
theorem dX5_count_127 : decode cX5_count 127 = .ok (.iaload, 1) := by decide +kernel
theorem dX5_count_128 : decode cX5_count 128 = .ok (.iload_n 3, 1) := by decide +kernel
theorem dX5_count_129 : decode cX5_count 129 = .ok (.if_icmp .ne 7, 3) := by decide +kernel
theorem dX5_count_132 : decode cX5_count 132 = .ok (.iconst 1, 1) := by decide +kernel
theorem dX5_count_133 : decode cX5_count 133 = .ok (.goto 4, 3) := by decide +kernel
theorem dX5_count_136 : decode cX5_count 136 = .ok (.iconst 0, 1) := by decide +kernel
theorem dX5_count_137 : decode cX5_count 137 = .ok (.iadd, 1) := by decide +kernel
theorem dX5_count_138 : decode cX5_count 138 = .ok (.istore_n 2, 1) := by decide +kernel
theorem dX5_count_139 : decode cX5_count 139 = .ok (.iinc 3 1, 3) := by decide +kernel
theorem dX5_count_142 : decode cX5_count 142 = .ok (.goto (-50), 3) := by decide +kernel
theorem dX5_count_145 : decode cX5_count 145 = .ok (.iload_n 1, 1) := by decide +kernel
theorem dX5_count_146 : decode cX5_count 146 = .ok (.ifCond .ne 10, 3) := by decide +kernel
theorem dX5_count_149 : decode cX5_count 149 = .ok (.aload_n 0, 1) := by decide +kernel
theorem dX5_count_150 : decode cX5_count 150 = .ok (.getfield 79, 3) := by decide +kernel
theorem dX5_count_153 : decode cX5_count 153 = .ok (.goto 17, 3) := by decide +kernel
theorem dX5_count_156 : decode cX5_count 156 = .ok (.iload_n 1, 1) := by decide +kernel
theorem dX5_count_157 : decode cX5_count 157 = .ok (.bipush 6, 2) := by decide +kernel
theorem dX5_count_159 : decode cX5_count 159 = .ok (.if_icmp .ne 10, 3) := by decide +kernel
theorem dX5_count_162 : decode cX5_count 162 = .ok (.aload_n 0, 1) := by decide +kernel
theorem dX5_count_163 : decode cX5_count 163 = .ok (.getfield 175, 3) := by decide +kernel
theorem dX5_count_166 : decode cX5_count 166 = .ok (.goto 4, 3) := by decide +kernel
theorem dX5_count_169 : decode cX5_count 169 = .ok (.iload_n 2, 1) := by decide +kernel
theorem dX5_count_170 : decode cX5_count 170 = .ok (.ireturn, 1) := by decide +kernel
