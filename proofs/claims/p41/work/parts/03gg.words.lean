theorem dX3_readFeels_140 : decode cX3_readFeels 140 = .ok (.iload_n 2, 1) := by decide +kernel
theorem dX3_readFeels_141 : decode cX3_readFeels 141 = .ok (.ifCond .le 10, 3) := by decide +kernel
theorem dX3_readFeels_144 : decode cX3_readFeels 144 = .ok (.iload_n 3, 1) := by decide +kernel
theorem dX3_readFeels_145 : decode cX3_readFeels 145 = .ok (.iload_n 2, 1) := by decide +kernel
theorem dX3_readFeels_146 : decode cX3_readFeels 146 = .ok (.iload_n 2, 1) := by decide +kernel
theorem dX3_readFeels_147 : decode cX3_readFeels 147 = .ok (.imul, 1) := by decide +kernel
theorem dX3_readFeels_148 : decode cX3_readFeels 148 = .ok (.if_icmp .lt 13, 3) := by decide +kernel
theorem dX3_readFeels_151 : decode cX3_readFeels 151 = .ok (.aload_n 0, 1) := by decide +kernel
theorem dX3_readFeels_152 : decode cX3_readFeels 152 = .ok (.getfield 31, 3) := by decide +kernel
theorem dX3_readFeels_155 : decode cX3_readFeels 155 = .ok (.bipush 8, 2) := by decide +kernel
theorem dX3_readFeels_157 : decode cX3_readFeels 157 = .ok (.invokevirtual 108, 3) := by decide +kernel
theorem dX3_readFeels_160 : decode cX3_readFeels 160 = .ok (.ireturn, 1) := by decide +kernel
theorem dX3_readFeels_161 : decode cX3_readFeels 161 = .ok (.iload_n 3, 1) := by decide +kernel
theorem dX3_readFeels_162 : decode cX3_readFeels 162 = .ok (.iload_n 2, 1) := by decide +kernel
theorem dX3_readFeels_163 : decode cX3_readFeels 163 = .ok (.irem, 1) := by decide +kernel
theorem dX3_readFeels_164 : decode cX3_readFeels 164 = .ok (.istore 5, 2) := by decide +kernel
theorem dX3_readFeels_166 : decode cX3_readFeels 166 = .ok (.iload 5, 2) := by decide +kernel
theorem dX3_readFeels_168 : decode cX3_readFeels 168 = .ok (.ifCond .ne 13, 3) := by decide +kernel
theorem dX3_readFeels_171 : decode cX3_readFeels 171 = .ok (.aload_n 0, 1) := by decide +kernel
theorem dX3_readFeels_172 : decode cX3_readFeels 172 = .ok (.getfield 31, 3) := by decide +kernel
theorem dX3_readFeels_175 : decode cX3_readFeels 175 = .ok (.getfield 182, 3) := by decide +kernel
theorem dX3_readFeels_178 : decode cX3_readFeels 178 = .ok (.goto 13, 3) := by decide +kernel
theorem dX3_readFeels_181 : decode cX3_readFeels 181 = .ok (.iload 4, 2) := by decide +kernel
theorem dX3_readFeels_183 : decode cX3_readFeels 183 = .ok (.aload_n 0, 1) := by decide +kernel
theorem dX3_readFeels_184 : decode cX3_readFeels 184 = .ok (.getfield 31, 3) := by decide +kernel
theorem dX3_readFeels_187 : decode cX3_readFeels 187 = .ok (.getfield 182, 3) := by decide +kernel
theorem dX3_readFeels_190 : decode cX3_readFeels 190 = .ok (.iadd, 1) := by decide +kernel
theorem dX3_readFeels_191 : decode cX3_readFeels 191 = .ok (.istore 4, 2) := by decide +kernel
theorem dX3_readFeels_193 : decode cX3_readFeels 193 = .ok (.iload 5, 2) := by decide +kernel
theorem dX3_readFeels_195 : decode cX3_readFeels 195 = .ok (.iload_n 2, 1) := by decide +kernel
theorem dX3_readFeels_196 : decode cX3_readFeels 196 = .ok (.iconst 1, 1) := by decide +kernel
theorem dX3_readFeels_197 : decode cX3_readFeels 197 = .ok (.isub, 1) := by decide +kernel
theorem dX3_readFeels_198 : decode cX3_readFeels 198 = .ok (.if_icmp .ne 20, 3) := by decide +kernel
theorem dX3_readFeels_201 : decode cX3_readFeels 201 = .ok (.iload 4, 2) := by decide +kernel
theorem dX3_readFeels_203 : decode cX3_readFeels 203 = .ok (.bipush 16, 2) := by decide +kernel
theorem dX3_readFeels_205 : decode cX3_readFeels 205 = .ok (.if_icmp .eq 13, 3) := by decide +kernel
theorem dX3_readFeels_208 : decode cX3_readFeels 208 = .ok (.aload_n 0, 1) := by decide +kernel
theorem dX3_readFeels_209 : decode cX3_readFeels 209 = .ok (.getfield 31, 3) := by decide +kernel
theorem dX3_readFeels_212 : decode cX3_readFeels 212 = .ok (.bipush 9, 2) := by decide +kernel
theorem dX3_readFeels_214 : decode cX3_readFeels 214 = .ok (.invokevirtual 108, 3) := by decide +kernel
theorem dX3_readFeels_217 : decode cX3_readFeels 217 = .ok (.ireturn, 1) := by decide +kernel
theorem dX3_readFeels_218 : decode cX3_readFeels 218 = .ok (.aload_n 0, 1) := by decide +kernel
theorem dX3_readFeels_219 : decode cX3_readFeels 219 = .ok (.getfield 12, 3) := by decide +kernel
theorem dX3_readFeels_222 : decode cX3_readFeels 222 = .ok (.iload_n 1, 1) := by decide +kernel
theorem dX3_readFeels_223 : decode cX3_readFeels 223 = .ok (.iload_n 3, 1) := by decide +kernel
theorem dX3_readFeels_224 : decode cX3_readFeels 224 = .ok (.iload_n 2, 1) := by decide +kernel
theorem dX3_readFeels_225 : decode cX3_readFeels 225 = .ok (.idiv, 1) := by decide +kernel
theorem dX3_readFeels_226 : decode cX3_readFeels 226 = .ok (.iload 5, 2) := by decide +kernel
theorem dX3_readFeels_228 : decode cX3_readFeels 228 = .ok (.aload_n 0, 1) := by decide +kernel
theorem dX3_readFeels_229 : decode cX3_readFeels 229 = .ok (.getfield 31, 3) := by decide +kernel
theorem dX3_readFeels_232 : decode cX3_readFeels 232 = .ok (.getfield 182, 3) := by decide +kernel
theorem dX3_readFeels_235 : decode cX3_readFeels 235 = .ok (.invokevirtual 185, 3) := by decide +kernel
theorem dX3_readFeels_238 : decode cX3_readFeels 238 = .ok (.aload_n 0, 1) := by decide +kernel
theorem dX3_readFeels_239 : decode cX3_readFeels 239 = .ok (.getfield 31, 3) := by decide +kernel
theorem dX3_readFeels_242 : decode cX3_readFeels 242 = .ok (.invokevirtual 143, 3) := by decide +kernel
theorem dX3_readFeels_245 : decode cX3_readFeels 245 = .ok (.iinc 3 1, 3) := by decide +kernel
theorem dX3_readFeels_248 : decode cX3_readFeels 248 = .ok (.goto (-145), 3) := by decide +kernel
theorem dX3_readFeels_251 : decode cX3_readFeels 251 = .ok (.aload_n 0, 1) := by decide +kernel
theorem dX3_readFeels_252 : decode cX3_readFeels 252 = .ok (.getfield 31, 3) := by decide +kernel
theorem dX3_readFeels_255 : decode cX3_readFeels 255 = .ok (.bipush 59, 2) := by decide +kernel
theorem dX3_readFeels_257 : decode cX3_readFeels 257 = .ok (.invokevirtual 189, 3) := by decide +kernel
theorem dX3_readFeels_260 : decode cX3_readFeels 260 = .ok (.ifCond .eq 20, 3) := by decide +kernel
theorem dX3_readFeels_263 : decode cX3_readFeels 263 = .ok (.iload_n 3, 1) := by decide +kernel
theorem dX3_readFeels_264 : decode cX3_readFeels 264 = .ok (.iload_n 2, 1) := by decide +kernel
theorem dX3_readFeels_265 : decode cX3_readFeels 265 = .ok (.iload_n 2, 1) := by decide +kernel
theorem dX3_readFeels_266 : decode cX3_readFeels 266 = .ok (.imul, 1) := by decide +kernel
theorem dX3_readFeels_267 : decode cX3_readFeels 267 = .ok (.if_icmp .ge 13, 3) := by decide +kernel
theorem dX3_readFeels_270 : decode cX3_readFeels 270 = .ok (.aload_n 0, 1) := by decide +kernel
theorem dX3_readFeels_271 : decode cX3_readFeels 271 = .ok (.getfield 31, 3) := by decide +kernel
theorem dX3_readFeels_274 : decode cX3_readFeels 274 = .ok (.bipush 8, 2) := by decide +kernel
theorem dX3_readFeels_276 : decode cX3_readFeels 276 = .ok (.invokevirtual 108, 3) := by decide +kernel
theorem dX3_readFeels_279 : decode cX3_readFeels 279 = .ok (.ireturn, 1) := by decide +kernel
theorem dX3_readFeels_280 : decode cX3_readFeels 280 = .ok (.aload_n 0, 1) := by decide +kernel
theorem dX3_readFeels_281 : decode cX3_readFeels 281 = .ok (.getfield 31, 3) := by decide +kernel
theorem dX3_readFeels_284 : decode cX3_readFeels 284 = .ok (.bipush 59, 2) := by decide +kernel
theorem dX3_readFeels_286 : decode cX3_readFeels 286 = .ok (.invokevirtual 167, 3) := by decide +kernel
theorem dX3_readFeels_289 : decode cX3_readFeels 289 = .ok (.ireturn, 1) := by decide +kernel
theorem dX3_readKey_0 : decode cX3_readKey 0 = .ok (.aload_n 0, 1) := by decide +kernel
theorem dX3_readKey_1 : decode cX3_readKey 1 = .ok (.getfield 12, 3) := by decide +kernel
theorem dX3_readKey_4 : decode cX3_readKey 4 = .ok (.getfield 123, 3) := by decide +kernel
theorem dX3_readKey_7 : decode cX3_readKey 7 = .ok (.bipush 10, 2) := by decide +kernel
theorem dX3_readKey_9 : decode cX3_readKey 9 = .ok (.if_icmp .lt 13, 3) := by decide +kernel
theorem dX3_readKey_12 : decode cX3_readKey 12 = .ok (.aload_n 0, 1) := by decide +kernel
theorem dX3_readKey_13 : decode cX3_readKey 13 = .ok (.getfield 31, 3) := by decide +kernel
theorem dX3_readKey_16 : decode cX3_readKey 16 = .ok (.bipush 6, 2) := by decide +kernel
theorem dX3_readKey_18 : decode cX3_readKey 18 = .ok (.invokevirtual 108, 3) := by decide +kernel
theorem dX3_readKey_21 : decode cX3_readKey 21 = .ok (.ireturn, 1) := by decide +kernel
theorem dX3_readKey_22 : decode cX3_readKey 22 = .ok (.aload_n 0, 1) := by decide +kernel
theorem dX3_readKey_23 : decode cX3_readKey 23 = .ok (.getfield 31, 3) := by decide +kernel
theorem dX3_readKey_26 : decode cX3_readKey 26 = .ok (.invokevirtual 143, 3) := by decide +kernel
theorem dX3_readKey_29 : decode cX3_readKey 29 = .ok (.aload_n 0, 1) := by decide +kernel
theorem dX3_readKey_30 : decode cX3_readKey 30 = .ok (.invokevirtual 146, 3) := by decide +kernel
theorem dX3_readKey_33 : decode cX3_readKey 33 = .ok (.lstore_n 1, 1) := by decide +kernel
theorem dX3_readKey_34 : decode cX3_readKey 34 = .ok (.lload_n 1, 1) := by decide +kernel
theorem dX3_readKey_35 : decode cX3_readKey 35 = .ok (.lconst 0, 1) := by decide +kernel
theorem dX3_readKey_36 : decode cX3_readKey 36 = .ok (.lcmp, 1) := by decide +kernel
theorem dX3_readKey_37 : decode cX3_readKey 37 = .ok (.ifCond .ne 5, 3) := by decide +kernel
theorem dX3_readKey_40 : decode cX3_readKey 40 = .ok (.iconst 0, 1) := by decide +kernel
theorem dX3_readKey_41 : decode cX3_readKey 41 = .ok (.ireturn, 1) := by decide +kernel
theorem dX3_readKey_42 : decode cX3_readKey 42 = .ok (.iconst 0, 1) := by decide +kernel
theorem dX3_readKey_43 : decode cX3_readKey 43 = .ok (.istore_n 3, 1) := by decide +kernel
theorem dX3_readKey_44 : decode cX3_readKey 44 = .ok (.iload_n 3, 1) := by decide +kernel
theorem dX3_readKey_45 : decode cX3_readKey 45 = .ok (.iconst 3, 1) := by decide +kernel
theorem dX3_readKey_46 : decode cX3_readKey 46 = .ok (.if_icmp .gt 85, 3) := by decide +kernel
theorem dX3_readKey_49 : decode cX3_readKey 49 = .ok (.aload_n 0, 1) := by decide +kernel
theorem dX3_readKey_50 : decode cX3_readKey 50 = .ok (.getfield 31, 3) := by decide +kernel
theorem dX3_readKey_53 : decode cX3_readKey 53 = .ok (.invokevirtual 175, 3) := by decide +kernel
theorem dX3_readKey_56 : decode cX3_readKey 56 = .ok (.ifCond .eq 75, 3) := by decide +kernel
theorem dX3_readKey_59 : decode cX3_readKey 59 = .ok (.iload_n 3, 1) := by decide +kernel
theorem dX3_readKey_60 : decode cX3_readKey 60 = .ok (.aload_n 0, 1) := by decide +kernel
theorem dX3_readKey_61 : decode cX3_readKey 61 = .ok (.getfield 12, 3) := by decide +kernel
theorem dX3_readKey_64 : decode cX3_readKey 64 = .ok (.getfield 116, 3) := by decide +kernel
theorem dX3_readKey_67 : decode cX3_readKey 67 = .ok (.if_icmp .lt 13, 3) := by decide +kernel
theorem dX3_readKey_70 : decode cX3_readKey 70 = .ok (.aload_n 0, 1) := by decide +kernel
theorem dX3_readKey_71 : decode cX3_readKey 71 = .ok (.getfield 31, 3) := by decide +kernel
theorem dX3_readKey_74 : decode cX3_readKey 74 = .ok (.bipush 8, 2) := by decide +kernel
theorem dX3_readKey_76 : decode cX3_readKey 76 = .ok (.invokevirtual 108, 3) := by decide +kernel
theorem dX3_readKey_79 : decode cX3_readKey 79 = .ok (.ireturn, 1) := by decide +kernel
theorem dX3_readKey_80 : decode cX3_readKey 80 = .ok (.aload_n 0, 1) := by decide +kernel
theorem dX3_readKey_81 : decode cX3_readKey 81 = .ok (.getfield 31, 3) := by decide +kernel
theorem dX3_readKey_84 : decode cX3_readKey 84 = .ok (.iconst 0, 1) := by decide +kernel
theorem dX3_readKey_85 : decode cX3_readKey 85 = .ok (.aload_n 0, 1) := by decide +kernel
theorem dX3_readKey_86 : decode cX3_readKey 86 = .ok (.getfield 12, 3) := by decide +kernel
theorem dX3_readKey_89 : decode cX3_readKey 89 = .ok (.iload_n 3, 1) := by decide +kernel
theorem dX3_readKey_90 : decode cX3_readKey 90 = .ok (.invokevirtual 178, 3) := by decide +kernel
theorem dX3_readKey_93 : decode cX3_readKey 93 = .ok (.iconst 1, 1) := by decide +kernel
theorem dX3_readKey_94 : decode cX3_readKey 94 = .ok (.isub, 1) := by decide +kernel
theorem dX3_readKey_95 : decode cX3_readKey 95 = .ok (.invokevirtual 155, 3) := by decide +kernel
theorem dX3_readKey_98 : decode cX3_readKey 98 = .ok (.istore 4, 2) := by decide +kernel
theorem dX3_readKey_100 : decode cX3_readKey 100 = .ok (.iload 4, 2) := by decide +kernel
theorem dX3_readKey_102 : decode cX3_readKey 102 = .ok (.iconst (-1), 1) := by decide +kernel
theorem dX3_readKey_103 : decode cX3_readKey 103 = .ok (.if_icmp .ne 5, 3) := by decide +kernel
theorem dX3_readKey_106 : decode cX3_readKey 106 = .ok (.iconst 0, 1) := by decide +kernel
theorem dX3_readKey_107 : decode cX3_readKey 107 = .ok (.ireturn, 1) := by decide +kernel
theorem dX3_readKey_108 : decode cX3_readKey 108 = .ok (.aload_n 0, 1) := by decide +kernel
theorem dX3_readKey_109 : decode cX3_readKey 109 = .ok (.getfield 12, 3) := by decide +kernel
theorem dX3_readKey_112 : decode cX3_readKey 112 = .ok (.aload_n 0, 1) := by decide +kernel
theorem dX3_readKey_113 : decode cX3_readKey 113 = .ok (.getfield 12, 3) := by decide +kernel
theorem dX3_readKey_116 : decode cX3_readKey 116 = .ok (.getfield 123, 3) := by decide +kernel
theorem dX3_readKey_119 : decode cX3_readKey 119 = .ok (.iload_n 3, 1) := by decide +kernel
theorem dX3_readKey_120 : decode cX3_readKey 120 = .ok (.iload 4, 2) := by decide +kernel
theorem dX3_readKey_122 : decode cX3_readKey 122 = .ok (.invokevirtual 192, 3) := by decide +kernel
theorem dX3_readKey_125 : decode cX3_readKey 125 = .ok (.iinc 3 1, 3) := by decide +kernel
theorem dX3_readKey_128 : decode cX3_readKey 128 = .ok (.goto (-84), 3) := by decide +kernel
theorem dX3_readKey_131 : decode cX3_readKey 131 = .ok (.aload_n 0, 1) := by decide +kernel
theorem dX3_readKey_132 : decode cX3_readKey 132 = .ok (.getfield 31, 3) := by decide +kernel
theorem dX3_readKey_135 : decode cX3_readKey 135 = .ok (.bipush 59, 2) := by decide +kernel
theorem dX3_readKey_137 : decode cX3_readKey 137 = .ok (.invokevirtual 189, 3) := by decide +kernel
theorem dX3_readKey_140 : decode cX3_readKey 140 = .ok (.ifCond .eq 24, 3) := by decide +kernel
theorem dX3_readKey_143 : decode cX3_readKey 143 = .ok (.iload_n 3, 1) := by decide +kernel
theorem dX3_readKey_144 : decode cX3_readKey 144 = .ok (.aload_n 0, 1) := by decide +kernel
theorem dX3_readKey_145 : decode cX3_readKey 145 = .ok (.getfield 12, 3) := by decide +kernel
theorem dX3_readKey_148 : decode cX3_readKey 148 = .ok (.getfield 116, 3) := by decide +kernel
theorem dX3_readKey_151 : decode cX3_readKey 151 = .ok (.if_icmp .ge 13, 3) := by decide +kernel
theorem dX3_readKey_154 : decode cX3_readKey 154 = .ok (.aload_n 0, 1) := by decide +kernel
theorem dX3_readKey_155 : decode cX3_readKey 155 = .ok (.getfield 31, 3) := by decide +kernel
theorem dX3_readKey_158 : decode cX3_readKey 158 = .ok (.bipush 8, 2) := by decide +kernel
theorem dX3_readKey_160 : decode cX3_readKey 160 = .ok (.invokevirtual 108, 3) := by decide +kernel
theorem dX3_readKey_163 : decode cX3_readKey 163 = .ok (.ireturn, 1) := by decide +kernel
theorem dX3_readKey_164 : decode cX3_readKey 164 = .ok (.aload_n 0, 1) := by decide +kernel
theorem dX3_readKey_165 : decode cX3_readKey 165 = .ok (.getfield 22, 3) := by decide +kernel
theorem dX3_readKey_168 : decode cX3_readKey 168 = .ok (.aload_n 0, 1) := by decide +kernel
theorem dX3_readKey_169 : decode cX3_readKey 169 = .ok (.getfield 12, 3) := by decide +kernel
theorem dX3_readKey_172 : decode cX3_readKey 172 = .ok (.getfield 123, 3) := by decide +kernel
theorem dX3_readKey_175 : decode cX3_readKey 175 = .ok (.lload_n 1, 1) := by decide +kernel
theorem dX3_readKey_176 : decode cX3_readKey 176 = .ok (.invokestatic 159, 3) := by decide +kernel
theorem dX3_readKey_179 : decode cX3_readKey 179 = .ok (.aload_n 0, 1) := by decide +kernel
theorem dX3_readKey_180 : decode cX3_readKey 180 = .ok (.getfield 12, 3) := by decide +kernel
theorem dX3_readKey_183 : decode cX3_readKey 183 = .ok (.dup, 1) := by decide +kernel
theorem dX3_readKey_184 : decode cX3_readKey 184 = .ok (.getfield 123, 3) := by decide +kernel
theorem dX3_readKey_187 : decode cX3_readKey 187 = .ok (.iconst 1, 1) := by decide +kernel
theorem dX3_readKey_188 : decode cX3_readKey 188 = .ok (.iadd, 1) := by decide +kernel
theorem dX3_readKey_189 : decode cX3_readKey 189 = .ok (.putfield 123, 3) := by decide +kernel
theorem dX3_readKey_192 : decode cX3_readKey 192 = .ok (.aload_n 0, 1) := by decide +kernel
theorem dX3_readKey_193 : decode cX3_readKey 193 = .ok (.getfield 31, 3) := by decide +kernel
theorem dX3_readKey_196 : decode cX3_readKey 196 = .ok (.bipush 59, 2) := by decide +kernel
theorem dX3_readKey_198 : decode cX3_readKey 198 = .ok (.invokevirtual 167, 3) := by decide +kernel
theorem dX3_readKey_201 : decode cX3_readKey 201 = .ok (.ireturn, 1) := by decide +kernel
theorem dX3_readPart_0 : decode cX3_readPart 0 = .ok (.aload_n 0, 1) := by decide +kernel
theorem dX3_readPart_1 : decode cX3_readPart 1 = .ok (.getfield 31, 3) := by decide +kernel
theorem dX3_readPart_4 : decode cX3_readPart 4 = .ok (.ldc 64, 2) := by decide +kernel
theorem dX3_readPart_6 : decode cX3_readPart 6 = .ok (.invokevirtual 66, 3) := by decide +kernel
theorem dX3_readPart_9 : decode cX3_readPart 9 = .ok (.ifCond .eq 8, 3) := by decide +kernel
theorem dX3_readPart_12 : decode cX3_readPart 12 = .ok (.aload_n 0, 1) := by decide +kernel
theorem dX3_readPart_13 : decode cX3_readPart 13 = .ok (.invokevirtual 70, 3) := by decide +kernel
theorem dX3_readPart_16 : decode cX3_readPart 16 = .ok (.ireturn, 1) := by decide +kernel
theorem dX3_readPart_17 : decode cX3_readPart 17 = .ok (.aload_n 0, 1) := by decide +kernel
theorem dX3_readPart_18 : decode cX3_readPart 18 = .ok (.getfield 31, 3) := by decide +kernel
theorem dX3_readPart_21 : decode cX3_readPart 21 = .ok (.ldc 73, 2) := by decide +kernel
theorem dX3_readPart_23 : decode cX3_readPart 23 = .ok (.invokevirtual 66, 3) := by decide +kernel
theorem dX3_readPart_26 : decode cX3_readPart 26 = .ok (.ifCond .eq 8, 3) := by decide +kernel
theorem dX3_readPart_29 : decode cX3_readPart 29 = .ok (.aload_n 0, 1) := by decide +kernel
theorem dX3_readPart_30 : decode cX3_readPart 30 = .ok (.invokevirtual 75, 3) := by decide +kernel
theorem dX3_readPart_33 : decode cX3_readPart 33 = .ok (.ireturn, 1) := by decide +kernel
theorem dX3_readPart_34 : decode cX3_readPart 34 = .ok (.aload_n 0, 1) := by decide +kernel
theorem dX3_readPart_35 : decode cX3_readPart 35 = .ok (.getfield 31, 3) := by decide +kernel
theorem dX3_readPart_38 : decode cX3_readPart 38 = .ok (.ldc 78, 2) := by decide +kernel
theorem dX3_readPart_40 : decode cX3_readPart 40 = .ok (.invokevirtual 66, 3) := by decide +kernel
theorem dX3_readPart_43 : decode cX3_readPart 43 = .ok (.ifCond .eq 8, 3) := by decide +kernel
theorem dX3_readPart_46 : decode cX3_readPart 46 = .ok (.aload_n 0, 1) := by decide +kernel
theorem dX3_readPart_47 : decode cX3_readPart 47 = .ok (.invokevirtual 80, 3) := by decide +kernel
theorem dX3_readPart_50 : decode cX3_readPart 50 = .ok (.ireturn, 1) := by decide +kernel
theorem dX3_readPart_51 : decode cX3_readPart 51 = .ok (.aload_n 0, 1) := by decide +kernel
theorem dX3_readPart_52 : decode cX3_readPart 52 = .ok (.getfield 31, 3) := by decide +kernel
theorem dX3_readPart_55 : decode cX3_readPart 55 = .ok (.ldc 83, 2) := by decide +kernel
theorem dX3_readPart_57 : decode cX3_readPart 57 = .ok (.invokevirtual 66, 3) := by decide +kernel
theorem dX3_readPart_60 : decode cX3_readPart 60 = .ok (.ifCond .eq 8, 3) := by decide +kernel
theorem dX3_readPart_63 : decode cX3_readPart 63 = .ok (.aload_n 0, 1) := by decide +kernel
theorem dX3_readPart_64 : decode cX3_readPart 64 = .ok (.invokevirtual 85, 3) := by decide +kernel
theorem dX3_readPart_67 : decode cX3_readPart 67 = .ok (.ireturn, 1) := by decide +kernel
theorem dX3_readPart_68 : decode cX3_readPart 68 = .ok (.aload_n 0, 1) := by decide +kernel
theorem dX3_readPart_69 : decode cX3_readPart 69 = .ok (.getfield 31, 3) := by decide +kernel
theorem dX3_readPart_72 : decode cX3_readPart 72 = .ok (.ldc 88, 2) := by decide +kernel
theorem dX3_readPart_74 : decode cX3_readPart 74 = .ok (.invokevirtual 66, 3) := by decide +kernel
theorem dX3_readPart_77 : decode cX3_readPart 77 = .ok (.ifCond .eq 8, 3) := by decide +kernel
theorem dX3_readPart_80 : decode cX3_readPart 80 = .ok (.aload_n 0, 1) := by decide +kernel
theorem dX3_readPart_81 : decode cX3_readPart 81 = .ok (.invokevirtual 90, 3) := by decide +kernel
theorem dX3_readPart_84 : decode cX3_readPart 84 = .ok (.ireturn, 1) := by decide +kernel
theorem dX3_readPart_85 : decode cX3_readPart 85 = .ok (.aload_n 0, 1) := by decide +kernel
theorem dX3_readPart_86 : decode cX3_readPart 86 = .ok (.getfield 31, 3) := by decide +kernel
theorem dX3_readPart_89 : decode cX3_readPart 89 = .ok (.ldc 93, 2) := by decide +kernel
theorem dX3_readPart_91 : decode cX3_readPart 91 = .ok (.invokevirtual 66, 3) := by decide +kernel
theorem dX3_readPart_94 : decode cX3_readPart 94 = .ok (.ifCond .eq 8, 3) := by decide +kernel
theorem dX3_readPart_97 : decode cX3_readPart 97 = .ok (.aload_n 0, 1) := by decide +kernel
theorem dX3_readPart_98 : decode cX3_readPart 98 = .ok (.invokevirtual 95, 3) := by decide +kernel
theorem dX3_readPart_101 : decode cX3_readPart 101 = .ok (.ireturn, 1) := by decide +kernel
theorem dX3_readPart_102 : decode cX3_readPart 102 = .ok (.aload_n 0, 1) := by decide +kernel
theorem dX3_readPart_103 : decode cX3_readPart 103 = .ok (.getfield 31, 3) := by decide +kernel
theorem dX3_readPart_106 : decode cX3_readPart 106 = .ok (.ldc 98, 2) := by decide +kernel
theorem dX3_readPart_108 : decode cX3_readPart 108 = .ok (.invokevirtual 66, 3) := by decide +kernel
theorem dX3_readPart_111 : decode cX3_readPart 111 = .ok (.ifCond .eq 8, 3) := by decide +kernel
theorem dX3_readPart_114 : decode cX3_readPart 114 = .ok (.aload_n 0, 1) := by decide +kernel
theorem dX3_readPart_115 : decode cX3_readPart 115 = .ok (.invokevirtual 100, 3) := by decide +kernel
theorem dX3_readPart_118 : decode cX3_readPart 118 = .ok (.ireturn, 1) := by decide +kernel
theorem dX3_readPart_119 : decode cX3_readPart 119 = .ok (.aload_n 0, 1) := by decide +kernel
theorem dX3_readPart_120 : decode cX3_readPart 120 = .ok (.getfield 31, 3) := by decide +kernel
theorem dX3_readPart_123 : decode cX3_readPart 123 = .ok (.ldc 103, 2) := by decide +kernel
theorem dX3_readPart_125 : decode cX3_readPart 125 = .ok (.invokevirtual 66, 3) := by decide +kernel
theorem dX3_readPart_128 : decode cX3_readPart 128 = .ok (.ifCond .eq 8, 3) := by decide +kernel
theorem dX3_readPart_131 : decode cX3_readPart 131 = .ok (.aload_n 0, 1) := by decide +kernel
theorem dX3_readPart_132 : decode cX3_readPart 132 = .ok (.invokevirtual 105, 3) := by decide +kernel
theorem dX3_readPart_135 : decode cX3_readPart 135 = .ok (.ireturn, 1) := by decide +kernel
theorem dX3_readPart_136 : decode cX3_readPart 136 = .ok (.aload_n 0, 1) := by decide +kernel
theorem dX3_readPart_137 : decode cX3_readPart 137 = .ok (.getfield 31, 3) := by decide +kernel
theorem dX3_readPart_140 : decode cX3_readPart 140 = .ok (.iconst 2, 1) := by decide +kernel
theorem dX3_readPart_141 : decode cX3_readPart 141 = .ok (.invokevirtual 108, 3) := by decide +kernel
theorem dX3_readPart_144 : decode cX3_readPart 144 = .ok (.ireturn, 1) := by decide +kernel
theorem dX3_readRing_0 : decode cX3_readRing 0 = .ok (.aload_n 0, 1) := by decide +kernel
theorem dX3_readRing_1 : decode cX3_readRing 1 = .ok (.getfield 12, 3) := by decide +kernel
theorem dX3_readRing_4 : decode cX3_readRing 4 = .ok (.getfield 126, 3) := by decide +kernel
theorem dX3_readRing_7 : decode cX3_readRing 7 = .ok (.iconst 3, 1) := by decide +kernel
theorem dX3_readRing_8 : decode cX3_readRing 8 = .ok (.if_icmp .lt 13, 3) := by decide +kernel
theorem dX3_readRing_11 : decode cX3_readRing 11 = .ok (.aload_n 0, 1) := by decide +kernel
theorem dX3_readRing_12 : decode cX3_readRing 12 = .ok (.getfield 31, 3) := by decide +kernel
theorem dX3_readRing_15 : decode cX3_readRing 15 = .ok (.bipush 6, 2) := by decide +kernel
theorem dX3_readRing_17 : decode cX3_readRing 17 = .ok (.invokevirtual 108, 3) := by decide +kernel
theorem dX3_readRing_20 : decode cX3_readRing 20 = .ok (.ireturn, 1) := by decide +kernel
theorem dX3_readRing_21 : decode cX3_readRing 21 = .ok (.aload_n 0, 1) := by decide +kernel
theorem dX3_readRing_22 : decode cX3_readRing 22 = .ok (.getfield 31, 3) := by decide +kernel
theorem dX3_readRing_25 : decode cX3_readRing 25 = .ok (.invokevirtual 143, 3) := by decide +kernel
theorem dX3_readRing_28 : decode cX3_readRing 28 = .ok (.aload_n 0, 1) := by decide +kernel
theorem dX3_readRing_29 : decode cX3_readRing 29 = .ok (.invokevirtual 146, 3) := by decide +kernel
theorem dX3_readRing_32 : decode cX3_readRing 32 = .ok (.lstore_n 1, 1) := by decide +kernel
theorem dX3_readRing_33 : decode cX3_readRing 33 = .ok (.lload_n 1, 1) := by decide +kernel
theorem dX3_readRing_34 : decode cX3_readRing 34 = .ok (.lconst 0, 1) := by decide +kernel
theorem dX3_readRing_35 : decode cX3_readRing 35 = .ok (.lcmp, 1) := by decide +kernel
theorem dX3_readRing_36 : decode cX3_readRing 36 = .ok (.ifCond .ne 5, 3) := by decide +kernel
theorem dX3_readRing_39 : decode cX3_readRing 39 = .ok (.iconst 0, 1) := by decide +kernel
theorem dX3_readRing_40 : decode cX3_readRing 40 = .ok (.ireturn, 1) := by decide +kernel
theorem dX3_readRing_41 : decode cX3_readRing 41 = .ok (.aload_n 0, 1) := by decide +kernel
theorem dX3_readRing_42 : decode cX3_readRing 42 = .ok (.getfield 12, 3) := by decide +kernel
theorem dX3_readRing_45 : decode cX3_readRing 45 = .ok (.getfield 126, 3) := by decide +kernel
theorem dX3_readRing_48 : decode cX3_readRing 48 = .ok (.istore_n 3, 1) := by decide +kernel
theorem dX3_readRing_49 : decode cX3_readRing 49 = .ok (.aload_n 0, 1) := by decide +kernel
theorem dX3_readRing_50 : decode cX3_readRing 50 = .ok (.getfield 25, 3) := by decide +kernel
theorem dX3_readRing_53 : decode cX3_readRing 53 = .ok (.iload_n 3, 1) := by decide +kernel
theorem dX3_readRing_54 : decode cX3_readRing 54 = .ok (.lload_n 1, 1) := by decide +kernel
theorem dX3_readRing_55 : decode cX3_readRing 55 = .ok (.invokestatic 159, 3) := by decide +kernel
theorem dX3_readRing_58 : decode cX3_readRing 58 = .ok (.aload_n 0, 1) := by decide +kernel
theorem dX3_readRing_59 : decode cX3_readRing 59 = .ok (.getfield 12, 3) := by decide +kernel
theorem dX3_readRing_62 : decode cX3_readRing 62 = .ok (.invokevirtual 196, 3) := by decide +kernel
theorem dX3_readRing_65 : decode cX3_readRing 65 = .ok (.iconst 0, 1) := by decide +kernel
theorem dX3_readRing_66 : decode cX3_readRing 66 = .ok (.istore 4, 2) := by decide +kernel
theorem dX3_readRing_68 : decode cX3_readRing 68 = .ok (.iload 4, 2) := by decide +kernel
theorem dX3_readRing_70 : decode cX3_readRing 70 = .ok (.bipush 10, 2) := by decide +kernel
theorem dX3_readRing_72 : decode cX3_readRing 72 = .ok (.if_icmp .gt 100, 3) := by decide +kernel
theorem dX3_readRing_75 : decode cX3_readRing 75 = .ok (.aload_n 0, 1) := by decide +kernel
theorem dX3_readRing_76 : decode cX3_readRing 76 = .ok (.getfield 31, 3) := by decide +kernel
theorem dX3_readRing_79 : decode cX3_readRing 79 = .ok (.bipush 59, 2) := by decide +kernel
theorem dX3_readRing_81 : decode cX3_readRing 81 = .ok (.invokevirtual 189, 3) := by decide +kernel
theorem dX3_readRing_84 : decode cX3_readRing 84 = .ok (.ifCond .ne 88, 3) := by decide +kernel
theorem dX3_readRing_87 : decode cX3_readRing 87 = .ok (.aload_n 0, 1) := by decide +kernel
theorem dX3_readRing_88 : decode cX3_readRing 88 = .ok (.aload_n 0, 1) := by decide +kernel
theorem dX3_readRing_89 : decode cX3_readRing 89 = .ok (.getfield 22, 3) := by decide +kernel
theorem dX3_readRing_92 : decode cX3_readRing 92 = .ok (.aload_n 0, 1) := by decide +kernel
theorem dX3_readRing_93 : decode cX3_readRing 93 = .ok (.getfield 12, 3) := by decide +kernel
theorem dX3_readRing_96 : decode cX3_readRing 96 = .ok (.getfield 123, 3) := by decide +kernel
theorem dX3_readRing_99 : decode cX3_readRing 99 = .ok (.invokevirtual 171, 3) := by decide +kernel
theorem dX3_readRing_102 : decode cX3_readRing 102 = .ok (.istore 5, 2) := by decide +kernel
theorem dX3_readRing_104 : decode cX3_readRing 104 = .ok (.iload 5, 2) := by decide +kernel
theorem dX3_readRing_106 : decode cX3_readRing 106 = .ok (.iconst (-1), 1) := by decide +kernel
theorem dX3_readRing_107 : decode cX3_readRing 107 = .ok (.if_icmp .ne 5, 3) := by decide +kernel
theorem dX3_readRing_110 : decode cX3_readRing 110 = .ok (.iconst 0, 1) := by decide +kernel
theorem dX3_readRing_111 : decode cX3_readRing 111 = .ok (.ireturn, 1) := by decide +kernel
theorem dX3_readRing_112 : decode cX3_readRing 112 = .ok (.aload_n 0, 1) := by decide +kernel
theorem dX3_readRing_113 : decode cX3_readRing 113 = .ok (.getfield 38, 3) := by decide +kernel
theorem dX3_readRing_116 : decode cX3_readRing 116 = .ok (.iload 5, 2) := by decide +kernel
theorem dX3_readRing_118 : decode cX3_readRing 118 = .ok (.ishr, 1) := by decide +kernel
theorem dX3_readRing_119 : decode cX3_readRing 119 = .ok (.iconst 1, 1) := by decide +kernel
theorem dX3_readRing_120 : decode cX3_readRing 120 = .ok (.iand, 1) := by decide +kernel
theorem dX3_readRing_121 : decode cX3_readRing 121 = .ok (.iconst 1, 1) := by decide +kernel
theorem dX3_readRing_122 : decode cX3_readRing 122 = .ok (.if_icmp .ne 12, 3) := by decide +kernel
theorem dX3_readRing_125 : decode cX3_readRing 125 = .ok (.aload_n 0, 1) := by decide +kernel
theorem dX3_readRing_126 : decode cX3_readRing 126 = .ok (.getfield 31, 3) := by decide +kernel
theorem dX3_readRing_129 : decode cX3_readRing 129 = .ok (.iconst 5, 1) := by decide +kernel
theorem dX3_readRing_130 : decode cX3_readRing 130 = .ok (.invokevirtual 108, 3) := by decide +kernel
theorem dX3_readRing_133 : decode cX3_readRing 133 = .ok (.ireturn, 1) := by decide +kernel
theorem dX3_readRing_134 : decode cX3_readRing 134 = .ok (.aload_n 0, 1) := by decide +kernel
theorem dX3_readRing_135 : decode cX3_readRing 135 = .ok (.dup, 1) := by decide +kernel
theorem dX3_readRing_136 : decode cX3_readRing 136 = .ok (.getfield 38, 3) := by decide +kernel
theorem dX3_readRing_139 : decode cX3_readRing 139 = .ok (.iconst 1, 1) := by decide +kernel
theorem dX3_readRing_140 : decode cX3_readRing 140 = .ok (.iload 5, 2) := by decide +kernel
theorem dX3_readRing_142 : decode cX3_readRing 142 = .ok (.ishl, 1) := by decide +kernel
theorem dX3_readRing_143 : decode cX3_readRing 143 = .ok (.ior, 1) := by decide +kernel
theorem dX3_readRing_144 : decode cX3_readRing 144 = .ok (.putfield 38, 3) := by decide +kernel
theorem dX3_readRing_147 : decode cX3_readRing 147 = .ok (.aload_n 0, 1) := by decide +kernel
theorem dX3_readRing_148 : decode cX3_readRing 148 = .ok (.getfield 12, 3) := by decide +kernel
theorem dX3_readRing_151 : decode cX3_readRing 151 = .ok (.iload 5, 2) := by decide +kernel
theorem dX3_readRing_153 : decode cX3_readRing 153 = .ok (.iload_n 3, 1) := by decide +kernel
theorem dX3_readRing_154 : decode cX3_readRing 154 = .ok (.iload 4, 2) := by decide +kernel
theorem dX3_readRing_156 : decode cX3_readRing 156 = .ok (.invokevirtual 199, 3) := by decide +kernel
theorem dX3_readRing_159 : decode cX3_readRing 159 = .ok (.aload_n 0, 1) := by decide +kernel
theorem dX3_readRing_160 : decode cX3_readRing 160 = .ok (.getfield 31, 3) := by decide +kernel
theorem dX3_readRing_163 : decode cX3_readRing 163 = .ok (.invokevirtual 143, 3) := by decide +kernel
theorem dX3_readRing_166 : decode cX3_readRing 166 = .ok (.iinc 4 1, 3) := by decide +kernel
theorem dX3_readRing_169 : decode cX3_readRing 169 = .ok (.goto (-101), 3) := by decide +kernel
theorem dX3_readRing_172 : decode cX3_readRing 172 = .ok (.aload_n 0, 1) := by decide +kernel
theorem dX3_readRing_173 : decode cX3_readRing 173 = .ok (.getfield 31, 3) := by decide +kernel
theorem dX3_readRing_176 : decode cX3_readRing 176 = .ok (.bipush 59, 2) := by decide +kernel
theorem dX3_readRing_178 : decode cX3_readRing 178 = .ok (.invokevirtual 167, 3) := by decide +kernel
theorem dX3_readRing_181 : decode cX3_readRing 181 = .ok (.ireturn, 1) := by decide +kernel
theorem dX3_readRound_0 : decode cX3_readRound 0 = .ok (.aload_n 0, 1) := by decide +kernel
theorem dX3_readRound_1 : decode cX3_readRound 1 = .ok (.getfield 12, 3) := by decide +kernel
theorem dX3_readRound_4 : decode cX3_readRound 4 = .ok (.getfield 235, 3) := by decide +kernel
theorem dX3_readRound_7 : decode cX3_readRound 7 = .ok (.ifCond .le 12, 3) := by decide +kernel
theorem dX3_readRound_10 : decode cX3_readRound 10 = .ok (.aload_n 0, 1) := by decide +kernel
theorem dX3_readRound_11 : decode cX3_readRound 11 = .ok (.getfield 31, 3) := by decide +kernel
theorem dX3_readRound_14 : decode cX3_readRound 14 = .ok (.iconst 5, 1) := by decide +kernel
theorem dX3_readRound_15 : decode cX3_readRound 15 = .ok (.invokevirtual 108, 3) := by decide +kernel
theorem dX3_readRound_18 : decode cX3_readRound 18 = .ok (.ireturn, 1) := by decide +kernel
theorem dX3_readRound_19 : decode cX3_readRound 19 = .ok (.aload_n 0, 1) := by decide +kernel
theorem dX3_readRound_20 : decode cX3_readRound 20 = .ok (.getfield 31, 3) := by decide +kernel
theorem dX3_readRound_23 : decode cX3_readRound 23 = .ok (.invokevirtual 143, 3) := by decide +kernel
theorem dX3_readRound_26 : decode cX3_readRound 26 = .ok (.iconst 0, 1) := by decide +kernel
theorem dX3_readRound_27 : decode cX3_readRound 27 = .ok (.istore_n 1, 1) := by decide +kernel
theorem dX3_readRound_28 : decode cX3_readRound 28 = .ok (.iload_n 1, 1) := by decide +kernel
theorem dX3_readRound_29 : decode cX3_readRound 29 = .ok (.bipush 12, 2) := by decide +kernel
theorem dX3_readRound_31 : decode cX3_readRound 31 = .ok (.if_icmp .gt 79, 3) := by decide +kernel
theorem dX3_readRound_34 : decode cX3_readRound 34 = .ok (.iload_n 1, 1) := by decide +kernel
theorem dX3_readRound_35 : decode cX3_readRound 35 = .ok (.ifCond .eq 15, 3) := by decide +kernel
theorem dX3_readRound_38 : decode cX3_readRound 38 = .ok (.aload_n 0, 1) := by decide +kernel
theorem dX3_readRound_39 : decode cX3_readRound 39 = .ok (.getfield 31, 3) := by decide +kernel
theorem dX3_readRound_42 : decode cX3_readRound 42 = .ok (.bipush 59, 2) := by decide +kernel
theorem dX3_readRound_44 : decode cX3_readRound 44 = .ok (.invokevirtual 189, 3) := by decide +kernel
theorem dX3_readRound_47 : decode cX3_readRound 47 = .ok (.ifCond .ne 63, 3) := by decide +kernel
theorem dX3_readRound_50 : decode cX3_readRound 50 = .ok (.aload_n 0, 1) := by decide +kernel
theorem dX3_readRound_51 : decode cX3_readRound 51 = .ok (.aload_n 0, 1) := by decide +kernel
theorem dX3_readRound_52 : decode cX3_readRound 52 = .ok (.getfield 28, 3) := by decide +kernel
theorem dX3_readRound_55 : decode cX3_readRound 55 = .ok (.aload_n 0, 1) := by decide +kernel
theorem dX3_readRound_56 : decode cX3_readRound 56 = .ok (.getfield 12, 3) := by decide +kernel
theorem dX3_readRound_59 : decode cX3_readRound 59 = .ok (.getfield 129, 3) := by decide +kernel
theorem dX3_readRound_62 : decode cX3_readRound 62 = .ok (.invokevirtual 171, 3) := by decide +kernel
theorem dX3_readRound_65 : decode cX3_readRound 65 = .ok (.istore_n 2, 1) := by decide +kernel
theorem dX3_readRound_66 : decode cX3_readRound 66 = .ok (.iload_n 2, 1) := by decide +kernel
theorem dX3_readRound_67 : decode cX3_readRound 67 = .ok (.iconst (-1), 1) := by decide +kernel
theorem dX3_readRound_68 : decode cX3_readRound 68 = .ok (.if_icmp .ne 5, 3) := by decide +kernel
theorem dX3_readRound_71 : decode cX3_readRound 71 = .ok (.iconst 0, 1) := by decide +kernel
theorem dX3_readRound_72 : decode cX3_readRound 72 = .ok (.ireturn, 1) := by decide +kernel
theorem dX3_readRound_73 : decode cX3_readRound 73 = .ok (.iload_n 1, 1) := by decide +kernel
theorem dX3_readRound_74 : decode cX3_readRound 74 = .ok (.bipush 12, 2) := by decide +kernel
theorem dX3_readRound_76 : decode cX3_readRound 76 = .ok (.if_icmp .lt 13, 3) := by decide +kernel
theorem dX3_readRound_79 : decode cX3_readRound 79 = .ok (.aload_n 0, 1) := by decide +kernel
theorem dX3_readRound_80 : decode cX3_readRound 80 = .ok (.getfield 31, 3) := by decide +kernel
theorem dX3_readRound_83 : decode cX3_readRound 83 = .ok (.bipush 6, 2) := by decide +kernel
theorem dX3_readRound_85 : decode cX3_readRound 85 = .ok (.invokevirtual 108, 3) := by decide +kernel
theorem dX3_readRound_88 : decode cX3_readRound 88 = .ok (.ireturn, 1) := by decide +kernel
theorem dX3_readRound_89 : decode cX3_readRound 89 = .ok (.aload_n 0, 1) := by decide +kernel
theorem dX3_readRound_90 : decode cX3_readRound 90 = .ok (.getfield 12, 3) := by decide +kernel
theorem dX3_readRound_93 : decode cX3_readRound 93 = .ok (.iload_n 2, 1) := by decide +kernel
theorem dX3_readRound_94 : decode cX3_readRound 94 = .ok (.invokevirtual 238, 3) := by decide +kernel
theorem dX3_readRound_97 : decode cX3_readRound 97 = .ok (.aload_n 0, 1) := by decide +kernel
theorem dX3_readRound_98 : decode cX3_readRound 98 = .ok (.getfield 31, 3) := by decide +kernel
theorem dX3_readRound_101 : decode cX3_readRound 101 = .ok (.invokevirtual 143, 3) := by decide +kernel
theorem dX3_readRound_104 : decode cX3_readRound 104 = .ok (.iinc 1 1, 3) := by decide +kernel
theorem dX3_readRound_107 : decode cX3_readRound 107 = .ok (.goto (-79), 3) := by decide +kernel
theorem dX3_readRound_110 : decode cX3_readRound 110 = .ok (.aload_n 0, 1) := by decide +kernel
theorem dX3_readRound_111 : decode cX3_readRound 111 = .ok (.getfield 31, 3) := by decide +kernel
theorem dX3_readRound_114 : decode cX3_readRound 114 = .ok (.bipush 59, 2) := by decide +kernel
theorem dX3_readRound_116 : decode cX3_readRound 116 = .ok (.invokevirtual 167, 3) := by decide +kernel
theorem dX3_readRound_119 : decode cX3_readRound 119 = .ok (.ireturn, 1) := by decide +kernel
theorem dX3_readSeconds_0 : decode cX3_readSeconds 0 = .ok (.aload_n 0, 1) := by decide +kernel
theorem dX3_readSeconds_1 : decode cX3_readSeconds 1 = .ok (.getfield 45, 3) := by decide +kernel
theorem dX3_readSeconds_4 : decode cX3_readSeconds 4 = .ok (.ifCond .eq 12, 3) := by decide +kernel
theorem dX3_readSeconds_7 : decode cX3_readSeconds 7 = .ok (.aload_n 0, 1) := by decide +kernel
theorem dX3_readSeconds_8 : decode cX3_readSeconds 8 = .ok (.getfield 31, 3) := by decide +kernel
theorem dX3_readSeconds_11 : decode cX3_readSeconds 11 = .ok (.iconst 5, 1) := by decide +kernel
theorem dX3_readSeconds_12 : decode cX3_readSeconds 12 = .ok (.invokevirtual 108, 3) := by decide +kernel
theorem dX3_readSeconds_15 : decode cX3_readSeconds 15 = .ok (.ireturn, 1) := by decide +kernel
theorem dX3_readSeconds_16 : decode cX3_readSeconds 16 = .ok (.aload_n 0, 1) := by decide +kernel
theorem dX3_readSeconds_17 : decode cX3_readSeconds 17 = .ok (.iconst 1, 1) := by decide +kernel
theorem dX3_readSeconds_18 : decode cX3_readSeconds 18 = .ok (.putfield 45, 3) := by decide +kernel
theorem dX3_readSeconds_21 : decode cX3_readSeconds 21 = .ok (.aload_n 0, 1) := by decide +kernel
theorem dX3_readSeconds_22 : decode cX3_readSeconds 22 = .ok (.getfield 31, 3) := by decide +kernel
theorem dX3_readSeconds_25 : decode cX3_readSeconds 25 = .ok (.invokevirtual 143, 3) := by decide +kernel
theorem dX3_readSeconds_28 : decode cX3_readSeconds 28 = .ok (.iconst 0, 1) := by decide +kernel
theorem dX3_readSeconds_29 : decode cX3_readSeconds 29 = .ok (.istore_n 1, 1) := by decide +kernel
theorem dX3_readSeconds_30 : decode cX3_readSeconds 30 = .ok (.iload_n 1, 1) := by decide +kernel
theorem dX3_readSeconds_31 : decode cX3_readSeconds 31 = .ok (.iconst 3, 1) := by decide +kernel
theorem dX3_readSeconds_32 : decode cX3_readSeconds 32 = .ok (.if_icmp .gt 52, 3) := by decide +kernel
theorem dX3_readSeconds_35 : decode cX3_readSeconds 35 = .ok (.aload_n 0, 1) := by decide +kernel
theorem dX3_readSeconds_36 : decode cX3_readSeconds 36 = .ok (.getfield 31, 3) := by decide +kernel
theorem dX3_readSeconds_39 : decode cX3_readSeconds 39 = .ok (.iload_n 1, 1) := by decide +kernel
theorem dX3_readSeconds_40 : decode cX3_readSeconds 40 = .ok (.invokestatic 218, 3) := by decide +kernel
theorem dX3_readSeconds_43 : decode cX3_readSeconds 43 = .ok (.invokevirtual 152, 3) := by decide +kernel
theorem dX3_readSeconds_46 : decode cX3_readSeconds 46 = .ok (.ifCond .ne 5, 3) := by decide +kernel
theorem dX3_readSeconds_49 : decode cX3_readSeconds 49 = .ok (.iconst 0, 1) := by decide +kernel
theorem dX3_readSeconds_50 : decode cX3_readSeconds 50 = .ok (.ireturn, 1) := by decide +kernel
theorem dX3_readSeconds_51 : decode cX3_readSeconds 51 = .ok (.aload_n 0, 1) := by decide +kernel
theorem dX3_readSeconds_52 : decode cX3_readSeconds 52 = .ok (.getfield 31, 3) := by decide +kernel
theorem dX3_readSeconds_55 : decode cX3_readSeconds 55 = .ok (.iconst 1, 1) := by decide +kernel
theorem dX3_readSeconds_56 : decode cX3_readSeconds 56 = .ok (.bipush 99, 2) := by decide +kernel
theorem dX3_readSeconds_58 : decode cX3_readSeconds 58 = .ok (.invokevirtual 155, 3) := by decide +kernel
theorem dX3_readSeconds_61 : decode cX3_readSeconds 61 = .ok (.istore_n 2, 1) := by decide +kernel
theorem dX3_readSeconds_62 : decode cX3_readSeconds 62 = .ok (.iload_n 2, 1) := by decide +kernel
theorem dX3_readSeconds_63 : decode cX3_readSeconds 63 = .ok (.iconst (-1), 1) := by decide +kernel
theorem dX3_readSeconds_64 : decode cX3_readSeconds 64 = .ok (.if_icmp .ne 5, 3) := by decide +kernel
theorem dX3_readSeconds_67 : decode cX3_readSeconds 67 = .ok (.iconst 0, 1) := by decide +kernel
theorem dX3_readSeconds_68 : decode cX3_readSeconds 68 = .ok (.ireturn, 1) := by decide +kernel
theorem dX3_readSeconds_69 : decode cX3_readSeconds 69 = .ok (.aload_n 0, 1) := by decide +kernel
theorem dX3_readSeconds_70 : decode cX3_readSeconds 70 = .ok (.getfield 12, 3) := by decide +kernel
theorem dX3_readSeconds_73 : decode cX3_readSeconds 73 = .ok (.iload_n 1, 1) := by decide +kernel
theorem dX3_readSeconds_74 : decode cX3_readSeconds 74 = .ok (.iload_n 2, 1) := by decide +kernel
theorem dX3_readSeconds_75 : decode cX3_readSeconds 75 = .ok (.invokevirtual 222, 3) := by decide +kernel
theorem dX3_readSeconds_78 : decode cX3_readSeconds 78 = .ok (.iinc 1 1, 3) := by decide +kernel
theorem dX3_readSeconds_81 : decode cX3_readSeconds 81 = .ok (.goto (-51), 3) := by decide +kernel
theorem dX3_readSeconds_84 : decode cX3_readSeconds 84 = .ok (.aload_n 0, 1) := by decide +kernel
theorem dX3_readSeconds_85 : decode cX3_readSeconds 85 = .ok (.getfield 31, 3) := by decide +kernel
theorem dX3_readSeconds_88 : decode cX3_readSeconds 88 = .ok (.bipush 59, 2) := by decide +kernel
theorem dX3_readSeconds_90 : decode cX3_readSeconds 90 = .ok (.invokevirtual 167, 3) := by decide +kernel
theorem dX3_readSeconds_93 : decode cX3_readSeconds 93 = .ok (.ireturn, 1) := by decide +kernel
theorem dX3_readTurned_0 : decode cX3_readTurned 0 = .ok (.aload_n 0, 1) := by decide +kernel
theorem dX3_readTurned_1 : decode cX3_readTurned 1 = .ok (.getfield 49, 3) := by decide +kernel
theorem dX3_readTurned_4 : decode cX3_readTurned 4 = .ok (.ifCond .eq 12, 3) := by decide +kernel
theorem dX3_readTurned_7 : decode cX3_readTurned 7 = .ok (.aload_n 0, 1) := by decide +kernel
theorem dX3_readTurned_8 : decode cX3_readTurned 8 = .ok (.getfield 31, 3) := by decide +kernel
theorem dX3_readTurned_11 : decode cX3_readTurned 11 = .ok (.iconst 5, 1) := by decide +kernel
theorem dX3_readTurned_12 : decode cX3_readTurned 12 = .ok (.invokevirtual 108, 3) := by decide +kernel
theorem dX3_readTurned_15 : decode cX3_readTurned 15 = .ok (.ireturn, 1) := by decide +kernel
theorem dX3_readTurned_16 : decode cX3_readTurned 16 = .ok (.aload_n 0, 1) := by decide +kernel
theorem dX3_readTurned_17 : decode cX3_readTurned 17 = .ok (.iconst 1, 1) := by decide +kernel
theorem dX3_readTurned_18 : decode cX3_readTurned 18 = .ok (.putfield 49, 3) := by decide +kernel
theorem dX3_readTurned_21 : decode cX3_readTurned 21 = .ok (.aload_n 0, 1) := by decide +kernel
theorem dX3_readTurned_22 : decode cX3_readTurned 22 = .ok (.getfield 31, 3) := by decide +kernel
theorem dX3_readTurned_25 : decode cX3_readTurned 25 = .ok (.invokevirtual 143, 3) := by decide +kernel
theorem dX3_readTurned_28 : decode cX3_readTurned 28 = .ok (.aload_n 0, 1) := by decide +kernel
theorem dX3_readTurned_29 : decode cX3_readTurned 29 = .ok (.getfield 31, 3) := by decide +kernel
theorem dX3_readTurned_32 : decode cX3_readTurned 32 = .ok (.iconst 0, 1) := by decide +kernel
theorem dX3_readTurned_33 : decode cX3_readTurned 33 = .ok (.bipush 16, 2) := by decide +kernel
theorem dX3_readTurned_35 : decode cX3_readTurned 35 = .ok (.invokevirtual 155, 3) := by decide +kernel
theorem dX3_readTurned_38 : decode cX3_readTurned 38 = .ok (.istore_n 1, 1) := by decide +kernel
theorem dX3_readTurned_39 : decode cX3_readTurned 39 = .ok (.iload_n 1, 1) := by decide +kernel
theorem dX3_readTurned_40 : decode cX3_readTurned 40 = .ok (.iconst (-1), 1) := by decide +kernel
theorem dX3_readTurned_41 : decode cX3_readTurned 41 = .ok (.if_icmp .ne 5, 3) := by decide +kernel
theorem dX3_readTurned_44 : decode cX3_readTurned 44 = .ok (.iconst 0, 1) := by decide +kernel
theorem dX3_readTurned_45 : decode cX3_readTurned 45 = .ok (.ireturn, 1) := by decide +kernel
theorem dX3_readTurned_46 : decode cX3_readTurned 46 = .ok (.aload_n 0, 1) := by decide +kernel
theorem dX3_readTurned_47 : decode cX3_readTurned 47 = .ok (.getfield 12, 3) := by decide +kernel
theorem dX3_readTurned_50 : decode cX3_readTurned 50 = .ok (.iload_n 1, 1) := by decide +kernel
theorem dX3_readTurned_51 : decode cX3_readTurned 51 = .ok (.putfield 233, 3) := by decide +kernel
theorem dX3_readTurned_54 : decode cX3_readTurned 54 = .ok (.aload_n 0, 1) := by decide +kernel
theorem dX3_readTurned_55 : decode cX3_readTurned 55 = .ok (.getfield 31, 3) := by decide +kernel
theorem dX3_readTurned_58 : decode cX3_readTurned 58 = .ok (.bipush 59, 2) := by decide +kernel
theorem dX3_readTurned_60 : decode cX3_readTurned 60 = .ok (.invokevirtual 167, 3) := by decide +kernel
theorem dX3_readTurned_63 : decode cX3_readTurned 63 = .ok (.ireturn, 1) := by decide +kernel
theorem dX3_takeNewName_0 : decode cX3_takeNewName 0 = .ok (.aload_n 0, 1) := by decide +kernel
theorem dX3_takeNewName_1 : decode cX3_takeNewName 1 = .ok (.getfield 31, 3) := by decide +kernel
theorem dX3_takeNewName_4 : decode cX3_takeNewName 4 = .ok (.getfield 132, 3) := by decide +kernel
theorem dX3_takeNewName_7 : decode cX3_takeNewName 7 = .ok (.lstore_n 1, 1) := by decide +kernel
theorem dX3_takeNewName_8 : decode cX3_takeNewName 8 = .ok (.aload_n 0, 1) := by decide +kernel
theorem dX3_takeNewName_9 : decode cX3_takeNewName 9 = .ok (.getfield 31, 3) := by decide +kernel
theorem dX3_takeNewName_12 : decode cX3_takeNewName 12 = .ok (.invokevirtual 136, 3) := by decide +kernel
theorem dX3_takeNewName_15 : decode cX3_takeNewName 15 = .ok (.ifCond .ne 14, 3) := by decide +kernel
theorem dX3_takeNewName_18 : decode cX3_takeNewName 18 = .ok (.aload_n 0, 1) := by decide +kernel
theorem dX3_takeNewName_19 : decode cX3_takeNewName 19 = .ok (.getfield 31, 3) := by decide +kernel
theorem dX3_takeNewName_22 : decode cX3_takeNewName 22 = .ok (.iconst 2, 1) := by decide +kernel
theorem dX3_takeNewName_23 : decode cX3_takeNewName 23 = .ok (.invokevirtual 108, 3) := by decide +kernel
theorem dX3_takeNewName_26 : decode cX3_takeNewName 26 = .ok (.pop, 1) := by decide +kernel
theorem dX3_takeNewName_27 : decode cX3_takeNewName 27 = .ok (.lconst 0, 1) := by decide +kernel
theorem dX3_takeNewName_28 : decode cX3_takeNewName 28 = .ok (.lreturn, 1) := by decide +kernel
theorem dX3_takeNewName_29 : decode cX3_takeNewName 29 = .ok (.aload_n 0, 1) := by decide +kernel
theorem dX3_takeNewName_30 : decode cX3_takeNewName 30 = .ok (.lload_n 1, 1) := by decide +kernel
theorem dX3_takeNewName_31 : decode cX3_takeNewName 31 = .ok (.invokevirtual 139, 3) := by decide +kernel
theorem dX3_takeNewName_34 : decode cX3_takeNewName 34 = .ok (.ifCond .eq 14, 3) := by decide +kernel
theorem dX3_takeNewName_37 : decode cX3_takeNewName 37 = .ok (.aload_n 0, 1) := by decide +kernel
theorem dX3_takeNewName_38 : decode cX3_takeNewName 38 = .ok (.getfield 31, 3) := by decide +kernel
theorem dX3_takeNewName_41 : decode cX3_takeNewName 41 = .ok (.iconst 3, 1) := by decide +kernel
theorem dX3_takeNewName_42 : decode cX3_takeNewName 42 = .ok (.invokevirtual 108, 3) := by decide +kernel
theorem dX3_takeNewName_45 : decode cX3_takeNewName 45 = .ok (.pop, 1) := by decide +kernel
theorem dX3_takeNewName_46 : decode cX3_takeNewName 46 = .ok (.lconst 0, 1) := by decide +kernel
theorem dX3_takeNewName_47 : decode cX3_takeNewName 47 = .ok (.lreturn, 1) := by decide +kernel
theorem dX3_takeNewName_48 : decode cX3_takeNewName 48 = .ok (.aload_n 0, 1) := by decide +kernel
theorem dX3_takeNewName_49 : decode cX3_takeNewName 49 = .ok (.getfield 31, 3) := by decide +kernel
theorem dX3_takeNewName_52 : decode cX3_takeNewName 52 = .ok (.invokevirtual 143, 3) := by decide +kernel
theorem dX3_takeNewName_55 : decode cX3_takeNewName 55 = .ok (.lload_n 1, 1) := by decide +kernel
theorem dX3_takeNewName_56 : decode cX3_takeNewName 56 = .ok (.lreturn, 1) := by decide +kernel
theorem dX3_thingHere_0 : decode cX3_thingHere 0 = .ok (.aload_n 0, 1) := by decide +kernel
theorem dX3_thingHere_1 : decode cX3_thingHere 1 = .ok (.getfield 31, 3) := by decide +kernel
theorem dX3_thingHere_4 : decode cX3_thingHere 4 = .ok (.invokevirtual 136, 3) := by decide +kernel
theorem dX3_thingHere_7 : decode cX3_thingHere 7 = .ok (.ifCond .ne 14, 3) := by decide +kernel
theorem dX3_thingHere_10 : decode cX3_thingHere 10 = .ok (.aload_n 0, 1) := by decide +kernel
theorem dX3_thingHere_11 : decode cX3_thingHere 11 = .ok (.getfield 31, 3) := by decide +kernel
theorem dX3_thingHere_14 : decode cX3_thingHere 14 = .ok (.iconst 2, 1) := by decide +kernel
theorem dX3_thingHere_15 : decode cX3_thingHere 15 = .ok (.invokevirtual 108, 3) := by decide +kernel
theorem dX3_thingHere_18 : decode cX3_thingHere 18 = .ok (.pop, 1) := by decide +kernel
theorem dX3_thingHere_19 : decode cX3_thingHere 19 = .ok (.iconst (-1), 1) := by decide +kernel
theorem dX3_thingHere_20 : decode cX3_thingHere 20 = .ok (.ireturn, 1) := by decide +kernel
theorem dX3_thingHere_21 : decode cX3_thingHere 21 = .ok (.aload_n 0, 1) := by decide +kernel
theorem dX3_thingHere_22 : decode cX3_thingHere 22 = .ok (.getfield 31, 3) := by decide +kernel
theorem dX3_thingHere_25 : decode cX3_thingHere 25 = .ok (.getfield 132, 3) := by decide +kernel
theorem dX3_thingHere_28 : decode cX3_thingHere 28 = .ok (.aload_n 1, 1) := by decide +kernel
theorem dX3_thingHere_29 : decode cX3_thingHere 29 = .ok (.iload_n 2, 1) := by decide +kernel
theorem dX3_thingHere_30 : decode cX3_thingHere 30 = .ok (.invokestatic 119, 3) := by decide +kernel
theorem dX3_thingHere_33 : decode cX3_thingHere 33 = .ok (.istore_n 3, 1) := by decide +kernel
theorem dX3_thingHere_34 : decode cX3_thingHere 34 = .ok (.iload_n 3, 1) := by decide +kernel
theorem dX3_thingHere_35 : decode cX3_thingHere 35 = .ok (.iconst (-1), 1) := by decide +kernel
theorem dX3_thingHere_36 : decode cX3_thingHere 36 = .ok (.if_icmp .ne 12, 3) := by decide +kernel
theorem dX3_thingHere_39 : decode cX3_thingHere 39 = .ok (.aload_n 0, 1) := by decide +kernel
theorem dX3_thingHere_40 : decode cX3_thingHere 40 = .ok (.getfield 31, 3) := by decide +kernel
theorem dX3_thingHere_43 : decode cX3_thingHere 43 = .ok (.iconst 3, 1) := by decide +kernel
theorem dX3_thingHere_44 : decode cX3_thingHere 44 = .ok (.invokevirtual 108, 3) := by decide +kernel
theorem dX3_thingHere_47 : decode cX3_thingHere 47 = .ok (.pop, 1) := by decide +kernel
theorem dX3_thingHere_48 : decode cX3_thingHere 48 = .ok (.iload_n 3, 1) := by decide +kernel
theorem dX3_thingHere_49 : decode cX3_thingHere 49 = .ok (.ireturn, 1) := by decide +kernel
theorem dX3_wordOf_0 : decode cX3_wordOf 0 = .ok (.iload_n 0, 1) := by decide +kernel
theorem dX3_wordOf_1 : decode cX3_wordOf 1 = .ok (.tableswitch 36 0 2 #[27, 30, 33], 27) := by decide +kernel
theorem dX3_wordOf_28 : decode cX3_wordOf 28 = .ok (.ldc 225, 2) := by decide +kernel
theorem dX3_wordOf_30 : decode cX3_wordOf 30 = .ok (.areturn, 1) := by decide +kernel
theorem dX3_wordOf_31 : decode cX3_wordOf 31 = .ok (.ldc 227, 2) := by decide +kernel
theorem dX3_wordOf_33 : decode cX3_wordOf 33 = .ok (.areturn, 1) := by decide +kernel
theorem dX3_wordOf_34 : decode cX3_wordOf 34 = .ok (.ldc 229, 2) := by decide +kernel
theorem dX3_wordOf_36 : decode cX3_wordOf 36 = .ok (.areturn, 1) := by decide +kernel
theorem dX3_wordOf_37 : decode cX3_wordOf 37 = .ok (.ldc 231, 2) := by decide +kernel
theorem dX3_wordOf_39 : decode cX3_wordOf 39 = .ok (.areturn, 1) := by decide +kernel
theorem dX4_alikeAhead_0 : decode cX4_alikeAhead 0 = .ok (.iconst 0, 1) := by decide +kernel
theorem dX4_alikeAhead_1 : decode cX4_alikeAhead 1 = .ok (.istore_n 2, 1) := by decide +kernel
theorem dX4_alikeAhead_2 : decode cX4_alikeAhead 2 = .ok (.iconst 0, 1) := by decide +kernel
theorem dX4_alikeAhead_3 : decode cX4_alikeAhead 3 = .ok (.istore_n 3, 1) := by decide +kernel
theorem dX4_alikeAhead_4 : decode cX4_alikeAhead 4 = .ok (.iload_n 3, 1) := by decide +kernel
theorem dX4_alikeAhead_5 : decode cX4_alikeAhead 5 = .ok (.iload_n 1, 1) := by decide +kernel
theorem dX4_alikeAhead_6 : decode cX4_alikeAhead 6 = .ok (.if_icmp .ge 34, 3) := by decide +kernel
theorem dX4_alikeAhead_9 : decode cX4_alikeAhead 9 = .ok (.aload_n 0, 1) := by decide +kernel
theorem dX4_alikeAhead_10 : decode cX4_alikeAhead 10 = .ok (.aload_n 0, 1) := by decide +kernel
theorem dX4_alikeAhead_11 : decode cX4_alikeAhead 11 = .ok (.iload_n 3, 1) := by decide +kernel
theorem dX4_alikeAhead_12 : decode cX4_alikeAhead 12 = .ok (.invokevirtual 44, 3) := by decide +kernel
theorem dX4_alikeAhead_15 : decode cX4_alikeAhead 15 = .ok (.aload_n 0, 1) := by decide +kernel
theorem dX4_alikeAhead_16 : decode cX4_alikeAhead 16 = .ok (.iload_n 1, 1) := by decide +kernel
theorem dX4_alikeAhead_17 : decode cX4_alikeAhead 17 = .ok (.invokevirtual 44, 3) := by decide +kernel
theorem dX4_alikeAhead_20 : decode cX4_alikeAhead 20 = .ok (.aload_n 0, 1) := by decide +kernel
theorem dX4_alikeAhead_21 : decode cX4_alikeAhead 21 = .ok (.invokevirtual 47, 3) := by decide +kernel
theorem dX4_alikeAhead_24 : decode cX4_alikeAhead 24 = .ok (.iconst 0, 1) := by decide +kernel
theorem dX4_alikeAhead_25 : decode cX4_alikeAhead 25 = .ok (.invokevirtual 51, 3) := by decide +kernel
theorem dX4_alikeAhead_28 : decode cX4_alikeAhead 28 = .ok (.ifCond .eq 6, 3) := by decide +kernel
theorem dX4_alikeAhead_31 : decode cX4_alikeAhead 31 = .ok (.iinc 2 1, 3) := by decide +kernel
theorem dX4_alikeAhead_34 : decode cX4_alikeAhead 34 = .ok (.iinc 3 1, 3) := by decide +kernel
theorem dX4_alikeAhead_37 : decode cX4_alikeAhead 37 = .ok (.goto (-33), 3) := by decide +kernel
theorem dX4_alikeAhead_40 : decode cX4_alikeAhead 40 = .ok (.iload_n 2, 1) := by decide +kernel
theorem dX4_alikeAhead_41 : decode cX4_alikeAhead 41 = .ok (.ireturn, 1) := by decide +kernel
theorem dX4_allFeatures_0 : decode cX4_allFeatures 0 = .ok (.iconst 1, 1) := by decide +kernel
theorem dX4_allFeatures_1 : decode cX4_allFeatures 1 = .ok (.aload_n 0, 1) := by decide +kernel
theorem dX4_allFeatures_2 : decode cX4_allFeatures 2 = .ok (.getfield 15, 3) := by decide +kernel
theorem dX4_allFeatures_5 : decode cX4_allFeatures 5 = .ok (.getfield 33, 3) := by decide +kernel
theorem dX4_allFeatures_8 : decode cX4_allFeatures 8 = .ok (.ishl, 1) := by decide +kernel
theorem dX4_allFeatures_9 : decode cX4_allFeatures 9 = .ok (.iconst 1, 1) := by decide +kernel
theorem dX4_allFeatures_10 : decode cX4_allFeatures 10 = .ok (.isub, 1) := by decide +kernel
theorem dX4_allFeatures_11 : decode cX4_allFeatures 11 = .ok (.ireturn, 1) := by decide +kernel
theorem dX4_areAlike_0 : decode cX4_areAlike 0 = .ok (.iconst 0, 1) := by decide +kernel
theorem dX4_areAlike_1 : decode cX4_areAlike 1 = .ok (.istore 5, 2) := by decide +kernel
theorem dX4_areAlike_3 : decode cX4_areAlike 3 = .ok (.iload 5, 2) := by decide +kernel
theorem dX4_areAlike_5 : decode cX4_areAlike 5 = .ok (.aload_n 0, 1) := by decide +kernel
theorem dX4_areAlike_6 : decode cX4_areAlike 6 = .ok (.getfield 15, 3) := by decide +kernel
theorem dX4_areAlike_9 : decode cX4_areAlike 9 = .ok (.getfield 33, 3) := by decide +kernel
theorem dX4_areAlike_12 : decode cX4_areAlike 12 = .ok (.if_icmp .ge 49, 3) := by decide +kernel
theorem dX4_areAlike_15 : decode cX4_areAlike 15 = .ok (.iload_n 3, 1) := by decide +kernel
theorem dX4_areAlike_16 : decode cX4_areAlike 16 = .ok (.iload 5, 2) := by decide +kernel
theorem dX4_areAlike_18 : decode cX4_areAlike 18 = .ok (.ishr, 1) := by decide +kernel
theorem dX4_areAlike_19 : decode cX4_areAlike 19 = .ok (.iconst 1, 1) := by decide +kernel
theorem dX4_areAlike_20 : decode cX4_areAlike 20 = .ok (.iand, 1) := by decide +kernel
theorem dX4_areAlike_21 : decode cX4_areAlike 21 = .ok (.ifCond .ne 6, 3) := by decide +kernel
theorem dX4_areAlike_24 : decode cX4_areAlike 24 = .ok (.goto 31, 3) := by decide +kernel
theorem dX4_areAlike_27 : decode cX4_areAlike 27 = .ok (.aload_n 0, 1) := by decide +kernel
theorem dX4_areAlike_28 : decode cX4_areAlike 28 = .ok (.getfield 15, 3) := by decide +kernel
theorem dX4_areAlike_31 : decode cX4_areAlike 31 = .ok (.iload_n 1, 1) := by decide +kernel
theorem dX4_areAlike_32 : decode cX4_areAlike 32 = .ok (.iload 5, 2) := by decide +kernel
theorem dX4_areAlike_34 : decode cX4_areAlike 34 = .ok (.iconst 0, 1) := by decide +kernel
theorem dX4_areAlike_35 : decode cX4_areAlike 35 = .ok (.invokevirtual 36, 3) := by decide +kernel
theorem dX4_areAlike_38 : decode cX4_areAlike 38 = .ok (.aload_n 0, 1) := by decide +kernel
theorem dX4_areAlike_39 : decode cX4_areAlike 39 = .ok (.getfield 15, 3) := by decide +kernel
theorem dX4_areAlike_42 : decode cX4_areAlike 42 = .ok (.iload_n 2, 1) := by decide +kernel
theorem dX4_areAlike_43 : decode cX4_areAlike 43 = .ok (.iload 5, 2) := by decide +kernel
theorem dX4_areAlike_45 : decode cX4_areAlike 45 = .ok (.iload 4, 2) := by decide +kernel
theorem dX4_areAlike_47 : decode cX4_areAlike 47 = .ok (.invokevirtual 36, 3) := by decide +kernel
theorem dX4_areAlike_50 : decode cX4_areAlike 50 = .ok (.if_icmp .eq 5, 3) := by decide +kernel
theorem dX4_areAlike_53 : decode cX4_areAlike 53 = .ok (.iconst 0, 1) := by decide +kernel
theorem dX4_areAlike_54 : decode cX4_areAlike 54 = .ok (.ireturn, 1) := by decide +kernel
theorem dX4_areAlike_55 : decode cX4_areAlike 55 = .ok (.iinc 5 1, 3) := by decide +kernel
theorem dX4_areAlike_58 : decode cX4_areAlike 58 = .ok (.goto (-55), 3) := by decide +kernel
theorem dX4_areAlike_61 : decode cX4_areAlike 61 = .ok (.iconst 1, 1) := by decide +kernel
theorem dX4_areAlike_62 : decode cX4_areAlike 62 = .ok (.ireturn, 1) := by decide +kernel
theorem dX4_couplesAlike_0 : decode cX4_couplesAlike 0 = .ok (.iconst 0, 1) := by decide +kernel
theorem dX4_couplesAlike_1 : decode cX4_couplesAlike 1 = .ok (.istore_n 1, 1) := by decide +kernel
theorem dX4_couplesAlike_2 : decode cX4_couplesAlike 2 = .ok (.iconst 0, 1) := by decide +kernel
theorem dX4_couplesAlike_3 : decode cX4_couplesAlike 3 = .ok (.istore_n 2, 1) := by decide +kernel
theorem dX4_couplesAlike_4 : decode cX4_couplesAlike 4 = .ok (.iload_n 2, 1) := by decide +kernel
theorem dX4_couplesAlike_5 : decode cX4_couplesAlike 5 = .ok (.aload_n 0, 1) := by decide +kernel
theorem dX4_couplesAlike_6 : decode cX4_couplesAlike 6 = .ok (.getfield 25, 3) := by decide +kernel
theorem dX4_couplesAlike_9 : decode cX4_couplesAlike 9 = .ok (.if_icmp .ge 17, 3) := by decide +kernel
theorem dX4_couplesAlike_12 : decode cX4_couplesAlike 12 = .ok (.iload_n 1, 1) := by decide +kernel
theorem dX4_couplesAlike_13 : decode cX4_couplesAlike 13 = .ok (.aload_n 0, 1) := by decide +kernel
theorem dX4_couplesAlike_14 : decode cX4_couplesAlike 14 = .ok (.iload_n 2, 1) := by decide +kernel
theorem dX4_couplesAlike_15 : decode cX4_couplesAlike 15 = .ok (.invokevirtual 40, 3) := by decide +kernel
theorem dX4_couplesAlike_18 : decode cX4_couplesAlike 18 = .ok (.iadd, 1) := by decide +kernel
theorem dX4_couplesAlike_19 : decode cX4_couplesAlike 19 = .ok (.istore_n 1, 1) := by decide +kernel
theorem dX4_couplesAlike_20 : decode cX4_couplesAlike 20 = .ok (.iinc 2 1, 3) := by decide +kernel
theorem dX4_couplesAlike_23 : decode cX4_couplesAlike 23 = .ok (.goto (-19), 3) := by decide +kernel
theorem dX4_couplesAlike_26 : decode cX4_couplesAlike 26 = .ok (.iload_n 1, 1) := by decide +kernel
theorem dX4_couplesAlike_27 : decode cX4_couplesAlike 27 = .ok (.ireturn, 1) := by decide +kernel
theorem dX4_fewestFeatures_0 : decode cX4_fewestFeatures 0 = .ok (.iconst (-1), 1) := by decide +kernel
theorem dX4_fewestFeatures_1 : decode cX4_fewestFeatures 1 = .ok (.istore_n 2, 1) := by decide +kernel
theorem dX4_fewestFeatures_2 : decode cX4_fewestFeatures 2 = .ok (.iconst 0, 1) := by decide +kernel
theorem dX4_fewestFeatures_3 : decode cX4_fewestFeatures 3 = .ok (.istore_n 3, 1) := by decide +kernel
theorem dX4_fewestFeatures_4 : decode cX4_fewestFeatures 4 = .ok (.iload_n 3, 1) := by decide +kernel
theorem dX4_fewestFeatures_5 : decode cX4_fewestFeatures 5 = .ok (.aload_n 0, 1) := by decide +kernel
theorem dX4_fewestFeatures_6 : decode cX4_fewestFeatures 6 = .ok (.invokevirtual 47, 3) := by decide +kernel
theorem dX4_fewestFeatures_9 : decode cX4_fewestFeatures 9 = .ok (.if_icmp .gt 48, 3) := by decide +kernel
theorem dX4_fewestFeatures_12 : decode cX4_fewestFeatures 12 = .ok (.iload_n 2, 1) := by decide +kernel
theorem dX4_fewestFeatures_13 : decode cX4_fewestFeatures 13 = .ok (.iconst (-1), 1) := by decide +kernel
theorem dX4_fewestFeatures_14 : decode cX4_fewestFeatures 14 = .ok (.if_icmp .eq 14, 3) := by decide +kernel
theorem dX4_fewestFeatures_17 : decode cX4_fewestFeatures 17 = .ok (.iload_n 3, 1) := by decide +kernel
theorem dX4_fewestFeatures_18 : decode cX4_fewestFeatures 18 = .ok (.invokestatic 55, 3) := by decide +kernel
theorem dX4_fewestFeatures_21 : decode cX4_fewestFeatures 21 = .ok (.iload_n 2, 1) := by decide +kernel
theorem dX4_fewestFeatures_22 : decode cX4_fewestFeatures 22 = .ok (.invokestatic 55, 3) := by decide +kernel
theorem dX4_fewestFeatures_25 : decode cX4_fewestFeatures 25 = .ok (.if_icmp .ge 7, 3) := by decide +kernel
theorem dX4_fewestFeatures_28 : decode cX4_fewestFeatures 28 = .ok (.iconst 1, 1) := by decide +kernel
theorem dX4_fewestFeatures_29 : decode cX4_fewestFeatures 29 = .ok (.goto 4, 3) := by decide +kernel
theorem dX4_fewestFeatures_32 : decode cX4_fewestFeatures 32 = .ok (.iconst 0, 1) := by decide +kernel
theorem dX4_fewestFeatures_33 : decode cX4_fewestFeatures 33 = .ok (.istore 4, 2) := by decide +kernel
theorem dX4_fewestFeatures_35 : decode cX4_fewestFeatures 35 = .ok (.iload 4, 2) := by decide +kernel
theorem dX4_fewestFeatures_37 : decode cX4_fewestFeatures 37 = .ok (.ifCond .eq 14, 3) := by decide +kernel
theorem dX4_fewestFeatures_40 : decode cX4_fewestFeatures 40 = .ok (.aload_n 0, 1) := by decide +kernel
theorem dX4_fewestFeatures_41 : decode cX4_fewestFeatures 41 = .ok (.iload_n 3, 1) := by decide +kernel
theorem dX4_fewestFeatures_42 : decode cX4_fewestFeatures 42 = .ok (.iload_n 1, 1) := by decide +kernel
theorem dX4_fewestFeatures_43 : decode cX4_fewestFeatures 43 = .ok (.invokevirtual 60, 3) := by decide +kernel
theorem dX4_fewestFeatures_46 : decode cX4_fewestFeatures 46 = .ok (.ifCond .eq 5, 3) := by decide +kernel
theorem dX4_fewestFeatures_49 : decode cX4_fewestFeatures 49 = .ok (.iload_n 3, 1) := by decide +kernel
theorem dX4_fewestFeatures_50 : decode cX4_fewestFeatures 50 = .ok (.istore_n 2, 1) := by decide +kernel
theorem dX4_fewestFeatures_51 : decode cX4_fewestFeatures 51 = .ok (.iinc 3 1, 3) := by decide +kernel
theorem dX4_fewestFeatures_54 : decode cX4_fewestFeatures 54 = .ok (.goto (-50), 3) := by decide +kernel
theorem dX4_fewestFeatures_57 : decode cX4_fewestFeatures 57 = .ok (.iload_n 2, 1) := by decide +kernel
theorem dX4_fewestFeatures_58 : decode cX4_fewestFeatures 58 = .ok (.ireturn, 1) := by decide +kernel
theorem dX4_fewestFiled_0 : decode cX4_fewestFiled 0 = .ok (.iconst 0, 1) := by decide +kernel
theorem dX4_fewestFiled_1 : decode cX4_fewestFiled 1 = .ok (.istore_n 2, 1) := by decide +kernel
theorem dX4_fewestFiled_2 : decode cX4_fewestFiled 2 = .ok (.iconst 0, 1) := by decide +kernel
theorem dX4_fewestFiled_3 : decode cX4_fewestFiled 3 = .ok (.istore_n 3, 1) := by decide +kernel
theorem dX4_fewestFiled_4 : decode cX4_fewestFiled 4 = .ok (.iload_n 3, 1) := by decide +kernel
theorem dX4_fewestFiled_5 : decode cX4_fewestFiled 5 = .ok (.aload_n 0, 1) := by decide +kernel
theorem dX4_fewestFiled_6 : decode cX4_fewestFiled 6 = .ok (.getfield 25, 3) := by decide +kernel
theorem dX4_fewestFiled_9 : decode cX4_fewestFiled 9 = .ok (.if_icmp .ge 32, 3) := by decide +kernel
theorem dX4_fewestFiled_12 : decode cX4_fewestFiled 12 = .ok (.aload_n 0, 1) := by decide +kernel
theorem dX4_fewestFiled_13 : decode cX4_fewestFiled 13 = .ok (.iload_n 3, 1) := by decide +kernel
theorem dX4_fewestFiled_14 : decode cX4_fewestFiled 14 = .ok (.invokevirtual 40, 3) := by decide +kernel
theorem dX4_fewestFiled_17 : decode cX4_fewestFiled 17 = .ok (.istore 4, 2) := by decide +kernel
theorem dX4_fewestFiled_19 : decode cX4_fewestFiled 19 = .ok (.iload 4, 2) := by decide +kernel
theorem dX4_fewestFiled_21 : decode cX4_fewestFiled 21 = .ok (.iload_n 1, 1) := by decide +kernel
theorem dX4_fewestFiled_22 : decode cX4_fewestFiled 22 = .ok (.if_icmp .lt 5, 3) := by decide +kernel
theorem dX4_fewestFiled_25 : decode cX4_fewestFiled 25 = .ok (.iconst (-1), 1) := by decide +kernel
theorem dX4_fewestFiled_26 : decode cX4_fewestFiled 26 = .ok (.ireturn, 1) := by decide +kernel
theorem dX4_fewestFiled_27 : decode cX4_fewestFiled 27 = .ok (.iload 4, 2) := by decide +kernel
theorem dX4_fewestFiled_29 : decode cX4_fewestFiled 29 = .ok (.ifCond .le 6, 3) := by decide +kernel
theorem dX4_fewestFiled_32 : decode cX4_fewestFiled 32 = .ok (.iinc 2 1, 3) := by decide +kernel
theorem dX4_fewestFiled_35 : decode cX4_fewestFiled 35 = .ok (.iinc 3 1, 3) := by decide +kernel
theorem dX4_fewestFiled_38 : decode cX4_fewestFiled 38 = .ok (.goto (-34), 3) := by decide +kernel
theorem dX4_fewestFiled_41 : decode cX4_fewestFiled 41 = .ok (.iload_n 2, 1) := by decide +kernel
theorem dX4_fewestFiled_42 : decode cX4_fewestFiled 42 = .ok (.ireturn, 1) := by decide +kernel
theorem dX4_keyAt_0 : decode cX4_keyAt 0 = .ok (.aload_n 0, 1) := by decide +kernel
theorem dX4_keyAt_1 : decode cX4_keyAt 1 = .ok (.getfield 9, 3) := by decide +kernel
theorem dX4_keyAt_4 : decode cX4_keyAt 4 = .ok (.iload_n 1, 1) := by decide +kernel
theorem dX4_keyAt_5 : decode cX4_keyAt 5 = .ok (.invokestatic 29, 3) := by decide +kernel
theorem dX4_keyAt_8 : decode cX4_keyAt 8 = .ok (.ireturn, 1) := by decide +kernel
theorem dX4_leastInRow_0 : decode cX4_leastInRow 0 = .ok (.iconst 1, 1) := by decide +kernel
theorem dX4_leastInRow_1 : decode cX4_leastInRow 1 = .ok (.istore_n 2, 1) := by decide +kernel
theorem dX4_leastInRow_2 : decode cX4_leastInRow 2 = .ok (.iload_n 2, 1) := by decide +kernel
theorem dX4_leastInRow_3 : decode cX4_leastInRow 3 = .ok (.aload_n 0, 1) := by decide +kernel
theorem dX4_leastInRow_4 : decode cX4_leastInRow 4 = .ok (.getfield 25, 3) := by decide +kernel
theorem dX4_leastInRow_7 : decode cX4_leastInRow 7 = .ok (.if_icmp .gt 20, 3) := by decide +kernel
theorem dX4_leastInRow_10 : decode cX4_leastInRow 10 = .ok (.aload_n 0, 1) := by decide +kernel
theorem dX4_leastInRow_11 : decode cX4_leastInRow 11 = .ok (.iload_n 2, 1) := by decide +kernel
theorem dX4_leastInRow_12 : decode cX4_leastInRow 12 = .ok (.iload_n 1, 1) := by decide +kernel
theorem dX4_leastInRow_13 : decode cX4_leastInRow 13 = .ok (.invokevirtual 64, 3) := by decide +kernel
theorem dX4_leastInRow_16 : decode cX4_leastInRow 16 = .ok (.ifCond .eq 5, 3) := by decide +kernel
theorem dX4_leastInRow_19 : decode cX4_leastInRow 19 = .ok (.iload_n 2, 1) := by decide +kernel
theorem dX4_leastInRow_20 : decode cX4_leastInRow 20 = .ok (.ireturn, 1) := by decide +kernel
theorem dX4_leastInRow_21 : decode cX4_leastInRow 21 = .ok (.iinc 2 1, 3) := by decide +kernel
theorem dX4_leastInRow_24 : decode cX4_leastInRow 24 = .ok (.goto (-22), 3) := by decide +kernel
theorem dX4_leastInRow_27 : decode cX4_leastInRow 27 = .ok (.iconst (-1), 1) := by decide +kernel
theorem dX4_leastInRow_28 : decode cX4_leastInRow 28 = .ok (.ireturn, 1) := by decide +kernel
theorem dX4_load_0 : decode cX4_load 0 = .ok (.aload_n 0, 1) := by decide +kernel
theorem dX4_load_1 : decode cX4_load 1 = .ok (.aload_n 0, 1) := by decide +kernel
theorem dX4_load_2 : decode cX4_load 2 = .ok (.getfield 15, 3) := by decide +kernel
theorem dX4_load_5 : decode cX4_load 5 = .ok (.iload_n 1, 1) := by decide +kernel
theorem dX4_load_6 : decode cX4_load 6 = .ok (.aload_n 0, 1) := by decide +kernel
theorem dX4_load_7 : decode cX4_load 7 = .ok (.getfield 9, 3) := by decide +kernel
theorem dX4_load_10 : decode cX4_load 10 = .ok (.invokevirtual 19, 3) := by decide +kernel
theorem dX4_load_13 : decode cX4_load 13 = .ok (.putfield 25, 3) := by decide +kernel
theorem dX4_load_16 : decode cX4_load 16 = .ok (.return_, 1) := by decide +kernel
theorem dX4_showTheSame_0 : decode cX4_showTheSame 0 = .ok (.iconst 0, 1) := by decide +kernel
theorem dX4_showTheSame_1 : decode cX4_showTheSame 1 = .ok (.istore 5, 2) := by decide +kernel
theorem dX4_showTheSame_3 : decode cX4_showTheSame 3 = .ok (.iload 5, 2) := by decide +kernel
theorem dX4_showTheSame_5 : decode cX4_showTheSame 5 = .ok (.iload_n 3, 1) := by decide +kernel
theorem dX4_showTheSame_6 : decode cX4_showTheSame 6 = .ok (.if_icmp .ge 74, 3) := by decide +kernel
theorem dX4_showTheSame_9 : decode cX4_showTheSame 9 = .ok (.aload_n 0, 1) := by decide +kernel
theorem dX4_showTheSame_10 : decode cX4_showTheSame 10 = .ok (.iload_n 1, 1) := by decide +kernel
theorem dX4_showTheSame_11 : decode cX4_showTheSame 11 = .ok (.iload 5, 2) := by decide +kernel
theorem dX4_showTheSame_13 : decode cX4_showTheSame 13 = .ok (.iadd, 1) := by decide +kernel
theorem dX4_showTheSame_14 : decode cX4_showTheSame 14 = .ok (.aload_n 0, 1) := by decide +kernel
theorem dX4_showTheSame_15 : decode cX4_showTheSame 15 = .ok (.getfield 25, 3) := by decide +kernel
theorem dX4_showTheSame_18 : decode cX4_showTheSame 18 = .ok (.invokestatic 70, 3) := by decide +kernel
theorem dX4_showTheSame_21 : decode cX4_showTheSame 21 = .ok (.invokevirtual 44, 3) := by decide +kernel
theorem dX4_showTheSame_24 : decode cX4_showTheSame 24 = .ok (.istore 6, 2) := by decide +kernel
theorem dX4_showTheSame_26 : decode cX4_showTheSame 26 = .ok (.aload_n 0, 1) := by decide +kernel
theorem dX4_showTheSame_27 : decode cX4_showTheSame 27 = .ok (.iload 4, 2) := by decide +kernel
theorem dX4_showTheSame_29 : decode cX4_showTheSame 29 = .ok (.ifCond .ne 10, 3) := by decide +kernel
theorem dX4_showTheSame_32 : decode cX4_showTheSame 32 = .ok (.iload_n 2, 1) := by decide +kernel
theorem dX4_showTheSame_33 : decode cX4_showTheSame 33 = .ok (.iload 5, 2) := by decide +kernel
theorem dX4_showTheSame_35 : decode cX4_showTheSame 35 = .ok (.iadd, 1) := by decide +kernel
theorem dX4_showTheSame_36 : decode cX4_showTheSame 36 = .ok (.goto 7, 3) := by decide +kernel
theorem dX4_showTheSame_39 : decode cX4_showTheSame 39 = .ok (.iload_n 2, 1) := by decide +kernel
theorem dX4_showTheSame_40 : decode cX4_showTheSame 40 = .ok (.iload 5, 2) := by decide +kernel
theorem dX4_showTheSame_42 : decode cX4_showTheSame 42 = .ok (.isub, 1) := by decide +kernel
theorem dX4_showTheSame_43 : decode cX4_showTheSame 43 = .ok (.aload_n 0, 1) := by decide +kernel
theorem dX4_showTheSame_44 : decode cX4_showTheSame 44 = .ok (.getfield 25, 3) := by decide +kernel
theorem dX4_showTheSame_47 : decode cX4_showTheSame 47 = .ok (.invokestatic 70, 3) := by decide +kernel
theorem dX4_showTheSame_50 : decode cX4_showTheSame 50 = .ok (.invokevirtual 44, 3) := by decide +kernel
theorem dX4_showTheSame_53 : decode cX4_showTheSame 53 = .ok (.istore 7, 2) := by decide +kernel
theorem dX4_showTheSame_55 : decode cX4_showTheSame 55 = .ok (.aload_n 0, 1) := by decide +kernel
theorem dX4_showTheSame_56 : decode cX4_showTheSame 56 = .ok (.iload 6, 2) := by decide +kernel
theorem dX4_showTheSame_58 : decode cX4_showTheSame 58 = .ok (.iload 7, 2) := by decide +kernel
theorem dX4_showTheSame_60 : decode cX4_showTheSame 60 = .ok (.aload_n 0, 1) := by decide +kernel
theorem dX4_showTheSame_61 : decode cX4_showTheSame 61 = .ok (.invokevirtual 47, 3) := by decide +kernel
theorem dX4_showTheSame_64 : decode cX4_showTheSame 64 = .ok (.iload 4, 2) := by decide +kernel
theorem dX4_showTheSame_66 : decode cX4_showTheSame 66 = .ok (.invokevirtual 51, 3) := by decide +kernel
theorem dX4_showTheSame_69 : decode cX4_showTheSame 69 = .ok (.ifCond .ne 5, 3) := by decide +kernel
theorem dX4_showTheSame_72 : decode cX4_showTheSame 72 = .ok (.iconst 0, 1) := by decide +kernel
theorem dX4_showTheSame_73 : decode cX4_showTheSame 73 = .ok (.ireturn, 1) := by decide +kernel
theorem dX4_showTheSame_74 : decode cX4_showTheSame 74 = .ok (.iinc 5 1, 3) := by decide +kernel
theorem dX4_showTheSame_77 : decode cX4_showTheSame 77 = .ok (.goto (-74), 3) := by decide +kernel
theorem dX4_showTheSame_80 : decode cX4_showTheSame 80 = .ok (.iconst 1, 1) := by decide +kernel
theorem dX4_showTheSame_81 : decode cX4_showTheSame 81 = .ok (.ireturn, 1) := by decide +kernel
theorem dX4_tellWhereOneIs_0 : decode cX4_tellWhereOneIs 0 = .ok (.iconst 0, 1) := by decide +kernel
theorem dX4_tellWhereOneIs_1 : decode cX4_tellWhereOneIs 1 = .ok (.istore_n 3, 1) := by decide +kernel
theorem dX4_tellWhereOneIs_2 : decode cX4_tellWhereOneIs 2 = .ok (.iload_n 3, 1) := by decide +kernel
theorem dX4_tellWhereOneIs_3 : decode cX4_tellWhereOneIs 3 = .ok (.aload_n 0, 1) := by decide +kernel
theorem dX4_tellWhereOneIs_4 : decode cX4_tellWhereOneIs 4 = .ok (.getfield 25, 3) := by decide +kernel
theorem dX4_tellWhereOneIs_7 : decode cX4_tellWhereOneIs 7 = .ok (.if_icmp .ge 65, 3) := by decide +kernel
theorem dX4_tellWhereOneIs_10 : decode cX4_tellWhereOneIs 10 = .ok (.iconst 0, 1) := by decide +kernel
theorem dX4_tellWhereOneIs_11 : decode cX4_tellWhereOneIs 11 = .ok (.istore 4, 2) := by decide +kernel
theorem dX4_tellWhereOneIs_13 : decode cX4_tellWhereOneIs 13 = .ok (.iload 4, 2) := by decide +kernel
theorem dX4_tellWhereOneIs_15 : decode cX4_tellWhereOneIs 15 = .ok (.aload_n 0, 1) := by decide +kernel
theorem dX4_tellWhereOneIs_16 : decode cX4_tellWhereOneIs 16 = .ok (.getfield 25, 3) := by decide +kernel
theorem dX4_tellWhereOneIs_19 : decode cX4_tellWhereOneIs 19 = .ok (.if_icmp .ge 47, 3) := by decide +kernel
theorem dX4_tellWhereOneIs_22 : decode cX4_tellWhereOneIs 22 = .ok (.iload_n 3, 1) := by decide +kernel
theorem dX4_tellWhereOneIs_23 : decode cX4_tellWhereOneIs 23 = .ok (.iload 4, 2) := by decide +kernel
theorem dX4_tellWhereOneIs_25 : decode cX4_tellWhereOneIs 25 = .ok (.if_icmp .eq 17, 3) := by decide +kernel
theorem dX4_tellWhereOneIs_28 : decode cX4_tellWhereOneIs 28 = .ok (.aload_n 0, 1) := by decide +kernel
theorem dX4_tellWhereOneIs_29 : decode cX4_tellWhereOneIs 29 = .ok (.iload_n 3, 1) := by decide +kernel
theorem dX4_tellWhereOneIs_30 : decode cX4_tellWhereOneIs 30 = .ok (.iload 4, 2) := by decide +kernel
theorem dX4_tellWhereOneIs_32 : decode cX4_tellWhereOneIs 32 = .ok (.iload_n 1, 1) := by decide +kernel
theorem dX4_tellWhereOneIs_33 : decode cX4_tellWhereOneIs 33 = .ok (.iconst 0, 1) := by decide +kernel
theorem dX4_tellWhereOneIs_34 : decode cX4_tellWhereOneIs 34 = .ok (.invokevirtual 67, 3) := by decide +kernel
theorem dX4_tellWhereOneIs_37 : decode cX4_tellWhereOneIs 37 = .ok (.ifCond .eq 5, 3) := by decide +kernel
theorem dX4_tellWhereOneIs_40 : decode cX4_tellWhereOneIs 40 = .ok (.iconst 0, 1) := by decide +kernel
theorem dX4_tellWhereOneIs_41 : decode cX4_tellWhereOneIs 41 = .ok (.ireturn, 1) := by decide +kernel
theorem dX4_tellWhereOneIs_42 : decode cX4_tellWhereOneIs 42 = .ok (.iload_n 2, 1) := by decide +kernel
theorem dX4_tellWhereOneIs_43 : decode cX4_tellWhereOneIs 43 = .ok (.ifCond .eq 17, 3) := by decide +kernel
theorem dX4_tellWhereOneIs_46 : decode cX4_tellWhereOneIs 46 = .ok (.aload_n 0, 1) := by decide +kernel
theorem dX4_tellWhereOneIs_47 : decode cX4_tellWhereOneIs 47 = .ok (.iload_n 3, 1) := by decide +kernel
theorem dX4_tellWhereOneIs_48 : decode cX4_tellWhereOneIs 48 = .ok (.iload 4, 2) := by decide +kernel
theorem dX4_tellWhereOneIs_50 : decode cX4_tellWhereOneIs 50 = .ok (.iload_n 1, 1) := by decide +kernel
theorem dX4_tellWhereOneIs_51 : decode cX4_tellWhereOneIs 51 = .ok (.iconst 1, 1) := by decide +kernel
theorem dX4_tellWhereOneIs_52 : decode cX4_tellWhereOneIs 52 = .ok (.invokevirtual 67, 3) := by decide +kernel
theorem dX4_tellWhereOneIs_55 : decode cX4_tellWhereOneIs 55 = .ok (.ifCond .eq 5, 3) := by decide +kernel
theorem dX4_tellWhereOneIs_58 : decode cX4_tellWhereOneIs 58 = .ok (.iconst 0, 1) := by decide +kernel
theorem dX4_tellWhereOneIs_59 : decode cX4_tellWhereOneIs 59 = .ok (.ireturn, 1) := by decide +kernel
theorem dX4_tellWhereOneIs_60 : decode cX4_tellWhereOneIs 60 = .ok (.iinc 4 1, 3) := by decide +kernel
theorem dX4_tellWhereOneIs_63 : decode cX4_tellWhereOneIs 63 = .ok (.goto (-50), 3) := by decide +kernel
theorem dX4_tellWhereOneIs_66 : decode cX4_tellWhereOneIs 66 = .ok (.iinc 3 1, 3) := by decide +kernel
theorem dX4_tellWhereOneIs_69 : decode cX4_tellWhereOneIs 69 = .ok (.goto (-67), 3) := by decide +kernel
theorem dX4_tellWhereOneIs_72 : decode cX4_tellWhereOneIs 72 = .ok (.iconst 1, 1) := by decide +kernel
theorem dX4_tellWhereOneIs_73 : decode cX4_tellWhereOneIs 73 = .ok (.ireturn, 1) := by decide +kernel
theorem dX4_tellsAllApart_0 : decode cX4_tellsAllApart 0 = .ok (.iconst 0, 1) := by decide +kernel
theorem dX4_tellsAllApart_1 : decode cX4_tellsAllApart 1 = .ok (.istore_n 3, 1) := by decide +kernel
theorem dX4_tellsAllApart_2 : decode cX4_tellsAllApart 2 = .ok (.iload_n 3, 1) := by decide +kernel
theorem dX4_tellsAllApart_3 : decode cX4_tellsAllApart 3 = .ok (.aload_n 0, 1) := by decide +kernel
theorem dX4_tellsAllApart_4 : decode cX4_tellsAllApart 4 = .ok (.getfield 25, 3) := by decide +kernel
theorem dX4_tellsAllApart_7 : decode cX4_tellsAllApart 7 = .ok (.if_icmp .ge 72, 3) := by decide +kernel
theorem dX4_tellsAllApart_10 : decode cX4_tellsAllApart 10 = .ok (.iconst 0, 1) := by decide +kernel
theorem dX4_tellsAllApart_11 : decode cX4_tellsAllApart 11 = .ok (.istore 4, 2) := by decide +kernel
theorem dX4_tellsAllApart_13 : decode cX4_tellsAllApart 13 = .ok (.iload 4, 2) := by decide +kernel
theorem dX4_tellsAllApart_15 : decode cX4_tellsAllApart 15 = .ok (.iload_n 3, 1) := by decide +kernel
theorem dX4_tellsAllApart_16 : decode cX4_tellsAllApart 16 = .ok (.if_icmp .ge 57, 3) := by decide +kernel
theorem dX4_tellsAllApart_19 : decode cX4_tellsAllApart 19 = .ok (.aload_n 0, 1) := by decide +kernel
theorem dX4_tellsAllApart_20 : decode cX4_tellsAllApart 20 = .ok (.aload_n 0, 1) := by decide +kernel
theorem dX4_tellsAllApart_21 : decode cX4_tellsAllApart 21 = .ok (.iload_n 3, 1) := by decide +kernel
theorem dX4_tellsAllApart_22 : decode cX4_tellsAllApart 22 = .ok (.invokevirtual 44, 3) := by decide +kernel
theorem dX4_tellsAllApart_25 : decode cX4_tellsAllApart 25 = .ok (.aload_n 0, 1) := by decide +kernel
theorem dX4_tellsAllApart_26 : decode cX4_tellsAllApart 26 = .ok (.iload 4, 2) := by decide +kernel
theorem dX4_tellsAllApart_28 : decode cX4_tellsAllApart 28 = .ok (.invokevirtual 44, 3) := by decide +kernel
theorem dX4_tellsAllApart_31 : decode cX4_tellsAllApart 31 = .ok (.iload_n 1, 1) := by decide +kernel
theorem dX4_tellsAllApart_32 : decode cX4_tellsAllApart 32 = .ok (.iconst 0, 1) := by decide +kernel
theorem dX4_tellsAllApart_33 : decode cX4_tellsAllApart 33 = .ok (.invokevirtual 51, 3) := by decide +kernel
theorem dX4_tellsAllApart_36 : decode cX4_tellsAllApart 36 = .ok (.ifCond .eq 5, 3) := by decide +kernel
theorem dX4_tellsAllApart_39 : decode cX4_tellsAllApart 39 = .ok (.iconst 0, 1) := by decide +kernel
theorem dX4_tellsAllApart_40 : decode cX4_tellsAllApart 40 = .ok (.ireturn, 1) := by decide +kernel
theorem dX4_tellsAllApart_41 : decode cX4_tellsAllApart 41 = .ok (.iload_n 2, 1) := by decide +kernel
theorem dX4_tellsAllApart_42 : decode cX4_tellsAllApart 42 = .ok (.ifCond .eq 25, 3) := by decide +kernel
theorem dX4_tellsAllApart_45 : decode cX4_tellsAllApart 45 = .ok (.aload_n 0, 1) := by decide +kernel
theorem dX4_tellsAllApart_46 : decode cX4_tellsAllApart 46 = .ok (.aload_n 0, 1) := by decide +kernel
theorem dX4_tellsAllApart_47 : decode cX4_tellsAllApart 47 = .ok (.iload_n 3, 1) := by decide +kernel
theorem dX4_tellsAllApart_48 : decode cX4_tellsAllApart 48 = .ok (.invokevirtual 44, 3) := by decide +kernel
theorem dX4_tellsAllApart_51 : decode cX4_tellsAllApart 51 = .ok (.aload_n 0, 1) := by decide +kernel
theorem dX4_tellsAllApart_52 : decode cX4_tellsAllApart 52 = .ok (.iload 4, 2) := by decide +kernel
theorem dX4_tellsAllApart_54 : decode cX4_tellsAllApart 54 = .ok (.invokevirtual 44, 3) := by decide +kernel
theorem dX4_tellsAllApart_57 : decode cX4_tellsAllApart 57 = .ok (.iload_n 1, 1) := by decide +kernel
theorem dX4_tellsAllApart_58 : decode cX4_tellsAllApart 58 = .ok (.iconst 1, 1) := by decide +kernel
theorem dX4_tellsAllApart_59 : decode cX4_tellsAllApart 59 = .ok (.invokevirtual 51, 3) := by decide +kernel
theorem dX4_tellsAllApart_62 : decode cX4_tellsAllApart 62 = .ok (.ifCond .eq 5, 3) := by decide +kernel
theorem dX4_tellsAllApart_65 : decode cX4_tellsAllApart 65 = .ok (.iconst 0, 1) := by decide +kernel
theorem dX4_tellsAllApart_66 : decode cX4_tellsAllApart 66 = .ok (.ireturn, 1) := by decide +kernel
theorem dX4_tellsAllApart_67 : decode cX4_tellsAllApart 67 = .ok (.iinc 4 1, 3) := by decide +kernel
theorem dX4_tellsAllApart_70 : decode cX4_tellsAllApart 70 = .ok (.goto (-57), 3) := by decide +kernel
theorem dX4_tellsAllApart_73 : decode cX4_tellsAllApart 73 = .ok (.iinc 3 1, 3) := by decide +kernel
theorem dX4_tellsAllApart_76 : decode cX4_tellsAllApart 76 = .ok (.goto (-74), 3) := by decide +kernel
theorem dX4_tellsAllApart_79 : decode cX4_tellsAllApart 79 = .ok (.iconst 1, 1) := by decide +kernel
theorem dX4_tellsAllApart_80 : decode cX4_tellsAllApart 80 = .ok (.ireturn, 1) := by decide +kernel
theorem dX5_add_0 : decode cX5_add 0 = .ok (.aload_n 0, 1) := by decide +kernel
theorem dX5_add_1 : decode cX5_add 1 = .ok (.getfield 22, 3) := by decide +kernel
theorem dX5_add_4 : decode cX5_add 4 = .ok (.aload_n 0, 1) := by decide +kernel
theorem dX5_add_5 : decode cX5_add 5 = .ok (.getfield 11, 3) := by decide +kernel
theorem dX5_add_8 : decode cX5_add 8 = .ok (.iload_n 1, 1) := by decide +kernel
theorem dX5_add_9 : decode cX5_add 9 = .ok (.invokestatic 48, 3) := by decide +kernel
theorem dX5_add_12 : decode cX5_add 12 = .ok (.aload_n 0, 1) := by decide +kernel
theorem dX5_add_13 : decode cX5_add 13 = .ok (.getfield 26, 3) := by decide +kernel
theorem dX5_add_16 : decode cX5_add 16 = .ok (.aload_n 0, 1) := by decide +kernel
theorem dX5_add_17 : decode cX5_add 17 = .ok (.getfield 11, 3) := by decide +kernel
theorem dX5_add_20 : decode cX5_add 20 = .ok (.iload_n 2, 1) := by decide +kernel
theorem dX5_add_21 : decode cX5_add 21 = .ok (.invokestatic 48, 3) := by decide +kernel
theorem dX5_add_24 : decode cX5_add 24 = .ok (.aload_n 0, 1) := by decide +kernel
theorem dX5_add_25 : decode cX5_add 25 = .ok (.getfield 29, 3) := by decide +kernel
theorem dX5_add_28 : decode cX5_add 28 = .ok (.aload_n 0, 1) := by decide +kernel
theorem dX5_add_29 : decode cX5_add 29 = .ok (.getfield 11, 3) := by decide +kernel
theorem dX5_add_32 : decode cX5_add 32 = .ok (.iload_n 3, 1) := by decide +kernel
theorem dX5_add_33 : decode cX5_add 33 = .ok (.invokestatic 48, 3) := by decide +kernel
theorem dX5_add_36 : decode cX5_add 36 = .ok (.aload_n 0, 1) := by decide +kernel
theorem dX5_add_37 : decode cX5_add 37 = .ok (.getfield 32, 3) := by decide +kernel
theorem dX5_add_40 : decode cX5_add 40 = .ok (.aload_n 0, 1) := by decide +kernel
theorem dX5_add_41 : decode cX5_add 41 = .ok (.getfield 11, 3) := by decide +kernel
theorem dX5_add_44 : decode cX5_add 44 = .ok (.iload 4, 2) := by decide +kernel
theorem dX5_add_46 : decode cX5_add 46 = .ok (.invokestatic 48, 3) := by decide +kernel
theorem dX5_add_49 : decode cX5_add 49 = .ok (.aload_n 0, 1) := by decide +kernel
theorem dX5_add_50 : decode cX5_add 50 = .ok (.dup, 1) := by decide +kernel
theorem dX5_add_51 : decode cX5_add 51 = .ok (.getfield 11, 3) := by decide +kernel
theorem dX5_add_54 : decode cX5_add 54 = .ok (.iconst 1, 1) := by decide +kernel
theorem dX5_add_55 : decode cX5_add 55 = .ok (.iadd, 1) := by decide +kernel
theorem dX5_add_56 : decode cX5_add 56 = .ok (.putfield 11, 3) := by decide +kernel
theorem dX5_add_59 : decode cX5_add 59 = .ok (.iload_n 1, 1) := by decide +kernel
theorem dX5_add_60 : decode cX5_add 60 = .ok (.bipush 10, 2) := by decide +kernel
theorem dX5_add_62 : decode cX5_add 62 = .ok (.if_icmp .eq 13, 3) := by decide +kernel
theorem dX5_add_65 : decode cX5_add 65 = .ok (.aload_n 0, 1) := by decide +kernel
theorem dX5_add_66 : decode cX5_add 66 = .ok (.dup, 1) := by decide +kernel
theorem dX5_add_67 : decode cX5_add 67 = .ok (.getfield 15, 3) := by decide +kernel
theorem dX5_add_70 : decode cX5_add 70 = .ok (.iconst 1, 1) := by decide +kernel
theorem dX5_add_71 : decode cX5_add 71 = .ok (.iadd, 1) := by decide +kernel
theorem dX5_add_72 : decode cX5_add 72 = .ok (.putfield 15, 3) := by decide +kernel
theorem dX5_add_75 : decode cX5_add 75 = .ok (.iload_n 1, 1) := by decide +kernel
theorem dX5_add_76 : decode cX5_add 76 = .ok (.bipush 7, 2) := by decide +kernel
theorem dX5_add_78 : decode cX5_add 78 = .ok (.if_icmp .ne 8, 3) := by decide +kernel
theorem dX5_add_81 : decode cX5_add 81 = .ok (.aload_n 0, 1) := by decide +kernel
theorem dX5_add_82 : decode cX5_add 82 = .ok (.iconst 1, 1) := by decide +kernel
theorem dX5_add_83 : decode cX5_add 83 = .ok (.putfield 18, 3) := by decide +kernel
theorem dX5_add_86 : decode cX5_add 86 = .ok (.return_, 1) := by decide +kernel
theorem dX5_clear_0 : decode cX5_clear 0 = .ok (.aload_n 0, 1) := by decide +kernel
theorem dX5_clear_1 : decode cX5_clear 1 = .ok (.iconst 0, 1) := by decide +kernel
theorem dX5_clear_2 : decode cX5_clear 2 = .ok (.putfield 11, 3) := by decide +kernel
theorem dX5_clear_5 : decode cX5_clear 5 = .ok (.aload_n 0, 1) := by decide +kernel
theorem dX5_clear_6 : decode cX5_clear 6 = .ok (.iconst 0, 1) := by decide +kernel
theorem dX5_clear_7 : decode cX5_clear 7 = .ok (.putfield 15, 3) := by decide +kernel
theorem dX5_clear_10 : decode cX5_clear 10 = .ok (.aload_n 0, 1) := by decide +kernel
theorem dX5_clear_11 : decode cX5_clear 11 = .ok (.iconst 0, 1) := by decide +kernel
theorem dX5_clear_12 : decode cX5_clear 12 = .ok (.putfield 18, 3) := by decide +kernel
theorem dX5_clear_15 : decode cX5_clear 15 = .ok (.return_, 1) := by decide +kernel
theorem dX5_compareAt_0 : decode cX5_compareAt 0 = .ok (.aload_n 0, 1) := by decide +kernel
theorem dX5_compareAt_1 : decode cX5_compareAt 1 = .ok (.getfield 29, 3) := by decide +kernel
theorem dX5_compareAt_4 : decode cX5_compareAt 4 = .ok (.iload_n 1, 1) := by decide +kernel
theorem dX5_compareAt_5 : decode cX5_compareAt 5 = .ok (.invokestatic 44, 3) := by decide +kernel
theorem dX5_compareAt_8 : decode cX5_compareAt 8 = .ok (.ireturn, 1) := by decide +kernel
theorem dX5_copy_0 : decode cX5_copy 0 = .ok (.aload_n 0, 1) := by decide +kernel
theorem dX5_copy_1 : decode cX5_copy 1 = .ok (.ifnull 7, 3) := by decide +kernel
theorem dX5_copy_4 : decode cX5_copy 4 = .ok (.aload_n 1, 1) := by decide +kernel
theorem dX5_copy_5 : decode cX5_copy 5 = .ok (.ifnonnull 4, 3) := by decide +kernel
theorem dX5_copy_9 : decode cX5_copy 9 = .ok (.aload_n 1, 1) := by decide +kernel
theorem dX5_copy_10 : decode cX5_copy 10 = .ok (.aload_n 0, 1) := by decide +kernel
theorem dX5_copy_11 : decode cX5_copy 11 = .ok (.getfield 11, 3) := by decide +kernel
theorem dX5_copy_14 : decode cX5_copy 14 = .ok (.putfield 11, 3) := by decide +kernel
theorem dX5_copy_17 : decode cX5_copy 17 = .ok (.aload_n 1, 1) := by decide +kernel
theorem dX5_copy_18 : decode cX5_copy 18 = .ok (.aload_n 0, 1) := by decide +kernel
theorem dX5_copy_19 : decode cX5_copy 19 = .ok (.getfield 15, 3) := by decide +kernel
theorem dX5_copy_22 : decode cX5_copy 22 = .ok (.putfield 15, 3) := by decide +kernel
theorem dX5_copy_25 : decode cX5_copy 25 = .ok (.aload_n 1, 1) := by decide +kernel
theorem dX5_copy_26 : decode cX5_copy 26 = .ok (.aload_n 0, 1) := by decide +kernel
theorem dX5_copy_27 : decode cX5_copy 27 = .ok (.getfield 18, 3) := by decide +kernel
theorem dX5_copy_30 : decode cX5_copy 30 = .ok (.putfield 18, 3) := by decide +kernel
theorem dX5_copy_33 : decode cX5_copy 33 = .ok (.aload_n 0, 1) := by decide +kernel
theorem dX5_copy_34 : decode cX5_copy 34 = .ok (.getfield 22, 3) := by decide +kernel
theorem dX5_copy_37 : decode cX5_copy 37 = .ok (.iconst 0, 1) := by decide +kernel
theorem dX5_copy_38 : decode cX5_copy 38 = .ok (.aload_n 1, 1) := by decide +kernel
theorem dX5_copy_39 : decode cX5_copy 39 = .ok (.getfield 22, 3) := by decide +kernel
theorem dX5_copy_42 : decode cX5_copy 42 = .ok (.iconst 0, 1) := by decide +kernel
theorem dX5_copy_43 : decode cX5_copy 43 = .ok (.bipush 60, 2) := by decide +kernel
theorem dX5_copy_45 : decode cX5_copy 45 = .ok (.invokestatic 38, 3) := by decide +kernel
theorem dX5_copy_48 : decode cX5_copy 48 = .ok (.aload_n 0, 1) := by decide +kernel
theorem dX5_copy_49 : decode cX5_copy 49 = .ok (.getfield 26, 3) := by decide +kernel
theorem dX5_copy_52 : decode cX5_copy 52 = .ok (.iconst 0, 1) := by decide +kernel
theorem dX5_copy_53 : decode cX5_copy 53 = .ok (.aload_n 1, 1) := by decide +kernel
theorem dX5_copy_54 : decode cX5_copy 54 = .ok (.getfield 26, 3) := by decide +kernel
theorem dX5_copy_57 : decode cX5_copy 57 = .ok (.iconst 0, 1) := by decide +kernel
theorem dX5_copy_58 : decode cX5_copy 58 = .ok (.bipush 60, 2) := by decide +kernel
theorem dX5_copy_60 : decode cX5_copy 60 = .ok (.invokestatic 38, 3) := by decide +kernel
theorem dX5_copy_63 : decode cX5_copy 63 = .ok (.aload_n 0, 1) := by decide +kernel
theorem dX5_copy_64 : decode cX5_copy 64 = .ok (.getfield 29, 3) := by decide +kernel
theorem dX5_copy_67 : decode cX5_copy 67 = .ok (.iconst 0, 1) := by decide +kernel
theorem dX5_copy_68 : decode cX5_copy 68 = .ok (.aload_n 1, 1) := by decide +kernel
theorem dX5_copy_69 : decode cX5_copy 69 = .ok (.getfield 29, 3) := by decide +kernel
theorem dX5_copy_72 : decode cX5_copy 72 = .ok (.iconst 0, 1) := by decide +kernel
theorem dX5_copy_73 : decode cX5_copy 73 = .ok (.bipush 60, 2) := by decide +kernel
theorem dX5_copy_75 : decode cX5_copy 75 = .ok (.invokestatic 38, 3) := by decide +kernel
theorem dX5_copy_78 : decode cX5_copy 78 = .ok (.aload_n 0, 1) := by decide +kernel
theorem dX5_copy_79 : decode cX5_copy 79 = .ok (.getfield 32, 3) := by decide +kernel
theorem dX5_copy_82 : decode cX5_copy 82 = .ok (.iconst 0, 1) := by decide +kernel
theorem dX5_copy_83 : decode cX5_copy 83 = .ok (.aload_n 1, 1) := by decide +kernel
theorem dX5_copy_84 : decode cX5_copy 84 = .ok (.getfield 32, 3) := by decide +kernel
theorem dX5_copy_87 : decode cX5_copy 87 = .ok (.iconst 0, 1) := by decide +kernel
theorem dX5_copy_88 : decode cX5_copy 88 = .ok (.bipush 60, 2) := by decide +kernel
theorem dX5_copy_90 : decode cX5_copy 90 = .ok (.invokestatic 38, 3) := by decide +kernel
theorem dX5_copy_93 : decode cX5_copy 93 = .ok (.aload_n 0, 1) := by decide +kernel
theorem dX5_copy_94 : decode cX5_copy 94 = .ok (.getfield 35, 3) := by decide +kernel
theorem dX5_copy_97 : decode cX5_copy 97 = .ok (.iconst 0, 1) := by decide +kernel
theorem dX5_copy_98 : decode cX5_copy 98 = .ok (.aload_n 1, 1) := by decide +kernel
theorem dX5_copy_99 : decode cX5_copy 99 = .ok (.getfield 35, 3) := by decide +kernel
theorem dX5_copy_102 : decode cX5_copy 102 = .ok (.iconst 0, 1) := by decide +kernel
theorem dX5_copy_103 : decode cX5_copy 103 = .ok (.bipush 60, 2) := by decide +kernel
theorem dX5_copy_105 : decode cX5_copy 105 = .ok (.invokestatic 38, 3) := by decide +kernel
theorem dX5_copy_108 : decode cX5_copy 108 = .ok (.return_, 1) := by decide +kernel
theorem dX5_featureAt_0 : decode cX5_featureAt 0 = .ok (.aload_n 0, 1) := by decide +kernel
theorem dX5_featureAt_1 : decode cX5_featureAt 1 = .ok (.getfield 26, 3) := by decide +kernel
theorem dX5_featureAt_4 : decode cX5_featureAt 4 = .ok (.iload_n 1, 1) := by decide +kernel
theorem dX5_featureAt_5 : decode cX5_featureAt 5 = .ok (.invokestatic 44, 3) := by decide +kernel
theorem dX5_featureAt_8 : decode cX5_featureAt 8 = .ok (.ireturn, 1) := by decide +kernel
theorem dX5_kindAt_0 : decode cX5_kindAt 0 = .ok (.iload_n 1, 1) := by decide +kernel
theorem dX5_kindAt_1 : decode cX5_kindAt 1 = .ok (.ifCond .lt 22, 3) := by decide +kernel
theorem dX5_kindAt_4 : decode cX5_kindAt 4 = .ok (.iload_n 1, 1) := by decide +kernel
theorem dX5_kindAt_5 : decode cX5_kindAt 5 = .ok (.aload_n 0, 1) := by decide +kernel
theorem dX5_kindAt_6 : decode cX5_kindAt 6 = .ok (.getfield 11, 3) := by decide +kernel
theorem dX5_kindAt_9 : decode cX5_kindAt 9 = .ok (.if_icmp .ge 14, 3) := by decide +kernel
theorem dX5_kindAt_12 : decode cX5_kindAt 12 = .ok (.aload_n 0, 1) := by decide +kernel
theorem dX5_kindAt_13 : decode cX5_kindAt 13 = .ok (.getfield 22, 3) := by decide +kernel
theorem dX5_kindAt_16 : decode cX5_kindAt 16 = .ok (.iload_n 1, 1) := by decide +kernel
theorem dX5_kindAt_17 : decode cX5_kindAt 17 = .ok (.invokestatic 44, 3) := by decide +kernel
theorem dX5_kindAt_20 : decode cX5_kindAt 20 = .ok (.goto 4, 3) := by decide +kernel
theorem dX5_kindAt_23 : decode cX5_kindAt 23 = .ok (.iconst (-1), 1) := by decide +kernel
theorem dX5_kindAt_24 : decode cX5_kindAt 24 = .ok (.ireturn, 1) := by decide +kernel
theorem dX5_numberAt_0 : decode cX5_numberAt 0 = .ok (.aload_n 0, 1) := by decide +kernel
theorem dX5_numberAt_1 : decode cX5_numberAt 1 = .ok (.getfield 32, 3) := by decide +kernel
theorem dX5_numberAt_4 : decode cX5_numberAt 4 = .ok (.iload_n 1, 1) := by decide +kernel
theorem dX5_numberAt_5 : decode cX5_numberAt 5 = .ok (.invokestatic 44, 3) := by decide +kernel
theorem dX5_numberAt_8 : decode cX5_numberAt 8 = .ok (.ireturn, 1) := by decide +kernel
theorem dX5_pair_0 : decode cX5_pair 0 = .ok (.aload_n 0, 1) := by decide +kernel
theorem dX5_pair_1 : decode cX5_pair 1 = .ok (.getfield 35, 3) := by decide +kernel
theorem dX5_pair_4 : decode cX5_pair 4 = .ok (.iload_n 1, 1) := by decide +kernel
theorem dX5_pair_5 : decode cX5_pair 5 = .ok (.iload_n 2, 1) := by decide +kernel
theorem dX5_pair_6 : decode cX5_pair 6 = .ok (.invokestatic 48, 3) := by decide +kernel
theorem dX5_pair_9 : decode cX5_pair 9 = .ok (.aload_n 0, 1) := by decide +kernel
theorem dX5_pair_10 : decode cX5_pair 10 = .ok (.getfield 35, 3) := by decide +kernel
theorem dX5_pair_13 : decode cX5_pair 13 = .ok (.iload_n 2, 1) := by decide +kernel
theorem dX5_pair_14 : decode cX5_pair 14 = .ok (.iload_n 1, 1) := by decide +kernel
theorem dX5_pair_15 : decode cX5_pair 15 = .ok (.invokestatic 48, 3) := by decide +kernel
theorem dX5_pair_18 : decode cX5_pair 18 = .ok (.return_, 1) := by decide +kernel
theorem dX5_partnerAt_0 : decode cX5_partnerAt 0 = .ok (.aload_n 0, 1) := by decide +kernel
theorem dX5_partnerAt_1 : decode cX5_partnerAt 1 = .ok (.getfield 35, 3) := by decide +kernel
theorem dX5_partnerAt_4 : decode cX5_partnerAt 4 = .ok (.iload_n 1, 1) := by decide +kernel
theorem dX5_partnerAt_5 : decode cX5_partnerAt 5 = .ok (.invokestatic 44, 3) := by decide +kernel
theorem dX5_partnerAt_8 : decode cX5_partnerAt 8 = .ok (.ireturn, 1) := by decide +kernel
theorem dX6_beginBlock_0 : decode cX6_beginBlock 0 = .ok (.aload_n 0, 1) := by decide +kernel
theorem dX6_beginBlock_1 : decode cX6_beginBlock 1 = .ok (.getfield 18, 3) := by decide +kernel
theorem dX6_beginBlock_4 : decode cX6_beginBlock 4 = .ok (.aload_n 0, 1) := by decide +kernel
theorem dX6_beginBlock_5 : decode cX6_beginBlock 5 = .ok (.getfield 33, 3) := by decide +kernel
theorem dX6_beginBlock_8 : decode cX6_beginBlock 8 = .ok (.aload_n 0, 1) := by decide +kernel
theorem dX6_beginBlock_9 : decode cX6_beginBlock 9 = .ok (.getfield 12, 3) := by decide +kernel
theorem dX6_beginBlock_12 : decode cX6_beginBlock 12 = .ok (.getfield 99, 3) := by decide +kernel
theorem dX6_beginBlock_15 : decode cX6_beginBlock 15 = .ok (.iconst 1, 1) := by decide +kernel
theorem dX6_beginBlock_16 : decode cX6_beginBlock 16 = .ok (.isub, 1) := by decide +kernel
theorem dX6_beginBlock_17 : decode cX6_beginBlock 17 = .ok (.invokestatic 102, 3) := by decide +kernel
theorem dX6_beginBlock_20 : decode cX6_beginBlock 20 = .ok (.aload_n 0, 1) := by decide +kernel
theorem dX6_beginBlock_21 : decode cX6_beginBlock 21 = .ok (.dup, 1) := by decide +kernel
theorem dX6_beginBlock_22 : decode cX6_beginBlock 22 = .ok (.getfield 33, 3) := by decide +kernel
theorem dX6_beginBlock_25 : decode cX6_beginBlock 25 = .ok (.iconst 1, 1) := by decide +kernel
theorem dX6_beginBlock_26 : decode cX6_beginBlock 26 = .ok (.iadd, 1) := by decide +kernel
theorem dX6_beginBlock_27 : decode cX6_beginBlock 27 = .ok (.putfield 33, 3) := by decide +kernel
theorem dX6_beginBlock_30 : decode cX6_beginBlock 30 = .ok (.aload_n 0, 1) := by decide +kernel
theorem dX6_beginBlock_31 : decode cX6_beginBlock 31 = .ok (.getfield 22, 3) := by decide +kernel
theorem dX6_beginBlock_34 : decode cX6_beginBlock 34 = .ok (.bipush 59, 2) := by decide +kernel
theorem dX6_beginBlock_36 : decode cX6_beginBlock 36 = .ok (.invokevirtual 95, 3) := by decide +kernel
theorem dX6_beginBlock_39 : decode cX6_beginBlock 39 = .ok (.ireturn, 1) := by decide +kernel
theorem dX6_plainKind_0 : decode cX6_plainKind 0 = .ok (.aload_n 0, 1) := by decide +kernel
theorem dX6_plainKind_1 : decode cX6_plainKind 1 = .ok (.getfield 22, 3) := by decide +kernel
theorem dX6_plainKind_4 : decode cX6_plainKind 4 = .ok (.ldc 106, 2) := by decide +kernel
theorem dX6_plainKind_6 : decode cX6_plainKind 6 = .ok (.invokevirtual 55, 3) := by decide +kernel
theorem dX6_plainKind_9 : decode cX6_plainKind 9 = .ok (.ifCond .eq 5, 3) := by decide +kernel
theorem dX6_plainKind_12 : decode cX6_plainKind 12 = .ok (.iconst 0, 1) := by decide +kernel
theorem dX6_plainKind_13 : decode cX6_plainKind 13 = .ok (.ireturn, 1) := by decide +kernel
theorem dX6_plainKind_14 : decode cX6_plainKind 14 = .ok (.aload_n 0, 1) := by decide +kernel
theorem dX6_plainKind_15 : decode cX6_plainKind 15 = .ok (.getfield 22, 3) := by decide +kernel
theorem dX6_plainKind_18 : decode cX6_plainKind 18 = .ok (.ldc 108, 2) := by decide +kernel
theorem dX6_plainKind_20 : decode cX6_plainKind 20 = .ok (.invokevirtual 55, 3) := by decide +kernel
theorem dX6_plainKind_23 : decode cX6_plainKind 23 = .ok (.ifCond .eq 5, 3) := by decide +kernel
theorem dX6_plainKind_26 : decode cX6_plainKind 26 = .ok (.iconst 1, 1) := by decide +kernel
theorem dX6_plainKind_27 : decode cX6_plainKind 27 = .ok (.ireturn, 1) := by decide +kernel
theorem dX6_plainKind_28 : decode cX6_plainKind 28 = .ok (.aload_n 0, 1) := by decide +kernel
theorem dX6_plainKind_29 : decode cX6_plainKind 29 = .ok (.getfield 22, 3) := by decide +kernel
theorem dX6_plainKind_32 : decode cX6_plainKind 32 = .ok (.ldc 110, 2) := by decide +kernel
theorem dX6_plainKind_34 : decode cX6_plainKind 34 = .ok (.invokevirtual 55, 3) := by decide +kernel
theorem dX6_plainKind_37 : decode cX6_plainKind 37 = .ok (.ifCond .eq 5, 3) := by decide +kernel
theorem dX6_plainKind_40 : decode cX6_plainKind 40 = .ok (.iconst 2, 1) := by decide +kernel
theorem dX6_plainKind_41 : decode cX6_plainKind 41 = .ok (.ireturn, 1) := by decide +kernel
theorem dX6_plainKind_42 : decode cX6_plainKind 42 = .ok (.aload_n 0, 1) := by decide +kernel
theorem dX6_plainKind_43 : decode cX6_plainKind 43 = .ok (.getfield 22, 3) := by decide +kernel
theorem dX6_plainKind_46 : decode cX6_plainKind 46 = .ok (.ldc 112, 2) := by decide +kernel
theorem dX6_plainKind_48 : decode cX6_plainKind 48 = .ok (.invokevirtual 55, 3) := by decide +kernel
theorem dX6_plainKind_51 : decode cX6_plainKind 51 = .ok (.ifCond .eq 5, 3) := by decide +kernel
theorem dX6_plainKind_54 : decode cX6_plainKind 54 = .ok (.iconst 3, 1) := by decide +kernel
theorem dX6_plainKind_55 : decode cX6_plainKind 55 = .ok (.ireturn, 1) := by decide +kernel
theorem dX6_plainKind_56 : decode cX6_plainKind 56 = .ok (.aload_n 0, 1) := by decide +kernel
theorem dX6_plainKind_57 : decode cX6_plainKind 57 = .ok (.getfield 22, 3) := by decide +kernel
theorem dX6_plainKind_60 : decode cX6_plainKind 60 = .ok (.ldc 114, 2) := by decide +kernel
theorem dX6_plainKind_62 : decode cX6_plainKind 62 = .ok (.invokevirtual 55, 3) := by decide +kernel
theorem dX6_plainKind_65 : decode cX6_plainKind 65 = .ok (.ifCond .eq 5, 3) := by decide +kernel
theorem dX6_plainKind_68 : decode cX6_plainKind 68 = .ok (.iconst 4, 1) := by decide +kernel
theorem dX6_plainKind_69 : decode cX6_plainKind 69 = .ok (.ireturn, 1) := by decide +kernel
theorem dX6_plainKind_70 : decode cX6_plainKind 70 = .ok (.aload_n 0, 1) := by decide +kernel
theorem dX6_plainKind_71 : decode cX6_plainKind 71 = .ok (.getfield 22, 3) := by decide +kernel
theorem dX6_plainKind_74 : decode cX6_plainKind 74 = .ok (.ldc 116, 2) := by decide +kernel
theorem dX6_plainKind_76 : decode cX6_plainKind 76 = .ok (.invokevirtual 55, 3) := by decide +kernel
theorem dX6_plainKind_79 : decode cX6_plainKind 79 = .ok (.ifCond .eq 7, 3) := by decide +kernel
theorem dX6_plainKind_82 : decode cX6_plainKind 82 = .ok (.iconst 5, 1) := by decide +kernel
theorem dX6_plainKind_83 : decode cX6_plainKind 83 = .ok (.goto 4, 3) := by decide +kernel
theorem dX6_plainKind_86 : decode cX6_plainKind 86 = .ok (.iconst (-1), 1) := by decide +kernel
theorem dX6_plainKind_87 : decode cX6_plainKind 87 = .ok (.ireturn, 1) := by decide +kernel
theorem dX6_readAll_0 : decode cX6_readAll 0 = .ok (.aload_n 0, 1) := by decide +kernel
theorem dX6_readAll_1 : decode cX6_readAll 1 = .ok (.getfield 12, 3) := by decide +kernel
theorem dX6_readAll_4 : decode cX6_readAll 4 = .ok (.invokevirtual 30, 3) := by decide +kernel
theorem dX6_readAll_7 : decode cX6_readAll 7 = .ok (.aload_n 0, 1) := by decide +kernel
theorem dX6_readAll_8 : decode cX6_readAll 8 = .ok (.iconst 0, 1) := by decide +kernel
theorem dX6_readAll_9 : decode cX6_readAll 9 = .ok (.putfield 33, 3) := by decide +kernel
theorem dX6_readAll_12 : decode cX6_readAll 12 = .ok (.iconst 0, 1) := by decide +kernel
theorem dX6_readAll_13 : decode cX6_readAll 13 = .ok (.istore_n 1, 1) := by decide +kernel
theorem dX6_readAll_14 : decode cX6_readAll 14 = .ok (.iload_n 1, 1) := by decide +kernel
theorem dX6_readAll_15 : decode cX6_readAll 15 = .ok (.sipush 300, 3) := by decide +kernel
theorem dX6_readAll_18 : decode cX6_readAll 18 = .ok (.if_icmp .ge 24, 3) := by decide +kernel
theorem dX6_readAll_21 : decode cX6_readAll 21 = .ok (.aload_n 0, 1) := by decide +kernel
theorem dX6_readAll_22 : decode cX6_readAll 22 = .ok (.getfield 22, 3) := by decide +kernel
theorem dX6_readAll_25 : decode cX6_readAll 25 = .ok (.invokevirtual 37, 3) := by decide +kernel
theorem dX6_readAll_28 : decode cX6_readAll 28 = .ok (.ifCond .eq 14, 3) := by decide +kernel
theorem dX6_readAll_31 : decode cX6_readAll 31 = .ok (.aload_n 0, 1) := by decide +kernel
theorem dX6_readAll_32 : decode cX6_readAll 32 = .ok (.invokevirtual 43, 3) := by decide +kernel
theorem dX6_readAll_35 : decode cX6_readAll 35 = .ok (.pop, 1) := by decide +kernel
theorem dX6_readAll_36 : decode cX6_readAll 36 = .ok (.iinc 1 1, 3) := by decide +kernel
theorem dX6_readAll_39 : decode cX6_readAll 39 = .ok (.goto (-25), 3) := by decide +kernel
theorem dX6_readAll_42 : decode cX6_readAll 42 = .ok (.aload_n 0, 1) := by decide +kernel
theorem dX6_readAll_43 : decode cX6_readAll 43 = .ok (.getfield 22, 3) := by decide +kernel
theorem dX6_readAll_46 : decode cX6_readAll 46 = .ok (.getfield 46, 3) := by decide +kernel
theorem dX6_readAll_49 : decode cX6_readAll 49 = .ok (.ifCond .ne 19, 3) := by decide +kernel
theorem dX6_readAll_52 : decode cX6_readAll 52 = .ok (.aload_n 0, 1) := by decide +kernel
theorem dX6_readAll_53 : decode cX6_readAll 53 = .ok (.getfield 33, 3) := by decide +kernel
theorem dX6_readAll_56 : decode cX6_readAll 56 = .ok (.ifCond .le 12, 3) := by decide +kernel
theorem dX6_readAll_59 : decode cX6_readAll 59 = .ok (.aload_n 0, 1) := by decide +kernel
theorem dX6_readAll_60 : decode cX6_readAll 60 = .ok (.getfield 22, 3) := by decide +kernel
theorem dX6_readAll_63 : decode cX6_readAll 63 = .ok (.iconst 2, 1) := by decide +kernel
theorem dX6_readAll_64 : decode cX6_readAll 64 = .ok (.invokevirtual 49, 3) := by decide +kernel
theorem dX6_readAll_67 : decode cX6_readAll 67 = .ok (.ireturn, 1) := by decide +kernel
theorem dX6_readAll_68 : decode cX6_readAll 68 = .ok (.aload_n 0, 1) := by decide +kernel
theorem dX6_readAll_69 : decode cX6_readAll 69 = .ok (.getfield 22, 3) := by decide +kernel
theorem dX6_readAll_72 : decode cX6_readAll 72 = .ok (.getfield 46, 3) := by decide +kernel
theorem dX6_readAll_75 : decode cX6_readAll 75 = .ok (.ifCond .ne 7, 3) := by decide +kernel
theorem dX6_readAll_78 : decode cX6_readAll 78 = .ok (.iconst 1, 1) := by decide +kernel
theorem dX6_readAll_79 : decode cX6_readAll 79 = .ok (.goto 4, 3) := by decide +kernel
theorem dX6_readAll_82 : decode cX6_readAll 82 = .ok (.iconst 0, 1) := by decide +kernel
theorem dX6_readAll_83 : decode cX6_readAll 83 = .ok (.ireturn, 1) := by decide +kernel
theorem dX6_readEnd_0 : decode cX6_readEnd 0 = .ok (.aload_n 0, 1) := by decide +kernel
theorem dX6_readEnd_1 : decode cX6_readEnd 1 = .ok (.getfield 33, 3) := by decide +kernel
theorem dX6_readEnd_4 : decode cX6_readEnd 4 = .ok (.ifCond .gt 12, 3) := by decide +kernel
theorem dX6_readEnd_7 : decode cX6_readEnd 7 = .ok (.aload_n 0, 1) := by decide +kernel
theorem dX6_readEnd_8 : decode cX6_readEnd 8 = .ok (.getfield 22, 3) := by decide +kernel
theorem dX6_readEnd_11 : decode cX6_readEnd 11 = .ok (.iconst 2, 1) := by decide +kernel
theorem dX6_readEnd_12 : decode cX6_readEnd 12 = .ok (.invokevirtual 49, 3) := by decide +kernel
theorem dX6_readEnd_15 : decode cX6_readEnd 15 = .ok (.ireturn, 1) := by decide +kernel
theorem dX6_readEnd_16 : decode cX6_readEnd 16 = .ok (.aload_n 0, 1) := by decide +kernel
theorem dX6_readEnd_17 : decode cX6_readEnd 17 = .ok (.getfield 22, 3) := by decide +kernel
theorem dX6_readEnd_20 : decode cX6_readEnd 20 = .ok (.invokevirtual 73, 3) := by decide +kernel
theorem dX6_readEnd_23 : decode cX6_readEnd 23 = .ok (.aload_n 0, 1) := by decide +kernel
theorem dX6_readEnd_24 : decode cX6_readEnd 24 = .ok (.dup, 1) := by decide +kernel
theorem dX6_readEnd_25 : decode cX6_readEnd 25 = .ok (.getfield 33, 3) := by decide +kernel
theorem dX6_readEnd_28 : decode cX6_readEnd 28 = .ok (.iconst 1, 1) := by decide +kernel
theorem dX6_readEnd_29 : decode cX6_readEnd 29 = .ok (.isub, 1) := by decide +kernel
theorem dX6_readEnd_30 : decode cX6_readEnd 30 = .ok (.putfield 33, 3) := by decide +kernel
theorem dX6_readEnd_33 : decode cX6_readEnd 33 = .ok (.aload_n 0, 1) := by decide +kernel
theorem dX6_readEnd_34 : decode cX6_readEnd 34 = .ok (.getfield 12, 3) := by decide +kernel
theorem dX6_readEnd_37 : decode cX6_readEnd 37 = .ok (.bipush 10, 2) := by decide +kernel
theorem dX6_readEnd_39 : decode cX6_readEnd 39 = .ok (.iconst (-1), 1) := by decide +kernel
theorem dX6_readEnd_40 : decode cX6_readEnd 40 = .ok (.iconst 0, 1) := by decide +kernel
theorem dX6_readEnd_41 : decode cX6_readEnd 41 = .ok (.iconst 0, 1) := by decide +kernel
theorem dX6_readEnd_42 : decode cX6_readEnd 42 = .ok (.invokevirtual 91, 3) := by decide +kernel
theorem dX6_readEnd_45 : decode cX6_readEnd 45 = .ok (.aload_n 0, 1) := by decide +kernel
theorem dX6_readEnd_46 : decode cX6_readEnd 46 = .ok (.getfield 12, 3) := by decide +kernel
theorem dX6_readEnd_49 : decode cX6_readEnd 49 = .ok (.aload_n 0, 1) := by decide +kernel
theorem dX6_readEnd_50 : decode cX6_readEnd 50 = .ok (.getfield 18, 3) := by decide +kernel
theorem dX6_readEnd_53 : decode cX6_readEnd 53 = .ok (.aload_n 0, 1) := by decide +kernel
theorem dX6_readEnd_54 : decode cX6_readEnd 54 = .ok (.getfield 33, 3) := by decide +kernel
theorem dX6_readEnd_57 : decode cX6_readEnd 57 = .ok (.invokestatic 147, 3) := by decide +kernel
theorem dX6_readEnd_60 : decode cX6_readEnd 60 = .ok (.aload_n 0, 1) := by decide +kernel
theorem dX6_readEnd_61 : decode cX6_readEnd 61 = .ok (.getfield 12, 3) := by decide +kernel
theorem dX6_readEnd_64 : decode cX6_readEnd 64 = .ok (.getfield 99, 3) := by decide +kernel
theorem dX6_readEnd_67 : decode cX6_readEnd 67 = .ok (.iconst 1, 1) := by decide +kernel
theorem dX6_readEnd_68 : decode cX6_readEnd 68 = .ok (.isub, 1) := by decide +kernel
theorem dX6_readEnd_69 : decode cX6_readEnd 69 = .ok (.invokevirtual 151, 3) := by decide +kernel
theorem dX6_readEnd_72 : decode cX6_readEnd 72 = .ok (.aload_n 0, 1) := by decide +kernel
theorem dX6_readEnd_73 : decode cX6_readEnd 73 = .ok (.getfield 22, 3) := by decide +kernel
theorem dX6_readEnd_76 : decode cX6_readEnd 76 = .ok (.bipush 59, 2) := by decide +kernel
theorem dX6_readEnd_78 : decode cX6_readEnd 78 = .ok (.invokevirtual 95, 3) := by decide +kernel
theorem dX6_readEnd_81 : decode cX6_readEnd 81 = .ok (.ireturn, 1) := by decide +kernel
theorem dX6_readLoop_0 : decode cX6_readLoop 0 = .ok (.aload_n 0, 1) := by decide +kernel
theorem dX6_readLoop_1 : decode cX6_readLoop 1 = .ok (.getfield 22, 3) := by decide +kernel
theorem dX6_readLoop_4 : decode cX6_readLoop 4 = .ok (.iconst 1, 1) := by decide +kernel
theorem dX6_readLoop_5 : decode cX6_readLoop 5 = .ok (.bipush 9, 2) := by decide +kernel
theorem dX6_readLoop_7 : decode cX6_readLoop 7 = .ok (.invokevirtual 118, 3) := by decide +kernel
theorem dX6_readLoop_10 : decode cX6_readLoop 10 = .ok (.istore_n 1, 1) := by decide +kernel
theorem dX6_readLoop_11 : decode cX6_readLoop 11 = .ok (.iload_n 1, 1) := by decide +kernel
theorem dX6_readLoop_12 : decode cX6_readLoop 12 = .ok (.iconst (-1), 1) := by decide +kernel
theorem dX6_readLoop_13 : decode cX6_readLoop 13 = .ok (.if_icmp .ne 5, 3) := by decide +kernel
theorem dX6_readLoop_16 : decode cX6_readLoop 16 = .ok (.iconst 0, 1) := by decide +kernel
theorem dX6_readLoop_17 : decode cX6_readLoop 17 = .ok (.ireturn, 1) := by decide +kernel
theorem dX6_readLoop_18 : decode cX6_readLoop 18 = .ok (.aload_n 0, 1) := by decide +kernel
theorem dX6_readLoop_19 : decode cX6_readLoop 19 = .ok (.getfield 12, 3) := by decide +kernel
theorem dX6_readLoop_22 : decode cX6_readLoop 22 = .ok (.bipush 9, 2) := by decide +kernel
theorem dX6_readLoop_24 : decode cX6_readLoop 24 = .ok (.iconst (-1), 1) := by decide +kernel
theorem dX6_readLoop_25 : decode cX6_readLoop 25 = .ok (.iconst 0, 1) := by decide +kernel
theorem dX6_readLoop_26 : decode cX6_readLoop 26 = .ok (.iload_n 1, 1) := by decide +kernel
theorem dX6_readLoop_27 : decode cX6_readLoop 27 = .ok (.invokevirtual 91, 3) := by decide +kernel
theorem dX6_readLoop_30 : decode cX6_readLoop 30 = .ok (.iconst 1, 1) := by decide +kernel
theorem dX6_readLoop_31 : decode cX6_readLoop 31 = .ok (.ireturn, 1) := by decide +kernel
theorem dX6_readPlain_0 : decode cX6_readPlain 0 = .ok (.iconst (-1), 1) := by decide +kernel
theorem dX6_readPlain_1 : decode cX6_readPlain 1 = .ok (.istore_n 2, 1) := by decide +kernel
theorem dX6_readPlain_2 : decode cX6_readPlain 2 = .ok (.iload_n 1, 1) := by decide +kernel
theorem dX6_readPlain_3 : decode cX6_readPlain 3 = .ok (.ifCond .ne 15, 3) := by decide +kernel
theorem dX6_readPlain_6 : decode cX6_readPlain 6 = .ok (.aload_n 0, 1) := by decide +kernel
theorem dX6_readPlain_7 : decode cX6_readPlain 7 = .ok (.invokevirtual 88, 3) := by decide +kernel
theorem dX6_readPlain_10 : decode cX6_readPlain 10 = .ok (.istore_n 2, 1) := by decide +kernel
theorem dX6_readPlain_11 : decode cX6_readPlain 11 = .ok (.iload_n 2, 1) := by decide +kernel
theorem dX6_readPlain_12 : decode cX6_readPlain 12 = .ok (.iconst (-1), 1) := by decide +kernel
theorem dX6_readPlain_13 : decode cX6_readPlain 13 = .ok (.if_icmp .ne 5, 3) := by decide +kernel
theorem dX6_readPlain_16 : decode cX6_readPlain 16 = .ok (.iconst 0, 1) := by decide +kernel
theorem dX6_readPlain_17 : decode cX6_readPlain 17 = .ok (.ireturn, 1) := by decide +kernel
theorem dX6_readPlain_18 : decode cX6_readPlain 18 = .ok (.aload_n 0, 1) := by decide +kernel
theorem dX6_readPlain_19 : decode cX6_readPlain 19 = .ok (.getfield 12, 3) := by decide +kernel
theorem dX6_readPlain_22 : decode cX6_readPlain 22 = .ok (.iload_n 1, 1) := by decide +kernel
theorem dX6_readPlain_23 : decode cX6_readPlain 23 = .ok (.iload_n 2, 1) := by decide +kernel
theorem dX6_readPlain_24 : decode cX6_readPlain 24 = .ok (.iconst 0, 1) := by decide +kernel
theorem dX6_readPlain_25 : decode cX6_readPlain 25 = .ok (.iconst 0, 1) := by decide +kernel
theorem dX6_readPlain_26 : decode cX6_readPlain 26 = .ok (.invokevirtual 91, 3) := by decide +kernel
theorem dX6_readPlain_29 : decode cX6_readPlain 29 = .ok (.aload_n 0, 1) := by decide +kernel
theorem dX6_readPlain_30 : decode cX6_readPlain 30 = .ok (.getfield 22, 3) := by decide +kernel
theorem dX6_readPlain_33 : decode cX6_readPlain 33 = .ok (.bipush 59, 2) := by decide +kernel
theorem dX6_readPlain_35 : decode cX6_readPlain 35 = .ok (.invokevirtual 95, 3) := by decide +kernel
theorem dX6_readPlain_38 : decode cX6_readPlain 38 = .ok (.ireturn, 1) := by decide +kernel
theorem dX6_readStep_0 : decode cX6_readStep 0 = .ok (.aload_n 0, 1) := by decide +kernel
theorem dX6_readStep_1 : decode cX6_readStep 1 = .ok (.getfield 22, 3) := by decide +kernel
theorem dX6_readStep_4 : decode cX6_readStep 4 = .ok (.ldc 53, 2) := by decide +kernel
theorem dX6_readStep_6 : decode cX6_readStep 6 = .ok (.invokevirtual 55, 3) := by decide +kernel
theorem dX6_readStep_9 : decode cX6_readStep 9 = .ok (.ifCond .eq 8, 3) := by decide +kernel
theorem dX6_readStep_12 : decode cX6_readStep 12 = .ok (.aload_n 0, 1) := by decide +kernel
theorem dX6_readStep_13 : decode cX6_readStep 13 = .ok (.invokevirtual 59, 3) := by decide +kernel
theorem dX6_readStep_16 : decode cX6_readStep 16 = .ok (.ireturn, 1) := by decide +kernel
theorem dX6_readStep_17 : decode cX6_readStep 17 = .ok (.aload_n 0, 1) := by decide +kernel
theorem dX6_readStep_18 : decode cX6_readStep 18 = .ok (.getfield 22, 3) := by decide +kernel
theorem dX6_readStep_21 : decode cX6_readStep 21 = .ok (.ldc 62, 2) := by decide +kernel
theorem dX6_readStep_23 : decode cX6_readStep 23 = .ok (.invokevirtual 55, 3) := by decide +kernel
theorem dX6_readStep_26 : decode cX6_readStep 26 = .ok (.istore_n 1, 1) := by decide +kernel
theorem dX6_readStep_27 : decode cX6_readStep 27 = .ok (.iload_n 1, 1) := by decide +kernel
theorem dX6_readStep_28 : decode cX6_readStep 28 = .ok (.ifCond .ne 15, 3) := by decide +kernel
theorem dX6_readStep_31 : decode cX6_readStep 31 = .ok (.aload_n 0, 1) := by decide +kernel
theorem dX6_readStep_32 : decode cX6_readStep 32 = .ok (.getfield 22, 3) := by decide +kernel
theorem dX6_readStep_35 : decode cX6_readStep 35 = .ok (.ldc 64, 2) := by decide +kernel
theorem dX6_readStep_37 : decode cX6_readStep 37 = .ok (.invokevirtual 55, 3) := by decide +kernel
theorem dX6_readStep_40 : decode cX6_readStep 40 = .ok (.ifCond .eq 7, 3) := by decide +kernel
theorem dX6_readStep_43 : decode cX6_readStep 43 = .ok (.iconst 1, 1) := by decide +kernel
theorem dX6_readStep_44 : decode cX6_readStep 44 = .ok (.goto 4, 3) := by decide +kernel
theorem dX6_readStep_47 : decode cX6_readStep 47 = .ok (.iconst 0, 1) := by decide +kernel
theorem dX6_readStep_48 : decode cX6_readStep 48 = .ok (.istore_n 2, 1) := by decide +kernel
theorem dX6_readStep_49 : decode cX6_readStep 49 = .ok (.aload_n 0, 1) := by decide +kernel
theorem dX6_readStep_50 : decode cX6_readStep 50 = .ok (.invokevirtual 66, 3) := by decide +kernel
theorem dX6_readStep_53 : decode cX6_readStep 53 = .ok (.istore_n 3, 1) := by decide +kernel
theorem dX6_readStep_54 : decode cX6_readStep 54 = .ok (.iload_n 2, 1) := by decide +kernel
theorem dX6_readStep_55 : decode cX6_readStep 55 = .ok (.ifCond .ne 17, 3) := by decide +kernel
theorem dX6_readStep_58 : decode cX6_readStep 58 = .ok (.iload_n 3, 1) := by decide +kernel
theorem dX6_readStep_59 : decode cX6_readStep 59 = .ok (.iconst (-1), 1) := by decide +kernel
theorem dX6_readStep_60 : decode cX6_readStep 60 = .ok (.if_icmp .ne 12, 3) := by decide +kernel
theorem dX6_readStep_63 : decode cX6_readStep 63 = .ok (.aload_n 0, 1) := by decide +kernel
theorem dX6_readStep_64 : decode cX6_readStep 64 = .ok (.getfield 22, 3) := by decide +kernel
theorem dX6_readStep_67 : decode cX6_readStep 67 = .ok (.iconst 2, 1) := by decide +kernel
theorem dX6_readStep_68 : decode cX6_readStep 68 = .ok (.invokevirtual 49, 3) := by decide +kernel
theorem dX6_readStep_71 : decode cX6_readStep 71 = .ok (.ireturn, 1) := by decide +kernel
theorem dX6_readStep_72 : decode cX6_readStep 72 = .ok (.aload_n 0, 1) := by decide +kernel
theorem dX6_readStep_73 : decode cX6_readStep 73 = .ok (.getfield 12, 3) := by decide +kernel
theorem dX6_readStep_76 : decode cX6_readStep 76 = .ok (.getfield 70, 3) := by decide +kernel
theorem dX6_readStep_79 : decode cX6_readStep 79 = .ok (.bipush 30, 2) := by decide +kernel
theorem dX6_readStep_81 : decode cX6_readStep 81 = .ok (.if_icmp .lt 13, 3) := by decide +kernel
theorem dX6_readStep_84 : decode cX6_readStep 84 = .ok (.aload_n 0, 1) := by decide +kernel
theorem dX6_readStep_85 : decode cX6_readStep 85 = .ok (.getfield 22, 3) := by decide +kernel
theorem dX6_readStep_88 : decode cX6_readStep 88 = .ok (.bipush 6, 2) := by decide +kernel
theorem dX6_readStep_90 : decode cX6_readStep 90 = .ok (.invokevirtual 49, 3) := by decide +kernel
theorem dX6_readStep_93 : decode cX6_readStep 93 = .ok (.ireturn, 1) := by decide +kernel
theorem dX6_readStep_94 : decode cX6_readStep 94 = .ok (.iload_n 2, 1) := by decide +kernel
theorem dX6_readStep_95 : decode cX6_readStep 95 = .ok (.ifCond .eq 21, 3) := by decide +kernel
theorem dX6_readStep_98 : decode cX6_readStep 98 = .ok (.aload_n 0, 1) := by decide +kernel
theorem dX6_readStep_99 : decode cX6_readStep 99 = .ok (.getfield 33, 3) := by decide +kernel
theorem dX6_readStep_102 : decode cX6_readStep 102 = .ok (.iconst 3, 1) := by decide +kernel
theorem dX6_readStep_103 : decode cX6_readStep 103 = .ok (.if_icmp .lt 13, 3) := by decide +kernel
theorem dX6_readStep_106 : decode cX6_readStep 106 = .ok (.aload_n 0, 1) := by decide +kernel
theorem dX6_readStep_107 : decode cX6_readStep 107 = .ok (.getfield 22, 3) := by decide +kernel
theorem dX6_readStep_110 : decode cX6_readStep 110 = .ok (.bipush 7, 2) := by decide +kernel
theorem dX6_readStep_112 : decode cX6_readStep 112 = .ok (.invokevirtual 49, 3) := by decide +kernel
theorem dX6_readStep_115 : decode cX6_readStep 115 = .ok (.ireturn, 1) := by decide +kernel
theorem dX6_readStep_116 : decode cX6_readStep 116 = .ok (.aload_n 0, 1) := by decide +kernel
theorem dX6_readStep_117 : decode cX6_readStep 117 = .ok (.getfield 22, 3) := by decide +kernel
theorem dX6_readStep_120 : decode cX6_readStep 120 = .ok (.invokevirtual 73, 3) := by decide +kernel
theorem dX6_readStep_123 : decode cX6_readStep 123 = .ok (.iload_n 1, 1) := by decide +kernel
theorem dX6_readStep_124 : decode cX6_readStep 124 = .ok (.ifCond .eq 23, 3) := by decide +kernel
theorem dX6_readStep_127 : decode cX6_readStep 127 = .ok (.aload_n 0, 1) := by decide +kernel
theorem dX6_readStep_128 : decode cX6_readStep 128 = .ok (.invokevirtual 76, 3) := by decide +kernel
theorem dX6_readStep_131 : decode cX6_readStep 131 = .ok (.ifCond .eq 14, 3) := by decide +kernel
theorem dX6_readStep_134 : decode cX6_readStep 134 = .ok (.aload_n 0, 1) := by decide +kernel
theorem dX6_readStep_135 : decode cX6_readStep 135 = .ok (.invokevirtual 79, 3) := by decide +kernel
theorem dX6_readStep_138 : decode cX6_readStep 138 = .ok (.ifCond .eq 7, 3) := by decide +kernel
theorem dX6_readStep_141 : decode cX6_readStep 141 = .ok (.iconst 1, 1) := by decide +kernel
theorem dX6_readStep_142 : decode cX6_readStep 142 = .ok (.goto 4, 3) := by decide +kernel
theorem dX6_readStep_145 : decode cX6_readStep 145 = .ok (.iconst 0, 1) := by decide +kernel
theorem dX6_readStep_146 : decode cX6_readStep 146 = .ok (.ireturn, 1) := by decide +kernel
theorem dX6_readStep_147 : decode cX6_readStep 147 = .ok (.iload_n 2, 1) := by decide +kernel
theorem dX6_readStep_148 : decode cX6_readStep 148 = .ok (.ifCond .eq 25, 3) := by decide +kernel
theorem dX6_readStep_151 : decode cX6_readStep 151 = .ok (.aload_n 0, 1) := by decide +kernel
theorem dX6_readStep_152 : decode cX6_readStep 152 = .ok (.invokevirtual 82, 3) := by decide +kernel
theorem dX6_readStep_155 : decode cX6_readStep 155 = .ok (.ifCond .eq 14, 3) := by decide +kernel
theorem dX6_readStep_158 : decode cX6_readStep 158 = .ok (.aload_n 0, 1) := by decide +kernel
theorem dX6_readStep_159 : decode cX6_readStep 159 = .ok (.invokevirtual 79, 3) := by decide +kernel
theorem dX6_readStep_162 : decode cX6_readStep 162 = .ok (.ifCond .eq 7, 3) := by decide +kernel
theorem dX6_readStep_165 : decode cX6_readStep 165 = .ok (.iconst 1, 1) := by decide +kernel
theorem dX6_readStep_166 : decode cX6_readStep 166 = .ok (.goto 12, 3) := by decide +kernel
theorem dX6_readStep_169 : decode cX6_readStep 169 = .ok (.iconst 0, 1) := by decide +kernel
theorem dX6_readStep_170 : decode cX6_readStep 170 = .ok (.goto 8, 3) := by decide +kernel
theorem dX6_readStep_173 : decode cX6_readStep 173 = .ok (.aload_n 0, 1) := by decide +kernel
theorem dX6_readStep_174 : decode cX6_readStep 174 = .ok (.iload_n 3, 1) := by decide +kernel
theorem dX6_readStep_175 : decode cX6_readStep 175 = .ok (.invokevirtual 85, 3) := by decide +kernel
theorem dX6_readStep_178 : decode cX6_readStep 178 = .ok (.ireturn, 1) := by decide +kernel
theorem dX6_readWhen_0 : decode cX6_readWhen 0 = .ok (.aload_n 0, 1) := by decide +kernel
theorem dX6_readWhen_1 : decode cX6_readWhen 1 = .ok (.getfield 22, 3) := by decide +kernel
theorem dX6_readWhen_4 : decode cX6_readWhen 4 = .ok (.ldc 122, 2) := by decide +kernel
theorem dX6_readWhen_6 : decode cX6_readWhen 6 = .ok (.invokevirtual 55, 3) := by decide +kernel
theorem dX6_readWhen_9 : decode cX6_readWhen 9 = .ok (.ifCond .eq 68, 3) := by decide +kernel
theorem dX6_readWhen_12 : decode cX6_readWhen 12 = .ok (.aload_n 0, 1) := by decide +kernel
theorem dX6_readWhen_13 : decode cX6_readWhen 13 = .ok (.getfield 22, 3) := by decide +kernel
theorem dX6_readWhen_16 : decode cX6_readWhen 16 = .ok (.invokevirtual 73, 3) := by decide +kernel
theorem dX6_readWhen_19 : decode cX6_readWhen 19 = .ok (.aload_n 0, 1) := by decide +kernel
theorem dX6_readWhen_20 : decode cX6_readWhen 20 = .ok (.invokevirtual 88, 3) := by decide +kernel
theorem dX6_readWhen_23 : decode cX6_readWhen 23 = .ok (.istore_n 1, 1) := by decide +kernel
theorem dX6_readWhen_24 : decode cX6_readWhen 24 = .ok (.iload_n 1, 1) := by decide +kernel
theorem dX6_readWhen_25 : decode cX6_readWhen 25 = .ok (.iconst (-1), 1) := by decide +kernel
theorem dX6_readWhen_26 : decode cX6_readWhen 26 = .ok (.if_icmp .ne 5, 3) := by decide +kernel
theorem dX6_readWhen_29 : decode cX6_readWhen 29 = .ok (.iconst 0, 1) := by decide +kernel
theorem dX6_readWhen_30 : decode cX6_readWhen 30 = .ok (.ireturn, 1) := by decide +kernel
theorem dX6_readWhen_31 : decode cX6_readWhen 31 = .ok (.aload_n 0, 1) := by decide +kernel
theorem dX6_readWhen_32 : decode cX6_readWhen 32 = .ok (.getfield 22, 3) := by decide +kernel
theorem dX6_readWhen_35 : decode cX6_readWhen 35 = .ok (.invokevirtual 124, 3) := by decide +kernel
theorem dX6_readWhen_38 : decode cX6_readWhen 38 = .ok (.istore_n 2, 1) := by decide +kernel
theorem dX6_readWhen_39 : decode cX6_readWhen 39 = .ok (.iload_n 2, 1) := by decide +kernel
theorem dX6_readWhen_40 : decode cX6_readWhen 40 = .ok (.iconst (-1), 1) := by decide +kernel
theorem dX6_readWhen_41 : decode cX6_readWhen 41 = .ok (.if_icmp .ne 5, 3) := by decide +kernel
theorem dX6_readWhen_44 : decode cX6_readWhen 44 = .ok (.iconst 0, 1) := by decide +kernel
theorem dX6_readWhen_45 : decode cX6_readWhen 45 = .ok (.ireturn, 1) := by decide +kernel
theorem dX6_readWhen_46 : decode cX6_readWhen 46 = .ok (.aload_n 0, 1) := by decide +kernel
theorem dX6_readWhen_47 : decode cX6_readWhen 47 = .ok (.getfield 22, 3) := by decide +kernel
theorem dX6_readWhen_50 : decode cX6_readWhen 50 = .ok (.iconst 0, 1) := by decide +kernel
theorem dX6_readWhen_51 : decode cX6_readWhen 51 = .ok (.iconst 3, 1) := by decide +kernel
theorem dX6_readWhen_52 : decode cX6_readWhen 52 = .ok (.invokevirtual 118, 3) := by decide +kernel
theorem dX6_readWhen_55 : decode cX6_readWhen 55 = .ok (.istore_n 3, 1) := by decide +kernel
theorem dX6_readWhen_56 : decode cX6_readWhen 56 = .ok (.iload_n 3, 1) := by decide +kernel
theorem dX6_readWhen_57 : decode cX6_readWhen 57 = .ok (.iconst (-1), 1) := by decide +kernel
theorem dX6_readWhen_58 : decode cX6_readWhen 58 = .ok (.if_icmp .ne 5, 3) := by decide +kernel
theorem dX6_readWhen_61 : decode cX6_readWhen 61 = .ok (.iconst 0, 1) := by decide +kernel
theorem dX6_readWhen_62 : decode cX6_readWhen 62 = .ok (.ireturn, 1) := by decide +kernel
theorem dX6_readWhen_63 : decode cX6_readWhen 63 = .ok (.aload_n 0, 1) := by decide +kernel
theorem dX6_readWhen_64 : decode cX6_readWhen 64 = .ok (.getfield 12, 3) := by decide +kernel
theorem dX6_readWhen_67 : decode cX6_readWhen 67 = .ok (.bipush 6, 2) := by decide +kernel
theorem dX6_readWhen_69 : decode cX6_readWhen 69 = .ok (.iload_n 1, 1) := by decide +kernel
theorem dX6_readWhen_70 : decode cX6_readWhen 70 = .ok (.iload_n 2, 1) := by decide +kernel
theorem dX6_readWhen_71 : decode cX6_readWhen 71 = .ok (.iload_n 3, 1) := by decide +kernel
theorem dX6_readWhen_72 : decode cX6_readWhen 72 = .ok (.invokevirtual 91, 3) := by decide +kernel
theorem dX6_readWhen_75 : decode cX6_readWhen 75 = .ok (.iconst 1, 1) := by decide +kernel
theorem dX6_readWhen_76 : decode cX6_readWhen 76 = .ok (.ireturn, 1) := by decide +kernel
theorem dX6_readWhen_77 : decode cX6_readWhen 77 = .ok (.aload_n 0, 1) := by decide +kernel
theorem dX6_readWhen_78 : decode cX6_readWhen 78 = .ok (.getfield 22, 3) := by decide +kernel
theorem dX6_readWhen_81 : decode cX6_readWhen 81 = .ok (.ldc 127, 2) := by decide +kernel
theorem dX6_readWhen_83 : decode cX6_readWhen 83 = .ok (.invokevirtual 55, 3) := by decide +kernel
theorem dX6_readWhen_86 : decode cX6_readWhen 86 = .ok (.ifCond .eq 24, 3) := by decide +kernel
theorem dX6_readWhen_89 : decode cX6_readWhen 89 = .ok (.aload_n 0, 1) := by decide +kernel
theorem dX6_readWhen_90 : decode cX6_readWhen 90 = .ok (.getfield 22, 3) := by decide +kernel
theorem dX6_readWhen_93 : decode cX6_readWhen 93 = .ok (.invokevirtual 73, 3) := by decide +kernel
theorem dX6_readWhen_96 : decode cX6_readWhen 96 = .ok (.aload_n 0, 1) := by decide +kernel
theorem dX6_readWhen_97 : decode cX6_readWhen 97 = .ok (.getfield 12, 3) := by decide +kernel
theorem dX6_readWhen_100 : decode cX6_readWhen 100 = .ok (.bipush 8, 2) := by decide +kernel
theorem dX6_readWhen_102 : decode cX6_readWhen 102 = .ok (.iconst (-1), 1) := by decide +kernel
theorem dX6_readWhen_103 : decode cX6_readWhen 103 = .ok (.iconst 0, 1) := by decide +kernel
theorem dX6_readWhen_104 : decode cX6_readWhen 104 = .ok (.iconst 0, 1) := by decide +kernel
theorem dX6_readWhen_105 : decode cX6_readWhen 105 = .ok (.invokevirtual 91, 3) := by decide +kernel
theorem dX6_readWhen_108 : decode cX6_readWhen 108 = .ok (.iconst 1, 1) := by decide +kernel
theorem dX6_readWhen_109 : decode cX6_readWhen 109 = .ok (.ireturn, 1) := by decide +kernel
theorem dX6_readWhen_110 : decode cX6_readWhen 110 = .ok (.aload_n 0, 1) := by decide +kernel
theorem dX6_readWhen_111 : decode cX6_readWhen 111 = .ok (.getfield 22, 3) := by decide +kernel
theorem dX6_readWhen_114 : decode cX6_readWhen 114 = .ok (.ldc 129, 2) := by decide +kernel
theorem dX6_readWhen_116 : decode cX6_readWhen 116 = .ok (.invokevirtual 131, 3) := by decide +kernel
theorem dX6_readWhen_119 : decode cX6_readWhen 119 = .ok (.ifCond .ne 5, 3) := by decide +kernel
theorem dX6_readWhen_122 : decode cX6_readWhen 122 = .ok (.iconst 0, 1) := by decide +kernel
theorem dX6_readWhen_123 : decode cX6_readWhen 123 = .ok (.ireturn, 1) := by decide +kernel
theorem dX6_readWhen_124 : decode cX6_readWhen 124 = .ok (.aload_n 0, 1) := by decide +kernel
theorem dX6_readWhen_125 : decode cX6_readWhen 125 = .ok (.getfield 22, 3) := by decide +kernel
theorem dX6_readWhen_128 : decode cX6_readWhen 128 = .ok (.iconst 0, 1) := by decide +kernel
theorem dX6_readWhen_129 : decode cX6_readWhen 129 = .ok (.bipush 16, 2) := by decide +kernel
theorem dX6_readWhen_131 : decode cX6_readWhen 131 = .ok (.invokevirtual 118, 3) := by decide +kernel
theorem dX6_readWhen_134 : decode cX6_readWhen 134 = .ok (.istore_n 1, 1) := by decide +kernel
theorem dX6_readWhen_135 : decode cX6_readWhen 135 = .ok (.iload_n 1, 1) := by decide +kernel
theorem dX6_readWhen_136 : decode cX6_readWhen 136 = .ok (.iconst (-1), 1) := by decide +kernel
theorem dX6_readWhen_137 : decode cX6_readWhen 137 = .ok (.if_icmp .ne 5, 3) := by decide +kernel
theorem dX6_readWhen_140 : decode cX6_readWhen 140 = .ok (.iconst 0, 1) := by decide +kernel
theorem dX6_readWhen_141 : decode cX6_readWhen 141 = .ok (.ireturn, 1) := by decide +kernel
theorem dX6_readWhen_142 : decode cX6_readWhen 142 = .ok (.aload_n 0, 1) := by decide +kernel
theorem dX6_readWhen_143 : decode cX6_readWhen 143 = .ok (.getfield 12, 3) := by decide +kernel
theorem dX6_readWhen_146 : decode cX6_readWhen 146 = .ok (.bipush 7, 2) := by decide +kernel
theorem dX6_readWhen_148 : decode cX6_readWhen 148 = .ok (.iconst (-1), 1) := by decide +kernel
theorem dX6_readWhen_149 : decode cX6_readWhen 149 = .ok (.iconst 0, 1) := by decide +kernel
theorem dX6_readWhen_150 : decode cX6_readWhen 150 = .ok (.iload_n 1, 1) := by decide +kernel
theorem dX6_readWhen_151 : decode cX6_readWhen 151 = .ok (.invokevirtual 91, 3) := by decide +kernel
theorem dX6_readWhen_154 : decode cX6_readWhen 154 = .ok (.iconst 1, 1) := by decide +kernel
theorem dX6_readWhen_155 : decode cX6_readWhen 155 = .ok (.ireturn, 1) := by decide +kernel
theorem dX6_takeFeature_0 : decode cX6_takeFeature 0 = .ok (.aload_n 0, 1) := by decide +kernel
theorem dX6_takeFeature_1 : decode cX6_takeFeature 1 = .ok (.getfield 22, 3) := by decide +kernel
theorem dX6_takeFeature_4 : decode cX6_takeFeature 4 = .ok (.invokevirtual 134, 3) := by decide +kernel
theorem dX6_takeFeature_7 : decode cX6_takeFeature 7 = .ok (.ifCond .ne 14, 3) := by decide +kernel
theorem dX6_takeFeature_10 : decode cX6_takeFeature 10 = .ok (.aload_n 0, 1) := by decide +kernel
theorem dX6_takeFeature_11 : decode cX6_takeFeature 11 = .ok (.getfield 22, 3) := by decide +kernel
theorem dX6_takeFeature_14 : decode cX6_takeFeature 14 = .ok (.iconst 2, 1) := by decide +kernel
theorem dX6_takeFeature_15 : decode cX6_takeFeature 15 = .ok (.invokevirtual 49, 3) := by decide +kernel
theorem dX6_takeFeature_18 : decode cX6_takeFeature 18 = .ok (.pop, 1) := by decide +kernel
theorem dX6_takeFeature_19 : decode cX6_takeFeature 19 = .ok (.iconst (-1), 1) := by decide +kernel
theorem dX6_takeFeature_20 : decode cX6_takeFeature 20 = .ok (.ireturn, 1) := by decide +kernel
theorem dX6_takeFeature_21 : decode cX6_takeFeature 21 = .ok (.aload_n 0, 1) := by decide +kernel
theorem dX6_takeFeature_22 : decode cX6_takeFeature 22 = .ok (.getfield 26, 3) := by decide +kernel
theorem dX6_takeFeature_25 : decode cX6_takeFeature 25 = .ok (.aload_n 0, 1) := by decide +kernel
theorem dX6_takeFeature_26 : decode cX6_takeFeature 26 = .ok (.getfield 22, 3) := by decide +kernel
theorem dX6_takeFeature_29 : decode cX6_takeFeature 29 = .ok (.getfield 137, 3) := by decide +kernel
theorem dX6_takeFeature_32 : decode cX6_takeFeature 32 = .ok (.invokevirtual 141, 3) := by decide +kernel
theorem dX6_takeFeature_35 : decode cX6_takeFeature 35 = .ok (.istore_n 1, 1) := by decide +kernel
theorem dX6_takeFeature_36 : decode cX6_takeFeature 36 = .ok (.iload_n 1, 1) := by decide +kernel
theorem dX6_takeFeature_37 : decode cX6_takeFeature 37 = .ok (.iconst (-1), 1) := by decide +kernel
theorem dX6_takeFeature_38 : decode cX6_takeFeature 38 = .ok (.if_icmp .ne 15, 3) := by decide +kernel
theorem dX6_takeFeature_41 : decode cX6_takeFeature 41 = .ok (.aload_n 0, 1) := by decide +kernel
theorem dX6_takeFeature_42 : decode cX6_takeFeature 42 = .ok (.getfield 22, 3) := by decide +kernel
theorem dX6_takeFeature_45 : decode cX6_takeFeature 45 = .ok (.iconst 3, 1) := by decide +kernel
theorem dX6_takeFeature_46 : decode cX6_takeFeature 46 = .ok (.invokevirtual 49, 3) := by decide +kernel
theorem dX6_takeFeature_49 : decode cX6_takeFeature 49 = .ok (.pop, 1) := by decide +kernel
theorem dX6_takeFeature_50 : decode cX6_takeFeature 50 = .ok (.goto 10, 3) := by decide +kernel
theorem dX6_takeFeature_53 : decode cX6_takeFeature 53 = .ok (.aload_n 0, 1) := by decide +kernel
theorem dX6_takeFeature_54 : decode cX6_takeFeature 54 = .ok (.getfield 22, 3) := by decide +kernel
theorem dX6_takeFeature_57 : decode cX6_takeFeature 57 = .ok (.invokevirtual 73, 3) := by decide +kernel
theorem dX6_takeFeature_60 : decode cX6_takeFeature 60 = .ok (.iload_n 1, 1) := by decide +kernel
theorem dX6_takeFeature_61 : decode cX6_takeFeature 61 = .ok (.ireturn, 1) := by decide +kernel
theorem dX7_addToRow_0 : decode cX7_addToRow 0 = .ok (.aload_n 0, 1) := by decide +kernel
theorem dX7_addToRow_1 : decode cX7_addToRow 1 = .ok (.getfield 52, 3) := by decide +kernel
theorem dX7_addToRow_4 : decode cX7_addToRow 4 = .ok (.bipush 10, 2) := by decide +kernel
theorem dX7_addToRow_6 : decode cX7_addToRow 6 = .ok (.if_icmp .lt 4, 3) := by decide +kernel
theorem dX7_addToRow_9 : decode cX7_addToRow 9 = .ok (.return_, 1) := by decide +kernel
theorem dX7_addToRow_10 : decode cX7_addToRow 10 = .ok (.aload_n 0, 1) := by decide +kernel
theorem dX7_addToRow_11 : decode cX7_addToRow 11 = .ok (.getfield 9, 3) := by decide +kernel
theorem dX7_addToRow_14 : decode cX7_addToRow 14 = .ok (.aload_n 0, 1) := by decide +kernel
theorem dX7_addToRow_15 : decode cX7_addToRow 15 = .ok (.getfield 52, 3) := by decide +kernel
theorem dX7_addToRow_18 : decode cX7_addToRow 18 = .ok (.iload_n 1, 1) := by decide +kernel
theorem dX7_addToRow_19 : decode cX7_addToRow 19 = .ok (.invokestatic 132, 3) := by decide +kernel
theorem dX7_addToRow_22 : decode cX7_addToRow 22 = .ok (.aload_n 0, 1) := by decide +kernel
theorem dX7_addToRow_23 : decode cX7_addToRow 23 = .ok (.dup, 1) := by decide +kernel
theorem dX7_addToRow_24 : decode cX7_addToRow 24 = .ok (.getfield 52, 3) := by decide +kernel
theorem dX7_addToRow_27 : decode cX7_addToRow 27 = .ok (.iconst 1, 1) := by decide +kernel
theorem dX7_addToRow_28 : decode cX7_addToRow 28 = .ok (.iadd, 1) := by decide +kernel
theorem dX7_addToRow_29 : decode cX7_addToRow 29 = .ok (.putfield 52, 3) := by decide +kernel
theorem dX7_addToRow_32 : decode cX7_addToRow 32 = .ok (.return_, 1) := by decide +kernel
theorem dX7_canWalk_0 : decode cX7_canWalk 0 = .ok (.iconst 0, 1) := by decide +kernel
theorem dX7_canWalk_1 : decode cX7_canWalk 1 = .ok (.istore_n 1, 1) := by decide +kernel
theorem dX7_canWalk_2 : decode cX7_canWalk 2 = .ok (.iload_n 1, 1) := by decide +kernel
theorem dX7_canWalk_3 : decode cX7_canWalk 3 = .ok (.aload_n 0, 1) := by decide +kernel
theorem dX7_canWalk_4 : decode cX7_canWalk 4 = .ok (.getfield 42, 3) := by decide +kernel
theorem dX7_canWalk_7 : decode cX7_canWalk 7 = .ok (.getfield 94, 3) := by decide +kernel
theorem dX7_canWalk_10 : decode cX7_canWalk 10 = .ok (.if_icmp .ge 29, 3) := by decide +kernel
theorem dX7_canWalk_13 : decode cX7_canWalk 13 = .ok (.aload_n 0, 1) := by decide +kernel
theorem dX7_canWalk_14 : decode cX7_canWalk 14 = .ok (.aload_n 0, 1) := by decide +kernel
theorem dX7_canWalk_15 : decode cX7_canWalk 15 = .ok (.getfield 42, 3) := by decide +kernel
theorem dX7_canWalk_18 : decode cX7_canWalk 18 = .ok (.getfield 97, 3) := by decide +kernel
theorem dX7_canWalk_21 : decode cX7_canWalk 21 = .ok (.iload_n 1, 1) := by decide +kernel
theorem dX7_canWalk_22 : decode cX7_canWalk 22 = .ok (.invokestatic 55, 3) := by decide +kernel
theorem dX7_canWalk_25 : decode cX7_canWalk 25 = .ok (.invokevirtual 80, 3) := by decide +kernel
theorem dX7_canWalk_28 : decode cX7_canWalk 28 = .ok (.ifCond .ne 5, 3) := by decide +kernel
theorem dX7_canWalk_31 : decode cX7_canWalk 31 = .ok (.iconst 0, 1) := by decide +kernel
theorem dX7_canWalk_32 : decode cX7_canWalk 32 = .ok (.ireturn, 1) := by decide +kernel
theorem dX7_canWalk_33 : decode cX7_canWalk 33 = .ok (.iinc 1 1, 3) := by decide +kernel
theorem dX7_canWalk_36 : decode cX7_canWalk 36 = .ok (.goto (-34), 3) := by decide +kernel
theorem dX7_canWalk_39 : decode cX7_canWalk 39 = .ok (.aload_n 0, 1) := by decide +kernel
theorem dX7_canWalk_40 : decode cX7_canWalk 40 = .ok (.getfield 42, 3) := by decide +kernel
theorem dX7_canWalk_43 : decode cX7_canWalk 43 = .ok (.getfield 94, 3) := by decide +kernel
theorem dX7_canWalk_46 : decode cX7_canWalk 46 = .ok (.ifCond .le 7, 3) := by decide +kernel
theorem dX7_canWalk_49 : decode cX7_canWalk 49 = .ok (.iconst 1, 1) := by decide +kernel
theorem dX7_canWalk_50 : decode cX7_canWalk 50 = .ok (.goto 4, 3) := by decide +kernel
theorem dX7_canWalk_53 : decode cX7_canWalk 53 = .ok (.iconst 0, 1) := by decide +kernel
theorem dX7_canWalk_54 : decode cX7_canWalk 54 = .ok (.ireturn, 1) := by decide +kernel
theorem dX7_findOrder_0 : decode cX7_findOrder 0 = .ok (.aload_n 0, 1) := by decide +kernel
theorem dX7_findOrder_1 : decode cX7_findOrder 1 = .ok (.getfield 9, 3) := by decide +kernel
theorem dX7_findOrder_4 : decode cX7_findOrder 4 = .ok (.aload_n 0, 1) := by decide +kernel
theorem dX7_findOrder_5 : decode cX7_findOrder 5 = .ok (.getfield 52, 3) := by decide +kernel
theorem dX7_findOrder_8 : decode cX7_findOrder 8 = .ok (.invokestatic 118, 3) := by decide +kernel
theorem dX7_findOrder_11 : decode cX7_findOrder 11 = .ok (.iconst (-1), 1) := by decide +kernel
theorem dX7_findOrder_12 : decode cX7_findOrder 12 = .ok (.istore_n 2, 1) := by decide +kernel
theorem dX7_findOrder_13 : decode cX7_findOrder 13 = .ok (.iconst 1, 1) := by decide +kernel
theorem dX7_findOrder_14 : decode cX7_findOrder 14 = .ok (.istore_n 3, 1) := by decide +kernel
theorem dX7_findOrder_15 : decode cX7_findOrder 15 = .ok (.iconst 0, 1) := by decide +kernel
theorem dX7_findOrder_16 : decode cX7_findOrder 16 = .ok (.istore 4, 2) := by decide +kernel
theorem dX7_findOrder_18 : decode cX7_findOrder 18 = .ok (.iload 4, 2) := by decide +kernel
theorem dX7_findOrder_20 : decode cX7_findOrder 20 = .ok (.sipush 720, 3) := by decide +kernel
theorem dX7_findOrder_23 : decode cX7_findOrder 23 = .ok (.if_icmp .ge 58, 3) := by decide +kernel
theorem dX7_findOrder_26 : decode cX7_findOrder 26 = .ok (.iload_n 3, 1) := by decide +kernel
theorem dX7_findOrder_27 : decode cX7_findOrder 27 = .ok (.ifCond .eq 54, 3) := by decide +kernel
theorem dX7_findOrder_30 : decode cX7_findOrder 30 = .ok (.aload_n 0, 1) := by decide +kernel
theorem dX7_findOrder_31 : decode cX7_findOrder 31 = .ok (.iload_n 1, 1) := by decide +kernel
theorem dX7_findOrder_32 : decode cX7_findOrder 32 = .ok (.invokevirtual 122, 3) := by decide +kernel
theorem dX7_findOrder_35 : decode cX7_findOrder 35 = .ok (.istore 5, 2) := by decide +kernel
theorem dX7_findOrder_37 : decode cX7_findOrder 37 = .ok (.iload_n 2, 1) := by decide +kernel
theorem dX7_findOrder_38 : decode cX7_findOrder 38 = .ok (.iconst (-1), 1) := by decide +kernel
theorem dX7_findOrder_39 : decode cX7_findOrder 39 = .ok (.if_icmp .eq 9, 3) := by decide +kernel
theorem dX7_findOrder_42 : decode cX7_findOrder 42 = .ok (.iload 5, 2) := by decide +kernel
theorem dX7_findOrder_44 : decode cX7_findOrder 44 = .ok (.iload_n 2, 1) := by decide +kernel
theorem dX7_findOrder_45 : decode cX7_findOrder 45 = .ok (.if_icmp .ge 18, 3) := by decide +kernel
theorem dX7_findOrder_48 : decode cX7_findOrder 48 = .ok (.iload 5, 2) := by decide +kernel
theorem dX7_findOrder_50 : decode cX7_findOrder 50 = .ok (.istore_n 2, 1) := by decide +kernel
theorem dX7_findOrder_51 : decode cX7_findOrder 51 = .ok (.aload_n 0, 1) := by decide +kernel
theorem dX7_findOrder_52 : decode cX7_findOrder 52 = .ok (.aload_n 0, 1) := by decide +kernel
theorem dX7_findOrder_53 : decode cX7_findOrder 53 = .ok (.getfield 9, 3) := by decide +kernel
theorem dX7_findOrder_56 : decode cX7_findOrder 56 = .ok (.aload_n 0, 1) := by decide +kernel
theorem dX7_findOrder_57 : decode cX7_findOrder 57 = .ok (.getfield 52, 3) := by decide +kernel
theorem dX7_findOrder_60 : decode cX7_findOrder 60 = .ok (.invokevirtual 125, 3) := by decide +kernel
theorem dX7_findOrder_63 : decode cX7_findOrder 63 = .ok (.aload_n 0, 1) := by decide +kernel
theorem dX7_findOrder_64 : decode cX7_findOrder 64 = .ok (.getfield 9, 3) := by decide +kernel
theorem dX7_findOrder_67 : decode cX7_findOrder 67 = .ok (.aload_n 0, 1) := by decide +kernel
theorem dX7_findOrder_68 : decode cX7_findOrder 68 = .ok (.getfield 52, 3) := by decide +kernel
theorem dX7_findOrder_71 : decode cX7_findOrder 71 = .ok (.invokestatic 128, 3) := by decide +kernel
theorem dX7_findOrder_74 : decode cX7_findOrder 74 = .ok (.istore_n 3, 1) := by decide +kernel
theorem dX7_findOrder_75 : decode cX7_findOrder 75 = .ok (.iinc 4 1, 3) := by decide +kernel
theorem dX7_findOrder_78 : decode cX7_findOrder 78 = .ok (.goto (-60), 3) := by decide +kernel
theorem dX7_findOrder_81 : decode cX7_findOrder 81 = .ok (.iload_n 2, 1) := by decide +kernel
theorem dX7_findOrder_82 : decode cX7_findOrder 82 = .ok (.ireturn, 1) := by decide +kernel
