theorem dX0_init_0 : decode cX0_init 0 = .ok (.aload_n 0, 1) := by decide +kernel
theorem dX0_init_1 : decode cX0_init 1 = .ok (.invokespecial 3, 3) := by decide +kernel
theorem dX0_init_4 : decode cX0_init 4 = .ok (.aload_n 0, 1) := by decide +kernel
theorem dX0_init_5 : decode cX0_init 5 = .ok (.bipush 40, 2) := by decide +kernel
theorem dX0_init_7 : decode cX0_init 7 = .ok (.newarray .int, 2) := by decide +kernel
theorem dX0_init_9 : decode cX0_init 9 = .ok (.putfield 9, 3) := by decide +kernel
theorem dX0_init_12 : decode cX0_init 12 = .ok (.aload_n 0, 1) := by decide +kernel
theorem dX0_init_13 : decode cX0_init 13 = .ok (.iconst 0, 1) := by decide +kernel
theorem dX0_init_14 : decode cX0_init 14 = .ok (.putfield 15, 3) := by decide +kernel
theorem dX0_init_17 : decode cX0_init 17 = .ok (.aload_n 0, 1) := by decide +kernel
theorem dX0_init_18 : decode cX0_init 18 = .ok (.iconst 0, 1) := by decide +kernel
theorem dX0_init_19 : decode cX0_init 19 = .ok (.putfield 19, 3) := by decide +kernel
theorem dX0_init_22 : decode cX0_init 22 = .ok (.aload_n 0, 1) := by decide +kernel
theorem dX0_init_23 : decode cX0_init 23 = .ok (.iconst 0, 1) := by decide +kernel
theorem dX0_init_24 : decode cX0_init 24 = .ok (.putfield 22, 3) := by decide +kernel
theorem dX0_init_27 : decode cX0_init 27 = .ok (.aload_n 0, 1) := by decide +kernel
theorem dX0_init_28 : decode cX0_init 28 = .ok (.iconst 2, 1) := by decide +kernel
theorem dX0_init_29 : decode cX0_init 29 = .ok (.putfield 25, 3) := by decide +kernel
theorem dX0_init_32 : decode cX0_init 32 = .ok (.return_, 1) := by decide +kernel
theorem dX0_forget_0 : decode cX0_forget 0 = .ok (.aload_n 0, 1) := by decide +kernel
theorem dX0_forget_1 : decode cX0_forget 1 = .ok (.iconst 0, 1) := by decide +kernel
theorem dX0_forget_2 : decode cX0_forget 2 = .ok (.putfield 15, 3) := by decide +kernel
theorem dX0_forget_5 : decode cX0_forget 5 = .ok (.return_, 1) := by decide +kernel
theorem dX0_answer_0 : decode cX0_answer 0 = .ok (.aload_n 0, 1) := by decide +kernel
theorem dX0_answer_1 : decode cX0_answer 1 = .ok (.aload_n 1, 1) := by decide +kernel
theorem dX0_answer_2 : decode cX0_answer 2 = .ok (.getfield 28, 3) := by decide +kernel
theorem dX0_answer_5 : decode cX0_answer 5 = .ok (.putfield 19, 3) := by decide +kernel
theorem dX0_answer_8 : decode cX0_answer 8 = .ok (.aload_n 0, 1) := by decide +kernel
theorem dX0_answer_9 : decode cX0_answer 9 = .ok (.iload_n 2, 1) := by decide +kernel
theorem dX0_answer_10 : decode cX0_answer 10 = .ok (.putfield 22, 3) := by decide +kernel
theorem dX0_answer_13 : decode cX0_answer 13 = .ok (.aload_n 0, 1) := by decide +kernel
theorem dX0_answer_14 : decode cX0_answer 14 = .ok (.aload_n 1, 1) := by decide +kernel
theorem dX0_answer_15 : decode cX0_answer 15 = .ok (.getfield 31, 3) := by decide +kernel
theorem dX0_answer_18 : decode cX0_answer 18 = .ok (.putfield 25, 3) := by decide +kernel
theorem dX0_answer_21 : decode cX0_answer 21 = .ok (.aload_n 0, 1) := by decide +kernel
theorem dX0_answer_22 : decode cX0_answer 22 = .ok (.aload_n 0, 1) := by decide +kernel
theorem dX0_answer_23 : decode cX0_answer 23 = .ok (.getfield 19, 3) := by decide +kernel
theorem dX0_answer_26 : decode cX0_answer 26 = .ok (.iload_n 3, 1) := by decide +kernel
theorem dX0_answer_27 : decode cX0_answer 27 = .ok (.iload 4, 2) := by decide +kernel
theorem dX0_answer_29 : decode cX0_answer 29 = .ok (.iconst 0, 1) := by decide +kernel
theorem dX0_answer_30 : decode cX0_answer 30 = .ok (.invokevirtual 32, 3) := by decide +kernel
theorem dX0_answer_33 : decode cX0_answer 33 = .ok (.ireturn, 1) := by decide +kernel
theorem dX0_run_0 : decode cX0_run 0 = .ok (.iload_n 1, 1) := by decide +kernel
theorem dX0_run_1 : decode cX0_run 1 = .ok (.iload_n 2, 1) := by decide +kernel
theorem dX0_run_2 : decode cX0_run 2 = .ok (.invokestatic 36, 3) := by decide +kernel
theorem dX0_run_5 : decode cX0_run 5 = .ok (.istore 5, 2) := by decide +kernel
theorem dX0_run_7 : decode cX0_run 7 = .ok (.iload 5, 2) := by decide +kernel
theorem dX0_run_9 : decode cX0_run 9 = .ok (.ifCond .eq 10, 3) := by decide +kernel
theorem dX0_run_12 : decode cX0_run 12 = .ok (.iload 4, 2) := by decide +kernel
theorem dX0_run_14 : decode cX0_run 14 = .ok (.bipush 20, 2) := by decide +kernel
theorem dX0_run_16 : decode cX0_run 16 = .ok (.if_icmp .le 5, 3) := by decide +kernel
theorem dX0_run_19 : decode cX0_run 19 = .ok (.iconst 0, 1) := by decide +kernel
theorem dX0_run_20 : decode cX0_run 20 = .ok (.ireturn, 1) := by decide +kernel
theorem dX0_run_21 : decode cX0_run 21 = .ok (.aload_n 0, 1) := by decide +kernel
theorem dX0_run_22 : decode cX0_run 22 = .ok (.iload 5, 2) := by decide +kernel
theorem dX0_run_24 : decode cX0_run 24 = .ok (.invokevirtual 40, 3) := by decide +kernel
theorem dX0_run_27 : decode cX0_run 27 = .ok (.iload 4, 2) := by decide +kernel
theorem dX0_run_29 : decode cX0_run 29 = .ok (.iconst 1, 1) := by decide +kernel
theorem dX0_run_30 : decode cX0_run 30 = .ok (.iadd, 1) := by decide +kernel
theorem dX0_run_31 : decode cX0_run 31 = .ok (.istore 6, 2) := by decide +kernel
theorem dX0_run_33 : decode cX0_run 33 = .ok (.iload 5, 2) := by decide +kernel
theorem dX0_run_35 : decode cX0_run 35 = .ok (.lookupswitch 256 #[(10, 81), (11, 88), (12, 106), (20, 134), (30, 150), (31, 169), (40, 185), (50, 213), (51, 229)], 81) := by decide +kernel
theorem dX0_run_116 : decode cX0_run 116 = .ok (.iload_n 3, 1) := by decide +kernel
theorem dX0_run_117 : decode cX0_run 117 = .ok (.aload_n 0, 1) := by decide +kernel
theorem dX0_run_118 : decode cX0_run 118 = .ok (.getfield 22, 3) := by decide +kernel
theorem dX0_run_121 : decode cX0_run 121 = .ok (.iadd, 1) := by decide +kernel
theorem dX0_run_122 : decode cX0_run 122 = .ok (.ireturn, 1) := by decide +kernel
theorem dX0_run_123 : decode cX0_run 123 = .ok (.aload_n 0, 1) := by decide +kernel
theorem dX0_run_124 : decode cX0_run 124 = .ok (.aload_n 0, 1) := by decide +kernel
theorem dX0_run_125 : decode cX0_run 125 = .ok (.getfield 19, 3) := by decide +kernel
theorem dX0_run_128 : decode cX0_run 128 = .ok (.iconst 0, 1) := by decide +kernel
theorem dX0_run_129 : decode cX0_run 129 = .ok (.iload_n 3, 1) := by decide +kernel
theorem dX0_run_130 : decode cX0_run 130 = .ok (.iload 6, 2) := by decide +kernel
theorem dX0_run_132 : decode cX0_run 132 = .ok (.invokevirtual 32, 3) := by decide +kernel
theorem dX0_run_135 : decode cX0_run 135 = .ok (.aload_n 0, 1) := by decide +kernel
theorem dX0_run_136 : decode cX0_run 136 = .ok (.getfield 25, 3) := by decide +kernel
theorem dX0_run_139 : decode cX0_run 139 = .ok (.imul, 1) := by decide +kernel
theorem dX0_run_140 : decode cX0_run 140 = .ok (.ireturn, 1) := by decide +kernel
theorem dX0_run_141 : decode cX0_run 141 = .ok (.aload_n 0, 1) := by decide +kernel
theorem dX0_run_142 : decode cX0_run 142 = .ok (.aload_n 0, 1) := by decide +kernel
theorem dX0_run_143 : decode cX0_run 143 = .ok (.getfield 19, 3) := by decide +kernel
theorem dX0_run_146 : decode cX0_run 146 = .ok (.iconst 1, 1) := by decide +kernel
theorem dX0_run_147 : decode cX0_run 147 = .ok (.iload_n 3, 1) := by decide +kernel
theorem dX0_run_148 : decode cX0_run 148 = .ok (.iload 6, 2) := by decide +kernel
theorem dX0_run_150 : decode cX0_run 150 = .ok (.invokevirtual 32, 3) := by decide +kernel
theorem dX0_run_153 : decode cX0_run 153 = .ok (.aload_n 0, 1) := by decide +kernel
theorem dX0_run_154 : decode cX0_run 154 = .ok (.aload_n 0, 1) := by decide +kernel
theorem dX0_run_155 : decode cX0_run 155 = .ok (.getfield 19, 3) := by decide +kernel
theorem dX0_run_158 : decode cX0_run 158 = .ok (.iconst 0, 1) := by decide +kernel
theorem dX0_run_159 : decode cX0_run 159 = .ok (.iload_n 3, 1) := by decide +kernel
theorem dX0_run_160 : decode cX0_run 160 = .ok (.iconst 1, 1) := by decide +kernel
theorem dX0_run_161 : decode cX0_run 161 = .ok (.iadd, 1) := by decide +kernel
theorem dX0_run_162 : decode cX0_run 162 = .ok (.iload 6, 2) := by decide +kernel
theorem dX0_run_164 : decode cX0_run 164 = .ok (.invokevirtual 32, 3) := by decide +kernel
theorem dX0_run_167 : decode cX0_run 167 = .ok (.ixor, 1) := by decide +kernel
theorem dX0_run_168 : decode cX0_run 168 = .ok (.ireturn, 1) := by decide +kernel
theorem dX0_run_169 : decode cX0_run 169 = .ok (.aload_n 0, 1) := by decide +kernel
theorem dX0_run_170 : decode cX0_run 170 = .ok (.getstatic 44, 3) := by decide +kernel
theorem dX0_run_173 : decode cX0_run 173 = .ok (.iconst 1, 1) := by decide +kernel
theorem dX0_run_174 : decode cX0_run 174 = .ok (.iaload, 1) := by decide +kernel
theorem dX0_run_175 : decode cX0_run 175 = .ok (.iconst 1, 1) := by decide +kernel
theorem dX0_run_176 : decode cX0_run 176 = .ok (.iload_n 3, 1) := by decide +kernel
theorem dX0_run_177 : decode cX0_run 177 = .ok (.iload 6, 2) := by decide +kernel
theorem dX0_run_179 : decode cX0_run 179 = .ok (.invokevirtual 32, 3) := by decide +kernel
theorem dX0_run_182 : decode cX0_run 182 = .ok (.iconst 1, 1) := by decide +kernel
theorem dX0_run_183 : decode cX0_run 183 = .ok (.iadd, 1) := by decide +kernel
theorem dX0_run_184 : decode cX0_run 184 = .ok (.ireturn, 1) := by decide +kernel
theorem dX0_run_185 : decode cX0_run 185 = .ok (.aload_n 0, 1) := by decide +kernel
theorem dX0_run_186 : decode cX0_run 186 = .ok (.getstatic 44, 3) := by decide +kernel
theorem dX0_run_189 : decode cX0_run 189 = .ok (.iconst 2, 1) := by decide +kernel
theorem dX0_run_190 : decode cX0_run 190 = .ok (.iaload, 1) := by decide +kernel
theorem dX0_run_191 : decode cX0_run 191 = .ok (.iconst 0, 1) := by decide +kernel
theorem dX0_run_192 : decode cX0_run 192 = .ok (.iload_n 3, 1) := by decide +kernel
theorem dX0_run_193 : decode cX0_run 193 = .ok (.iload 6, 2) := by decide +kernel
theorem dX0_run_195 : decode cX0_run 195 = .ok (.invokevirtual 32, 3) := by decide +kernel
theorem dX0_run_198 : decode cX0_run 198 = .ok (.aload_n 0, 1) := by decide +kernel
theorem dX0_run_199 : decode cX0_run 199 = .ok (.getfield 25, 3) := by decide +kernel
theorem dX0_run_202 : decode cX0_run 202 = .ok (.isub, 1) := by decide +kernel
theorem dX0_run_203 : decode cX0_run 203 = .ok (.ireturn, 1) := by decide +kernel
theorem dX0_run_204 : decode cX0_run 204 = .ok (.aload_n 0, 1) := by decide +kernel
theorem dX0_run_205 : decode cX0_run 205 = .ok (.getstatic 44, 3) := by decide +kernel
theorem dX0_run_208 : decode cX0_run 208 = .ok (.iconst 2, 1) := by decide +kernel
theorem dX0_run_209 : decode cX0_run 209 = .ok (.iaload, 1) := by decide +kernel
theorem dX0_run_210 : decode cX0_run 210 = .ok (.iconst 2, 1) := by decide +kernel
theorem dX0_run_211 : decode cX0_run 211 = .ok (.iload_n 3, 1) := by decide +kernel
theorem dX0_run_212 : decode cX0_run 212 = .ok (.iload 6, 2) := by decide +kernel
theorem dX0_run_214 : decode cX0_run 214 = .ok (.invokevirtual 32, 3) := by decide +kernel
theorem dX0_run_217 : decode cX0_run 217 = .ok (.iconst 2, 1) := by decide +kernel
theorem dX0_run_218 : decode cX0_run 218 = .ok (.imul, 1) := by decide +kernel
theorem dX0_run_219 : decode cX0_run 219 = .ok (.ireturn, 1) := by decide +kernel
theorem dX0_run_220 : decode cX0_run 220 = .ok (.aload_n 0, 1) := by decide +kernel
theorem dX0_run_221 : decode cX0_run 221 = .ok (.getstatic 44, 3) := by decide +kernel
theorem dX0_run_224 : decode cX0_run 224 = .ok (.iconst 3, 1) := by decide +kernel
theorem dX0_run_225 : decode cX0_run 225 = .ok (.iaload, 1) := by decide +kernel
theorem dX0_run_226 : decode cX0_run 226 = .ok (.iconst 1, 1) := by decide +kernel
theorem dX0_run_227 : decode cX0_run 227 = .ok (.iload_n 3, 1) := by decide +kernel
theorem dX0_run_228 : decode cX0_run 228 = .ok (.iload 6, 2) := by decide +kernel
theorem dX0_run_230 : decode cX0_run 230 = .ok (.invokevirtual 32, 3) := by decide +kernel
theorem dX0_run_233 : decode cX0_run 233 = .ok (.aload_n 0, 1) := by decide +kernel
theorem dX0_run_234 : decode cX0_run 234 = .ok (.getstatic 44, 3) := by decide +kernel
theorem dX0_run_237 : decode cX0_run 237 = .ok (.iconst 3, 1) := by decide +kernel
theorem dX0_run_238 : decode cX0_run 238 = .ok (.iaload, 1) := by decide +kernel
theorem dX0_run_239 : decode cX0_run 239 = .ok (.iconst 0, 1) := by decide +kernel
theorem dX0_run_240 : decode cX0_run 240 = .ok (.iload_n 3, 1) := by decide +kernel
theorem dX0_run_241 : decode cX0_run 241 = .ok (.iload 6, 2) := by decide +kernel
theorem dX0_run_243 : decode cX0_run 243 = .ok (.invokevirtual 32, 3) := by decide +kernel
theorem dX0_run_246 : decode cX0_run 246 = .ok (.iadd, 1) := by decide +kernel
theorem dX0_run_247 : decode cX0_run 247 = .ok (.ireturn, 1) := by decide +kernel
theorem dX0_run_248 : decode cX0_run 248 = .ok (.aload_n 0, 1) := by decide +kernel
theorem dX0_run_249 : decode cX0_run 249 = .ok (.getstatic 44, 3) := by decide +kernel
theorem dX0_run_252 : decode cX0_run 252 = .ok (.iconst 4, 1) := by decide +kernel
theorem dX0_run_253 : decode cX0_run 253 = .ok (.iaload, 1) := by decide +kernel
theorem dX0_run_254 : decode cX0_run 254 = .ok (.iconst 0, 1) := by decide +kernel
theorem dX0_run_255 : decode cX0_run 255 = .ok (.iload_n 3, 1) := by decide +kernel
theorem dX0_run_256 : decode cX0_run 256 = .ok (.iconst 3, 1) := by decide +kernel
theorem dX0_run_257 : decode cX0_run 257 = .ok (.imul, 1) := by decide +kernel
theorem dX0_run_258 : decode cX0_run 258 = .ok (.iload 6, 2) := by decide +kernel
theorem dX0_run_260 : decode cX0_run 260 = .ok (.invokevirtual 32, 3) := by decide +kernel
theorem dX0_run_263 : decode cX0_run 263 = .ok (.ireturn, 1) := by decide +kernel
theorem dX0_run_264 : decode cX0_run 264 = .ok (.aload_n 0, 1) := by decide +kernel
theorem dX0_run_265 : decode cX0_run 265 = .ok (.aload_n 0, 1) := by decide +kernel
theorem dX0_run_266 : decode cX0_run 266 = .ok (.getfield 19, 3) := by decide +kernel
theorem dX0_run_269 : decode cX0_run 269 = .ok (.iconst 1, 1) := by decide +kernel
theorem dX0_run_270 : decode cX0_run 270 = .ok (.iload_n 3, 1) := by decide +kernel
theorem dX0_run_271 : decode cX0_run 271 = .ok (.iload 6, 2) := by decide +kernel
theorem dX0_run_273 : decode cX0_run 273 = .ok (.invokevirtual 32, 3) := by decide +kernel
theorem dX0_run_276 : decode cX0_run 276 = .ok (.aload_n 0, 1) := by decide +kernel
theorem dX0_run_277 : decode cX0_run 277 = .ok (.getstatic 44, 3) := by decide +kernel
theorem dX0_run_280 : decode cX0_run 280 = .ok (.iconst 4, 1) := by decide +kernel
theorem dX0_run_281 : decode cX0_run 281 = .ok (.iaload, 1) := by decide +kernel
theorem dX0_run_282 : decode cX0_run 282 = .ok (.iconst 2, 1) := by decide +kernel
theorem dX0_run_283 : decode cX0_run 283 = .ok (.iload_n 3, 1) := by decide +kernel
theorem dX0_run_284 : decode cX0_run 284 = .ok (.iload 6, 2) := by decide +kernel
theorem dX0_run_286 : decode cX0_run 286 = .ok (.invokevirtual 32, 3) := by decide +kernel
theorem dX0_run_289 : decode cX0_run 289 = .ok (.isub, 1) := by decide +kernel
theorem dX0_run_290 : decode cX0_run 290 = .ok (.ireturn, 1) := by decide +kernel
theorem dX0_run_291 : decode cX0_run 291 = .ok (.iconst 0, 1) := by decide +kernel
theorem dX0_run_292 : decode cX0_run 292 = .ok (.ireturn, 1) := by decide +kernel
theorem dX0_bodyOf_0 : decode cX0_bodyOf 0 = .ok (.iload_n 0, 1) := by decide +kernel
theorem dX0_bodyOf_1 : decode cX0_bodyOf 1 = .ok (.istore_n 2, 1) := by decide +kernel
theorem dX0_bodyOf_2 : decode cX0_bodyOf 2 = .ok (.iconst 0, 1) := by decide +kernel
theorem dX0_bodyOf_3 : decode cX0_bodyOf 3 = .ok (.istore_n 3, 1) := by decide +kernel
theorem dX0_bodyOf_4 : decode cX0_bodyOf 4 = .ok (.iload_n 3, 1) := by decide +kernel
theorem dX0_bodyOf_5 : decode cX0_bodyOf 5 = .ok (.iconst 5, 1) := by decide +kernel
theorem dX0_bodyOf_6 : decode cX0_bodyOf 6 = .ok (.if_icmp .ge 38, 3) := by decide +kernel
theorem dX0_bodyOf_9 : decode cX0_bodyOf 9 = .ok (.iload_n 2, 1) := by decide +kernel
theorem dX0_bodyOf_10 : decode cX0_bodyOf 10 = .ok (.ifCond .lt 34, 3) := by decide +kernel
theorem dX0_bodyOf_13 : decode cX0_bodyOf 13 = .ok (.getstatic 47, 3) := by decide +kernel
theorem dX0_bodyOf_16 : decode cX0_bodyOf 16 = .ok (.iload_n 2, 1) := by decide +kernel
theorem dX0_bodyOf_17 : decode cX0_bodyOf 17 = .ok (.iconst 3, 1) := by decide +kernel
theorem dX0_bodyOf_18 : decode cX0_bodyOf 18 = .ok (.imul, 1) := by decide +kernel
theorem dX0_bodyOf_19 : decode cX0_bodyOf 19 = .ok (.iload_n 1, 1) := by decide +kernel
theorem dX0_bodyOf_20 : decode cX0_bodyOf 20 = .ok (.iadd, 1) := by decide +kernel
theorem dX0_bodyOf_21 : decode cX0_bodyOf 21 = .ok (.iaload, 1) := by decide +kernel
theorem dX0_bodyOf_22 : decode cX0_bodyOf 22 = .ok (.istore 4, 2) := by decide +kernel
theorem dX0_bodyOf_24 : decode cX0_bodyOf 24 = .ok (.iload 4, 2) := by decide +kernel
theorem dX0_bodyOf_26 : decode cX0_bodyOf 26 = .ok (.ifCond .eq 6, 3) := by decide +kernel
theorem dX0_bodyOf_29 : decode cX0_bodyOf 29 = .ok (.iload 4, 2) := by decide +kernel
theorem dX0_bodyOf_31 : decode cX0_bodyOf 31 = .ok (.ireturn, 1) := by decide +kernel
theorem dX0_bodyOf_32 : decode cX0_bodyOf 32 = .ok (.getstatic 44, 3) := by decide +kernel
theorem dX0_bodyOf_35 : decode cX0_bodyOf 35 = .ok (.iload_n 2, 1) := by decide +kernel
theorem dX0_bodyOf_36 : decode cX0_bodyOf 36 = .ok (.iaload, 1) := by decide +kernel
theorem dX0_bodyOf_37 : decode cX0_bodyOf 37 = .ok (.istore_n 2, 1) := by decide +kernel
theorem dX0_bodyOf_38 : decode cX0_bodyOf 38 = .ok (.iinc 3 1, 3) := by decide +kernel
theorem dX0_bodyOf_41 : decode cX0_bodyOf 41 = .ok (.goto (-37), 3) := by decide +kernel
theorem dX0_bodyOf_44 : decode cX0_bodyOf 44 = .ok (.iconst 0, 1) := by decide +kernel
theorem dX0_bodyOf_45 : decode cX0_bodyOf 45 = .ok (.ireturn, 1) := by decide +kernel
theorem dX0_note_0 : decode cX0_note 0 = .ok (.aload_n 0, 1) := by decide +kernel
theorem dX0_note_1 : decode cX0_note 1 = .ok (.getfield 15, 3) := by decide +kernel
theorem dX0_note_4 : decode cX0_note 4 = .ok (.bipush 40, 2) := by decide +kernel
theorem dX0_note_6 : decode cX0_note 6 = .ok (.if_icmp .ge 13, 3) := by decide +kernel
theorem dX0_note_9 : decode cX0_note 9 = .ok (.aload_n 0, 1) := by decide +kernel
theorem dX0_note_10 : decode cX0_note 10 = .ok (.getfield 9, 3) := by decide +kernel
theorem dX0_note_13 : decode cX0_note 13 = .ok (.aload_n 0, 1) := by decide +kernel
theorem dX0_note_14 : decode cX0_note 14 = .ok (.getfield 15, 3) := by decide +kernel
theorem dX0_note_17 : decode cX0_note 17 = .ok (.iload_n 1, 1) := by decide +kernel
theorem dX0_note_18 : decode cX0_note 18 = .ok (.iastore, 1) := by decide +kernel
theorem dX0_note_19 : decode cX0_note 19 = .ok (.aload_n 0, 1) := by decide +kernel
theorem dX0_note_20 : decode cX0_note 20 = .ok (.dup, 1) := by decide +kernel
theorem dX0_note_21 : decode cX0_note 21 = .ok (.getfield 15, 3) := by decide +kernel
theorem dX0_note_24 : decode cX0_note 24 = .ok (.iconst 1, 1) := by decide +kernel
theorem dX0_note_25 : decode cX0_note 25 = .ok (.iadd, 1) := by decide +kernel
theorem dX0_note_26 : decode cX0_note 26 = .ok (.putfield 15, 3) := by decide +kernel
theorem dX0_note_29 : decode cX0_note 29 = .ok (.return_, 1) := by decide +kernel
theorem dX1_raised_0 : decode cX1_raised 0 = .ok (.lconst 1, 1) := by decide +kernel
theorem dX1_raised_1 : decode cX1_raised 1 = .ok (.lstore_n 3, 1) := by decide +kernel
theorem dX1_raised_2 : decode cX1_raised 2 = .ok (.iconst 0, 1) := by decide +kernel
theorem dX1_raised_3 : decode cX1_raised 3 = .ok (.istore 5, 2) := by decide +kernel
theorem dX1_raised_5 : decode cX1_raised 5 = .ok (.iload 5, 2) := by decide +kernel
theorem dX1_raised_7 : decode cX1_raised 7 = .ok (.iload_n 2, 1) := by decide +kernel
theorem dX1_raised_8 : decode cX1_raised 8 = .ok (.if_icmp .ge 13, 3) := by decide +kernel
theorem dX1_raised_11 : decode cX1_raised 11 = .ok (.lload_n 3, 1) := by decide +kernel
theorem dX1_raised_12 : decode cX1_raised 12 = .ok (.lload_n 0, 1) := by decide +kernel
theorem dX1_raised_13 : decode cX1_raised 13 = .ok (.lmul, 1) := by decide +kernel
theorem dX1_raised_14 : decode cX1_raised 14 = .ok (.lstore_n 3, 1) := by decide +kernel
theorem dX1_raised_15 : decode cX1_raised 15 = .ok (.iinc 5 1, 3) := by decide +kernel
theorem dX1_raised_18 : decode cX1_raised 18 = .ok (.goto (-13), 3) := by decide +kernel
theorem dX1_raised_21 : decode cX1_raised 21 = .ok (.lload_n 3, 1) := by decide +kernel
theorem dX1_raised_22 : decode cX1_raised 22 = .ok (.lreturn, 1) := by decide +kernel
theorem dX1_choices_0 : decode cX1_choices 0 = .ok (.iload_n 1, 1) := by decide +kernel
theorem dX1_choices_1 : decode cX1_choices 1 = .ok (.iload_n 0, 1) := by decide +kernel
theorem dX1_choices_2 : decode cX1_choices 2 = .ok (.if_icmp .le 5, 3) := by decide +kernel
theorem dX1_choices_5 : decode cX1_choices 5 = .ok (.lconst 0, 1) := by decide +kernel
theorem dX1_choices_6 : decode cX1_choices 6 = .ok (.lreturn, 1) := by decide +kernel
theorem dX1_choices_7 : decode cX1_choices 7 = .ok (.lconst 1, 1) := by decide +kernel
theorem dX1_choices_8 : decode cX1_choices 8 = .ok (.lstore_n 2, 1) := by decide +kernel
theorem dX1_choices_9 : decode cX1_choices 9 = .ok (.iconst 1, 1) := by decide +kernel
theorem dX1_choices_10 : decode cX1_choices 10 = .ok (.istore 4, 2) := by decide +kernel
theorem dX1_choices_12 : decode cX1_choices 12 = .ok (.iload 4, 2) := by decide +kernel
theorem dX1_choices_14 : decode cX1_choices 14 = .ok (.iload_n 1, 1) := by decide +kernel
theorem dX1_choices_15 : decode cX1_choices 15 = .ok (.if_icmp .gt 23, 3) := by decide +kernel
theorem dX1_choices_18 : decode cX1_choices 18 = .ok (.lload_n 2, 1) := by decide +kernel
theorem dX1_choices_19 : decode cX1_choices 19 = .ok (.iload_n 0, 1) := by decide +kernel
theorem dX1_choices_20 : decode cX1_choices 20 = .ok (.iload_n 1, 1) := by decide +kernel
theorem dX1_choices_21 : decode cX1_choices 21 = .ok (.isub, 1) := by decide +kernel
theorem dX1_choices_22 : decode cX1_choices 22 = .ok (.iload 4, 2) := by decide +kernel
theorem dX1_choices_24 : decode cX1_choices 24 = .ok (.iadd, 1) := by decide +kernel
theorem dX1_choices_25 : decode cX1_choices 25 = .ok (.i2l, 1) := by decide +kernel
theorem dX1_choices_26 : decode cX1_choices 26 = .ok (.lmul, 1) := by decide +kernel
theorem dX1_choices_27 : decode cX1_choices 27 = .ok (.iload 4, 2) := by decide +kernel
theorem dX1_choices_29 : decode cX1_choices 29 = .ok (.i2l, 1) := by decide +kernel
theorem dX1_choices_30 : decode cX1_choices 30 = .ok (.ldiv, 1) := by decide +kernel
theorem dX1_choices_31 : decode cX1_choices 31 = .ok (.lstore_n 2, 1) := by decide +kernel
theorem dX1_choices_32 : decode cX1_choices 32 = .ok (.iinc 4 1, 3) := by decide +kernel
theorem dX1_choices_35 : decode cX1_choices 35 = .ok (.goto (-23), 3) := by decide +kernel
theorem dX1_choices_38 : decode cX1_choices 38 = .ok (.lload_n 2, 1) := by decide +kernel
theorem dX1_choices_39 : decode cX1_choices 39 = .ok (.lreturn, 1) := by decide +kernel
theorem dX1_splits_0 : decode cX1_splits 0 = .ok (.iload_n 0, 1) := by decide +kernel
theorem dX1_splits_1 : decode cX1_splits 1 = .ok (.iload_n 1, 1) := by decide +kernel
theorem dX1_splits_2 : decode cX1_splits 2 = .ok (.invokestatic 9, 3) := by decide +kernel
theorem dX1_splits_5 : decode cX1_splits 5 = .ok (.iload_n 2, 1) := by decide +kernel
theorem dX1_splits_6 : decode cX1_splits 6 = .ok (.i2l, 1) := by decide +kernel
theorem dX1_splits_7 : decode cX1_splits 7 = .ok (.iload_n 1, 1) := by decide +kernel
theorem dX1_splits_8 : decode cX1_splits 8 = .ok (.invokestatic 15, 3) := by decide +kernel
theorem dX1_splits_11 : decode cX1_splits 11 = .ok (.lmul, 1) := by decide +kernel
theorem dX1_splits_12 : decode cX1_splits 12 = .ok (.iload_n 3, 1) := by decide +kernel
theorem dX1_splits_13 : decode cX1_splits 13 = .ok (.i2l, 1) := by decide +kernel
theorem dX1_splits_14 : decode cX1_splits 14 = .ok (.iload_n 0, 1) := by decide +kernel
theorem dX1_splits_15 : decode cX1_splits 15 = .ok (.iload_n 1, 1) := by decide +kernel
theorem dX1_splits_16 : decode cX1_splits 16 = .ok (.isub, 1) := by decide +kernel
theorem dX1_splits_17 : decode cX1_splits 17 = .ok (.invokestatic 15, 3) := by decide +kernel
theorem dX1_splits_20 : decode cX1_splits 20 = .ok (.lmul, 1) := by decide +kernel
theorem dX1_splits_21 : decode cX1_splits 21 = .ok (.lreturn, 1) := by decide +kernel
theorem dX1_divisor_0 : decode cX1_divisor 0 = .ok (.lload_n 0, 1) := by decide +kernel
theorem dX1_divisor_1 : decode cX1_divisor 1 = .ok (.lstore 4, 2) := by decide +kernel
theorem dX1_divisor_3 : decode cX1_divisor 3 = .ok (.lload_n 2, 1) := by decide +kernel
theorem dX1_divisor_4 : decode cX1_divisor 4 = .ok (.lstore 6, 2) := by decide +kernel
theorem dX1_divisor_6 : decode cX1_divisor 6 = .ok (.iconst 0, 1) := by decide +kernel
theorem dX1_divisor_7 : decode cX1_divisor 7 = .ok (.istore 8, 2) := by decide +kernel
theorem dX1_divisor_9 : decode cX1_divisor 9 = .ok (.iload 8, 2) := by decide +kernel
theorem dX1_divisor_11 : decode cX1_divisor 11 = .ok (.bipush 100, 2) := by decide +kernel
theorem dX1_divisor_13 : decode cX1_divisor 13 = .ok (.if_icmp .ge 31, 3) := by decide +kernel
theorem dX1_divisor_16 : decode cX1_divisor 16 = .ok (.lload 6, 2) := by decide +kernel
theorem dX1_divisor_18 : decode cX1_divisor 18 = .ok (.lconst 0, 1) := by decide +kernel
theorem dX1_divisor_19 : decode cX1_divisor 19 = .ok (.lcmp, 1) := by decide +kernel
theorem dX1_divisor_20 : decode cX1_divisor 20 = .ok (.ifCond .eq 24, 3) := by decide +kernel
theorem dX1_divisor_23 : decode cX1_divisor 23 = .ok (.lload 4, 2) := by decide +kernel
theorem dX1_divisor_25 : decode cX1_divisor 25 = .ok (.lload 6, 2) := by decide +kernel
theorem dX1_divisor_27 : decode cX1_divisor 27 = .ok (.lrem, 1) := by decide +kernel
theorem dX1_divisor_28 : decode cX1_divisor 28 = .ok (.lstore 9, 2) := by decide +kernel
theorem dX1_divisor_30 : decode cX1_divisor 30 = .ok (.lload 6, 2) := by decide +kernel
theorem dX1_divisor_32 : decode cX1_divisor 32 = .ok (.lstore 4, 2) := by decide +kernel
theorem dX1_divisor_34 : decode cX1_divisor 34 = .ok (.lload 9, 2) := by decide +kernel
theorem dX1_divisor_36 : decode cX1_divisor 36 = .ok (.lstore 6, 2) := by decide +kernel
theorem dX1_divisor_38 : decode cX1_divisor 38 = .ok (.iinc 8 1, 3) := by decide +kernel
theorem dX1_divisor_41 : decode cX1_divisor 41 = .ok (.goto (-32), 3) := by decide +kernel
theorem dX1_divisor_44 : decode cX1_divisor 44 = .ok (.lconst 1, 1) := by decide +kernel
theorem dX1_divisor_45 : decode cX1_divisor 45 = .ok (.lload 4, 2) := by decide +kernel
theorem dX1_divisor_47 : decode cX1_divisor 47 = .ok (.invokestatic 19, 3) := by decide +kernel
theorem dX1_divisor_50 : decode cX1_divisor 50 = .ok (.lreturn, 1) := by decide +kernel
theorem dX1_part_0 : decode cX1_part 0 = .ok (.lload_n 0, 1) := by decide +kernel
theorem dX1_part_1 : decode cX1_part 1 = .ok (.lload_n 2, 1) := by decide +kernel
theorem dX1_part_2 : decode cX1_part 2 = .ok (.invokestatic 25, 3) := by decide +kernel
theorem dX1_part_5 : decode cX1_part 5 = .ok (.lstore 5, 2) := by decide +kernel
theorem dX1_part_7 : decode cX1_part 7 = .ok (.iload 4, 2) := by decide +kernel
theorem dX1_part_9 : decode cX1_part 9 = .ok (.ifCond .ne 7, 3) := by decide +kernel
theorem dX1_part_12 : decode cX1_part 12 = .ok (.lload_n 0, 1) := by decide +kernel
theorem dX1_part_13 : decode cX1_part 13 = .ok (.goto 4, 3) := by decide +kernel
theorem dX1_part_16 : decode cX1_part 16 = .ok (.lload_n 2, 1) := by decide +kernel
theorem dX1_part_17 : decode cX1_part 17 = .ok (.lload 5, 2) := by decide +kernel
theorem dX1_part_19 : decode cX1_part 19 = .ok (.ldiv, 1) := by decide +kernel
theorem dX1_part_20 : decode cX1_part 20 = .ok (.lreturn, 1) := by decide +kernel
theorem dX1_setRunCounts_0 : decode cX1_setRunCounts 0 = .ok (.aload_n 0, 1) := by decide +kernel
theorem dX1_setRunCounts_1 : decode cX1_setRunCounts 1 = .ok (.iconst 0, 1) := by decide +kernel
theorem dX1_setRunCounts_2 : decode cX1_setRunCounts 2 = .ok (.lconst 1, 1) := by decide +kernel
theorem dX1_setRunCounts_3 : decode cX1_setRunCounts 3 = .ok (.lastore, 1) := by decide +kernel
theorem dX1_setRunCounts_4 : decode cX1_setRunCounts 4 = .ok (.iconst 2, 1) := by decide +kernel
theorem dX1_setRunCounts_5 : decode cX1_setRunCounts 5 = .ok (.istore_n 2, 1) := by decide +kernel
theorem dX1_setRunCounts_6 : decode cX1_setRunCounts 6 = .ok (.iload_n 2, 1) := by decide +kernel
theorem dX1_setRunCounts_7 : decode cX1_setRunCounts 7 = .ok (.iload_n 1, 1) := by decide +kernel
theorem dX1_setRunCounts_8 : decode cX1_setRunCounts 8 = .ok (.if_icmp .gt 51, 3) := by decide +kernel
theorem dX1_setRunCounts_11 : decode cX1_setRunCounts 11 = .ok (.aload_n 0, 1) := by decide +kernel
theorem dX1_setRunCounts_12 : decode cX1_setRunCounts 12 = .ok (.iload_n 2, 1) := by decide +kernel
theorem dX1_setRunCounts_13 : decode cX1_setRunCounts 13 = .ok (.iconst 1, 1) := by decide +kernel
theorem dX1_setRunCounts_14 : decode cX1_setRunCounts 14 = .ok (.isub, 1) := by decide +kernel
theorem dX1_setRunCounts_15 : decode cX1_setRunCounts 15 = .ok (.lconst 0, 1) := by decide +kernel
theorem dX1_setRunCounts_16 : decode cX1_setRunCounts 16 = .ok (.lastore, 1) := by decide +kernel
theorem dX1_setRunCounts_17 : decode cX1_setRunCounts 17 = .ok (.iload_n 2, 1) := by decide +kernel
theorem dX1_setRunCounts_18 : decode cX1_setRunCounts 18 = .ok (.iconst 1, 1) := by decide +kernel
theorem dX1_setRunCounts_19 : decode cX1_setRunCounts 19 = .ok (.isub, 1) := by decide +kernel
theorem dX1_setRunCounts_20 : decode cX1_setRunCounts 20 = .ok (.istore_n 3, 1) := by decide +kernel
theorem dX1_setRunCounts_21 : decode cX1_setRunCounts 21 = .ok (.iload_n 3, 1) := by decide +kernel
theorem dX1_setRunCounts_22 : decode cX1_setRunCounts 22 = .ok (.ifCond .le 31, 3) := by decide +kernel
theorem dX1_setRunCounts_25 : decode cX1_setRunCounts 25 = .ok (.aload_n 0, 1) := by decide +kernel
theorem dX1_setRunCounts_26 : decode cX1_setRunCounts 26 = .ok (.iload_n 3, 1) := by decide +kernel
theorem dX1_setRunCounts_27 : decode cX1_setRunCounts 27 = .ok (.iload_n 3, 1) := by decide +kernel
theorem dX1_setRunCounts_28 : decode cX1_setRunCounts 28 = .ok (.iconst 1, 1) := by decide +kernel
theorem dX1_setRunCounts_29 : decode cX1_setRunCounts 29 = .ok (.iadd, 1) := by decide +kernel
theorem dX1_setRunCounts_30 : decode cX1_setRunCounts 30 = .ok (.i2l, 1) := by decide +kernel
theorem dX1_setRunCounts_31 : decode cX1_setRunCounts 31 = .ok (.aload_n 0, 1) := by decide +kernel
theorem dX1_setRunCounts_32 : decode cX1_setRunCounts 32 = .ok (.iload_n 3, 1) := by decide +kernel
theorem dX1_setRunCounts_33 : decode cX1_setRunCounts 33 = .ok (.laload, 1) := by decide +kernel
theorem dX1_setRunCounts_34 : decode cX1_setRunCounts 34 = .ok (.lmul, 1) := by decide +kernel
theorem dX1_setRunCounts_35 : decode cX1_setRunCounts 35 = .ok (.iload_n 2, 1) := by decide +kernel
theorem dX1_setRunCounts_36 : decode cX1_setRunCounts 36 = .ok (.iload_n 3, 1) := by decide +kernel
theorem dX1_setRunCounts_37 : decode cX1_setRunCounts 37 = .ok (.isub, 1) := by decide +kernel
theorem dX1_setRunCounts_38 : decode cX1_setRunCounts 38 = .ok (.i2l, 1) := by decide +kernel
theorem dX1_setRunCounts_39 : decode cX1_setRunCounts 39 = .ok (.aload_n 0, 1) := by decide +kernel
theorem dX1_setRunCounts_40 : decode cX1_setRunCounts 40 = .ok (.iload_n 3, 1) := by decide +kernel
theorem dX1_setRunCounts_41 : decode cX1_setRunCounts 41 = .ok (.iconst 1, 1) := by decide +kernel
theorem dX1_setRunCounts_42 : decode cX1_setRunCounts 42 = .ok (.isub, 1) := by decide +kernel
theorem dX1_setRunCounts_43 : decode cX1_setRunCounts 43 = .ok (.laload, 1) := by decide +kernel
theorem dX1_setRunCounts_44 : decode cX1_setRunCounts 44 = .ok (.lmul, 1) := by decide +kernel
theorem dX1_setRunCounts_45 : decode cX1_setRunCounts 45 = .ok (.ladd, 1) := by decide +kernel
theorem dX1_setRunCounts_46 : decode cX1_setRunCounts 46 = .ok (.lastore, 1) := by decide +kernel
theorem dX1_setRunCounts_47 : decode cX1_setRunCounts 47 = .ok (.iinc 3 (-1), 3) := by decide +kernel
theorem dX1_setRunCounts_50 : decode cX1_setRunCounts 50 = .ok (.goto (-29), 3) := by decide +kernel
theorem dX1_setRunCounts_53 : decode cX1_setRunCounts 53 = .ok (.iinc 2 1, 3) := by decide +kernel
theorem dX1_setRunCounts_56 : decode cX1_setRunCounts 56 = .ok (.goto (-50), 3) := by decide +kernel
theorem dX1_setRunCounts_59 : decode cX1_setRunCounts 59 = .ok (.return_, 1) := by decide +kernel
theorem dX1_setLooseCounts_0 : decode cX1_setLooseCounts 0 = .ok (.lconst 0, 1) := by decide +kernel
theorem dX1_setLooseCounts_1 : decode cX1_setLooseCounts 1 = .ok (.lstore_n 2, 1) := by decide +kernel
theorem dX1_setLooseCounts_2 : decode cX1_setLooseCounts 2 = .ok (.iconst 0, 1) := by decide +kernel
theorem dX1_setLooseCounts_3 : decode cX1_setLooseCounts 3 = .ok (.istore 4, 2) := by decide +kernel
theorem dX1_setLooseCounts_5 : decode cX1_setLooseCounts 5 = .ok (.iload 4, 2) := by decide +kernel
theorem dX1_setLooseCounts_7 : decode cX1_setLooseCounts 7 = .ok (.iload_n 1, 1) := by decide +kernel
theorem dX1_setLooseCounts_8 : decode cX1_setLooseCounts 8 = .ok (.if_icmp .ge 37, 3) := by decide +kernel
theorem dX1_setLooseCounts_11 : decode cX1_setLooseCounts 11 = .ok (.getstatic 28, 3) := by decide +kernel
theorem dX1_setLooseCounts_14 : decode cX1_setLooseCounts 14 = .ok (.iload_n 1, 1) := by decide +kernel
theorem dX1_setLooseCounts_15 : decode cX1_setLooseCounts 15 = .ok (.iaload, 1) := by decide +kernel
theorem dX1_setLooseCounts_16 : decode cX1_setLooseCounts 16 = .ok (.getstatic 28, 3) := by decide +kernel
theorem dX1_setLooseCounts_19 : decode cX1_setLooseCounts 19 = .ok (.iload_n 1, 1) := by decide +kernel
theorem dX1_setLooseCounts_20 : decode cX1_setLooseCounts 20 = .ok (.iload 4, 2) := by decide +kernel
theorem dX1_setLooseCounts_22 : decode cX1_setLooseCounts 22 = .ok (.isub, 1) := by decide +kernel
theorem dX1_setLooseCounts_23 : decode cX1_setLooseCounts 23 = .ok (.iaload, 1) := by decide +kernel
theorem dX1_setLooseCounts_24 : decode cX1_setLooseCounts 24 = .ok (.idiv, 1) := by decide +kernel
theorem dX1_setLooseCounts_25 : decode cX1_setLooseCounts 25 = .ok (.i2l, 1) := by decide +kernel
theorem dX1_setLooseCounts_26 : decode cX1_setLooseCounts 26 = .ok (.lstore 5, 2) := by decide +kernel
theorem dX1_setLooseCounts_28 : decode cX1_setLooseCounts 28 = .ok (.aload_n 0, 1) := by decide +kernel
theorem dX1_setLooseCounts_29 : decode cX1_setLooseCounts 29 = .ok (.iload 4, 2) := by decide +kernel
theorem dX1_setLooseCounts_31 : decode cX1_setLooseCounts 31 = .ok (.lload 5, 2) := by decide +kernel
theorem dX1_setLooseCounts_33 : decode cX1_setLooseCounts 33 = .ok (.lload_n 2, 1) := by decide +kernel
theorem dX1_setLooseCounts_34 : decode cX1_setLooseCounts 34 = .ok (.lsub, 1) := by decide +kernel
theorem dX1_setLooseCounts_35 : decode cX1_setLooseCounts 35 = .ok (.lastore, 1) := by decide +kernel
theorem dX1_setLooseCounts_36 : decode cX1_setLooseCounts 36 = .ok (.lload 5, 2) := by decide +kernel
theorem dX1_setLooseCounts_38 : decode cX1_setLooseCounts 38 = .ok (.lstore_n 2, 1) := by decide +kernel
theorem dX1_setLooseCounts_39 : decode cX1_setLooseCounts 39 = .ok (.iinc 4 1, 3) := by decide +kernel
theorem dX1_setLooseCounts_42 : decode cX1_setLooseCounts 42 = .ok (.goto (-37), 3) := by decide +kernel
theorem dX1_setLooseCounts_45 : decode cX1_setLooseCounts 45 = .ok (.return_, 1) := by decide +kernel
theorem dX1_setBlocks_0 : decode cX1_setBlocks 0 = .ok (.iconst 0, 1) := by decide +kernel
theorem dX1_setBlocks_1 : decode cX1_setBlocks 1 = .ok (.istore_n 3, 1) := by decide +kernel
theorem dX1_setBlocks_2 : decode cX1_setBlocks 2 = .ok (.iload_n 3, 1) := by decide +kernel
theorem dX1_setBlocks_3 : decode cX1_setBlocks 3 = .ok (.iload_n 1, 1) := by decide +kernel
theorem dX1_setBlocks_4 : decode cX1_setBlocks 4 = .ok (.if_icmp .gt 13, 3) := by decide +kernel
theorem dX1_setBlocks_7 : decode cX1_setBlocks 7 = .ok (.aload_n 0, 1) := by decide +kernel
theorem dX1_setBlocks_8 : decode cX1_setBlocks 8 = .ok (.iload_n 3, 1) := by decide +kernel
theorem dX1_setBlocks_9 : decode cX1_setBlocks 9 = .ok (.lconst 0, 1) := by decide +kernel
theorem dX1_setBlocks_10 : decode cX1_setBlocks 10 = .ok (.lastore, 1) := by decide +kernel
theorem dX1_setBlocks_11 : decode cX1_setBlocks 11 = .ok (.iinc 3 1, 3) := by decide +kernel
theorem dX1_setBlocks_14 : decode cX1_setBlocks 14 = .ok (.goto (-12), 3) := by decide +kernel
theorem dX1_setBlocks_17 : decode cX1_setBlocks 17 = .ok (.aload_n 0, 1) := by decide +kernel
theorem dX1_setBlocks_18 : decode cX1_setBlocks 18 = .ok (.iconst 0, 1) := by decide +kernel
theorem dX1_setBlocks_19 : decode cX1_setBlocks 19 = .ok (.lconst 1, 1) := by decide +kernel
theorem dX1_setBlocks_20 : decode cX1_setBlocks 20 = .ok (.lastore, 1) := by decide +kernel
theorem dX1_setBlocks_21 : decode cX1_setBlocks 21 = .ok (.iconst 1, 1) := by decide +kernel
theorem dX1_setBlocks_22 : decode cX1_setBlocks 22 = .ok (.istore_n 3, 1) := by decide +kernel
theorem dX1_setBlocks_23 : decode cX1_setBlocks 23 = .ok (.iload_n 3, 1) := by decide +kernel
theorem dX1_setBlocks_24 : decode cX1_setBlocks 24 = .ok (.iload_n 2, 1) := by decide +kernel
theorem dX1_setBlocks_25 : decode cX1_setBlocks 25 = .ok (.if_icmp .gt 46, 3) := by decide +kernel
theorem dX1_setBlocks_28 : decode cX1_setBlocks 28 = .ok (.iload_n 1, 1) := by decide +kernel
theorem dX1_setBlocks_29 : decode cX1_setBlocks 29 = .ok (.istore 4, 2) := by decide +kernel
theorem dX1_setBlocks_31 : decode cX1_setBlocks 31 = .ok (.iload 4, 2) := by decide +kernel
theorem dX1_setBlocks_33 : decode cX1_setBlocks 33 = .ok (.ifCond .le 28, 3) := by decide +kernel
theorem dX1_setBlocks_36 : decode cX1_setBlocks 36 = .ok (.aload_n 0, 1) := by decide +kernel
theorem dX1_setBlocks_37 : decode cX1_setBlocks 37 = .ok (.iload 4, 2) := by decide +kernel
theorem dX1_setBlocks_39 : decode cX1_setBlocks 39 = .ok (.iload 4, 2) := by decide +kernel
theorem dX1_setBlocks_41 : decode cX1_setBlocks 41 = .ok (.i2l, 1) := by decide +kernel
theorem dX1_setBlocks_42 : decode cX1_setBlocks 42 = .ok (.aload_n 0, 1) := by decide +kernel
theorem dX1_setBlocks_43 : decode cX1_setBlocks 43 = .ok (.iload 4, 2) := by decide +kernel
theorem dX1_setBlocks_45 : decode cX1_setBlocks 45 = .ok (.laload, 1) := by decide +kernel
theorem dX1_setBlocks_46 : decode cX1_setBlocks 46 = .ok (.lmul, 1) := by decide +kernel
theorem dX1_setBlocks_47 : decode cX1_setBlocks 47 = .ok (.aload_n 0, 1) := by decide +kernel
theorem dX1_setBlocks_48 : decode cX1_setBlocks 48 = .ok (.iload 4, 2) := by decide +kernel
theorem dX1_setBlocks_50 : decode cX1_setBlocks 50 = .ok (.iconst 1, 1) := by decide +kernel
theorem dX1_setBlocks_51 : decode cX1_setBlocks 51 = .ok (.isub, 1) := by decide +kernel
theorem dX1_setBlocks_52 : decode cX1_setBlocks 52 = .ok (.laload, 1) := by decide +kernel
theorem dX1_setBlocks_53 : decode cX1_setBlocks 53 = .ok (.ladd, 1) := by decide +kernel
theorem dX1_setBlocks_54 : decode cX1_setBlocks 54 = .ok (.lastore, 1) := by decide +kernel
theorem dX1_setBlocks_55 : decode cX1_setBlocks 55 = .ok (.iinc 4 (-1), 3) := by decide +kernel
theorem dX1_setBlocks_58 : decode cX1_setBlocks 58 = .ok (.goto (-27), 3) := by decide +kernel
theorem dX1_setBlocks_61 : decode cX1_setBlocks 61 = .ok (.aload_n 0, 1) := by decide +kernel
theorem dX1_setBlocks_62 : decode cX1_setBlocks 62 = .ok (.iconst 0, 1) := by decide +kernel
theorem dX1_setBlocks_63 : decode cX1_setBlocks 63 = .ok (.lconst 0, 1) := by decide +kernel
theorem dX1_setBlocks_64 : decode cX1_setBlocks 64 = .ok (.lastore, 1) := by decide +kernel
theorem dX1_setBlocks_65 : decode cX1_setBlocks 65 = .ok (.iinc 3 1, 3) := by decide +kernel
theorem dX1_setBlocks_68 : decode cX1_setBlocks 68 = .ok (.goto (-45), 3) := by decide +kernel
theorem dX1_setBlocks_71 : decode cX1_setBlocks 71 = .ok (.return_, 1) := by decide +kernel
theorem dX2_isOrder_0 : decode cX2_isOrder 0 = .ok (.iconst 0, 1) := by decide +kernel
theorem dX2_isOrder_1 : decode cX2_isOrder 1 = .ok (.istore_n 3, 1) := by decide +kernel
theorem dX2_isOrder_2 : decode cX2_isOrder 2 = .ok (.iload_n 1, 1) := by decide +kernel
theorem dX2_isOrder_3 : decode cX2_isOrder 3 = .ok (.istore 4, 2) := by decide +kernel
theorem dX2_isOrder_5 : decode cX2_isOrder 5 = .ok (.iload 4, 2) := by decide +kernel
theorem dX2_isOrder_7 : decode cX2_isOrder 7 = .ok (.iload_n 1, 1) := by decide +kernel
theorem dX2_isOrder_8 : decode cX2_isOrder 8 = .ok (.iload_n 2, 1) := by decide +kernel
theorem dX2_isOrder_9 : decode cX2_isOrder 9 = .ok (.iadd, 1) := by decide +kernel
theorem dX2_isOrder_10 : decode cX2_isOrder 10 = .ok (.if_icmp .ge 46, 3) := by decide +kernel
theorem dX2_isOrder_13 : decode cX2_isOrder 13 = .ok (.aload_n 0, 1) := by decide +kernel
theorem dX2_isOrder_14 : decode cX2_isOrder 14 = .ok (.iload 4, 2) := by decide +kernel
theorem dX2_isOrder_16 : decode cX2_isOrder 16 = .ok (.iaload, 1) := by decide +kernel
theorem dX2_isOrder_17 : decode cX2_isOrder 17 = .ok (.ifCond .lt 22, 3) := by decide +kernel
theorem dX2_isOrder_20 : decode cX2_isOrder 20 = .ok (.aload_n 0, 1) := by decide +kernel
theorem dX2_isOrder_21 : decode cX2_isOrder 21 = .ok (.iload 4, 2) := by decide +kernel
theorem dX2_isOrder_23 : decode cX2_isOrder 23 = .ok (.iaload, 1) := by decide +kernel
theorem dX2_isOrder_24 : decode cX2_isOrder 24 = .ok (.iload_n 2, 1) := by decide +kernel
theorem dX2_isOrder_25 : decode cX2_isOrder 25 = .ok (.if_icmp .ge 14, 3) := by decide +kernel
theorem dX2_isOrder_28 : decode cX2_isOrder 28 = .ok (.iload_n 3, 1) := by decide +kernel
theorem dX2_isOrder_29 : decode cX2_isOrder 29 = .ok (.aload_n 0, 1) := by decide +kernel
theorem dX2_isOrder_30 : decode cX2_isOrder 30 = .ok (.iload 4, 2) := by decide +kernel
theorem dX2_isOrder_32 : decode cX2_isOrder 32 = .ok (.iaload, 1) := by decide +kernel
theorem dX2_isOrder_33 : decode cX2_isOrder 33 = .ok (.ishr, 1) := by decide +kernel
theorem dX2_isOrder_34 : decode cX2_isOrder 34 = .ok (.iconst 1, 1) := by decide +kernel
theorem dX2_isOrder_35 : decode cX2_isOrder 35 = .ok (.iand, 1) := by decide +kernel
theorem dX2_isOrder_36 : decode cX2_isOrder 36 = .ok (.ifCond .eq 5, 3) := by decide +kernel
theorem dX2_isOrder_39 : decode cX2_isOrder 39 = .ok (.iconst 0, 1) := by decide +kernel
theorem dX2_isOrder_40 : decode cX2_isOrder 40 = .ok (.ireturn, 1) := by decide +kernel
theorem dX2_isOrder_41 : decode cX2_isOrder 41 = .ok (.iload_n 3, 1) := by decide +kernel
theorem dX2_isOrder_42 : decode cX2_isOrder 42 = .ok (.iconst 1, 1) := by decide +kernel
theorem dX2_isOrder_43 : decode cX2_isOrder 43 = .ok (.aload_n 0, 1) := by decide +kernel
theorem dX2_isOrder_44 : decode cX2_isOrder 44 = .ok (.iload 4, 2) := by decide +kernel
theorem dX2_isOrder_46 : decode cX2_isOrder 46 = .ok (.iaload, 1) := by decide +kernel
theorem dX2_isOrder_47 : decode cX2_isOrder 47 = .ok (.ishl, 1) := by decide +kernel
theorem dX2_isOrder_48 : decode cX2_isOrder 48 = .ok (.ior, 1) := by decide +kernel
theorem dX2_isOrder_49 : decode cX2_isOrder 49 = .ok (.istore_n 3, 1) := by decide +kernel
theorem dX2_isOrder_50 : decode cX2_isOrder 50 = .ok (.iinc 4 1, 3) := by decide +kernel
theorem dX2_isOrder_53 : decode cX2_isOrder 53 = .ok (.goto (-48), 3) := by decide +kernel
theorem dX2_isOrder_56 : decode cX2_isOrder 56 = .ok (.iconst 1, 1) := by decide +kernel
theorem dX2_isOrder_57 : decode cX2_isOrder 57 = .ok (.ireturn, 1) := by decide +kernel
theorem dX2_rankOf_0 : decode cX2_rankOf 0 = .ok (.iconst 0, 1) := by decide +kernel
theorem dX2_rankOf_1 : decode cX2_rankOf 1 = .ok (.istore_n 2, 1) := by decide +kernel
theorem dX2_rankOf_2 : decode cX2_rankOf 2 = .ok (.iconst 0, 1) := by decide +kernel
theorem dX2_rankOf_3 : decode cX2_rankOf 3 = .ok (.istore_n 3, 1) := by decide +kernel
theorem dX2_rankOf_4 : decode cX2_rankOf 4 = .ok (.iload_n 3, 1) := by decide +kernel
theorem dX2_rankOf_5 : decode cX2_rankOf 5 = .ok (.iload_n 1, 1) := by decide +kernel
theorem dX2_rankOf_6 : decode cX2_rankOf 6 = .ok (.if_icmp .ge 57, 3) := by decide +kernel
theorem dX2_rankOf_9 : decode cX2_rankOf 9 = .ok (.iconst 0, 1) := by decide +kernel
theorem dX2_rankOf_10 : decode cX2_rankOf 10 = .ok (.istore 4, 2) := by decide +kernel
theorem dX2_rankOf_12 : decode cX2_rankOf 12 = .ok (.iload_n 3, 1) := by decide +kernel
theorem dX2_rankOf_13 : decode cX2_rankOf 13 = .ok (.iconst 1, 1) := by decide +kernel
theorem dX2_rankOf_14 : decode cX2_rankOf 14 = .ok (.iadd, 1) := by decide +kernel
theorem dX2_rankOf_15 : decode cX2_rankOf 15 = .ok (.istore 5, 2) := by decide +kernel
theorem dX2_rankOf_17 : decode cX2_rankOf 17 = .ok (.iload 5, 2) := by decide +kernel
theorem dX2_rankOf_19 : decode cX2_rankOf 19 = .ok (.iload_n 1, 1) := by decide +kernel
theorem dX2_rankOf_20 : decode cX2_rankOf 20 = .ok (.if_icmp .ge 22, 3) := by decide +kernel
theorem dX2_rankOf_23 : decode cX2_rankOf 23 = .ok (.aload_n 0, 1) := by decide +kernel
theorem dX2_rankOf_24 : decode cX2_rankOf 24 = .ok (.iload 5, 2) := by decide +kernel
theorem dX2_rankOf_26 : decode cX2_rankOf 26 = .ok (.iaload, 1) := by decide +kernel
theorem dX2_rankOf_27 : decode cX2_rankOf 27 = .ok (.aload_n 0, 1) := by decide +kernel
theorem dX2_rankOf_28 : decode cX2_rankOf 28 = .ok (.iload_n 3, 1) := by decide +kernel
theorem dX2_rankOf_29 : decode cX2_rankOf 29 = .ok (.iaload, 1) := by decide +kernel
theorem dX2_rankOf_30 : decode cX2_rankOf 30 = .ok (.if_icmp .ge 6, 3) := by decide +kernel
theorem dX2_rankOf_33 : decode cX2_rankOf 33 = .ok (.iinc 4 1, 3) := by decide +kernel
theorem dX2_rankOf_36 : decode cX2_rankOf 36 = .ok (.iinc 5 1, 3) := by decide +kernel
theorem dX2_rankOf_39 : decode cX2_rankOf 39 = .ok (.goto (-22), 3) := by decide +kernel
theorem dX2_rankOf_42 : decode cX2_rankOf 42 = .ok (.iload_n 2, 1) := by decide +kernel
theorem dX2_rankOf_43 : decode cX2_rankOf 43 = .ok (.iload 4, 2) := by decide +kernel
theorem dX2_rankOf_45 : decode cX2_rankOf 45 = .ok (.getstatic 7, 3) := by decide +kernel
theorem dX2_rankOf_48 : decode cX2_rankOf 48 = .ok (.iload_n 1, 1) := by decide +kernel
theorem dX2_rankOf_49 : decode cX2_rankOf 49 = .ok (.iconst 1, 1) := by decide +kernel
theorem dX2_rankOf_50 : decode cX2_rankOf 50 = .ok (.isub, 1) := by decide +kernel
theorem dX2_rankOf_51 : decode cX2_rankOf 51 = .ok (.iload_n 3, 1) := by decide +kernel
theorem dX2_rankOf_52 : decode cX2_rankOf 52 = .ok (.isub, 1) := by decide +kernel
theorem dX2_rankOf_53 : decode cX2_rankOf 53 = .ok (.iaload, 1) := by decide +kernel
theorem dX2_rankOf_54 : decode cX2_rankOf 54 = .ok (.imul, 1) := by decide +kernel
theorem dX2_rankOf_55 : decode cX2_rankOf 55 = .ok (.iadd, 1) := by decide +kernel
theorem dX2_rankOf_56 : decode cX2_rankOf 56 = .ok (.istore_n 2, 1) := by decide +kernel
theorem dX2_rankOf_57 : decode cX2_rankOf 57 = .ok (.iinc 3 1, 3) := by decide +kernel
theorem dX2_rankOf_60 : decode cX2_rankOf 60 = .ok (.goto (-56), 3) := by decide +kernel
theorem dX2_rankOf_63 : decode cX2_rankOf 63 = .ok (.iload_n 2, 1) := by decide +kernel
theorem dX2_rankOf_64 : decode cX2_rankOf 64 = .ok (.ireturn, 1) := by decide +kernel
theorem dX2_setByRank_0 : decode cX2_setByRank 0 = .ok (.iconst 0, 1) := by decide +kernel
theorem dX2_setByRank_1 : decode cX2_setByRank 1 = .ok (.istore_n 3, 1) := by decide +kernel
theorem dX2_setByRank_2 : decode cX2_setByRank 2 = .ok (.iload_n 2, 1) := by decide +kernel
theorem dX2_setByRank_3 : decode cX2_setByRank 3 = .ok (.istore 4, 2) := by decide +kernel
theorem dX2_setByRank_5 : decode cX2_setByRank 5 = .ok (.iconst 0, 1) := by decide +kernel
theorem dX2_setByRank_6 : decode cX2_setByRank 6 = .ok (.istore 5, 2) := by decide +kernel
theorem dX2_setByRank_8 : decode cX2_setByRank 8 = .ok (.iload 5, 2) := by decide +kernel
theorem dX2_setByRank_10 : decode cX2_setByRank 10 = .ok (.iload_n 1, 1) := by decide +kernel
theorem dX2_setByRank_11 : decode cX2_setByRank 11 = .ok (.if_icmp .ge 53, 3) := by decide +kernel
theorem dX2_setByRank_14 : decode cX2_setByRank 14 = .ok (.getstatic 7, 3) := by decide +kernel
theorem dX2_setByRank_17 : decode cX2_setByRank 17 = .ok (.iload_n 1, 1) := by decide +kernel
theorem dX2_setByRank_18 : decode cX2_setByRank 18 = .ok (.iconst 1, 1) := by decide +kernel
theorem dX2_setByRank_19 : decode cX2_setByRank 19 = .ok (.isub, 1) := by decide +kernel
theorem dX2_setByRank_20 : decode cX2_setByRank 20 = .ok (.iload 5, 2) := by decide +kernel
theorem dX2_setByRank_22 : decode cX2_setByRank 22 = .ok (.isub, 1) := by decide +kernel
theorem dX2_setByRank_23 : decode cX2_setByRank 23 = .ok (.iaload, 1) := by decide +kernel
theorem dX2_setByRank_24 : decode cX2_setByRank 24 = .ok (.istore 6, 2) := by decide +kernel
theorem dX2_setByRank_26 : decode cX2_setByRank 26 = .ok (.iload_n 3, 1) := by decide +kernel
theorem dX2_setByRank_27 : decode cX2_setByRank 27 = .ok (.iload_n 1, 1) := by decide +kernel
theorem dX2_setByRank_28 : decode cX2_setByRank 28 = .ok (.iload 4, 2) := by decide +kernel
theorem dX2_setByRank_30 : decode cX2_setByRank 30 = .ok (.iload 6, 2) := by decide +kernel
theorem dX2_setByRank_32 : decode cX2_setByRank 32 = .ok (.idiv, 1) := by decide +kernel
theorem dX2_setByRank_33 : decode cX2_setByRank 33 = .ok (.invokestatic 13, 3) := by decide +kernel
theorem dX2_setByRank_36 : decode cX2_setByRank 36 = .ok (.istore 7, 2) := by decide +kernel
theorem dX2_setByRank_38 : decode cX2_setByRank 38 = .ok (.iload_n 3, 1) := by decide +kernel
theorem dX2_setByRank_39 : decode cX2_setByRank 39 = .ok (.iconst 1, 1) := by decide +kernel
theorem dX2_setByRank_40 : decode cX2_setByRank 40 = .ok (.iload 7, 2) := by decide +kernel
theorem dX2_setByRank_42 : decode cX2_setByRank 42 = .ok (.ishl, 1) := by decide +kernel
theorem dX2_setByRank_43 : decode cX2_setByRank 43 = .ok (.ior, 1) := by decide +kernel
theorem dX2_setByRank_44 : decode cX2_setByRank 44 = .ok (.istore_n 3, 1) := by decide +kernel
theorem dX2_setByRank_45 : decode cX2_setByRank 45 = .ok (.aload_n 0, 1) := by decide +kernel
theorem dX2_setByRank_46 : decode cX2_setByRank 46 = .ok (.iload 5, 2) := by decide +kernel
theorem dX2_setByRank_48 : decode cX2_setByRank 48 = .ok (.iload 7, 2) := by decide +kernel
theorem dX2_setByRank_50 : decode cX2_setByRank 50 = .ok (.iastore, 1) := by decide +kernel
theorem dX2_setByRank_51 : decode cX2_setByRank 51 = .ok (.iload 4, 2) := by decide +kernel
theorem dX2_setByRank_53 : decode cX2_setByRank 53 = .ok (.iload 6, 2) := by decide +kernel
theorem dX2_setByRank_55 : decode cX2_setByRank 55 = .ok (.irem, 1) := by decide +kernel
theorem dX2_setByRank_56 : decode cX2_setByRank 56 = .ok (.istore 4, 2) := by decide +kernel
theorem dX2_setByRank_58 : decode cX2_setByRank 58 = .ok (.iinc 5 1, 3) := by decide +kernel
theorem dX2_setByRank_61 : decode cX2_setByRank 61 = .ok (.goto (-53), 3) := by decide +kernel
theorem dX2_setByRank_64 : decode cX2_setByRank 64 = .ok (.return_, 1) := by decide +kernel
theorem dX2_unused_0 : decode cX2_unused 0 = .ok (.iload_n 2, 1) := by decide +kernel
theorem dX2_unused_1 : decode cX2_unused 1 = .ok (.istore_n 3, 1) := by decide +kernel
theorem dX2_unused_2 : decode cX2_unused 2 = .ok (.iconst 0, 1) := by decide +kernel
theorem dX2_unused_3 : decode cX2_unused 3 = .ok (.istore 4, 2) := by decide +kernel
theorem dX2_unused_5 : decode cX2_unused 5 = .ok (.iload 4, 2) := by decide +kernel
theorem dX2_unused_7 : decode cX2_unused 7 = .ok (.iload_n 1, 1) := by decide +kernel
theorem dX2_unused_8 : decode cX2_unused 8 = .ok (.if_icmp .ge 28, 3) := by decide +kernel
theorem dX2_unused_11 : decode cX2_unused 11 = .ok (.iload_n 0, 1) := by decide +kernel
theorem dX2_unused_12 : decode cX2_unused 12 = .ok (.iload 4, 2) := by decide +kernel
theorem dX2_unused_14 : decode cX2_unused 14 = .ok (.ishr, 1) := by decide +kernel
theorem dX2_unused_15 : decode cX2_unused 15 = .ok (.iconst 1, 1) := by decide +kernel
theorem dX2_unused_16 : decode cX2_unused 16 = .ok (.iand, 1) := by decide +kernel
theorem dX2_unused_17 : decode cX2_unused 17 = .ok (.ifCond .ne 13, 3) := by decide +kernel
theorem dX2_unused_20 : decode cX2_unused 20 = .ok (.iload_n 3, 1) := by decide +kernel
theorem dX2_unused_21 : decode cX2_unused 21 = .ok (.ifCond .ne 6, 3) := by decide +kernel
theorem dX2_unused_24 : decode cX2_unused 24 = .ok (.iload 4, 2) := by decide +kernel
theorem dX2_unused_26 : decode cX2_unused 26 = .ok (.ireturn, 1) := by decide +kernel
theorem dX2_unused_27 : decode cX2_unused 27 = .ok (.iinc 3 (-1), 3) := by decide +kernel
theorem dX2_unused_30 : decode cX2_unused 30 = .ok (.iinc 4 1, 3) := by decide +kernel
theorem dX2_unused_33 : decode cX2_unused 33 = .ok (.goto (-28), 3) := by decide +kernel
theorem dX2_unused_36 : decode cX2_unused 36 = .ok (.iconst 0, 1) := by decide +kernel
theorem dX2_unused_37 : decode cX2_unused 37 = .ok (.ireturn, 1) := by decide +kernel
theorem dX2_setBack_0 : decode cX2_setBack 0 = .ok (.iconst 0, 1) := by decide +kernel
theorem dX2_setBack_1 : decode cX2_setBack 1 = .ok (.istore_n 3, 1) := by decide +kernel
theorem dX2_setBack_2 : decode cX2_setBack 2 = .ok (.iload_n 3, 1) := by decide +kernel
theorem dX2_setBack_3 : decode cX2_setBack 3 = .ok (.iload_n 2, 1) := by decide +kernel
theorem dX2_setBack_4 : decode cX2_setBack 4 = .ok (.if_icmp .ge 15, 3) := by decide +kernel
theorem dX2_setBack_7 : decode cX2_setBack 7 = .ok (.aload_n 1, 1) := by decide +kernel
theorem dX2_setBack_8 : decode cX2_setBack 8 = .ok (.aload_n 0, 1) := by decide +kernel
theorem dX2_setBack_9 : decode cX2_setBack 9 = .ok (.iload_n 3, 1) := by decide +kernel
theorem dX2_setBack_10 : decode cX2_setBack 10 = .ok (.iaload, 1) := by decide +kernel
theorem dX2_setBack_11 : decode cX2_setBack 11 = .ok (.iload_n 3, 1) := by decide +kernel
theorem dX2_setBack_12 : decode cX2_setBack 12 = .ok (.iastore, 1) := by decide +kernel
theorem dX2_setBack_13 : decode cX2_setBack 13 = .ok (.iinc 3 1, 3) := by decide +kernel
theorem dX2_setBack_16 : decode cX2_setBack 16 = .ok (.goto (-14), 3) := by decide +kernel
theorem dX2_setBack_19 : decode cX2_setBack 19 = .ok (.return_, 1) := by decide +kernel
theorem dX2_setThrough_0 : decode cX2_setThrough 0 = .ok (.iconst 0, 1) := by decide +kernel
theorem dX2_setThrough_1 : decode cX2_setThrough 1 = .ok (.istore 4, 2) := by decide +kernel
theorem dX2_setThrough_3 : decode cX2_setThrough 3 = .ok (.iload 4, 2) := by decide +kernel
theorem dX2_setThrough_5 : decode cX2_setThrough 5 = .ok (.iload_n 3, 1) := by decide +kernel
theorem dX2_setThrough_6 : decode cX2_setThrough 6 = .ok (.if_icmp .ge 19, 3) := by decide +kernel
theorem dX2_setThrough_9 : decode cX2_setThrough 9 = .ok (.aload_n 2, 1) := by decide +kernel
theorem dX2_setThrough_10 : decode cX2_setThrough 10 = .ok (.iload 4, 2) := by decide +kernel
theorem dX2_setThrough_12 : decode cX2_setThrough 12 = .ok (.aload_n 0, 1) := by decide +kernel
theorem dX2_setThrough_13 : decode cX2_setThrough 13 = .ok (.aload_n 1, 1) := by decide +kernel
theorem dX2_setThrough_14 : decode cX2_setThrough 14 = .ok (.iload 4, 2) := by decide +kernel
theorem dX2_setThrough_16 : decode cX2_setThrough 16 = .ok (.iaload, 1) := by decide +kernel
theorem dX2_setThrough_17 : decode cX2_setThrough 17 = .ok (.iaload, 1) := by decide +kernel
theorem dX2_setThrough_18 : decode cX2_setThrough 18 = .ok (.iastore, 1) := by decide +kernel
theorem dX2_setThrough_19 : decode cX2_setThrough 19 = .ok (.iinc 4 1, 3) := by decide +kernel
theorem dX2_setThrough_22 : decode cX2_setThrough 22 = .ok (.goto (-19), 3) := by decide +kernel
theorem dX2_setThrough_25 : decode cX2_setThrough 25 = .ok (.return_, 1) := by decide +kernel
theorem dX2_setDealt_0 : decode cX2_setDealt 0 = .ok (.iconst 0, 1) := by decide +kernel
theorem dX2_setDealt_1 : decode cX2_setDealt 1 = .ok (.istore_n 3, 1) := by decide +kernel
theorem dX2_setDealt_2 : decode cX2_setDealt 2 = .ok (.iconst 0, 1) := by decide +kernel
theorem dX2_setDealt_3 : decode cX2_setDealt 3 = .ok (.istore 4, 2) := by decide +kernel
theorem dX2_setDealt_5 : decode cX2_setDealt 5 = .ok (.iload 4, 2) := by decide +kernel
theorem dX2_setDealt_7 : decode cX2_setDealt 7 = .ok (.iload_n 2, 1) := by decide +kernel
theorem dX2_setDealt_8 : decode cX2_setDealt 8 = .ok (.if_icmp .ge 57, 3) := by decide +kernel
theorem dX2_setDealt_11 : decode cX2_setDealt 11 = .ok (.iload 4, 2) := by decide +kernel
theorem dX2_setDealt_13 : decode cX2_setDealt 13 = .ok (.iload_n 1, 1) := by decide +kernel
theorem dX2_setDealt_14 : decode cX2_setDealt 14 = .ok (.iconst 1, 1) := by decide +kernel
theorem dX2_setDealt_15 : decode cX2_setDealt 15 = .ok (.isub, 1) := by decide +kernel
theorem dX2_setDealt_16 : decode cX2_setDealt 16 = .ok (.iload 4, 2) := by decide +kernel
theorem dX2_setDealt_18 : decode cX2_setDealt 18 = .ok (.isub, 1) := by decide +kernel
theorem dX2_setDealt_19 : decode cX2_setDealt 19 = .ok (.iload_n 2, 1) := by decide +kernel
theorem dX2_setDealt_20 : decode cX2_setDealt 20 = .ok (.idiv, 1) := by decide +kernel
theorem dX2_setDealt_21 : decode cX2_setDealt 21 = .ok (.iload_n 2, 1) := by decide +kernel
theorem dX2_setDealt_22 : decode cX2_setDealt 22 = .ok (.imul, 1) := by decide +kernel
theorem dX2_setDealt_23 : decode cX2_setDealt 23 = .ok (.iadd, 1) := by decide +kernel
theorem dX2_setDealt_24 : decode cX2_setDealt 24 = .ok (.istore 5, 2) := by decide +kernel
theorem dX2_setDealt_26 : decode cX2_setDealt 26 = .ok (.iload 5, 2) := by decide +kernel
theorem dX2_setDealt_28 : decode cX2_setDealt 28 = .ok (.istore 6, 2) := by decide +kernel
theorem dX2_setDealt_30 : decode cX2_setDealt 30 = .ok (.iload 6, 2) := by decide +kernel
theorem dX2_setDealt_32 : decode cX2_setDealt 32 = .ok (.iload 4, 2) := by decide +kernel
theorem dX2_setDealt_34 : decode cX2_setDealt 34 = .ok (.if_icmp .lt 25, 3) := by decide +kernel
theorem dX2_setDealt_37 : decode cX2_setDealt 37 = .ok (.iload_n 3, 1) := by decide +kernel
theorem dX2_setDealt_38 : decode cX2_setDealt 38 = .ok (.iload_n 1, 1) := by decide +kernel
theorem dX2_setDealt_39 : decode cX2_setDealt 39 = .ok (.if_icmp .ge 20, 3) := by decide +kernel
theorem dX2_setDealt_42 : decode cX2_setDealt 42 = .ok (.aload_n 0, 1) := by decide +kernel
theorem dX2_setDealt_43 : decode cX2_setDealt 43 = .ok (.iload_n 3, 1) := by decide +kernel
theorem dX2_setDealt_44 : decode cX2_setDealt 44 = .ok (.iload 6, 2) := by decide +kernel
theorem dX2_setDealt_46 : decode cX2_setDealt 46 = .ok (.iastore, 1) := by decide +kernel
theorem dX2_setDealt_47 : decode cX2_setDealt 47 = .ok (.iinc 3 1, 3) := by decide +kernel
theorem dX2_setDealt_50 : decode cX2_setDealt 50 = .ok (.iload 6, 2) := by decide +kernel
theorem dX2_setDealt_52 : decode cX2_setDealt 52 = .ok (.iload_n 2, 1) := by decide +kernel
theorem dX2_setDealt_53 : decode cX2_setDealt 53 = .ok (.isub, 1) := by decide +kernel
theorem dX2_setDealt_54 : decode cX2_setDealt 54 = .ok (.istore 6, 2) := by decide +kernel
theorem dX2_setDealt_56 : decode cX2_setDealt 56 = .ok (.goto (-26), 3) := by decide +kernel
theorem dX2_setDealt_59 : decode cX2_setDealt 59 = .ok (.iinc 4 1, 3) := by decide +kernel
theorem dX2_setDealt_62 : decode cX2_setDealt 62 = .ok (.goto (-57), 3) := by decide +kernel
theorem dX2_setDealt_65 : decode cX2_setDealt 65 = .ok (.return_, 1) := by decide +kernel
theorem dX2_runsOf_0 : decode cX2_runsOf 0 = .ok (.iconst 1, 1) := by decide +kernel
theorem dX2_runsOf_1 : decode cX2_runsOf 1 = .ok (.istore_n 2, 1) := by decide +kernel
theorem dX2_runsOf_2 : decode cX2_runsOf 2 = .ok (.iconst 1, 1) := by decide +kernel
theorem dX2_runsOf_3 : decode cX2_runsOf 3 = .ok (.istore_n 3, 1) := by decide +kernel
theorem dX2_runsOf_4 : decode cX2_runsOf 4 = .ok (.iload_n 3, 1) := by decide +kernel
theorem dX2_runsOf_5 : decode cX2_runsOf 5 = .ok (.iload_n 1, 1) := by decide +kernel
theorem dX2_runsOf_6 : decode cX2_runsOf 6 = .ok (.if_icmp .ge 23, 3) := by decide +kernel
theorem dX2_runsOf_9 : decode cX2_runsOf 9 = .ok (.aload_n 0, 1) := by decide +kernel
theorem dX2_runsOf_10 : decode cX2_runsOf 10 = .ok (.iload_n 3, 1) := by decide +kernel
theorem dX2_runsOf_11 : decode cX2_runsOf 11 = .ok (.iaload, 1) := by decide +kernel
theorem dX2_runsOf_12 : decode cX2_runsOf 12 = .ok (.aload_n 0, 1) := by decide +kernel
theorem dX2_runsOf_13 : decode cX2_runsOf 13 = .ok (.iload_n 3, 1) := by decide +kernel
theorem dX2_runsOf_14 : decode cX2_runsOf 14 = .ok (.iconst 1, 1) := by decide +kernel
theorem dX2_runsOf_15 : decode cX2_runsOf 15 = .ok (.isub, 1) := by decide +kernel
theorem dX2_runsOf_16 : decode cX2_runsOf 16 = .ok (.iaload, 1) := by decide +kernel
theorem dX2_runsOf_17 : decode cX2_runsOf 17 = .ok (.if_icmp .ge 6, 3) := by decide +kernel
theorem dX2_runsOf_20 : decode cX2_runsOf 20 = .ok (.iinc 2 1, 3) := by decide +kernel
theorem dX2_runsOf_23 : decode cX2_runsOf 23 = .ok (.iinc 3 1, 3) := by decide +kernel
theorem dX2_runsOf_26 : decode cX2_runsOf 26 = .ok (.goto (-22), 3) := by decide +kernel
theorem dX2_runsOf_29 : decode cX2_runsOf 29 = .ok (.iload_n 2, 1) := by decide +kernel
theorem dX2_runsOf_30 : decode cX2_runsOf 30 = .ok (.ireturn, 1) := by decide +kernel
theorem dX2_looseOf_0 : decode cX2_looseOf 0 = .ok (.iload_n 1, 1) := by decide +kernel
theorem dX2_looseOf_1 : decode cX2_looseOf 1 = .ok (.iconst 1, 1) := by decide +kernel
theorem dX2_looseOf_2 : decode cX2_looseOf 2 = .ok (.isub, 1) := by decide +kernel
theorem dX2_looseOf_3 : decode cX2_looseOf 3 = .ok (.istore_n 2, 1) := by decide +kernel
theorem dX2_looseOf_4 : decode cX2_looseOf 4 = .ok (.iload_n 2, 1) := by decide +kernel
theorem dX2_looseOf_5 : decode cX2_looseOf 5 = .ok (.ifCond .le 20, 3) := by decide +kernel
theorem dX2_looseOf_8 : decode cX2_looseOf 8 = .ok (.aload_n 0, 1) := by decide +kernel
theorem dX2_looseOf_9 : decode cX2_looseOf 9 = .ok (.iload_n 2, 1) := by decide +kernel
theorem dX2_looseOf_10 : decode cX2_looseOf 10 = .ok (.iconst 1, 1) := by decide +kernel
theorem dX2_looseOf_11 : decode cX2_looseOf 11 = .ok (.isub, 1) := by decide +kernel
theorem dX2_looseOf_12 : decode cX2_looseOf 12 = .ok (.iaload, 1) := by decide +kernel
theorem dX2_looseOf_13 : decode cX2_looseOf 13 = .ok (.aload_n 0, 1) := by decide +kernel
theorem dX2_looseOf_14 : decode cX2_looseOf 14 = .ok (.iload_n 2, 1) := by decide +kernel
theorem dX2_looseOf_15 : decode cX2_looseOf 15 = .ok (.iaload, 1) := by decide +kernel
theorem dX2_looseOf_16 : decode cX2_looseOf 16 = .ok (.if_icmp .ge 9, 3) := by decide +kernel
theorem dX2_looseOf_19 : decode cX2_looseOf 19 = .ok (.iinc 2 (-1), 3) := by decide +kernel
theorem dX2_looseOf_22 : decode cX2_looseOf 22 = .ok (.goto (-18), 3) := by decide +kernel
theorem dX2_looseOf_25 : decode cX2_looseOf 25 = .ok (.iload_n 2, 1) := by decide +kernel
theorem dX2_looseOf_26 : decode cX2_looseOf 26 = .ok (.ireturn, 1) := by decide +kernel
theorem dX3_lengthFrom_0 : decode cX3_lengthFrom 0 = .ok (.iconst 1, 1) := by decide +kernel
theorem dX3_lengthFrom_1 : decode cX3_lengthFrom 1 = .ok (.istore_n 3, 1) := by decide +kernel
theorem dX3_lengthFrom_2 : decode cX3_lengthFrom 2 = .ok (.aload_n 0, 1) := by decide +kernel
theorem dX3_lengthFrom_3 : decode cX3_lengthFrom 3 = .ok (.iload_n 2, 1) := by decide +kernel
theorem dX3_lengthFrom_4 : decode cX3_lengthFrom 4 = .ok (.iaload, 1) := by decide +kernel
theorem dX3_lengthFrom_5 : decode cX3_lengthFrom 5 = .ok (.istore 4, 2) := by decide +kernel
theorem dX3_lengthFrom_7 : decode cX3_lengthFrom 7 = .ok (.iload_n 3, 1) := by decide +kernel
theorem dX3_lengthFrom_8 : decode cX3_lengthFrom 8 = .ok (.iload_n 1, 1) := by decide +kernel
theorem dX3_lengthFrom_9 : decode cX3_lengthFrom 9 = .ok (.if_icmp .ge 21, 3) := by decide +kernel
theorem dX3_lengthFrom_12 : decode cX3_lengthFrom 12 = .ok (.iload 4, 2) := by decide +kernel
theorem dX3_lengthFrom_14 : decode cX3_lengthFrom 14 = .ok (.iload_n 2, 1) := by decide +kernel
theorem dX3_lengthFrom_15 : decode cX3_lengthFrom 15 = .ok (.if_icmp .eq 15, 3) := by decide +kernel
theorem dX3_lengthFrom_18 : decode cX3_lengthFrom 18 = .ok (.aload_n 0, 1) := by decide +kernel
theorem dX3_lengthFrom_19 : decode cX3_lengthFrom 19 = .ok (.iload 4, 2) := by decide +kernel
theorem dX3_lengthFrom_21 : decode cX3_lengthFrom 21 = .ok (.iaload, 1) := by decide +kernel
theorem dX3_lengthFrom_22 : decode cX3_lengthFrom 22 = .ok (.istore 4, 2) := by decide +kernel
theorem dX3_lengthFrom_24 : decode cX3_lengthFrom 24 = .ok (.iinc 3 1, 3) := by decide +kernel
theorem dX3_lengthFrom_27 : decode cX3_lengthFrom 27 = .ok (.goto (-20), 3) := by decide +kernel
theorem dX3_lengthFrom_30 : decode cX3_lengthFrom 30 = .ok (.iload_n 3, 1) := by decide +kernel
theorem dX3_lengthFrom_31 : decode cX3_lengthFrom 31 = .ok (.ireturn, 1) := by decide +kernel
theorem dX3_howMany_0 : decode cX3_howMany 0 = .ok (.iconst 0, 1) := by decide +kernel
theorem dX3_howMany_1 : decode cX3_howMany 1 = .ok (.istore_n 2, 1) := by decide +kernel
theorem dX3_howMany_2 : decode cX3_howMany 2 = .ok (.iconst 0, 1) := by decide +kernel
theorem dX3_howMany_3 : decode cX3_howMany 3 = .ok (.istore_n 3, 1) := by decide +kernel
theorem dX3_howMany_4 : decode cX3_howMany 4 = .ok (.iload_n 3, 1) := by decide +kernel
theorem dX3_howMany_5 : decode cX3_howMany 5 = .ok (.iload_n 1, 1) := by decide +kernel
theorem dX3_howMany_6 : decode cX3_howMany 6 = .ok (.if_icmp .ge 50, 3) := by decide +kernel
theorem dX3_howMany_9 : decode cX3_howMany 9 = .ok (.aload_n 0, 1) := by decide +kernel
theorem dX3_howMany_10 : decode cX3_howMany 10 = .ok (.iload_n 3, 1) := by decide +kernel
theorem dX3_howMany_11 : decode cX3_howMany 11 = .ok (.iaload, 1) := by decide +kernel
theorem dX3_howMany_12 : decode cX3_howMany 12 = .ok (.istore 4, 2) := by decide +kernel
theorem dX3_howMany_14 : decode cX3_howMany 14 = .ok (.iconst 0, 1) := by decide +kernel
theorem dX3_howMany_15 : decode cX3_howMany 15 = .ok (.istore 5, 2) := by decide +kernel
theorem dX3_howMany_17 : decode cX3_howMany 17 = .ok (.iload 5, 2) := by decide +kernel
theorem dX3_howMany_19 : decode cX3_howMany 19 = .ok (.iload_n 1, 1) := by decide +kernel
theorem dX3_howMany_20 : decode cX3_howMany 20 = .ok (.if_icmp .ge 21, 3) := by decide +kernel
theorem dX3_howMany_23 : decode cX3_howMany 23 = .ok (.iload 4, 2) := by decide +kernel
theorem dX3_howMany_25 : decode cX3_howMany 25 = .ok (.iload_n 3, 1) := by decide +kernel
theorem dX3_howMany_26 : decode cX3_howMany 26 = .ok (.if_icmp .le 15, 3) := by decide +kernel
theorem dX3_howMany_29 : decode cX3_howMany 29 = .ok (.aload_n 0, 1) := by decide +kernel
theorem dX3_howMany_30 : decode cX3_howMany 30 = .ok (.iload 4, 2) := by decide +kernel
theorem dX3_howMany_32 : decode cX3_howMany 32 = .ok (.iaload, 1) := by decide +kernel
theorem dX3_howMany_33 : decode cX3_howMany 33 = .ok (.istore 4, 2) := by decide +kernel
theorem dX3_howMany_35 : decode cX3_howMany 35 = .ok (.iinc 5 1, 3) := by decide +kernel
theorem dX3_howMany_38 : decode cX3_howMany 38 = .ok (.goto (-21), 3) := by decide +kernel
theorem dX3_howMany_41 : decode cX3_howMany 41 = .ok (.iload 4, 2) := by decide +kernel
theorem dX3_howMany_43 : decode cX3_howMany 43 = .ok (.iload_n 3, 1) := by decide +kernel
theorem dX3_howMany_44 : decode cX3_howMany 44 = .ok (.if_icmp .ne 6, 3) := by decide +kernel
theorem dX3_howMany_47 : decode cX3_howMany 47 = .ok (.iinc 2 1, 3) := by decide +kernel
theorem dX3_howMany_50 : decode cX3_howMany 50 = .ok (.iinc 3 1, 3) := by decide +kernel
theorem dX3_howMany_53 : decode cX3_howMany 53 = .ok (.goto (-49), 3) := by decide +kernel
theorem dX3_howMany_56 : decode cX3_howMany 56 = .ok (.iload_n 2, 1) := by decide +kernel
theorem dX3_howMany_57 : decode cX3_howMany 57 = .ok (.ireturn, 1) := by decide +kernel
theorem dX3_leastPower_0 : decode cX3_leastPower 0 = .ok (.iconst 1, 1) := by decide +kernel
theorem dX3_leastPower_1 : decode cX3_leastPower 1 = .ok (.istore_n 2, 1) := by decide +kernel
theorem dX3_leastPower_2 : decode cX3_leastPower 2 = .ok (.iconst 0, 1) := by decide +kernel
theorem dX3_leastPower_3 : decode cX3_leastPower 3 = .ok (.istore_n 3, 1) := by decide +kernel
theorem dX3_leastPower_4 : decode cX3_leastPower 4 = .ok (.iload_n 3, 1) := by decide +kernel
theorem dX3_leastPower_5 : decode cX3_leastPower 5 = .ok (.iload_n 1, 1) := by decide +kernel
theorem dX3_leastPower_6 : decode cX3_leastPower 6 = .ok (.if_icmp .ge 32, 3) := by decide +kernel
theorem dX3_leastPower_9 : decode cX3_leastPower 9 = .ok (.aload_n 0, 1) := by decide +kernel
theorem dX3_leastPower_10 : decode cX3_leastPower 10 = .ok (.iload_n 1, 1) := by decide +kernel
theorem dX3_leastPower_11 : decode cX3_leastPower 11 = .ok (.iload_n 3, 1) := by decide +kernel
theorem dX3_leastPower_12 : decode cX3_leastPower 12 = .ok (.invokestatic 7, 3) := by decide +kernel
theorem dX3_leastPower_15 : decode cX3_leastPower 15 = .ok (.istore 4, 2) := by decide +kernel
theorem dX3_leastPower_17 : decode cX3_leastPower 17 = .ok (.iload_n 2, 1) := by decide +kernel
theorem dX3_leastPower_18 : decode cX3_leastPower 18 = .ok (.iload 4, 2) := by decide +kernel
theorem dX3_leastPower_20 : decode cX3_leastPower 20 = .ok (.iload_n 2, 1) := by decide +kernel
theorem dX3_leastPower_21 : decode cX3_leastPower 21 = .ok (.i2l, 1) := by decide +kernel
theorem dX3_leastPower_22 : decode cX3_leastPower 22 = .ok (.iload 4, 2) := by decide +kernel
theorem dX3_leastPower_24 : decode cX3_leastPower 24 = .ok (.i2l, 1) := by decide +kernel
theorem dX3_leastPower_25 : decode cX3_leastPower 25 = .ok (.invokestatic 13, 3) := by decide +kernel
theorem dX3_leastPower_28 : decode cX3_leastPower 28 = .ok (.l2i, 1) := by decide +kernel
theorem dX3_leastPower_29 : decode cX3_leastPower 29 = .ok (.idiv, 1) := by decide +kernel
theorem dX3_leastPower_30 : decode cX3_leastPower 30 = .ok (.imul, 1) := by decide +kernel
theorem dX3_leastPower_31 : decode cX3_leastPower 31 = .ok (.istore_n 2, 1) := by decide +kernel
theorem dX3_leastPower_32 : decode cX3_leastPower 32 = .ok (.iinc 3 1, 3) := by decide +kernel
theorem dX3_leastPower_35 : decode cX3_leastPower 35 = .ok (.goto (-31), 3) := by decide +kernel
theorem dX3_leastPower_38 : decode cX3_leastPower 38 = .ok (.iload_n 2, 1) := by decide +kernel
theorem dX3_leastPower_39 : decode cX3_leastPower 39 = .ok (.ireturn, 1) := by decide +kernel
theorem dX3_along_0 : decode cX3_along 0 = .ok (.lload_n 3, 1) := by decide +kernel
theorem dX3_along_1 : decode cX3_along 1 = .ok (.aload_n 0, 1) := by decide +kernel
theorem dX3_along_2 : decode cX3_along 2 = .ok (.iload_n 1, 1) := by decide +kernel
theorem dX3_along_3 : decode cX3_along 3 = .ok (.iload_n 2, 1) := by decide +kernel
theorem dX3_along_4 : decode cX3_along 4 = .ok (.invokestatic 7, 3) := by decide +kernel
theorem dX3_along_7 : decode cX3_along 7 = .ok (.i2l, 1) := by decide +kernel
theorem dX3_along_8 : decode cX3_along 8 = .ok (.lrem, 1) := by decide +kernel
theorem dX3_along_9 : decode cX3_along 9 = .ok (.l2i, 1) := by decide +kernel
theorem dX3_along_10 : decode cX3_along 10 = .ok (.istore 5, 2) := by decide +kernel
theorem dX3_along_12 : decode cX3_along 12 = .ok (.iload_n 2, 1) := by decide +kernel
theorem dX3_along_13 : decode cX3_along 13 = .ok (.istore 6, 2) := by decide +kernel
theorem dX3_along_15 : decode cX3_along 15 = .ok (.iconst 0, 1) := by decide +kernel
theorem dX3_along_16 : decode cX3_along 16 = .ok (.istore 7, 2) := by decide +kernel
theorem dX3_along_18 : decode cX3_along 18 = .ok (.iload 7, 2) := by decide +kernel
theorem dX3_along_20 : decode cX3_along 20 = .ok (.iload 5, 2) := by decide +kernel
theorem dX3_along_22 : decode cX3_along 22 = .ok (.if_icmp .ge 15, 3) := by decide +kernel
theorem dX3_along_25 : decode cX3_along 25 = .ok (.aload_n 0, 1) := by decide +kernel
theorem dX3_along_26 : decode cX3_along 26 = .ok (.iload 6, 2) := by decide +kernel
theorem dX3_along_28 : decode cX3_along 28 = .ok (.iaload, 1) := by decide +kernel
theorem dX3_along_29 : decode cX3_along 29 = .ok (.istore 6, 2) := by decide +kernel
theorem dX3_along_31 : decode cX3_along 31 = .ok (.iinc 7 1, 3) := by decide +kernel
theorem dX3_along_34 : decode cX3_along 34 = .ok (.goto (-16), 3) := by decide +kernel
theorem dX3_along_37 : decode cX3_along 37 = .ok (.iload 6, 2) := by decide +kernel
theorem dX3_along_39 : decode cX3_along 39 = .ok (.ireturn, 1) := by decide +kernel
theorem dX4_init_0 : decode cX4_init 0 = .ok (.aload_n 0, 1) := by decide +kernel
theorem dX4_init_1 : decode cX4_init 1 = .ok (.invokespecial 3, 3) := by decide +kernel
theorem dX4_init_4 : decode cX4_init 4 = .ok (.aload_n 0, 1) := by decide +kernel
theorem dX4_init_5 : decode cX4_init 5 = .ok (.bipush 10, 2) := by decide +kernel
theorem dX4_init_7 : decode cX4_init 7 = .ok (.newarray .int, 2) := by decide +kernel
theorem dX4_init_9 : decode cX4_init 9 = .ok (.putfield 9, 3) := by decide +kernel
theorem dX4_init_12 : decode cX4_init 12 = .ok (.aload_n 0, 1) := by decide +kernel
theorem dX4_init_13 : decode cX4_init 13 = .ok (.iconst 0, 1) := by decide +kernel
theorem dX4_init_14 : decode cX4_init 14 = .ok (.putfield 15, 3) := by decide +kernel
theorem dX4_init_17 : decode cX4_init 17 = .ok (.aload_n 0, 1) := by decide +kernel
theorem dX4_init_18 : decode cX4_init 18 = .ok (.iconst 2, 1) := by decide +kernel
theorem dX4_init_19 : decode cX4_init 19 = .ok (.putfield 19, 3) := by decide +kernel
theorem dX4_init_22 : decode cX4_init 22 = .ok (.return_, 1) := by decide +kernel
theorem dX4_hasMove_0 : decode cX4_hasMove 0 = .ok (.aload_n 0, 1) := by decide +kernel
theorem dX4_hasMove_1 : decode cX4_hasMove 1 = .ok (.getfield 15, 3) := by decide +kernel
theorem dX4_hasMove_4 : decode cX4_hasMove 4 = .ok (.iconst 3, 1) := by decide +kernel
theorem dX4_hasMove_5 : decode cX4_hasMove 5 = .ok (.if_icmp .eq 15, 3) := by decide +kernel
theorem dX4_hasMove_8 : decode cX4_hasMove 8 = .ok (.aload_n 0, 1) := by decide +kernel
theorem dX4_hasMove_9 : decode cX4_hasMove 9 = .ok (.getfield 15, 3) := by decide +kernel
theorem dX4_hasMove_12 : decode cX4_hasMove 12 = .ok (.iconst 4, 1) := by decide +kernel
theorem dX4_hasMove_13 : decode cX4_hasMove 13 = .ok (.if_icmp .eq 7, 3) := by decide +kernel
theorem dX4_hasMove_16 : decode cX4_hasMove 16 = .ok (.iconst 1, 1) := by decide +kernel
theorem dX4_hasMove_17 : decode cX4_hasMove 17 = .ok (.goto 4, 3) := by decide +kernel
theorem dX4_hasMove_20 : decode cX4_hasMove 20 = .ok (.iconst 0, 1) := by decide +kernel
theorem dX4_hasMove_21 : decode cX4_hasMove 21 = .ok (.ireturn, 1) := by decide +kernel
theorem dX4_isUnder_0 : decode cX4_isUnder 0 = .ok (.aload_n 0, 1) := by decide +kernel
theorem dX4_isUnder_1 : decode cX4_isUnder 1 = .ok (.getfield 15, 3) := by decide +kernel
theorem dX4_isUnder_4 : decode cX4_isUnder 4 = .ok (.istore_n 2, 1) := by decide +kernel
theorem dX4_isUnder_5 : decode cX4_isUnder 5 = .ok (.iconst 0, 1) := by decide +kernel
theorem dX4_isUnder_6 : decode cX4_isUnder 6 = .ok (.istore_n 3, 1) := by decide +kernel
theorem dX4_isUnder_7 : decode cX4_isUnder 7 = .ok (.iload_n 3, 1) := by decide +kernel
theorem dX4_isUnder_8 : decode cX4_isUnder 8 = .ok (.iconst 5, 1) := by decide +kernel
theorem dX4_isUnder_9 : decode cX4_isUnder 9 = .ok (.if_icmp .ge 24, 3) := by decide +kernel
theorem dX4_isUnder_12 : decode cX4_isUnder 12 = .ok (.iload_n 2, 1) := by decide +kernel
theorem dX4_isUnder_13 : decode cX4_isUnder 13 = .ok (.ifCond .lt 20, 3) := by decide +kernel
theorem dX4_isUnder_16 : decode cX4_isUnder 16 = .ok (.iload_n 2, 1) := by decide +kernel
theorem dX4_isUnder_17 : decode cX4_isUnder 17 = .ok (.iload_n 1, 1) := by decide +kernel
theorem dX4_isUnder_18 : decode cX4_isUnder 18 = .ok (.if_icmp .eq 15, 3) := by decide +kernel
theorem dX4_isUnder_21 : decode cX4_isUnder 21 = .ok (.getstatic 22, 3) := by decide +kernel
theorem dX4_isUnder_24 : decode cX4_isUnder 24 = .ok (.iload_n 2, 1) := by decide +kernel
theorem dX4_isUnder_25 : decode cX4_isUnder 25 = .ok (.iaload, 1) := by decide +kernel
theorem dX4_isUnder_26 : decode cX4_isUnder 26 = .ok (.istore_n 2, 1) := by decide +kernel
theorem dX4_isUnder_27 : decode cX4_isUnder 27 = .ok (.iinc 3 1, 3) := by decide +kernel
theorem dX4_isUnder_30 : decode cX4_isUnder 30 = .ok (.goto (-23), 3) := by decide +kernel
theorem dX4_isUnder_33 : decode cX4_isUnder 33 = .ok (.iload_n 2, 1) := by decide +kernel
theorem dX4_isUnder_34 : decode cX4_isUnder 34 = .ok (.iload_n 1, 1) := by decide +kernel
theorem dX4_isUnder_35 : decode cX4_isUnder 35 = .ok (.if_icmp .ne 7, 3) := by decide +kernel
theorem dX4_isUnder_38 : decode cX4_isUnder 38 = .ok (.iconst 1, 1) := by decide +kernel
theorem dX4_isUnder_39 : decode cX4_isUnder 39 = .ok (.goto 4, 3) := by decide +kernel
theorem dX4_isUnder_42 : decode cX4_isUnder 42 = .ok (.iconst 0, 1) := by decide +kernel
theorem dX4_isUnder_43 : decode cX4_isUnder 43 = .ok (.ireturn, 1) := by decide +kernel
theorem dX5_init_0 : decode cX5_init 0 = .ok (.aload_n 0, 1) := by decide +kernel
theorem dX5_init_1 : decode cX5_init 1 = .ok (.invokespecial 3, 3) := by decide +kernel
theorem dX5_init_4 : decode cX5_init 4 = .ok (.aload_n 0, 1) := by decide +kernel
theorem dX5_init_5 : decode cX5_init 5 = .ok (.bipush 40, 2) := by decide +kernel
theorem dX5_init_7 : decode cX5_init 7 = .ok (.newarray .int, 2) := by decide +kernel
theorem dX5_init_9 : decode cX5_init 9 = .ok (.putfield 9, 3) := by decide +kernel
theorem dX5_init_12 : decode cX5_init 12 = .ok (.aload_n 0, 1) := by decide +kernel
theorem dX5_init_13 : decode cX5_init 13 = .ok (.iconst (-1), 1) := by decide +kernel
theorem dX5_init_14 : decode cX5_init 14 = .ok (.putfield 15, 3) := by decide +kernel
theorem dX5_init_17 : decode cX5_init 17 = .ok (.aload_n 0, 1) := by decide +kernel
theorem dX5_init_18 : decode cX5_init 18 = .ok (.iconst 0, 1) := by decide +kernel
theorem dX5_init_19 : decode cX5_init 19 = .ok (.putfield 19, 3) := by decide +kernel
theorem dX5_init_22 : decode cX5_init 22 = .ok (.return_, 1) := by decide +kernel
theorem dX5_isMissing_0 : decode cX5_isMissing 0 = .ok (.aload_n 0, 1) := by decide +kernel
theorem dX5_isMissing_1 : decode cX5_isMissing 1 = .ok (.getfield 15, 3) := by decide +kernel
theorem dX5_isMissing_4 : decode cX5_isMissing 4 = .ok (.iconst (-1), 1) := by decide +kernel
theorem dX5_isMissing_5 : decode cX5_isMissing 5 = .ok (.if_icmp .ne 7, 3) := by decide +kernel
theorem dX5_isMissing_8 : decode cX5_isMissing 8 = .ok (.iconst 1, 1) := by decide +kernel
theorem dX5_isMissing_9 : decode cX5_isMissing 9 = .ok (.goto 4, 3) := by decide +kernel
theorem dX5_isMissing_12 : decode cX5_isMissing 12 = .ok (.iconst 0, 1) := by decide +kernel
theorem dX5_isMissing_13 : decode cX5_isMissing 13 = .ok (.ireturn, 1) := by decide +kernel
theorem dX5_clear_0 : decode cX5_clear 0 = .ok (.aload_n 0, 1) := by decide +kernel
theorem dX5_clear_1 : decode cX5_clear 1 = .ok (.iload_n 1, 1) := by decide +kernel
theorem dX5_clear_2 : decode cX5_clear 2 = .ok (.putfield 15, 3) := by decide +kernel
theorem dX5_clear_5 : decode cX5_clear 5 = .ok (.aload_n 0, 1) := by decide +kernel
theorem dX5_clear_6 : decode cX5_clear 6 = .ok (.iload_n 2, 1) := by decide +kernel
theorem dX5_clear_7 : decode cX5_clear 7 = .ok (.putfield 19, 3) := by decide +kernel
theorem dX5_clear_10 : decode cX5_clear 10 = .ok (.iconst 0, 1) := by decide +kernel
theorem dX5_clear_11 : decode cX5_clear 11 = .ok (.istore_n 3, 1) := by decide +kernel
theorem dX5_clear_12 : decode cX5_clear 12 = .ok (.iload_n 3, 1) := by decide +kernel
theorem dX5_clear_13 : decode cX5_clear 13 = .ok (.bipush 40, 2) := by decide +kernel
theorem dX5_clear_15 : decode cX5_clear 15 = .ok (.if_icmp .ge 16, 3) := by decide +kernel
theorem dX5_clear_18 : decode cX5_clear 18 = .ok (.aload_n 0, 1) := by decide +kernel
theorem dX5_clear_19 : decode cX5_clear 19 = .ok (.getfield 9, 3) := by decide +kernel
theorem dX5_clear_22 : decode cX5_clear 22 = .ok (.iload_n 3, 1) := by decide +kernel
theorem dX5_clear_23 : decode cX5_clear 23 = .ok (.iconst 0, 1) := by decide +kernel
theorem dX5_clear_24 : decode cX5_clear 24 = .ok (.iastore, 1) := by decide +kernel
theorem dX5_clear_25 : decode cX5_clear 25 = .ok (.iinc 3 1, 3) := by decide +kernel
theorem dX5_clear_28 : decode cX5_clear 28 = .ok (.goto (-16), 3) := by decide +kernel
theorem dX5_clear_31 : decode cX5_clear 31 = .ok (.return_, 1) := by decide +kernel
theorem dX5_holds_0 : decode cX5_holds 0 = .ok (.iload_n 1, 1) := by decide +kernel
theorem dX5_holds_1 : decode cX5_holds 1 = .ok (.ifCond .lt 21, 3) := by decide +kernel
theorem dX5_holds_4 : decode cX5_holds 4 = .ok (.iload_n 2, 1) := by decide +kernel
theorem dX5_holds_5 : decode cX5_holds 5 = .ok (.ifCond .lt 17, 3) := by decide +kernel
theorem dX5_holds_8 : decode cX5_holds 8 = .ok (.iload_n 1, 1) := by decide +kernel
theorem dX5_holds_9 : decode cX5_holds 9 = .ok (.aload_n 0, 1) := by decide +kernel
theorem dX5_holds_10 : decode cX5_holds 10 = .ok (.getfield 19, 3) := by decide +kernel
theorem dX5_holds_13 : decode cX5_holds 13 = .ok (.iload_n 2, 1) := by decide +kernel
theorem dX5_holds_14 : decode cX5_holds 14 = .ok (.isub, 1) := by decide +kernel
theorem dX5_holds_15 : decode cX5_holds 15 = .ok (.if_icmp .gt 7, 3) := by decide +kernel
theorem dX5_holds_18 : decode cX5_holds 18 = .ok (.iconst 1, 1) := by decide +kernel
theorem dX5_holds_19 : decode cX5_holds 19 = .ok (.goto 4, 3) := by decide +kernel
theorem dX5_holds_22 : decode cX5_holds 22 = .ok (.iconst 0, 1) := by decide +kernel
theorem dX5_holds_23 : decode cX5_holds 23 = .ok (.ireturn, 1) := by decide +kernel
theorem dX5_narrowed_0 : decode cX5_narrowed 0 = .ok (.aload_n 0, 1) := by decide +kernel
theorem dX5_narrowed_1 : decode cX5_narrowed 1 = .ok (.getfield 15, 3) := by decide +kernel
theorem dX5_narrowed_4 : decode cX5_narrowed 4 = .ok (.ifCond .ne 6, 3) := by decide +kernel
theorem dX5_narrowed_7 : decode cX5_narrowed 7 = .ok (.iload_n 1, 1) := by decide +kernel
theorem dX5_narrowed_8 : decode cX5_narrowed 8 = .ok (.i2b, 1) := by decide +kernel
theorem dX5_narrowed_9 : decode cX5_narrowed 9 = .ok (.ireturn, 1) := by decide +kernel
theorem dX5_narrowed_10 : decode cX5_narrowed 10 = .ok (.aload_n 0, 1) := by decide +kernel
theorem dX5_narrowed_11 : decode cX5_narrowed 11 = .ok (.getfield 15, 3) := by decide +kernel
theorem dX5_narrowed_14 : decode cX5_narrowed 14 = .ok (.iconst 1, 1) := by decide +kernel
theorem dX5_narrowed_15 : decode cX5_narrowed 15 = .ok (.if_icmp .ne 8, 3) := by decide +kernel
theorem dX5_narrowed_18 : decode cX5_narrowed 18 = .ok (.iload_n 1, 1) := by decide +kernel
theorem dX5_narrowed_19 : decode cX5_narrowed 19 = .ok (.i2s, 1) := by decide +kernel
theorem dX5_narrowed_20 : decode cX5_narrowed 20 = .ok (.goto 4, 3) := by decide +kernel
theorem dX5_narrowed_23 : decode cX5_narrowed 23 = .ok (.iload_n 1, 1) := by decide +kernel
theorem dX5_narrowed_24 : decode cX5_narrowed 24 = .ok (.ireturn, 1) := by decide +kernel
theorem dX6_carried_0 : decode cX6_carried 0 = .ok (.iload_n 2, 1) := by decide +kernel
theorem dX6_carried_1 : decode cX6_carried 1 = .ok (.iconst 2, 1) := by decide +kernel
theorem dX6_carried_2 : decode cX6_carried 2 = .ok (.idiv, 1) := by decide +kernel
theorem dX6_carried_3 : decode cX6_carried 3 = .ok (.istore_n 3, 1) := by decide +kernel
theorem dX6_carried_4 : decode cX6_carried 4 = .ok (.iload_n 0, 1) := by decide +kernel
theorem dX6_carried_5 : decode cX6_carried 5 = .ok (.iload_n 3, 1) := by decide +kernel
theorem dX6_carried_6 : decode cX6_carried 6 = .ok (.if_icmp .ge 11, 3) := by decide +kernel
theorem dX6_carried_9 : decode cX6_carried 9 = .ok (.iconst 2, 1) := by decide +kernel
theorem dX6_carried_10 : decode cX6_carried 10 = .ok (.iload_n 0, 1) := by decide +kernel
theorem dX6_carried_11 : decode cX6_carried 11 = .ok (.imul, 1) := by decide +kernel
theorem dX6_carried_12 : decode cX6_carried 12 = .ok (.iload_n 1, 1) := by decide +kernel
theorem dX6_carried_13 : decode cX6_carried 13 = .ok (.iadd, 1) := by decide +kernel
theorem dX6_carried_14 : decode cX6_carried 14 = .ok (.goto 12, 3) := by decide +kernel
theorem dX6_carried_17 : decode cX6_carried 17 = .ok (.iconst 2, 1) := by decide +kernel
theorem dX6_carried_18 : decode cX6_carried 18 = .ok (.iload_n 0, 1) := by decide +kernel
theorem dX6_carried_19 : decode cX6_carried 19 = .ok (.iload_n 3, 1) := by decide +kernel
theorem dX6_carried_20 : decode cX6_carried 20 = .ok (.isub, 1) := by decide +kernel
theorem dX6_carried_21 : decode cX6_carried 21 = .ok (.imul, 1) := by decide +kernel
theorem dX6_carried_22 : decode cX6_carried 22 = .ok (.iconst 1, 1) := by decide +kernel
theorem dX6_carried_23 : decode cX6_carried 23 = .ok (.iadd, 1) := by decide +kernel
theorem dX6_carried_24 : decode cX6_carried 24 = .ok (.iload_n 1, 1) := by decide +kernel
theorem dX6_carried_25 : decode cX6_carried 25 = .ok (.isub, 1) := by decide +kernel
theorem dX6_carried_26 : decode cX6_carried 26 = .ok (.ireturn, 1) := by decide +kernel
theorem dX6_shortest_0 : decode cX6_shortest 0 = .ok (.iconst 1, 1) := by decide +kernel
theorem dX6_shortest_1 : decode cX6_shortest 1 = .ok (.istore_n 3, 1) := by decide +kernel
theorem dX6_shortest_2 : decode cX6_shortest 2 = .ok (.iload_n 3, 1) := by decide +kernel
theorem dX6_shortest_3 : decode cX6_shortest 3 = .ok (.bipush 32, 2) := by decide +kernel
theorem dX6_shortest_5 : decode cX6_shortest 5 = .ok (.if_icmp .ge 21, 3) := by decide +kernel
theorem dX6_shortest_8 : decode cX6_shortest 8 = .ok (.iload_n 0, 1) := by decide +kernel
theorem dX6_shortest_9 : decode cX6_shortest 9 = .ok (.iload_n 3, 1) := by decide +kernel
theorem dX6_shortest_10 : decode cX6_shortest 10 = .ok (.iload_n 2, 1) := by decide +kernel
theorem dX6_shortest_11 : decode cX6_shortest 11 = .ok (.invokestatic 9, 3) := by decide +kernel
theorem dX6_shortest_14 : decode cX6_shortest 14 = .ok (.iload_n 1, 1) := by decide +kernel
theorem dX6_shortest_15 : decode cX6_shortest 15 = .ok (.if_icmp .ne 5, 3) := by decide +kernel
theorem dX6_shortest_18 : decode cX6_shortest 18 = .ok (.iload_n 3, 1) := by decide +kernel
theorem dX6_shortest_19 : decode cX6_shortest 19 = .ok (.ireturn, 1) := by decide +kernel
theorem dX6_shortest_20 : decode cX6_shortest 20 = .ok (.iinc 3 1, 3) := by decide +kernel
theorem dX6_shortest_23 : decode cX6_shortest 23 = .ok (.goto (-21), 3) := by decide +kernel
theorem dX6_shortest_26 : decode cX6_shortest 26 = .ok (.iconst 1, 1) := by decide +kernel
theorem dX6_shortest_27 : decode cX6_shortest 27 = .ok (.ireturn, 1) := by decide +kernel
theorem dX6_end_0 : decode cX6_end 0 = .ok (.iload_n 0, 1) := by decide +kernel
theorem dX6_end_1 : decode cX6_end 1 = .ok (.istore_n 3, 1) := by decide +kernel
theorem dX6_end_2 : decode cX6_end 2 = .ok (.iload_n 1, 1) := by decide +kernel
theorem dX6_end_3 : decode cX6_end 3 = .ok (.invokestatic 15, 3) := by decide +kernel
theorem dX6_end_6 : decode cX6_end 6 = .ok (.iconst 1, 1) := by decide +kernel
theorem dX6_end_7 : decode cX6_end 7 = .ok (.isub, 1) := by decide +kernel
theorem dX6_end_8 : decode cX6_end 8 = .ok (.istore 4, 2) := by decide +kernel
theorem dX6_end_10 : decode cX6_end 10 = .ok (.iload 4, 2) := by decide +kernel
theorem dX6_end_12 : decode cX6_end 12 = .ok (.ifCond .lt 21, 3) := by decide +kernel
theorem dX6_end_15 : decode cX6_end 15 = .ok (.iload_n 3, 1) := by decide +kernel
theorem dX6_end_16 : decode cX6_end 16 = .ok (.iload_n 1, 1) := by decide +kernel
theorem dX6_end_17 : decode cX6_end 17 = .ok (.iload 4, 2) := by decide +kernel
theorem dX6_end_19 : decode cX6_end 19 = .ok (.ishr, 1) := by decide +kernel
theorem dX6_end_20 : decode cX6_end 20 = .ok (.iconst 1, 1) := by decide +kernel
theorem dX6_end_21 : decode cX6_end 21 = .ok (.iand, 1) := by decide +kernel
theorem dX6_end_22 : decode cX6_end 22 = .ok (.iload_n 2, 1) := by decide +kernel
theorem dX6_end_23 : decode cX6_end 23 = .ok (.invokestatic 19, 3) := by decide +kernel
theorem dX6_end_26 : decode cX6_end 26 = .ok (.istore_n 3, 1) := by decide +kernel
theorem dX6_end_27 : decode cX6_end 27 = .ok (.iinc 4 (-1), 3) := by decide +kernel
theorem dX6_end_30 : decode cX6_end 30 = .ok (.goto (-20), 3) := by decide +kernel
theorem dX6_end_33 : decode cX6_end 33 = .ok (.iload_n 3, 1) := by decide +kernel
theorem dX6_end_34 : decode cX6_end 34 = .ok (.ireturn, 1) := by decide +kernel
theorem dX6_lengthOf_0 : decode cX6_lengthOf 0 = .ok (.bipush 31, 2) := by decide +kernel
theorem dX6_lengthOf_2 : decode cX6_lengthOf 2 = .ok (.iload_n 0, 1) := by decide +kernel
theorem dX6_lengthOf_3 : decode cX6_lengthOf 3 = .ok (.invokestatic 22, 3) := by decide +kernel
theorem dX6_lengthOf_6 : decode cX6_lengthOf 6 = .ok (.isub, 1) := by decide +kernel
theorem dX6_lengthOf_7 : decode cX6_lengthOf 7 = .ok (.ireturn, 1) := by decide +kernel
theorem dJ6_numberOfLeadingZeros_0f7a4_0 : decode cJ6_numberOfLeadingZeros_0f7a4 0 = .ok (.iload_n 0, 1) := by decide +kernel
theorem dJ6_numberOfLeadingZeros_0f7a4_1 : decode cJ6_numberOfLeadingZeros_0f7a4 1 = .ok (.ifCond .gt 14, 3) := by decide +kernel
theorem dJ6_numberOfLeadingZeros_0f7a4_4 : decode cJ6_numberOfLeadingZeros_0f7a4 4 = .ok (.iload_n 0, 1) := by decide +kernel
theorem dJ6_numberOfLeadingZeros_0f7a4_5 : decode cJ6_numberOfLeadingZeros_0f7a4 5 = .ok (.ifCond .ne 8, 3) := by decide +kernel
theorem dJ6_numberOfLeadingZeros_0f7a4_8 : decode cJ6_numberOfLeadingZeros_0f7a4 8 = .ok (.bipush 32, 2) := by decide +kernel
theorem dJ6_numberOfLeadingZeros_0f7a4_10 : decode cJ6_numberOfLeadingZeros_0f7a4 10 = .ok (.goto 4, 3) := by decide +kernel
theorem dJ6_numberOfLeadingZeros_0f7a4_13 : decode cJ6_numberOfLeadingZeros_0f7a4 13 = .ok (.iconst 0, 1) := by decide +kernel
theorem dJ6_numberOfLeadingZeros_0f7a4_14 : decode cJ6_numberOfLeadingZeros_0f7a4 14 = .ok (.ireturn, 1) := by decide +kernel
theorem dJ6_numberOfLeadingZeros_0f7a4_15 : decode cJ6_numberOfLeadingZeros_0f7a4 15 = .ok (.bipush 31, 2) := by decide +kernel
theorem dJ6_numberOfLeadingZeros_0f7a4_17 : decode cJ6_numberOfLeadingZeros_0f7a4 17 = .ok (.istore_n 1, 1) := by decide +kernel
theorem dJ6_numberOfLeadingZeros_0f7a4_18 : decode cJ6_numberOfLeadingZeros_0f7a4 18 = .ok (.iload_n 0, 1) := by decide +kernel
theorem dJ6_numberOfLeadingZeros_0f7a4_19 : decode cJ6_numberOfLeadingZeros_0f7a4 19 = .ok (.ldc_w 264, 3) := by decide +kernel
theorem dJ6_numberOfLeadingZeros_0f7a4_22 : decode cJ6_numberOfLeadingZeros_0f7a4 22 = .ok (.if_icmp .lt 11, 3) := by decide +kernel
theorem dJ6_numberOfLeadingZeros_0f7a4_25 : decode cJ6_numberOfLeadingZeros_0f7a4 25 = .ok (.iinc 1 (-16), 3) := by decide +kernel
theorem dJ6_numberOfLeadingZeros_0f7a4_28 : decode cJ6_numberOfLeadingZeros_0f7a4 28 = .ok (.iload_n 0, 1) := by decide +kernel
theorem dJ6_numberOfLeadingZeros_0f7a4_29 : decode cJ6_numberOfLeadingZeros_0f7a4 29 = .ok (.bipush 16, 2) := by decide +kernel
theorem dJ6_numberOfLeadingZeros_0f7a4_31 : decode cJ6_numberOfLeadingZeros_0f7a4 31 = .ok (.iushr, 1) := by decide +kernel
theorem dJ6_numberOfLeadingZeros_0f7a4_32 : decode cJ6_numberOfLeadingZeros_0f7a4 32 = .ok (.istore_n 0, 1) := by decide +kernel
theorem dJ6_numberOfLeadingZeros_0f7a4_33 : decode cJ6_numberOfLeadingZeros_0f7a4 33 = .ok (.iload_n 0, 1) := by decide +kernel
theorem dJ6_numberOfLeadingZeros_0f7a4_34 : decode cJ6_numberOfLeadingZeros_0f7a4 34 = .ok (.sipush 256, 3) := by decide +kernel
theorem dJ6_numberOfLeadingZeros_0f7a4_37 : decode cJ6_numberOfLeadingZeros_0f7a4 37 = .ok (.if_icmp .lt 11, 3) := by decide +kernel
theorem dJ6_numberOfLeadingZeros_0f7a4_40 : decode cJ6_numberOfLeadingZeros_0f7a4 40 = .ok (.iinc 1 (-8), 3) := by decide +kernel
theorem dJ6_numberOfLeadingZeros_0f7a4_43 : decode cJ6_numberOfLeadingZeros_0f7a4 43 = .ok (.iload_n 0, 1) := by decide +kernel
theorem dJ6_numberOfLeadingZeros_0f7a4_44 : decode cJ6_numberOfLeadingZeros_0f7a4 44 = .ok (.bipush 8, 2) := by decide +kernel
theorem dJ6_numberOfLeadingZeros_0f7a4_46 : decode cJ6_numberOfLeadingZeros_0f7a4 46 = .ok (.iushr, 1) := by decide +kernel
theorem dJ6_numberOfLeadingZeros_0f7a4_47 : decode cJ6_numberOfLeadingZeros_0f7a4 47 = .ok (.istore_n 0, 1) := by decide +kernel
theorem dJ6_numberOfLeadingZeros_0f7a4_48 : decode cJ6_numberOfLeadingZeros_0f7a4 48 = .ok (.iload_n 0, 1) := by decide +kernel
theorem dJ6_numberOfLeadingZeros_0f7a4_49 : decode cJ6_numberOfLeadingZeros_0f7a4 49 = .ok (.bipush 16, 2) := by decide +kernel
theorem dJ6_numberOfLeadingZeros_0f7a4_51 : decode cJ6_numberOfLeadingZeros_0f7a4 51 = .ok (.if_icmp .lt 10, 3) := by decide +kernel
theorem dJ6_numberOfLeadingZeros_0f7a4_54 : decode cJ6_numberOfLeadingZeros_0f7a4 54 = .ok (.iinc 1 (-4), 3) := by decide +kernel
theorem dJ6_numberOfLeadingZeros_0f7a4_57 : decode cJ6_numberOfLeadingZeros_0f7a4 57 = .ok (.iload_n 0, 1) := by decide +kernel
theorem dJ6_numberOfLeadingZeros_0f7a4_58 : decode cJ6_numberOfLeadingZeros_0f7a4 58 = .ok (.iconst 4, 1) := by decide +kernel
theorem dJ6_numberOfLeadingZeros_0f7a4_59 : decode cJ6_numberOfLeadingZeros_0f7a4 59 = .ok (.iushr, 1) := by decide +kernel
theorem dJ6_numberOfLeadingZeros_0f7a4_60 : decode cJ6_numberOfLeadingZeros_0f7a4 60 = .ok (.istore_n 0, 1) := by decide +kernel
theorem dJ6_numberOfLeadingZeros_0f7a4_61 : decode cJ6_numberOfLeadingZeros_0f7a4 61 = .ok (.iload_n 0, 1) := by decide +kernel
theorem dJ6_numberOfLeadingZeros_0f7a4_62 : decode cJ6_numberOfLeadingZeros_0f7a4 62 = .ok (.iconst 4, 1) := by decide +kernel
theorem dJ6_numberOfLeadingZeros_0f7a4_63 : decode cJ6_numberOfLeadingZeros_0f7a4 63 = .ok (.if_icmp .lt 10, 3) := by decide +kernel
theorem dJ6_numberOfLeadingZeros_0f7a4_66 : decode cJ6_numberOfLeadingZeros_0f7a4 66 = .ok (.iinc 1 (-2), 3) := by decide +kernel
theorem dJ6_numberOfLeadingZeros_0f7a4_69 : decode cJ6_numberOfLeadingZeros_0f7a4 69 = .ok (.iload_n 0, 1) := by decide +kernel
theorem dJ6_numberOfLeadingZeros_0f7a4_70 : decode cJ6_numberOfLeadingZeros_0f7a4 70 = .ok (.iconst 2, 1) := by decide +kernel
theorem dJ6_numberOfLeadingZeros_0f7a4_71 : decode cJ6_numberOfLeadingZeros_0f7a4 71 = .ok (.iushr, 1) := by decide +kernel
theorem dJ6_numberOfLeadingZeros_0f7a4_72 : decode cJ6_numberOfLeadingZeros_0f7a4 72 = .ok (.istore_n 0, 1) := by decide +kernel
theorem dJ6_numberOfLeadingZeros_0f7a4_73 : decode cJ6_numberOfLeadingZeros_0f7a4 73 = .ok (.iload_n 1, 1) := by decide +kernel
theorem dJ6_numberOfLeadingZeros_0f7a4_74 : decode cJ6_numberOfLeadingZeros_0f7a4 74 = .ok (.iload_n 0, 1) := by decide +kernel
theorem dJ6_numberOfLeadingZeros_0f7a4_75 : decode cJ6_numberOfLeadingZeros_0f7a4 75 = .ok (.iconst 1, 1) := by decide +kernel
theorem dJ6_numberOfLeadingZeros_0f7a4_76 : decode cJ6_numberOfLeadingZeros_0f7a4 76 = .ok (.iushr, 1) := by decide +kernel
theorem dJ6_numberOfLeadingZeros_0f7a4_77 : decode cJ6_numberOfLeadingZeros_0f7a4 77 = .ok (.isub, 1) := by decide +kernel
theorem dJ6_numberOfLeadingZeros_0f7a4_78 : decode cJ6_numberOfLeadingZeros_0f7a4 78 = .ok (.ireturn, 1) := by decide +kernel
theorem dJ9_abs_067f4_0 : decode cJ9_abs_067f4 0 = .ok (.lload_n 0, 1) := by decide +kernel
theorem dJ9_abs_067f4_1 : decode cJ9_abs_067f4 1 = .ok (.lconst 0, 1) := by decide +kernel
theorem dJ9_abs_067f4_2 : decode cJ9_abs_067f4 2 = .ok (.lcmp, 1) := by decide +kernel
theorem dJ9_abs_067f4_3 : decode cJ9_abs_067f4 3 = .ok (.ifCond .ge 8, 3) := by decide +kernel
theorem dJ9_abs_067f4_6 : decode cJ9_abs_067f4 6 = .ok (.lload_n 0, 1) := by decide +kernel
theorem dJ9_abs_067f4_7 : decode cJ9_abs_067f4 7 = .ok (.lneg, 1) := by decide +kernel
theorem dJ9_abs_067f4_8 : decode cJ9_abs_067f4 8 = .ok (.goto 4, 3) := by decide +kernel
theorem dJ9_abs_067f4_11 : decode cJ9_abs_067f4 11 = .ok (.lload_n 0, 1) := by decide +kernel
theorem dJ9_abs_067f4_12 : decode cJ9_abs_067f4 12 = .ok (.lreturn, 1) := by decide +kernel
theorem dJ9_max_7cf53_0 : decode cJ9_max_7cf53 0 = .ok (.iload_n 0, 1) := by decide +kernel
theorem dJ9_max_7cf53_1 : decode cJ9_max_7cf53 1 = .ok (.iload_n 1, 1) := by decide +kernel
theorem dJ9_max_7cf53_2 : decode cJ9_max_7cf53 2 = .ok (.if_icmp .lt 7, 3) := by decide +kernel
theorem dJ9_max_7cf53_5 : decode cJ9_max_7cf53 5 = .ok (.iload_n 0, 1) := by decide +kernel
theorem dJ9_max_7cf53_6 : decode cJ9_max_7cf53 6 = .ok (.goto 4, 3) := by decide +kernel
theorem dJ9_max_7cf53_9 : decode cJ9_max_7cf53 9 = .ok (.iload_n 1, 1) := by decide +kernel
theorem dJ9_max_7cf53_10 : decode cJ9_max_7cf53 10 = .ok (.ireturn, 1) := by decide +kernel
theorem dJ9_max_f86c9_0 : decode cJ9_max_f86c9 0 = .ok (.lload_n 0, 1) := by decide +kernel
theorem dJ9_max_f86c9_1 : decode cJ9_max_f86c9 1 = .ok (.lload_n 2, 1) := by decide +kernel
theorem dJ9_max_f86c9_2 : decode cJ9_max_f86c9 2 = .ok (.lcmp, 1) := by decide +kernel
theorem dJ9_max_f86c9_3 : decode cJ9_max_f86c9 3 = .ok (.ifCond .lt 7, 3) := by decide +kernel
theorem dJ9_max_f86c9_6 : decode cJ9_max_f86c9 6 = .ok (.lload_n 0, 1) := by decide +kernel
theorem dJ9_max_f86c9_7 : decode cJ9_max_f86c9 7 = .ok (.goto 4, 3) := by decide +kernel
theorem dJ9_max_f86c9_10 : decode cJ9_max_f86c9 10 = .ok (.lload_n 2, 1) := by decide +kernel
theorem dJ9_max_f86c9_11 : decode cJ9_max_f86c9 11 = .ok (.lreturn, 1) := by decide +kernel
theorem dJ9_min_7cf53_0 : decode cJ9_min_7cf53 0 = .ok (.iload_n 0, 1) := by decide +kernel
theorem dJ9_min_7cf53_1 : decode cJ9_min_7cf53 1 = .ok (.iload_n 1, 1) := by decide +kernel
theorem dJ9_min_7cf53_2 : decode cJ9_min_7cf53 2 = .ok (.if_icmp .gt 7, 3) := by decide +kernel
theorem dJ9_min_7cf53_5 : decode cJ9_min_7cf53 5 = .ok (.iload_n 0, 1) := by decide +kernel
theorem dJ9_min_7cf53_6 : decode cJ9_min_7cf53 6 = .ok (.goto 4, 3) := by decide +kernel
theorem dJ9_min_7cf53_9 : decode cJ9_min_7cf53 9 = .ok (.iload_n 1, 1) := by decide +kernel
theorem dJ9_min_7cf53_10 : decode cJ9_min_7cf53 10 = .ok (.ireturn, 1) := by decide +kernel
