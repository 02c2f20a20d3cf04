theorem dX0_init_0 : decode cX0_init 0 = .ok (.aload_n 0, 1) := by decide +kernel
theorem dX0_init_1 : decode cX0_init 1 = .ok (.invokespecial 3, 3) := by decide +kernel
theorem dX0_init_4 : decode cX0_init 4 = .ok (.aload_n 0, 1) := by decide +kernel
theorem dX0_init_5 : decode cX0_init 5 = .ok (.bipush 20, 2) := by decide +kernel
theorem dX0_init_7 : decode cX0_init 7 = .ok (.newarray .int, 2) := by decide +kernel
theorem dX0_init_9 : decode cX0_init 9 = .ok (.putfield 11, 3) := by decide +kernel
theorem dX0_init_12 : decode cX0_init 12 = .ok (.return_, 1) := by decide +kernel
theorem dX0_forget_0 : decode cX0_forget 0 = .ok (.aload_n 0, 1) := by decide +kernel
theorem dX0_forget_1 : decode cX0_forget 1 = .ok (.iconst 0, 1) := by decide +kernel
theorem dX0_forget_2 : decode cX0_forget 2 = .ok (.putfield 15, 3) := by decide +kernel
theorem dX0_forget_5 : decode cX0_forget 5 = .ok (.return_, 1) := by decide +kernel
theorem dX0_takeOn_0 : decode cX0_takeOn 0 = .ok (.aload_n 0, 1) := by decide +kernel
theorem dX0_takeOn_1 : decode cX0_takeOn 1 = .ok (.iload_n 1, 1) := by decide +kernel
theorem dX0_takeOn_2 : decode cX0_takeOn 2 = .ok (.putfield 19, 3) := by decide +kernel
theorem dX0_takeOn_5 : decode cX0_takeOn 5 = .ok (.aload_n 0, 1) := by decide +kernel
theorem dX0_takeOn_6 : decode cX0_takeOn 6 = .ok (.iload_n 2, 1) := by decide +kernel
theorem dX0_takeOn_7 : decode cX0_takeOn 7 = .ok (.putfield 22, 3) := by decide +kernel
theorem dX0_takeOn_10 : decode cX0_takeOn 10 = .ok (.aload_n 0, 1) := by decide +kernel
theorem dX0_takeOn_11 : decode cX0_takeOn 11 = .ok (.iload_n 3, 1) := by decide +kernel
theorem dX0_takeOn_12 : decode cX0_takeOn 12 = .ok (.putfield 25, 3) := by decide +kernel
theorem dX0_takeOn_15 : decode cX0_takeOn 15 = .ok (.return_, 1) := by decide +kernel
theorem dX0_answer_0 : decode cX0_answer 0 = .ok (.aload_n 0, 1) := by decide +kernel
theorem dX0_answer_1 : decode cX0_answer 1 = .ok (.aload_n 0, 1) := by decide +kernel
theorem dX0_answer_2 : decode cX0_answer 2 = .ok (.getfield 22, 3) := by decide +kernel
theorem dX0_answer_5 : decode cX0_answer 5 = .ok (.iload_n 1, 1) := by decide +kernel
theorem dX0_answer_6 : decode cX0_answer 6 = .ok (.iload_n 2, 1) := by decide +kernel
theorem dX0_answer_7 : decode cX0_answer 7 = .ok (.iconst 0, 1) := by decide +kernel
theorem dX0_answer_8 : decode cX0_answer 8 = .ok (.invokevirtual 28, 3) := by decide +kernel
theorem dX0_answer_11 : decode cX0_answer 11 = .ok (.ireturn, 1) := by decide +kernel
theorem dX0_perform_0 : decode cX0_perform 0 = .ok (.iload 4, 2) := by decide +kernel
theorem dX0_perform_2 : decode cX0_perform 2 = .ok (.bipush 40, 2) := by decide +kernel
theorem dX0_perform_4 : decode cX0_perform 4 = .ok (.if_icmp .le 5, 3) := by decide +kernel
theorem dX0_perform_7 : decode cX0_perform 7 = .ok (.iconst 0, 1) := by decide +kernel
theorem dX0_perform_8 : decode cX0_perform 8 = .ok (.ireturn, 1) := by decide +kernel
theorem dX0_perform_9 : decode cX0_perform 9 = .ok (.iload_n 1, 1) := by decide +kernel
theorem dX0_perform_10 : decode cX0_perform 10 = .ok (.iload_n 2, 1) := by decide +kernel
theorem dX0_perform_11 : decode cX0_perform 11 = .ok (.invokestatic 32, 3) := by decide +kernel
theorem dX0_perform_14 : decode cX0_perform 14 = .ok (.istore 5, 2) := by decide +kernel
theorem dX0_perform_16 : decode cX0_perform 16 = .ok (.getstatic 36, 3) := by decide +kernel
theorem dX0_perform_19 : decode cX0_perform 19 = .ok (.iload 5, 2) := by decide +kernel
theorem dX0_perform_21 : decode cX0_perform 21 = .ok (.iaload, 1) := by decide +kernel
theorem dX0_perform_22 : decode cX0_perform 22 = .ok (.iconst 0, 1) := by decide +kernel
theorem dX0_perform_23 : decode cX0_perform 23 = .ok (.invokestatic 39, 3) := by decide +kernel
theorem dX0_perform_26 : decode cX0_perform 26 = .ok (.istore 6, 2) := by decide +kernel
theorem dX0_perform_28 : decode cX0_perform 28 = .ok (.getstatic 44, 3) := by decide +kernel
theorem dX0_perform_31 : decode cX0_perform 31 = .ok (.iload 5, 2) := by decide +kernel
theorem dX0_perform_33 : decode cX0_perform 33 = .ok (.iconst 3, 1) := by decide +kernel
theorem dX0_perform_34 : decode cX0_perform 34 = .ok (.imul, 1) := by decide +kernel
theorem dX0_perform_35 : decode cX0_perform 35 = .ok (.iload_n 2, 1) := by decide +kernel
theorem dX0_perform_36 : decode cX0_perform 36 = .ok (.iadd, 1) := by decide +kernel
theorem dX0_perform_37 : decode cX0_perform 37 = .ok (.iaload, 1) := by decide +kernel
theorem dX0_perform_38 : decode cX0_perform 38 = .ok (.istore 7, 2) := by decide +kernel
theorem dX0_perform_40 : decode cX0_perform 40 = .ok (.iload 4, 2) := by decide +kernel
theorem dX0_perform_42 : decode cX0_perform 42 = .ok (.iconst 1, 1) := by decide +kernel
theorem dX0_perform_43 : decode cX0_perform 43 = .ok (.iadd, 1) := by decide +kernel
theorem dX0_perform_44 : decode cX0_perform 44 = .ok (.istore 8, 2) := by decide +kernel
theorem dX0_perform_46 : decode cX0_perform 46 = .ok (.aload_n 0, 1) := by decide +kernel
theorem dX0_perform_47 : decode cX0_perform 47 = .ok (.iload 7, 2) := by decide +kernel
theorem dX0_perform_49 : decode cX0_perform 49 = .ok (.invokevirtual 47, 3) := by decide +kernel
theorem dX0_perform_52 : decode cX0_perform 52 = .ok (.iload 7, 2) := by decide +kernel
theorem dX0_perform_54 : decode cX0_perform 54 = .ok (.lookupswitch 268 #[(10, 98), (11, 105), (12, 123), (20, 138), (30, 152), (40, 165), (50, 189), (51, 201), (60, 214), (70, 230), (71, 252)], 98) := by decide +kernel
theorem dX0_perform_152 : decode cX0_perform 152 = .ok (.iload_n 3, 1) := by decide +kernel
theorem dX0_perform_153 : decode cX0_perform 153 = .ok (.aload_n 0, 1) := by decide +kernel
theorem dX0_perform_154 : decode cX0_perform 154 = .ok (.getfield 19, 3) := by decide +kernel
theorem dX0_perform_157 : decode cX0_perform 157 = .ok (.iadd, 1) := by decide +kernel
theorem dX0_perform_158 : decode cX0_perform 158 = .ok (.ireturn, 1) := by decide +kernel
theorem dX0_perform_159 : decode cX0_perform 159 = .ok (.aload_n 0, 1) := by decide +kernel
theorem dX0_perform_160 : decode cX0_perform 160 = .ok (.aload_n 0, 1) := by decide +kernel
theorem dX0_perform_161 : decode cX0_perform 161 = .ok (.getfield 22, 3) := by decide +kernel
theorem dX0_perform_164 : decode cX0_perform 164 = .ok (.iconst 0, 1) := by decide +kernel
theorem dX0_perform_165 : decode cX0_perform 165 = .ok (.iload_n 3, 1) := by decide +kernel
theorem dX0_perform_166 : decode cX0_perform 166 = .ok (.iload 8, 2) := by decide +kernel
theorem dX0_perform_168 : decode cX0_perform 168 = .ok (.invokevirtual 28, 3) := by decide +kernel
theorem dX0_perform_171 : decode cX0_perform 171 = .ok (.aload_n 0, 1) := by decide +kernel
theorem dX0_perform_172 : decode cX0_perform 172 = .ok (.getfield 25, 3) := by decide +kernel
theorem dX0_perform_175 : decode cX0_perform 175 = .ok (.isub, 1) := by decide +kernel
theorem dX0_perform_176 : decode cX0_perform 176 = .ok (.ireturn, 1) := by decide +kernel
theorem dX0_perform_177 : decode cX0_perform 177 = .ok (.aload_n 0, 1) := by decide +kernel
theorem dX0_perform_178 : decode cX0_perform 178 = .ok (.aload_n 0, 1) := by decide +kernel
theorem dX0_perform_179 : decode cX0_perform 179 = .ok (.getfield 22, 3) := by decide +kernel
theorem dX0_perform_182 : decode cX0_perform 182 = .ok (.iconst 1, 1) := by decide +kernel
theorem dX0_perform_183 : decode cX0_perform 183 = .ok (.iload_n 3, 1) := by decide +kernel
theorem dX0_perform_184 : decode cX0_perform 184 = .ok (.iload 8, 2) := by decide +kernel
theorem dX0_perform_186 : decode cX0_perform 186 = .ok (.invokevirtual 28, 3) := by decide +kernel
theorem dX0_perform_189 : decode cX0_perform 189 = .ok (.iconst 2, 1) := by decide +kernel
theorem dX0_perform_190 : decode cX0_perform 190 = .ok (.imul, 1) := by decide +kernel
theorem dX0_perform_191 : decode cX0_perform 191 = .ok (.ireturn, 1) := by decide +kernel
theorem dX0_perform_192 : decode cX0_perform 192 = .ok (.aload_n 0, 1) := by decide +kernel
theorem dX0_perform_193 : decode cX0_perform 193 = .ok (.iload 6, 2) := by decide +kernel
theorem dX0_perform_195 : decode cX0_perform 195 = .ok (.iconst 1, 1) := by decide +kernel
theorem dX0_perform_196 : decode cX0_perform 196 = .ok (.iload_n 3, 1) := by decide +kernel
theorem dX0_perform_197 : decode cX0_perform 197 = .ok (.iload 8, 2) := by decide +kernel
theorem dX0_perform_199 : decode cX0_perform 199 = .ok (.invokevirtual 28, 3) := by decide +kernel
theorem dX0_perform_202 : decode cX0_perform 202 = .ok (.bipush 6, 2) := by decide +kernel
theorem dX0_perform_204 : decode cX0_perform 204 = .ok (.ixor, 1) := by decide +kernel
theorem dX0_perform_205 : decode cX0_perform 205 = .ok (.ireturn, 1) := by decide +kernel
theorem dX0_perform_206 : decode cX0_perform 206 = .ok (.aload_n 0, 1) := by decide +kernel
theorem dX0_perform_207 : decode cX0_perform 207 = .ok (.iload 6, 2) := by decide +kernel
theorem dX0_perform_209 : decode cX0_perform 209 = .ok (.iconst 0, 1) := by decide +kernel
theorem dX0_perform_210 : decode cX0_perform 210 = .ok (.iload_n 3, 1) := by decide +kernel
theorem dX0_perform_211 : decode cX0_perform 211 = .ok (.iconst 3, 1) := by decide +kernel
theorem dX0_perform_212 : decode cX0_perform 212 = .ok (.imul, 1) := by decide +kernel
theorem dX0_perform_213 : decode cX0_perform 213 = .ok (.iload 8, 2) := by decide +kernel
theorem dX0_perform_215 : decode cX0_perform 215 = .ok (.invokevirtual 28, 3) := by decide +kernel
theorem dX0_perform_218 : decode cX0_perform 218 = .ok (.ireturn, 1) := by decide +kernel
theorem dX0_perform_219 : decode cX0_perform 219 = .ok (.aload_n 0, 1) := by decide +kernel
theorem dX0_perform_220 : decode cX0_perform 220 = .ok (.iload 6, 2) := by decide +kernel
theorem dX0_perform_222 : decode cX0_perform 222 = .ok (.iconst 2, 1) := by decide +kernel
theorem dX0_perform_223 : decode cX0_perform 223 = .ok (.iload_n 3, 1) := by decide +kernel
theorem dX0_perform_224 : decode cX0_perform 224 = .ok (.iload 8, 2) := by decide +kernel
theorem dX0_perform_226 : decode cX0_perform 226 = .ok (.invokevirtual 28, 3) := by decide +kernel
theorem dX0_perform_229 : decode cX0_perform 229 = .ok (.aload_n 0, 1) := by decide +kernel
theorem dX0_perform_230 : decode cX0_perform 230 = .ok (.aload_n 0, 1) := by decide +kernel
theorem dX0_perform_231 : decode cX0_perform 231 = .ok (.getfield 22, 3) := by decide +kernel
theorem dX0_perform_234 : decode cX0_perform 234 = .ok (.iconst 1, 1) := by decide +kernel
theorem dX0_perform_235 : decode cX0_perform 235 = .ok (.iconst 1, 1) := by decide +kernel
theorem dX0_perform_236 : decode cX0_perform 236 = .ok (.iload 8, 2) := by decide +kernel
theorem dX0_perform_238 : decode cX0_perform 238 = .ok (.invokevirtual 28, 3) := by decide +kernel
theorem dX0_perform_241 : decode cX0_perform 241 = .ok (.iadd, 1) := by decide +kernel
theorem dX0_perform_242 : decode cX0_perform 242 = .ok (.ireturn, 1) := by decide +kernel
theorem dX0_perform_243 : decode cX0_perform 243 = .ok (.aload_n 0, 1) := by decide +kernel
theorem dX0_perform_244 : decode cX0_perform 244 = .ok (.iload 6, 2) := by decide +kernel
theorem dX0_perform_246 : decode cX0_perform 246 = .ok (.iconst 0, 1) := by decide +kernel
theorem dX0_perform_247 : decode cX0_perform 247 = .ok (.iload_n 3, 1) := by decide +kernel
theorem dX0_perform_248 : decode cX0_perform 248 = .ok (.iload 8, 2) := by decide +kernel
theorem dX0_perform_250 : decode cX0_perform 250 = .ok (.invokevirtual 28, 3) := by decide +kernel
theorem dX0_perform_253 : decode cX0_perform 253 = .ok (.ineg, 1) := by decide +kernel
theorem dX0_perform_254 : decode cX0_perform 254 = .ok (.ireturn, 1) := by decide +kernel
theorem dX0_perform_255 : decode cX0_perform 255 = .ok (.aload_n 0, 1) := by decide +kernel
theorem dX0_perform_256 : decode cX0_perform 256 = .ok (.iload 6, 2) := by decide +kernel
theorem dX0_perform_258 : decode cX0_perform 258 = .ok (.iconst 1, 1) := by decide +kernel
theorem dX0_perform_259 : decode cX0_perform 259 = .ok (.iload_n 3, 1) := by decide +kernel
theorem dX0_perform_260 : decode cX0_perform 260 = .ok (.iconst 1, 1) := by decide +kernel
theorem dX0_perform_261 : decode cX0_perform 261 = .ok (.iadd, 1) := by decide +kernel
theorem dX0_perform_262 : decode cX0_perform 262 = .ok (.iload 8, 2) := by decide +kernel
theorem dX0_perform_264 : decode cX0_perform 264 = .ok (.invokevirtual 28, 3) := by decide +kernel
theorem dX0_perform_267 : decode cX0_perform 267 = .ok (.ireturn, 1) := by decide +kernel
theorem dX0_perform_268 : decode cX0_perform 268 = .ok (.aload_n 0, 1) := by decide +kernel
theorem dX0_perform_269 : decode cX0_perform 269 = .ok (.iload 6, 2) := by decide +kernel
theorem dX0_perform_271 : decode cX0_perform 271 = .ok (.iconst 2, 1) := by decide +kernel
theorem dX0_perform_272 : decode cX0_perform 272 = .ok (.iload_n 3, 1) := by decide +kernel
theorem dX0_perform_273 : decode cX0_perform 273 = .ok (.aload_n 0, 1) := by decide +kernel
theorem dX0_perform_274 : decode cX0_perform 274 = .ok (.getfield 19, 3) := by decide +kernel
theorem dX0_perform_277 : decode cX0_perform 277 = .ok (.isub, 1) := by decide +kernel
theorem dX0_perform_278 : decode cX0_perform 278 = .ok (.iload 8, 2) := by decide +kernel
theorem dX0_perform_280 : decode cX0_perform 280 = .ok (.invokevirtual 28, 3) := by decide +kernel
theorem dX0_perform_283 : decode cX0_perform 283 = .ok (.ireturn, 1) := by decide +kernel
theorem dX0_perform_284 : decode cX0_perform 284 = .ok (.aload_n 0, 1) := by decide +kernel
theorem dX0_perform_285 : decode cX0_perform 285 = .ok (.iload 6, 2) := by decide +kernel
theorem dX0_perform_287 : decode cX0_perform 287 = .ok (.iconst 1, 1) := by decide +kernel
theorem dX0_perform_288 : decode cX0_perform 288 = .ok (.iload_n 3, 1) := by decide +kernel
theorem dX0_perform_289 : decode cX0_perform 289 = .ok (.iload 8, 2) := by decide +kernel
theorem dX0_perform_291 : decode cX0_perform 291 = .ok (.invokevirtual 28, 3) := by decide +kernel
theorem dX0_perform_294 : decode cX0_perform 294 = .ok (.aload_n 0, 1) := by decide +kernel
theorem dX0_perform_295 : decode cX0_perform 295 = .ok (.iload 6, 2) := by decide +kernel
theorem dX0_perform_297 : decode cX0_perform 297 = .ok (.iconst 0, 1) := by decide +kernel
theorem dX0_perform_298 : decode cX0_perform 298 = .ok (.iconst 2, 1) := by decide +kernel
theorem dX0_perform_299 : decode cX0_perform 299 = .ok (.iload 8, 2) := by decide +kernel
theorem dX0_perform_301 : decode cX0_perform 301 = .ok (.invokevirtual 28, 3) := by decide +kernel
theorem dX0_perform_304 : decode cX0_perform 304 = .ok (.iadd, 1) := by decide +kernel
theorem dX0_perform_305 : decode cX0_perform 305 = .ok (.ireturn, 1) := by decide +kernel
theorem dX0_perform_306 : decode cX0_perform 306 = .ok (.aload_n 0, 1) := by decide +kernel
theorem dX0_perform_307 : decode cX0_perform 307 = .ok (.iload 6, 2) := by decide +kernel
theorem dX0_perform_309 : decode cX0_perform 309 = .ok (.iconst 0, 1) := by decide +kernel
theorem dX0_perform_310 : decode cX0_perform 310 = .ok (.iload_n 3, 1) := by decide +kernel
theorem dX0_perform_311 : decode cX0_perform 311 = .ok (.iload 8, 2) := by decide +kernel
theorem dX0_perform_313 : decode cX0_perform 313 = .ok (.invokevirtual 28, 3) := by decide +kernel
theorem dX0_perform_316 : decode cX0_perform 316 = .ok (.aload_n 0, 1) := by decide +kernel
theorem dX0_perform_317 : decode cX0_perform 317 = .ok (.getfield 25, 3) := by decide +kernel
theorem dX0_perform_320 : decode cX0_perform 320 = .ok (.ixor, 1) := by decide +kernel
theorem dX0_perform_321 : decode cX0_perform 321 = .ok (.ireturn, 1) := by decide +kernel
theorem dX0_perform_322 : decode cX0_perform 322 = .ok (.iconst 0, 1) := by decide +kernel
theorem dX0_perform_323 : decode cX0_perform 323 = .ok (.ireturn, 1) := by decide +kernel
theorem dX0_ownerOf_0 : decode cX0_ownerOf 0 = .ok (.iload_n 0, 1) := by decide +kernel
theorem dX0_ownerOf_1 : decode cX0_ownerOf 1 = .ok (.istore_n 2, 1) := by decide +kernel
theorem dX0_ownerOf_2 : decode cX0_ownerOf 2 = .ok (.iconst 0, 1) := by decide +kernel
theorem dX0_ownerOf_3 : decode cX0_ownerOf 3 = .ok (.istore_n 3, 1) := by decide +kernel
theorem dX0_ownerOf_4 : decode cX0_ownerOf 4 = .ok (.iload_n 3, 1) := by decide +kernel
theorem dX0_ownerOf_5 : decode cX0_ownerOf 5 = .ok (.bipush 7, 2) := by decide +kernel
theorem dX0_ownerOf_7 : decode cX0_ownerOf 7 = .ok (.if_icmp .ge 31, 3) := by decide +kernel
theorem dX0_ownerOf_10 : decode cX0_ownerOf 10 = .ok (.iload_n 2, 1) := by decide +kernel
theorem dX0_ownerOf_11 : decode cX0_ownerOf 11 = .ok (.ifCond .le 27, 3) := by decide +kernel
theorem dX0_ownerOf_14 : decode cX0_ownerOf 14 = .ok (.getstatic 44, 3) := by decide +kernel
theorem dX0_ownerOf_17 : decode cX0_ownerOf 17 = .ok (.iload_n 2, 1) := by decide +kernel
theorem dX0_ownerOf_18 : decode cX0_ownerOf 18 = .ok (.iconst 3, 1) := by decide +kernel
theorem dX0_ownerOf_19 : decode cX0_ownerOf 19 = .ok (.imul, 1) := by decide +kernel
theorem dX0_ownerOf_20 : decode cX0_ownerOf 20 = .ok (.iload_n 1, 1) := by decide +kernel
theorem dX0_ownerOf_21 : decode cX0_ownerOf 21 = .ok (.iadd, 1) := by decide +kernel
theorem dX0_ownerOf_22 : decode cX0_ownerOf 22 = .ok (.iaload, 1) := by decide +kernel
theorem dX0_ownerOf_23 : decode cX0_ownerOf 23 = .ok (.ifCond .ne 15, 3) := by decide +kernel
theorem dX0_ownerOf_26 : decode cX0_ownerOf 26 = .ok (.getstatic 36, 3) := by decide +kernel
theorem dX0_ownerOf_29 : decode cX0_ownerOf 29 = .ok (.iload_n 2, 1) := by decide +kernel
theorem dX0_ownerOf_30 : decode cX0_ownerOf 30 = .ok (.iaload, 1) := by decide +kernel
theorem dX0_ownerOf_31 : decode cX0_ownerOf 31 = .ok (.istore_n 2, 1) := by decide +kernel
theorem dX0_ownerOf_32 : decode cX0_ownerOf 32 = .ok (.iinc 3 1, 3) := by decide +kernel
theorem dX0_ownerOf_35 : decode cX0_ownerOf 35 = .ok (.goto (-31), 3) := by decide +kernel
theorem dX0_ownerOf_38 : decode cX0_ownerOf 38 = .ok (.iload_n 2, 1) := by decide +kernel
theorem dX0_ownerOf_39 : decode cX0_ownerOf 39 = .ok (.ireturn, 1) := by decide +kernel
theorem dX0_begin_0 : decode cX0_begin 0 = .ok (.aload_n 0, 1) := by decide +kernel
theorem dX0_begin_1 : decode cX0_begin 1 = .ok (.getfield 15, 3) := by decide +kernel
theorem dX0_begin_4 : decode cX0_begin 4 = .ok (.aload_n 0, 1) := by decide +kernel
theorem dX0_begin_5 : decode cX0_begin 5 = .ok (.getfield 11, 3) := by decide +kernel
theorem dX0_begin_8 : decode cX0_begin 8 = .ok (.arraylength, 1) := by decide +kernel
theorem dX0_begin_9 : decode cX0_begin 9 = .ok (.if_icmp .ge 13, 3) := by decide +kernel
theorem dX0_begin_12 : decode cX0_begin 12 = .ok (.aload_n 0, 1) := by decide +kernel
theorem dX0_begin_13 : decode cX0_begin 13 = .ok (.getfield 11, 3) := by decide +kernel
theorem dX0_begin_16 : decode cX0_begin 16 = .ok (.aload_n 0, 1) := by decide +kernel
theorem dX0_begin_17 : decode cX0_begin 17 = .ok (.getfield 15, 3) := by decide +kernel
theorem dX0_begin_20 : decode cX0_begin 20 = .ok (.iload_n 1, 1) := by decide +kernel
theorem dX0_begin_21 : decode cX0_begin 21 = .ok (.iastore, 1) := by decide +kernel
theorem dX0_begin_22 : decode cX0_begin 22 = .ok (.aload_n 0, 1) := by decide +kernel
theorem dX0_begin_23 : decode cX0_begin 23 = .ok (.dup, 1) := by decide +kernel
theorem dX0_begin_24 : decode cX0_begin 24 = .ok (.getfield 15, 3) := by decide +kernel
theorem dX0_begin_27 : decode cX0_begin 27 = .ok (.iconst 1, 1) := by decide +kernel
theorem dX0_begin_28 : decode cX0_begin 28 = .ok (.iadd, 1) := by decide +kernel
theorem dX0_begin_29 : decode cX0_begin 29 = .ok (.putfield 15, 3) := by decide +kernel
theorem dX0_begin_32 : decode cX0_begin 32 = .ok (.return_, 1) := by decide +kernel
theorem dX1_init_0 : decode cX1_init 0 = .ok (.aload_n 0, 1) := by decide +kernel
theorem dX1_init_1 : decode cX1_init 1 = .ok (.invokespecial 3, 3) := by decide +kernel
theorem dX1_init_4 : decode cX1_init 4 = .ok (.aload_n 0, 1) := by decide +kernel
theorem dX1_init_5 : decode cX1_init 5 = .ok (.bipush 10, 2) := by decide +kernel
theorem dX1_init_7 : decode cX1_init 7 = .ok (.newarray .int, 2) := by decide +kernel
theorem dX1_init_9 : decode cX1_init 9 = .ok (.putfield 9, 3) := by decide +kernel
theorem dX1_init_12 : decode cX1_init 12 = .ok (.aload_n 0, 1) := by decide +kernel
theorem dX1_init_13 : decode cX1_init 13 = .ok (.bipush 10, 2) := by decide +kernel
theorem dX1_init_15 : decode cX1_init 15 = .ok (.newarray .int, 2) := by decide +kernel
theorem dX1_init_17 : decode cX1_init 17 = .ok (.putfield 15, 3) := by decide +kernel
theorem dX1_init_20 : decode cX1_init 20 = .ok (.aload_n 0, 1) := by decide +kernel
theorem dX1_init_21 : decode cX1_init 21 = .ok (.bipush 10, 2) := by decide +kernel
theorem dX1_init_23 : decode cX1_init 23 = .ok (.newarray .int, 2) := by decide +kernel
theorem dX1_init_25 : decode cX1_init 25 = .ok (.putfield 18, 3) := by decide +kernel
theorem dX1_init_28 : decode cX1_init 28 = .ok (.aload_n 0, 1) := by decide +kernel
theorem dX1_init_29 : decode cX1_init 29 = .ok (.bipush 100, 2) := by decide +kernel
theorem dX1_init_31 : decode cX1_init 31 = .ok (.newarray .int, 2) := by decide +kernel
theorem dX1_init_33 : decode cX1_init 33 = .ok (.putfield 21, 3) := by decide +kernel
theorem dX1_init_36 : decode cX1_init 36 = .ok (.return_, 1) := by decide +kernel
theorem dX1_clear_0 : decode cX1_clear 0 = .ok (.aload_n 0, 1) := by decide +kernel
theorem dX1_clear_1 : decode cX1_clear 1 = .ok (.iconst 0, 1) := by decide +kernel
theorem dX1_clear_2 : decode cX1_clear 2 = .ok (.putfield 24, 3) := by decide +kernel
theorem dX1_clear_5 : decode cX1_clear 5 = .ok (.aload_n 0, 1) := by decide +kernel
theorem dX1_clear_6 : decode cX1_clear 6 = .ok (.iconst 0, 1) := by decide +kernel
theorem dX1_clear_7 : decode cX1_clear 7 = .ok (.putfield 28, 3) := by decide +kernel
theorem dX1_clear_10 : decode cX1_clear 10 = .ok (.return_, 1) := by decide +kernel
theorem dX1_testSign_0 : decode cX1_testSign 0 = .ok (.iload_n 0, 1) := by decide +kernel
theorem dX1_testSign_1 : decode cX1_testSign 1 = .ok (.iconst 3, 1) := by decide +kernel
theorem dX1_testSign_2 : decode cX1_testSign 2 = .ok (.imul, 1) := by decide +kernel
theorem dX1_testSign_3 : decode cX1_testSign 3 = .ok (.iload_n 1, 1) := by decide +kernel
theorem dX1_testSign_4 : decode cX1_testSign 4 = .ok (.iadd, 1) := by decide +kernel
theorem dX1_testSign_5 : decode cX1_testSign 5 = .ok (.bipush 100, 2) := by decide +kernel
theorem dX1_testSign_7 : decode cX1_testSign 7 = .ok (.imul, 1) := by decide +kernel
theorem dX1_testSign_8 : decode cX1_testSign 8 = .ok (.iload_n 2, 1) := by decide +kernel
theorem dX1_testSign_9 : decode cX1_testSign 9 = .ok (.iadd, 1) := by decide +kernel
theorem dX1_testSign_10 : decode cX1_testSign 10 = .ok (.ireturn, 1) := by decide +kernel
theorem dX1_addSign_0 : decode cX1_addSign 0 = .ok (.aload_n 0, 1) := by decide +kernel
theorem dX1_addSign_1 : decode cX1_addSign 1 = .ok (.getfield 28, 3) := by decide +kernel
theorem dX1_addSign_4 : decode cX1_addSign 4 = .ok (.aload_n 0, 1) := by decide +kernel
theorem dX1_addSign_5 : decode cX1_addSign 5 = .ok (.getfield 21, 3) := by decide +kernel
theorem dX1_addSign_8 : decode cX1_addSign 8 = .ok (.arraylength, 1) := by decide +kernel
theorem dX1_addSign_9 : decode cX1_addSign 9 = .ok (.if_icmp .ge 23, 3) := by decide +kernel
theorem dX1_addSign_12 : decode cX1_addSign 12 = .ok (.aload_n 0, 1) := by decide +kernel
theorem dX1_addSign_13 : decode cX1_addSign 13 = .ok (.getfield 21, 3) := by decide +kernel
theorem dX1_addSign_16 : decode cX1_addSign 16 = .ok (.aload_n 0, 1) := by decide +kernel
theorem dX1_addSign_17 : decode cX1_addSign 17 = .ok (.getfield 28, 3) := by decide +kernel
theorem dX1_addSign_20 : decode cX1_addSign 20 = .ok (.iload_n 1, 1) := by decide +kernel
theorem dX1_addSign_21 : decode cX1_addSign 21 = .ok (.iastore, 1) := by decide +kernel
theorem dX1_addSign_22 : decode cX1_addSign 22 = .ok (.aload_n 0, 1) := by decide +kernel
theorem dX1_addSign_23 : decode cX1_addSign 23 = .ok (.dup, 1) := by decide +kernel
theorem dX1_addSign_24 : decode cX1_addSign 24 = .ok (.getfield 28, 3) := by decide +kernel
theorem dX1_addSign_27 : decode cX1_addSign 27 = .ok (.iconst 1, 1) := by decide +kernel
theorem dX1_addSign_28 : decode cX1_addSign 28 = .ok (.iadd, 1) := by decide +kernel
theorem dX1_addSign_29 : decode cX1_addSign 29 = .ok (.putfield 28, 3) := by decide +kernel
theorem dX1_addSign_32 : decode cX1_addSign 32 = .ok (.return_, 1) := by decide +kernel
theorem dX1_endClause_0 : decode cX1_endClause 0 = .ok (.aload_n 0, 1) := by decide +kernel
theorem dX1_endClause_1 : decode cX1_endClause 1 = .ok (.getfield 24, 3) := by decide +kernel
theorem dX1_endClause_4 : decode cX1_endClause 4 = .ok (.aload_n 0, 1) := by decide +kernel
theorem dX1_endClause_5 : decode cX1_endClause 5 = .ok (.getfield 9, 3) := by decide +kernel
theorem dX1_endClause_8 : decode cX1_endClause 8 = .ok (.arraylength, 1) := by decide +kernel
theorem dX1_endClause_9 : decode cX1_endClause 9 = .ok (.if_icmp .ge 46, 3) := by decide +kernel
theorem dX1_endClause_12 : decode cX1_endClause 12 = .ok (.aload_n 0, 1) := by decide +kernel
theorem dX1_endClause_13 : decode cX1_endClause 13 = .ok (.getfield 9, 3) := by decide +kernel
theorem dX1_endClause_16 : decode cX1_endClause 16 = .ok (.aload_n 0, 1) := by decide +kernel
theorem dX1_endClause_17 : decode cX1_endClause 17 = .ok (.getfield 24, 3) := by decide +kernel
theorem dX1_endClause_20 : decode cX1_endClause 20 = .ok (.iload_n 1, 1) := by decide +kernel
theorem dX1_endClause_21 : decode cX1_endClause 21 = .ok (.iastore, 1) := by decide +kernel
theorem dX1_endClause_22 : decode cX1_endClause 22 = .ok (.aload_n 0, 1) := by decide +kernel
theorem dX1_endClause_23 : decode cX1_endClause 23 = .ok (.getfield 15, 3) := by decide +kernel
theorem dX1_endClause_26 : decode cX1_endClause 26 = .ok (.aload_n 0, 1) := by decide +kernel
theorem dX1_endClause_27 : decode cX1_endClause 27 = .ok (.getfield 24, 3) := by decide +kernel
theorem dX1_endClause_30 : decode cX1_endClause 30 = .ok (.iload_n 2, 1) := by decide +kernel
theorem dX1_endClause_31 : decode cX1_endClause 31 = .ok (.iastore, 1) := by decide +kernel
theorem dX1_endClause_32 : decode cX1_endClause 32 = .ok (.aload_n 0, 1) := by decide +kernel
theorem dX1_endClause_33 : decode cX1_endClause 33 = .ok (.getfield 18, 3) := by decide +kernel
theorem dX1_endClause_36 : decode cX1_endClause 36 = .ok (.aload_n 0, 1) := by decide +kernel
theorem dX1_endClause_37 : decode cX1_endClause 37 = .ok (.getfield 24, 3) := by decide +kernel
theorem dX1_endClause_40 : decode cX1_endClause 40 = .ok (.aload_n 0, 1) := by decide +kernel
theorem dX1_endClause_41 : decode cX1_endClause 41 = .ok (.getfield 28, 3) := by decide +kernel
theorem dX1_endClause_44 : decode cX1_endClause 44 = .ok (.iastore, 1) := by decide +kernel
theorem dX1_endClause_45 : decode cX1_endClause 45 = .ok (.aload_n 0, 1) := by decide +kernel
theorem dX1_endClause_46 : decode cX1_endClause 46 = .ok (.dup, 1) := by decide +kernel
theorem dX1_endClause_47 : decode cX1_endClause 47 = .ok (.getfield 24, 3) := by decide +kernel
theorem dX1_endClause_50 : decode cX1_endClause 50 = .ok (.iconst 1, 1) := by decide +kernel
theorem dX1_endClause_51 : decode cX1_endClause 51 = .ok (.iadd, 1) := by decide +kernel
theorem dX1_endClause_52 : decode cX1_endClause 52 = .ok (.putfield 24, 3) := by decide +kernel
theorem dX1_endClause_55 : decode cX1_endClause 55 = .ok (.return_, 1) := by decide +kernel
theorem dX1_hoursOf_0 : decode cX1_hoursOf 0 = .ok (.iconst 0, 1) := by decide +kernel
theorem dX1_hoursOf_1 : decode cX1_hoursOf 1 = .ok (.istore 4, 2) := by decide +kernel
theorem dX1_hoursOf_3 : decode cX1_hoursOf 3 = .ok (.iload 4, 2) := by decide +kernel
theorem dX1_hoursOf_5 : decode cX1_hoursOf 5 = .ok (.aload_n 0, 1) := by decide +kernel
theorem dX1_hoursOf_6 : decode cX1_hoursOf 6 = .ok (.getfield 24, 3) := by decide +kernel
theorem dX1_hoursOf_9 : decode cX1_hoursOf 9 = .ok (.if_icmp .ge 41, 3) := by decide +kernel
theorem dX1_hoursOf_12 : decode cX1_hoursOf 12 = .ok (.aload_n 0, 1) := by decide +kernel
theorem dX1_hoursOf_13 : decode cX1_hoursOf 13 = .ok (.getfield 9, 3) := by decide +kernel
theorem dX1_hoursOf_16 : decode cX1_hoursOf 16 = .ok (.iload 4, 2) := by decide +kernel
theorem dX1_hoursOf_18 : decode cX1_hoursOf 18 = .ok (.iaload, 1) := by decide +kernel
theorem dX1_hoursOf_19 : decode cX1_hoursOf 19 = .ok (.ifCond .ne 25, 3) := by decide +kernel
theorem dX1_hoursOf_22 : decode cX1_hoursOf 22 = .ok (.aload_n 0, 1) := by decide +kernel
theorem dX1_hoursOf_23 : decode cX1_hoursOf 23 = .ok (.iload 4, 2) := by decide +kernel
theorem dX1_hoursOf_25 : decode cX1_hoursOf 25 = .ok (.iload_n 1, 1) := by decide +kernel
theorem dX1_hoursOf_26 : decode cX1_hoursOf 26 = .ok (.iload_n 2, 1) := by decide +kernel
theorem dX1_hoursOf_27 : decode cX1_hoursOf 27 = .ok (.iload_n 3, 1) := by decide +kernel
theorem dX1_hoursOf_28 : decode cX1_hoursOf 28 = .ok (.iconst 0, 1) := by decide +kernel
theorem dX1_hoursOf_29 : decode cX1_hoursOf 29 = .ok (.iconst 0, 1) := by decide +kernel
theorem dX1_hoursOf_30 : decode cX1_hoursOf 30 = .ok (.invokevirtual 31, 3) := by decide +kernel
theorem dX1_hoursOf_33 : decode cX1_hoursOf 33 = .ok (.ifCond .eq 11, 3) := by decide +kernel
theorem dX1_hoursOf_36 : decode cX1_hoursOf 36 = .ok (.aload_n 0, 1) := by decide +kernel
theorem dX1_hoursOf_37 : decode cX1_hoursOf 37 = .ok (.getfield 15, 3) := by decide +kernel
theorem dX1_hoursOf_40 : decode cX1_hoursOf 40 = .ok (.iload 4, 2) := by decide +kernel
theorem dX1_hoursOf_42 : decode cX1_hoursOf 42 = .ok (.iaload, 1) := by decide +kernel
theorem dX1_hoursOf_43 : decode cX1_hoursOf 43 = .ok (.ireturn, 1) := by decide +kernel
theorem dX1_hoursOf_44 : decode cX1_hoursOf 44 = .ok (.iinc 4 1, 3) := by decide +kernel
theorem dX1_hoursOf_47 : decode cX1_hoursOf 47 = .ok (.goto (-44), 3) := by decide +kernel
theorem dX1_hoursOf_50 : decode cX1_hoursOf 50 = .ok (.bipush (-5), 2) := by decide +kernel
theorem dX1_hoursOf_52 : decode cX1_hoursOf 52 = .ok (.ireturn, 1) := by decide +kernel
theorem dX1_habitOf_0 : decode cX1_habitOf 0 = .ok (.iconst 0, 1) := by decide +kernel
theorem dX1_habitOf_1 : decode cX1_habitOf 1 = .ok (.istore 4, 2) := by decide +kernel
theorem dX1_habitOf_3 : decode cX1_habitOf 3 = .ok (.iconst 0, 1) := by decide +kernel
theorem dX1_habitOf_4 : decode cX1_habitOf 4 = .ok (.istore 5, 2) := by decide +kernel
theorem dX1_habitOf_6 : decode cX1_habitOf 6 = .ok (.iload 5, 2) := by decide +kernel
theorem dX1_habitOf_8 : decode cX1_habitOf 8 = .ok (.aload_n 0, 1) := by decide +kernel
theorem dX1_habitOf_9 : decode cX1_habitOf 9 = .ok (.getfield 24, 3) := by decide +kernel
theorem dX1_habitOf_12 : decode cX1_habitOf 12 = .ok (.if_icmp .ge 46, 3) := by decide +kernel
theorem dX1_habitOf_15 : decode cX1_habitOf 15 = .ok (.aload_n 0, 1) := by decide +kernel
theorem dX1_habitOf_16 : decode cX1_habitOf 16 = .ok (.getfield 9, 3) := by decide +kernel
theorem dX1_habitOf_19 : decode cX1_habitOf 19 = .ok (.iload 5, 2) := by decide +kernel
theorem dX1_habitOf_21 : decode cX1_habitOf 21 = .ok (.iaload, 1) := by decide +kernel
theorem dX1_habitOf_22 : decode cX1_habitOf 22 = .ok (.iconst 1, 1) := by decide +kernel
theorem dX1_habitOf_23 : decode cX1_habitOf 23 = .ok (.if_icmp .ne 29, 3) := by decide +kernel
theorem dX1_habitOf_26 : decode cX1_habitOf 26 = .ok (.aload_n 0, 1) := by decide +kernel
theorem dX1_habitOf_27 : decode cX1_habitOf 27 = .ok (.iload 5, 2) := by decide +kernel
theorem dX1_habitOf_29 : decode cX1_habitOf 29 = .ok (.iload_n 1, 1) := by decide +kernel
theorem dX1_habitOf_30 : decode cX1_habitOf 30 = .ok (.iconst 0, 1) := by decide +kernel
theorem dX1_habitOf_31 : decode cX1_habitOf 31 = .ok (.iconst 0, 1) := by decide +kernel
theorem dX1_habitOf_32 : decode cX1_habitOf 32 = .ok (.iload_n 2, 1) := by decide +kernel
theorem dX1_habitOf_33 : decode cX1_habitOf 33 = .ok (.iload_n 3, 1) := by decide +kernel
theorem dX1_habitOf_34 : decode cX1_habitOf 34 = .ok (.invokevirtual 31, 3) := by decide +kernel
theorem dX1_habitOf_37 : decode cX1_habitOf 37 = .ok (.ifCond .eq 15, 3) := by decide +kernel
theorem dX1_habitOf_40 : decode cX1_habitOf 40 = .ok (.iload 4, 2) := by decide +kernel
theorem dX1_habitOf_42 : decode cX1_habitOf 42 = .ok (.aload_n 0, 1) := by decide +kernel
theorem dX1_habitOf_43 : decode cX1_habitOf 43 = .ok (.getfield 15, 3) := by decide +kernel
theorem dX1_habitOf_46 : decode cX1_habitOf 46 = .ok (.iload 5, 2) := by decide +kernel
theorem dX1_habitOf_48 : decode cX1_habitOf 48 = .ok (.iaload, 1) := by decide +kernel
theorem dX1_habitOf_49 : decode cX1_habitOf 49 = .ok (.iadd, 1) := by decide +kernel
theorem dX1_habitOf_50 : decode cX1_habitOf 50 = .ok (.istore 4, 2) := by decide +kernel
theorem dX1_habitOf_52 : decode cX1_habitOf 52 = .ok (.iinc 5 1, 3) := by decide +kernel
theorem dX1_habitOf_55 : decode cX1_habitOf 55 = .ok (.goto (-49), 3) := by decide +kernel
theorem dX1_habitOf_58 : decode cX1_habitOf 58 = .ok (.iload 4, 2) := by decide +kernel
theorem dX1_habitOf_60 : decode cX1_habitOf 60 = .ok (.bipush 100, 2) := by decide +kernel
theorem dX1_habitOf_62 : decode cX1_habitOf 62 = .ok (.invokestatic 35, 3) := by decide +kernel
theorem dX1_habitOf_65 : decode cX1_habitOf 65 = .ok (.ireturn, 1) := by decide +kernel
theorem dX1_lastOf_0 : decode cX1_lastOf 0 = .ok (.iload_n 2, 1) := by decide +kernel
theorem dX1_lastOf_1 : decode cX1_lastOf 1 = .ok (.istore_n 3, 1) := by decide +kernel
theorem dX1_lastOf_2 : decode cX1_lastOf 2 = .ok (.iconst 0, 1) := by decide +kernel
theorem dX1_lastOf_3 : decode cX1_lastOf 3 = .ok (.istore 4, 2) := by decide +kernel
theorem dX1_lastOf_5 : decode cX1_lastOf 5 = .ok (.iload 4, 2) := by decide +kernel
theorem dX1_lastOf_7 : decode cX1_lastOf 7 = .ok (.aload_n 0, 1) := by decide +kernel
theorem dX1_lastOf_8 : decode cX1_lastOf 8 = .ok (.getfield 24, 3) := by decide +kernel
theorem dX1_lastOf_11 : decode cX1_lastOf 11 = .ok (.if_icmp .ge 28, 3) := by decide +kernel
theorem dX1_lastOf_14 : decode cX1_lastOf 14 = .ok (.aload_n 0, 1) := by decide +kernel
theorem dX1_lastOf_15 : decode cX1_lastOf 15 = .ok (.getfield 9, 3) := by decide +kernel
theorem dX1_lastOf_18 : decode cX1_lastOf 18 = .ok (.iload 4, 2) := by decide +kernel
theorem dX1_lastOf_20 : decode cX1_lastOf 20 = .ok (.iaload, 1) := by decide +kernel
theorem dX1_lastOf_21 : decode cX1_lastOf 21 = .ok (.iload_n 1, 1) := by decide +kernel
theorem dX1_lastOf_22 : decode cX1_lastOf 22 = .ok (.if_icmp .ne 11, 3) := by decide +kernel
theorem dX1_lastOf_25 : decode cX1_lastOf 25 = .ok (.aload_n 0, 1) := by decide +kernel
theorem dX1_lastOf_26 : decode cX1_lastOf 26 = .ok (.getfield 15, 3) := by decide +kernel
theorem dX1_lastOf_29 : decode cX1_lastOf 29 = .ok (.iload 4, 2) := by decide +kernel
theorem dX1_lastOf_31 : decode cX1_lastOf 31 = .ok (.iaload, 1) := by decide +kernel
theorem dX1_lastOf_32 : decode cX1_lastOf 32 = .ok (.istore_n 3, 1) := by decide +kernel
theorem dX1_lastOf_33 : decode cX1_lastOf 33 = .ok (.iinc 4 1, 3) := by decide +kernel
theorem dX1_lastOf_36 : decode cX1_lastOf 36 = .ok (.goto (-31), 3) := by decide +kernel
theorem dX1_lastOf_39 : decode cX1_lastOf 39 = .ok (.iload_n 3, 1) := by decide +kernel
theorem dX1_lastOf_40 : decode cX1_lastOf 40 = .ok (.ireturn, 1) := by decide +kernel
theorem dX1_mostSteps_0 : decode cX1_mostSteps 0 = .ok (.aload_n 0, 1) := by decide +kernel
theorem dX1_mostSteps_1 : decode cX1_mostSteps 1 = .ok (.iconst 4, 1) := by decide +kernel
theorem dX1_mostSteps_2 : decode cX1_mostSteps 2 = .ok (.bipush 9, 2) := by decide +kernel
theorem dX1_mostSteps_4 : decode cX1_mostSteps 4 = .ok (.invokevirtual 41, 3) := by decide +kernel
theorem dX1_mostSteps_7 : decode cX1_mostSteps 7 = .ok (.bipush 9, 2) := by decide +kernel
theorem dX1_mostSteps_9 : decode cX1_mostSteps 9 = .ok (.invokestatic 35, 3) := by decide +kernel
theorem dX1_mostSteps_12 : decode cX1_mostSteps 12 = .ok (.ireturn, 1) := by decide +kernel
theorem dX1_holds_0 : decode cX1_holds 0 = .ok (.iconst 0, 1) := by decide +kernel
theorem dX1_holds_1 : decode cX1_holds 1 = .ok (.istore 7, 2) := by decide +kernel
theorem dX1_holds_3 : decode cX1_holds 3 = .ok (.iload_n 1, 1) := by decide +kernel
theorem dX1_holds_4 : decode cX1_holds 4 = .ok (.ifCond .ne 7, 3) := by decide +kernel
theorem dX1_holds_7 : decode cX1_holds 7 = .ok (.iconst 0, 1) := by decide +kernel
theorem dX1_holds_8 : decode cX1_holds 8 = .ok (.goto 11, 3) := by decide +kernel
theorem dX1_holds_11 : decode cX1_holds 11 = .ok (.aload_n 0, 1) := by decide +kernel
theorem dX1_holds_12 : decode cX1_holds 12 = .ok (.getfield 18, 3) := by decide +kernel
theorem dX1_holds_15 : decode cX1_holds 15 = .ok (.iload_n 1, 1) := by decide +kernel
theorem dX1_holds_16 : decode cX1_holds 16 = .ok (.iconst 1, 1) := by decide +kernel
theorem dX1_holds_17 : decode cX1_holds 17 = .ok (.isub, 1) := by decide +kernel
theorem dX1_holds_18 : decode cX1_holds 18 = .ok (.iaload, 1) := by decide +kernel
theorem dX1_holds_19 : decode cX1_holds 19 = .ok (.istore 8, 2) := by decide +kernel
theorem dX1_holds_21 : decode cX1_holds 21 = .ok (.iload 8, 2) := by decide +kernel
theorem dX1_holds_23 : decode cX1_holds 23 = .ok (.aload_n 0, 1) := by decide +kernel
theorem dX1_holds_24 : decode cX1_holds 24 = .ok (.getfield 18, 3) := by decide +kernel
theorem dX1_holds_27 : decode cX1_holds 27 = .ok (.iload_n 1, 1) := by decide +kernel
theorem dX1_holds_28 : decode cX1_holds 28 = .ok (.iaload, 1) := by decide +kernel
theorem dX1_holds_29 : decode cX1_holds 29 = .ok (.if_icmp .ge 131, 3) := by decide +kernel
theorem dX1_holds_32 : decode cX1_holds 32 = .ok (.aload_n 0, 1) := by decide +kernel
theorem dX1_holds_33 : decode cX1_holds 33 = .ok (.getfield 21, 3) := by decide +kernel
theorem dX1_holds_36 : decode cX1_holds 36 = .ok (.iload 8, 2) := by decide +kernel
theorem dX1_holds_38 : decode cX1_holds 38 = .ok (.iaload, 1) := by decide +kernel
theorem dX1_holds_39 : decode cX1_holds 39 = .ok (.istore 9, 2) := by decide +kernel
theorem dX1_holds_41 : decode cX1_holds 41 = .ok (.iload 7, 2) := by decide +kernel
theorem dX1_holds_43 : decode cX1_holds 43 = .ok (.iconst 1, 1) := by decide +kernel
theorem dX1_holds_44 : decode cX1_holds 44 = .ok (.iand, 1) := by decide +kernel
theorem dX1_holds_45 : decode cX1_holds 45 = .ok (.istore 10, 2) := by decide +kernel
theorem dX1_holds_47 : decode cX1_holds 47 = .ok (.iload 9, 2) := by decide +kernel
theorem dX1_holds_49 : decode cX1_holds 49 = .ok (.bipush (-3), 2) := by decide +kernel
theorem dX1_holds_51 : decode cX1_holds 51 = .ok (.if_icmp .ne 12, 3) := by decide +kernel
theorem dX1_holds_54 : decode cX1_holds 54 = .ok (.iload 7, 2) := by decide +kernel
theorem dX1_holds_56 : decode cX1_holds 56 = .ok (.iconst 1, 1) := by decide +kernel
theorem dX1_holds_57 : decode cX1_holds 57 = .ok (.ixor, 1) := by decide +kernel
theorem dX1_holds_58 : decode cX1_holds 58 = .ok (.istore 7, 2) := by decide +kernel
theorem dX1_holds_60 : decode cX1_holds 60 = .ok (.goto 94, 3) := by decide +kernel
theorem dX1_holds_63 : decode cX1_holds 63 = .ok (.iload 9, 2) := by decide +kernel
theorem dX1_holds_65 : decode cX1_holds 65 = .ok (.iconst (-1), 1) := by decide +kernel
theorem dX1_holds_66 : decode cX1_holds 66 = .ok (.if_icmp .ne 18, 3) := by decide +kernel
theorem dX1_holds_69 : decode cX1_holds 69 = .ok (.iload 7, 2) := by decide +kernel
theorem dX1_holds_71 : decode cX1_holds 71 = .ok (.iconst 1, 1) := by decide +kernel
theorem dX1_holds_72 : decode cX1_holds 72 = .ok (.ishr, 1) := by decide +kernel
theorem dX1_holds_73 : decode cX1_holds 73 = .ok (.iload 10, 2) := by decide +kernel
theorem dX1_holds_75 : decode cX1_holds 75 = .ok (.bipush (-2), 2) := by decide +kernel
theorem dX1_holds_77 : decode cX1_holds 77 = .ok (.ior, 1) := by decide +kernel
theorem dX1_holds_78 : decode cX1_holds 78 = .ok (.iand, 1) := by decide +kernel
theorem dX1_holds_79 : decode cX1_holds 79 = .ok (.istore 7, 2) := by decide +kernel
theorem dX1_holds_81 : decode cX1_holds 81 = .ok (.goto 73, 3) := by decide +kernel
theorem dX1_holds_84 : decode cX1_holds 84 = .ok (.iload 9, 2) := by decide +kernel
theorem dX1_holds_86 : decode cX1_holds 86 = .ok (.bipush (-2), 2) := by decide +kernel
theorem dX1_holds_88 : decode cX1_holds 88 = .ok (.if_icmp .ne 15, 3) := by decide +kernel
theorem dX1_holds_91 : decode cX1_holds 91 = .ok (.iload 7, 2) := by decide +kernel
theorem dX1_holds_93 : decode cX1_holds 93 = .ok (.iconst 1, 1) := by decide +kernel
theorem dX1_holds_94 : decode cX1_holds 94 = .ok (.ishr, 1) := by decide +kernel
theorem dX1_holds_95 : decode cX1_holds 95 = .ok (.iload 10, 2) := by decide +kernel
theorem dX1_holds_97 : decode cX1_holds 97 = .ok (.ior, 1) := by decide +kernel
theorem dX1_holds_98 : decode cX1_holds 98 = .ok (.istore 7, 2) := by decide +kernel
theorem dX1_holds_100 : decode cX1_holds 100 = .ok (.goto 54, 3) := by decide +kernel
theorem dX1_holds_103 : decode cX1_holds 103 = .ok (.iload 9, 2) := by decide +kernel
theorem dX1_holds_105 : decode cX1_holds 105 = .ok (.sipush 300, 3) := by decide +kernel
theorem dX1_holds_108 : decode cX1_holds 108 = .ok (.idiv, 1) := by decide +kernel
theorem dX1_holds_109 : decode cX1_holds 109 = .ok (.iload_n 2, 1) := by decide +kernel
theorem dX1_holds_110 : decode cX1_holds 110 = .ok (.iload_n 3, 1) := by decide +kernel
theorem dX1_holds_111 : decode cX1_holds 111 = .ok (.iload 4, 2) := by decide +kernel
theorem dX1_holds_113 : decode cX1_holds 113 = .ok (.iload 5, 2) := by decide +kernel
theorem dX1_holds_115 : decode cX1_holds 115 = .ok (.iload 6, 2) := by decide +kernel
theorem dX1_holds_117 : decode cX1_holds 117 = .ok (.invokestatic 44, 3) := by decide +kernel
theorem dX1_holds_120 : decode cX1_holds 120 = .ok (.istore 11, 2) := by decide +kernel
theorem dX1_holds_122 : decode cX1_holds 122 = .ok (.iload 7, 2) := by decide +kernel
theorem dX1_holds_124 : decode cX1_holds 124 = .ok (.iconst 1, 1) := by decide +kernel
theorem dX1_holds_125 : decode cX1_holds 125 = .ok (.ishl, 1) := by decide +kernel
theorem dX1_holds_126 : decode cX1_holds 126 = .ok (.iload 11, 2) := by decide +kernel
theorem dX1_holds_128 : decode cX1_holds 128 = .ok (.iload 9, 2) := by decide +kernel
theorem dX1_holds_130 : decode cX1_holds 130 = .ok (.bipush 100, 2) := by decide +kernel
theorem dX1_holds_132 : decode cX1_holds 132 = .ok (.idiv, 1) := by decide +kernel
theorem dX1_holds_133 : decode cX1_holds 133 = .ok (.iconst 3, 1) := by decide +kernel
theorem dX1_holds_134 : decode cX1_holds 134 = .ok (.irem, 1) := by decide +kernel
theorem dX1_holds_135 : decode cX1_holds 135 = .ok (.iload 9, 2) := by decide +kernel
theorem dX1_holds_137 : decode cX1_holds 137 = .ok (.bipush 100, 2) := by decide +kernel
theorem dX1_holds_139 : decode cX1_holds 139 = .ok (.irem, 1) := by decide +kernel
theorem dX1_holds_140 : decode cX1_holds 140 = .ok (.invokestatic 48, 3) := by decide +kernel
theorem dX1_holds_143 : decode cX1_holds 143 = .ok (.ifCond .eq 7, 3) := by decide +kernel
theorem dX1_holds_146 : decode cX1_holds 146 = .ok (.iconst 1, 1) := by decide +kernel
theorem dX1_holds_147 : decode cX1_holds 147 = .ok (.goto 4, 3) := by decide +kernel
theorem dX1_holds_150 : decode cX1_holds 150 = .ok (.iconst 0, 1) := by decide +kernel
theorem dX1_holds_151 : decode cX1_holds 151 = .ok (.ior, 1) := by decide +kernel
theorem dX1_holds_152 : decode cX1_holds 152 = .ok (.istore 7, 2) := by decide +kernel
theorem dX1_holds_154 : decode cX1_holds 154 = .ok (.iinc 8 1, 3) := by decide +kernel
theorem dX1_holds_157 : decode cX1_holds 157 = .ok (.goto (-136), 3) := by decide +kernel
theorem dX1_holds_160 : decode cX1_holds 160 = .ok (.iload 7, 2) := by decide +kernel
theorem dX1_holds_162 : decode cX1_holds 162 = .ok (.iconst 1, 1) := by decide +kernel
theorem dX1_holds_163 : decode cX1_holds 163 = .ok (.iand, 1) := by decide +kernel
theorem dX1_holds_164 : decode cX1_holds 164 = .ok (.ifCond .eq 7, 3) := by decide +kernel
theorem dX1_holds_167 : decode cX1_holds 167 = .ok (.iconst 1, 1) := by decide +kernel
theorem dX1_holds_168 : decode cX1_holds 168 = .ok (.goto 4, 3) := by decide +kernel
theorem dX1_holds_171 : decode cX1_holds 171 = .ok (.iconst 0, 1) := by decide +kernel
theorem dX1_holds_172 : decode cX1_holds 172 = .ok (.ireturn, 1) := by decide +kernel
theorem dX1_valueOf_0 : decode cX1_valueOf 0 = .ok (.iload_n 0, 1) := by decide +kernel
theorem dX1_valueOf_1 : decode cX1_valueOf 1 = .ok (.tableswitch 40 0 3 #[31, 33, 35, 37], 31) := by decide +kernel
theorem dX1_valueOf_32 : decode cX1_valueOf 32 = .ok (.iload_n 1, 1) := by decide +kernel
theorem dX1_valueOf_33 : decode cX1_valueOf 33 = .ok (.ireturn, 1) := by decide +kernel
theorem dX1_valueOf_34 : decode cX1_valueOf 34 = .ok (.iload_n 2, 1) := by decide +kernel
theorem dX1_valueOf_35 : decode cX1_valueOf 35 = .ok (.ireturn, 1) := by decide +kernel
theorem dX1_valueOf_36 : decode cX1_valueOf 36 = .ok (.iload_n 3, 1) := by decide +kernel
theorem dX1_valueOf_37 : decode cX1_valueOf 37 = .ok (.ireturn, 1) := by decide +kernel
theorem dX1_valueOf_38 : decode cX1_valueOf 38 = .ok (.iload 4, 2) := by decide +kernel
theorem dX1_valueOf_40 : decode cX1_valueOf 40 = .ok (.ireturn, 1) := by decide +kernel
theorem dX1_valueOf_41 : decode cX1_valueOf 41 = .ok (.iload 5, 2) := by decide +kernel
theorem dX1_valueOf_43 : decode cX1_valueOf 43 = .ok (.ireturn, 1) := by decide +kernel
theorem dX1_passes_0 : decode cX1_passes 0 = .ok (.iload_n 1, 1) := by decide +kernel
theorem dX1_passes_1 : decode cX1_passes 1 = .ok (.lookupswitch 49 #[(0, 27), (1, 38)], 27) := by decide +kernel
theorem dX1_passes_28 : decode cX1_passes 28 = .ok (.iload_n 0, 1) := by decide +kernel
theorem dX1_passes_29 : decode cX1_passes 29 = .ok (.iload_n 2, 1) := by decide +kernel
theorem dX1_passes_30 : decode cX1_passes 30 = .ok (.if_icmp .ge 7, 3) := by decide +kernel
theorem dX1_passes_33 : decode cX1_passes 33 = .ok (.iconst 1, 1) := by decide +kernel
theorem dX1_passes_34 : decode cX1_passes 34 = .ok (.goto 4, 3) := by decide +kernel
theorem dX1_passes_37 : decode cX1_passes 37 = .ok (.iconst 0, 1) := by decide +kernel
theorem dX1_passes_38 : decode cX1_passes 38 = .ok (.ireturn, 1) := by decide +kernel
theorem dX1_passes_39 : decode cX1_passes 39 = .ok (.iload_n 0, 1) := by decide +kernel
theorem dX1_passes_40 : decode cX1_passes 40 = .ok (.iload_n 2, 1) := by decide +kernel
theorem dX1_passes_41 : decode cX1_passes 41 = .ok (.if_icmp .ne 7, 3) := by decide +kernel
theorem dX1_passes_44 : decode cX1_passes 44 = .ok (.iconst 1, 1) := by decide +kernel
theorem dX1_passes_45 : decode cX1_passes 45 = .ok (.goto 4, 3) := by decide +kernel
theorem dX1_passes_48 : decode cX1_passes 48 = .ok (.iconst 0, 1) := by decide +kernel
theorem dX1_passes_49 : decode cX1_passes 49 = .ok (.ireturn, 1) := by decide +kernel
theorem dX1_passes_50 : decode cX1_passes 50 = .ok (.iload_n 0, 1) := by decide +kernel
theorem dX1_passes_51 : decode cX1_passes 51 = .ok (.iload_n 2, 1) := by decide +kernel
theorem dX1_passes_52 : decode cX1_passes 52 = .ok (.if_icmp .le 7, 3) := by decide +kernel
theorem dX1_passes_55 : decode cX1_passes 55 = .ok (.iconst 1, 1) := by decide +kernel
theorem dX1_passes_56 : decode cX1_passes 56 = .ok (.goto 4, 3) := by decide +kernel
theorem dX1_passes_59 : decode cX1_passes 59 = .ok (.iconst 0, 1) := by decide +kernel
theorem dX1_passes_60 : decode cX1_passes 60 = .ok (.ireturn, 1) := by decide +kernel
theorem dX2_init_0 : decode cX2_init 0 = .ok (.aload_n 0, 1) := by decide +kernel
theorem dX2_init_1 : decode cX2_init 1 = .ok (.invokespecial 3, 3) := by decide +kernel
theorem dX2_init_4 : decode cX2_init 4 = .ok (.aload_n 0, 1) := by decide +kernel
theorem dX2_init_5 : decode cX2_init 5 = .ok (.bipush 10, 2) := by decide +kernel
theorem dX2_init_7 : decode cX2_init 7 = .ok (.newarray .long, 2) := by decide +kernel
theorem dX2_init_9 : decode cX2_init 9 = .ok (.putfield 9, 3) := by decide +kernel
theorem dX2_init_12 : decode cX2_init 12 = .ok (.return_, 1) := by decide +kernel
theorem dX2_start_0 : decode cX2_start 0 = .ok (.aload_n 0, 1) := by decide +kernel
theorem dX2_start_1 : decode cX2_start 1 = .ok (.getfield 9, 3) := by decide +kernel
theorem dX2_start_4 : decode cX2_start 4 = .ok (.lconst 0, 1) := by decide +kernel
theorem dX2_start_5 : decode cX2_start 5 = .ok (.invokestatic 15, 3) := by decide +kernel
theorem dX2_start_8 : decode cX2_start 8 = .ok (.aload_n 0, 1) := by decide +kernel
theorem dX2_start_9 : decode cX2_start 9 = .ok (.getfield 9, 3) := by decide +kernel
theorem dX2_start_12 : decode cX2_start 12 = .ok (.iconst 0, 1) := by decide +kernel
theorem dX2_start_13 : decode cX2_start 13 = .ok (.lconst 1, 1) := by decide +kernel
theorem dX2_start_14 : decode cX2_start 14 = .ok (.lastore, 1) := by decide +kernel
theorem dX2_start_15 : decode cX2_start 15 = .ok (.aload_n 0, 1) := by decide +kernel
theorem dX2_start_16 : decode cX2_start 16 = .ok (.iconst 0, 1) := by decide +kernel
theorem dX2_start_17 : decode cX2_start 17 = .ok (.putfield 21, 3) := by decide +kernel
theorem dX2_start_20 : decode cX2_start 20 = .ok (.aload_n 0, 1) := by decide +kernel
theorem dX2_start_21 : decode cX2_start 21 = .ok (.lconst 1, 1) := by decide +kernel
theorem dX2_start_22 : decode cX2_start 22 = .ok (.putfield 25, 3) := by decide +kernel
theorem dX2_start_25 : decode cX2_start 25 = .ok (.return_, 1) := by decide +kernel
theorem dX2_addFriday_0 : decode cX2_addFriday 0 = .ok (.aload_n 0, 1) := by decide +kernel
theorem dX2_addFriday_1 : decode cX2_addFriday 1 = .ok (.getfield 21, 3) := by decide +kernel
theorem dX2_addFriday_4 : decode cX2_addFriday 4 = .ok (.bipush 9, 2) := by decide +kernel
theorem dX2_addFriday_6 : decode cX2_addFriday 6 = .ok (.if_icmp .lt 4, 3) := by decide +kernel
theorem dX2_addFriday_9 : decode cX2_addFriday 9 = .ok (.return_, 1) := by decide +kernel
theorem dX2_addFriday_10 : decode cX2_addFriday 10 = .ok (.aload_n 0, 1) := by decide +kernel
theorem dX2_addFriday_11 : decode cX2_addFriday 11 = .ok (.dup, 1) := by decide +kernel
theorem dX2_addFriday_12 : decode cX2_addFriday 12 = .ok (.getfield 21, 3) := by decide +kernel
theorem dX2_addFriday_15 : decode cX2_addFriday 15 = .ok (.iconst 1, 1) := by decide +kernel
theorem dX2_addFriday_16 : decode cX2_addFriday 16 = .ok (.iadd, 1) := by decide +kernel
theorem dX2_addFriday_17 : decode cX2_addFriday 17 = .ok (.putfield 21, 3) := by decide +kernel
theorem dX2_addFriday_20 : decode cX2_addFriday 20 = .ok (.aload_n 0, 1) := by decide +kernel
theorem dX2_addFriday_21 : decode cX2_addFriday 21 = .ok (.getfield 21, 3) := by decide +kernel
theorem dX2_addFriday_24 : decode cX2_addFriday 24 = .ok (.istore_n 2, 1) := by decide +kernel
theorem dX2_addFriday_25 : decode cX2_addFriday 25 = .ok (.iload_n 2, 1) := by decide +kernel
theorem dX2_addFriday_26 : decode cX2_addFriday 26 = .ok (.ifCond .lt 49, 3) := by decide +kernel
theorem dX2_addFriday_29 : decode cX2_addFriday 29 = .ok (.iload_n 2, 1) := by decide +kernel
theorem dX2_addFriday_30 : decode cX2_addFriday 30 = .ok (.ifCond .ne 7, 3) := by decide +kernel
theorem dX2_addFriday_33 : decode cX2_addFriday 33 = .ok (.lconst 0, 1) := by decide +kernel
theorem dX2_addFriday_34 : decode cX2_addFriday 34 = .ok (.goto 14, 3) := by decide +kernel
theorem dX2_addFriday_37 : decode cX2_addFriday 37 = .ok (.aload_n 0, 1) := by decide +kernel
theorem dX2_addFriday_38 : decode cX2_addFriday 38 = .ok (.getfield 9, 3) := by decide +kernel
theorem dX2_addFriday_41 : decode cX2_addFriday 41 = .ok (.iload_n 2, 1) := by decide +kernel
theorem dX2_addFriday_42 : decode cX2_addFriday 42 = .ok (.iconst 1, 1) := by decide +kernel
theorem dX2_addFriday_43 : decode cX2_addFriday 43 = .ok (.isub, 1) := by decide +kernel
theorem dX2_addFriday_44 : decode cX2_addFriday 44 = .ok (.laload, 1) := by decide +kernel
theorem dX2_addFriday_45 : decode cX2_addFriday 45 = .ok (.iload_n 1, 1) := by decide +kernel
theorem dX2_addFriday_46 : decode cX2_addFriday 46 = .ok (.i2l, 1) := by decide +kernel
theorem dX2_addFriday_47 : decode cX2_addFriday 47 = .ok (.lmul, 1) := by decide +kernel
theorem dX2_addFriday_48 : decode cX2_addFriday 48 = .ok (.lstore_n 3, 1) := by decide +kernel
theorem dX2_addFriday_49 : decode cX2_addFriday 49 = .ok (.aload_n 0, 1) := by decide +kernel
theorem dX2_addFriday_50 : decode cX2_addFriday 50 = .ok (.getfield 9, 3) := by decide +kernel
theorem dX2_addFriday_53 : decode cX2_addFriday 53 = .ok (.iload_n 2, 1) := by decide +kernel
theorem dX2_addFriday_54 : decode cX2_addFriday 54 = .ok (.aload_n 0, 1) := by decide +kernel
theorem dX2_addFriday_55 : decode cX2_addFriday 55 = .ok (.getfield 9, 3) := by decide +kernel
theorem dX2_addFriday_58 : decode cX2_addFriday 58 = .ok (.iload_n 2, 1) := by decide +kernel
theorem dX2_addFriday_59 : decode cX2_addFriday 59 = .ok (.laload, 1) := by decide +kernel
theorem dX2_addFriday_60 : decode cX2_addFriday 60 = .ok (.bipush 100, 2) := by decide +kernel
theorem dX2_addFriday_62 : decode cX2_addFriday 62 = .ok (.iload_n 1, 1) := by decide +kernel
theorem dX2_addFriday_63 : decode cX2_addFriday 63 = .ok (.isub, 1) := by decide +kernel
theorem dX2_addFriday_64 : decode cX2_addFriday 64 = .ok (.i2l, 1) := by decide +kernel
theorem dX2_addFriday_65 : decode cX2_addFriday 65 = .ok (.lmul, 1) := by decide +kernel
theorem dX2_addFriday_66 : decode cX2_addFriday 66 = .ok (.lload_n 3, 1) := by decide +kernel
theorem dX2_addFriday_67 : decode cX2_addFriday 67 = .ok (.ladd, 1) := by decide +kernel
theorem dX2_addFriday_68 : decode cX2_addFriday 68 = .ok (.lastore, 1) := by decide +kernel
theorem dX2_addFriday_69 : decode cX2_addFriday 69 = .ok (.iinc 2 (-1), 3) := by decide +kernel
theorem dX2_addFriday_72 : decode cX2_addFriday 72 = .ok (.goto (-47), 3) := by decide +kernel
theorem dX2_addFriday_75 : decode cX2_addFriday 75 = .ok (.aload_n 0, 1) := by decide +kernel
theorem dX2_addFriday_76 : decode cX2_addFriday 76 = .ok (.dup, 1) := by decide +kernel
theorem dX2_addFriday_77 : decode cX2_addFriday 77 = .ok (.getfield 25, 3) := by decide +kernel
theorem dX2_addFriday_80 : decode cX2_addFriday 80 = .ok (.ldc2_w 29, 3) := by decide +kernel
theorem dX2_addFriday_83 : decode cX2_addFriday 83 = .ok (.lmul, 1) := by decide +kernel
theorem dX2_addFriday_84 : decode cX2_addFriday 84 = .ok (.putfield 25, 3) := by decide +kernel
theorem dX2_addFriday_87 : decode cX2_addFriday 87 = .ok (.return_, 1) := by decide +kernel
theorem dX2_atLeast_0 : decode cX2_atLeast 0 = .ok (.aload_n 0, 1) := by decide +kernel
theorem dX2_atLeast_1 : decode cX2_atLeast 1 = .ok (.lconst 0, 1) := by decide +kernel
theorem dX2_atLeast_2 : decode cX2_atLeast 2 = .ok (.putfield 31, 3) := by decide +kernel
theorem dX2_atLeast_5 : decode cX2_atLeast 5 = .ok (.iload_n 1, 1) := by decide +kernel
theorem dX2_atLeast_6 : decode cX2_atLeast 6 = .ok (.iconst 0, 1) := by decide +kernel
theorem dX2_atLeast_7 : decode cX2_atLeast 7 = .ok (.invokestatic 34, 3) := by decide +kernel
theorem dX2_atLeast_10 : decode cX2_atLeast 10 = .ok (.istore_n 2, 1) := by decide +kernel
theorem dX2_atLeast_11 : decode cX2_atLeast 11 = .ok (.iload_n 2, 1) := by decide +kernel
theorem dX2_atLeast_12 : decode cX2_atLeast 12 = .ok (.aload_n 0, 1) := by decide +kernel
theorem dX2_atLeast_13 : decode cX2_atLeast 13 = .ok (.getfield 21, 3) := by decide +kernel
theorem dX2_atLeast_16 : decode cX2_atLeast 16 = .ok (.if_icmp .gt 24, 3) := by decide +kernel
theorem dX2_atLeast_19 : decode cX2_atLeast 19 = .ok (.aload_n 0, 1) := by decide +kernel
theorem dX2_atLeast_20 : decode cX2_atLeast 20 = .ok (.dup, 1) := by decide +kernel
theorem dX2_atLeast_21 : decode cX2_atLeast 21 = .ok (.getfield 31, 3) := by decide +kernel
theorem dX2_atLeast_24 : decode cX2_atLeast 24 = .ok (.aload_n 0, 1) := by decide +kernel
theorem dX2_atLeast_25 : decode cX2_atLeast 25 = .ok (.getfield 9, 3) := by decide +kernel
theorem dX2_atLeast_28 : decode cX2_atLeast 28 = .ok (.iload_n 2, 1) := by decide +kernel
theorem dX2_atLeast_29 : decode cX2_atLeast 29 = .ok (.laload, 1) := by decide +kernel
theorem dX2_atLeast_30 : decode cX2_atLeast 30 = .ok (.ladd, 1) := by decide +kernel
theorem dX2_atLeast_31 : decode cX2_atLeast 31 = .ok (.putfield 31, 3) := by decide +kernel
theorem dX2_atLeast_34 : decode cX2_atLeast 34 = .ok (.iinc 2 1, 3) := by decide +kernel
theorem dX2_atLeast_37 : decode cX2_atLeast 37 = .ok (.goto (-26), 3) := by decide +kernel
theorem dX2_atLeast_40 : decode cX2_atLeast 40 = .ok (.return_, 1) := by decide +kernel
theorem dX2_multiply_0 : decode cX2_multiply 0 = .ok (.aload_n 0, 1) := by decide +kernel
theorem dX2_multiply_1 : decode cX2_multiply 1 = .ok (.aload_n 0, 1) := by decide +kernel
theorem dX2_multiply_2 : decode cX2_multiply 2 = .ok (.getfield 31, 3) := by decide +kernel
theorem dX2_multiply_5 : decode cX2_multiply 5 = .ok (.iload_n 1, 1) := by decide +kernel
theorem dX2_multiply_6 : decode cX2_multiply 6 = .ok (.i2l, 1) := by decide +kernel
theorem dX2_multiply_7 : decode cX2_multiply 7 = .ok (.lmul, 1) := by decide +kernel
theorem dX2_multiply_8 : decode cX2_multiply 8 = .ok (.aload_n 0, 1) := by decide +kernel
theorem dX2_multiply_9 : decode cX2_multiply 9 = .ok (.getfield 25, 3) := by decide +kernel
theorem dX2_multiply_12 : decode cX2_multiply 12 = .ok (.invokestatic 40, 3) := by decide +kernel
theorem dX2_multiply_15 : decode cX2_multiply 15 = .ok (.putfield 31, 3) := by decide +kernel
theorem dX2_multiply_18 : decode cX2_multiply 18 = .ok (.return_, 1) := by decide +kernel
theorem dX2_reduce_0 : decode cX2_reduce 0 = .ok (.aload_n 0, 1) := by decide +kernel
theorem dX2_reduce_1 : decode cX2_reduce 1 = .ok (.getfield 25, 3) := by decide +kernel
theorem dX2_reduce_4 : decode cX2_reduce 4 = .ok (.lstore_n 1, 1) := by decide +kernel
theorem dX2_reduce_5 : decode cX2_reduce 5 = .ok (.aload_n 0, 1) := by decide +kernel
theorem dX2_reduce_6 : decode cX2_reduce 6 = .ok (.getfield 31, 3) := by decide +kernel
theorem dX2_reduce_9 : decode cX2_reduce 9 = .ok (.lstore_n 3, 1) := by decide +kernel
theorem dX2_reduce_10 : decode cX2_reduce 10 = .ok (.iconst 0, 1) := by decide +kernel
theorem dX2_reduce_11 : decode cX2_reduce 11 = .ok (.istore 5, 2) := by decide +kernel
theorem dX2_reduce_13 : decode cX2_reduce 13 = .ok (.iload 5, 2) := by decide +kernel
theorem dX2_reduce_15 : decode cX2_reduce 15 = .ok (.sipush 200, 3) := by decide +kernel
theorem dX2_reduce_18 : decode cX2_reduce 18 = .ok (.if_icmp .ge 25, 3) := by decide +kernel
theorem dX2_reduce_21 : decode cX2_reduce 21 = .ok (.lload_n 3, 1) := by decide +kernel
theorem dX2_reduce_22 : decode cX2_reduce 22 = .ok (.lconst 0, 1) := by decide +kernel
theorem dX2_reduce_23 : decode cX2_reduce 23 = .ok (.lcmp, 1) := by decide +kernel
theorem dX2_reduce_24 : decode cX2_reduce 24 = .ok (.ifCond .eq 19, 3) := by decide +kernel
theorem dX2_reduce_27 : decode cX2_reduce 27 = .ok (.lload_n 1, 1) := by decide +kernel
theorem dX2_reduce_28 : decode cX2_reduce 28 = .ok (.lload_n 3, 1) := by decide +kernel
theorem dX2_reduce_29 : decode cX2_reduce 29 = .ok (.lrem, 1) := by decide +kernel
theorem dX2_reduce_30 : decode cX2_reduce 30 = .ok (.lstore 6, 2) := by decide +kernel
theorem dX2_reduce_32 : decode cX2_reduce 32 = .ok (.lload_n 3, 1) := by decide +kernel
theorem dX2_reduce_33 : decode cX2_reduce 33 = .ok (.lstore_n 1, 1) := by decide +kernel
theorem dX2_reduce_34 : decode cX2_reduce 34 = .ok (.lload 6, 2) := by decide +kernel
theorem dX2_reduce_36 : decode cX2_reduce 36 = .ok (.lstore_n 3, 1) := by decide +kernel
theorem dX2_reduce_37 : decode cX2_reduce 37 = .ok (.iinc 5 1, 3) := by decide +kernel
theorem dX2_reduce_40 : decode cX2_reduce 40 = .ok (.goto (-27), 3) := by decide +kernel
theorem dX2_reduce_43 : decode cX2_reduce 43 = .ok (.lload_n 1, 1) := by decide +kernel
theorem dX2_reduce_44 : decode cX2_reduce 44 = .ok (.lconst 0, 1) := by decide +kernel
theorem dX2_reduce_45 : decode cX2_reduce 45 = .ok (.lcmp, 1) := by decide +kernel
theorem dX2_reduce_46 : decode cX2_reduce 46 = .ok (.ifCond .eq 23, 3) := by decide +kernel
theorem dX2_reduce_49 : decode cX2_reduce 49 = .ok (.aload_n 0, 1) := by decide +kernel
theorem dX2_reduce_50 : decode cX2_reduce 50 = .ok (.dup, 1) := by decide +kernel
theorem dX2_reduce_51 : decode cX2_reduce 51 = .ok (.getfield 31, 3) := by decide +kernel
theorem dX2_reduce_54 : decode cX2_reduce 54 = .ok (.lload_n 1, 1) := by decide +kernel
theorem dX2_reduce_55 : decode cX2_reduce 55 = .ok (.ldiv, 1) := by decide +kernel
theorem dX2_reduce_56 : decode cX2_reduce 56 = .ok (.putfield 31, 3) := by decide +kernel
theorem dX2_reduce_59 : decode cX2_reduce 59 = .ok (.aload_n 0, 1) := by decide +kernel
theorem dX2_reduce_60 : decode cX2_reduce 60 = .ok (.dup, 1) := by decide +kernel
theorem dX2_reduce_61 : decode cX2_reduce 61 = .ok (.getfield 25, 3) := by decide +kernel
theorem dX2_reduce_64 : decode cX2_reduce 64 = .ok (.lload_n 1, 1) := by decide +kernel
theorem dX2_reduce_65 : decode cX2_reduce 65 = .ok (.ldiv, 1) := by decide +kernel
theorem dX2_reduce_66 : decode cX2_reduce 66 = .ok (.putfield 25, 3) := by decide +kernel
theorem dX2_reduce_69 : decode cX2_reduce 69 = .ok (.return_, 1) := by decide +kernel
theorem dX3_init_0 : decode cX3_init 0 = .ok (.aload_n 0, 1) := by decide +kernel
theorem dX3_init_1 : decode cX3_init 1 = .ok (.invokespecial 3, 3) := by decide +kernel
theorem dX3_init_4 : decode cX3_init 4 = .ok (.aload_n 0, 1) := by decide +kernel
theorem dX3_init_5 : decode cX3_init 5 = .ok (.bipush 64, 2) := by decide +kernel
theorem dX3_init_7 : decode cX3_init 7 = .ok (.newarray .int, 2) := by decide +kernel
theorem dX3_init_9 : decode cX3_init 9 = .ok (.putfield 9, 3) := by decide +kernel
theorem dX3_init_12 : decode cX3_init 12 = .ok (.aload_n 0, 1) := by decide +kernel
theorem dX3_init_13 : decode cX3_init 13 = .ok (.bipush 8, 2) := by decide +kernel
theorem dX3_init_15 : decode cX3_init 15 = .ok (.newarray .int, 2) := by decide +kernel
theorem dX3_init_17 : decode cX3_init 17 = .ok (.putfield 15, 3) := by decide +kernel
theorem dX3_init_20 : decode cX3_init 20 = .ok (.aload_n 0, 1) := by decide +kernel
theorem dX3_init_21 : decode cX3_init 21 = .ok (.bipush 8, 2) := by decide +kernel
theorem dX3_init_23 : decode cX3_init 23 = .ok (.newarray .int, 2) := by decide +kernel
theorem dX3_init_25 : decode cX3_init 25 = .ok (.putfield 18, 3) := by decide +kernel
theorem dX3_init_28 : decode cX3_init 28 = .ok (.aload_n 0, 1) := by decide +kernel
theorem dX3_init_29 : decode cX3_init 29 = .ok (.bipush 8, 2) := by decide +kernel
theorem dX3_init_31 : decode cX3_init 31 = .ok (.newarray .int, 2) := by decide +kernel
theorem dX3_init_33 : decode cX3_init 33 = .ok (.putfield 21, 3) := by decide +kernel
theorem dX3_init_36 : decode cX3_init 36 = .ok (.aload_n 0, 1) := by decide +kernel
theorem dX3_init_37 : decode cX3_init 37 = .ok (.bipush 80, 2) := by decide +kernel
theorem dX3_init_39 : decode cX3_init 39 = .ok (.newarray .int, 2) := by decide +kernel
theorem dX3_init_41 : decode cX3_init 41 = .ok (.putfield 24, 3) := by decide +kernel
theorem dX3_init_44 : decode cX3_init 44 = .ok (.aload_n 0, 1) := by decide +kernel
theorem dX3_init_45 : decode cX3_init 45 = .ok (.bipush 10, 2) := by decide +kernel
theorem dX3_init_47 : decode cX3_init 47 = .ok (.newarray .int, 2) := by decide +kernel
theorem dX3_init_49 : decode cX3_init 49 = .ok (.putfield 27, 3) := by decide +kernel
theorem dX3_init_52 : decode cX3_init 52 = .ok (.return_, 1) := by decide +kernel
theorem dX3_take_0 : decode cX3_take 0 = .ok (.aload_n 0, 1) := by decide +kernel
theorem dX3_take_1 : decode cX3_take 1 = .ok (.iload_n 2, 1) := by decide +kernel
theorem dX3_take_2 : decode cX3_take 2 = .ok (.putfield 30, 3) := by decide +kernel
theorem dX3_take_5 : decode cX3_take 5 = .ok (.aload_n 0, 1) := by decide +kernel
theorem dX3_take_6 : decode cX3_take 6 = .ok (.aload_n 1, 1) := by decide +kernel
theorem dX3_take_7 : decode cX3_take 7 = .ok (.getfield 34, 3) := by decide +kernel
theorem dX3_take_10 : decode cX3_take 10 = .ok (.invokevirtual 40, 3) := by decide +kernel
theorem dX3_take_13 : decode cX3_take 13 = .ok (.putfield 46, 3) := by decide +kernel
theorem dX3_take_16 : decode cX3_take 16 = .ok (.iconst 0, 1) := by decide +kernel
theorem dX3_take_17 : decode cX3_take 17 = .ok (.istore_n 3, 1) := by decide +kernel
theorem dX3_take_18 : decode cX3_take 18 = .ok (.iload_n 3, 1) := by decide +kernel
theorem dX3_take_19 : decode cX3_take 19 = .ok (.iload_n 2, 1) := by decide +kernel
theorem dX3_take_20 : decode cX3_take 20 = .ok (.if_icmp .ge 83, 3) := by decide +kernel
theorem dX3_take_23 : decode cX3_take 23 = .ok (.aload_n 0, 1) := by decide +kernel
theorem dX3_take_24 : decode cX3_take 24 = .ok (.getfield 15, 3) := by decide +kernel
theorem dX3_take_27 : decode cX3_take 27 = .ok (.iload_n 3, 1) := by decide +kernel
theorem dX3_take_28 : decode cX3_take 28 = .ok (.aload_n 1, 1) := by decide +kernel
theorem dX3_take_29 : decode cX3_take 29 = .ok (.getfield 49, 3) := by decide +kernel
theorem dX3_take_32 : decode cX3_take 32 = .ok (.iload_n 3, 1) := by decide +kernel
theorem dX3_take_33 : decode cX3_take 33 = .ok (.iaload, 1) := by decide +kernel
theorem dX3_take_34 : decode cX3_take 34 = .ok (.ifCond .ge 8, 3) := by decide +kernel
theorem dX3_take_37 : decode cX3_take 37 = .ok (.ldc 50, 2) := by decide +kernel
theorem dX3_take_39 : decode cX3_take 39 = .ok (.goto 9, 3) := by decide +kernel
theorem dX3_take_42 : decode cX3_take 42 = .ok (.aload_n 1, 1) := by decide +kernel
theorem dX3_take_43 : decode cX3_take 43 = .ok (.getfield 49, 3) := by decide +kernel
theorem dX3_take_46 : decode cX3_take 46 = .ok (.iload_n 3, 1) := by decide +kernel
theorem dX3_take_47 : decode cX3_take 47 = .ok (.iaload, 1) := by decide +kernel
theorem dX3_take_48 : decode cX3_take 48 = .ok (.iastore, 1) := by decide +kernel
theorem dX3_take_49 : decode cX3_take 49 = .ok (.iconst 0, 1) := by decide +kernel
theorem dX3_take_50 : decode cX3_take 50 = .ok (.istore 4, 2) := by decide +kernel
theorem dX3_take_52 : decode cX3_take 52 = .ok (.iload 4, 2) := by decide +kernel
theorem dX3_take_54 : decode cX3_take 54 = .ok (.iload_n 2, 1) := by decide +kernel
theorem dX3_take_55 : decode cX3_take 55 = .ok (.if_icmp .ge 42, 3) := by decide +kernel
theorem dX3_take_58 : decode cX3_take 58 = .ok (.aload_n 1, 1) := by decide +kernel
theorem dX3_take_59 : decode cX3_take 59 = .ok (.iload_n 3, 1) := by decide +kernel
theorem dX3_take_60 : decode cX3_take 60 = .ok (.iload 4, 2) := by decide +kernel
theorem dX3_take_62 : decode cX3_take 62 = .ok (.invokevirtual 51, 3) := by decide +kernel
theorem dX3_take_65 : decode cX3_take 65 = .ok (.istore 5, 2) := by decide +kernel
theorem dX3_take_67 : decode cX3_take 67 = .ok (.aload_n 0, 1) := by decide +kernel
theorem dX3_take_68 : decode cX3_take 68 = .ok (.getfield 9, 3) := by decide +kernel
theorem dX3_take_71 : decode cX3_take 71 = .ok (.iload_n 3, 1) := by decide +kernel
theorem dX3_take_72 : decode cX3_take 72 = .ok (.bipush 8, 2) := by decide +kernel
theorem dX3_take_74 : decode cX3_take 74 = .ok (.imul, 1) := by decide +kernel
theorem dX3_take_75 : decode cX3_take 75 = .ok (.iload 4, 2) := by decide +kernel
theorem dX3_take_77 : decode cX3_take 77 = .ok (.iadd, 1) := by decide +kernel
theorem dX3_take_78 : decode cX3_take 78 = .ok (.iload 5, 2) := by decide +kernel
theorem dX3_take_80 : decode cX3_take 80 = .ok (.ifCond .ge 8, 3) := by decide +kernel
theorem dX3_take_83 : decode cX3_take 83 = .ok (.ldc 50, 2) := by decide +kernel
theorem dX3_take_85 : decode cX3_take 85 = .ok (.goto 5, 3) := by decide +kernel
theorem dX3_take_88 : decode cX3_take 88 = .ok (.iload 5, 2) := by decide +kernel
theorem dX3_take_90 : decode cX3_take 90 = .ok (.iastore, 1) := by decide +kernel
theorem dX3_take_91 : decode cX3_take 91 = .ok (.iinc 4 1, 3) := by decide +kernel
theorem dX3_take_94 : decode cX3_take 94 = .ok (.goto (-42), 3) := by decide +kernel
theorem dX3_take_97 : decode cX3_take 97 = .ok (.iinc 3 1, 3) := by decide +kernel
theorem dX3_take_100 : decode cX3_take 100 = .ok (.goto (-82), 3) := by decide +kernel
theorem dX3_take_103 : decode cX3_take 103 = .ok (.return_, 1) := by decide +kernel
theorem dX3_run_0 : decode cX3_run 0 = .ok (.aload_n 0, 1) := by decide +kernel
theorem dX3_run_1 : decode cX3_run 1 = .ok (.getfield 15, 3) := by decide +kernel
theorem dX3_run_4 : decode cX3_run 4 = .ok (.iconst 0, 1) := by decide +kernel
theorem dX3_run_5 : decode cX3_run 5 = .ok (.aload_n 0, 1) := by decide +kernel
theorem dX3_run_6 : decode cX3_run 6 = .ok (.getfield 18, 3) := by decide +kernel
theorem dX3_run_9 : decode cX3_run 9 = .ok (.iconst 0, 1) := by decide +kernel
theorem dX3_run_10 : decode cX3_run 10 = .ok (.bipush 8, 2) := by decide +kernel
theorem dX3_run_12 : decode cX3_run 12 = .ok (.invokestatic 55, 3) := by decide +kernel
theorem dX3_run_15 : decode cX3_run 15 = .ok (.iconst 1, 1) := by decide +kernel
theorem dX3_run_16 : decode cX3_run 16 = .ok (.istore_n 2, 1) := by decide +kernel
theorem dX3_run_17 : decode cX3_run 17 = .ok (.iconst 0, 1) := by decide +kernel
theorem dX3_run_18 : decode cX3_run 18 = .ok (.istore_n 3, 1) := by decide +kernel
theorem dX3_run_19 : decode cX3_run 19 = .ok (.iload_n 3, 1) := by decide +kernel
theorem dX3_run_20 : decode cX3_run 20 = .ok (.aload_n 0, 1) := by decide +kernel
theorem dX3_run_21 : decode cX3_run 21 = .ok (.getfield 46, 3) := by decide +kernel
theorem dX3_run_24 : decode cX3_run 24 = .ok (.if_icmp .ge 19, 3) := by decide +kernel
theorem dX3_run_27 : decode cX3_run 27 = .ok (.iload_n 2, 1) := by decide +kernel
theorem dX3_run_28 : decode cX3_run 28 = .ok (.ifCond .eq 15, 3) := by decide +kernel
theorem dX3_run_31 : decode cX3_run 31 = .ok (.aload_n 0, 1) := by decide +kernel
theorem dX3_run_32 : decode cX3_run 32 = .ok (.iload_n 1, 1) := by decide +kernel
theorem dX3_run_33 : decode cX3_run 33 = .ok (.invokevirtual 61, 3) := by decide +kernel
theorem dX3_run_36 : decode cX3_run 36 = .ok (.istore_n 2, 1) := by decide +kernel
theorem dX3_run_37 : decode cX3_run 37 = .ok (.iinc 3 1, 3) := by decide +kernel
theorem dX3_run_40 : decode cX3_run 40 = .ok (.goto (-21), 3) := by decide +kernel
theorem dX3_run_43 : decode cX3_run 43 = .ok (.return_, 1) := by decide +kernel
theorem dX3_runStep_0 : decode cX3_runStep 0 = .ok (.aload_n 0, 1) := by decide +kernel
theorem dX3_runStep_1 : decode cX3_runStep 1 = .ok (.getfield 18, 3) := by decide +kernel
theorem dX3_runStep_4 : decode cX3_runStep 4 = .ok (.iconst 0, 1) := by decide +kernel
theorem dX3_runStep_5 : decode cX3_runStep 5 = .ok (.aload_n 0, 1) := by decide +kernel
theorem dX3_runStep_6 : decode cX3_runStep 6 = .ok (.getfield 21, 3) := by decide +kernel
theorem dX3_runStep_9 : decode cX3_runStep 9 = .ok (.iconst 0, 1) := by decide +kernel
theorem dX3_runStep_10 : decode cX3_runStep 10 = .ok (.bipush 8, 2) := by decide +kernel
theorem dX3_runStep_12 : decode cX3_runStep 12 = .ok (.invokestatic 55, 3) := by decide +kernel
theorem dX3_runStep_15 : decode cX3_runStep 15 = .ok (.iconst 0, 1) := by decide +kernel
theorem dX3_runStep_16 : decode cX3_runStep 16 = .ok (.istore_n 2, 1) := by decide +kernel
theorem dX3_runStep_17 : decode cX3_runStep 17 = .ok (.iconst 0, 1) := by decide +kernel
theorem dX3_runStep_18 : decode cX3_runStep 18 = .ok (.istore_n 3, 1) := by decide +kernel
theorem dX3_runStep_19 : decode cX3_runStep 19 = .ok (.iload_n 3, 1) := by decide +kernel
theorem dX3_runStep_20 : decode cX3_runStep 20 = .ok (.aload_n 0, 1) := by decide +kernel
theorem dX3_runStep_21 : decode cX3_runStep 21 = .ok (.getfield 30, 3) := by decide +kernel
theorem dX3_runStep_24 : decode cX3_runStep 24 = .ok (.if_icmp .ge 93, 3) := by decide +kernel
theorem dX3_runStep_27 : decode cX3_runStep 27 = .ok (.iload_n 1, 1) := by decide +kernel
theorem dX3_runStep_28 : decode cX3_runStep 28 = .ok (.iload_n 3, 1) := by decide +kernel
theorem dX3_runStep_29 : decode cX3_runStep 29 = .ok (.ishr, 1) := by decide +kernel
theorem dX3_runStep_30 : decode cX3_runStep 30 = .ok (.iconst 1, 1) := by decide +kernel
theorem dX3_runStep_31 : decode cX3_runStep 31 = .ok (.iand, 1) := by decide +kernel
theorem dX3_runStep_32 : decode cX3_runStep 32 = .ok (.ifCond .ne 79, 3) := by decide +kernel
theorem dX3_runStep_35 : decode cX3_runStep 35 = .ok (.aload_n 0, 1) := by decide +kernel
theorem dX3_runStep_36 : decode cX3_runStep 36 = .ok (.getfield 21, 3) := by decide +kernel
theorem dX3_runStep_39 : decode cX3_runStep 39 = .ok (.iload_n 3, 1) := by decide +kernel
theorem dX3_runStep_40 : decode cX3_runStep 40 = .ok (.iaload, 1) := by decide +kernel
theorem dX3_runStep_41 : decode cX3_runStep 41 = .ok (.ldc 50, 2) := by decide +kernel
theorem dX3_runStep_43 : decode cX3_runStep 43 = .ok (.if_icmp .lt 6, 3) := by decide +kernel
theorem dX3_runStep_46 : decode cX3_runStep 46 = .ok (.goto 65, 3) := by decide +kernel
theorem dX3_runStep_49 : decode cX3_runStep 49 = .ok (.iconst 0, 1) := by decide +kernel
theorem dX3_runStep_50 : decode cX3_runStep 50 = .ok (.istore 4, 2) := by decide +kernel
theorem dX3_runStep_52 : decode cX3_runStep 52 = .ok (.iload 4, 2) := by decide +kernel
theorem dX3_runStep_54 : decode cX3_runStep 54 = .ok (.aload_n 0, 1) := by decide +kernel
theorem dX3_runStep_55 : decode cX3_runStep 55 = .ok (.getfield 30, 3) := by decide +kernel
theorem dX3_runStep_58 : decode cX3_runStep 58 = .ok (.if_icmp .ge 53, 3) := by decide +kernel
theorem dX3_runStep_61 : decode cX3_runStep 61 = .ok (.aload_n 0, 1) := by decide +kernel
theorem dX3_runStep_62 : decode cX3_runStep 62 = .ok (.getfield 21, 3) := by decide +kernel
theorem dX3_runStep_65 : decode cX3_runStep 65 = .ok (.iload_n 3, 1) := by decide +kernel
theorem dX3_runStep_66 : decode cX3_runStep 66 = .ok (.iaload, 1) := by decide +kernel
theorem dX3_runStep_67 : decode cX3_runStep 67 = .ok (.aload_n 0, 1) := by decide +kernel
theorem dX3_runStep_68 : decode cX3_runStep 68 = .ok (.getfield 9, 3) := by decide +kernel
theorem dX3_runStep_71 : decode cX3_runStep 71 = .ok (.iload_n 3, 1) := by decide +kernel
theorem dX3_runStep_72 : decode cX3_runStep 72 = .ok (.bipush 8, 2) := by decide +kernel
theorem dX3_runStep_74 : decode cX3_runStep 74 = .ok (.imul, 1) := by decide +kernel
theorem dX3_runStep_75 : decode cX3_runStep 75 = .ok (.iload 4, 2) := by decide +kernel
theorem dX3_runStep_77 : decode cX3_runStep 77 = .ok (.iadd, 1) := by decide +kernel
theorem dX3_runStep_78 : decode cX3_runStep 78 = .ok (.iaload, 1) := by decide +kernel
theorem dX3_runStep_79 : decode cX3_runStep 79 = .ok (.iadd, 1) := by decide +kernel
theorem dX3_runStep_80 : decode cX3_runStep 80 = .ok (.istore 5, 2) := by decide +kernel
theorem dX3_runStep_82 : decode cX3_runStep 82 = .ok (.iload 5, 2) := by decide +kernel
theorem dX3_runStep_84 : decode cX3_runStep 84 = .ok (.aload_n 0, 1) := by decide +kernel
theorem dX3_runStep_85 : decode cX3_runStep 85 = .ok (.getfield 18, 3) := by decide +kernel
theorem dX3_runStep_88 : decode cX3_runStep 88 = .ok (.iload 4, 2) := by decide +kernel
theorem dX3_runStep_90 : decode cX3_runStep 90 = .ok (.iaload, 1) := by decide +kernel
theorem dX3_runStep_91 : decode cX3_runStep 91 = .ok (.if_icmp .ge 14, 3) := by decide +kernel
theorem dX3_runStep_94 : decode cX3_runStep 94 = .ok (.aload_n 0, 1) := by decide +kernel
theorem dX3_runStep_95 : decode cX3_runStep 95 = .ok (.getfield 18, 3) := by decide +kernel
theorem dX3_runStep_98 : decode cX3_runStep 98 = .ok (.iload 4, 2) := by decide +kernel
theorem dX3_runStep_100 : decode cX3_runStep 100 = .ok (.iload 5, 2) := by decide +kernel
theorem dX3_runStep_102 : decode cX3_runStep 102 = .ok (.iastore, 1) := by decide +kernel
theorem dX3_runStep_103 : decode cX3_runStep 103 = .ok (.iconst 1, 1) := by decide +kernel
theorem dX3_runStep_104 : decode cX3_runStep 104 = .ok (.istore_n 2, 1) := by decide +kernel
theorem dX3_runStep_105 : decode cX3_runStep 105 = .ok (.iinc 4 1, 3) := by decide +kernel
theorem dX3_runStep_108 : decode cX3_runStep 108 = .ok (.goto (-56), 3) := by decide +kernel
theorem dX3_runStep_111 : decode cX3_runStep 111 = .ok (.iinc 3 1, 3) := by decide +kernel
theorem dX3_runStep_114 : decode cX3_runStep 114 = .ok (.goto (-95), 3) := by decide +kernel
theorem dX3_runStep_117 : decode cX3_runStep 117 = .ok (.iload_n 2, 1) := by decide +kernel
theorem dX3_runStep_118 : decode cX3_runStep 118 = .ok (.ireturn, 1) := by decide +kernel
theorem dX3_hourOf_0 : decode cX3_hourOf 0 = .ok (.aload_n 0, 1) := by decide +kernel
theorem dX3_hourOf_1 : decode cX3_hourOf 1 = .ok (.getfield 18, 3) := by decide +kernel
theorem dX3_hourOf_4 : decode cX3_hourOf 4 = .ok (.iload_n 1, 1) := by decide +kernel
theorem dX3_hourOf_5 : decode cX3_hourOf 5 = .ok (.iaload, 1) := by decide +kernel
theorem dX3_hourOf_6 : decode cX3_hourOf 6 = .ok (.ldc 50, 2) := by decide +kernel
theorem dX3_hourOf_8 : decode cX3_hourOf 8 = .ok (.if_icmp .ge 12, 3) := by decide +kernel
theorem dX3_hourOf_11 : decode cX3_hourOf 11 = .ok (.aload_n 0, 1) := by decide +kernel
theorem dX3_hourOf_12 : decode cX3_hourOf 12 = .ok (.getfield 18, 3) := by decide +kernel
theorem dX3_hourOf_15 : decode cX3_hourOf 15 = .ok (.iload_n 1, 1) := by decide +kernel
theorem dX3_hourOf_16 : decode cX3_hourOf 16 = .ok (.iaload, 1) := by decide +kernel
theorem dX3_hourOf_17 : decode cX3_hourOf 17 = .ok (.goto 5, 3) := by decide +kernel
theorem dX3_hourOf_20 : decode cX3_hourOf 20 = .ok (.bipush (-5), 2) := by decide +kernel
theorem dX3_hourOf_22 : decode cX3_hourOf 22 = .ok (.ireturn, 1) := by decide +kernel
theorem dX3_knownBy_0 : decode cX3_knownBy 0 = .ok (.aload_n 0, 1) := by decide +kernel
theorem dX3_knownBy_1 : decode cX3_knownBy 1 = .ok (.getfield 18, 3) := by decide +kernel
theorem dX3_knownBy_4 : decode cX3_knownBy 4 = .ok (.iload_n 1, 1) := by decide +kernel
theorem dX3_knownBy_5 : decode cX3_knownBy 5 = .ok (.iaload, 1) := by decide +kernel
theorem dX3_knownBy_6 : decode cX3_knownBy 6 = .ok (.iload_n 2, 1) := by decide +kernel
theorem dX3_knownBy_7 : decode cX3_knownBy 7 = .ok (.if_icmp .gt 7, 3) := by decide +kernel
theorem dX3_knownBy_10 : decode cX3_knownBy 10 = .ok (.iconst 1, 1) := by decide +kernel
theorem dX3_knownBy_11 : decode cX3_knownBy 11 = .ok (.goto 4, 3) := by decide +kernel
theorem dX3_knownBy_14 : decode cX3_knownBy 14 = .ok (.iconst 0, 1) := by decide +kernel
theorem dX3_knownBy_15 : decode cX3_knownBy 15 = .ok (.ireturn, 1) := by decide +kernel
theorem dX3_knownByAll_0 : decode cX3_knownByAll 0 = .ok (.iconst 0, 1) := by decide +kernel
theorem dX3_knownByAll_1 : decode cX3_knownByAll 1 = .ok (.istore_n 2, 1) := by decide +kernel
theorem dX3_knownByAll_2 : decode cX3_knownByAll 2 = .ok (.iconst 0, 1) := by decide +kernel
theorem dX3_knownByAll_3 : decode cX3_knownByAll 3 = .ok (.istore_n 3, 1) := by decide +kernel
theorem dX3_knownByAll_4 : decode cX3_knownByAll 4 = .ok (.iload_n 3, 1) := by decide +kernel
theorem dX3_knownByAll_5 : decode cX3_knownByAll 5 = .ok (.aload_n 0, 1) := by decide +kernel
theorem dX3_knownByAll_6 : decode cX3_knownByAll 6 = .ok (.getfield 30, 3) := by decide +kernel
theorem dX3_knownByAll_9 : decode cX3_knownByAll 9 = .ok (.if_icmp .ge 24, 3) := by decide +kernel
theorem dX3_knownByAll_12 : decode cX3_knownByAll 12 = .ok (.aload_n 0, 1) := by decide +kernel
theorem dX3_knownByAll_13 : decode cX3_knownByAll 13 = .ok (.iload_n 3, 1) := by decide +kernel
theorem dX3_knownByAll_14 : decode cX3_knownByAll 14 = .ok (.iload_n 1, 1) := by decide +kernel
theorem dX3_knownByAll_15 : decode cX3_knownByAll 15 = .ok (.invokevirtual 65, 3) := by decide +kernel
theorem dX3_knownByAll_18 : decode cX3_knownByAll 18 = .ok (.ifCond .eq 9, 3) := by decide +kernel
theorem dX3_knownByAll_21 : decode cX3_knownByAll 21 = .ok (.iload_n 2, 1) := by decide +kernel
theorem dX3_knownByAll_22 : decode cX3_knownByAll 22 = .ok (.iconst 1, 1) := by decide +kernel
theorem dX3_knownByAll_23 : decode cX3_knownByAll 23 = .ok (.iload_n 3, 1) := by decide +kernel
theorem dX3_knownByAll_24 : decode cX3_knownByAll 24 = .ok (.ishl, 1) := by decide +kernel
theorem dX3_knownByAll_25 : decode cX3_knownByAll 25 = .ok (.ior, 1) := by decide +kernel
theorem dX3_knownByAll_26 : decode cX3_knownByAll 26 = .ok (.istore_n 2, 1) := by decide +kernel
theorem dX3_knownByAll_27 : decode cX3_knownByAll 27 = .ok (.iinc 3 1, 3) := by decide +kernel
theorem dX3_knownByAll_30 : decode cX3_knownByAll 30 = .ok (.goto (-26), 3) := by decide +kernel
theorem dX3_knownByAll_33 : decode cX3_knownByAll 33 = .ok (.iload_n 2, 1) := by decide +kernel
theorem dX3_knownByAll_34 : decode cX3_knownByAll 34 = .ok (.ireturn, 1) := by decide +kernel
theorem dX3_rowTo_0 : decode cX3_rowTo 0 = .ok (.aload_n 0, 1) := by decide +kernel
theorem dX3_rowTo_1 : decode cX3_rowTo 1 = .ok (.iconst 0, 1) := by decide +kernel
theorem dX3_rowTo_2 : decode cX3_rowTo 2 = .ok (.invokevirtual 69, 3) := by decide +kernel
theorem dX3_rowTo_5 : decode cX3_rowTo 5 = .ok (.aload_n 0, 1) := by decide +kernel
theorem dX3_rowTo_6 : decode cX3_rowTo 6 = .ok (.getfield 18, 3) := by decide +kernel
theorem dX3_rowTo_9 : decode cX3_rowTo 9 = .ok (.iload_n 1, 1) := by decide +kernel
theorem dX3_rowTo_10 : decode cX3_rowTo 10 = .ok (.iaload, 1) := by decide +kernel
theorem dX3_rowTo_11 : decode cX3_rowTo 11 = .ok (.istore_n 2, 1) := by decide +kernel
theorem dX3_rowTo_12 : decode cX3_rowTo 12 = .ok (.iload_n 2, 1) := by decide +kernel
theorem dX3_rowTo_13 : decode cX3_rowTo 13 = .ok (.ldc 50, 2) := by decide +kernel
theorem dX3_rowTo_15 : decode cX3_rowTo 15 = .ok (.if_icmp .lt 5, 3) := by decide +kernel
theorem dX3_rowTo_18 : decode cX3_rowTo 18 = .ok (.iconst 0, 1) := by decide +kernel
theorem dX3_rowTo_19 : decode cX3_rowTo 19 = .ok (.ireturn, 1) := by decide +kernel
theorem dX3_rowTo_20 : decode cX3_rowTo 20 = .ok (.aload_n 0, 1) := by decide +kernel
theorem dX3_rowTo_21 : decode cX3_rowTo 21 = .ok (.iload_n 1, 1) := by decide +kernel
theorem dX3_rowTo_22 : decode cX3_rowTo 22 = .ok (.invokevirtual 73, 3) := by decide +kernel
theorem dX3_rowTo_25 : decode cX3_rowTo 25 = .ok (.iconst 0, 1) := by decide +kernel
theorem dX3_rowTo_26 : decode cX3_rowTo 26 = .ok (.istore_n 3, 1) := by decide +kernel
theorem dX3_rowTo_27 : decode cX3_rowTo 27 = .ok (.iload_n 3, 1) := by decide +kernel
theorem dX3_rowTo_28 : decode cX3_rowTo 28 = .ok (.aload_n 0, 1) := by decide +kernel
theorem dX3_rowTo_29 : decode cX3_rowTo 29 = .ok (.getfield 46, 3) := by decide +kernel
theorem dX3_rowTo_32 : decode cX3_rowTo 32 = .ok (.if_icmp .gt 62, 3) := by decide +kernel
theorem dX3_rowTo_35 : decode cX3_rowTo 35 = .ok (.iconst 0, 1) := by decide +kernel
theorem dX3_rowTo_36 : decode cX3_rowTo 36 = .ok (.istore 4, 2) := by decide +kernel
theorem dX3_rowTo_38 : decode cX3_rowTo 38 = .ok (.iload 4, 2) := by decide +kernel
theorem dX3_rowTo_40 : decode cX3_rowTo 40 = .ok (.aload_n 0, 1) := by decide +kernel
theorem dX3_rowTo_41 : decode cX3_rowTo 41 = .ok (.getfield 30, 3) := by decide +kernel
theorem dX3_rowTo_44 : decode cX3_rowTo 44 = .ok (.if_icmp .ge 44, 3) := by decide +kernel
theorem dX3_rowTo_47 : decode cX3_rowTo 47 = .ok (.aload_n 0, 1) := by decide +kernel
theorem dX3_rowTo_48 : decode cX3_rowTo 48 = .ok (.getfield 15, 3) := by decide +kernel
theorem dX3_rowTo_51 : decode cX3_rowTo 51 = .ok (.iload 4, 2) := by decide +kernel
theorem dX3_rowTo_53 : decode cX3_rowTo 53 = .ok (.iaload, 1) := by decide +kernel
theorem dX3_rowTo_54 : decode cX3_rowTo 54 = .ok (.aload_n 0, 1) := by decide +kernel
theorem dX3_rowTo_55 : decode cX3_rowTo 55 = .ok (.getfield 24, 3) := by decide +kernel
theorem dX3_rowTo_58 : decode cX3_rowTo 58 = .ok (.iload_n 3, 1) := by decide +kernel
theorem dX3_rowTo_59 : decode cX3_rowTo 59 = .ok (.bipush 8, 2) := by decide +kernel
theorem dX3_rowTo_61 : decode cX3_rowTo 61 = .ok (.imul, 1) := by decide +kernel
theorem dX3_rowTo_62 : decode cX3_rowTo 62 = .ok (.iload 4, 2) := by decide +kernel
theorem dX3_rowTo_64 : decode cX3_rowTo 64 = .ok (.iadd, 1) := by decide +kernel
theorem dX3_rowTo_65 : decode cX3_rowTo 65 = .ok (.iaload, 1) := by decide +kernel
theorem dX3_rowTo_66 : decode cX3_rowTo 66 = .ok (.iadd, 1) := by decide +kernel
theorem dX3_rowTo_67 : decode cX3_rowTo 67 = .ok (.iload_n 2, 1) := by decide +kernel
theorem dX3_rowTo_68 : decode cX3_rowTo 68 = .ok (.if_icmp .ne 14, 3) := by decide +kernel
theorem dX3_rowTo_71 : decode cX3_rowTo 71 = .ok (.aload_n 0, 1) := by decide +kernel
theorem dX3_rowTo_72 : decode cX3_rowTo 72 = .ok (.iload 4, 2) := by decide +kernel
theorem dX3_rowTo_74 : decode cX3_rowTo 74 = .ok (.iload_n 3, 1) := by decide +kernel
theorem dX3_rowTo_75 : decode cX3_rowTo 75 = .ok (.invokevirtual 76, 3) := by decide +kernel
theorem dX3_rowTo_78 : decode cX3_rowTo 78 = .ok (.iload_n 3, 1) := by decide +kernel
theorem dX3_rowTo_79 : decode cX3_rowTo 79 = .ok (.iconst 1, 1) := by decide +kernel
theorem dX3_rowTo_80 : decode cX3_rowTo 80 = .ok (.iadd, 1) := by decide +kernel
theorem dX3_rowTo_81 : decode cX3_rowTo 81 = .ok (.ireturn, 1) := by decide +kernel
theorem dX3_rowTo_82 : decode cX3_rowTo 82 = .ok (.iinc 4 1, 3) := by decide +kernel
theorem dX3_rowTo_85 : decode cX3_rowTo 85 = .ok (.goto (-47), 3) := by decide +kernel
theorem dX3_rowTo_88 : decode cX3_rowTo 88 = .ok (.iinc 3 1, 3) := by decide +kernel
theorem dX3_rowTo_91 : decode cX3_rowTo 91 = .ok (.goto (-64), 3) := by decide +kernel
theorem dX3_rowTo_94 : decode cX3_rowTo 94 = .ok (.iconst 0, 1) := by decide +kernel
theorem dX3_rowTo_95 : decode cX3_rowTo 95 = .ok (.ireturn, 1) := by decide +kernel
theorem dX3_lookBack_0 : decode cX3_lookBack 0 = .ok (.aload_n 0, 1) := by decide +kernel
theorem dX3_lookBack_1 : decode cX3_lookBack 1 = .ok (.getfield 24, 3) := by decide +kernel
theorem dX3_lookBack_4 : decode cX3_lookBack 4 = .ok (.ldc 50, 2) := by decide +kernel
theorem dX3_lookBack_6 : decode cX3_lookBack 6 = .ok (.invokestatic 80, 3) := by decide +kernel
theorem dX3_lookBack_9 : decode cX3_lookBack 9 = .ok (.aload_n 0, 1) := by decide +kernel
theorem dX3_lookBack_10 : decode cX3_lookBack 10 = .ok (.getfield 24, 3) := by decide +kernel
theorem dX3_lookBack_13 : decode cX3_lookBack 13 = .ok (.iload_n 1, 1) := by decide +kernel
theorem dX3_lookBack_14 : decode cX3_lookBack 14 = .ok (.iconst 0, 1) := by decide +kernel
theorem dX3_lookBack_15 : decode cX3_lookBack 15 = .ok (.iastore, 1) := by decide +kernel
theorem dX3_lookBack_16 : decode cX3_lookBack 16 = .ok (.iconst 1, 1) := by decide +kernel
theorem dX3_lookBack_17 : decode cX3_lookBack 17 = .ok (.istore_n 2, 1) := by decide +kernel
theorem dX3_lookBack_18 : decode cX3_lookBack 18 = .ok (.iload_n 2, 1) := by decide +kernel
theorem dX3_lookBack_19 : decode cX3_lookBack 19 = .ok (.aload_n 0, 1) := by decide +kernel
theorem dX3_lookBack_20 : decode cX3_lookBack 20 = .ok (.getfield 46, 3) := by decide +kernel
theorem dX3_lookBack_23 : decode cX3_lookBack 23 = .ok (.if_icmp .gt 98, 3) := by decide +kernel
theorem dX3_lookBack_26 : decode cX3_lookBack 26 = .ok (.iconst 0, 1) := by decide +kernel
theorem dX3_lookBack_27 : decode cX3_lookBack 27 = .ok (.istore_n 3, 1) := by decide +kernel
theorem dX3_lookBack_28 : decode cX3_lookBack 28 = .ok (.iload_n 3, 1) := by decide +kernel
theorem dX3_lookBack_29 : decode cX3_lookBack 29 = .ok (.aload_n 0, 1) := by decide +kernel
theorem dX3_lookBack_30 : decode cX3_lookBack 30 = .ok (.getfield 30, 3) := by decide +kernel
theorem dX3_lookBack_33 : decode cX3_lookBack 33 = .ok (.if_icmp .ge 82, 3) := by decide +kernel
theorem dX3_lookBack_36 : decode cX3_lookBack 36 = .ok (.ldc 50, 2) := by decide +kernel
theorem dX3_lookBack_38 : decode cX3_lookBack 38 = .ok (.istore 4, 2) := by decide +kernel
theorem dX3_lookBack_40 : decode cX3_lookBack 40 = .ok (.iconst 0, 1) := by decide +kernel
theorem dX3_lookBack_41 : decode cX3_lookBack 41 = .ok (.istore 5, 2) := by decide +kernel
theorem dX3_lookBack_43 : decode cX3_lookBack 43 = .ok (.iload 5, 2) := by decide +kernel
theorem dX3_lookBack_45 : decode cX3_lookBack 45 = .ok (.aload_n 0, 1) := by decide +kernel
theorem dX3_lookBack_46 : decode cX3_lookBack 46 = .ok (.getfield 30, 3) := by decide +kernel
theorem dX3_lookBack_49 : decode cX3_lookBack 49 = .ok (.if_icmp .ge 47, 3) := by decide +kernel
theorem dX3_lookBack_52 : decode cX3_lookBack 52 = .ok (.aload_n 0, 1) := by decide +kernel
theorem dX3_lookBack_53 : decode cX3_lookBack 53 = .ok (.getfield 24, 3) := by decide +kernel
theorem dX3_lookBack_56 : decode cX3_lookBack 56 = .ok (.iload_n 2, 1) := by decide +kernel
theorem dX3_lookBack_57 : decode cX3_lookBack 57 = .ok (.iconst 1, 1) := by decide +kernel
theorem dX3_lookBack_58 : decode cX3_lookBack 58 = .ok (.isub, 1) := by decide +kernel
theorem dX3_lookBack_59 : decode cX3_lookBack 59 = .ok (.bipush 8, 2) := by decide +kernel
theorem dX3_lookBack_61 : decode cX3_lookBack 61 = .ok (.imul, 1) := by decide +kernel
theorem dX3_lookBack_62 : decode cX3_lookBack 62 = .ok (.iload 5, 2) := by decide +kernel
theorem dX3_lookBack_64 : decode cX3_lookBack 64 = .ok (.iadd, 1) := by decide +kernel
theorem dX3_lookBack_65 : decode cX3_lookBack 65 = .ok (.iaload, 1) := by decide +kernel
theorem dX3_lookBack_66 : decode cX3_lookBack 66 = .ok (.istore 6, 2) := by decide +kernel
theorem dX3_lookBack_68 : decode cX3_lookBack 68 = .ok (.iload 4, 2) := by decide +kernel
theorem dX3_lookBack_70 : decode cX3_lookBack 70 = .ok (.aload_n 0, 1) := by decide +kernel
theorem dX3_lookBack_71 : decode cX3_lookBack 71 = .ok (.getfield 9, 3) := by decide +kernel
theorem dX3_lookBack_74 : decode cX3_lookBack 74 = .ok (.iload_n 3, 1) := by decide +kernel
theorem dX3_lookBack_75 : decode cX3_lookBack 75 = .ok (.bipush 8, 2) := by decide +kernel
theorem dX3_lookBack_77 : decode cX3_lookBack 77 = .ok (.imul, 1) := by decide +kernel
theorem dX3_lookBack_78 : decode cX3_lookBack 78 = .ok (.iload 5, 2) := by decide +kernel
theorem dX3_lookBack_80 : decode cX3_lookBack 80 = .ok (.iadd, 1) := by decide +kernel
theorem dX3_lookBack_81 : decode cX3_lookBack 81 = .ok (.iaload, 1) := by decide +kernel
theorem dX3_lookBack_82 : decode cX3_lookBack 82 = .ok (.iload 6, 2) := by decide +kernel
theorem dX3_lookBack_84 : decode cX3_lookBack 84 = .ok (.iadd, 1) := by decide +kernel
theorem dX3_lookBack_85 : decode cX3_lookBack 85 = .ok (.invokestatic 86, 3) := by decide +kernel
theorem dX3_lookBack_88 : decode cX3_lookBack 88 = .ok (.istore 4, 2) := by decide +kernel
theorem dX3_lookBack_90 : decode cX3_lookBack 90 = .ok (.iinc 5 1, 3) := by decide +kernel
theorem dX3_lookBack_93 : decode cX3_lookBack 93 = .ok (.goto (-50), 3) := by decide +kernel
theorem dX3_lookBack_96 : decode cX3_lookBack 96 = .ok (.aload_n 0, 1) := by decide +kernel
theorem dX3_lookBack_97 : decode cX3_lookBack 97 = .ok (.getfield 24, 3) := by decide +kernel
theorem dX3_lookBack_100 : decode cX3_lookBack 100 = .ok (.iload_n 2, 1) := by decide +kernel
theorem dX3_lookBack_101 : decode cX3_lookBack 101 = .ok (.bipush 8, 2) := by decide +kernel
theorem dX3_lookBack_103 : decode cX3_lookBack 103 = .ok (.imul, 1) := by decide +kernel
theorem dX3_lookBack_104 : decode cX3_lookBack 104 = .ok (.iload_n 3, 1) := by decide +kernel
theorem dX3_lookBack_105 : decode cX3_lookBack 105 = .ok (.iadd, 1) := by decide +kernel
theorem dX3_lookBack_106 : decode cX3_lookBack 106 = .ok (.iload 4, 2) := by decide +kernel
theorem dX3_lookBack_108 : decode cX3_lookBack 108 = .ok (.iastore, 1) := by decide +kernel
theorem dX3_lookBack_109 : decode cX3_lookBack 109 = .ok (.iinc 3 1, 3) := by decide +kernel
theorem dX3_lookBack_112 : decode cX3_lookBack 112 = .ok (.goto (-84), 3) := by decide +kernel
theorem dX3_lookBack_115 : decode cX3_lookBack 115 = .ok (.iinc 2 1, 3) := by decide +kernel
theorem dX3_lookBack_118 : decode cX3_lookBack 118 = .ok (.goto (-100), 3) := by decide +kernel
theorem dX3_lookBack_121 : decode cX3_lookBack 121 = .ok (.return_, 1) := by decide +kernel
theorem dX3_walk_0 : decode cX3_walk 0 = .ok (.iload_n 1, 1) := by decide +kernel
theorem dX3_walk_1 : decode cX3_walk 1 = .ok (.istore_n 3, 1) := by decide +kernel
theorem dX3_walk_2 : decode cX3_walk 2 = .ok (.aload_n 0, 1) := by decide +kernel
theorem dX3_walk_3 : decode cX3_walk 3 = .ok (.getfield 27, 3) := by decide +kernel
theorem dX3_walk_6 : decode cX3_walk 6 = .ok (.iconst 0, 1) := by decide +kernel
theorem dX3_walk_7 : decode cX3_walk 7 = .ok (.iload_n 1, 1) := by decide +kernel
theorem dX3_walk_8 : decode cX3_walk 8 = .ok (.iastore, 1) := by decide +kernel
theorem dX3_walk_9 : decode cX3_walk 9 = .ok (.iconst 1, 1) := by decide +kernel
theorem dX3_walk_10 : decode cX3_walk 10 = .ok (.istore 4, 2) := by decide +kernel
theorem dX3_walk_12 : decode cX3_walk 12 = .ok (.iload 4, 2) := by decide +kernel
theorem dX3_walk_14 : decode cX3_walk 14 = .ok (.iload_n 2, 1) := by decide +kernel
theorem dX3_walk_15 : decode cX3_walk 15 = .ok (.if_icmp .gt 98, 3) := by decide +kernel
theorem dX3_walk_18 : decode cX3_walk 18 = .ok (.aload_n 0, 1) := by decide +kernel
theorem dX3_walk_19 : decode cX3_walk 19 = .ok (.getfield 24, 3) := by decide +kernel
theorem dX3_walk_22 : decode cX3_walk 22 = .ok (.iload_n 2, 1) := by decide +kernel
theorem dX3_walk_23 : decode cX3_walk 23 = .ok (.iload 4, 2) := by decide +kernel
theorem dX3_walk_25 : decode cX3_walk 25 = .ok (.isub, 1) := by decide +kernel
theorem dX3_walk_26 : decode cX3_walk 26 = .ok (.iconst 1, 1) := by decide +kernel
theorem dX3_walk_27 : decode cX3_walk 27 = .ok (.iadd, 1) := by decide +kernel
theorem dX3_walk_28 : decode cX3_walk 28 = .ok (.bipush 8, 2) := by decide +kernel
theorem dX3_walk_30 : decode cX3_walk 30 = .ok (.imul, 1) := by decide +kernel
theorem dX3_walk_31 : decode cX3_walk 31 = .ok (.iload_n 3, 1) := by decide +kernel
theorem dX3_walk_32 : decode cX3_walk 32 = .ok (.iadd, 1) := by decide +kernel
theorem dX3_walk_33 : decode cX3_walk 33 = .ok (.iaload, 1) := by decide +kernel
theorem dX3_walk_34 : decode cX3_walk 34 = .ok (.istore 5, 2) := by decide +kernel
theorem dX3_walk_36 : decode cX3_walk 36 = .ok (.iconst 0, 1) := by decide +kernel
theorem dX3_walk_37 : decode cX3_walk 37 = .ok (.istore 6, 2) := by decide +kernel
theorem dX3_walk_39 : decode cX3_walk 39 = .ok (.aload_n 0, 1) := by decide +kernel
theorem dX3_walk_40 : decode cX3_walk 40 = .ok (.getfield 30, 3) := by decide +kernel
theorem dX3_walk_43 : decode cX3_walk 43 = .ok (.iconst 1, 1) := by decide +kernel
theorem dX3_walk_44 : decode cX3_walk 44 = .ok (.isub, 1) := by decide +kernel
theorem dX3_walk_45 : decode cX3_walk 45 = .ok (.istore 7, 2) := by decide +kernel
theorem dX3_walk_47 : decode cX3_walk 47 = .ok (.iload 7, 2) := by decide +kernel
theorem dX3_walk_49 : decode cX3_walk 49 = .ok (.ifCond .lt 46, 3) := by decide +kernel
theorem dX3_walk_52 : decode cX3_walk 52 = .ok (.aload_n 0, 1) := by decide +kernel
theorem dX3_walk_53 : decode cX3_walk 53 = .ok (.getfield 9, 3) := by decide +kernel
theorem dX3_walk_56 : decode cX3_walk 56 = .ok (.iload_n 3, 1) := by decide +kernel
theorem dX3_walk_57 : decode cX3_walk 57 = .ok (.bipush 8, 2) := by decide +kernel
theorem dX3_walk_59 : decode cX3_walk 59 = .ok (.imul, 1) := by decide +kernel
theorem dX3_walk_60 : decode cX3_walk 60 = .ok (.iload 7, 2) := by decide +kernel
theorem dX3_walk_62 : decode cX3_walk 62 = .ok (.iadd, 1) := by decide +kernel
theorem dX3_walk_63 : decode cX3_walk 63 = .ok (.iaload, 1) := by decide +kernel
theorem dX3_walk_64 : decode cX3_walk 64 = .ok (.aload_n 0, 1) := by decide +kernel
theorem dX3_walk_65 : decode cX3_walk 65 = .ok (.getfield 24, 3) := by decide +kernel
theorem dX3_walk_68 : decode cX3_walk 68 = .ok (.iload_n 2, 1) := by decide +kernel
theorem dX3_walk_69 : decode cX3_walk 69 = .ok (.iload 4, 2) := by decide +kernel
theorem dX3_walk_71 : decode cX3_walk 71 = .ok (.isub, 1) := by decide +kernel
theorem dX3_walk_72 : decode cX3_walk 72 = .ok (.bipush 8, 2) := by decide +kernel
theorem dX3_walk_74 : decode cX3_walk 74 = .ok (.imul, 1) := by decide +kernel
theorem dX3_walk_75 : decode cX3_walk 75 = .ok (.iload 7, 2) := by decide +kernel
theorem dX3_walk_77 : decode cX3_walk 77 = .ok (.iadd, 1) := by decide +kernel
theorem dX3_walk_78 : decode cX3_walk 78 = .ok (.iaload, 1) := by decide +kernel
theorem dX3_walk_79 : decode cX3_walk 79 = .ok (.iadd, 1) := by decide +kernel
theorem dX3_walk_80 : decode cX3_walk 80 = .ok (.iload 5, 2) := by decide +kernel
theorem dX3_walk_82 : decode cX3_walk 82 = .ok (.if_icmp .ne 7, 3) := by decide +kernel
theorem dX3_walk_85 : decode cX3_walk 85 = .ok (.iload 7, 2) := by decide +kernel
theorem dX3_walk_87 : decode cX3_walk 87 = .ok (.istore 6, 2) := by decide +kernel
theorem dX3_walk_89 : decode cX3_walk 89 = .ok (.iinc 7 (-1), 3) := by decide +kernel
theorem dX3_walk_92 : decode cX3_walk 92 = .ok (.goto (-45), 3) := by decide +kernel
theorem dX3_walk_95 : decode cX3_walk 95 = .ok (.aload_n 0, 1) := by decide +kernel
theorem dX3_walk_96 : decode cX3_walk 96 = .ok (.getfield 27, 3) := by decide +kernel
theorem dX3_walk_99 : decode cX3_walk 99 = .ok (.iload 4, 2) := by decide +kernel
theorem dX3_walk_101 : decode cX3_walk 101 = .ok (.iload 6, 2) := by decide +kernel
theorem dX3_walk_103 : decode cX3_walk 103 = .ok (.iastore, 1) := by decide +kernel
theorem dX3_walk_104 : decode cX3_walk 104 = .ok (.iload 6, 2) := by decide +kernel
theorem dX3_walk_106 : decode cX3_walk 106 = .ok (.istore_n 3, 1) := by decide +kernel
theorem dX3_walk_107 : decode cX3_walk 107 = .ok (.iinc 4 1, 3) := by decide +kernel
theorem dX3_walk_110 : decode cX3_walk 110 = .ok (.goto (-98), 3) := by decide +kernel
theorem dX3_walk_113 : decode cX3_walk 113 = .ok (.return_, 1) := by decide +kernel
theorem dX4_init_0 : decode cX4_init 0 = .ok (.aload_n 0, 1) := by decide +kernel
theorem dX4_init_1 : decode cX4_init 1 = .ok (.invokespecial 3, 3) := by decide +kernel
theorem dX4_init_4 : decode cX4_init 4 = .ok (.aload_n 0, 1) := by decide +kernel
theorem dX4_init_5 : decode cX4_init 5 = .ok (.iconst (-1), 1) := by decide +kernel
theorem dX4_init_6 : decode cX4_init 6 = .ok (.putfield 11, 3) := by decide +kernel
theorem dX4_init_9 : decode cX4_init 9 = .ok (.aload_n 0, 1) := by decide +kernel
theorem dX4_init_10 : decode cX4_init 10 = .ok (.bipush 60, 2) := by decide +kernel
theorem dX4_init_12 : decode cX4_init 12 = .ok (.newarray .long, 2) := by decide +kernel
theorem dX4_init_14 : decode cX4_init 14 = .ok (.putfield 15, 3) := by decide +kernel
theorem dX4_init_17 : decode cX4_init 17 = .ok (.return_, 1) := by decide +kernel
theorem dX4_become_0 : decode cX4_become 0 = .ok (.aload_n 0, 1) := by decide +kernel
theorem dX4_become_1 : decode cX4_become 1 = .ok (.iload_n 1, 1) := by decide +kernel
theorem dX4_become_2 : decode cX4_become 2 = .ok (.putfield 11, 3) := by decide +kernel
theorem dX4_become_5 : decode cX4_become 5 = .ok (.aload_n 0, 1) := by decide +kernel
theorem dX4_become_6 : decode cX4_become 6 = .ok (.iload_n 2, 1) := by decide +kernel
theorem dX4_become_7 : decode cX4_become 7 = .ok (.putfield 19, 3) := by decide +kernel
theorem dX4_become_10 : decode cX4_become 10 = .ok (.aload_n 0, 1) := by decide +kernel
theorem dX4_become_11 : decode cX4_become 11 = .ok (.getfield 15, 3) := by decide +kernel
theorem dX4_become_14 : decode cX4_become 14 = .ok (.lconst 0, 1) := by decide +kernel
theorem dX4_become_15 : decode cX4_become 15 = .ok (.invokestatic 22, 3) := by decide +kernel
theorem dX4_become_18 : decode cX4_become 18 = .ok (.return_, 1) := by decide +kernel
theorem dX4_hasPlace_0 : decode cX4_hasPlace 0 = .ok (.iload_n 1, 1) := by decide +kernel
theorem dX4_hasPlace_1 : decode cX4_hasPlace 1 = .ok (.ifCond .lt 15, 3) := by decide +kernel
theorem dX4_hasPlace_4 : decode cX4_hasPlace 4 = .ok (.iload_n 1, 1) := by decide +kernel
theorem dX4_hasPlace_5 : decode cX4_hasPlace 5 = .ok (.aload_n 0, 1) := by decide +kernel
theorem dX4_hasPlace_6 : decode cX4_hasPlace 6 = .ok (.getfield 19, 3) := by decide +kernel
theorem dX4_hasPlace_9 : decode cX4_hasPlace 9 = .ok (.if_icmp .ge 7, 3) := by decide +kernel
theorem dX4_hasPlace_12 : decode cX4_hasPlace 12 = .ok (.iconst 1, 1) := by decide +kernel
theorem dX4_hasPlace_13 : decode cX4_hasPlace 13 = .ok (.goto 4, 3) := by decide +kernel
theorem dX4_hasPlace_16 : decode cX4_hasPlace 16 = .ok (.iconst 0, 1) := by decide +kernel
theorem dX4_hasPlace_17 : decode cX4_hasPlace 17 = .ok (.ireturn, 1) := by decide +kernel
theorem dX4_hasRun_0 : decode cX4_hasRun 0 = .ok (.iload_n 1, 1) := by decide +kernel
theorem dX4_hasRun_1 : decode cX4_hasRun 1 = .ok (.ifCond .lt 29, 3) := by decide +kernel
theorem dX4_hasRun_4 : decode cX4_hasRun 4 = .ok (.iload_n 2, 1) := by decide +kernel
theorem dX4_hasRun_5 : decode cX4_hasRun 5 = .ok (.ifCond .lt 25, 3) := by decide +kernel
theorem dX4_hasRun_8 : decode cX4_hasRun 8 = .ok (.iload_n 1, 1) := by decide +kernel
theorem dX4_hasRun_9 : decode cX4_hasRun 9 = .ok (.aload_n 0, 1) := by decide +kernel
theorem dX4_hasRun_10 : decode cX4_hasRun 10 = .ok (.getfield 19, 3) := by decide +kernel
theorem dX4_hasRun_13 : decode cX4_hasRun 13 = .ok (.if_icmp .gt 17, 3) := by decide +kernel
theorem dX4_hasRun_16 : decode cX4_hasRun 16 = .ok (.iload_n 2, 1) := by decide +kernel
theorem dX4_hasRun_17 : decode cX4_hasRun 17 = .ok (.aload_n 0, 1) := by decide +kernel
theorem dX4_hasRun_18 : decode cX4_hasRun 18 = .ok (.getfield 19, 3) := by decide +kernel
theorem dX4_hasRun_21 : decode cX4_hasRun 21 = .ok (.iload_n 1, 1) := by decide +kernel
theorem dX4_hasRun_22 : decode cX4_hasRun 22 = .ok (.isub, 1) := by decide +kernel
theorem dX4_hasRun_23 : decode cX4_hasRun 23 = .ok (.if_icmp .gt 7, 3) := by decide +kernel
theorem dX4_hasRun_26 : decode cX4_hasRun 26 = .ok (.iconst 1, 1) := by decide +kernel
theorem dX4_hasRun_27 : decode cX4_hasRun 27 = .ok (.goto 4, 3) := by decide +kernel
theorem dX4_hasRun_30 : decode cX4_hasRun 30 = .ok (.iconst 0, 1) := by decide +kernel
theorem dX4_hasRun_31 : decode cX4_hasRun 31 = .ok (.ireturn, 1) := by decide +kernel
theorem dX4_cut_0 : decode cX4_cut 0 = .ok (.iload_n 0, 1) := by decide +kernel
theorem dX4_cut_1 : decode cX4_cut 1 = .ok (.tableswitch 47 0 3 #[31, 36, 41, 45], 31) := by decide +kernel
theorem dX4_cut_32 : decode cX4_cut 32 = .ok (.lload_n 1, 1) := by decide +kernel
theorem dX4_cut_33 : decode cX4_cut 33 = .ok (.l2i, 1) := by decide +kernel
theorem dX4_cut_34 : decode cX4_cut 34 = .ok (.i2b, 1) := by decide +kernel
theorem dX4_cut_35 : decode cX4_cut 35 = .ok (.i2l, 1) := by decide +kernel
theorem dX4_cut_36 : decode cX4_cut 36 = .ok (.lreturn, 1) := by decide +kernel
theorem dX4_cut_37 : decode cX4_cut 37 = .ok (.lload_n 1, 1) := by decide +kernel
theorem dX4_cut_38 : decode cX4_cut 38 = .ok (.l2i, 1) := by decide +kernel
theorem dX4_cut_39 : decode cX4_cut 39 = .ok (.i2s, 1) := by decide +kernel
theorem dX4_cut_40 : decode cX4_cut 40 = .ok (.i2l, 1) := by decide +kernel
theorem dX4_cut_41 : decode cX4_cut 41 = .ok (.lreturn, 1) := by decide +kernel
theorem dX4_cut_42 : decode cX4_cut 42 = .ok (.lload_n 1, 1) := by decide +kernel
theorem dX4_cut_43 : decode cX4_cut 43 = .ok (.l2i, 1) := by decide +kernel
theorem dX4_cut_44 : decode cX4_cut 44 = .ok (.i2l, 1) := by decide +kernel
theorem dX4_cut_45 : decode cX4_cut 45 = .ok (.lreturn, 1) := by decide +kernel
theorem dX4_cut_46 : decode cX4_cut 46 = .ok (.lload_n 1, 1) := by decide +kernel
theorem dX4_cut_47 : decode cX4_cut 47 = .ok (.lreturn, 1) := by decide +kernel
theorem dX4_cut_48 : decode cX4_cut 48 = .ok (.lload_n 1, 1) := by decide +kernel
theorem dX4_cut_49 : decode cX4_cut 49 = .ok (.lconst 0, 1) := by decide +kernel
theorem dX4_cut_50 : decode cX4_cut 50 = .ok (.lcmp, 1) := by decide +kernel
theorem dX4_cut_51 : decode cX4_cut 51 = .ok (.ifCond .eq 7, 3) := by decide +kernel
theorem dX4_cut_54 : decode cX4_cut 54 = .ok (.lconst 1, 1) := by decide +kernel
theorem dX4_cut_55 : decode cX4_cut 55 = .ok (.goto 4, 3) := by decide +kernel
theorem dX4_cut_58 : decode cX4_cut 58 = .ok (.lconst 0, 1) := by decide +kernel
theorem dX4_cut_59 : decode cX4_cut 59 = .ok (.lreturn, 1) := by decide +kernel
theorem dX5_init_0 : decode cX5_init 0 = .ok (.aload_n 0, 1) := by decide +kernel
theorem dX5_init_1 : decode cX5_init 1 = .ok (.invokespecial 3, 3) := by decide +kernel
theorem dX5_init_4 : decode cX5_init 4 = .ok (.aload_n 0, 1) := by decide +kernel
theorem dX5_init_5 : decode cX5_init 5 = .ok (.bipush 100, 2) := by decide +kernel
theorem dX5_init_7 : decode cX5_init 7 = .ok (.newarray .int, 2) := by decide +kernel
theorem dX5_init_9 : decode cX5_init 9 = .ok (.putfield 9, 3) := by decide +kernel
theorem dX5_init_12 : decode cX5_init 12 = .ok (.return_, 1) := by decide +kernel
theorem dX5_append_0 : decode cX5_append 0 = .ok (.aload_n 0, 1) := by decide +kernel
theorem dX5_append_1 : decode cX5_append 1 = .ok (.getfield 15, 3) := by decide +kernel
theorem dX5_append_4 : decode cX5_append 4 = .ok (.aload_n 0, 1) := by decide +kernel
theorem dX5_append_5 : decode cX5_append 5 = .ok (.getfield 9, 3) := by decide +kernel
theorem dX5_append_8 : decode cX5_append 8 = .ok (.arraylength, 1) := by decide +kernel
theorem dX5_append_9 : decode cX5_append 9 = .ok (.if_icmp .ge 23, 3) := by decide +kernel
theorem dX5_append_12 : decode cX5_append 12 = .ok (.aload_n 0, 1) := by decide +kernel
theorem dX5_append_13 : decode cX5_append 13 = .ok (.getfield 9, 3) := by decide +kernel
theorem dX5_append_16 : decode cX5_append 16 = .ok (.aload_n 0, 1) := by decide +kernel
theorem dX5_append_17 : decode cX5_append 17 = .ok (.getfield 15, 3) := by decide +kernel
theorem dX5_append_20 : decode cX5_append 20 = .ok (.iload_n 1, 1) := by decide +kernel
theorem dX5_append_21 : decode cX5_append 21 = .ok (.iastore, 1) := by decide +kernel
theorem dX5_append_22 : decode cX5_append 22 = .ok (.aload_n 0, 1) := by decide +kernel
theorem dX5_append_23 : decode cX5_append 23 = .ok (.dup, 1) := by decide +kernel
theorem dX5_append_24 : decode cX5_append 24 = .ok (.getfield 15, 3) := by decide +kernel
theorem dX5_append_27 : decode cX5_append 27 = .ok (.iconst 1, 1) := by decide +kernel
theorem dX5_append_28 : decode cX5_append 28 = .ok (.iadd, 1) := by decide +kernel
theorem dX5_append_29 : decode cX5_append 29 = .ok (.putfield 15, 3) := by decide +kernel
theorem dX5_append_32 : decode cX5_append 32 = .ok (.return_, 1) := by decide +kernel
theorem dX5_readInto_0 : decode cX5_readInto 0 = .ok (.aload_n 1, 1) := by decide +kernel
theorem dX5_readInto_1 : decode cX5_readInto 1 = .ok (.invokevirtual 19, 3) := by decide +kernel
theorem dX5_readInto_4 : decode cX5_readInto 4 = .ok (.aload_n 0, 1) := by decide +kernel
theorem dX5_readInto_5 : decode cX5_readInto 5 = .ok (.iconst 0, 1) := by decide +kernel
theorem dX5_readInto_6 : decode cX5_readInto 6 = .ok (.putfield 24, 3) := by decide +kernel
theorem dX5_readInto_9 : decode cX5_readInto 9 = .ok (.iconst 1, 1) := by decide +kernel
theorem dX5_readInto_10 : decode cX5_readInto 10 = .ok (.istore_n 2, 1) := by decide +kernel
theorem dX5_readInto_11 : decode cX5_readInto 11 = .ok (.iload_n 2, 1) := by decide +kernel
theorem dX5_readInto_12 : decode cX5_readInto 12 = .ok (.bipush 10, 2) := by decide +kernel
theorem dX5_readInto_14 : decode cX5_readInto 14 = .ok (.if_icmp .gt 55, 3) := by decide +kernel
theorem dX5_readInto_17 : decode cX5_readInto 17 = .ok (.aload_n 0, 1) := by decide +kernel
theorem dX5_readInto_18 : decode cX5_readInto 18 = .ok (.aload_n 1, 1) := by decide +kernel
theorem dX5_readInto_19 : decode cX5_readInto 19 = .ok (.invokevirtual 27, 3) := by decide +kernel
theorem dX5_readInto_22 : decode cX5_readInto 22 = .ok (.ifCond .ne 8, 3) := by decide +kernel
theorem dX5_readInto_25 : decode cX5_readInto 25 = .ok (.aload_n 0, 1) := by decide +kernel
theorem dX5_readInto_26 : decode cX5_readInto 26 = .ok (.getfield 24, 3) := by decide +kernel
theorem dX5_readInto_29 : decode cX5_readInto 29 = .ok (.ireturn, 1) := by decide +kernel
theorem dX5_readInto_30 : decode cX5_readInto 30 = .ok (.aload_n 0, 1) := by decide +kernel
theorem dX5_readInto_31 : decode cX5_readInto 31 = .ok (.getfield 24, 3) := by decide +kernel
theorem dX5_readInto_34 : decode cX5_readInto 34 = .ok (.aload_n 0, 1) := by decide +kernel
theorem dX5_readInto_35 : decode cX5_readInto 35 = .ok (.getfield 15, 3) := by decide +kernel
theorem dX5_readInto_38 : decode cX5_readInto 38 = .ok (.if_icmp .lt 5, 3) := by decide +kernel
theorem dX5_readInto_41 : decode cX5_readInto 41 = .ok (.iconst (-1), 1) := by decide +kernel
theorem dX5_readInto_42 : decode cX5_readInto 42 = .ok (.ireturn, 1) := by decide +kernel
theorem dX5_readInto_43 : decode cX5_readInto 43 = .ok (.iload_n 2, 1) := by decide +kernel
theorem dX5_readInto_44 : decode cX5_readInto 44 = .ok (.bipush 10, 2) := by decide +kernel
theorem dX5_readInto_46 : decode cX5_readInto 46 = .ok (.if_icmp .eq 12, 3) := by decide +kernel
theorem dX5_readInto_49 : decode cX5_readInto 49 = .ok (.aload_n 0, 1) := by decide +kernel
theorem dX5_readInto_50 : decode cX5_readInto 50 = .ok (.bipush 59, 2) := by decide +kernel
theorem dX5_readInto_52 : decode cX5_readInto 52 = .ok (.invokevirtual 31, 3) := by decide +kernel
theorem dX5_readInto_55 : decode cX5_readInto 55 = .ok (.ifCond .ne 8, 3) := by decide +kernel
theorem dX5_readInto_58 : decode cX5_readInto 58 = .ok (.aload_n 0, 1) := by decide +kernel
theorem dX5_readInto_59 : decode cX5_readInto 59 = .ok (.getfield 24, 3) := by decide +kernel
theorem dX5_readInto_62 : decode cX5_readInto 62 = .ok (.ireturn, 1) := by decide +kernel
theorem dX5_readInto_63 : decode cX5_readInto 63 = .ok (.iinc 2 1, 3) := by decide +kernel
theorem dX5_readInto_66 : decode cX5_readInto 66 = .ok (.goto (-55), 3) := by decide +kernel
theorem dX5_readInto_69 : decode cX5_readInto 69 = .ok (.aload_n 0, 1) := by decide +kernel
theorem dX5_readInto_70 : decode cX5_readInto 70 = .ok (.getfield 24, 3) := by decide +kernel
theorem dX5_readInto_73 : decode cX5_readInto 73 = .ok (.ireturn, 1) := by decide +kernel
theorem dX5_readClause_0 : decode cX5_readClause 0 = .ok (.aload_n 0, 1) := by decide +kernel
theorem dX5_readClause_1 : decode cX5_readClause 1 = .ok (.invokevirtual 35, 3) := by decide +kernel
theorem dX5_readClause_4 : decode cX5_readClause 4 = .ok (.istore_n 2, 1) := by decide +kernel
theorem dX5_readClause_5 : decode cX5_readClause 5 = .ok (.iload_n 2, 1) := by decide +kernel
theorem dX5_readClause_6 : decode cX5_readClause 6 = .ok (.ifCond .lt 12, 3) := by decide +kernel
theorem dX5_readClause_9 : decode cX5_readClause 9 = .ok (.aload_n 0, 1) := by decide +kernel
theorem dX5_readClause_10 : decode cX5_readClause 10 = .ok (.bipush 32, 2) := by decide +kernel
theorem dX5_readClause_12 : decode cX5_readClause 12 = .ok (.invokevirtual 31, 3) := by decide +kernel
theorem dX5_readClause_15 : decode cX5_readClause 15 = .ok (.ifCond .ne 5, 3) := by decide +kernel
theorem dX5_readClause_18 : decode cX5_readClause 18 = .ok (.iconst 0, 1) := by decide +kernel
theorem dX5_readClause_19 : decode cX5_readClause 19 = .ok (.ireturn, 1) := by decide +kernel
theorem dX5_readClause_20 : decode cX5_readClause 20 = .ok (.aload_n 0, 1) := by decide +kernel
theorem dX5_readClause_21 : decode cX5_readClause 21 = .ok (.iconst 3, 1) := by decide +kernel
theorem dX5_readClause_22 : decode cX5_readClause 22 = .ok (.invokevirtual 39, 3) := by decide +kernel
theorem dX5_readClause_25 : decode cX5_readClause 25 = .ok (.istore_n 3, 1) := by decide +kernel
theorem dX5_readClause_26 : decode cX5_readClause 26 = .ok (.iload_n 3, 1) := by decide +kernel
theorem dX5_readClause_27 : decode cX5_readClause 27 = .ok (.ifCond .ge 5, 3) := by decide +kernel
theorem dX5_readClause_30 : decode cX5_readClause 30 = .ok (.iconst 0, 1) := by decide +kernel
theorem dX5_readClause_31 : decode cX5_readClause 31 = .ok (.ireturn, 1) := by decide +kernel
theorem dX5_readClause_32 : decode cX5_readClause 32 = .ok (.iload_n 2, 1) := by decide +kernel
theorem dX5_readClause_33 : decode cX5_readClause 33 = .ok (.ifCond .eq 8, 3) := by decide +kernel
theorem dX5_readClause_36 : decode cX5_readClause 36 = .ok (.iload_n 2, 1) := by decide +kernel
theorem dX5_readClause_37 : decode cX5_readClause 37 = .ok (.iconst 1, 1) := by decide +kernel
theorem dX5_readClause_38 : decode cX5_readClause 38 = .ok (.if_icmp .ne 23, 3) := by decide +kernel
theorem dX5_readClause_41 : decode cX5_readClause 41 = .ok (.aload_n 0, 1) := by decide +kernel
theorem dX5_readClause_42 : decode cX5_readClause 42 = .ok (.bipush 32, 2) := by decide +kernel
theorem dX5_readClause_44 : decode cX5_readClause 44 = .ok (.invokevirtual 31, 3) := by decide +kernel
theorem dX5_readClause_47 : decode cX5_readClause 47 = .ok (.ifCond .eq 12, 3) := by decide +kernel
theorem dX5_readClause_50 : decode cX5_readClause 50 = .ok (.aload_n 0, 1) := by decide +kernel
theorem dX5_readClause_51 : decode cX5_readClause 51 = .ok (.aload_n 1, 1) := by decide +kernel
theorem dX5_readClause_52 : decode cX5_readClause 52 = .ok (.iconst 0, 1) := by decide +kernel
theorem dX5_readClause_53 : decode cX5_readClause 53 = .ok (.invokevirtual 43, 3) := by decide +kernel
theorem dX5_readClause_56 : decode cX5_readClause 56 = .ok (.ifCond .ne 5, 3) := by decide +kernel
theorem dX5_readClause_59 : decode cX5_readClause 59 = .ok (.iconst 0, 1) := by decide +kernel
theorem dX5_readClause_60 : decode cX5_readClause 60 = .ok (.ireturn, 1) := by decide +kernel
theorem dX5_readClause_61 : decode cX5_readClause 61 = .ok (.aload_n 1, 1) := by decide +kernel
theorem dX5_readClause_62 : decode cX5_readClause 62 = .ok (.iload_n 2, 1) := by decide +kernel
theorem dX5_readClause_63 : decode cX5_readClause 63 = .ok (.iload_n 3, 1) := by decide +kernel
theorem dX5_readClause_64 : decode cX5_readClause 64 = .ok (.invokevirtual 47, 3) := by decide +kernel
theorem dX5_readClause_67 : decode cX5_readClause 67 = .ok (.iconst 1, 1) := by decide +kernel
theorem dX5_readClause_68 : decode cX5_readClause 68 = .ok (.ireturn, 1) := by decide +kernel
theorem dX5_spelling_0 : decode cX5_spelling 0 = .ok (.iload_n 0, 1) := by decide +kernel
theorem dX5_spelling_1 : decode cX5_spelling 1 = .ok (.tableswitch 43 0 3 #[31, 34, 37, 40], 31) := by decide +kernel
theorem dX5_spelling_32 : decode cX5_spelling 32 = .ok (.ldc 51, 2) := by decide +kernel
theorem dX5_spelling_34 : decode cX5_spelling 34 = .ok (.areturn, 1) := by decide +kernel
theorem dX5_spelling_35 : decode cX5_spelling 35 = .ok (.ldc 53, 2) := by decide +kernel
theorem dX5_spelling_37 : decode cX5_spelling 37 = .ok (.areturn, 1) := by decide +kernel
theorem dX5_spelling_38 : decode cX5_spelling 38 = .ok (.ldc 55, 2) := by decide +kernel
theorem dX5_spelling_40 : decode cX5_spelling 40 = .ok (.areturn, 1) := by decide +kernel
theorem dX5_spelling_41 : decode cX5_spelling 41 = .ok (.ldc 57, 2) := by decide +kernel
theorem dX5_spelling_43 : decode cX5_spelling 43 = .ok (.areturn, 1) := by decide +kernel
theorem dX5_spelling_44 : decode cX5_spelling 44 = .ok (.ldc 59, 2) := by decide +kernel
theorem dX5_spelling_46 : decode cX5_spelling 46 = .ok (.areturn, 1) := by decide +kernel
theorem dX5_readWord_0 : decode cX5_readWord 0 = .ok (.iconst 0, 1) := by decide +kernel
theorem dX5_readWord_1 : decode cX5_readWord 1 = .ok (.istore_n 1, 1) := by decide +kernel
theorem dX5_readWord_2 : decode cX5_readWord 2 = .ok (.iconst 0, 1) := by decide +kernel
theorem dX5_readWord_3 : decode cX5_readWord 3 = .ok (.istore_n 2, 1) := by decide +kernel
theorem dX5_readWord_4 : decode cX5_readWord 4 = .ok (.iload_n 2, 1) := by decide +kernel
theorem dX5_readWord_5 : decode cX5_readWord 5 = .ok (.iconst 5, 1) := by decide +kernel
theorem dX5_readWord_6 : decode cX5_readWord 6 = .ok (.if_icmp .ge 96, 3) := by decide +kernel
theorem dX5_readWord_9 : decode cX5_readWord 9 = .ok (.iload_n 2, 1) := by decide +kernel
theorem dX5_readWord_10 : decode cX5_readWord 10 = .ok (.invokestatic 61, 3) := by decide +kernel
theorem dX5_readWord_13 : decode cX5_readWord 13 = .ok (.astore_n 3, 1) := by decide +kernel
theorem dX5_readWord_14 : decode cX5_readWord 14 = .ok (.iconst 0, 1) := by decide +kernel
theorem dX5_readWord_15 : decode cX5_readWord 15 = .ok (.istore 4, 2) := by decide +kernel
theorem dX5_readWord_17 : decode cX5_readWord 17 = .ok (.iload 4, 2) := by decide +kernel
theorem dX5_readWord_19 : decode cX5_readWord 19 = .ok (.aload_n 3, 1) := by decide +kernel
theorem dX5_readWord_20 : decode cX5_readWord 20 = .ok (.invokevirtual 65, 3) := by decide +kernel
theorem dX5_readWord_23 : decode cX5_readWord 23 = .ok (.if_icmp .ge 44, 3) := by decide +kernel
theorem dX5_readWord_26 : decode cX5_readWord 26 = .ok (.aload_n 0, 1) := by decide +kernel
theorem dX5_readWord_27 : decode cX5_readWord 27 = .ok (.getfield 24, 3) := by decide +kernel
theorem dX5_readWord_30 : decode cX5_readWord 30 = .ok (.iload 4, 2) := by decide +kernel
theorem dX5_readWord_32 : decode cX5_readWord 32 = .ok (.iadd, 1) := by decide +kernel
theorem dX5_readWord_33 : decode cX5_readWord 33 = .ok (.aload_n 0, 1) := by decide +kernel
theorem dX5_readWord_34 : decode cX5_readWord 34 = .ok (.getfield 15, 3) := by decide +kernel
theorem dX5_readWord_37 : decode cX5_readWord 37 = .ok (.if_icmp .ge 30, 3) := by decide +kernel
theorem dX5_readWord_40 : decode cX5_readWord 40 = .ok (.aload_n 0, 1) := by decide +kernel
theorem dX5_readWord_41 : decode cX5_readWord 41 = .ok (.getfield 9, 3) := by decide +kernel
theorem dX5_readWord_44 : decode cX5_readWord 44 = .ok (.aload_n 0, 1) := by decide +kernel
theorem dX5_readWord_45 : decode cX5_readWord 45 = .ok (.getfield 24, 3) := by decide +kernel
theorem dX5_readWord_48 : decode cX5_readWord 48 = .ok (.iload 4, 2) := by decide +kernel
theorem dX5_readWord_50 : decode cX5_readWord 50 = .ok (.iadd, 1) := by decide +kernel
theorem dX5_readWord_51 : decode cX5_readWord 51 = .ok (.iaload, 1) := by decide +kernel
theorem dX5_readWord_52 : decode cX5_readWord 52 = .ok (.aload_n 3, 1) := by decide +kernel
theorem dX5_readWord_53 : decode cX5_readWord 53 = .ok (.iload 4, 2) := by decide +kernel
theorem dX5_readWord_55 : decode cX5_readWord 55 = .ok (.invokevirtual 69, 3) := by decide +kernel
theorem dX5_readWord_58 : decode cX5_readWord 58 = .ok (.if_icmp .ne 9, 3) := by decide +kernel
theorem dX5_readWord_61 : decode cX5_readWord 61 = .ok (.iinc 4 1, 3) := by decide +kernel
theorem dX5_readWord_64 : decode cX5_readWord 64 = .ok (.goto (-47), 3) := by decide +kernel
theorem dX5_readWord_67 : decode cX5_readWord 67 = .ok (.iload 4, 2) := by decide +kernel
theorem dX5_readWord_69 : decode cX5_readWord 69 = .ok (.aload_n 3, 1) := by decide +kernel
theorem dX5_readWord_70 : decode cX5_readWord 70 = .ok (.invokevirtual 65, 3) := by decide +kernel
theorem dX5_readWord_73 : decode cX5_readWord 73 = .ok (.if_icmp .ne 16, 3) := by decide +kernel
theorem dX5_readWord_76 : decode cX5_readWord 76 = .ok (.aload_n 0, 1) := by decide +kernel
theorem dX5_readWord_77 : decode cX5_readWord 77 = .ok (.dup, 1) := by decide +kernel
theorem dX5_readWord_78 : decode cX5_readWord 78 = .ok (.getfield 24, 3) := by decide +kernel
theorem dX5_readWord_81 : decode cX5_readWord 81 = .ok (.iload 4, 2) := by decide +kernel
theorem dX5_readWord_83 : decode cX5_readWord 83 = .ok (.iadd, 1) := by decide +kernel
theorem dX5_readWord_84 : decode cX5_readWord 84 = .ok (.putfield 24, 3) := by decide +kernel
theorem dX5_readWord_87 : decode cX5_readWord 87 = .ok (.iload_n 2, 1) := by decide +kernel
theorem dX5_readWord_88 : decode cX5_readWord 88 = .ok (.ireturn, 1) := by decide +kernel
theorem dX5_readWord_89 : decode cX5_readWord 89 = .ok (.iload_n 1, 1) := by decide +kernel
theorem dX5_readWord_90 : decode cX5_readWord 90 = .ok (.iload 4, 2) := by decide +kernel
theorem dX5_readWord_92 : decode cX5_readWord 92 = .ok (.invokestatic 73, 3) := by decide +kernel
theorem dX5_readWord_95 : decode cX5_readWord 95 = .ok (.istore_n 1, 1) := by decide +kernel
theorem dX5_readWord_96 : decode cX5_readWord 96 = .ok (.iinc 2 1, 3) := by decide +kernel
theorem dX5_readWord_99 : decode cX5_readWord 99 = .ok (.goto (-95), 3) := by decide +kernel
theorem dX5_readWord_102 : decode cX5_readWord 102 = .ok (.aload_n 0, 1) := by decide +kernel
theorem dX5_readWord_103 : decode cX5_readWord 103 = .ok (.dup, 1) := by decide +kernel
theorem dX5_readWord_104 : decode cX5_readWord 104 = .ok (.getfield 24, 3) := by decide +kernel
theorem dX5_readWord_107 : decode cX5_readWord 107 = .ok (.iload_n 1, 1) := by decide +kernel
theorem dX5_readWord_108 : decode cX5_readWord 108 = .ok (.iadd, 1) := by decide +kernel
theorem dX5_readWord_109 : decode cX5_readWord 109 = .ok (.putfield 24, 3) := by decide +kernel
theorem dX5_readWord_112 : decode cX5_readWord 112 = .ok (.iconst (-1), 1) := by decide +kernel
theorem dX5_readWord_113 : decode cX5_readWord 113 = .ok (.ireturn, 1) := by decide +kernel
theorem dX5_readNumber_0 : decode cX5_readNumber 0 = .ok (.iconst (-1), 1) := by decide +kernel
theorem dX5_readNumber_1 : decode cX5_readNumber 1 = .ok (.istore_n 2, 1) := by decide +kernel
theorem dX5_readNumber_2 : decode cX5_readNumber 2 = .ok (.iconst 0, 1) := by decide +kernel
theorem dX5_readNumber_3 : decode cX5_readNumber 3 = .ok (.istore_n 3, 1) := by decide +kernel
theorem dX5_readNumber_4 : decode cX5_readNumber 4 = .ok (.iload_n 3, 1) := by decide +kernel
theorem dX5_readNumber_5 : decode cX5_readNumber 5 = .ok (.iload_n 1, 1) := by decide +kernel
theorem dX5_readNumber_6 : decode cX5_readNumber 6 = .ok (.if_icmp .ge 80, 3) := by decide +kernel
theorem dX5_readNumber_9 : decode cX5_readNumber 9 = .ok (.aload_n 0, 1) := by decide +kernel
theorem dX5_readNumber_10 : decode cX5_readNumber 10 = .ok (.getfield 24, 3) := by decide +kernel
theorem dX5_readNumber_13 : decode cX5_readNumber 13 = .ok (.aload_n 0, 1) := by decide +kernel
theorem dX5_readNumber_14 : decode cX5_readNumber 14 = .ok (.getfield 15, 3) := by decide +kernel
theorem dX5_readNumber_17 : decode cX5_readNumber 17 = .ok (.if_icmp .ge 69, 3) := by decide +kernel
theorem dX5_readNumber_20 : decode cX5_readNumber 20 = .ok (.aload_n 0, 1) := by decide +kernel
theorem dX5_readNumber_21 : decode cX5_readNumber 21 = .ok (.getfield 9, 3) := by decide +kernel
theorem dX5_readNumber_24 : decode cX5_readNumber 24 = .ok (.aload_n 0, 1) := by decide +kernel
theorem dX5_readNumber_25 : decode cX5_readNumber 25 = .ok (.getfield 24, 3) := by decide +kernel
theorem dX5_readNumber_28 : decode cX5_readNumber 28 = .ok (.iaload, 1) := by decide +kernel
theorem dX5_readNumber_29 : decode cX5_readNumber 29 = .ok (.bipush 48, 2) := by decide +kernel
theorem dX5_readNumber_31 : decode cX5_readNumber 31 = .ok (.if_icmp .lt 55, 3) := by decide +kernel
theorem dX5_readNumber_34 : decode cX5_readNumber 34 = .ok (.aload_n 0, 1) := by decide +kernel
theorem dX5_readNumber_35 : decode cX5_readNumber 35 = .ok (.getfield 9, 3) := by decide +kernel
theorem dX5_readNumber_38 : decode cX5_readNumber 38 = .ok (.aload_n 0, 1) := by decide +kernel
theorem dX5_readNumber_39 : decode cX5_readNumber 39 = .ok (.getfield 24, 3) := by decide +kernel
theorem dX5_readNumber_42 : decode cX5_readNumber 42 = .ok (.iaload, 1) := by decide +kernel
theorem dX5_readNumber_43 : decode cX5_readNumber 43 = .ok (.bipush 57, 2) := by decide +kernel
theorem dX5_readNumber_45 : decode cX5_readNumber 45 = .ok (.if_icmp .gt 41, 3) := by decide +kernel
theorem dX5_readNumber_48 : decode cX5_readNumber 48 = .ok (.iload_n 2, 1) := by decide +kernel
theorem dX5_readNumber_49 : decode cX5_readNumber 49 = .ok (.iconst 0, 1) := by decide +kernel
theorem dX5_readNumber_50 : decode cX5_readNumber 50 = .ok (.invokestatic 73, 3) := by decide +kernel
theorem dX5_readNumber_53 : decode cX5_readNumber 53 = .ok (.bipush 10, 2) := by decide +kernel
theorem dX5_readNumber_55 : decode cX5_readNumber 55 = .ok (.imul, 1) := by decide +kernel
theorem dX5_readNumber_56 : decode cX5_readNumber 56 = .ok (.aload_n 0, 1) := by decide +kernel
theorem dX5_readNumber_57 : decode cX5_readNumber 57 = .ok (.getfield 9, 3) := by decide +kernel
theorem dX5_readNumber_60 : decode cX5_readNumber 60 = .ok (.aload_n 0, 1) := by decide +kernel
theorem dX5_readNumber_61 : decode cX5_readNumber 61 = .ok (.getfield 24, 3) := by decide +kernel
theorem dX5_readNumber_64 : decode cX5_readNumber 64 = .ok (.iaload, 1) := by decide +kernel
theorem dX5_readNumber_65 : decode cX5_readNumber 65 = .ok (.iadd, 1) := by decide +kernel
theorem dX5_readNumber_66 : decode cX5_readNumber 66 = .ok (.bipush 48, 2) := by decide +kernel
theorem dX5_readNumber_68 : decode cX5_readNumber 68 = .ok (.isub, 1) := by decide +kernel
theorem dX5_readNumber_69 : decode cX5_readNumber 69 = .ok (.istore_n 2, 1) := by decide +kernel
theorem dX5_readNumber_70 : decode cX5_readNumber 70 = .ok (.aload_n 0, 1) := by decide +kernel
theorem dX5_readNumber_71 : decode cX5_readNumber 71 = .ok (.dup, 1) := by decide +kernel
theorem dX5_readNumber_72 : decode cX5_readNumber 72 = .ok (.getfield 24, 3) := by decide +kernel
theorem dX5_readNumber_75 : decode cX5_readNumber 75 = .ok (.iconst 1, 1) := by decide +kernel
theorem dX5_readNumber_76 : decode cX5_readNumber 76 = .ok (.iadd, 1) := by decide +kernel
theorem dX5_readNumber_77 : decode cX5_readNumber 77 = .ok (.putfield 24, 3) := by decide +kernel
theorem dX5_readNumber_80 : decode cX5_readNumber 80 = .ok (.iinc 3 1, 3) := by decide +kernel
theorem dX5_readNumber_83 : decode cX5_readNumber 83 = .ok (.goto (-79), 3) := by decide +kernel
theorem dX5_readNumber_86 : decode cX5_readNumber 86 = .ok (.iload_n 2, 1) := by decide +kernel
theorem dX5_readNumber_87 : decode cX5_readNumber 87 = .ok (.ireturn, 1) := by decide +kernel
theorem dX5_readEither_0 : decode cX5_readEither 0 = .ok (.aload_n 0, 1) := by decide +kernel
theorem dX5_readEither_1 : decode cX5_readEither 1 = .ok (.aload_n 1, 1) := by decide +kernel
theorem dX5_readEither_2 : decode cX5_readEither 2 = .ok (.iload_n 2, 1) := by decide +kernel
theorem dX5_readEither_3 : decode cX5_readEither 3 = .ok (.invokevirtual 79, 3) := by decide +kernel
theorem dX5_readEither_6 : decode cX5_readEither 6 = .ok (.ifCond .ne 5, 3) := by decide +kernel
theorem dX5_readEither_9 : decode cX5_readEither 9 = .ok (.iconst 0, 1) := by decide +kernel
theorem dX5_readEither_10 : decode cX5_readEither 10 = .ok (.ireturn, 1) := by decide +kernel
theorem dX5_readEither_11 : decode cX5_readEither 11 = .ok (.iconst 0, 1) := by decide +kernel
theorem dX5_readEither_12 : decode cX5_readEither 12 = .ok (.istore_n 3, 1) := by decide +kernel
theorem dX5_readEither_13 : decode cX5_readEither 13 = .ok (.iload_n 3, 1) := by decide +kernel
theorem dX5_readEither_14 : decode cX5_readEither 14 = .ok (.bipush 100, 2) := by decide +kernel
theorem dX5_readEither_16 : decode cX5_readEither 16 = .ok (.if_icmp .ge 35, 3) := by decide +kernel
theorem dX5_readEither_19 : decode cX5_readEither 19 = .ok (.aload_n 0, 1) := by decide +kernel
theorem dX5_readEither_20 : decode cX5_readEither 20 = .ok (.bipush 124, 2) := by decide +kernel
theorem dX5_readEither_22 : decode cX5_readEither 22 = .ok (.invokevirtual 31, 3) := by decide +kernel
theorem dX5_readEither_25 : decode cX5_readEither 25 = .ok (.ifCond .eq 26, 3) := by decide +kernel
theorem dX5_readEither_28 : decode cX5_readEither 28 = .ok (.aload_n 0, 1) := by decide +kernel
theorem dX5_readEither_29 : decode cX5_readEither 29 = .ok (.aload_n 1, 1) := by decide +kernel
theorem dX5_readEither_30 : decode cX5_readEither 30 = .ok (.iload_n 2, 1) := by decide +kernel
theorem dX5_readEither_31 : decode cX5_readEither 31 = .ok (.invokevirtual 79, 3) := by decide +kernel
theorem dX5_readEither_34 : decode cX5_readEither 34 = .ok (.ifCond .ne 5, 3) := by decide +kernel
theorem dX5_readEither_37 : decode cX5_readEither 37 = .ok (.iconst 0, 1) := by decide +kernel
theorem dX5_readEither_38 : decode cX5_readEither 38 = .ok (.ireturn, 1) := by decide +kernel
theorem dX5_readEither_39 : decode cX5_readEither 39 = .ok (.aload_n 1, 1) := by decide +kernel
theorem dX5_readEither_40 : decode cX5_readEither 40 = .ok (.bipush (-2), 2) := by decide +kernel
theorem dX5_readEither_42 : decode cX5_readEither 42 = .ok (.invokevirtual 82, 3) := by decide +kernel
theorem dX5_readEither_45 : decode cX5_readEither 45 = .ok (.iinc 3 1, 3) := by decide +kernel
theorem dX5_readEither_48 : decode cX5_readEither 48 = .ok (.goto (-35), 3) := by decide +kernel
theorem dX5_readEither_51 : decode cX5_readEither 51 = .ok (.iconst 1, 1) := by decide +kernel
theorem dX5_readEither_52 : decode cX5_readEither 52 = .ok (.ireturn, 1) := by decide +kernel
theorem dX5_readAll_0 : decode cX5_readAll 0 = .ok (.aload_n 0, 1) := by decide +kernel
theorem dX5_readAll_1 : decode cX5_readAll 1 = .ok (.aload_n 1, 1) := by decide +kernel
theorem dX5_readAll_2 : decode cX5_readAll 2 = .ok (.iload_n 2, 1) := by decide +kernel
theorem dX5_readAll_3 : decode cX5_readAll 3 = .ok (.invokevirtual 86, 3) := by decide +kernel
theorem dX5_readAll_6 : decode cX5_readAll 6 = .ok (.ifCond .ne 5, 3) := by decide +kernel
theorem dX5_readAll_9 : decode cX5_readAll 9 = .ok (.iconst 0, 1) := by decide +kernel
theorem dX5_readAll_10 : decode cX5_readAll 10 = .ok (.ireturn, 1) := by decide +kernel
theorem dX5_readAll_11 : decode cX5_readAll 11 = .ok (.iconst 0, 1) := by decide +kernel
theorem dX5_readAll_12 : decode cX5_readAll 12 = .ok (.istore_n 3, 1) := by decide +kernel
theorem dX5_readAll_13 : decode cX5_readAll 13 = .ok (.iload_n 3, 1) := by decide +kernel
theorem dX5_readAll_14 : decode cX5_readAll 14 = .ok (.bipush 100, 2) := by decide +kernel
theorem dX5_readAll_16 : decode cX5_readAll 16 = .ok (.if_icmp .ge 34, 3) := by decide +kernel
theorem dX5_readAll_19 : decode cX5_readAll 19 = .ok (.aload_n 0, 1) := by decide +kernel
theorem dX5_readAll_20 : decode cX5_readAll 20 = .ok (.bipush 38, 2) := by decide +kernel
theorem dX5_readAll_22 : decode cX5_readAll 22 = .ok (.invokevirtual 31, 3) := by decide +kernel
theorem dX5_readAll_25 : decode cX5_readAll 25 = .ok (.ifCond .eq 25, 3) := by decide +kernel
theorem dX5_readAll_28 : decode cX5_readAll 28 = .ok (.aload_n 0, 1) := by decide +kernel
theorem dX5_readAll_29 : decode cX5_readAll 29 = .ok (.aload_n 1, 1) := by decide +kernel
theorem dX5_readAll_30 : decode cX5_readAll 30 = .ok (.iload_n 2, 1) := by decide +kernel
theorem dX5_readAll_31 : decode cX5_readAll 31 = .ok (.invokevirtual 86, 3) := by decide +kernel
theorem dX5_readAll_34 : decode cX5_readAll 34 = .ok (.ifCond .ne 5, 3) := by decide +kernel
theorem dX5_readAll_37 : decode cX5_readAll 37 = .ok (.iconst 0, 1) := by decide +kernel
theorem dX5_readAll_38 : decode cX5_readAll 38 = .ok (.ireturn, 1) := by decide +kernel
theorem dX5_readAll_39 : decode cX5_readAll 39 = .ok (.aload_n 1, 1) := by decide +kernel
theorem dX5_readAll_40 : decode cX5_readAll 40 = .ok (.iconst (-1), 1) := by decide +kernel
theorem dX5_readAll_41 : decode cX5_readAll 41 = .ok (.invokevirtual 82, 3) := by decide +kernel
theorem dX5_readAll_44 : decode cX5_readAll 44 = .ok (.iinc 3 1, 3) := by decide +kernel
theorem dX5_readAll_47 : decode cX5_readAll 47 = .ok (.goto (-34), 3) := by decide +kernel
theorem dX5_readAll_50 : decode cX5_readAll 50 = .ok (.iconst 1, 1) := by decide +kernel
theorem dX5_readAll_51 : decode cX5_readAll 51 = .ok (.ireturn, 1) := by decide +kernel
theorem dX5_readOne_0 : decode cX5_readOne 0 = .ok (.aload_n 0, 1) := by decide +kernel
theorem dX5_readOne_1 : decode cX5_readOne 1 = .ok (.getfield 24, 3) := by decide +kernel
theorem dX5_readOne_4 : decode cX5_readOne 4 = .ok (.aload_n 0, 1) := by decide +kernel
theorem dX5_readOne_5 : decode cX5_readOne 5 = .ok (.getfield 15, 3) := by decide +kernel
theorem dX5_readOne_8 : decode cX5_readOne 8 = .ok (.if_icmp .ge 15, 3) := by decide +kernel
theorem dX5_readOne_11 : decode cX5_readOne 11 = .ok (.aload_n 0, 1) := by decide +kernel
theorem dX5_readOne_12 : decode cX5_readOne 12 = .ok (.getfield 9, 3) := by decide +kernel
theorem dX5_readOne_15 : decode cX5_readOne 15 = .ok (.aload_n 0, 1) := by decide +kernel
theorem dX5_readOne_16 : decode cX5_readOne 16 = .ok (.getfield 24, 3) := by decide +kernel
theorem dX5_readOne_19 : decode cX5_readOne 19 = .ok (.iaload, 1) := by decide +kernel
theorem dX5_readOne_20 : decode cX5_readOne 20 = .ok (.goto 4, 3) := by decide +kernel
theorem dX5_readOne_23 : decode cX5_readOne 23 = .ok (.iconst (-1), 1) := by decide +kernel
theorem dX5_readOne_24 : decode cX5_readOne 24 = .ok (.istore_n 3, 1) := by decide +kernel
theorem dX5_readOne_25 : decode cX5_readOne 25 = .ok (.iload_n 3, 1) := by decide +kernel
theorem dX5_readOne_26 : decode cX5_readOne 26 = .ok (.bipush 33, 2) := by decide +kernel
theorem dX5_readOne_28 : decode cX5_readOne 28 = .ok (.if_icmp .eq 15, 3) := by decide +kernel
theorem dX5_readOne_31 : decode cX5_readOne 31 = .ok (.iload_n 3, 1) := by decide +kernel
theorem dX5_readOne_32 : decode cX5_readOne 32 = .ok (.bipush 40, 2) := by decide +kernel
theorem dX5_readOne_34 : decode cX5_readOne 34 = .ok (.if_icmp .eq 9, 3) := by decide +kernel
theorem dX5_readOne_37 : decode cX5_readOne 37 = .ok (.aload_n 0, 1) := by decide +kernel
theorem dX5_readOne_38 : decode cX5_readOne 38 = .ok (.aload_n 1, 1) := by decide +kernel
theorem dX5_readOne_39 : decode cX5_readOne 39 = .ok (.invokevirtual 89, 3) := by decide +kernel
theorem dX5_readOne_42 : decode cX5_readOne 42 = .ok (.ireturn, 1) := by decide +kernel
theorem dX5_readOne_43 : decode cX5_readOne 43 = .ok (.iload_n 2, 1) := by decide +kernel
theorem dX5_readOne_44 : decode cX5_readOne 44 = .ok (.iconst 4, 1) := by decide +kernel
theorem dX5_readOne_45 : decode cX5_readOne 45 = .ok (.if_icmp .lt 5, 3) := by decide +kernel
theorem dX5_readOne_48 : decode cX5_readOne 48 = .ok (.iconst 0, 1) := by decide +kernel
theorem dX5_readOne_49 : decode cX5_readOne 49 = .ok (.ireturn, 1) := by decide +kernel
theorem dX5_readOne_50 : decode cX5_readOne 50 = .ok (.aload_n 0, 1) := by decide +kernel
theorem dX5_readOne_51 : decode cX5_readOne 51 = .ok (.dup, 1) := by decide +kernel
theorem dX5_readOne_52 : decode cX5_readOne 52 = .ok (.getfield 24, 3) := by decide +kernel
theorem dX5_readOne_55 : decode cX5_readOne 55 = .ok (.iconst 1, 1) := by decide +kernel
theorem dX5_readOne_56 : decode cX5_readOne 56 = .ok (.iadd, 1) := by decide +kernel
theorem dX5_readOne_57 : decode cX5_readOne 57 = .ok (.putfield 24, 3) := by decide +kernel
theorem dX5_readOne_60 : decode cX5_readOne 60 = .ok (.iload_n 3, 1) := by decide +kernel
theorem dX5_readOne_61 : decode cX5_readOne 61 = .ok (.bipush 40, 2) := by decide +kernel
theorem dX5_readOne_63 : decode cX5_readOne 63 = .ok (.if_icmp .ne 29, 3) := by decide +kernel
theorem dX5_readOne_66 : decode cX5_readOne 66 = .ok (.aload_n 0, 1) := by decide +kernel
theorem dX5_readOne_67 : decode cX5_readOne 67 = .ok (.aload_n 1, 1) := by decide +kernel
theorem dX5_readOne_68 : decode cX5_readOne 68 = .ok (.iload_n 2, 1) := by decide +kernel
theorem dX5_readOne_69 : decode cX5_readOne 69 = .ok (.iconst 1, 1) := by decide +kernel
theorem dX5_readOne_70 : decode cX5_readOne 70 = .ok (.iadd, 1) := by decide +kernel
theorem dX5_readOne_71 : decode cX5_readOne 71 = .ok (.invokevirtual 43, 3) := by decide +kernel
theorem dX5_readOne_74 : decode cX5_readOne 74 = .ok (.ifCond .eq 16, 3) := by decide +kernel
theorem dX5_readOne_77 : decode cX5_readOne 77 = .ok (.aload_n 0, 1) := by decide +kernel
theorem dX5_readOne_78 : decode cX5_readOne 78 = .ok (.bipush 41, 2) := by decide +kernel
theorem dX5_readOne_80 : decode cX5_readOne 80 = .ok (.invokevirtual 31, 3) := by decide +kernel
theorem dX5_readOne_83 : decode cX5_readOne 83 = .ok (.ifCond .eq 7, 3) := by decide +kernel
theorem dX5_readOne_86 : decode cX5_readOne 86 = .ok (.iconst 1, 1) := by decide +kernel
theorem dX5_readOne_87 : decode cX5_readOne 87 = .ok (.goto 4, 3) := by decide +kernel
theorem dX5_readOne_90 : decode cX5_readOne 90 = .ok (.iconst 0, 1) := by decide +kernel
theorem dX5_readOne_91 : decode cX5_readOne 91 = .ok (.ireturn, 1) := by decide +kernel
theorem dX5_readOne_92 : decode cX5_readOne 92 = .ok (.aload_n 0, 1) := by decide +kernel
theorem dX5_readOne_93 : decode cX5_readOne 93 = .ok (.aload_n 1, 1) := by decide +kernel
theorem dX5_readOne_94 : decode cX5_readOne 94 = .ok (.iload_n 2, 1) := by decide +kernel
theorem dX5_readOne_95 : decode cX5_readOne 95 = .ok (.iconst 1, 1) := by decide +kernel
theorem dX5_readOne_96 : decode cX5_readOne 96 = .ok (.iadd, 1) := by decide +kernel
theorem dX5_readOne_97 : decode cX5_readOne 97 = .ok (.invokevirtual 86, 3) := by decide +kernel
theorem dX5_readOne_100 : decode cX5_readOne 100 = .ok (.ifCond .ne 5, 3) := by decide +kernel
theorem dX5_readOne_103 : decode cX5_readOne 103 = .ok (.iconst 0, 1) := by decide +kernel
theorem dX5_readOne_104 : decode cX5_readOne 104 = .ok (.ireturn, 1) := by decide +kernel
theorem dX5_readOne_105 : decode cX5_readOne 105 = .ok (.aload_n 1, 1) := by decide +kernel
theorem dX5_readOne_106 : decode cX5_readOne 106 = .ok (.bipush (-3), 2) := by decide +kernel
theorem dX5_readOne_108 : decode cX5_readOne 108 = .ok (.invokevirtual 82, 3) := by decide +kernel
theorem dX5_readOne_111 : decode cX5_readOne 111 = .ok (.iconst 1, 1) := by decide +kernel
theorem dX5_readOne_112 : decode cX5_readOne 112 = .ok (.ireturn, 1) := by decide +kernel
theorem dX5_readTest_0 : decode cX5_readTest 0 = .ok (.aload_n 0, 1) := by decide +kernel
theorem dX5_readTest_1 : decode cX5_readTest 1 = .ok (.ldc 92, 2) := by decide +kernel
theorem dX5_readTest_3 : decode cX5_readTest 3 = .ok (.invokevirtual 94, 3) := by decide +kernel
theorem dX5_readTest_6 : decode cX5_readTest 6 = .ok (.istore_n 2, 1) := by decide +kernel
theorem dX5_readTest_7 : decode cX5_readTest 7 = .ok (.iload_n 2, 1) := by decide +kernel
theorem dX5_readTest_8 : decode cX5_readTest 8 = .ok (.ifCond .ge 5, 3) := by decide +kernel
theorem dX5_readTest_11 : decode cX5_readTest 11 = .ok (.iconst 0, 1) := by decide +kernel
theorem dX5_readTest_12 : decode cX5_readTest 12 = .ok (.ireturn, 1) := by decide +kernel
theorem dX5_readTest_13 : decode cX5_readTest 13 = .ok (.aload_n 0, 1) := by decide +kernel
theorem dX5_readTest_14 : decode cX5_readTest 14 = .ok (.ldc 98, 2) := by decide +kernel
theorem dX5_readTest_16 : decode cX5_readTest 16 = .ok (.invokevirtual 94, 3) := by decide +kernel
theorem dX5_readTest_19 : decode cX5_readTest 19 = .ok (.istore_n 3, 1) := by decide +kernel
theorem dX5_readTest_20 : decode cX5_readTest 20 = .ok (.iload_n 3, 1) := by decide +kernel
theorem dX5_readTest_21 : decode cX5_readTest 21 = .ok (.ifCond .ge 5, 3) := by decide +kernel
theorem dX5_readTest_24 : decode cX5_readTest 24 = .ok (.iconst 0, 1) := by decide +kernel
theorem dX5_readTest_25 : decode cX5_readTest 25 = .ok (.ireturn, 1) := by decide +kernel
theorem dX5_readTest_26 : decode cX5_readTest 26 = .ok (.aload_n 0, 1) := by decide +kernel
theorem dX5_readTest_27 : decode cX5_readTest 27 = .ok (.iconst 2, 1) := by decide +kernel
theorem dX5_readTest_28 : decode cX5_readTest 28 = .ok (.invokevirtual 39, 3) := by decide +kernel
theorem dX5_readTest_31 : decode cX5_readTest 31 = .ok (.istore 4, 2) := by decide +kernel
theorem dX5_readTest_33 : decode cX5_readTest 33 = .ok (.iload 4, 2) := by decide +kernel
theorem dX5_readTest_35 : decode cX5_readTest 35 = .ok (.ifCond .ge 5, 3) := by decide +kernel
theorem dX5_readTest_38 : decode cX5_readTest 38 = .ok (.iconst 0, 1) := by decide +kernel
theorem dX5_readTest_39 : decode cX5_readTest 39 = .ok (.ireturn, 1) := by decide +kernel
theorem dX5_readTest_40 : decode cX5_readTest 40 = .ok (.aload_n 1, 1) := by decide +kernel
theorem dX5_readTest_41 : decode cX5_readTest 41 = .ok (.iload_n 2, 1) := by decide +kernel
theorem dX5_readTest_42 : decode cX5_readTest 42 = .ok (.iload_n 3, 1) := by decide +kernel
theorem dX5_readTest_43 : decode cX5_readTest 43 = .ok (.iload 4, 2) := by decide +kernel
theorem dX5_readTest_45 : decode cX5_readTest 45 = .ok (.invokestatic 100, 3) := by decide +kernel
theorem dX5_readTest_48 : decode cX5_readTest 48 = .ok (.invokevirtual 82, 3) := by decide +kernel
theorem dX5_readTest_51 : decode cX5_readTest 51 = .ok (.iconst 1, 1) := by decide +kernel
theorem dX5_readTest_52 : decode cX5_readTest 52 = .ok (.ireturn, 1) := by decide +kernel
theorem dX5_readSign_0 : decode cX5_readSign 0 = .ok (.iconst 0, 1) := by decide +kernel
theorem dX5_readSign_1 : decode cX5_readSign 1 = .ok (.istore_n 2, 1) := by decide +kernel
theorem dX5_readSign_2 : decode cX5_readSign 2 = .ok (.iload_n 2, 1) := by decide +kernel
theorem dX5_readSign_3 : decode cX5_readSign 3 = .ok (.aload_n 1, 1) := by decide +kernel
theorem dX5_readSign_4 : decode cX5_readSign 4 = .ok (.invokevirtual 65, 3) := by decide +kernel
theorem dX5_readSign_7 : decode cX5_readSign 7 = .ok (.if_icmp .ge 49, 3) := by decide +kernel
theorem dX5_readSign_10 : decode cX5_readSign 10 = .ok (.aload_n 0, 1) := by decide +kernel
theorem dX5_readSign_11 : decode cX5_readSign 11 = .ok (.getfield 24, 3) := by decide +kernel
theorem dX5_readSign_14 : decode cX5_readSign 14 = .ok (.aload_n 0, 1) := by decide +kernel
theorem dX5_readSign_15 : decode cX5_readSign 15 = .ok (.getfield 15, 3) := by decide +kernel
theorem dX5_readSign_18 : decode cX5_readSign 18 = .ok (.if_icmp .ge 38, 3) := by decide +kernel
theorem dX5_readSign_21 : decode cX5_readSign 21 = .ok (.aload_n 0, 1) := by decide +kernel
theorem dX5_readSign_22 : decode cX5_readSign 22 = .ok (.getfield 9, 3) := by decide +kernel
theorem dX5_readSign_25 : decode cX5_readSign 25 = .ok (.aload_n 0, 1) := by decide +kernel
theorem dX5_readSign_26 : decode cX5_readSign 26 = .ok (.getfield 24, 3) := by decide +kernel
theorem dX5_readSign_29 : decode cX5_readSign 29 = .ok (.iaload, 1) := by decide +kernel
theorem dX5_readSign_30 : decode cX5_readSign 30 = .ok (.aload_n 1, 1) := by decide +kernel
theorem dX5_readSign_31 : decode cX5_readSign 31 = .ok (.iload_n 2, 1) := by decide +kernel
theorem dX5_readSign_32 : decode cX5_readSign 32 = .ok (.invokevirtual 69, 3) := by decide +kernel
theorem dX5_readSign_35 : decode cX5_readSign 35 = .ok (.if_icmp .ne 15, 3) := by decide +kernel
theorem dX5_readSign_38 : decode cX5_readSign 38 = .ok (.aload_n 0, 1) := by decide +kernel
theorem dX5_readSign_39 : decode cX5_readSign 39 = .ok (.dup, 1) := by decide +kernel
theorem dX5_readSign_40 : decode cX5_readSign 40 = .ok (.getfield 24, 3) := by decide +kernel
theorem dX5_readSign_43 : decode cX5_readSign 43 = .ok (.iconst 1, 1) := by decide +kernel
theorem dX5_readSign_44 : decode cX5_readSign 44 = .ok (.iadd, 1) := by decide +kernel
theorem dX5_readSign_45 : decode cX5_readSign 45 = .ok (.putfield 24, 3) := by decide +kernel
theorem dX5_readSign_48 : decode cX5_readSign 48 = .ok (.iload_n 2, 1) := by decide +kernel
theorem dX5_readSign_49 : decode cX5_readSign 49 = .ok (.ireturn, 1) := by decide +kernel
theorem dX5_readSign_50 : decode cX5_readSign 50 = .ok (.iinc 2 1, 3) := by decide +kernel
theorem dX5_readSign_53 : decode cX5_readSign 53 = .ok (.goto (-51), 3) := by decide +kernel
theorem dX5_readSign_56 : decode cX5_readSign 56 = .ok (.iconst (-1), 1) := by decide +kernel
theorem dX5_readSign_57 : decode cX5_readSign 57 = .ok (.ireturn, 1) := by decide +kernel
theorem dX5_eats_0 : decode cX5_eats 0 = .ok (.aload_n 0, 1) := by decide +kernel
theorem dX5_eats_1 : decode cX5_eats 1 = .ok (.getfield 24, 3) := by decide +kernel
theorem dX5_eats_4 : decode cX5_eats 4 = .ok (.aload_n 0, 1) := by decide +kernel
theorem dX5_eats_5 : decode cX5_eats 5 = .ok (.getfield 15, 3) := by decide +kernel
theorem dX5_eats_8 : decode cX5_eats 8 = .ok (.if_icmp .ge 28, 3) := by decide +kernel
theorem dX5_eats_11 : decode cX5_eats 11 = .ok (.aload_n 0, 1) := by decide +kernel
theorem dX5_eats_12 : decode cX5_eats 12 = .ok (.getfield 9, 3) := by decide +kernel
theorem dX5_eats_15 : decode cX5_eats 15 = .ok (.aload_n 0, 1) := by decide +kernel
theorem dX5_eats_16 : decode cX5_eats 16 = .ok (.getfield 24, 3) := by decide +kernel
theorem dX5_eats_19 : decode cX5_eats 19 = .ok (.iaload, 1) := by decide +kernel
theorem dX5_eats_20 : decode cX5_eats 20 = .ok (.iload_n 1, 1) := by decide +kernel
theorem dX5_eats_21 : decode cX5_eats 21 = .ok (.if_icmp .ne 15, 3) := by decide +kernel
theorem dX5_eats_24 : decode cX5_eats 24 = .ok (.aload_n 0, 1) := by decide +kernel
theorem dX5_eats_25 : decode cX5_eats 25 = .ok (.dup, 1) := by decide +kernel
theorem dX5_eats_26 : decode cX5_eats 26 = .ok (.getfield 24, 3) := by decide +kernel
theorem dX5_eats_29 : decode cX5_eats 29 = .ok (.iconst 1, 1) := by decide +kernel
theorem dX5_eats_30 : decode cX5_eats 30 = .ok (.iadd, 1) := by decide +kernel
theorem dX5_eats_31 : decode cX5_eats 31 = .ok (.putfield 24, 3) := by decide +kernel
theorem dX5_eats_34 : decode cX5_eats 34 = .ok (.iconst 1, 1) := by decide +kernel
theorem dX5_eats_35 : decode cX5_eats 35 = .ok (.ireturn, 1) := by decide +kernel
theorem dX5_eats_36 : decode cX5_eats 36 = .ok (.iconst 0, 1) := by decide +kernel
theorem dX5_eats_37 : decode cX5_eats 37 = .ok (.ireturn, 1) := by decide +kernel
theorem dX6_init_0 : decode cX6_init 0 = .ok (.aload_n 0, 1) := by decide +kernel
theorem dX6_init_1 : decode cX6_init 1 = .ok (.invokespecial 3, 3) := by decide +kernel
theorem dX6_init_4 : decode cX6_init 4 = .ok (.aload_n 0, 1) := by decide +kernel
theorem dX6_init_5 : decode cX6_init 5 = .ok (.bipush 64, 2) := by decide +kernel
theorem dX6_init_7 : decode cX6_init 7 = .ok (.newarray .int, 2) := by decide +kernel
theorem dX6_init_9 : decode cX6_init 9 = .ok (.putfield 9, 3) := by decide +kernel
theorem dX6_init_12 : decode cX6_init 12 = .ok (.aload_n 0, 1) := by decide +kernel
theorem dX6_init_13 : decode cX6_init 13 = .ok (.bipush 8, 2) := by decide +kernel
theorem dX6_init_15 : decode cX6_init 15 = .ok (.newarray .int, 2) := by decide +kernel
theorem dX6_init_17 : decode cX6_init 17 = .ok (.putfield 15, 3) := by decide +kernel
theorem dX6_init_20 : decode cX6_init 20 = .ok (.aload_n 0, 1) := by decide +kernel
theorem dX6_init_21 : decode cX6_init 21 = .ok (.bipush 16, 2) := by decide +kernel
theorem dX6_init_23 : decode cX6_init 23 = .ok (.newarray .int, 2) := by decide +kernel
theorem dX6_init_25 : decode cX6_init 25 = .ok (.putfield 18, 3) := by decide +kernel
theorem dX6_init_28 : decode cX6_init 28 = .ok (.aload_n 0, 1) := by decide +kernel
theorem dX6_init_29 : decode cX6_init 29 = .ok (.bipush 16, 2) := by decide +kernel
theorem dX6_init_31 : decode cX6_init 31 = .ok (.newarray .int, 2) := by decide +kernel
theorem dX6_init_33 : decode cX6_init 33 = .ok (.putfield 21, 3) := by decide +kernel
theorem dX6_init_36 : decode cX6_init 36 = .ok (.aload_n 0, 1) := by decide +kernel
theorem dX6_init_37 : decode cX6_init 37 = .ok (.bipush 16, 2) := by decide +kernel
theorem dX6_init_39 : decode cX6_init 39 = .ok (.newarray .int, 2) := by decide +kernel
theorem dX6_init_41 : decode cX6_init 41 = .ok (.putfield 24, 3) := by decide +kernel
theorem dX6_init_44 : decode cX6_init 44 = .ok (.aload_n 0, 1) := by decide +kernel
theorem dX6_init_45 : decode cX6_init 45 = .ok (.bipush 16, 2) := by decide +kernel
theorem dX6_init_47 : decode cX6_init 47 = .ok (.newarray .int, 2) := by decide +kernel
theorem dX6_init_49 : decode cX6_init 49 = .ok (.putfield 27, 3) := by decide +kernel
theorem dX6_init_52 : decode cX6_init 52 = .ok (.aload_n 0, 1) := by decide +kernel
theorem dX6_init_53 : decode cX6_init 53 = .ok (.bipush 16, 2) := by decide +kernel
theorem dX6_init_55 : decode cX6_init 55 = .ok (.newarray .int, 2) := by decide +kernel
theorem dX6_init_57 : decode cX6_init 57 = .ok (.putfield 30, 3) := by decide +kernel
theorem dX6_init_60 : decode cX6_init 60 = .ok (.aload_n 0, 1) := by decide +kernel
theorem dX6_init_61 : decode cX6_init 61 = .ok (.bipush 6, 2) := by decide +kernel
theorem dX6_init_63 : decode cX6_init 63 = .ok (.newarray .int, 2) := by decide +kernel
theorem dX6_init_65 : decode cX6_init 65 = .ok (.putfield 33, 3) := by decide +kernel
theorem dX6_init_68 : decode cX6_init 68 = .ok (.aload_n 0, 1) := by decide +kernel
theorem dX6_init_69 : decode cX6_init 69 = .ok (.aload_n 1, 1) := by decide +kernel
theorem dX6_init_70 : decode cX6_init 70 = .ok (.putfield 36, 3) := by decide +kernel
theorem dX6_init_73 : decode cX6_init 73 = .ok (.aload_n 0, 1) := by decide +kernel
theorem dX6_init_74 : decode cX6_init 74 = .ok (.getfield 15, 3) := by decide +kernel
theorem dX6_init_77 : decode cX6_init 77 = .ok (.bipush (-5), 2) := by decide +kernel
theorem dX6_init_79 : decode cX6_init 79 = .ok (.invokestatic 40, 3) := by decide +kernel
theorem dX6_init_82 : decode cX6_init 82 = .ok (.return_, 1) := by decide +kernel
theorem dX6_become_0 : decode cX6_become 0 = .ok (.aload_n 1, 1) := by decide +kernel
theorem dX6_become_1 : decode cX6_become 1 = .ok (.getfield 9, 3) := by decide +kernel
theorem dX6_become_4 : decode cX6_become 4 = .ok (.iconst 0, 1) := by decide +kernel
theorem dX6_become_5 : decode cX6_become 5 = .ok (.aload_n 0, 1) := by decide +kernel
theorem dX6_become_6 : decode cX6_become 6 = .ok (.getfield 9, 3) := by decide +kernel
theorem dX6_become_9 : decode cX6_become 9 = .ok (.iconst 0, 1) := by decide +kernel
theorem dX6_become_10 : decode cX6_become 10 = .ok (.aload_n 0, 1) := by decide +kernel
theorem dX6_become_11 : decode cX6_become 11 = .ok (.getfield 9, 3) := by decide +kernel
theorem dX6_become_14 : decode cX6_become 14 = .ok (.arraylength, 1) := by decide +kernel
theorem dX6_become_15 : decode cX6_become 15 = .ok (.invokestatic 46, 3) := by decide +kernel
theorem dX6_become_18 : decode cX6_become 18 = .ok (.aload_n 1, 1) := by decide +kernel
theorem dX6_become_19 : decode cX6_become 19 = .ok (.getfield 15, 3) := by decide +kernel
theorem dX6_become_22 : decode cX6_become 22 = .ok (.iconst 0, 1) := by decide +kernel
theorem dX6_become_23 : decode cX6_become 23 = .ok (.aload_n 0, 1) := by decide +kernel
theorem dX6_become_24 : decode cX6_become 24 = .ok (.getfield 15, 3) := by decide +kernel
theorem dX6_become_27 : decode cX6_become 27 = .ok (.iconst 0, 1) := by decide +kernel
theorem dX6_become_28 : decode cX6_become 28 = .ok (.aload_n 0, 1) := by decide +kernel
theorem dX6_become_29 : decode cX6_become 29 = .ok (.getfield 15, 3) := by decide +kernel
theorem dX6_become_32 : decode cX6_become 32 = .ok (.arraylength, 1) := by decide +kernel
theorem dX6_become_33 : decode cX6_become 33 = .ok (.invokestatic 46, 3) := by decide +kernel
theorem dX6_become_36 : decode cX6_become 36 = .ok (.aload_n 0, 1) := by decide +kernel
theorem dX6_become_37 : decode cX6_become 37 = .ok (.aload_n 1, 1) := by decide +kernel
theorem dX6_become_38 : decode cX6_become 38 = .ok (.getfield 36, 3) := by decide +kernel
theorem dX6_become_41 : decode cX6_become 41 = .ok (.putfield 36, 3) := by decide +kernel
theorem dX6_become_44 : decode cX6_become 44 = .ok (.aload_n 1, 1) := by decide +kernel
theorem dX6_become_45 : decode cX6_become 45 = .ok (.getfield 18, 3) := by decide +kernel
theorem dX6_become_48 : decode cX6_become 48 = .ok (.iconst 0, 1) := by decide +kernel
theorem dX6_become_49 : decode cX6_become 49 = .ok (.aload_n 0, 1) := by decide +kernel
theorem dX6_become_50 : decode cX6_become 50 = .ok (.getfield 18, 3) := by decide +kernel
theorem dX6_become_53 : decode cX6_become 53 = .ok (.iconst 0, 1) := by decide +kernel
theorem dX6_become_54 : decode cX6_become 54 = .ok (.aload_n 0, 1) := by decide +kernel
theorem dX6_become_55 : decode cX6_become 55 = .ok (.getfield 18, 3) := by decide +kernel
theorem dX6_become_58 : decode cX6_become 58 = .ok (.arraylength, 1) := by decide +kernel
theorem dX6_become_59 : decode cX6_become 59 = .ok (.invokestatic 46, 3) := by decide +kernel
theorem dX6_become_62 : decode cX6_become 62 = .ok (.aload_n 1, 1) := by decide +kernel
theorem dX6_become_63 : decode cX6_become 63 = .ok (.getfield 21, 3) := by decide +kernel
theorem dX6_become_66 : decode cX6_become 66 = .ok (.iconst 0, 1) := by decide +kernel
theorem dX6_become_67 : decode cX6_become 67 = .ok (.aload_n 0, 1) := by decide +kernel
theorem dX6_become_68 : decode cX6_become 68 = .ok (.getfield 21, 3) := by decide +kernel
theorem dX6_become_71 : decode cX6_become 71 = .ok (.iconst 0, 1) := by decide +kernel
theorem dX6_become_72 : decode cX6_become 72 = .ok (.aload_n 0, 1) := by decide +kernel
theorem dX6_become_73 : decode cX6_become 73 = .ok (.getfield 21, 3) := by decide +kernel
theorem dX6_become_76 : decode cX6_become 76 = .ok (.arraylength, 1) := by decide +kernel
theorem dX6_become_77 : decode cX6_become 77 = .ok (.invokestatic 46, 3) := by decide +kernel
theorem dX6_become_80 : decode cX6_become 80 = .ok (.aload_n 1, 1) := by decide +kernel
theorem dX6_become_81 : decode cX6_become 81 = .ok (.getfield 24, 3) := by decide +kernel
theorem dX6_become_84 : decode cX6_become 84 = .ok (.iconst 0, 1) := by decide +kernel
theorem dX6_become_85 : decode cX6_become 85 = .ok (.aload_n 0, 1) := by decide +kernel
theorem dX6_become_86 : decode cX6_become 86 = .ok (.getfield 24, 3) := by decide +kernel
theorem dX6_become_89 : decode cX6_become 89 = .ok (.iconst 0, 1) := by decide +kernel
theorem dX6_become_90 : decode cX6_become 90 = .ok (.aload_n 0, 1) := by decide +kernel
theorem dX6_become_91 : decode cX6_become 91 = .ok (.getfield 24, 3) := by decide +kernel
theorem dX6_become_94 : decode cX6_become 94 = .ok (.arraylength, 1) := by decide +kernel
theorem dX6_become_95 : decode cX6_become 95 = .ok (.invokestatic 46, 3) := by decide +kernel
theorem dX6_become_98 : decode cX6_become 98 = .ok (.aload_n 1, 1) := by decide +kernel
theorem dX6_become_99 : decode cX6_become 99 = .ok (.getfield 27, 3) := by decide +kernel
theorem dX6_become_102 : decode cX6_become 102 = .ok (.iconst 0, 1) := by decide +kernel
theorem dX6_become_103 : decode cX6_become 103 = .ok (.aload_n 0, 1) := by decide +kernel
theorem dX6_become_104 : decode cX6_become 104 = .ok (.getfield 27, 3) := by decide +kernel
theorem dX6_become_107 : decode cX6_become 107 = .ok (.iconst 0, 1) := by decide +kernel
theorem dX6_become_108 : decode cX6_become 108 = .ok (.aload_n 0, 1) := by decide +kernel
theorem dX6_become_109 : decode cX6_become 109 = .ok (.getfield 27, 3) := by decide +kernel
theorem dX6_become_112 : decode cX6_become 112 = .ok (.arraylength, 1) := by decide +kernel
theorem dX6_become_113 : decode cX6_become 113 = .ok (.invokestatic 46, 3) := by decide +kernel
theorem dX6_become_116 : decode cX6_become 116 = .ok (.aload_n 1, 1) := by decide +kernel
theorem dX6_become_117 : decode cX6_become 117 = .ok (.getfield 30, 3) := by decide +kernel
theorem dX6_become_120 : decode cX6_become 120 = .ok (.iconst 0, 1) := by decide +kernel
theorem dX6_become_121 : decode cX6_become 121 = .ok (.aload_n 0, 1) := by decide +kernel
theorem dX6_become_122 : decode cX6_become 122 = .ok (.getfield 30, 3) := by decide +kernel
theorem dX6_become_125 : decode cX6_become 125 = .ok (.iconst 0, 1) := by decide +kernel
theorem dX6_become_126 : decode cX6_become 126 = .ok (.aload_n 0, 1) := by decide +kernel
theorem dX6_become_127 : decode cX6_become 127 = .ok (.getfield 30, 3) := by decide +kernel
theorem dX6_become_130 : decode cX6_become 130 = .ok (.arraylength, 1) := by decide +kernel
theorem dX6_become_131 : decode cX6_become 131 = .ok (.invokestatic 46, 3) := by decide +kernel
theorem dX6_become_134 : decode cX6_become 134 = .ok (.aload_n 0, 1) := by decide +kernel
theorem dX6_become_135 : decode cX6_become 135 = .ok (.aload_n 1, 1) := by decide +kernel
theorem dX6_become_136 : decode cX6_become 136 = .ok (.getfield 52, 3) := by decide +kernel
theorem dX6_become_139 : decode cX6_become 139 = .ok (.putfield 52, 3) := by decide +kernel
theorem dX6_become_142 : decode cX6_become 142 = .ok (.aload_n 1, 1) := by decide +kernel
theorem dX6_become_143 : decode cX6_become 143 = .ok (.getfield 33, 3) := by decide +kernel
theorem dX6_become_146 : decode cX6_become 146 = .ok (.iconst 0, 1) := by decide +kernel
theorem dX6_become_147 : decode cX6_become 147 = .ok (.aload_n 0, 1) := by decide +kernel
theorem dX6_become_148 : decode cX6_become 148 = .ok (.getfield 33, 3) := by decide +kernel
theorem dX6_become_151 : decode cX6_become 151 = .ok (.iconst 0, 1) := by decide +kernel
theorem dX6_become_152 : decode cX6_become 152 = .ok (.aload_n 0, 1) := by decide +kernel
theorem dX6_become_153 : decode cX6_become 153 = .ok (.getfield 33, 3) := by decide +kernel
theorem dX6_become_156 : decode cX6_become 156 = .ok (.arraylength, 1) := by decide +kernel
theorem dX6_become_157 : decode cX6_become 157 = .ok (.invokestatic 46, 3) := by decide +kernel
theorem dX6_become_160 : decode cX6_become 160 = .ok (.aload_n 0, 1) := by decide +kernel
theorem dX6_become_161 : decode cX6_become 161 = .ok (.aload_n 1, 1) := by decide +kernel
theorem dX6_become_162 : decode cX6_become 162 = .ok (.getfield 56, 3) := by decide +kernel
theorem dX6_become_165 : decode cX6_become 165 = .ok (.putfield 56, 3) := by decide +kernel
theorem dX6_become_168 : decode cX6_become 168 = .ok (.return_, 1) := by decide +kernel
theorem dX6_joinBoth_0 : decode cX6_joinBoth 0 = .ok (.aload_n 0, 1) := by decide +kernel
theorem dX6_joinBoth_1 : decode cX6_joinBoth 1 = .ok (.getfield 9, 3) := by decide +kernel
theorem dX6_joinBoth_4 : decode cX6_joinBoth 4 = .ok (.iload_n 1, 1) := by decide +kernel
theorem dX6_joinBoth_5 : decode cX6_joinBoth 5 = .ok (.bipush 8, 2) := by decide +kernel
theorem dX6_joinBoth_7 : decode cX6_joinBoth 7 = .ok (.imul, 1) := by decide +kernel
theorem dX6_joinBoth_8 : decode cX6_joinBoth 8 = .ok (.iload_n 2, 1) := by decide +kernel
theorem dX6_joinBoth_9 : decode cX6_joinBoth 9 = .ok (.iadd, 1) := by decide +kernel
theorem dX6_joinBoth_10 : decode cX6_joinBoth 10 = .ok (.iaload, 1) := by decide +kernel
theorem dX6_joinBoth_11 : decode cX6_joinBoth 11 = .ok (.istore 4, 2) := by decide +kernel
theorem dX6_joinBoth_13 : decode cX6_joinBoth 13 = .ok (.aload_n 0, 1) := by decide +kernel
theorem dX6_joinBoth_14 : decode cX6_joinBoth 14 = .ok (.getfield 9, 3) := by decide +kernel
theorem dX6_joinBoth_17 : decode cX6_joinBoth 17 = .ok (.iload_n 1, 1) := by decide +kernel
theorem dX6_joinBoth_18 : decode cX6_joinBoth 18 = .ok (.bipush 8, 2) := by decide +kernel
theorem dX6_joinBoth_20 : decode cX6_joinBoth 20 = .ok (.imul, 1) := by decide +kernel
theorem dX6_joinBoth_21 : decode cX6_joinBoth 21 = .ok (.iload_n 2, 1) := by decide +kernel
theorem dX6_joinBoth_22 : decode cX6_joinBoth 22 = .ok (.iadd, 1) := by decide +kernel
theorem dX6_joinBoth_23 : decode cX6_joinBoth 23 = .ok (.iload_n 3, 1) := by decide +kernel
theorem dX6_joinBoth_24 : decode cX6_joinBoth 24 = .ok (.iastore, 1) := by decide +kernel
theorem dX6_joinBoth_25 : decode cX6_joinBoth 25 = .ok (.aload_n 0, 1) := by decide +kernel
theorem dX6_joinBoth_26 : decode cX6_joinBoth 26 = .ok (.getfield 9, 3) := by decide +kernel
theorem dX6_joinBoth_29 : decode cX6_joinBoth 29 = .ok (.iload_n 2, 1) := by decide +kernel
theorem dX6_joinBoth_30 : decode cX6_joinBoth 30 = .ok (.bipush 8, 2) := by decide +kernel
theorem dX6_joinBoth_32 : decode cX6_joinBoth 32 = .ok (.imul, 1) := by decide +kernel
theorem dX6_joinBoth_33 : decode cX6_joinBoth 33 = .ok (.iload_n 1, 1) := by decide +kernel
theorem dX6_joinBoth_34 : decode cX6_joinBoth 34 = .ok (.iadd, 1) := by decide +kernel
theorem dX6_joinBoth_35 : decode cX6_joinBoth 35 = .ok (.iload_n 3, 1) := by decide +kernel
theorem dX6_joinBoth_36 : decode cX6_joinBoth 36 = .ok (.iastore, 1) := by decide +kernel
theorem dX6_joinBoth_37 : decode cX6_joinBoth 37 = .ok (.iload 4, 2) := by decide +kernel
theorem dX6_joinBoth_39 : decode cX6_joinBoth 39 = .ok (.ireturn, 1) := by decide +kernel
theorem dX6_hoursBetween_0 : decode cX6_hoursBetween 0 = .ok (.aload_n 0, 1) := by decide +kernel
theorem dX6_hoursBetween_1 : decode cX6_hoursBetween 1 = .ok (.getfield 9, 3) := by decide +kernel
theorem dX6_hoursBetween_4 : decode cX6_hoursBetween 4 = .ok (.iload_n 1, 1) := by decide +kernel
theorem dX6_hoursBetween_5 : decode cX6_hoursBetween 5 = .ok (.bipush 8, 2) := by decide +kernel
theorem dX6_hoursBetween_7 : decode cX6_hoursBetween 7 = .ok (.imul, 1) := by decide +kernel
theorem dX6_hoursBetween_8 : decode cX6_hoursBetween 8 = .ok (.iload_n 2, 1) := by decide +kernel
theorem dX6_hoursBetween_9 : decode cX6_hoursBetween 9 = .ok (.iadd, 1) := by decide +kernel
theorem dX6_hoursBetween_10 : decode cX6_hoursBetween 10 = .ok (.iaload, 1) := by decide +kernel
theorem dX6_hoursBetween_11 : decode cX6_hoursBetween 11 = .ok (.istore_n 3, 1) := by decide +kernel
theorem dX6_hoursBetween_12 : decode cX6_hoursBetween 12 = .ok (.iload_n 3, 1) := by decide +kernel
theorem dX6_hoursBetween_13 : decode cX6_hoursBetween 13 = .ok (.ifCond .ne 8, 3) := by decide +kernel
theorem dX6_hoursBetween_16 : decode cX6_hoursBetween 16 = .ok (.bipush (-5), 2) := by decide +kernel
theorem dX6_hoursBetween_18 : decode cX6_hoursBetween 18 = .ok (.goto 13, 3) := by decide +kernel
theorem dX6_hoursBetween_21 : decode cX6_hoursBetween 21 = .ok (.aload_n 0, 1) := by decide +kernel
theorem dX6_hoursBetween_22 : decode cX6_hoursBetween 22 = .ok (.getfield 36, 3) := by decide +kernel
theorem dX6_hoursBetween_25 : decode cX6_hoursBetween 25 = .ok (.iload_n 1, 1) := by decide +kernel
theorem dX6_hoursBetween_26 : decode cX6_hoursBetween 26 = .ok (.iload_n 2, 1) := by decide +kernel
theorem dX6_hoursBetween_27 : decode cX6_hoursBetween 27 = .ok (.iload_n 3, 1) := by decide +kernel
theorem dX6_hoursBetween_28 : decode cX6_hoursBetween 28 = .ok (.invokevirtual 59, 3) := by decide +kernel
theorem dX6_hoursBetween_31 : decode cX6_hoursBetween 31 = .ok (.ireturn, 1) := by decide +kernel
theorem dX6_addTrade_0 : decode cX6_addTrade 0 = .ok (.aload_n 0, 1) := by decide +kernel
theorem dX6_addTrade_1 : decode cX6_addTrade 1 = .ok (.getfield 18, 3) := by decide +kernel
theorem dX6_addTrade_4 : decode cX6_addTrade 4 = .ok (.aload_n 0, 1) := by decide +kernel
theorem dX6_addTrade_5 : decode cX6_addTrade 5 = .ok (.getfield 52, 3) := by decide +kernel
theorem dX6_addTrade_8 : decode cX6_addTrade 8 = .ok (.iload_n 1, 1) := by decide +kernel
theorem dX6_addTrade_9 : decode cX6_addTrade 9 = .ok (.iastore, 1) := by decide +kernel
theorem dX6_addTrade_10 : decode cX6_addTrade 10 = .ok (.aload_n 0, 1) := by decide +kernel
theorem dX6_addTrade_11 : decode cX6_addTrade 11 = .ok (.getfield 21, 3) := by decide +kernel
theorem dX6_addTrade_14 : decode cX6_addTrade 14 = .ok (.aload_n 0, 1) := by decide +kernel
theorem dX6_addTrade_15 : decode cX6_addTrade 15 = .ok (.getfield 52, 3) := by decide +kernel
theorem dX6_addTrade_18 : decode cX6_addTrade 18 = .ok (.iload_n 2, 1) := by decide +kernel
theorem dX6_addTrade_19 : decode cX6_addTrade 19 = .ok (.iastore, 1) := by decide +kernel
theorem dX6_addTrade_20 : decode cX6_addTrade 20 = .ok (.aload_n 0, 1) := by decide +kernel
theorem dX6_addTrade_21 : decode cX6_addTrade 21 = .ok (.getfield 24, 3) := by decide +kernel
theorem dX6_addTrade_24 : decode cX6_addTrade 24 = .ok (.aload_n 0, 1) := by decide +kernel
theorem dX6_addTrade_25 : decode cX6_addTrade 25 = .ok (.getfield 52, 3) := by decide +kernel
theorem dX6_addTrade_28 : decode cX6_addTrade 28 = .ok (.iload_n 3, 1) := by decide +kernel
theorem dX6_addTrade_29 : decode cX6_addTrade 29 = .ok (.iastore, 1) := by decide +kernel
theorem dX6_addTrade_30 : decode cX6_addTrade 30 = .ok (.aload_n 0, 1) := by decide +kernel
theorem dX6_addTrade_31 : decode cX6_addTrade 31 = .ok (.getfield 27, 3) := by decide +kernel
theorem dX6_addTrade_34 : decode cX6_addTrade 34 = .ok (.aload_n 0, 1) := by decide +kernel
theorem dX6_addTrade_35 : decode cX6_addTrade 35 = .ok (.getfield 52, 3) := by decide +kernel
theorem dX6_addTrade_38 : decode cX6_addTrade 38 = .ok (.iload 4, 2) := by decide +kernel
theorem dX6_addTrade_40 : decode cX6_addTrade 40 = .ok (.iastore, 1) := by decide +kernel
theorem dX6_addTrade_41 : decode cX6_addTrade 41 = .ok (.aload_n 0, 1) := by decide +kernel
theorem dX6_addTrade_42 : decode cX6_addTrade 42 = .ok (.getfield 30, 3) := by decide +kernel
theorem dX6_addTrade_45 : decode cX6_addTrade 45 = .ok (.aload_n 0, 1) := by decide +kernel
theorem dX6_addTrade_46 : decode cX6_addTrade 46 = .ok (.getfield 52, 3) := by decide +kernel
theorem dX6_addTrade_49 : decode cX6_addTrade 49 = .ok (.iload 5, 2) := by decide +kernel
theorem dX6_addTrade_51 : decode cX6_addTrade 51 = .ok (.iastore, 1) := by decide +kernel
theorem dX6_addTrade_52 : decode cX6_addTrade 52 = .ok (.aload_n 0, 1) := by decide +kernel
theorem dX6_addTrade_53 : decode cX6_addTrade 53 = .ok (.dup, 1) := by decide +kernel
theorem dX6_addTrade_54 : decode cX6_addTrade 54 = .ok (.getfield 52, 3) := by decide +kernel
theorem dX6_addTrade_57 : decode cX6_addTrade 57 = .ok (.iconst 1, 1) := by decide +kernel
theorem dX6_addTrade_58 : decode cX6_addTrade 58 = .ok (.iadd, 1) := by decide +kernel
theorem dX6_addTrade_59 : decode cX6_addTrade 59 = .ok (.putfield 52, 3) := by decide +kernel
theorem dX6_addTrade_62 : decode cX6_addTrade 62 = .ok (.aload_n 0, 1) := by decide +kernel
theorem dX6_addTrade_63 : decode cX6_addTrade 63 = .ok (.getfield 52, 3) := by decide +kernel
theorem dX6_addTrade_66 : decode cX6_addTrade 66 = .ok (.iconst 1, 1) := by decide +kernel
theorem dX6_addTrade_67 : decode cX6_addTrade 67 = .ok (.isub, 1) := by decide +kernel
theorem dX6_addTrade_68 : decode cX6_addTrade 68 = .ok (.ireturn, 1) := by decide +kernel
theorem dX6_fridaysOf_0 : decode cX6_fridaysOf 0 = .ok (.iconst 0, 1) := by decide +kernel
theorem dX6_fridaysOf_1 : decode cX6_fridaysOf 1 = .ok (.istore_n 2, 1) := by decide +kernel
theorem dX6_fridaysOf_2 : decode cX6_fridaysOf 2 = .ok (.iconst 0, 1) := by decide +kernel
theorem dX6_fridaysOf_3 : decode cX6_fridaysOf 3 = .ok (.istore_n 3, 1) := by decide +kernel
theorem dX6_fridaysOf_4 : decode cX6_fridaysOf 4 = .ok (.iload_n 3, 1) := by decide +kernel
theorem dX6_fridaysOf_5 : decode cX6_fridaysOf 5 = .ok (.aload_n 0, 1) := by decide +kernel
theorem dX6_fridaysOf_6 : decode cX6_fridaysOf 6 = .ok (.getfield 52, 3) := by decide +kernel
theorem dX6_fridaysOf_9 : decode cX6_fridaysOf 9 = .ok (.if_icmp .ge 30, 3) := by decide +kernel
theorem dX6_fridaysOf_12 : decode cX6_fridaysOf 12 = .ok (.aload_n 0, 1) := by decide +kernel
theorem dX6_fridaysOf_13 : decode cX6_fridaysOf 13 = .ok (.getfield 21, 3) := by decide +kernel
theorem dX6_fridaysOf_16 : decode cX6_fridaysOf 16 = .ok (.iload_n 3, 1) := by decide +kernel
theorem dX6_fridaysOf_17 : decode cX6_fridaysOf 17 = .ok (.iaload, 1) := by decide +kernel
theorem dX6_fridaysOf_18 : decode cX6_fridaysOf 18 = .ok (.iload_n 1, 1) := by decide +kernel
theorem dX6_fridaysOf_19 : decode cX6_fridaysOf 19 = .ok (.if_icmp .ne 14, 3) := by decide +kernel
theorem dX6_fridaysOf_22 : decode cX6_fridaysOf 22 = .ok (.iload_n 2, 1) := by decide +kernel
theorem dX6_fridaysOf_23 : decode cX6_fridaysOf 23 = .ok (.iconst 1, 1) := by decide +kernel
theorem dX6_fridaysOf_24 : decode cX6_fridaysOf 24 = .ok (.aload_n 0, 1) := by decide +kernel
theorem dX6_fridaysOf_25 : decode cX6_fridaysOf 25 = .ok (.getfield 24, 3) := by decide +kernel
theorem dX6_fridaysOf_28 : decode cX6_fridaysOf 28 = .ok (.iload_n 3, 1) := by decide +kernel
theorem dX6_fridaysOf_29 : decode cX6_fridaysOf 29 = .ok (.iaload, 1) := by decide +kernel
theorem dX6_fridaysOf_30 : decode cX6_fridaysOf 30 = .ok (.ishl, 1) := by decide +kernel
theorem dX6_fridaysOf_31 : decode cX6_fridaysOf 31 = .ok (.ior, 1) := by decide +kernel
theorem dX6_fridaysOf_32 : decode cX6_fridaysOf 32 = .ok (.istore_n 2, 1) := by decide +kernel
theorem dX6_fridaysOf_33 : decode cX6_fridaysOf 33 = .ok (.iinc 3 1, 3) := by decide +kernel
theorem dX6_fridaysOf_36 : decode cX6_fridaysOf 36 = .ok (.goto (-32), 3) := by decide +kernel
theorem dX6_fridaysOf_39 : decode cX6_fridaysOf 39 = .ok (.iload_n 2, 1) := by decide +kernel
theorem dX6_fridaysOf_40 : decode cX6_fridaysOf 40 = .ok (.ireturn, 1) := by decide +kernel
theorem dX6_hasFellow_0 : decode cX6_hasFellow 0 = .ok (.iconst 0, 1) := by decide +kernel
theorem dX6_hasFellow_1 : decode cX6_hasFellow 1 = .ok (.istore_n 2, 1) := by decide +kernel
theorem dX6_hasFellow_2 : decode cX6_hasFellow 2 = .ok (.iload_n 2, 1) := by decide +kernel
theorem dX6_hasFellow_3 : decode cX6_hasFellow 3 = .ok (.aload_n 0, 1) := by decide +kernel
theorem dX6_hasFellow_4 : decode cX6_hasFellow 4 = .ok (.getfield 52, 3) := by decide +kernel
theorem dX6_hasFellow_7 : decode cX6_hasFellow 7 = .ok (.if_icmp .ge 46, 3) := by decide +kernel
theorem dX6_hasFellow_10 : decode cX6_hasFellow 10 = .ok (.iload_n 2, 1) := by decide +kernel
theorem dX6_hasFellow_11 : decode cX6_hasFellow 11 = .ok (.iload_n 1, 1) := by decide +kernel
theorem dX6_hasFellow_12 : decode cX6_hasFellow 12 = .ok (.if_icmp .eq 35, 3) := by decide +kernel
theorem dX6_hasFellow_15 : decode cX6_hasFellow 15 = .ok (.aload_n 0, 1) := by decide +kernel
theorem dX6_hasFellow_16 : decode cX6_hasFellow 16 = .ok (.getfield 21, 3) := by decide +kernel
theorem dX6_hasFellow_19 : decode cX6_hasFellow 19 = .ok (.iload_n 2, 1) := by decide +kernel
theorem dX6_hasFellow_20 : decode cX6_hasFellow 20 = .ok (.iaload, 1) := by decide +kernel
theorem dX6_hasFellow_21 : decode cX6_hasFellow 21 = .ok (.aload_n 0, 1) := by decide +kernel
theorem dX6_hasFellow_22 : decode cX6_hasFellow 22 = .ok (.getfield 21, 3) := by decide +kernel
theorem dX6_hasFellow_25 : decode cX6_hasFellow 25 = .ok (.iload_n 1, 1) := by decide +kernel
theorem dX6_hasFellow_26 : decode cX6_hasFellow 26 = .ok (.iaload, 1) := by decide +kernel
theorem dX6_hasFellow_27 : decode cX6_hasFellow 27 = .ok (.if_icmp .ne 20, 3) := by decide +kernel
theorem dX6_hasFellow_30 : decode cX6_hasFellow 30 = .ok (.aload_n 0, 1) := by decide +kernel
theorem dX6_hasFellow_31 : decode cX6_hasFellow 31 = .ok (.getfield 24, 3) := by decide +kernel
theorem dX6_hasFellow_34 : decode cX6_hasFellow 34 = .ok (.iload_n 2, 1) := by decide +kernel
theorem dX6_hasFellow_35 : decode cX6_hasFellow 35 = .ok (.iaload, 1) := by decide +kernel
theorem dX6_hasFellow_36 : decode cX6_hasFellow 36 = .ok (.aload_n 0, 1) := by decide +kernel
theorem dX6_hasFellow_37 : decode cX6_hasFellow 37 = .ok (.getfield 24, 3) := by decide +kernel
theorem dX6_hasFellow_40 : decode cX6_hasFellow 40 = .ok (.iload_n 1, 1) := by decide +kernel
theorem dX6_hasFellow_41 : decode cX6_hasFellow 41 = .ok (.iaload, 1) := by decide +kernel
theorem dX6_hasFellow_42 : decode cX6_hasFellow 42 = .ok (.if_icmp .ne 5, 3) := by decide +kernel
theorem dX6_hasFellow_45 : decode cX6_hasFellow 45 = .ok (.iconst 1, 1) := by decide +kernel
theorem dX6_hasFellow_46 : decode cX6_hasFellow 46 = .ok (.ireturn, 1) := by decide +kernel
theorem dX6_hasFellow_47 : decode cX6_hasFellow 47 = .ok (.iinc 2 1, 3) := by decide +kernel
theorem dX6_hasFellow_50 : decode cX6_hasFellow 50 = .ok (.goto (-48), 3) := by decide +kernel
theorem dX6_hasFellow_53 : decode cX6_hasFellow 53 = .ok (.iconst 0, 1) := by decide +kernel
theorem dX6_hasFellow_54 : decode cX6_hasFellow 54 = .ok (.ireturn, 1) := by decide +kernel
theorem dX7_init_0 : decode cX7_init 0 = .ok (.aload_n 0, 1) := by decide +kernel
theorem dX7_init_1 : decode cX7_init 1 = .ok (.invokespecial 3, 3) := by decide +kernel
theorem dX7_init_4 : decode cX7_init 4 = .ok (.aload_n 0, 1) := by decide +kernel
theorem dX7_init_5 : decode cX7_init 5 = .ok (.bipush 8, 2) := by decide +kernel
theorem dX7_init_7 : decode cX7_init 7 = .ok (.newarray .int, 2) := by decide +kernel
theorem dX7_init_9 : decode cX7_init 9 = .ok (.putfield 11, 3) := by decide +kernel
theorem dX7_init_12 : decode cX7_init 12 = .ok (.aload_n 0, 1) := by decide +kernel
theorem dX7_init_13 : decode cX7_init 13 = .ok (.new 15, 3) := by decide +kernel
theorem dX7_init_16 : decode cX7_init 16 = .ok (.dup, 1) := by decide +kernel
theorem dX7_init_17 : decode cX7_init 17 = .ok (.invokespecial 17, 3) := by decide +kernel
theorem dX7_init_20 : decode cX7_init 20 = .ok (.putfield 18, 3) := by decide +kernel
theorem dX7_init_23 : decode cX7_init 23 = .ok (.aload_n 0, 1) := by decide +kernel
theorem dX7_init_24 : decode cX7_init 24 = .ok (.bipush 7, 2) := by decide +kernel
theorem dX7_init_26 : decode cX7_init 26 = .ok (.anewarray 22, 3) := by decide +kernel
theorem dX7_init_29 : decode cX7_init 29 = .ok (.putfield 24, 3) := by decide +kernel
theorem dX7_init_32 : decode cX7_init 32 = .ok (.aload_n 0, 1) := by decide +kernel
theorem dX7_init_33 : decode cX7_init 33 = .ok (.new 28, 3) := by decide +kernel
theorem dX7_init_36 : decode cX7_init 36 = .ok (.dup, 1) := by decide +kernel
theorem dX7_init_37 : decode cX7_init 37 = .ok (.invokespecial 30, 3) := by decide +kernel
theorem dX7_init_40 : decode cX7_init 40 = .ok (.putfield 31, 3) := by decide +kernel
theorem dX7_init_43 : decode cX7_init 43 = .ok (.aload_n 0, 1) := by decide +kernel
theorem dX7_init_44 : decode cX7_init 44 = .ok (.new 35, 3) := by decide +kernel
theorem dX7_init_47 : decode cX7_init 47 = .ok (.dup, 1) := by decide +kernel
theorem dX7_init_48 : decode cX7_init 48 = .ok (.invokespecial 37, 3) := by decide +kernel
theorem dX7_init_51 : decode cX7_init 51 = .ok (.putfield 38, 3) := by decide +kernel
theorem dX7_init_54 : decode cX7_init 54 = .ok (.aload_n 0, 1) := by decide +kernel
theorem dX7_init_55 : decode cX7_init 55 = .ok (.new 42, 3) := by decide +kernel
theorem dX7_init_58 : decode cX7_init 58 = .ok (.dup, 1) := by decide +kernel
theorem dX7_init_59 : decode cX7_init 59 = .ok (.invokespecial 44, 3) := by decide +kernel
theorem dX7_init_62 : decode cX7_init 62 = .ok (.putfield 45, 3) := by decide +kernel
theorem dX7_init_65 : decode cX7_init 65 = .ok (.aload_n 0, 1) := by decide +kernel
theorem dX7_init_66 : decode cX7_init 66 = .ok (.bipush 6, 2) := by decide +kernel
theorem dX7_init_68 : decode cX7_init 68 = .ok (.anewarray 49, 3) := by decide +kernel
theorem dX7_init_71 : decode cX7_init 71 = .ok (.putfield 51, 3) := by decide +kernel
theorem dX7_init_74 : decode cX7_init 74 = .ok (.iconst 0, 1) := by decide +kernel
theorem dX7_init_75 : decode cX7_init 75 = .ok (.istore_n 1, 1) := by decide +kernel
theorem dX7_init_76 : decode cX7_init 76 = .ok (.iload_n 1, 1) := by decide +kernel
theorem dX7_init_77 : decode cX7_init 77 = .ok (.aload_n 0, 1) := by decide +kernel
theorem dX7_init_78 : decode cX7_init 78 = .ok (.getfield 24, 3) := by decide +kernel
theorem dX7_init_81 : decode cX7_init 81 = .ok (.arraylength, 1) := by decide +kernel
theorem dX7_init_82 : decode cX7_init 82 = .ok (.if_icmp .ge 22, 3) := by decide +kernel
theorem dX7_init_85 : decode cX7_init 85 = .ok (.aload_n 0, 1) := by decide +kernel
theorem dX7_init_86 : decode cX7_init 86 = .ok (.getfield 24, 3) := by decide +kernel
theorem dX7_init_89 : decode cX7_init 89 = .ok (.iload_n 1, 1) := by decide +kernel
theorem dX7_init_90 : decode cX7_init 90 = .ok (.new 22, 3) := by decide +kernel
theorem dX7_init_93 : decode cX7_init 93 = .ok (.dup, 1) := by decide +kernel
theorem dX7_init_94 : decode cX7_init 94 = .ok (.invokespecial 55, 3) := by decide +kernel
theorem dX7_init_97 : decode cX7_init 97 = .ok (.aastore, 1) := by decide +kernel
theorem dX7_init_98 : decode cX7_init 98 = .ok (.iinc 1 1, 3) := by decide +kernel
theorem dX7_init_101 : decode cX7_init 101 = .ok (.goto (-25), 3) := by decide +kernel
theorem dX7_init_104 : decode cX7_init 104 = .ok (.iconst 0, 1) := by decide +kernel
theorem dX7_init_105 : decode cX7_init 105 = .ok (.istore_n 1, 1) := by decide +kernel
theorem dX7_init_106 : decode cX7_init 106 = .ok (.iload_n 1, 1) := by decide +kernel
theorem dX7_init_107 : decode cX7_init 107 = .ok (.aload_n 0, 1) := by decide +kernel
theorem dX7_init_108 : decode cX7_init 108 = .ok (.getfield 51, 3) := by decide +kernel
theorem dX7_init_111 : decode cX7_init 111 = .ok (.arraylength, 1) := by decide +kernel
theorem dX7_init_112 : decode cX7_init 112 = .ok (.if_icmp .ge 22, 3) := by decide +kernel
theorem dX7_init_115 : decode cX7_init 115 = .ok (.aload_n 0, 1) := by decide +kernel
theorem dX7_init_116 : decode cX7_init 116 = .ok (.getfield 51, 3) := by decide +kernel
theorem dX7_init_119 : decode cX7_init 119 = .ok (.iload_n 1, 1) := by decide +kernel
theorem dX7_init_120 : decode cX7_init 120 = .ok (.new 49, 3) := by decide +kernel
theorem dX7_init_123 : decode cX7_init 123 = .ok (.dup, 1) := by decide +kernel
theorem dX7_init_124 : decode cX7_init 124 = .ok (.invokespecial 56, 3) := by decide +kernel
theorem dX7_init_127 : decode cX7_init 127 = .ok (.aastore, 1) := by decide +kernel
theorem dX7_init_128 : decode cX7_init 128 = .ok (.iinc 1 1, 3) := by decide +kernel
theorem dX7_init_131 : decode cX7_init 131 = .ok (.goto (-25), 3) := by decide +kernel
theorem dX7_init_134 : decode cX7_init 134 = .ok (.aload_n 0, 1) := by decide +kernel
theorem dX7_init_135 : decode cX7_init 135 = .ok (.new 57, 3) := by decide +kernel
theorem dX7_init_138 : decode cX7_init 138 = .ok (.dup, 1) := by decide +kernel
theorem dX7_init_139 : decode cX7_init 139 = .ok (.aload_n 0, 1) := by decide +kernel
theorem dX7_init_140 : decode cX7_init 140 = .ok (.getfield 24, 3) := by decide +kernel
theorem dX7_init_143 : decode cX7_init 143 = .ok (.iconst 0, 1) := by decide +kernel
theorem dX7_init_144 : decode cX7_init 144 = .ok (.aaload, 1) := by decide +kernel
theorem dX7_init_145 : decode cX7_init 145 = .ok (.invokespecial 59, 3) := by decide +kernel
theorem dX7_init_148 : decode cX7_init 148 = .ok (.putfield 62, 3) := by decide +kernel
theorem dX7_init_151 : decode cX7_init 151 = .ok (.aload_n 0, 1) := by decide +kernel
theorem dX7_init_152 : decode cX7_init 152 = .ok (.new 57, 3) := by decide +kernel
theorem dX7_init_155 : decode cX7_init 155 = .ok (.dup, 1) := by decide +kernel
theorem dX7_init_156 : decode cX7_init 156 = .ok (.aload_n 0, 1) := by decide +kernel
theorem dX7_init_157 : decode cX7_init 157 = .ok (.getfield 24, 3) := by decide +kernel
theorem dX7_init_160 : decode cX7_init 160 = .ok (.iconst 0, 1) := by decide +kernel
theorem dX7_init_161 : decode cX7_init 161 = .ok (.aaload, 1) := by decide +kernel
theorem dX7_init_162 : decode cX7_init 162 = .ok (.invokespecial 59, 3) := by decide +kernel
theorem dX7_init_165 : decode cX7_init 165 = .ok (.putfield 66, 3) := by decide +kernel
theorem dX7_init_168 : decode cX7_init 168 = .ok (.return_, 1) := by decide +kernel
theorem dX7_name_0 : decode cX7_name 0 = .ok (.iload_n 1, 1) := by decide +kernel
theorem dX7_name_1 : decode cX7_name 1 = .ok (.invokestatic 69, 3) := by decide +kernel
theorem dX7_name_4 : decode cX7_name 4 = .ok (.ifCond .ne 6, 3) := by decide +kernel
theorem dX7_name_7 : decode cX7_name 7 = .ok (.bipush (-2), 2) := by decide +kernel
theorem dX7_name_9 : decode cX7_name 9 = .ok (.ireturn, 1) := by decide +kernel
theorem dX7_name_10 : decode cX7_name 10 = .ok (.aload_n 0, 1) := by decide +kernel
theorem dX7_name_11 : decode cX7_name 11 = .ok (.getfield 73, 3) := by decide +kernel
theorem dX7_name_14 : decode cX7_name 14 = .ok (.bipush 8, 2) := by decide +kernel
theorem dX7_name_16 : decode cX7_name 16 = .ok (.if_icmp .lt 6, 3) := by decide +kernel
theorem dX7_name_19 : decode cX7_name 19 = .ok (.bipush (-4), 2) := by decide +kernel
theorem dX7_name_21 : decode cX7_name 21 = .ok (.ireturn, 1) := by decide +kernel
theorem dX7_name_22 : decode cX7_name 22 = .ok (.aload_n 0, 1) := by decide +kernel
theorem dX7_name_23 : decode cX7_name 23 = .ok (.getfield 11, 3) := by decide +kernel
theorem dX7_name_26 : decode cX7_name 26 = .ok (.aload_n 0, 1) := by decide +kernel
theorem dX7_name_27 : decode cX7_name 27 = .ok (.getfield 73, 3) := by decide +kernel
theorem dX7_name_30 : decode cX7_name 30 = .ok (.iload_n 1, 1) := by decide +kernel
theorem dX7_name_31 : decode cX7_name 31 = .ok (.iastore, 1) := by decide +kernel
theorem dX7_name_32 : decode cX7_name 32 = .ok (.aload_n 0, 1) := by decide +kernel
theorem dX7_name_33 : decode cX7_name 33 = .ok (.dup, 1) := by decide +kernel
theorem dX7_name_34 : decode cX7_name 34 = .ok (.getfield 73, 3) := by decide +kernel
theorem dX7_name_37 : decode cX7_name 37 = .ok (.iconst 1, 1) := by decide +kernel
theorem dX7_name_38 : decode cX7_name 38 = .ok (.iadd, 1) := by decide +kernel
theorem dX7_name_39 : decode cX7_name 39 = .ok (.putfield 73, 3) := by decide +kernel
theorem dX7_name_42 : decode cX7_name 42 = .ok (.aload_n 0, 1) := by decide +kernel
theorem dX7_name_43 : decode cX7_name 43 = .ok (.getfield 73, 3) := by decide +kernel
theorem dX7_name_46 : decode cX7_name 46 = .ok (.iconst 1, 1) := by decide +kernel
theorem dX7_name_47 : decode cX7_name 47 = .ok (.isub, 1) := by decide +kernel
theorem dX7_name_48 : decode cX7_name 48 = .ok (.ireturn, 1) := by decide +kernel
theorem dX7_join_0 : decode cX7_join 0 = .ok (.aload_n 0, 1) := by decide +kernel
theorem dX7_join_1 : decode cX7_join 1 = .ok (.iload_n 1, 1) := by decide +kernel
theorem dX7_join_2 : decode cX7_join 2 = .ok (.invokevirtual 77, 3) := by decide +kernel
theorem dX7_join_5 : decode cX7_join 5 = .ok (.ifCond .eq 11, 3) := by decide +kernel
theorem dX7_join_8 : decode cX7_join 8 = .ok (.aload_n 0, 1) := by decide +kernel
theorem dX7_join_9 : decode cX7_join 9 = .ok (.iload_n 2, 1) := by decide +kernel
theorem dX7_join_10 : decode cX7_join 10 = .ok (.invokevirtual 77, 3) := by decide +kernel
theorem dX7_join_13 : decode cX7_join 13 = .ok (.ifCond .ne 5, 3) := by decide +kernel
theorem dX7_join_16 : decode cX7_join 16 = .ok (.iconst (-1), 1) := by decide +kernel
theorem dX7_join_17 : decode cX7_join 17 = .ok (.ireturn, 1) := by decide +kernel
theorem dX7_join_18 : decode cX7_join 18 = .ok (.iload_n 1, 1) := by decide +kernel
theorem dX7_join_19 : decode cX7_join 19 = .ok (.iload_n 2, 1) := by decide +kernel
theorem dX7_join_20 : decode cX7_join 20 = .ok (.if_icmp .eq 12, 3) := by decide +kernel
theorem dX7_join_23 : decode cX7_join 23 = .ok (.iload_n 3, 1) := by decide +kernel
theorem dX7_join_24 : decode cX7_join 24 = .ok (.ifCond .lt 8, 3) := by decide +kernel
theorem dX7_join_27 : decode cX7_join 27 = .ok (.iload_n 3, 1) := by decide +kernel
theorem dX7_join_28 : decode cX7_join 28 = .ok (.iconst 5, 1) := by decide +kernel
theorem dX7_join_29 : decode cX7_join 29 = .ok (.if_icmp .le 6, 3) := by decide +kernel
theorem dX7_join_32 : decode cX7_join 32 = .ok (.bipush (-2), 2) := by decide +kernel
theorem dX7_join_34 : decode cX7_join 34 = .ok (.ireturn, 1) := by decide +kernel
theorem dX7_join_35 : decode cX7_join 35 = .ok (.aload_n 0, 1) := by decide +kernel
theorem dX7_join_36 : decode cX7_join 36 = .ok (.getfield 62, 3) := by decide +kernel
theorem dX7_join_39 : decode cX7_join 39 = .ok (.iload_n 1, 1) := by decide +kernel
theorem dX7_join_40 : decode cX7_join 40 = .ok (.iload_n 2, 1) := by decide +kernel
theorem dX7_join_41 : decode cX7_join 41 = .ok (.iload_n 3, 1) := by decide +kernel
theorem dX7_join_42 : decode cX7_join 42 = .ok (.invokevirtual 80, 3) := by decide +kernel
theorem dX7_join_45 : decode cX7_join 45 = .ok (.ireturn, 1) := by decide +kernel
theorem dX7_news_0 : decode cX7_news 0 = .ok (.aload_n 0, 1) := by decide +kernel
theorem dX7_news_1 : decode cX7_news 1 = .ok (.iload_n 1, 1) := by decide +kernel
theorem dX7_news_2 : decode cX7_news 2 = .ok (.invokevirtual 77, 3) := by decide +kernel
theorem dX7_news_5 : decode cX7_news 5 = .ok (.ifCond .ne 5, 3) := by decide +kernel
theorem dX7_news_8 : decode cX7_news 8 = .ok (.iconst (-1), 1) := by decide +kernel
theorem dX7_news_9 : decode cX7_news 9 = .ok (.ireturn, 1) := by decide +kernel
theorem dX7_news_10 : decode cX7_news 10 = .ok (.iload_n 2, 1) := by decide +kernel
theorem dX7_news_11 : decode cX7_news 11 = .ok (.iconst (-1), 1) := by decide +kernel
theorem dX7_news_12 : decode cX7_news 12 = .ok (.if_icmp .eq 13, 3) := by decide +kernel
theorem dX7_news_15 : decode cX7_news 15 = .ok (.iload_n 2, 1) := by decide +kernel
theorem dX7_news_16 : decode cX7_news 16 = .ok (.invokestatic 84, 3) := by decide +kernel
theorem dX7_news_19 : decode cX7_news 19 = .ok (.ifCond .ne 6, 3) := by decide +kernel
theorem dX7_news_22 : decode cX7_news 22 = .ok (.bipush (-2), 2) := by decide +kernel
theorem dX7_news_24 : decode cX7_news 24 = .ok (.ireturn, 1) := by decide +kernel
theorem dX7_news_25 : decode cX7_news 25 = .ok (.aload_n 0, 1) := by decide +kernel
theorem dX7_news_26 : decode cX7_news 26 = .ok (.getfield 62, 3) := by decide +kernel
theorem dX7_news_29 : decode cX7_news 29 = .ok (.getfield 87, 3) := by decide +kernel
theorem dX7_news_32 : decode cX7_news 32 = .ok (.iload_n 1, 1) := by decide +kernel
theorem dX7_news_33 : decode cX7_news 33 = .ok (.iaload, 1) := by decide +kernel
theorem dX7_news_34 : decode cX7_news 34 = .ok (.istore_n 3, 1) := by decide +kernel
theorem dX7_news_35 : decode cX7_news 35 = .ok (.aload_n 0, 1) := by decide +kernel
theorem dX7_news_36 : decode cX7_news 36 = .ok (.getfield 62, 3) := by decide +kernel
theorem dX7_news_39 : decode cX7_news 39 = .ok (.getfield 87, 3) := by decide +kernel
theorem dX7_news_42 : decode cX7_news 42 = .ok (.iload_n 1, 1) := by decide +kernel
theorem dX7_news_43 : decode cX7_news 43 = .ok (.iload_n 2, 1) := by decide +kernel
theorem dX7_news_44 : decode cX7_news 44 = .ok (.iconst (-1), 1) := by decide +kernel
theorem dX7_news_45 : decode cX7_news 45 = .ok (.if_icmp .ne 8, 3) := by decide +kernel
theorem dX7_news_48 : decode cX7_news 48 = .ok (.bipush (-5), 2) := by decide +kernel
theorem dX7_news_50 : decode cX7_news 50 = .ok (.goto 4, 3) := by decide +kernel
theorem dX7_news_53 : decode cX7_news 53 = .ok (.iload_n 2, 1) := by decide +kernel
theorem dX7_news_54 : decode cX7_news 54 = .ok (.iastore, 1) := by decide +kernel
theorem dX7_news_55 : decode cX7_news 55 = .ok (.iload_n 3, 1) := by decide +kernel
theorem dX7_news_56 : decode cX7_news 56 = .ok (.ireturn, 1) := by decide +kernel
theorem dX7_feed_0 : decode cX7_feed 0 = .ok (.iload_n 2, 1) := by decide +kernel
theorem dX7_feed_1 : decode cX7_feed 1 = .ok (.ifCond .lt 8, 3) := by decide +kernel
theorem dX7_feed_4 : decode cX7_feed 4 = .ok (.iload_n 2, 1) := by decide +kernel
theorem dX7_feed_5 : decode cX7_feed 5 = .ok (.iconst 4, 1) := by decide +kernel
theorem dX7_feed_6 : decode cX7_feed 6 = .ok (.if_icmp .le 6, 3) := by decide +kernel
theorem dX7_feed_9 : decode cX7_feed 9 = .ok (.bipush (-2), 2) := by decide +kernel
theorem dX7_feed_11 : decode cX7_feed 11 = .ok (.ireturn, 1) := by decide +kernel
theorem dX7_feed_12 : decode cX7_feed 12 = .ok (.aload_n 0, 1) := by decide +kernel
theorem dX7_feed_13 : decode cX7_feed 13 = .ok (.getfield 18, 3) := by decide +kernel
theorem dX7_feed_16 : decode cX7_feed 16 = .ok (.getfield 90, 3) := by decide +kernel
theorem dX7_feed_19 : decode cX7_feed 19 = .ok (.iload_n 2, 1) := by decide +kernel
theorem dX7_feed_20 : decode cX7_feed 20 = .ok (.iadd, 1) := by decide +kernel
theorem dX7_feed_21 : decode cX7_feed 21 = .ok (.bipush 100, 2) := by decide +kernel
theorem dX7_feed_23 : decode cX7_feed 23 = .ok (.if_icmp .le 6, 3) := by decide +kernel
theorem dX7_feed_26 : decode cX7_feed 26 = .ok (.bipush (-4), 2) := by decide +kernel
theorem dX7_feed_28 : decode cX7_feed 28 = .ok (.ireturn, 1) := by decide +kernel
theorem dX7_feed_29 : decode cX7_feed 29 = .ok (.iload_n 2, 1) := by decide +kernel
theorem dX7_feed_30 : decode cX7_feed 30 = .ok (.iconst 1, 1) := by decide +kernel
theorem dX7_feed_31 : decode cX7_feed 31 = .ok (.isub, 1) := by decide +kernel
theorem dX7_feed_32 : decode cX7_feed 32 = .ok (.istore_n 3, 1) := by decide +kernel
theorem dX7_feed_33 : decode cX7_feed 33 = .ok (.iload_n 3, 1) := by decide +kernel
theorem dX7_feed_34 : decode cX7_feed 34 = .ok (.ifCond .lt 26, 3) := by decide +kernel
theorem dX7_feed_37 : decode cX7_feed 37 = .ok (.aload_n 0, 1) := by decide +kernel
theorem dX7_feed_38 : decode cX7_feed 38 = .ok (.getfield 18, 3) := by decide +kernel
theorem dX7_feed_41 : decode cX7_feed 41 = .ok (.iload_n 1, 1) := by decide +kernel
theorem dX7_feed_42 : decode cX7_feed 42 = .ok (.bipush 8, 2) := by decide +kernel
theorem dX7_feed_44 : decode cX7_feed 44 = .ok (.iload_n 3, 1) := by decide +kernel
theorem dX7_feed_45 : decode cX7_feed 45 = .ok (.imul, 1) := by decide +kernel
theorem dX7_feed_46 : decode cX7_feed 46 = .ok (.iushr, 1) := by decide +kernel
theorem dX7_feed_47 : decode cX7_feed 47 = .ok (.sipush 255, 3) := by decide +kernel
theorem dX7_feed_50 : decode cX7_feed 50 = .ok (.iand, 1) := by decide +kernel
theorem dX7_feed_51 : decode cX7_feed 51 = .ok (.invokevirtual 93, 3) := by decide +kernel
theorem dX7_feed_54 : decode cX7_feed 54 = .ok (.iinc 3 (-1), 3) := by decide +kernel
theorem dX7_feed_57 : decode cX7_feed 57 = .ok (.goto (-24), 3) := by decide +kernel
theorem dX7_feed_60 : decode cX7_feed 60 = .ok (.aload_n 0, 1) := by decide +kernel
theorem dX7_feed_61 : decode cX7_feed 61 = .ok (.getfield 18, 3) := by decide +kernel
theorem dX7_feed_64 : decode cX7_feed 64 = .ok (.getfield 90, 3) := by decide +kernel
theorem dX7_feed_67 : decode cX7_feed 67 = .ok (.ireturn, 1) := by decide +kernel
theorem dX7_law_0 : decode cX7_law 0 = .ok (.aload_n 0, 1) := by decide +kernel
theorem dX7_law_1 : decode cX7_law 1 = .ok (.getfield 97, 3) := by decide +kernel
theorem dX7_law_4 : decode cX7_law 4 = .ok (.bipush 6, 2) := by decide +kernel
theorem dX7_law_6 : decode cX7_law 6 = .ok (.if_icmp .lt 6, 3) := by decide +kernel
theorem dX7_law_9 : decode cX7_law 9 = .ok (.bipush (-4), 2) := by decide +kernel
theorem dX7_law_11 : decode cX7_law 11 = .ok (.ireturn, 1) := by decide +kernel
theorem dX7_law_12 : decode cX7_law 12 = .ok (.aload_n 0, 1) := by decide +kernel
theorem dX7_law_13 : decode cX7_law 13 = .ok (.getfield 24, 3) := by decide +kernel
theorem dX7_law_16 : decode cX7_law 16 = .ok (.aload_n 0, 1) := by decide +kernel
theorem dX7_law_17 : decode cX7_law 17 = .ok (.getfield 97, 3) := by decide +kernel
theorem dX7_law_20 : decode cX7_law 20 = .ok (.iconst 1, 1) := by decide +kernel
theorem dX7_law_21 : decode cX7_law 21 = .ok (.iadd, 1) := by decide +kernel
theorem dX7_law_22 : decode cX7_law 22 = .ok (.aaload, 1) := by decide +kernel
theorem dX7_law_23 : decode cX7_law 23 = .ok (.astore_n 1, 1) := by decide +kernel
theorem dX7_law_24 : decode cX7_law 24 = .ok (.aload_n 0, 1) := by decide +kernel
theorem dX7_law_25 : decode cX7_law 25 = .ok (.getfield 18, 3) := by decide +kernel
theorem dX7_law_28 : decode cX7_law 28 = .ok (.aload_n 1, 1) := by decide +kernel
theorem dX7_law_29 : decode cX7_law 29 = .ok (.invokevirtual 100, 3) := by decide +kernel
theorem dX7_law_32 : decode cX7_law 32 = .ok (.istore_n 2, 1) := by decide +kernel
theorem dX7_law_33 : decode cX7_law 33 = .ok (.aload_n 0, 1) := by decide +kernel
theorem dX7_law_34 : decode cX7_law 34 = .ok (.getfield 18, 3) := by decide +kernel
theorem dX7_law_37 : decode cX7_law 37 = .ok (.iconst 0, 1) := by decide +kernel
theorem dX7_law_38 : decode cX7_law 38 = .ok (.putfield 90, 3) := by decide +kernel
theorem dX7_law_41 : decode cX7_law 41 = .ok (.iload_n 2, 1) := by decide +kernel
theorem dX7_law_42 : decode cX7_law 42 = .ok (.ifCond .lt 8, 3) := by decide +kernel
theorem dX7_law_45 : decode cX7_law 45 = .ok (.bipush (-10), 2) := by decide +kernel
theorem dX7_law_47 : decode cX7_law 47 = .ok (.iload_n 2, 1) := by decide +kernel
theorem dX7_law_48 : decode cX7_law 48 = .ok (.isub, 1) := by decide +kernel
theorem dX7_law_49 : decode cX7_law 49 = .ok (.ireturn, 1) := by decide +kernel
theorem dX7_law_50 : decode cX7_law 50 = .ok (.aload_n 0, 1) := by decide +kernel
theorem dX7_law_51 : decode cX7_law 51 = .ok (.getfield 62, 3) := by decide +kernel
theorem dX7_law_54 : decode cX7_law 54 = .ok (.aload_n 1, 1) := by decide +kernel
theorem dX7_law_55 : decode cX7_law 55 = .ok (.putfield 104, 3) := by decide +kernel
theorem dX7_law_58 : decode cX7_law 58 = .ok (.aload_n 0, 1) := by decide +kernel
theorem dX7_law_59 : decode cX7_law 59 = .ok (.dup, 1) := by decide +kernel
theorem dX7_law_60 : decode cX7_law 60 = .ok (.getfield 97, 3) := by decide +kernel
theorem dX7_law_63 : decode cX7_law 63 = .ok (.iconst 1, 1) := by decide +kernel
theorem dX7_law_64 : decode cX7_law 64 = .ok (.iadd, 1) := by decide +kernel
theorem dX7_law_65 : decode cX7_law 65 = .ok (.putfield 97, 3) := by decide +kernel
theorem dX7_law_68 : decode cX7_law 68 = .ok (.aload_n 0, 1) := by decide +kernel
theorem dX7_law_69 : decode cX7_law 69 = .ok (.getfield 97, 3) := by decide +kernel
theorem dX7_law_72 : decode cX7_law 72 = .ok (.iconst 1, 1) := by decide +kernel
theorem dX7_law_73 : decode cX7_law 73 = .ok (.isub, 1) := by decide +kernel
theorem dX7_law_74 : decode cX7_law 74 = .ok (.ireturn, 1) := by decide +kernel
theorem dX7_goes_0 : decode cX7_goes 0 = .ok (.aload_n 0, 1) := by decide +kernel
theorem dX7_goes_1 : decode cX7_goes 1 = .ok (.iload_n 1, 1) := by decide +kernel
theorem dX7_goes_2 : decode cX7_goes 2 = .ok (.invokevirtual 77, 3) := by decide +kernel
theorem dX7_goes_5 : decode cX7_goes 5 = .ok (.ifCond .eq 11, 3) := by decide +kernel
theorem dX7_goes_8 : decode cX7_goes 8 = .ok (.aload_n 0, 1) := by decide +kernel
theorem dX7_goes_9 : decode cX7_goes 9 = .ok (.iload_n 2, 1) := by decide +kernel
theorem dX7_goes_10 : decode cX7_goes 10 = .ok (.invokevirtual 77, 3) := by decide +kernel
theorem dX7_goes_13 : decode cX7_goes 13 = .ok (.ifCond .ne 5, 3) := by decide +kernel
theorem dX7_goes_16 : decode cX7_goes 16 = .ok (.iconst (-1), 1) := by decide +kernel
theorem dX7_goes_17 : decode cX7_goes 17 = .ok (.ireturn, 1) := by decide +kernel
theorem dX7_goes_18 : decode cX7_goes 18 = .ok (.iload_n 1, 1) := by decide +kernel
theorem dX7_goes_19 : decode cX7_goes 19 = .ok (.iload_n 2, 1) := by decide +kernel
theorem dX7_goes_20 : decode cX7_goes 20 = .ok (.if_icmp .ne 6, 3) := by decide +kernel
theorem dX7_goes_23 : decode cX7_goes 23 = .ok (.bipush (-2), 2) := by decide +kernel
theorem dX7_goes_25 : decode cX7_goes 25 = .ok (.ireturn, 1) := by decide +kernel
theorem dX7_goes_26 : decode cX7_goes 26 = .ok (.aload_n 0, 1) := by decide +kernel
theorem dX7_goes_27 : decode cX7_goes 27 = .ok (.getfield 62, 3) := by decide +kernel
theorem dX7_goes_30 : decode cX7_goes 30 = .ok (.iload_n 1, 1) := by decide +kernel
theorem dX7_goes_31 : decode cX7_goes 31 = .ok (.iload_n 2, 1) := by decide +kernel
theorem dX7_goes_32 : decode cX7_goes 32 = .ok (.invokevirtual 108, 3) := by decide +kernel
theorem dX7_goes_35 : decode cX7_goes 35 = .ok (.ireturn, 1) := by decide +kernel
theorem dX7_habit_0 : decode cX7_habit 0 = .ok (.aload_n 0, 1) := by decide +kernel
theorem dX7_habit_1 : decode cX7_habit 1 = .ok (.iload_n 1, 1) := by decide +kernel
theorem dX7_habit_2 : decode cX7_habit 2 = .ok (.invokevirtual 77, 3) := by decide +kernel
theorem dX7_habit_5 : decode cX7_habit 5 = .ok (.ifCond .eq 10, 3) := by decide +kernel
theorem dX7_habit_8 : decode cX7_habit 8 = .ok (.iload_n 2, 1) := by decide +kernel
theorem dX7_habit_9 : decode cX7_habit 9 = .ok (.invokestatic 112, 3) := by decide +kernel
theorem dX7_habit_12 : decode cX7_habit 12 = .ok (.ifCond .ne 5, 3) := by decide +kernel
theorem dX7_habit_15 : decode cX7_habit 15 = .ok (.iconst (-1), 1) := by decide +kernel
theorem dX7_habit_16 : decode cX7_habit 16 = .ok (.ireturn, 1) := by decide +kernel
theorem dX7_habit_17 : decode cX7_habit 17 = .ok (.aload_n 0, 1) := by decide +kernel
theorem dX7_habit_18 : decode cX7_habit 18 = .ok (.iload_n 1, 1) := by decide +kernel
theorem dX7_habit_19 : decode cX7_habit 19 = .ok (.iload_n 2, 1) := by decide +kernel
theorem dX7_habit_20 : decode cX7_habit 20 = .ok (.invokevirtual 115, 3) := by decide +kernel
theorem dX7_habit_23 : decode cX7_habit 23 = .ok (.ireturn, 1) := by decide +kernel
theorem dX7_knows_0 : decode cX7_knows 0 = .ok (.aload_n 0, 1) := by decide +kernel
theorem dX7_knows_1 : decode cX7_knows 1 = .ok (.iload_n 1, 1) := by decide +kernel
theorem dX7_knows_2 : decode cX7_knows 2 = .ok (.invokevirtual 77, 3) := by decide +kernel
theorem dX7_knows_5 : decode cX7_knows 5 = .ok (.ifCond .ne 5, 3) := by decide +kernel
theorem dX7_knows_8 : decode cX7_knows 8 = .ok (.iconst (-1), 1) := by decide +kernel
theorem dX7_knows_9 : decode cX7_knows 9 = .ok (.ireturn, 1) := by decide +kernel
theorem dX7_knows_10 : decode cX7_knows 10 = .ok (.aload_n 0, 1) := by decide +kernel
