theorem dX5_cell_122 : decode cX5_cell 122 = .ok (.iload_n 3, 1) := by decide +kernel
theorem dX5_cell_123 : decode cX5_cell 123 = .ok (.iaload, 1) := by decide +kernel
theorem dX5_cell_124 : decode cX5_cell 124 = .ok (.invokestatic 128, 3) := by decide +kernel
theorem dX5_cell_127 : decode cX5_cell 127 = .ok (.iastore, 1) := by decide +kernel
theorem dX5_cell_128 : decode cX5_cell 128 = .ok (.aload_n 0, 1) := by decide +kernel
theorem dX5_cell_129 : decode cX5_cell 129 = .ok (.getfield 41, 3) := by decide +kernel
theorem dX5_cell_132 : decode cX5_cell 132 = .ok (.iload_n 3, 1) := by decide +kernel
theorem dX5_cell_133 : decode cX5_cell 133 = .ok (.iaload, 1) := by decide +kernel
theorem dX5_cell_134 : decode cX5_cell 134 = .ok (.istore 4, 2) := by decide +kernel
theorem dX5_cell_136 : decode cX5_cell 136 = .ok (.iconst 0, 1) := by decide +kernel
theorem dX5_cell_137 : decode cX5_cell 137 = .ok (.istore 5, 2) := by decide +kernel
theorem dX5_cell_139 : decode cX5_cell 139 = .ok (.iload 5, 2) := by decide +kernel
theorem dX5_cell_141 : decode cX5_cell 141 = .ok (.iload 4, 2) := by decide +kernel
theorem dX5_cell_143 : decode cX5_cell 143 = .ok (.if_icmp .ge 24, 3) := by decide +kernel
theorem dX5_cell_146 : decode cX5_cell 146 = .ok (.aload_n 0, 1) := by decide +kernel
theorem dX5_cell_147 : decode cX5_cell 147 = .ok (.getfield 50, 3) := by decide +kernel
theorem dX5_cell_150 : decode cX5_cell 150 = .ok (.sipush 300, 3) := by decide +kernel
theorem dX5_cell_153 : decode cX5_cell 153 = .ok (.iload_n 3, 1) := by decide +kernel
theorem dX5_cell_154 : decode cX5_cell 154 = .ok (.imul, 1) := by decide +kernel
theorem dX5_cell_155 : decode cX5_cell 155 = .ok (.iload 5, 2) := by decide +kernel
theorem dX5_cell_157 : decode cX5_cell 157 = .ok (.iadd, 1) := by decide +kernel
theorem dX5_cell_158 : decode cX5_cell 158 = .ok (.iload 4, 2) := by decide +kernel
theorem dX5_cell_160 : decode cX5_cell 160 = .ok (.iastore, 1) := by decide +kernel
theorem dX5_cell_161 : decode cX5_cell 161 = .ok (.iinc 5 1, 3) := by decide +kernel
theorem dX5_cell_164 : decode cX5_cell 164 = .ok (.goto (-25), 3) := by decide +kernel
theorem dX5_cell_167 : decode cX5_cell 167 = .ok (.bipush (-13), 2) := by decide +kernel
theorem dX5_cell_169 : decode cX5_cell 169 = .ok (.istore 5, 2) := by decide +kernel
theorem dX5_cell_171 : decode cX5_cell 171 = .ok (.iload 5, 2) := by decide +kernel
theorem dX5_cell_173 : decode cX5_cell 173 = .ok (.bipush 13, 2) := by decide +kernel
theorem dX5_cell_175 : decode cX5_cell 175 = .ok (.if_icmp .gt 71, 3) := by decide +kernel
theorem dX5_cell_178 : decode cX5_cell 178 = .ok (.bipush (-13), 2) := by decide +kernel
theorem dX5_cell_180 : decode cX5_cell 180 = .ok (.istore 6, 2) := by decide +kernel
theorem dX5_cell_182 : decode cX5_cell 182 = .ok (.iload 6, 2) := by decide +kernel
theorem dX5_cell_184 : decode cX5_cell 184 = .ok (.bipush 13, 2) := by decide +kernel
theorem dX5_cell_186 : decode cX5_cell 186 = .ok (.if_icmp .gt 54, 3) := by decide +kernel
theorem dX5_cell_189 : decode cX5_cell 189 = .ok (.sipush 300, 3) := by decide +kernel
theorem dX5_cell_192 : decode cX5_cell 192 = .ok (.iload_n 3, 1) := by decide +kernel
theorem dX5_cell_193 : decode cX5_cell 193 = .ok (.imul, 1) := by decide +kernel
theorem dX5_cell_194 : decode cX5_cell 194 = .ok (.aload_n 0, 1) := by decide +kernel
theorem dX5_cell_195 : decode cX5_cell 195 = .ok (.iload_n 3, 1) := by decide +kernel
theorem dX5_cell_196 : decode cX5_cell 196 = .ok (.iload 6, 2) := by decide +kernel
theorem dX5_cell_198 : decode cX5_cell 198 = .ok (.iload 5, 2) := by decide +kernel
theorem dX5_cell_200 : decode cX5_cell 200 = .ok (.invokevirtual 131, 3) := by decide +kernel
theorem dX5_cell_203 : decode cX5_cell 203 = .ok (.iadd, 1) := by decide +kernel
theorem dX5_cell_204 : decode cX5_cell 204 = .ok (.istore 7, 2) := by decide +kernel
theorem dX5_cell_206 : decode cX5_cell 206 = .ok (.aload_n 0, 1) := by decide +kernel
theorem dX5_cell_207 : decode cX5_cell 207 = .ok (.getfield 50, 3) := by decide +kernel
theorem dX5_cell_210 : decode cX5_cell 210 = .ok (.iload 7, 2) := by decide +kernel
theorem dX5_cell_212 : decode cX5_cell 212 = .ok (.aload_n 0, 1) := by decide +kernel
theorem dX5_cell_213 : decode cX5_cell 213 = .ok (.getfield 50, 3) := by decide +kernel
theorem dX5_cell_216 : decode cX5_cell 216 = .ok (.iload 7, 2) := by decide +kernel
theorem dX5_cell_218 : decode cX5_cell 218 = .ok (.iaload, 1) := by decide +kernel
theorem dX5_cell_219 : decode cX5_cell 219 = .ok (.iload 6, 2) := by decide +kernel
theorem dX5_cell_221 : decode cX5_cell 221 = .ok (.iload 6, 2) := by decide +kernel
theorem dX5_cell_223 : decode cX5_cell 223 = .ok (.imul, 1) := by decide +kernel
theorem dX5_cell_224 : decode cX5_cell 224 = .ok (.iload 5, 2) := by decide +kernel
theorem dX5_cell_226 : decode cX5_cell 226 = .ok (.iload 5, 2) := by decide +kernel
theorem dX5_cell_228 : decode cX5_cell 228 = .ok (.imul, 1) := by decide +kernel
theorem dX5_cell_229 : decode cX5_cell 229 = .ok (.iadd, 1) := by decide +kernel
theorem dX5_cell_230 : decode cX5_cell 230 = .ok (.invokestatic 76, 3) := by decide +kernel
theorem dX5_cell_233 : decode cX5_cell 233 = .ok (.iastore, 1) := by decide +kernel
theorem dX5_cell_234 : decode cX5_cell 234 = .ok (.iinc 6 1, 3) := by decide +kernel
theorem dX5_cell_237 : decode cX5_cell 237 = .ok (.goto (-55), 3) := by decide +kernel
theorem dX5_cell_240 : decode cX5_cell 240 = .ok (.iinc 5 1, 3) := by decide +kernel
theorem dX5_cell_243 : decode cX5_cell 243 = .ok (.goto (-72), 3) := by decide +kernel
theorem dX5_cell_246 : decode cX5_cell 246 = .ok (.iconst 0, 1) := by decide +kernel
theorem dX5_cell_247 : decode cX5_cell 247 = .ok (.istore 5, 2) := by decide +kernel
theorem dX5_cell_249 : decode cX5_cell 249 = .ok (.iload 5, 2) := by decide +kernel
theorem dX5_cell_251 : decode cX5_cell 251 = .ok (.iload 4, 2) := by decide +kernel
theorem dX5_cell_253 : decode cX5_cell 253 = .ok (.if_icmp .ge 99, 3) := by decide +kernel
theorem dX5_cell_256 : decode cX5_cell 256 = .ok (.iconst 0, 1) := by decide +kernel
theorem dX5_cell_257 : decode cX5_cell 257 = .ok (.istore 6, 2) := by decide +kernel
theorem dX5_cell_259 : decode cX5_cell 259 = .ok (.iconst 0, 1) := by decide +kernel
theorem dX5_cell_260 : decode cX5_cell 260 = .ok (.istore 7, 2) := by decide +kernel
theorem dX5_cell_262 : decode cX5_cell 262 = .ok (.iload 7, 2) := by decide +kernel
theorem dX5_cell_264 : decode cX5_cell 264 = .ok (.iload 4, 2) := by decide +kernel
theorem dX5_cell_266 : decode cX5_cell 266 = .ok (.if_icmp .ge 65, 3) := by decide +kernel
theorem dX5_cell_269 : decode cX5_cell 269 = .ok (.aload_n 0, 1) := by decide +kernel
theorem dX5_cell_270 : decode cX5_cell 270 = .ok (.getfield 50, 3) := by decide +kernel
theorem dX5_cell_273 : decode cX5_cell 273 = .ok (.sipush 300, 3) := by decide +kernel
theorem dX5_cell_276 : decode cX5_cell 276 = .ok (.iload_n 3, 1) := by decide +kernel
theorem dX5_cell_277 : decode cX5_cell 277 = .ok (.imul, 1) := by decide +kernel
theorem dX5_cell_278 : decode cX5_cell 278 = .ok (.iload 7, 2) := by decide +kernel
theorem dX5_cell_280 : decode cX5_cell 280 = .ok (.iadd, 1) := by decide +kernel
theorem dX5_cell_281 : decode cX5_cell 281 = .ok (.iaload, 1) := by decide +kernel
theorem dX5_cell_282 : decode cX5_cell 282 = .ok (.aload_n 0, 1) := by decide +kernel
theorem dX5_cell_283 : decode cX5_cell 283 = .ok (.getfield 50, 3) := by decide +kernel
theorem dX5_cell_286 : decode cX5_cell 286 = .ok (.sipush 300, 3) := by decide +kernel
theorem dX5_cell_289 : decode cX5_cell 289 = .ok (.iload_n 3, 1) := by decide +kernel
theorem dX5_cell_290 : decode cX5_cell 290 = .ok (.imul, 1) := by decide +kernel
theorem dX5_cell_291 : decode cX5_cell 291 = .ok (.iload 5, 2) := by decide +kernel
theorem dX5_cell_293 : decode cX5_cell 293 = .ok (.iadd, 1) := by decide +kernel
theorem dX5_cell_294 : decode cX5_cell 294 = .ok (.iaload, 1) := by decide +kernel
theorem dX5_cell_295 : decode cX5_cell 295 = .ok (.isub, 1) := by decide +kernel
theorem dX5_cell_296 : decode cX5_cell 296 = .ok (.istore 8, 2) := by decide +kernel
theorem dX5_cell_298 : decode cX5_cell 298 = .ok (.iload 6, 2) := by decide +kernel
theorem dX5_cell_300 : decode cX5_cell 300 = .ok (.iload 8, 2) := by decide +kernel
theorem dX5_cell_302 : decode cX5_cell 302 = .ok (.ifCond .lt 15, 3) := by decide +kernel
theorem dX5_cell_305 : decode cX5_cell 305 = .ok (.iload 8, 2) := by decide +kernel
theorem dX5_cell_307 : decode cX5_cell 307 = .ok (.ifCond .ne 14, 3) := by decide +kernel
theorem dX5_cell_310 : decode cX5_cell 310 = .ok (.iload 7, 2) := by decide +kernel
theorem dX5_cell_312 : decode cX5_cell 312 = .ok (.iload 5, 2) := by decide +kernel
theorem dX5_cell_314 : decode cX5_cell 314 = .ok (.if_icmp .ge 7, 3) := by decide +kernel
theorem dX5_cell_317 : decode cX5_cell 317 = .ok (.iconst 1, 1) := by decide +kernel
theorem dX5_cell_318 : decode cX5_cell 318 = .ok (.goto 4, 3) := by decide +kernel
theorem dX5_cell_321 : decode cX5_cell 321 = .ok (.iconst 0, 1) := by decide +kernel
theorem dX5_cell_322 : decode cX5_cell 322 = .ok (.iadd, 1) := by decide +kernel
theorem dX5_cell_323 : decode cX5_cell 323 = .ok (.istore 6, 2) := by decide +kernel
theorem dX5_cell_325 : decode cX5_cell 325 = .ok (.iinc 7 1, 3) := by decide +kernel
theorem dX5_cell_328 : decode cX5_cell 328 = .ok (.goto (-66), 3) := by decide +kernel
theorem dX5_cell_331 : decode cX5_cell 331 = .ok (.aload_n 0, 1) := by decide +kernel
theorem dX5_cell_332 : decode cX5_cell 332 = .ok (.getfield 53, 3) := by decide +kernel
theorem dX5_cell_335 : decode cX5_cell 335 = .ok (.sipush 300, 3) := by decide +kernel
theorem dX5_cell_338 : decode cX5_cell 338 = .ok (.iload_n 3, 1) := by decide +kernel
theorem dX5_cell_339 : decode cX5_cell 339 = .ok (.imul, 1) := by decide +kernel
theorem dX5_cell_340 : decode cX5_cell 340 = .ok (.iload 5, 2) := by decide +kernel
theorem dX5_cell_342 : decode cX5_cell 342 = .ok (.iadd, 1) := by decide +kernel
theorem dX5_cell_343 : decode cX5_cell 343 = .ok (.iload 6, 2) := by decide +kernel
theorem dX5_cell_345 : decode cX5_cell 345 = .ok (.iastore, 1) := by decide +kernel
theorem dX5_cell_346 : decode cX5_cell 346 = .ok (.iinc 5 1, 3) := by decide +kernel
theorem dX5_cell_349 : decode cX5_cell 349 = .ok (.goto (-100), 3) := by decide +kernel
theorem dX5_cell_352 : decode cX5_cell 352 = .ok (.aload_n 0, 1) := by decide +kernel
theorem dX5_cell_353 : decode cX5_cell 353 = .ok (.dup, 1) := by decide +kernel
theorem dX5_cell_354 : decode cX5_cell 354 = .ok (.getfield 119, 3) := by decide +kernel
theorem dX5_cell_357 : decode cX5_cell 357 = .ok (.iconst 1, 1) := by decide +kernel
theorem dX5_cell_358 : decode cX5_cell 358 = .ok (.iadd, 1) := by decide +kernel
theorem dX5_cell_359 : decode cX5_cell 359 = .ok (.putfield 119, 3) := by decide +kernel
theorem dX5_cell_362 : decode cX5_cell 362 = .ok (.iload_n 3, 1) := by decide +kernel
theorem dX5_cell_363 : decode cX5_cell 363 = .ok (.ireturn, 1) := by decide +kernel
theorem dX5_isCell_0 : decode cX5_isCell 0 = .ok (.iload_n 1, 1) := by decide +kernel
theorem dX5_isCell_1 : decode cX5_isCell 1 = .ok (.ifCond .lt 15, 3) := by decide +kernel
theorem dX5_isCell_4 : decode cX5_isCell 4 = .ok (.iload_n 1, 1) := by decide +kernel
theorem dX5_isCell_5 : decode cX5_isCell 5 = .ok (.aload_n 0, 1) := by decide +kernel
theorem dX5_isCell_6 : decode cX5_isCell 6 = .ok (.getfield 119, 3) := by decide +kernel
theorem dX5_isCell_9 : decode cX5_isCell 9 = .ok (.if_icmp .ge 7, 3) := by decide +kernel
theorem dX5_isCell_12 : decode cX5_isCell 12 = .ok (.iconst 1, 1) := by decide +kernel
theorem dX5_isCell_13 : decode cX5_isCell 13 = .ok (.goto 4, 3) := by decide +kernel
theorem dX5_isCell_16 : decode cX5_isCell 16 = .ok (.iconst 0, 1) := by decide +kernel
theorem dX5_isCell_17 : decode cX5_isCell 17 = .ok (.ireturn, 1) := by decide +kernel
theorem dX5_rank_0 : decode cX5_rank 0 = .ok (.aload_n 0, 1) := by decide +kernel
theorem dX5_rank_1 : decode cX5_rank 1 = .ok (.aload_n 0, 1) := by decide +kernel
theorem dX5_rank_2 : decode cX5_rank 2 = .ok (.iload_n 1, 1) := by decide +kernel
theorem dX5_rank_3 : decode cX5_rank 3 = .ok (.invokevirtual 134, 3) := by decide +kernel
theorem dX5_rank_6 : decode cX5_rank 6 = .ok (.ifCond .eq 22, 3) := by decide +kernel
theorem dX5_rank_9 : decode cX5_rank 9 = .ok (.iload_n 2, 1) := by decide +kernel
theorem dX5_rank_10 : decode cX5_rank 10 = .ok (.iconst (-1), 1) := by decide +kernel
theorem dX5_rank_11 : decode cX5_rank 11 = .ok (.if_icmp .lt 17, 3) := by decide +kernel
theorem dX5_rank_14 : decode cX5_rank 14 = .ok (.iload_n 2, 1) := by decide +kernel
theorem dX5_rank_15 : decode cX5_rank 15 = .ok (.aload_n 0, 1) := by decide +kernel
theorem dX5_rank_16 : decode cX5_rank 16 = .ok (.getfield 41, 3) := by decide +kernel
theorem dX5_rank_19 : decode cX5_rank 19 = .ok (.iload_n 1, 1) := by decide +kernel
theorem dX5_rank_20 : decode cX5_rank 20 = .ok (.iaload, 1) := by decide +kernel
theorem dX5_rank_21 : decode cX5_rank 21 = .ok (.if_icmp .ge 7, 3) := by decide +kernel
theorem dX5_rank_24 : decode cX5_rank 24 = .ok (.iconst 0, 1) := by decide +kernel
theorem dX5_rank_25 : decode cX5_rank 25 = .ok (.goto 4, 3) := by decide +kernel
theorem dX5_rank_28 : decode cX5_rank 28 = .ok (.iconst 1, 1) := by decide +kernel
theorem dX5_rank_29 : decode cX5_rank 29 = .ok (.putfield 62, 3) := by decide +kernel
theorem dX5_rank_32 : decode cX5_rank 32 = .ok (.aload_n 0, 1) := by decide +kernel
theorem dX5_rank_33 : decode cX5_rank 33 = .ok (.getfield 62, 3) := by decide +kernel
theorem dX5_rank_36 : decode cX5_rank 36 = .ok (.ifCond .le 7, 3) := by decide +kernel
theorem dX5_rank_39 : decode cX5_rank 39 = .ok (.iconst 0, 1) := by decide +kernel
theorem dX5_rank_40 : decode cX5_rank 40 = .ok (.goto 29, 3) := by decide +kernel
theorem dX5_rank_43 : decode cX5_rank 43 = .ok (.iload_n 2, 1) := by decide +kernel
theorem dX5_rank_44 : decode cX5_rank 44 = .ok (.iconst (-1), 1) := by decide +kernel
theorem dX5_rank_45 : decode cX5_rank 45 = .ok (.if_icmp .ne 12, 3) := by decide +kernel
theorem dX5_rank_48 : decode cX5_rank 48 = .ok (.aload_n 0, 1) := by decide +kernel
theorem dX5_rank_49 : decode cX5_rank 49 = .ok (.getfield 41, 3) := by decide +kernel
theorem dX5_rank_52 : decode cX5_rank 52 = .ok (.iload_n 1, 1) := by decide +kernel
theorem dX5_rank_53 : decode cX5_rank 53 = .ok (.iaload, 1) := by decide +kernel
theorem dX5_rank_54 : decode cX5_rank 54 = .ok (.goto 15, 3) := by decide +kernel
theorem dX5_rank_57 : decode cX5_rank 57 = .ok (.aload_n 0, 1) := by decide +kernel
theorem dX5_rank_58 : decode cX5_rank 58 = .ok (.getfield 53, 3) := by decide +kernel
theorem dX5_rank_61 : decode cX5_rank 61 = .ok (.sipush 300, 3) := by decide +kernel
theorem dX5_rank_64 : decode cX5_rank 64 = .ok (.iload_n 1, 1) := by decide +kernel
theorem dX5_rank_65 : decode cX5_rank 65 = .ok (.imul, 1) := by decide +kernel
theorem dX5_rank_66 : decode cX5_rank 66 = .ok (.iload_n 2, 1) := by decide +kernel
theorem dX5_rank_67 : decode cX5_rank 67 = .ok (.iadd, 1) := by decide +kernel
theorem dX5_rank_68 : decode cX5_rank 68 = .ok (.iaload, 1) := by decide +kernel
theorem dX5_rank_69 : decode cX5_rank 69 = .ok (.ireturn, 1) := by decide +kernel
theorem dX5_isNear_0 : decode cX5_isNear 0 = .ok (.iload_n 0, 1) := by decide +kernel
theorem dX5_isNear_1 : decode cX5_isNear 1 = .ok (.ldc 137, 2) := by decide +kernel
theorem dX5_isNear_3 : decode cX5_isNear 3 = .ok (.if_icmp .lt 13, 3) := by decide +kernel
theorem dX5_isNear_6 : decode cX5_isNear 6 = .ok (.iload_n 0, 1) := by decide +kernel
theorem dX5_isNear_7 : decode cX5_isNear 7 = .ok (.ldc 138, 2) := by decide +kernel
theorem dX5_isNear_9 : decode cX5_isNear 9 = .ok (.if_icmp .gt 7, 3) := by decide +kernel
theorem dX5_isNear_12 : decode cX5_isNear 12 = .ok (.iconst 1, 1) := by decide +kernel
theorem dX5_isNear_13 : decode cX5_isNear 13 = .ok (.goto 4, 3) := by decide +kernel
theorem dX5_isNear_16 : decode cX5_isNear 16 = .ok (.iconst 0, 1) := by decide +kernel
theorem dX5_isNear_17 : decode cX5_isNear 17 = .ok (.ireturn, 1) := by decide +kernel
theorem dX5_same_0 : decode cX5_same 0 = .ok (.aload_n 0, 1) := by decide +kernel
theorem dX5_same_1 : decode cX5_same 1 = .ok (.aload_n 0, 1) := by decide +kernel
theorem dX5_same_2 : decode cX5_same 2 = .ok (.iload_n 1, 1) := by decide +kernel
theorem dX5_same_3 : decode cX5_same 3 = .ok (.invokevirtual 134, 3) := by decide +kernel
theorem dX5_same_6 : decode cX5_same 6 = .ok (.ifCond .ne 7, 3) := by decide +kernel
theorem dX5_same_9 : decode cX5_same 9 = .ok (.iconst 1, 1) := by decide +kernel
theorem dX5_same_10 : decode cX5_same 10 = .ok (.goto 22, 3) := by decide +kernel
theorem dX5_same_13 : decode cX5_same 13 = .ok (.iload_n 2, 1) := by decide +kernel
theorem dX5_same_14 : decode cX5_same 14 = .ok (.invokestatic 139, 3) := by decide +kernel
theorem dX5_same_17 : decode cX5_same 17 = .ok (.ifCond .eq 10, 3) := by decide +kernel
theorem dX5_same_20 : decode cX5_same 20 = .ok (.iload_n 3, 1) := by decide +kernel
theorem dX5_same_21 : decode cX5_same 21 = .ok (.invokestatic 139, 3) := by decide +kernel
theorem dX5_same_24 : decode cX5_same 24 = .ok (.ifCond .ne 7, 3) := by decide +kernel
theorem dX5_same_27 : decode cX5_same 27 = .ok (.iconst 2, 1) := by decide +kernel
theorem dX5_same_28 : decode cX5_same 28 = .ok (.goto 4, 3) := by decide +kernel
theorem dX5_same_31 : decode cX5_same 31 = .ok (.iconst 0, 1) := by decide +kernel
theorem dX5_same_32 : decode cX5_same 32 = .ok (.putfield 62, 3) := by decide +kernel
theorem dX5_same_35 : decode cX5_same 35 = .ok (.aload_n 0, 1) := by decide +kernel
theorem dX5_same_36 : decode cX5_same 36 = .ok (.getfield 62, 3) := by decide +kernel
theorem dX5_same_39 : decode cX5_same 39 = .ok (.ifCond .le 7, 3) := by decide +kernel
theorem dX5_same_42 : decode cX5_same 42 = .ok (.iconst 0, 1) := by decide +kernel
theorem dX5_same_43 : decode cX5_same 43 = .ok (.goto 10, 3) := by decide +kernel
theorem dX5_same_46 : decode cX5_same 46 = .ok (.aload_n 0, 1) := by decide +kernel
theorem dX5_same_47 : decode cX5_same 47 = .ok (.iload_n 1, 1) := by decide +kernel
theorem dX5_same_48 : decode cX5_same 48 = .ok (.iload_n 2, 1) := by decide +kernel
theorem dX5_same_49 : decode cX5_same 49 = .ok (.iload_n 3, 1) := by decide +kernel
theorem dX5_same_50 : decode cX5_same 50 = .ok (.invokevirtual 131, 3) := by decide +kernel
theorem dX5_same_53 : decode cX5_same 53 = .ok (.ireturn, 1) := by decide +kernel
theorem dX5_prints_0 : decode cX5_prints 0 = .ok (.aload_n 0, 1) := by decide +kernel
theorem dX5_prints_1 : decode cX5_prints 1 = .ok (.aload_n 0, 1) := by decide +kernel
theorem dX5_prints_2 : decode cX5_prints 2 = .ok (.iload_n 1, 1) := by decide +kernel
theorem dX5_prints_3 : decode cX5_prints 3 = .ok (.invokevirtual 134, 3) := by decide +kernel
theorem dX5_prints_6 : decode cX5_prints 6 = .ok (.ifCond .eq 25, 3) := by decide +kernel
theorem dX5_prints_9 : decode cX5_prints 9 = .ok (.aload_n 0, 1) := by decide +kernel
theorem dX5_prints_10 : decode cX5_prints 10 = .ok (.iload_n 2, 1) := by decide +kernel
theorem dX5_prints_11 : decode cX5_prints 11 = .ok (.invokevirtual 69, 3) := by decide +kernel
theorem dX5_prints_14 : decode cX5_prints 14 = .ok (.ifCond .eq 17, 3) := by decide +kernel
theorem dX5_prints_17 : decode cX5_prints 17 = .ok (.aload_n 0, 1) := by decide +kernel
theorem dX5_prints_18 : decode cX5_prints 18 = .ok (.iload_n 3, 1) := by decide +kernel
theorem dX5_prints_19 : decode cX5_prints 19 = .ok (.iload 4, 2) := by decide +kernel
theorem dX5_prints_21 : decode cX5_prints 21 = .ok (.invokevirtual 106, 3) := by decide +kernel
theorem dX5_prints_24 : decode cX5_prints 24 = .ok (.ifCond .eq 7, 3) := by decide +kernel
theorem dX5_prints_27 : decode cX5_prints 27 = .ok (.iconst 0, 1) := by decide +kernel
theorem dX5_prints_28 : decode cX5_prints 28 = .ok (.goto 4, 3) := by decide +kernel
theorem dX5_prints_31 : decode cX5_prints 31 = .ok (.iconst 1, 1) := by decide +kernel
theorem dX5_prints_32 : decode cX5_prints 32 = .ok (.putfield 62, 3) := by decide +kernel
theorem dX5_prints_35 : decode cX5_prints 35 = .ok (.aload_n 0, 1) := by decide +kernel
theorem dX5_prints_36 : decode cX5_prints 36 = .ok (.getfield 62, 3) := by decide +kernel
theorem dX5_prints_39 : decode cX5_prints 39 = .ok (.ifCond .ne 55, 3) := by decide +kernel
theorem dX5_prints_42 : decode cX5_prints 42 = .ok (.aload_n 0, 1) := by decide +kernel
theorem dX5_prints_43 : decode cX5_prints 43 = .ok (.getfield 53, 3) := by decide +kernel
theorem dX5_prints_46 : decode cX5_prints 46 = .ok (.sipush 300, 3) := by decide +kernel
theorem dX5_prints_49 : decode cX5_prints 49 = .ok (.iload_n 1, 1) := by decide +kernel
theorem dX5_prints_50 : decode cX5_prints 50 = .ok (.imul, 1) := by decide +kernel
theorem dX5_prints_51 : decode cX5_prints 51 = .ok (.aload_n 0, 1) := by decide +kernel
theorem dX5_prints_52 : decode cX5_prints 52 = .ok (.iload_n 1, 1) := by decide +kernel
theorem dX5_prints_53 : decode cX5_prints 53 = .ok (.iload_n 3, 1) := by decide +kernel
theorem dX5_prints_54 : decode cX5_prints 54 = .ok (.iload 4, 2) := by decide +kernel
theorem dX5_prints_56 : decode cX5_prints 56 = .ok (.invokevirtual 131, 3) := by decide +kernel
theorem dX5_prints_59 : decode cX5_prints 59 = .ok (.iadd, 1) := by decide +kernel
theorem dX5_prints_60 : decode cX5_prints 60 = .ok (.iaload, 1) := by decide +kernel
theorem dX5_prints_61 : decode cX5_prints 61 = .ok (.aload_n 0, 1) := by decide +kernel
theorem dX5_prints_62 : decode cX5_prints 62 = .ok (.aload_n 0, 1) := by decide +kernel
theorem dX5_prints_63 : decode cX5_prints 63 = .ok (.iload_n 3, 1) := by decide +kernel
theorem dX5_prints_64 : decode cX5_prints 64 = .ok (.iload 4, 2) := by decide +kernel
theorem dX5_prints_66 : decode cX5_prints 66 = .ok (.iload_n 2, 1) := by decide +kernel
theorem dX5_prints_67 : decode cX5_prints 67 = .ok (.invokevirtual 87, 3) := by decide +kernel
theorem dX5_prints_70 : decode cX5_prints 70 = .ok (.invokevirtual 113, 3) := by decide +kernel
theorem dX5_prints_73 : decode cX5_prints 73 = .ok (.aload_n 0, 1) := by decide +kernel
theorem dX5_prints_74 : decode cX5_prints 74 = .ok (.getfield 41, 3) := by decide +kernel
theorem dX5_prints_77 : decode cX5_prints 77 = .ok (.iload_n 1, 1) := by decide +kernel
theorem dX5_prints_78 : decode cX5_prints 78 = .ok (.iaload, 1) := by decide +kernel
theorem dX5_prints_79 : decode cX5_prints 79 = .ok (.imul, 1) := by decide +kernel
theorem dX5_prints_80 : decode cX5_prints 80 = .ok (.bipush 127, 2) := by decide +kernel
theorem dX5_prints_82 : decode cX5_prints 82 = .ok (.iadd, 1) := by decide +kernel
theorem dX5_prints_83 : decode cX5_prints 83 = .ok (.sipush 255, 3) := by decide +kernel
theorem dX5_prints_86 : decode cX5_prints 86 = .ok (.idiv, 1) := by decide +kernel
theorem dX5_prints_87 : decode cX5_prints 87 = .ok (.if_icmp .ge 7, 3) := by decide +kernel
theorem dX5_prints_90 : decode cX5_prints 90 = .ok (.iconst 1, 1) := by decide +kernel
theorem dX5_prints_91 : decode cX5_prints 91 = .ok (.goto 4, 3) := by decide +kernel
theorem dX5_prints_94 : decode cX5_prints 94 = .ok (.iconst 0, 1) := by decide +kernel
theorem dX5_prints_95 : decode cX5_prints 95 = .ok (.ireturn, 1) := by decide +kernel
theorem dX5_covered_0 : decode cX5_covered 0 = .ok (.aload_n 0, 1) := by decide +kernel
theorem dX5_covered_1 : decode cX5_covered 1 = .ok (.aload_n 0, 1) := by decide +kernel
theorem dX5_covered_2 : decode cX5_covered 2 = .ok (.iload_n 1, 1) := by decide +kernel
theorem dX5_covered_3 : decode cX5_covered 3 = .ok (.invokevirtual 69, 3) := by decide +kernel
theorem dX5_covered_6 : decode cX5_covered 6 = .ok (.ifCond .eq 7, 3) := by decide +kernel
theorem dX5_covered_9 : decode cX5_covered 9 = .ok (.iconst 0, 1) := by decide +kernel
theorem dX5_covered_10 : decode cX5_covered 10 = .ok (.goto 4, 3) := by decide +kernel
theorem dX5_covered_13 : decode cX5_covered 13 = .ok (.iconst 1, 1) := by decide +kernel
theorem dX5_covered_14 : decode cX5_covered 14 = .ok (.putfield 62, 3) := by decide +kernel
theorem dX5_covered_17 : decode cX5_covered 17 = .ok (.lconst 0, 1) := by decide +kernel
theorem dX5_covered_18 : decode cX5_covered 18 = .ok (.lstore_n 2, 1) := by decide +kernel
theorem dX5_covered_19 : decode cX5_covered 19 = .ok (.iconst 0, 1) := by decide +kernel
theorem dX5_covered_20 : decode cX5_covered 20 = .ok (.istore 4, 2) := by decide +kernel
theorem dX5_covered_22 : decode cX5_covered 22 = .ok (.iload 4, 2) := by decide +kernel
theorem dX5_covered_24 : decode cX5_covered 24 = .ok (.aload_n 0, 1) := by decide +kernel
theorem dX5_covered_25 : decode cX5_covered 25 = .ok (.getfield 59, 3) := by decide +kernel
theorem dX5_covered_28 : decode cX5_covered 28 = .ok (.if_icmp .ge 47, 3) := by decide +kernel
theorem dX5_covered_31 : decode cX5_covered 31 = .ok (.aload_n 0, 1) := by decide +kernel
theorem dX5_covered_32 : decode cX5_covered 32 = .ok (.getfield 62, 3) := by decide +kernel
theorem dX5_covered_35 : decode cX5_covered 35 = .ok (.ifCond .ne 40, 3) := by decide +kernel
theorem dX5_covered_38 : decode cX5_covered 38 = .ok (.iconst 0, 1) := by decide +kernel
theorem dX5_covered_39 : decode cX5_covered 39 = .ok (.istore 5, 2) := by decide +kernel
theorem dX5_covered_41 : decode cX5_covered 41 = .ok (.iload 5, 2) := by decide +kernel
theorem dX5_covered_43 : decode cX5_covered 43 = .ok (.aload_n 0, 1) := by decide +kernel
theorem dX5_covered_44 : decode cX5_covered 44 = .ok (.getfield 56, 3) := by decide +kernel
theorem dX5_covered_47 : decode cX5_covered 47 = .ok (.if_icmp .ge 22, 3) := by decide +kernel
theorem dX5_covered_50 : decode cX5_covered 50 = .ok (.lload_n 2, 1) := by decide +kernel
theorem dX5_covered_51 : decode cX5_covered 51 = .ok (.aload_n 0, 1) := by decide +kernel
theorem dX5_covered_52 : decode cX5_covered 52 = .ok (.iload 5, 2) := by decide +kernel
theorem dX5_covered_54 : decode cX5_covered 54 = .ok (.iload 4, 2) := by decide +kernel
theorem dX5_covered_56 : decode cX5_covered 56 = .ok (.iload_n 1, 1) := by decide +kernel
theorem dX5_covered_57 : decode cX5_covered 57 = .ok (.invokevirtual 87, 3) := by decide +kernel
theorem dX5_covered_60 : decode cX5_covered 60 = .ok (.i2l, 1) := by decide +kernel
theorem dX5_covered_61 : decode cX5_covered 61 = .ok (.ladd, 1) := by decide +kernel
theorem dX5_covered_62 : decode cX5_covered 62 = .ok (.lstore_n 2, 1) := by decide +kernel
theorem dX5_covered_63 : decode cX5_covered 63 = .ok (.iinc 5 1, 3) := by decide +kernel
theorem dX5_covered_66 : decode cX5_covered 66 = .ok (.goto (-25), 3) := by decide +kernel
theorem dX5_covered_69 : decode cX5_covered 69 = .ok (.iinc 4 1, 3) := by decide +kernel
theorem dX5_covered_72 : decode cX5_covered 72 = .ok (.goto (-50), 3) := by decide +kernel
theorem dX5_covered_75 : decode cX5_covered 75 = .ok (.lload_n 2, 1) := by decide +kernel
theorem dX5_covered_76 : decode cX5_covered 76 = .ok (.lreturn, 1) := by decide +kernel
theorem dX5_begins_0 : decode cX5_begins 0 = .ok (.iload_n 1, 1) := by decide +kernel
theorem dX5_begins_1 : decode cX5_begins 1 = .ok (.ifCond .eq 22, 3) := by decide +kernel
theorem dX5_begins_4 : decode cX5_begins 4 = .ok (.aload_n 0, 1) := by decide +kernel
theorem dX5_begins_5 : decode cX5_begins 5 = .ok (.iload_n 1, 1) := by decide +kernel
theorem dX5_begins_6 : decode cX5_begins 6 = .ok (.iload_n 2, 1) := by decide +kernel
theorem dX5_begins_7 : decode cX5_begins 7 = .ok (.iload_n 3, 1) := by decide +kernel
theorem dX5_begins_8 : decode cX5_begins 8 = .ok (.invokevirtual 87, 3) := by decide +kernel
theorem dX5_begins_11 : decode cX5_begins 11 = .ok (.aload_n 0, 1) := by decide +kernel
theorem dX5_begins_12 : decode cX5_begins 12 = .ok (.iload_n 1, 1) := by decide +kernel
theorem dX5_begins_13 : decode cX5_begins 13 = .ok (.iconst 1, 1) := by decide +kernel
theorem dX5_begins_14 : decode cX5_begins 14 = .ok (.isub, 1) := by decide +kernel
theorem dX5_begins_15 : decode cX5_begins 15 = .ok (.iload_n 2, 1) := by decide +kernel
theorem dX5_begins_16 : decode cX5_begins 16 = .ok (.iload_n 3, 1) := by decide +kernel
theorem dX5_begins_17 : decode cX5_begins 17 = .ok (.invokevirtual 87, 3) := by decide +kernel
theorem dX5_begins_20 : decode cX5_begins 20 = .ok (.if_icmp .eq 7, 3) := by decide +kernel
theorem dX5_begins_23 : decode cX5_begins 23 = .ok (.iconst 1, 1) := by decide +kernel
theorem dX5_begins_24 : decode cX5_begins 24 = .ok (.goto 4, 3) := by decide +kernel
theorem dX5_begins_27 : decode cX5_begins 27 = .ok (.iconst 0, 1) := by decide +kernel
theorem dX5_begins_28 : decode cX5_begins 28 = .ok (.ireturn, 1) := by decide +kernel
theorem dX5_runsOf_0 : decode cX5_runsOf 0 = .ok (.iconst 0, 1) := by decide +kernel
theorem dX5_runsOf_1 : decode cX5_runsOf 1 = .ok (.istore_n 2, 1) := by decide +kernel
theorem dX5_runsOf_2 : decode cX5_runsOf 2 = .ok (.iconst 0, 1) := by decide +kernel
theorem dX5_runsOf_3 : decode cX5_runsOf 3 = .ok (.istore_n 3, 1) := by decide +kernel
theorem dX5_runsOf_4 : decode cX5_runsOf 4 = .ok (.iload_n 3, 1) := by decide +kernel
theorem dX5_runsOf_5 : decode cX5_runsOf 5 = .ok (.aload_n 0, 1) := by decide +kernel
theorem dX5_runsOf_6 : decode cX5_runsOf 6 = .ok (.getfield 59, 3) := by decide +kernel
theorem dX5_runsOf_9 : decode cX5_runsOf 9 = .ok (.if_icmp .ge 46, 3) := by decide +kernel
theorem dX5_runsOf_12 : decode cX5_runsOf 12 = .ok (.iconst 0, 1) := by decide +kernel
theorem dX5_runsOf_13 : decode cX5_runsOf 13 = .ok (.istore 4, 2) := by decide +kernel
theorem dX5_runsOf_15 : decode cX5_runsOf 15 = .ok (.iload 4, 2) := by decide +kernel
theorem dX5_runsOf_17 : decode cX5_runsOf 17 = .ok (.aload_n 0, 1) := by decide +kernel
theorem dX5_runsOf_18 : decode cX5_runsOf 18 = .ok (.getfield 56, 3) := by decide +kernel
theorem dX5_runsOf_21 : decode cX5_runsOf 21 = .ok (.if_icmp .ge 28, 3) := by decide +kernel
theorem dX5_runsOf_24 : decode cX5_runsOf 24 = .ok (.iload_n 2, 1) := by decide +kernel
theorem dX5_runsOf_25 : decode cX5_runsOf 25 = .ok (.aload_n 0, 1) := by decide +kernel
theorem dX5_runsOf_26 : decode cX5_runsOf 26 = .ok (.iload 4, 2) := by decide +kernel
theorem dX5_runsOf_28 : decode cX5_runsOf 28 = .ok (.iload_n 3, 1) := by decide +kernel
theorem dX5_runsOf_29 : decode cX5_runsOf 29 = .ok (.iload_n 1, 1) := by decide +kernel
theorem dX5_runsOf_30 : decode cX5_runsOf 30 = .ok (.invokevirtual 142, 3) := by decide +kernel
theorem dX5_runsOf_33 : decode cX5_runsOf 33 = .ok (.ifCond .eq 7, 3) := by decide +kernel
theorem dX5_runsOf_36 : decode cX5_runsOf 36 = .ok (.iconst 1, 1) := by decide +kernel
theorem dX5_runsOf_37 : decode cX5_runsOf 37 = .ok (.goto 4, 3) := by decide +kernel
theorem dX5_runsOf_40 : decode cX5_runsOf 40 = .ok (.iconst 0, 1) := by decide +kernel
theorem dX5_runsOf_41 : decode cX5_runsOf 41 = .ok (.iadd, 1) := by decide +kernel
theorem dX5_runsOf_42 : decode cX5_runsOf 42 = .ok (.istore_n 2, 1) := by decide +kernel
theorem dX5_runsOf_43 : decode cX5_runsOf 43 = .ok (.iinc 4 1, 3) := by decide +kernel
theorem dX5_runsOf_46 : decode cX5_runsOf 46 = .ok (.goto (-31), 3) := by decide +kernel
theorem dX5_runsOf_49 : decode cX5_runsOf 49 = .ok (.iinc 3 1, 3) := by decide +kernel
theorem dX5_runsOf_52 : decode cX5_runsOf 52 = .ok (.goto (-48), 3) := by decide +kernel
theorem dX5_runsOf_55 : decode cX5_runsOf 55 = .ok (.iload_n 2, 1) := by decide +kernel
theorem dX5_runsOf_56 : decode cX5_runsOf 56 = .ok (.ireturn, 1) := by decide +kernel
theorem dX5_packed_0 : decode cX5_packed 0 = .ok (.aload_n 0, 1) := by decide +kernel
theorem dX5_packed_1 : decode cX5_packed 1 = .ok (.aload_n 0, 1) := by decide +kernel
theorem dX5_packed_2 : decode cX5_packed 2 = .ok (.iload_n 1, 1) := by decide +kernel
theorem dX5_packed_3 : decode cX5_packed 3 = .ok (.invokevirtual 69, 3) := by decide +kernel
theorem dX5_packed_6 : decode cX5_packed 6 = .ok (.ifCond .eq 23, 3) := by decide +kernel
theorem dX5_packed_9 : decode cX5_packed 9 = .ok (.iload_n 2, 1) := by decide +kernel
theorem dX5_packed_10 : decode cX5_packed 10 = .ok (.iconst (-1), 1) := by decide +kernel
theorem dX5_packed_11 : decode cX5_packed 11 = .ok (.if_icmp .lt 18, 3) := by decide +kernel
theorem dX5_packed_14 : decode cX5_packed 14 = .ok (.iload_n 2, 1) := by decide +kernel
theorem dX5_packed_15 : decode cX5_packed 15 = .ok (.iconst 2, 1) := by decide +kernel
theorem dX5_packed_16 : decode cX5_packed 16 = .ok (.aload_n 0, 1) := by decide +kernel
theorem dX5_packed_17 : decode cX5_packed 17 = .ok (.iload_n 1, 1) := by decide +kernel
theorem dX5_packed_18 : decode cX5_packed 18 = .ok (.invokevirtual 146, 3) := by decide +kernel
theorem dX5_packed_21 : decode cX5_packed 21 = .ok (.imul, 1) := by decide +kernel
theorem dX5_packed_22 : decode cX5_packed 22 = .ok (.if_icmp .ge 7, 3) := by decide +kernel
theorem dX5_packed_25 : decode cX5_packed 25 = .ok (.iconst 0, 1) := by decide +kernel
theorem dX5_packed_26 : decode cX5_packed 26 = .ok (.goto 4, 3) := by decide +kernel
theorem dX5_packed_29 : decode cX5_packed 29 = .ok (.iconst 1, 1) := by decide +kernel
theorem dX5_packed_30 : decode cX5_packed 30 = .ok (.putfield 62, 3) := by decide +kernel
theorem dX5_packed_33 : decode cX5_packed 33 = .ok (.aload_n 0, 1) := by decide +kernel
theorem dX5_packed_34 : decode cX5_packed 34 = .ok (.getfield 62, 3) := by decide +kernel
theorem dX5_packed_37 : decode cX5_packed 37 = .ok (.ifCond .gt 8, 3) := by decide +kernel
theorem dX5_packed_40 : decode cX5_packed 40 = .ok (.iload_n 2, 1) := by decide +kernel
theorem dX5_packed_41 : decode cX5_packed 41 = .ok (.iconst (-1), 1) := by decide +kernel
theorem dX5_packed_42 : decode cX5_packed 42 = .ok (.if_icmp .ne 22, 3) := by decide +kernel
theorem dX5_packed_45 : decode cX5_packed 45 = .ok (.aload_n 0, 1) := by decide +kernel
theorem dX5_packed_46 : decode cX5_packed 46 = .ok (.getfield 62, 3) := by decide +kernel
theorem dX5_packed_49 : decode cX5_packed 49 = .ok (.ifCond .le 7, 3) := by decide +kernel
theorem dX5_packed_52 : decode cX5_packed 52 = .ok (.iconst 0, 1) := by decide +kernel
theorem dX5_packed_53 : decode cX5_packed 53 = .ok (.goto 10, 3) := by decide +kernel
theorem dX5_packed_56 : decode cX5_packed 56 = .ok (.iconst 2, 1) := by decide +kernel
theorem dX5_packed_57 : decode cX5_packed 57 = .ok (.aload_n 0, 1) := by decide +kernel
theorem dX5_packed_58 : decode cX5_packed 58 = .ok (.iload_n 1, 1) := by decide +kernel
theorem dX5_packed_59 : decode cX5_packed 59 = .ok (.invokevirtual 146, 3) := by decide +kernel
theorem dX5_packed_62 : decode cX5_packed 62 = .ok (.imul, 1) := by decide +kernel
theorem dX5_packed_63 : decode cX5_packed 63 = .ok (.ireturn, 1) := by decide +kernel
theorem dX5_packed_64 : decode cX5_packed 64 = .ok (.iconst (-1), 1) := by decide +kernel
theorem dX5_packed_65 : decode cX5_packed 65 = .ok (.istore_n 3, 1) := by decide +kernel
theorem dX5_packed_66 : decode cX5_packed 66 = .ok (.iconst 0, 1) := by decide +kernel
theorem dX5_packed_67 : decode cX5_packed 67 = .ok (.istore 4, 2) := by decide +kernel
theorem dX5_packed_69 : decode cX5_packed 69 = .ok (.iload 4, 2) := by decide +kernel
theorem dX5_packed_71 : decode cX5_packed 71 = .ok (.aload_n 0, 1) := by decide +kernel
theorem dX5_packed_72 : decode cX5_packed 72 = .ok (.getfield 59, 3) := by decide +kernel
theorem dX5_packed_75 : decode cX5_packed 75 = .ok (.if_icmp .ge 111, 3) := by decide +kernel
theorem dX5_packed_78 : decode cX5_packed 78 = .ok (.iconst 0, 1) := by decide +kernel
theorem dX5_packed_79 : decode cX5_packed 79 = .ok (.istore 5, 2) := by decide +kernel
theorem dX5_packed_81 : decode cX5_packed 81 = .ok (.iload 5, 2) := by decide +kernel
theorem dX5_packed_83 : decode cX5_packed 83 = .ok (.aload_n 0, 1) := by decide +kernel
theorem dX5_packed_84 : decode cX5_packed 84 = .ok (.getfield 56, 3) := by decide +kernel
theorem dX5_packed_87 : decode cX5_packed 87 = .ok (.if_icmp .ge 93, 3) := by decide +kernel
theorem dX5_packed_90 : decode cX5_packed 90 = .ok (.iload_n 3, 1) := by decide +kernel
theorem dX5_packed_91 : decode cX5_packed 91 = .ok (.aload_n 0, 1) := by decide +kernel
theorem dX5_packed_92 : decode cX5_packed 92 = .ok (.iload 5, 2) := by decide +kernel
theorem dX5_packed_94 : decode cX5_packed 94 = .ok (.iload 4, 2) := by decide +kernel
theorem dX5_packed_96 : decode cX5_packed 96 = .ok (.iload_n 1, 1) := by decide +kernel
theorem dX5_packed_97 : decode cX5_packed 97 = .ok (.invokevirtual 142, 3) := by decide +kernel
theorem dX5_packed_100 : decode cX5_packed 100 = .ok (.ifCond .eq 7, 3) := by decide +kernel
theorem dX5_packed_103 : decode cX5_packed 103 = .ok (.iconst 1, 1) := by decide +kernel
theorem dX5_packed_104 : decode cX5_packed 104 = .ok (.goto 4, 3) := by decide +kernel
theorem dX5_packed_107 : decode cX5_packed 107 = .ok (.iconst 0, 1) := by decide +kernel
theorem dX5_packed_108 : decode cX5_packed 108 = .ok (.iadd, 1) := by decide +kernel
theorem dX5_packed_109 : decode cX5_packed 109 = .ok (.istore_n 3, 1) := by decide +kernel
theorem dX5_packed_110 : decode cX5_packed 110 = .ok (.iload_n 3, 1) := by decide +kernel
theorem dX5_packed_111 : decode cX5_packed 111 = .ok (.iload_n 2, 1) := by decide +kernel
theorem dX5_packed_112 : decode cX5_packed 112 = .ok (.iconst 2, 1) := by decide +kernel
theorem dX5_packed_113 : decode cX5_packed 113 = .ok (.idiv, 1) := by decide +kernel
theorem dX5_packed_114 : decode cX5_packed 114 = .ok (.if_icmp .ne 60, 3) := by decide +kernel
theorem dX5_packed_117 : decode cX5_packed 117 = .ok (.iload 5, 2) := by decide +kernel
theorem dX5_packed_119 : decode cX5_packed 119 = .ok (.iconst 1, 1) := by decide +kernel
theorem dX5_packed_120 : decode cX5_packed 120 = .ok (.iadd, 1) := by decide +kernel
theorem dX5_packed_121 : decode cX5_packed 121 = .ok (.istore 6, 2) := by decide +kernel
theorem dX5_packed_123 : decode cX5_packed 123 = .ok (.iload 6, 2) := by decide +kernel
theorem dX5_packed_125 : decode cX5_packed 125 = .ok (.aload_n 0, 1) := by decide +kernel
theorem dX5_packed_126 : decode cX5_packed 126 = .ok (.getfield 56, 3) := by decide +kernel
theorem dX5_packed_129 : decode cX5_packed 129 = .ok (.if_icmp .ge 21, 3) := by decide +kernel
theorem dX5_packed_132 : decode cX5_packed 132 = .ok (.aload_n 0, 1) := by decide +kernel
theorem dX5_packed_133 : decode cX5_packed 133 = .ok (.iload 6, 2) := by decide +kernel
theorem dX5_packed_135 : decode cX5_packed 135 = .ok (.iload 4, 2) := by decide +kernel
theorem dX5_packed_137 : decode cX5_packed 137 = .ok (.iload_n 1, 1) := by decide +kernel
theorem dX5_packed_138 : decode cX5_packed 138 = .ok (.invokevirtual 142, 3) := by decide +kernel
theorem dX5_packed_141 : decode cX5_packed 141 = .ok (.ifCond .ne 9, 3) := by decide +kernel
theorem dX5_packed_144 : decode cX5_packed 144 = .ok (.iinc 6 1, 3) := by decide +kernel
theorem dX5_packed_147 : decode cX5_packed 147 = .ok (.goto (-24), 3) := by decide +kernel
theorem dX5_packed_150 : decode cX5_packed 150 = .ok (.iload_n 2, 1) := by decide +kernel
theorem dX5_packed_151 : decode cX5_packed 151 = .ok (.iconst 2, 1) := by decide +kernel
theorem dX5_packed_152 : decode cX5_packed 152 = .ok (.irem, 1) := by decide +kernel
theorem dX5_packed_153 : decode cX5_packed 153 = .ok (.ifCond .ne 11, 3) := by decide +kernel
theorem dX5_packed_156 : decode cX5_packed 156 = .ok (.iload 6, 2) := by decide +kernel
theorem dX5_packed_158 : decode cX5_packed 158 = .ok (.iload 5, 2) := by decide +kernel
theorem dX5_packed_160 : decode cX5_packed 160 = .ok (.isub, 1) := by decide +kernel
theorem dX5_packed_161 : decode cX5_packed 161 = .ok (.goto 12, 3) := by decide +kernel
theorem dX5_packed_164 : decode cX5_packed 164 = .ok (.aload_n 0, 1) := by decide +kernel
theorem dX5_packed_165 : decode cX5_packed 165 = .ok (.iload 5, 2) := by decide +kernel
theorem dX5_packed_167 : decode cX5_packed 167 = .ok (.iload 4, 2) := by decide +kernel
theorem dX5_packed_169 : decode cX5_packed 169 = .ok (.iload_n 1, 1) := by decide +kernel
theorem dX5_packed_170 : decode cX5_packed 170 = .ok (.invokevirtual 87, 3) := by decide +kernel
theorem dX5_packed_173 : decode cX5_packed 173 = .ok (.ireturn, 1) := by decide +kernel
theorem dX5_packed_174 : decode cX5_packed 174 = .ok (.iinc 5 1, 3) := by decide +kernel
theorem dX5_packed_177 : decode cX5_packed 177 = .ok (.goto (-96), 3) := by decide +kernel
theorem dX5_packed_180 : decode cX5_packed 180 = .ok (.iinc 4 1, 3) := by decide +kernel
theorem dX5_packed_183 : decode cX5_packed 183 = .ok (.goto (-114), 3) := by decide +kernel
theorem dX5_packed_186 : decode cX5_packed 186 = .ok (.iconst 0, 1) := by decide +kernel
theorem dX5_packed_187 : decode cX5_packed 187 = .ok (.ireturn, 1) := by decide +kernel
theorem dJx00060_init_a7421_0 : decode cJx00060_init_a7421 0 = .ok (.aload_n 0, 1) := by decide +kernel
theorem dJx00060_init_a7421_1 : decode cJx00060_init_a7421 1 = .ok (.aload_n 1, 1) := by decide +kernel
theorem dJx00060_init_a7421_2 : decode cJx00060_init_a7421 2 = .ok (.invokespecial 7, 3) := by decide +kernel
theorem dJx00060_init_a7421_5 : decode cJx00060_init_a7421 5 = .ok (.return_, 1) := by decide +kernel
theorem dJ9_floorDiv_7cf53_0 : decode cJ9_floorDiv_7cf53 0 = .ok (.iload_n 0, 1) := by decide +kernel
theorem dJ9_floorDiv_7cf53_1 : decode cJ9_floorDiv_7cf53 1 = .ok (.iload_n 1, 1) := by decide +kernel
theorem dJ9_floorDiv_7cf53_2 : decode cJ9_floorDiv_7cf53 2 = .ok (.idiv, 1) := by decide +kernel
theorem dJ9_floorDiv_7cf53_3 : decode cJ9_floorDiv_7cf53 3 = .ok (.istore_n 2, 1) := by decide +kernel
theorem dJ9_floorDiv_7cf53_4 : decode cJ9_floorDiv_7cf53 4 = .ok (.iload_n 0, 1) := by decide +kernel
theorem dJ9_floorDiv_7cf53_5 : decode cJ9_floorDiv_7cf53 5 = .ok (.iload_n 1, 1) := by decide +kernel
theorem dJ9_floorDiv_7cf53_6 : decode cJ9_floorDiv_7cf53 6 = .ok (.ixor, 1) := by decide +kernel
theorem dJ9_floorDiv_7cf53_7 : decode cJ9_floorDiv_7cf53 7 = .ok (.ifCond .ge 14, 3) := by decide +kernel
theorem dJ9_floorDiv_7cf53_10 : decode cJ9_floorDiv_7cf53 10 = .ok (.iload_n 2, 1) := by decide +kernel
theorem dJ9_floorDiv_7cf53_11 : decode cJ9_floorDiv_7cf53 11 = .ok (.iload_n 1, 1) := by decide +kernel
theorem dJ9_floorDiv_7cf53_12 : decode cJ9_floorDiv_7cf53 12 = .ok (.imul, 1) := by decide +kernel
theorem dJ9_floorDiv_7cf53_13 : decode cJ9_floorDiv_7cf53 13 = .ok (.iload_n 0, 1) := by decide +kernel
theorem dJ9_floorDiv_7cf53_14 : decode cJ9_floorDiv_7cf53 14 = .ok (.if_icmp .eq 7, 3) := by decide +kernel
theorem dJ9_floorDiv_7cf53_17 : decode cJ9_floorDiv_7cf53 17 = .ok (.iload_n 2, 1) := by decide +kernel
theorem dJ9_floorDiv_7cf53_18 : decode cJ9_floorDiv_7cf53 18 = .ok (.iconst 1, 1) := by decide +kernel
theorem dJ9_floorDiv_7cf53_19 : decode cJ9_floorDiv_7cf53 19 = .ok (.isub, 1) := by decide +kernel
theorem dJ9_floorDiv_7cf53_20 : decode cJ9_floorDiv_7cf53 20 = .ok (.ireturn, 1) := by decide +kernel
theorem dJ9_floorDiv_7cf53_21 : decode cJ9_floorDiv_7cf53 21 = .ok (.iload_n 2, 1) := by decide +kernel
theorem dJ9_floorDiv_7cf53_22 : decode cJ9_floorDiv_7cf53 22 = .ok (.ireturn, 1) := by decide +kernel
theorem dJ9_floorMod_7cf53_0 : decode cJ9_floorMod_7cf53 0 = .ok (.iload_n 0, 1) := by decide +kernel
theorem dJ9_floorMod_7cf53_1 : decode cJ9_floorMod_7cf53 1 = .ok (.iload_n 1, 1) := by decide +kernel
theorem dJ9_floorMod_7cf53_2 : decode cJ9_floorMod_7cf53 2 = .ok (.irem, 1) := by decide +kernel
theorem dJ9_floorMod_7cf53_3 : decode cJ9_floorMod_7cf53 3 = .ok (.istore_n 2, 1) := by decide +kernel
theorem dJ9_floorMod_7cf53_4 : decode cJ9_floorMod_7cf53 4 = .ok (.iload_n 0, 1) := by decide +kernel
theorem dJ9_floorMod_7cf53_5 : decode cJ9_floorMod_7cf53 5 = .ok (.iload_n 1, 1) := by decide +kernel
theorem dJ9_floorMod_7cf53_6 : decode cJ9_floorMod_7cf53 6 = .ok (.ixor, 1) := by decide +kernel
theorem dJ9_floorMod_7cf53_7 : decode cJ9_floorMod_7cf53 7 = .ok (.ifCond .ge 11, 3) := by decide +kernel
theorem dJ9_floorMod_7cf53_10 : decode cJ9_floorMod_7cf53 10 = .ok (.iload_n 2, 1) := by decide +kernel
theorem dJ9_floorMod_7cf53_11 : decode cJ9_floorMod_7cf53 11 = .ok (.ifCond .eq 7, 3) := by decide +kernel
theorem dJ9_floorMod_7cf53_14 : decode cJ9_floorMod_7cf53 14 = .ok (.iload_n 2, 1) := by decide +kernel
theorem dJ9_floorMod_7cf53_15 : decode cJ9_floorMod_7cf53 15 = .ok (.iload_n 1, 1) := by decide +kernel
theorem dJ9_floorMod_7cf53_16 : decode cJ9_floorMod_7cf53 16 = .ok (.iadd, 1) := by decide +kernel
theorem dJ9_floorMod_7cf53_17 : decode cJ9_floorMod_7cf53 17 = .ok (.ireturn, 1) := by decide +kernel
theorem dJ9_floorMod_7cf53_18 : decode cJ9_floorMod_7cf53 18 = .ok (.iload_n 2, 1) := by decide +kernel
theorem dJ9_floorMod_7cf53_19 : decode cJ9_floorMod_7cf53 19 = .ok (.ireturn, 1) := by decide +kernel
theorem dJ9_max_7cf53_0 : decode cJ9_max_7cf53 0 = .ok (.iload_n 0, 1) := by decide +kernel
theorem dJ9_max_7cf53_1 : decode cJ9_max_7cf53 1 = .ok (.iload_n 1, 1) := by decide +kernel
theorem dJ9_max_7cf53_2 : decode cJ9_max_7cf53 2 = .ok (.if_icmp .lt 7, 3) := by decide +kernel
theorem dJ9_max_7cf53_5 : decode cJ9_max_7cf53 5 = .ok (.iload_n 0, 1) := by decide +kernel
theorem dJ9_max_7cf53_6 : decode cJ9_max_7cf53 6 = .ok (.goto 4, 3) := by decide +kernel
theorem dJ9_max_7cf53_9 : decode cJ9_max_7cf53 9 = .ok (.iload_n 1, 1) := by decide +kernel
theorem dJ9_max_7cf53_10 : decode cJ9_max_7cf53 10 = .ok (.ireturn, 1) := by decide +kernel
theorem dJ9_min_7cf53_0 : decode cJ9_min_7cf53 0 = .ok (.iload_n 0, 1) := by decide +kernel
theorem dJ9_min_7cf53_1 : decode cJ9_min_7cf53 1 = .ok (.iload_n 1, 1) := by decide +kernel
theorem dJ9_min_7cf53_2 : decode cJ9_min_7cf53 2 = .ok (.if_icmp .gt 7, 3) := by decide +kernel
theorem dJ9_min_7cf53_5 : decode cJ9_min_7cf53 5 = .ok (.iload_n 0, 1) := by decide +kernel
theorem dJ9_min_7cf53_6 : decode cJ9_min_7cf53 6 = .ok (.goto 4, 3) := by decide +kernel
theorem dJ9_min_7cf53_9 : decode cJ9_min_7cf53 9 = .ok (.iload_n 1, 1) := by decide +kernel
theorem dJ9_min_7cf53_10 : decode cJ9_min_7cf53 10 = .ok (.ireturn, 1) := by decide +kernel
theorem dL_cell_0 : decode cL_cell 0 = .ok (.iload_n 1, 1) := by decide +kernel
theorem dL_cell_1 : decode cL_cell 1 = .ok (.aload_n 0, 1) := by decide +kernel
theorem dL_cell_2 : decode cL_cell 2 = .ok (.arraylength, 1) := by decide +kernel
theorem dL_cell_3 : decode cL_cell 3 = .ok (.if_icmp .ge 9, 3) := by decide +kernel
theorem dL_cell_6 : decode cL_cell 6 = .ok (.aload_n 0, 1) := by decide +kernel
theorem dL_cell_7 : decode cL_cell 7 = .ok (.iload_n 1, 1) := by decide +kernel
theorem dL_cell_8 : decode cL_cell 8 = .ok (.iaload, 1) := by decide +kernel
theorem dL_cell_9 : decode cL_cell 9 = .ok (.goto 4, 3) := by decide +kernel
theorem dL_cell_12 : decode cL_cell 12 = .ok (.iconst 0, 1) := by decide +kernel
theorem dL_cell_13 : decode cL_cell 13 = .ok (.ireturn, 1) := by decide +kernel
theorem dL_ink_0 : decode cL_ink 0 = .ok (.aload 5, 2) := by decide +kernel
theorem dL_ink_2 : decode cL_ink 2 = .ok (.iconst 0, 1) := by decide +kernel
theorem dL_ink_3 : decode cL_ink 3 = .ok (.aload_n 0, 1) := by decide +kernel
theorem dL_ink_4 : decode cL_ink 4 = .ok (.iload_n 1, 1) := by decide +kernel
theorem dL_ink_5 : decode cL_ink 5 = .ok (.iload_n 2, 1) := by decide +kernel
theorem dL_ink_6 : decode cL_ink 6 = .ok (.iload_n 3, 1) := by decide +kernel
theorem dL_ink_7 : decode cL_ink 7 = .ok (.iload 4, 2) := by decide +kernel
theorem dL_ink_9 : decode cL_ink 9 = .ok (.invokevirtual 7, 3) := by decide +kernel
theorem dL_ink_12 : decode cL_ink 12 = .ok (.i2l, 1) := by decide +kernel
theorem dL_ink_13 : decode cL_ink 13 = .ok (.lastore, 1) := by decide +kernel
theorem dL_ink_14 : decode cL_ink 14 = .ok (.goto 11, 3) := by decide +kernel
theorem dL_ink_17 : decode cL_ink 17 = .ok (.astore 6, 2) := by decide +kernel
theorem dL_ink_19 : decode cL_ink 19 = .ok (.iconst 1, 1) := by decide +kernel
theorem dL_ink_20 : decode cL_ink 20 = .ok (.ireturn, 1) := by decide +kernel
theorem dL_ink_21 : decode cL_ink 21 = .ok (.astore 6, 2) := by decide +kernel
theorem dL_ink_23 : decode cL_ink 23 = .ok (.iconst 2, 1) := by decide +kernel
theorem dL_ink_24 : decode cL_ink 24 = .ok (.ireturn, 1) := by decide +kernel
theorem dL_ink_25 : decode cL_ink 25 = .ok (.iconst 0, 1) := by decide +kernel
theorem dL_ink_26 : decode cL_ink 26 = .ok (.ireturn, 1) := by decide +kernel
theorem dL_colour_0 : decode cL_colour 0 = .ok (.aload_n 0, 1) := by decide +kernel
theorem dL_colour_1 : decode cL_colour 1 = .ok (.iload_n 1, 1) := by decide +kernel
theorem dL_colour_2 : decode cL_colour 2 = .ok (.iload_n 2, 1) := by decide +kernel
theorem dL_colour_3 : decode cL_colour 3 = .ok (.invokevirtual 17, 3) := by decide +kernel
theorem dL_colour_6 : decode cL_colour 6 = .ok (.goto 9, 3) := by decide +kernel
theorem dL_colour_9 : decode cL_colour 9 = .ok (.astore_n 3, 1) := by decide +kernel
theorem dL_colour_10 : decode cL_colour 10 = .ok (.iconst 1, 1) := by decide +kernel
theorem dL_colour_11 : decode cL_colour 11 = .ok (.ireturn, 1) := by decide +kernel
theorem dL_colour_12 : decode cL_colour 12 = .ok (.astore_n 3, 1) := by decide +kernel
theorem dL_colour_13 : decode cL_colour 13 = .ok (.iconst 2, 1) := by decide +kernel
theorem dL_colour_14 : decode cL_colour 14 = .ok (.ireturn, 1) := by decide +kernel
theorem dL_colour_15 : decode cL_colour 15 = .ok (.iconst 0, 1) := by decide +kernel
theorem dL_colour_16 : decode cL_colour 16 = .ok (.ireturn, 1) := by decide +kernel
theorem dL_limit_0 : decode cL_limit 0 = .ok (.aload_n 2, 1) := by decide +kernel
theorem dL_limit_1 : decode cL_limit 1 = .ok (.iconst 0, 1) := by decide +kernel
theorem dL_limit_2 : decode cL_limit 2 = .ok (.aload_n 0, 1) := by decide +kernel
theorem dL_limit_3 : decode cL_limit 3 = .ok (.iload_n 1, 1) := by decide +kernel
theorem dL_limit_4 : decode cL_limit 4 = .ok (.invokevirtual 23, 3) := by decide +kernel
theorem dL_limit_7 : decode cL_limit 7 = .ok (.i2l, 1) := by decide +kernel
theorem dL_limit_8 : decode cL_limit 8 = .ok (.lastore, 1) := by decide +kernel
theorem dL_limit_9 : decode cL_limit 9 = .ok (.goto 6, 3) := by decide +kernel
theorem dL_limit_12 : decode cL_limit 12 = .ok (.astore_n 3, 1) := by decide +kernel
theorem dL_limit_13 : decode cL_limit 13 = .ok (.iconst 1, 1) := by decide +kernel
theorem dL_limit_14 : decode cL_limit 14 = .ok (.ireturn, 1) := by decide +kernel
theorem dL_limit_15 : decode cL_limit 15 = .ok (.iconst 0, 1) := by decide +kernel
theorem dL_limit_16 : decode cL_limit 16 = .ok (.ireturn, 1) := by decide +kernel
theorem dL_plate_0 : decode cL_plate 0 = .ok (.aload 5, 2) := by decide +kernel
theorem dL_plate_2 : decode cL_plate 2 = .ok (.iconst 0, 1) := by decide +kernel
theorem dL_plate_3 : decode cL_plate 3 = .ok (.aload_n 0, 1) := by decide +kernel
theorem dL_plate_4 : decode cL_plate 4 = .ok (.iload_n 1, 1) := by decide +kernel
theorem dL_plate_5 : decode cL_plate 5 = .ok (.iload_n 2, 1) := by decide +kernel
theorem dL_plate_6 : decode cL_plate 6 = .ok (.iload_n 3, 1) := by decide +kernel
theorem dL_plate_7 : decode cL_plate 7 = .ok (.iload 4, 2) := by decide +kernel
theorem dL_plate_9 : decode cL_plate 9 = .ok (.invokevirtual 27, 3) := by decide +kernel
theorem dL_plate_12 : decode cL_plate 12 = .ok (.i2l, 1) := by decide +kernel
theorem dL_plate_13 : decode cL_plate 13 = .ok (.lastore, 1) := by decide +kernel
theorem dL_plate_14 : decode cL_plate 14 = .ok (.goto 11, 3) := by decide +kernel
theorem dL_plate_17 : decode cL_plate 17 = .ok (.astore 6, 2) := by decide +kernel
theorem dL_plate_19 : decode cL_plate 19 = .ok (.iconst 1, 1) := by decide +kernel
theorem dL_plate_20 : decode cL_plate 20 = .ok (.ireturn, 1) := by decide +kernel
theorem dL_plate_21 : decode cL_plate 21 = .ok (.astore 6, 2) := by decide +kernel
theorem dL_plate_23 : decode cL_plate 23 = .ok (.iconst 2, 1) := by decide +kernel
theorem dL_plate_24 : decode cL_plate 24 = .ok (.ireturn, 1) := by decide +kernel
theorem dL_plate_25 : decode cL_plate 25 = .ok (.iconst 0, 1) := by decide +kernel
theorem dL_plate_26 : decode cL_plate 26 = .ok (.ireturn, 1) := by decide +kernel
theorem dL_seen_0 : decode cL_seen 0 = .ok (.aload 5, 2) := by decide +kernel
theorem dL_seen_2 : decode cL_seen 2 = .ok (.iconst 0, 1) := by decide +kernel
theorem dL_seen_3 : decode cL_seen 3 = .ok (.aload_n 0, 1) := by decide +kernel
theorem dL_seen_4 : decode cL_seen 4 = .ok (.iload_n 1, 1) := by decide +kernel
theorem dL_seen_5 : decode cL_seen 5 = .ok (.iload_n 2, 1) := by decide +kernel
theorem dL_seen_6 : decode cL_seen 6 = .ok (.iload_n 3, 1) := by decide +kernel
theorem dL_seen_7 : decode cL_seen 7 = .ok (.iload 4, 2) := by decide +kernel
theorem dL_seen_9 : decode cL_seen 9 = .ok (.invokevirtual 30, 3) := by decide +kernel
theorem dL_seen_12 : decode cL_seen 12 = .ok (.i2l, 1) := by decide +kernel
theorem dL_seen_13 : decode cL_seen 13 = .ok (.lastore, 1) := by decide +kernel
theorem dL_seen_14 : decode cL_seen 14 = .ok (.goto 7, 3) := by decide +kernel
theorem dL_seen_17 : decode cL_seen 17 = .ok (.astore 6, 2) := by decide +kernel
theorem dL_seen_19 : decode cL_seen 19 = .ok (.iconst 1, 1) := by decide +kernel
theorem dL_seen_20 : decode cL_seen 20 = .ok (.ireturn, 1) := by decide +kernel
theorem dL_seen_21 : decode cL_seen 21 = .ok (.iconst 0, 1) := by decide +kernel
theorem dL_seen_22 : decode cL_seen 22 = .ok (.ireturn, 1) := by decide +kernel
theorem dL_lender_0 : decode cL_lender 0 = .ok (.aload_n 3, 1) := by decide +kernel
theorem dL_lender_1 : decode cL_lender 1 = .ok (.iconst 0, 1) := by decide +kernel
theorem dL_lender_2 : decode cL_lender 2 = .ok (.aload_n 0, 1) := by decide +kernel
theorem dL_lender_3 : decode cL_lender 3 = .ok (.iload_n 1, 1) := by decide +kernel
theorem dL_lender_4 : decode cL_lender 4 = .ok (.iload_n 2, 1) := by decide +kernel
theorem dL_lender_5 : decode cL_lender 5 = .ok (.invokevirtual 34, 3) := by decide +kernel
theorem dL_lender_8 : decode cL_lender 8 = .ok (.i2l, 1) := by decide +kernel
theorem dL_lender_9 : decode cL_lender 9 = .ok (.lastore, 1) := by decide +kernel
theorem dL_lender_10 : decode cL_lender 10 = .ok (.goto 7, 3) := by decide +kernel
theorem dL_lender_13 : decode cL_lender 13 = .ok (.astore 4, 2) := by decide +kernel
theorem dL_lender_15 : decode cL_lender 15 = .ok (.iconst 1, 1) := by decide +kernel
theorem dL_lender_16 : decode cL_lender 16 = .ok (.ireturn, 1) := by decide +kernel
theorem dL_lender_17 : decode cL_lender 17 = .ok (.iconst 0, 1) := by decide +kernel
theorem dL_lender_18 : decode cL_lender 18 = .ok (.ireturn, 1) := by decide +kernel
theorem dL_width_0 : decode cL_width 0 = .ok (.aload_n 2, 1) := by decide +kernel
theorem dL_width_1 : decode cL_width 1 = .ok (.iconst 0, 1) := by decide +kernel
theorem dL_width_2 : decode cL_width 2 = .ok (.aload_n 0, 1) := by decide +kernel
theorem dL_width_3 : decode cL_width 3 = .ok (.iload_n 1, 1) := by decide +kernel
theorem dL_width_4 : decode cL_width 4 = .ok (.invokevirtual 38, 3) := by decide +kernel
theorem dL_width_7 : decode cL_width 7 = .ok (.i2l, 1) := by decide +kernel
theorem dL_width_8 : decode cL_width 8 = .ok (.lastore, 1) := by decide +kernel
theorem dL_width_9 : decode cL_width 9 = .ok (.goto 6, 3) := by decide +kernel
theorem dL_width_12 : decode cL_width 12 = .ok (.astore_n 3, 1) := by decide +kernel
theorem dL_width_13 : decode cL_width 13 = .ok (.iconst 1, 1) := by decide +kernel
theorem dL_width_14 : decode cL_width 14 = .ok (.ireturn, 1) := by decide +kernel
theorem dL_width_15 : decode cL_width 15 = .ok (.iconst 0, 1) := by decide +kernel
theorem dL_width_16 : decode cL_width 16 = .ok (.ireturn, 1) := by decide +kernel
theorem dL_gain_0 : decode cL_gain 0 = .ok (.aload_n 0, 1) := by decide +kernel
theorem dL_gain_1 : decode cL_gain 1 = .ok (.iload_n 1, 1) := by decide +kernel
theorem dL_gain_2 : decode cL_gain 2 = .ok (.iload_n 2, 1) := by decide +kernel
theorem dL_gain_3 : decode cL_gain 3 = .ok (.invokevirtual 41, 3) := by decide +kernel
theorem dL_gain_6 : decode cL_gain 6 = .ok (.goto 9, 3) := by decide +kernel
theorem dL_gain_9 : decode cL_gain 9 = .ok (.astore_n 3, 1) := by decide +kernel
theorem dL_gain_10 : decode cL_gain 10 = .ok (.iconst 1, 1) := by decide +kernel
theorem dL_gain_11 : decode cL_gain 11 = .ok (.ireturn, 1) := by decide +kernel
theorem dL_gain_12 : decode cL_gain 12 = .ok (.astore_n 3, 1) := by decide +kernel
theorem dL_gain_13 : decode cL_gain 13 = .ok (.iconst 2, 1) := by decide +kernel
theorem dL_gain_14 : decode cL_gain 14 = .ok (.ireturn, 1) := by decide +kernel
theorem dL_gain_15 : decode cL_gain 15 = .ok (.iconst 0, 1) := by decide +kernel
theorem dL_gain_16 : decode cL_gain 16 = .ok (.ireturn, 1) := by decide +kernel
theorem dL_cell__0 : decode cL_cell_ 0 = .ok (.aload_n 3, 1) := by decide +kernel
theorem dL_cell__1 : decode cL_cell_ 1 = .ok (.iconst 0, 1) := by decide +kernel
theorem dL_cell__2 : decode cL_cell_ 2 = .ok (.aload_n 0, 1) := by decide +kernel
theorem dL_cell__3 : decode cL_cell_ 3 = .ok (.iload_n 1, 1) := by decide +kernel
theorem dL_cell__4 : decode cL_cell_ 4 = .ok (.iload_n 2, 1) := by decide +kernel
theorem dL_cell__5 : decode cL_cell_ 5 = .ok (.invokevirtual 44, 3) := by decide +kernel
theorem dL_cell__8 : decode cL_cell_ 8 = .ok (.i2l, 1) := by decide +kernel
theorem dL_cell__9 : decode cL_cell_ 9 = .ok (.lastore, 1) := by decide +kernel
theorem dL_cell__10 : decode cL_cell_ 10 = .ok (.goto 15, 3) := by decide +kernel
theorem dL_cell__13 : decode cL_cell_ 13 = .ok (.astore 4, 2) := by decide +kernel
theorem dL_cell__15 : decode cL_cell_ 15 = .ok (.iconst 1, 1) := by decide +kernel
theorem dL_cell__16 : decode cL_cell_ 16 = .ok (.ireturn, 1) := by decide +kernel
theorem dL_cell__17 : decode cL_cell_ 17 = .ok (.astore 4, 2) := by decide +kernel
theorem dL_cell__19 : decode cL_cell_ 19 = .ok (.iconst 2, 1) := by decide +kernel
theorem dL_cell__20 : decode cL_cell_ 20 = .ok (.ireturn, 1) := by decide +kernel
theorem dL_cell__21 : decode cL_cell_ 21 = .ok (.astore 4, 2) := by decide +kernel
theorem dL_cell__23 : decode cL_cell_ 23 = .ok (.iconst 3, 1) := by decide +kernel
theorem dL_cell__24 : decode cL_cell_ 24 = .ok (.ireturn, 1) := by decide +kernel
theorem dL_cell__25 : decode cL_cell_ 25 = .ok (.iconst 0, 1) := by decide +kernel
theorem dL_cell__26 : decode cL_cell_ 26 = .ok (.ireturn, 1) := by decide +kernel
theorem dL_rank_0 : decode cL_rank 0 = .ok (.aload_n 3, 1) := by decide +kernel
theorem dL_rank_1 : decode cL_rank 1 = .ok (.iconst 0, 1) := by decide +kernel
theorem dL_rank_2 : decode cL_rank 2 = .ok (.aload_n 0, 1) := by decide +kernel
theorem dL_rank_3 : decode cL_rank 3 = .ok (.iload_n 1, 1) := by decide +kernel
theorem dL_rank_4 : decode cL_rank 4 = .ok (.iload_n 2, 1) := by decide +kernel
theorem dL_rank_5 : decode cL_rank 5 = .ok (.invokevirtual 49, 3) := by decide +kernel
theorem dL_rank_8 : decode cL_rank 8 = .ok (.i2l, 1) := by decide +kernel
theorem dL_rank_9 : decode cL_rank 9 = .ok (.lastore, 1) := by decide +kernel
theorem dL_rank_10 : decode cL_rank 10 = .ok (.goto 7, 3) := by decide +kernel
theorem dL_rank_13 : decode cL_rank 13 = .ok (.astore 4, 2) := by decide +kernel
theorem dL_rank_15 : decode cL_rank 15 = .ok (.iconst 1, 1) := by decide +kernel
theorem dL_rank_16 : decode cL_rank 16 = .ok (.ireturn, 1) := by decide +kernel
theorem dL_rank_17 : decode cL_rank 17 = .ok (.iconst 0, 1) := by decide +kernel
theorem dL_rank_18 : decode cL_rank 18 = .ok (.ireturn, 1) := by decide +kernel
theorem dL_same_0 : decode cL_same 0 = .ok (.aload 4, 2) := by decide +kernel
theorem dL_same_2 : decode cL_same 2 = .ok (.iconst 0, 1) := by decide +kernel
theorem dL_same_3 : decode cL_same 3 = .ok (.aload_n 0, 1) := by decide +kernel
theorem dL_same_4 : decode cL_same 4 = .ok (.iload_n 1, 1) := by decide +kernel
theorem dL_same_5 : decode cL_same 5 = .ok (.iload_n 2, 1) := by decide +kernel
theorem dL_same_6 : decode cL_same 6 = .ok (.iload_n 3, 1) := by decide +kernel
theorem dL_same_7 : decode cL_same 7 = .ok (.invokevirtual 52, 3) := by decide +kernel
theorem dL_same_10 : decode cL_same 10 = .ok (.i2l, 1) := by decide +kernel
theorem dL_same_11 : decode cL_same 11 = .ok (.lastore, 1) := by decide +kernel
theorem dL_same_12 : decode cL_same 12 = .ok (.goto 11, 3) := by decide +kernel
theorem dL_same_15 : decode cL_same 15 = .ok (.astore 5, 2) := by decide +kernel
theorem dL_same_17 : decode cL_same 17 = .ok (.iconst 1, 1) := by decide +kernel
theorem dL_same_18 : decode cL_same 18 = .ok (.ireturn, 1) := by decide +kernel
theorem dL_same_19 : decode cL_same 19 = .ok (.astore 5, 2) := by decide +kernel
theorem dL_same_21 : decode cL_same 21 = .ok (.iconst 2, 1) := by decide +kernel
theorem dL_same_22 : decode cL_same 22 = .ok (.ireturn, 1) := by decide +kernel
theorem dL_same_23 : decode cL_same 23 = .ok (.iconst 0, 1) := by decide +kernel
theorem dL_same_24 : decode cL_same 24 = .ok (.ireturn, 1) := by decide +kernel
theorem dL_prints_0 : decode cL_prints 0 = .ok (.aload 5, 2) := by decide +kernel
theorem dL_prints_2 : decode cL_prints 2 = .ok (.iconst 0, 1) := by decide +kernel
theorem dL_prints_3 : decode cL_prints 3 = .ok (.aload_n 0, 1) := by decide +kernel
theorem dL_prints_4 : decode cL_prints 4 = .ok (.iload_n 1, 1) := by decide +kernel
theorem dL_prints_5 : decode cL_prints 5 = .ok (.iload_n 2, 1) := by decide +kernel
theorem dL_prints_6 : decode cL_prints 6 = .ok (.iload_n 3, 1) := by decide +kernel
theorem dL_prints_7 : decode cL_prints 7 = .ok (.iload 4, 2) := by decide +kernel
theorem dL_prints_9 : decode cL_prints 9 = .ok (.invokevirtual 56, 3) := by decide +kernel
theorem dL_prints_12 : decode cL_prints 12 = .ok (.ifCond .eq 7, 3) := by decide +kernel
theorem dL_prints_15 : decode cL_prints 15 = .ok (.lconst 1, 1) := by decide +kernel
theorem dL_prints_16 : decode cL_prints 16 = .ok (.goto 4, 3) := by decide +kernel
theorem dL_prints_19 : decode cL_prints 19 = .ok (.lconst 0, 1) := by decide +kernel
theorem dL_prints_20 : decode cL_prints 20 = .ok (.lastore, 1) := by decide +kernel
theorem dL_prints_21 : decode cL_prints 21 = .ok (.goto 7, 3) := by decide +kernel
theorem dL_prints_24 : decode cL_prints 24 = .ok (.astore 6, 2) := by decide +kernel
theorem dL_prints_26 : decode cL_prints 26 = .ok (.iconst 1, 1) := by decide +kernel
theorem dL_prints_27 : decode cL_prints 27 = .ok (.ireturn, 1) := by decide +kernel
theorem dL_prints_28 : decode cL_prints 28 = .ok (.iconst 0, 1) := by decide +kernel
theorem dL_prints_29 : decode cL_prints 29 = .ok (.ireturn, 1) := by decide +kernel
theorem dL_covered_0 : decode cL_covered 0 = .ok (.aload_n 2, 1) := by decide +kernel
theorem dL_covered_1 : decode cL_covered 1 = .ok (.iconst 0, 1) := by decide +kernel
theorem dL_covered_2 : decode cL_covered 2 = .ok (.aload_n 0, 1) := by decide +kernel
theorem dL_covered_3 : decode cL_covered 3 = .ok (.iload_n 1, 1) := by decide +kernel
theorem dL_covered_4 : decode cL_covered 4 = .ok (.invokevirtual 60, 3) := by decide +kernel
theorem dL_covered_7 : decode cL_covered 7 = .ok (.lastore, 1) := by decide +kernel
theorem dL_covered_8 : decode cL_covered 8 = .ok (.goto 6, 3) := by decide +kernel
theorem dL_covered_11 : decode cL_covered 11 = .ok (.astore_n 3, 1) := by decide +kernel
theorem dL_covered_12 : decode cL_covered 12 = .ok (.iconst 1, 1) := by decide +kernel
theorem dL_covered_13 : decode cL_covered 13 = .ok (.ireturn, 1) := by decide +kernel
theorem dL_covered_14 : decode cL_covered 14 = .ok (.iconst 0, 1) := by decide +kernel
theorem dL_covered_15 : decode cL_covered 15 = .ok (.ireturn, 1) := by decide +kernel
theorem dL_packed_0 : decode cL_packed 0 = .ok (.aload_n 3, 1) := by decide +kernel
theorem dL_packed_1 : decode cL_packed 1 = .ok (.iconst 0, 1) := by decide +kernel
theorem dL_packed_2 : decode cL_packed 2 = .ok (.aload_n 0, 1) := by decide +kernel
theorem dL_packed_3 : decode cL_packed 3 = .ok (.iload_n 1, 1) := by decide +kernel
theorem dL_packed_4 : decode cL_packed 4 = .ok (.iload_n 2, 1) := by decide +kernel
theorem dL_packed_5 : decode cL_packed 5 = .ok (.invokevirtual 64, 3) := by decide +kernel
theorem dL_packed_8 : decode cL_packed 8 = .ok (.i2l, 1) := by decide +kernel
theorem dL_packed_9 : decode cL_packed 9 = .ok (.lastore, 1) := by decide +kernel
theorem dL_packed_10 : decode cL_packed 10 = .ok (.goto 7, 3) := by decide +kernel
theorem dL_packed_13 : decode cL_packed 13 = .ok (.astore 4, 2) := by decide +kernel
theorem dL_packed_15 : decode cL_packed 15 = .ok (.iconst 1, 1) := by decide +kernel
theorem dL_packed_16 : decode cL_packed 16 = .ok (.ireturn, 1) := by decide +kernel
theorem dL_packed_17 : decode cL_packed 17 = .ok (.iconst 0, 1) := by decide +kernel
theorem dL_packed_18 : decode cL_packed 18 = .ok (.ireturn, 1) := by decide +kernel
theorem dL_law_0 : decode cL_law 0 = .ok (.new 8, 3) := by decide +kernel
theorem dL_law_3 : decode cL_law 3 = .ok (.dup, 1) := by decide +kernel
theorem dL_law_4 : decode cL_law 4 = .ok (.aload_n 0, 1) := by decide +kernel
theorem dL_law_5 : decode cL_law 5 = .ok (.iconst 0, 1) := by decide +kernel
theorem dL_law_6 : decode cL_law 6 = .ok (.invokestatic 67, 3) := by decide +kernel
theorem dL_law_9 : decode cL_law 9 = .ok (.aload_n 0, 1) := by decide +kernel
theorem dL_law_10 : decode cL_law 10 = .ok (.iconst 1, 1) := by decide +kernel
theorem dL_law_11 : decode cL_law 11 = .ok (.invokestatic 67, 3) := by decide +kernel
theorem dL_law_14 : decode cL_law 14 = .ok (.invokespecial 72, 3) := by decide +kernel
theorem dL_law_17 : decode cL_law 17 = .ok (.astore_n 1, 1) := by decide +kernel
theorem dL_law_18 : decode cL_law 18 = .ok (.new 74, 3) := by decide +kernel
theorem dL_law_21 : decode cL_law 21 = .ok (.dup, 1) := by decide +kernel
theorem dL_law_22 : decode cL_law 22 = .ok (.aload_n 0, 1) := by decide +kernel
theorem dL_law_23 : decode cL_law 23 = .ok (.iconst 0, 1) := by decide +kernel
theorem dL_law_24 : decode cL_law 24 = .ok (.invokestatic 67, 3) := by decide +kernel
theorem dL_law_27 : decode cL_law 27 = .ok (.aload_n 0, 1) := by decide +kernel
theorem dL_law_28 : decode cL_law 28 = .ok (.iconst 1, 1) := by decide +kernel
theorem dL_law_29 : decode cL_law 29 = .ok (.invokestatic 67, 3) := by decide +kernel
theorem dL_law_32 : decode cL_law 32 = .ok (.invokespecial 76, 3) := by decide +kernel
theorem dL_law_35 : decode cL_law 35 = .ok (.astore_n 2, 1) := by decide +kernel
theorem dL_law_36 : decode cL_law 36 = .ok (.iconst 1, 1) := by decide +kernel
theorem dL_law_37 : decode cL_law 37 = .ok (.newarray .long, 2) := by decide +kernel
theorem dL_law_39 : decode cL_law 39 = .ok (.astore_n 3, 1) := by decide +kernel
theorem dL_law_40 : decode cL_law 40 = .ok (.iconst 2, 1) := by decide +kernel
theorem dL_law_41 : decode cL_law 41 = .ok (.istore 4, 2) := by decide +kernel
theorem dL_law_43 : decode cL_law 43 = .ok (.iload 4, 2) := by decide +kernel
theorem dL_law_45 : decode cL_law 45 = .ok (.aload_n 0, 1) := by decide +kernel
theorem dL_law_46 : decode cL_law 46 = .ok (.arraylength, 1) := by decide +kernel
theorem dL_law_47 : decode cL_law 47 = .ok (.bipush 6, 2) := by decide +kernel
theorem dL_law_49 : decode cL_law 49 = .ok (.isub, 1) := by decide +kernel
theorem dL_law_50 : decode cL_law 50 = .ok (.if_icmp .gt 1187, 3) := by decide +kernel
theorem dL_law_53 : decode cL_law 53 = .ok (.aload_n 0, 1) := by decide +kernel
theorem dL_law_54 : decode cL_law 54 = .ok (.iload 4, 2) := by decide +kernel
theorem dL_law_56 : decode cL_law 56 = .ok (.iaload, 1) := by decide +kernel
theorem dL_law_57 : decode cL_law 57 = .ok (.bipush 15, 2) := by decide +kernel
theorem dL_law_59 : decode cL_law 59 = .ok (.iand, 1) := by decide +kernel
theorem dL_law_60 : decode cL_law 60 = .ok (.tableswitch 1171 0 14 #[76, 168, 216, 305, 361, 453, 561, 629, 685, 733, 801, 869, 949, 1048, 1103], 76) := by decide +kernel
theorem dL_law_136 : decode cL_law 136 = .ok (.aload_n 1, 1) := by decide +kernel
theorem dL_law_137 : decode cL_law 137 = .ok (.aload_n 0, 1) := by decide +kernel
theorem dL_law_138 : decode cL_law 138 = .ok (.iload 4, 2) := by decide +kernel
theorem dL_law_140 : decode cL_law 140 = .ok (.iconst 1, 1) := by decide +kernel
theorem dL_law_141 : decode cL_law 141 = .ok (.iadd, 1) := by decide +kernel
theorem dL_law_142 : decode cL_law 142 = .ok (.iaload, 1) := by decide +kernel
theorem dL_law_143 : decode cL_law 143 = .ok (.aload_n 0, 1) := by decide +kernel
theorem dL_law_144 : decode cL_law 144 = .ok (.iload 4, 2) := by decide +kernel
theorem dL_law_146 : decode cL_law 146 = .ok (.iconst 2, 1) := by decide +kernel
theorem dL_law_147 : decode cL_law 147 = .ok (.iadd, 1) := by decide +kernel
theorem dL_law_148 : decode cL_law 148 = .ok (.iaload, 1) := by decide +kernel
theorem dL_law_149 : decode cL_law 149 = .ok (.aload_n 0, 1) := by decide +kernel
theorem dL_law_150 : decode cL_law 150 = .ok (.iload 4, 2) := by decide +kernel
theorem dL_law_152 : decode cL_law 152 = .ok (.iconst 3, 1) := by decide +kernel
theorem dL_law_153 : decode cL_law 153 = .ok (.iadd, 1) := by decide +kernel
theorem dL_law_154 : decode cL_law 154 = .ok (.iaload, 1) := by decide +kernel
theorem dL_law_155 : decode cL_law 155 = .ok (.aload_n 0, 1) := by decide +kernel
theorem dL_law_156 : decode cL_law 156 = .ok (.iload 4, 2) := by decide +kernel
theorem dL_law_158 : decode cL_law 158 = .ok (.iconst 4, 1) := by decide +kernel
theorem dL_law_159 : decode cL_law 159 = .ok (.iadd, 1) := by decide +kernel
theorem dL_law_160 : decode cL_law 160 = .ok (.iaload, 1) := by decide +kernel
theorem dL_law_161 : decode cL_law 161 = .ok (.aload_n 3, 1) := by decide +kernel
theorem dL_law_162 : decode cL_law 162 = .ok (.invokestatic 77, 3) := by decide +kernel
theorem dL_law_165 : decode cL_law 165 = .ok (.istore 5, 2) := by decide +kernel
theorem dL_law_167 : decode cL_law 167 = .ok (.aload_n 2, 1) := by decide +kernel
theorem dL_law_168 : decode cL_law 168 = .ok (.aload_n 0, 1) := by decide +kernel
theorem dL_law_169 : decode cL_law 169 = .ok (.iload 4, 2) := by decide +kernel
theorem dL_law_171 : decode cL_law 171 = .ok (.iconst 1, 1) := by decide +kernel
theorem dL_law_172 : decode cL_law 172 = .ok (.iadd, 1) := by decide +kernel
theorem dL_law_173 : decode cL_law 173 = .ok (.iaload, 1) := by decide +kernel
theorem dL_law_174 : decode cL_law 174 = .ok (.aload_n 0, 1) := by decide +kernel
theorem dL_law_175 : decode cL_law 175 = .ok (.iload 4, 2) := by decide +kernel
theorem dL_law_177 : decode cL_law 177 = .ok (.iconst 2, 1) := by decide +kernel
theorem dL_law_178 : decode cL_law 178 = .ok (.iadd, 1) := by decide +kernel
theorem dL_law_179 : decode cL_law 179 = .ok (.iaload, 1) := by decide +kernel
theorem dL_law_180 : decode cL_law 180 = .ok (.aload_n 0, 1) := by decide +kernel
theorem dL_law_181 : decode cL_law 181 = .ok (.iload 4, 2) := by decide +kernel
theorem dL_law_183 : decode cL_law 183 = .ok (.iconst 3, 1) := by decide +kernel
theorem dL_law_184 : decode cL_law 184 = .ok (.iadd, 1) := by decide +kernel
theorem dL_law_185 : decode cL_law 185 = .ok (.iaload, 1) := by decide +kernel
theorem dL_law_186 : decode cL_law 186 = .ok (.aload_n 0, 1) := by decide +kernel
theorem dL_law_187 : decode cL_law 187 = .ok (.iload 4, 2) := by decide +kernel
theorem dL_law_189 : decode cL_law 189 = .ok (.iconst 4, 1) := by decide +kernel
theorem dL_law_190 : decode cL_law 190 = .ok (.iadd, 1) := by decide +kernel
theorem dL_law_191 : decode cL_law 191 = .ok (.iaload, 1) := by decide +kernel
theorem dL_law_192 : decode cL_law 192 = .ok (.invokevirtual 80, 3) := by decide +kernel
theorem dL_law_195 : decode cL_law 195 = .ok (.istore 6, 2) := by decide +kernel
theorem dL_law_197 : decode cL_law 197 = .ok (.aload_n 2, 1) := by decide +kernel
theorem dL_law_198 : decode cL_law 198 = .ok (.invokevirtual 81, 3) := by decide +kernel
theorem dL_law_201 : decode cL_law 201 = .ok (.iload 5, 2) := by decide +kernel
theorem dL_law_203 : decode cL_law 203 = .ok (.if_icmp .eq 5, 3) := by decide +kernel
theorem dL_law_206 : decode cL_law 206 = .ok (.iconst 0, 1) := by decide +kernel
theorem dL_law_207 : decode cL_law 207 = .ok (.ireturn, 1) := by decide +kernel
theorem dL_law_208 : decode cL_law 208 = .ok (.iload 5, 2) := by decide +kernel
theorem dL_law_210 : decode cL_law 210 = .ok (.ifCond .ne 15, 3) := by decide +kernel
theorem dL_law_213 : decode cL_law 213 = .ok (.aload_n 3, 1) := by decide +kernel
theorem dL_law_214 : decode cL_law 214 = .ok (.iconst 0, 1) := by decide +kernel
theorem dL_law_215 : decode cL_law 215 = .ok (.laload, 1) := by decide +kernel
theorem dL_law_216 : decode cL_law 216 = .ok (.iload 6, 2) := by decide +kernel
theorem dL_law_218 : decode cL_law 218 = .ok (.i2l, 1) := by decide +kernel
theorem dL_law_219 : decode cL_law 219 = .ok (.lcmp, 1) := by decide +kernel
theorem dL_law_220 : decode cL_law 220 = .ok (.ifCond .eq 5, 3) := by decide +kernel
theorem dL_law_223 : decode cL_law 223 = .ok (.iconst 0, 1) := by decide +kernel
theorem dL_law_224 : decode cL_law 224 = .ok (.ireturn, 1) := by decide +kernel
theorem dL_law_225 : decode cL_law 225 = .ok (.goto 1006, 3) := by decide +kernel
theorem dL_law_228 : decode cL_law 228 = .ok (.aload_n 1, 1) := by decide +kernel
theorem dL_law_229 : decode cL_law 229 = .ok (.aload_n 0, 1) := by decide +kernel
theorem dL_law_230 : decode cL_law 230 = .ok (.iload 4, 2) := by decide +kernel
theorem dL_law_232 : decode cL_law 232 = .ok (.iconst 1, 1) := by decide +kernel
theorem dL_law_233 : decode cL_law 233 = .ok (.iadd, 1) := by decide +kernel
theorem dL_law_234 : decode cL_law 234 = .ok (.iaload, 1) := by decide +kernel
theorem dL_law_235 : decode cL_law 235 = .ok (.aload_n 0, 1) := by decide +kernel
theorem dL_law_236 : decode cL_law 236 = .ok (.iload 4, 2) := by decide +kernel
theorem dL_law_238 : decode cL_law 238 = .ok (.iconst 2, 1) := by decide +kernel
theorem dL_law_239 : decode cL_law 239 = .ok (.iadd, 1) := by decide +kernel
theorem dL_law_240 : decode cL_law 240 = .ok (.iaload, 1) := by decide +kernel
theorem dL_law_241 : decode cL_law 241 = .ok (.invokestatic 85, 3) := by decide +kernel
theorem dL_law_244 : decode cL_law 244 = .ok (.istore 5, 2) := by decide +kernel
theorem dL_law_246 : decode cL_law 246 = .ok (.aload_n 2, 1) := by decide +kernel
theorem dL_law_247 : decode cL_law 247 = .ok (.aload_n 0, 1) := by decide +kernel
theorem dL_law_248 : decode cL_law 248 = .ok (.iload 4, 2) := by decide +kernel
theorem dL_law_250 : decode cL_law 250 = .ok (.iconst 1, 1) := by decide +kernel
theorem dL_law_251 : decode cL_law 251 = .ok (.iadd, 1) := by decide +kernel
theorem dL_law_252 : decode cL_law 252 = .ok (.iaload, 1) := by decide +kernel
theorem dL_law_253 : decode cL_law 253 = .ok (.aload_n 0, 1) := by decide +kernel
theorem dL_law_254 : decode cL_law 254 = .ok (.iload 4, 2) := by decide +kernel
theorem dL_law_256 : decode cL_law 256 = .ok (.iconst 2, 1) := by decide +kernel
theorem dL_law_257 : decode cL_law 257 = .ok (.iadd, 1) := by decide +kernel
theorem dL_law_258 : decode cL_law 258 = .ok (.iaload, 1) := by decide +kernel
theorem dL_law_259 : decode cL_law 259 = .ok (.invokevirtual 88, 3) := by decide +kernel
theorem dL_law_262 : decode cL_law 262 = .ok (.aload_n 2, 1) := by decide +kernel
theorem dL_law_263 : decode cL_law 263 = .ok (.invokevirtual 81, 3) := by decide +kernel
theorem dL_law_266 : decode cL_law 266 = .ok (.iload 5, 2) := by decide +kernel
theorem dL_law_268 : decode cL_law 268 = .ok (.if_icmp .eq 5, 3) := by decide +kernel
theorem dL_law_271 : decode cL_law 271 = .ok (.iconst 0, 1) := by decide +kernel
theorem dL_law_272 : decode cL_law 272 = .ok (.ireturn, 1) := by decide +kernel
theorem dL_law_273 : decode cL_law 273 = .ok (.goto 958, 3) := by decide +kernel
theorem dL_law_276 : decode cL_law 276 = .ok (.aload_n 1, 1) := by decide +kernel
theorem dL_law_277 : decode cL_law 277 = .ok (.aload_n 0, 1) := by decide +kernel
theorem dL_law_278 : decode cL_law 278 = .ok (.iload 4, 2) := by decide +kernel
theorem dL_law_280 : decode cL_law 280 = .ok (.iconst 1, 1) := by decide +kernel
theorem dL_law_281 : decode cL_law 281 = .ok (.iadd, 1) := by decide +kernel
theorem dL_law_282 : decode cL_law 282 = .ok (.iaload, 1) := by decide +kernel
theorem dL_law_283 : decode cL_law 283 = .ok (.aload_n 0, 1) := by decide +kernel
theorem dL_law_284 : decode cL_law 284 = .ok (.iload 4, 2) := by decide +kernel
theorem dL_law_286 : decode cL_law 286 = .ok (.iconst 2, 1) := by decide +kernel
theorem dL_law_287 : decode cL_law 287 = .ok (.iadd, 1) := by decide +kernel
theorem dL_law_288 : decode cL_law 288 = .ok (.iaload, 1) := by decide +kernel
theorem dL_law_289 : decode cL_law 289 = .ok (.aload_n 0, 1) := by decide +kernel
theorem dL_law_290 : decode cL_law 290 = .ok (.iload 4, 2) := by decide +kernel
theorem dL_law_292 : decode cL_law 292 = .ok (.iconst 3, 1) := by decide +kernel
theorem dL_law_293 : decode cL_law 293 = .ok (.iadd, 1) := by decide +kernel
theorem dL_law_294 : decode cL_law 294 = .ok (.iaload, 1) := by decide +kernel
theorem dL_law_295 : decode cL_law 295 = .ok (.aload_n 0, 1) := by decide +kernel
theorem dL_law_296 : decode cL_law 296 = .ok (.iload 4, 2) := by decide +kernel
theorem dL_law_298 : decode cL_law 298 = .ok (.iconst 4, 1) := by decide +kernel
theorem dL_law_299 : decode cL_law 299 = .ok (.iadd, 1) := by decide +kernel
theorem dL_law_300 : decode cL_law 300 = .ok (.iaload, 1) := by decide +kernel
theorem dL_law_301 : decode cL_law 301 = .ok (.aload_n 0, 1) := by decide +kernel
theorem dL_law_302 : decode cL_law 302 = .ok (.iload 4, 2) := by decide +kernel
theorem dL_law_304 : decode cL_law 304 = .ok (.iconst 5, 1) := by decide +kernel
theorem dL_law_305 : decode cL_law 305 = .ok (.iadd, 1) := by decide +kernel
theorem dL_law_306 : decode cL_law 306 = .ok (.iaload, 1) := by decide +kernel
theorem dL_law_307 : decode cL_law 307 = .ok (.ifCond .eq 7, 3) := by decide +kernel
theorem dL_law_310 : decode cL_law 310 = .ok (.iconst 1, 1) := by decide +kernel
theorem dL_law_311 : decode cL_law 311 = .ok (.goto 4, 3) := by decide +kernel
theorem dL_law_314 : decode cL_law 314 = .ok (.iconst 0, 1) := by decide +kernel
theorem dL_law_315 : decode cL_law 315 = .ok (.invokevirtual 89, 3) := by decide +kernel
theorem dL_law_318 : decode cL_law 318 = .ok (.aload_n 2, 1) := by decide +kernel
theorem dL_law_319 : decode cL_law 319 = .ok (.aload_n 0, 1) := by decide +kernel
theorem dL_law_320 : decode cL_law 320 = .ok (.iload 4, 2) := by decide +kernel
theorem dL_law_322 : decode cL_law 322 = .ok (.iconst 1, 1) := by decide +kernel
theorem dL_law_323 : decode cL_law 323 = .ok (.iadd, 1) := by decide +kernel
theorem dL_law_324 : decode cL_law 324 = .ok (.iaload, 1) := by decide +kernel
theorem dL_law_325 : decode cL_law 325 = .ok (.aload_n 0, 1) := by decide +kernel
theorem dL_law_326 : decode cL_law 326 = .ok (.iload 4, 2) := by decide +kernel
theorem dL_law_328 : decode cL_law 328 = .ok (.iconst 2, 1) := by decide +kernel
theorem dL_law_329 : decode cL_law 329 = .ok (.iadd, 1) := by decide +kernel
theorem dL_law_330 : decode cL_law 330 = .ok (.iaload, 1) := by decide +kernel
theorem dL_law_331 : decode cL_law 331 = .ok (.aload_n 0, 1) := by decide +kernel
theorem dL_law_332 : decode cL_law 332 = .ok (.iload 4, 2) := by decide +kernel
theorem dL_law_334 : decode cL_law 334 = .ok (.iconst 3, 1) := by decide +kernel
theorem dL_law_335 : decode cL_law 335 = .ok (.iadd, 1) := by decide +kernel
theorem dL_law_336 : decode cL_law 336 = .ok (.iaload, 1) := by decide +kernel
theorem dL_law_337 : decode cL_law 337 = .ok (.aload_n 0, 1) := by decide +kernel
theorem dL_law_338 : decode cL_law 338 = .ok (.iload 4, 2) := by decide +kernel
theorem dL_law_340 : decode cL_law 340 = .ok (.iconst 4, 1) := by decide +kernel
theorem dL_law_341 : decode cL_law 341 = .ok (.iadd, 1) := by decide +kernel
theorem dL_law_342 : decode cL_law 342 = .ok (.iaload, 1) := by decide +kernel
theorem dL_law_343 : decode cL_law 343 = .ok (.aload_n 0, 1) := by decide +kernel
theorem dL_law_344 : decode cL_law 344 = .ok (.iload 4, 2) := by decide +kernel
theorem dL_law_346 : decode cL_law 346 = .ok (.iconst 5, 1) := by decide +kernel
theorem dL_law_347 : decode cL_law 347 = .ok (.iadd, 1) := by decide +kernel
theorem dL_law_348 : decode cL_law 348 = .ok (.iaload, 1) := by decide +kernel
theorem dL_law_349 : decode cL_law 349 = .ok (.ifCond .eq 7, 3) := by decide +kernel
theorem dL_law_352 : decode cL_law 352 = .ok (.iconst 1, 1) := by decide +kernel
theorem dL_law_353 : decode cL_law 353 = .ok (.goto 4, 3) := by decide +kernel
theorem dL_law_356 : decode cL_law 356 = .ok (.iconst 0, 1) := by decide +kernel
theorem dL_law_357 : decode cL_law 357 = .ok (.invokevirtual 93, 3) := by decide +kernel
theorem dL_law_360 : decode cL_law 360 = .ok (.if_icmp .eq 871, 3) := by decide +kernel
theorem dL_law_363 : decode cL_law 363 = .ok (.iconst 0, 1) := by decide +kernel
theorem dL_law_364 : decode cL_law 364 = .ok (.ireturn, 1) := by decide +kernel
theorem dL_law_365 : decode cL_law 365 = .ok (.aload_n 1, 1) := by decide +kernel
theorem dL_law_366 : decode cL_law 366 = .ok (.aload_n 0, 1) := by decide +kernel
theorem dL_law_367 : decode cL_law 367 = .ok (.iload 4, 2) := by decide +kernel
theorem dL_law_369 : decode cL_law 369 = .ok (.iconst 1, 1) := by decide +kernel
theorem dL_law_370 : decode cL_law 370 = .ok (.iadd, 1) := by decide +kernel
theorem dL_law_371 : decode cL_law 371 = .ok (.iaload, 1) := by decide +kernel
theorem dL_law_372 : decode cL_law 372 = .ok (.aload_n 3, 1) := by decide +kernel
theorem dL_law_373 : decode cL_law 373 = .ok (.invokestatic 94, 3) := by decide +kernel
theorem dL_law_376 : decode cL_law 376 = .ok (.istore 5, 2) := by decide +kernel
theorem dL_law_378 : decode cL_law 378 = .ok (.aload_n 2, 1) := by decide +kernel
theorem dL_law_379 : decode cL_law 379 = .ok (.aload_n 0, 1) := by decide +kernel
theorem dL_law_380 : decode cL_law 380 = .ok (.iload 4, 2) := by decide +kernel
theorem dL_law_382 : decode cL_law 382 = .ok (.iconst 1, 1) := by decide +kernel
theorem dL_law_383 : decode cL_law 383 = .ok (.iadd, 1) := by decide +kernel
theorem dL_law_384 : decode cL_law 384 = .ok (.iaload, 1) := by decide +kernel
theorem dL_law_385 : decode cL_law 385 = .ok (.invokevirtual 97, 3) := by decide +kernel
theorem dL_law_388 : decode cL_law 388 = .ok (.istore 6, 2) := by decide +kernel
theorem dL_law_390 : decode cL_law 390 = .ok (.aload_n 2, 1) := by decide +kernel
theorem dL_law_391 : decode cL_law 391 = .ok (.invokevirtual 81, 3) := by decide +kernel
theorem dL_law_394 : decode cL_law 394 = .ok (.iload 5, 2) := by decide +kernel
theorem dL_law_396 : decode cL_law 396 = .ok (.if_icmp .eq 5, 3) := by decide +kernel
theorem dL_law_399 : decode cL_law 399 = .ok (.iconst 0, 1) := by decide +kernel
theorem dL_law_400 : decode cL_law 400 = .ok (.ireturn, 1) := by decide +kernel
theorem dL_law_401 : decode cL_law 401 = .ok (.iload 5, 2) := by decide +kernel
theorem dL_law_403 : decode cL_law 403 = .ok (.ifCond .ne 15, 3) := by decide +kernel
theorem dL_law_406 : decode cL_law 406 = .ok (.aload_n 3, 1) := by decide +kernel
theorem dL_law_407 : decode cL_law 407 = .ok (.iconst 0, 1) := by decide +kernel
theorem dL_law_408 : decode cL_law 408 = .ok (.laload, 1) := by decide +kernel
theorem dL_law_409 : decode cL_law 409 = .ok (.iload 6, 2) := by decide +kernel
theorem dL_law_411 : decode cL_law 411 = .ok (.i2l, 1) := by decide +kernel
theorem dL_law_412 : decode cL_law 412 = .ok (.lcmp, 1) := by decide +kernel
theorem dL_law_413 : decode cL_law 413 = .ok (.ifCond .eq 5, 3) := by decide +kernel
theorem dL_law_416 : decode cL_law 416 = .ok (.iconst 0, 1) := by decide +kernel
theorem dL_law_417 : decode cL_law 417 = .ok (.ireturn, 1) := by decide +kernel
theorem dL_law_418 : decode cL_law 418 = .ok (.goto 813, 3) := by decide +kernel
theorem dL_law_421 : decode cL_law 421 = .ok (.aload_n 1, 1) := by decide +kernel
theorem dL_law_422 : decode cL_law 422 = .ok (.aload_n 0, 1) := by decide +kernel
theorem dL_law_423 : decode cL_law 423 = .ok (.iload 4, 2) := by decide +kernel
theorem dL_law_425 : decode cL_law 425 = .ok (.iconst 1, 1) := by decide +kernel
theorem dL_law_426 : decode cL_law 426 = .ok (.iadd, 1) := by decide +kernel
theorem dL_law_427 : decode cL_law 427 = .ok (.iaload, 1) := by decide +kernel
theorem dL_law_428 : decode cL_law 428 = .ok (.aload_n 0, 1) := by decide +kernel
theorem dL_law_429 : decode cL_law 429 = .ok (.iload 4, 2) := by decide +kernel
theorem dL_law_431 : decode cL_law 431 = .ok (.iconst 2, 1) := by decide +kernel
theorem dL_law_432 : decode cL_law 432 = .ok (.iadd, 1) := by decide +kernel
theorem dL_law_433 : decode cL_law 433 = .ok (.iaload, 1) := by decide +kernel
theorem dL_law_434 : decode cL_law 434 = .ok (.aload_n 0, 1) := by decide +kernel
theorem dL_law_435 : decode cL_law 435 = .ok (.iload 4, 2) := by decide +kernel
theorem dL_law_437 : decode cL_law 437 = .ok (.iconst 3, 1) := by decide +kernel
theorem dL_law_438 : decode cL_law 438 = .ok (.iadd, 1) := by decide +kernel
theorem dL_law_439 : decode cL_law 439 = .ok (.iaload, 1) := by decide +kernel
theorem dL_law_440 : decode cL_law 440 = .ok (.aload_n 0, 1) := by decide +kernel
theorem dL_law_441 : decode cL_law 441 = .ok (.iload 4, 2) := by decide +kernel
theorem dL_law_443 : decode cL_law 443 = .ok (.iconst 4, 1) := by decide +kernel
theorem dL_law_444 : decode cL_law 444 = .ok (.iadd, 1) := by decide +kernel
theorem dL_law_445 : decode cL_law 445 = .ok (.iaload, 1) := by decide +kernel
theorem dL_law_446 : decode cL_law 446 = .ok (.aload_n 3, 1) := by decide +kernel
theorem dL_law_447 : decode cL_law 447 = .ok (.invokestatic 98, 3) := by decide +kernel
theorem dL_law_450 : decode cL_law 450 = .ok (.istore 5, 2) := by decide +kernel
theorem dL_law_452 : decode cL_law 452 = .ok (.aload_n 2, 1) := by decide +kernel
theorem dL_law_453 : decode cL_law 453 = .ok (.aload_n 0, 1) := by decide +kernel
theorem dL_law_454 : decode cL_law 454 = .ok (.iload 4, 2) := by decide +kernel
theorem dL_law_456 : decode cL_law 456 = .ok (.iconst 1, 1) := by decide +kernel
theorem dL_law_457 : decode cL_law 457 = .ok (.iadd, 1) := by decide +kernel
theorem dL_law_458 : decode cL_law 458 = .ok (.iaload, 1) := by decide +kernel
theorem dL_law_459 : decode cL_law 459 = .ok (.aload_n 0, 1) := by decide +kernel
theorem dL_law_460 : decode cL_law 460 = .ok (.iload 4, 2) := by decide +kernel
theorem dL_law_462 : decode cL_law 462 = .ok (.iconst 2, 1) := by decide +kernel
theorem dL_law_463 : decode cL_law 463 = .ok (.iadd, 1) := by decide +kernel
theorem dL_law_464 : decode cL_law 464 = .ok (.iaload, 1) := by decide +kernel
theorem dL_law_465 : decode cL_law 465 = .ok (.aload_n 0, 1) := by decide +kernel
theorem dL_law_466 : decode cL_law 466 = .ok (.iload 4, 2) := by decide +kernel
theorem dL_law_468 : decode cL_law 468 = .ok (.iconst 3, 1) := by decide +kernel
theorem dL_law_469 : decode cL_law 469 = .ok (.iadd, 1) := by decide +kernel
theorem dL_law_470 : decode cL_law 470 = .ok (.iaload, 1) := by decide +kernel
theorem dL_law_471 : decode cL_law 471 = .ok (.aload_n 0, 1) := by decide +kernel
theorem dL_law_472 : decode cL_law 472 = .ok (.iload 4, 2) := by decide +kernel
theorem dL_law_474 : decode cL_law 474 = .ok (.iconst 4, 1) := by decide +kernel
theorem dL_law_475 : decode cL_law 475 = .ok (.iadd, 1) := by decide +kernel
theorem dL_law_476 : decode cL_law 476 = .ok (.iaload, 1) := by decide +kernel
theorem dL_law_477 : decode cL_law 477 = .ok (.invokevirtual 100, 3) := by decide +kernel
theorem dL_law_480 : decode cL_law 480 = .ok (.istore 6, 2) := by decide +kernel
theorem dL_law_482 : decode cL_law 482 = .ok (.aload_n 2, 1) := by decide +kernel
theorem dL_law_483 : decode cL_law 483 = .ok (.invokevirtual 81, 3) := by decide +kernel
theorem dL_law_486 : decode cL_law 486 = .ok (.iload 5, 2) := by decide +kernel
theorem dL_law_488 : decode cL_law 488 = .ok (.if_icmp .eq 5, 3) := by decide +kernel
theorem dL_law_491 : decode cL_law 491 = .ok (.iconst 0, 1) := by decide +kernel
theorem dL_law_492 : decode cL_law 492 = .ok (.ireturn, 1) := by decide +kernel
theorem dL_law_493 : decode cL_law 493 = .ok (.iload 5, 2) := by decide +kernel
theorem dL_law_495 : decode cL_law 495 = .ok (.ifCond .ne 15, 3) := by decide +kernel
theorem dL_law_498 : decode cL_law 498 = .ok (.aload_n 3, 1) := by decide +kernel
theorem dL_law_499 : decode cL_law 499 = .ok (.iconst 0, 1) := by decide +kernel
theorem dL_law_500 : decode cL_law 500 = .ok (.laload, 1) := by decide +kernel
theorem dL_law_501 : decode cL_law 501 = .ok (.iload 6, 2) := by decide +kernel
theorem dL_law_503 : decode cL_law 503 = .ok (.i2l, 1) := by decide +kernel
theorem dL_law_504 : decode cL_law 504 = .ok (.lcmp, 1) := by decide +kernel
theorem dL_law_505 : decode cL_law 505 = .ok (.ifCond .eq 5, 3) := by decide +kernel
theorem dL_law_508 : decode cL_law 508 = .ok (.iconst 0, 1) := by decide +kernel
theorem dL_law_509 : decode cL_law 509 = .ok (.ireturn, 1) := by decide +kernel
theorem dL_law_510 : decode cL_law 510 = .ok (.goto 721, 3) := by decide +kernel
theorem dL_law_513 : decode cL_law 513 = .ok (.aload_n 1, 1) := by decide +kernel
theorem dL_law_514 : decode cL_law 514 = .ok (.aload_n 0, 1) := by decide +kernel
theorem dL_law_515 : decode cL_law 515 = .ok (.iload 4, 2) := by decide +kernel
theorem dL_law_517 : decode cL_law 517 = .ok (.iconst 1, 1) := by decide +kernel
theorem dL_law_518 : decode cL_law 518 = .ok (.iadd, 1) := by decide +kernel
theorem dL_law_519 : decode cL_law 519 = .ok (.iaload, 1) := by decide +kernel
theorem dL_law_520 : decode cL_law 520 = .ok (.aload_n 0, 1) := by decide +kernel
theorem dL_law_521 : decode cL_law 521 = .ok (.iload 4, 2) := by decide +kernel
theorem dL_law_523 : decode cL_law 523 = .ok (.iconst 2, 1) := by decide +kernel
theorem dL_law_524 : decode cL_law 524 = .ok (.iadd, 1) := by decide +kernel
theorem dL_law_525 : decode cL_law 525 = .ok (.iaload, 1) := by decide +kernel
theorem dL_law_526 : decode cL_law 526 = .ok (.aload_n 0, 1) := by decide +kernel
theorem dL_law_527 : decode cL_law 527 = .ok (.iload 4, 2) := by decide +kernel
theorem dL_law_529 : decode cL_law 529 = .ok (.iconst 3, 1) := by decide +kernel
theorem dL_law_530 : decode cL_law 530 = .ok (.iadd, 1) := by decide +kernel
theorem dL_law_531 : decode cL_law 531 = .ok (.iaload, 1) := by decide +kernel
theorem dL_law_532 : decode cL_law 532 = .ok (.aload_n 0, 1) := by decide +kernel
theorem dL_law_533 : decode cL_law 533 = .ok (.iload 4, 2) := by decide +kernel
theorem dL_law_535 : decode cL_law 535 = .ok (.iconst 4, 1) := by decide +kernel
theorem dL_law_536 : decode cL_law 536 = .ok (.iadd, 1) := by decide +kernel
theorem dL_law_537 : decode cL_law 537 = .ok (.iaload, 1) := by decide +kernel
theorem dL_law_538 : decode cL_law 538 = .ok (.ifCond .eq 7, 3) := by decide +kernel
theorem dL_law_541 : decode cL_law 541 = .ok (.iconst 1, 1) := by decide +kernel
theorem dL_law_542 : decode cL_law 542 = .ok (.goto 4, 3) := by decide +kernel
theorem dL_law_545 : decode cL_law 545 = .ok (.iconst 0, 1) := by decide +kernel
theorem dL_law_546 : decode cL_law 546 = .ok (.aload_n 3, 1) := by decide +kernel
theorem dL_law_547 : decode cL_law 547 = .ok (.invokestatic 101, 3) := by decide +kernel
theorem dL_law_550 : decode cL_law 550 = .ok (.istore 5, 2) := by decide +kernel
theorem dL_law_552 : decode cL_law 552 = .ok (.aload_n 2, 1) := by decide +kernel
theorem dL_law_553 : decode cL_law 553 = .ok (.aload_n 0, 1) := by decide +kernel
theorem dL_law_554 : decode cL_law 554 = .ok (.iload 4, 2) := by decide +kernel
theorem dL_law_556 : decode cL_law 556 = .ok (.iconst 1, 1) := by decide +kernel
theorem dL_law_557 : decode cL_law 557 = .ok (.iadd, 1) := by decide +kernel
theorem dL_law_558 : decode cL_law 558 = .ok (.iaload, 1) := by decide +kernel
theorem dL_law_559 : decode cL_law 559 = .ok (.aload_n 0, 1) := by decide +kernel
theorem dL_law_560 : decode cL_law 560 = .ok (.iload 4, 2) := by decide +kernel
theorem dL_law_562 : decode cL_law 562 = .ok (.iconst 2, 1) := by decide +kernel
theorem dL_law_563 : decode cL_law 563 = .ok (.iadd, 1) := by decide +kernel
theorem dL_law_564 : decode cL_law 564 = .ok (.iaload, 1) := by decide +kernel
theorem dL_law_565 : decode cL_law 565 = .ok (.aload_n 0, 1) := by decide +kernel
theorem dL_law_566 : decode cL_law 566 = .ok (.iload 4, 2) := by decide +kernel
theorem dL_law_568 : decode cL_law 568 = .ok (.iconst 3, 1) := by decide +kernel
theorem dL_law_569 : decode cL_law 569 = .ok (.iadd, 1) := by decide +kernel
theorem dL_law_570 : decode cL_law 570 = .ok (.iaload, 1) := by decide +kernel
theorem dL_law_571 : decode cL_law 571 = .ok (.aload_n 0, 1) := by decide +kernel
theorem dL_law_572 : decode cL_law 572 = .ok (.iload 4, 2) := by decide +kernel
theorem dL_law_574 : decode cL_law 574 = .ok (.iconst 4, 1) := by decide +kernel
theorem dL_law_575 : decode cL_law 575 = .ok (.iadd, 1) := by decide +kernel
theorem dL_law_576 : decode cL_law 576 = .ok (.iaload, 1) := by decide +kernel
theorem dL_law_577 : decode cL_law 577 = .ok (.ifCond .eq 7, 3) := by decide +kernel
theorem dL_law_580 : decode cL_law 580 = .ok (.iconst 1, 1) := by decide +kernel
theorem dL_law_581 : decode cL_law 581 = .ok (.goto 4, 3) := by decide +kernel
theorem dL_law_584 : decode cL_law 584 = .ok (.iconst 0, 1) := by decide +kernel
theorem dL_law_585 : decode cL_law 585 = .ok (.invokevirtual 104, 3) := by decide +kernel
theorem dL_law_588 : decode cL_law 588 = .ok (.istore 6, 2) := by decide +kernel
theorem dL_law_590 : decode cL_law 590 = .ok (.aload_n 2, 1) := by decide +kernel
theorem dL_law_591 : decode cL_law 591 = .ok (.invokevirtual 81, 3) := by decide +kernel
theorem dL_law_594 : decode cL_law 594 = .ok (.iload 5, 2) := by decide +kernel
theorem dL_law_596 : decode cL_law 596 = .ok (.if_icmp .eq 5, 3) := by decide +kernel
theorem dL_law_599 : decode cL_law 599 = .ok (.iconst 0, 1) := by decide +kernel
theorem dL_law_600 : decode cL_law 600 = .ok (.ireturn, 1) := by decide +kernel
theorem dL_law_601 : decode cL_law 601 = .ok (.iload 5, 2) := by decide +kernel
theorem dL_law_603 : decode cL_law 603 = .ok (.ifCond .ne 15, 3) := by decide +kernel
theorem dL_law_606 : decode cL_law 606 = .ok (.aload_n 3, 1) := by decide +kernel
theorem dL_law_607 : decode cL_law 607 = .ok (.iconst 0, 1) := by decide +kernel
theorem dL_law_608 : decode cL_law 608 = .ok (.laload, 1) := by decide +kernel
theorem dL_law_609 : decode cL_law 609 = .ok (.iload 6, 2) := by decide +kernel
theorem dL_law_611 : decode cL_law 611 = .ok (.i2l, 1) := by decide +kernel
theorem dL_law_612 : decode cL_law 612 = .ok (.lcmp, 1) := by decide +kernel
theorem dL_law_613 : decode cL_law 613 = .ok (.ifCond .eq 5, 3) := by decide +kernel
theorem dL_law_616 : decode cL_law 616 = .ok (.iconst 0, 1) := by decide +kernel
theorem dL_law_617 : decode cL_law 617 = .ok (.ireturn, 1) := by decide +kernel
theorem dL_law_618 : decode cL_law 618 = .ok (.goto 613, 3) := by decide +kernel
theorem dL_law_621 : decode cL_law 621 = .ok (.aload_n 1, 1) := by decide +kernel
theorem dL_law_622 : decode cL_law 622 = .ok (.aload_n 0, 1) := by decide +kernel
theorem dL_law_623 : decode cL_law 623 = .ok (.iload 4, 2) := by decide +kernel
theorem dL_law_625 : decode cL_law 625 = .ok (.iconst 1, 1) := by decide +kernel
theorem dL_law_626 : decode cL_law 626 = .ok (.iadd, 1) := by decide +kernel
theorem dL_law_627 : decode cL_law 627 = .ok (.iaload, 1) := by decide +kernel
theorem dL_law_628 : decode cL_law 628 = .ok (.aload_n 0, 1) := by decide +kernel
theorem dL_law_629 : decode cL_law 629 = .ok (.iload 4, 2) := by decide +kernel
theorem dL_law_631 : decode cL_law 631 = .ok (.iconst 2, 1) := by decide +kernel
theorem dL_law_632 : decode cL_law 632 = .ok (.iadd, 1) := by decide +kernel
theorem dL_law_633 : decode cL_law 633 = .ok (.iaload, 1) := by decide +kernel
theorem dL_law_634 : decode cL_law 634 = .ok (.aload_n 3, 1) := by decide +kernel
theorem dL_law_635 : decode cL_law 635 = .ok (.invokestatic 105, 3) := by decide +kernel
theorem dL_law_638 : decode cL_law 638 = .ok (.istore 5, 2) := by decide +kernel
theorem dL_law_640 : decode cL_law 640 = .ok (.aload_n 2, 1) := by decide +kernel
theorem dL_law_641 : decode cL_law 641 = .ok (.aload_n 0, 1) := by decide +kernel
theorem dL_law_642 : decode cL_law 642 = .ok (.iload 4, 2) := by decide +kernel
theorem dL_law_644 : decode cL_law 644 = .ok (.iconst 1, 1) := by decide +kernel
theorem dL_law_645 : decode cL_law 645 = .ok (.iadd, 1) := by decide +kernel
theorem dL_law_646 : decode cL_law 646 = .ok (.iaload, 1) := by decide +kernel
theorem dL_law_647 : decode cL_law 647 = .ok (.aload_n 0, 1) := by decide +kernel
theorem dL_law_648 : decode cL_law 648 = .ok (.iload 4, 2) := by decide +kernel
theorem dL_law_650 : decode cL_law 650 = .ok (.iconst 2, 1) := by decide +kernel
theorem dL_law_651 : decode cL_law 651 = .ok (.iadd, 1) := by decide +kernel
theorem dL_law_652 : decode cL_law 652 = .ok (.iaload, 1) := by decide +kernel
theorem dL_law_653 : decode cL_law 653 = .ok (.invokevirtual 108, 3) := by decide +kernel
theorem dL_law_656 : decode cL_law 656 = .ok (.istore 6, 2) := by decide +kernel
theorem dL_law_658 : decode cL_law 658 = .ok (.aload_n 2, 1) := by decide +kernel
theorem dL_law_659 : decode cL_law 659 = .ok (.invokevirtual 81, 3) := by decide +kernel
theorem dL_law_662 : decode cL_law 662 = .ok (.iload 5, 2) := by decide +kernel
theorem dL_law_664 : decode cL_law 664 = .ok (.if_icmp .eq 5, 3) := by decide +kernel
theorem dL_law_667 : decode cL_law 667 = .ok (.iconst 0, 1) := by decide +kernel
theorem dL_law_668 : decode cL_law 668 = .ok (.ireturn, 1) := by decide +kernel
theorem dL_law_669 : decode cL_law 669 = .ok (.iload 5, 2) := by decide +kernel
theorem dL_law_671 : decode cL_law 671 = .ok (.ifCond .ne 15, 3) := by decide +kernel
theorem dL_law_674 : decode cL_law 674 = .ok (.aload_n 3, 1) := by decide +kernel
theorem dL_law_675 : decode cL_law 675 = .ok (.iconst 0, 1) := by decide +kernel
theorem dL_law_676 : decode cL_law 676 = .ok (.laload, 1) := by decide +kernel
theorem dL_law_677 : decode cL_law 677 = .ok (.iload 6, 2) := by decide +kernel
theorem dL_law_679 : decode cL_law 679 = .ok (.i2l, 1) := by decide +kernel
theorem dL_law_680 : decode cL_law 680 = .ok (.lcmp, 1) := by decide +kernel
theorem dL_law_681 : decode cL_law 681 = .ok (.ifCond .eq 5, 3) := by decide +kernel
theorem dL_law_684 : decode cL_law 684 = .ok (.iconst 0, 1) := by decide +kernel
theorem dL_law_685 : decode cL_law 685 = .ok (.ireturn, 1) := by decide +kernel
theorem dL_law_686 : decode cL_law 686 = .ok (.goto 545, 3) := by decide +kernel
theorem dL_law_689 : decode cL_law 689 = .ok (.aload_n 1, 1) := by decide +kernel
theorem dL_law_690 : decode cL_law 690 = .ok (.aload_n 0, 1) := by decide +kernel
theorem dL_law_691 : decode cL_law 691 = .ok (.iload 4, 2) := by decide +kernel
theorem dL_law_693 : decode cL_law 693 = .ok (.iconst 1, 1) := by decide +kernel
theorem dL_law_694 : decode cL_law 694 = .ok (.iadd, 1) := by decide +kernel
theorem dL_law_695 : decode cL_law 695 = .ok (.iaload, 1) := by decide +kernel
theorem dL_law_696 : decode cL_law 696 = .ok (.aload_n 3, 1) := by decide +kernel
theorem dL_law_697 : decode cL_law 697 = .ok (.invokestatic 109, 3) := by decide +kernel
theorem dL_law_700 : decode cL_law 700 = .ok (.istore 5, 2) := by decide +kernel
theorem dL_law_702 : decode cL_law 702 = .ok (.aload_n 2, 1) := by decide +kernel
theorem dL_law_703 : decode cL_law 703 = .ok (.aload_n 0, 1) := by decide +kernel
theorem dL_law_704 : decode cL_law 704 = .ok (.iload 4, 2) := by decide +kernel
theorem dL_law_706 : decode cL_law 706 = .ok (.iconst 1, 1) := by decide +kernel
theorem dL_law_707 : decode cL_law 707 = .ok (.iadd, 1) := by decide +kernel
theorem dL_law_708 : decode cL_law 708 = .ok (.iaload, 1) := by decide +kernel
theorem dL_law_709 : decode cL_law 709 = .ok (.invokevirtual 111, 3) := by decide +kernel
theorem dL_law_712 : decode cL_law 712 = .ok (.istore 6, 2) := by decide +kernel
theorem dL_law_714 : decode cL_law 714 = .ok (.aload_n 2, 1) := by decide +kernel
theorem dL_law_715 : decode cL_law 715 = .ok (.invokevirtual 81, 3) := by decide +kernel
theorem dL_law_718 : decode cL_law 718 = .ok (.iload 5, 2) := by decide +kernel
theorem dL_law_720 : decode cL_law 720 = .ok (.if_icmp .eq 5, 3) := by decide +kernel
theorem dL_law_723 : decode cL_law 723 = .ok (.iconst 0, 1) := by decide +kernel
theorem dL_law_724 : decode cL_law 724 = .ok (.ireturn, 1) := by decide +kernel
theorem dL_law_725 : decode cL_law 725 = .ok (.iload 5, 2) := by decide +kernel
theorem dL_law_727 : decode cL_law 727 = .ok (.ifCond .ne 15, 3) := by decide +kernel
theorem dL_law_730 : decode cL_law 730 = .ok (.aload_n 3, 1) := by decide +kernel
theorem dL_law_731 : decode cL_law 731 = .ok (.iconst 0, 1) := by decide +kernel
theorem dL_law_732 : decode cL_law 732 = .ok (.laload, 1) := by decide +kernel
theorem dL_law_733 : decode cL_law 733 = .ok (.iload 6, 2) := by decide +kernel
theorem dL_law_735 : decode cL_law 735 = .ok (.i2l, 1) := by decide +kernel
theorem dL_law_736 : decode cL_law 736 = .ok (.lcmp, 1) := by decide +kernel
theorem dL_law_737 : decode cL_law 737 = .ok (.ifCond .eq 5, 3) := by decide +kernel
theorem dL_law_740 : decode cL_law 740 = .ok (.iconst 0, 1) := by decide +kernel
theorem dL_law_741 : decode cL_law 741 = .ok (.ireturn, 1) := by decide +kernel
theorem dL_law_742 : decode cL_law 742 = .ok (.goto 489, 3) := by decide +kernel
theorem dL_law_745 : decode cL_law 745 = .ok (.aload_n 1, 1) := by decide +kernel
theorem dL_law_746 : decode cL_law 746 = .ok (.aload_n 0, 1) := by decide +kernel
theorem dL_law_747 : decode cL_law 747 = .ok (.iload 4, 2) := by decide +kernel
theorem dL_law_749 : decode cL_law 749 = .ok (.iconst 1, 1) := by decide +kernel
theorem dL_law_750 : decode cL_law 750 = .ok (.iadd, 1) := by decide +kernel
theorem dL_law_751 : decode cL_law 751 = .ok (.iaload, 1) := by decide +kernel
theorem dL_law_752 : decode cL_law 752 = .ok (.aload_n 0, 1) := by decide +kernel
theorem dL_law_753 : decode cL_law 753 = .ok (.iload 4, 2) := by decide +kernel
theorem dL_law_755 : decode cL_law 755 = .ok (.iconst 2, 1) := by decide +kernel
theorem dL_law_756 : decode cL_law 756 = .ok (.iadd, 1) := by decide +kernel
theorem dL_law_757 : decode cL_law 757 = .ok (.iaload, 1) := by decide +kernel
theorem dL_law_758 : decode cL_law 758 = .ok (.invokestatic 112, 3) := by decide +kernel
theorem dL_law_761 : decode cL_law 761 = .ok (.istore 5, 2) := by decide +kernel
theorem dL_law_763 : decode cL_law 763 = .ok (.aload_n 2, 1) := by decide +kernel
theorem dL_law_764 : decode cL_law 764 = .ok (.aload_n 0, 1) := by decide +kernel
theorem dL_law_765 : decode cL_law 765 = .ok (.iload 4, 2) := by decide +kernel
theorem dL_law_767 : decode cL_law 767 = .ok (.iconst 1, 1) := by decide +kernel
theorem dL_law_768 : decode cL_law 768 = .ok (.iadd, 1) := by decide +kernel
theorem dL_law_769 : decode cL_law 769 = .ok (.iaload, 1) := by decide +kernel
theorem dL_law_770 : decode cL_law 770 = .ok (.aload_n 0, 1) := by decide +kernel
theorem dL_law_771 : decode cL_law 771 = .ok (.iload 4, 2) := by decide +kernel
theorem dL_law_773 : decode cL_law 773 = .ok (.iconst 2, 1) := by decide +kernel
theorem dL_law_774 : decode cL_law 774 = .ok (.iadd, 1) := by decide +kernel
theorem dL_law_775 : decode cL_law 775 = .ok (.iaload, 1) := by decide +kernel
theorem dL_law_776 : decode cL_law 776 = .ok (.invokevirtual 114, 3) := by decide +kernel
theorem dL_law_779 : decode cL_law 779 = .ok (.aload_n 2, 1) := by decide +kernel
theorem dL_law_780 : decode cL_law 780 = .ok (.invokevirtual 81, 3) := by decide +kernel
theorem dL_law_783 : decode cL_law 783 = .ok (.iload 5, 2) := by decide +kernel
theorem dL_law_785 : decode cL_law 785 = .ok (.if_icmp .eq 5, 3) := by decide +kernel
theorem dL_law_788 : decode cL_law 788 = .ok (.iconst 0, 1) := by decide +kernel
theorem dL_law_789 : decode cL_law 789 = .ok (.ireturn, 1) := by decide +kernel
theorem dL_law_790 : decode cL_law 790 = .ok (.goto 441, 3) := by decide +kernel
theorem dL_law_793 : decode cL_law 793 = .ok (.aload_n 1, 1) := by decide +kernel
theorem dL_law_794 : decode cL_law 794 = .ok (.aload_n 0, 1) := by decide +kernel
theorem dL_law_795 : decode cL_law 795 = .ok (.iload 4, 2) := by decide +kernel
theorem dL_law_797 : decode cL_law 797 = .ok (.iconst 1, 1) := by decide +kernel
theorem dL_law_798 : decode cL_law 798 = .ok (.iadd, 1) := by decide +kernel
theorem dL_law_799 : decode cL_law 799 = .ok (.iaload, 1) := by decide +kernel
theorem dL_law_800 : decode cL_law 800 = .ok (.aload_n 0, 1) := by decide +kernel
theorem dL_law_801 : decode cL_law 801 = .ok (.iload 4, 2) := by decide +kernel
theorem dL_law_803 : decode cL_law 803 = .ok (.iconst 2, 1) := by decide +kernel
theorem dL_law_804 : decode cL_law 804 = .ok (.iadd, 1) := by decide +kernel
theorem dL_law_805 : decode cL_law 805 = .ok (.iaload, 1) := by decide +kernel
theorem dL_law_806 : decode cL_law 806 = .ok (.aload_n 3, 1) := by decide +kernel
theorem dL_law_807 : decode cL_law 807 = .ok (.invokestatic 115, 3) := by decide +kernel
theorem dL_law_810 : decode cL_law 810 = .ok (.istore 5, 2) := by decide +kernel
theorem dL_law_812 : decode cL_law 812 = .ok (.aload_n 2, 1) := by decide +kernel
theorem dL_law_813 : decode cL_law 813 = .ok (.aload_n 0, 1) := by decide +kernel
theorem dL_law_814 : decode cL_law 814 = .ok (.iload 4, 2) := by decide +kernel
theorem dL_law_816 : decode cL_law 816 = .ok (.iconst 1, 1) := by decide +kernel
theorem dL_law_817 : decode cL_law 817 = .ok (.iadd, 1) := by decide +kernel
theorem dL_law_818 : decode cL_law 818 = .ok (.iaload, 1) := by decide +kernel
theorem dL_law_819 : decode cL_law 819 = .ok (.aload_n 0, 1) := by decide +kernel
theorem dL_law_820 : decode cL_law 820 = .ok (.iload 4, 2) := by decide +kernel
theorem dL_law_822 : decode cL_law 822 = .ok (.iconst 2, 1) := by decide +kernel
theorem dL_law_823 : decode cL_law 823 = .ok (.iadd, 1) := by decide +kernel
theorem dL_law_824 : decode cL_law 824 = .ok (.iaload, 1) := by decide +kernel
theorem dL_law_825 : decode cL_law 825 = .ok (.invokevirtual 117, 3) := by decide +kernel
theorem dL_law_828 : decode cL_law 828 = .ok (.istore 6, 2) := by decide +kernel
theorem dL_law_830 : decode cL_law 830 = .ok (.aload_n 2, 1) := by decide +kernel
theorem dL_law_831 : decode cL_law 831 = .ok (.invokevirtual 81, 3) := by decide +kernel
theorem dL_law_834 : decode cL_law 834 = .ok (.iload 5, 2) := by decide +kernel
theorem dL_law_836 : decode cL_law 836 = .ok (.if_icmp .eq 5, 3) := by decide +kernel
theorem dL_law_839 : decode cL_law 839 = .ok (.iconst 0, 1) := by decide +kernel
theorem dL_law_840 : decode cL_law 840 = .ok (.ireturn, 1) := by decide +kernel
theorem dL_law_841 : decode cL_law 841 = .ok (.iload 5, 2) := by decide +kernel
theorem dL_law_843 : decode cL_law 843 = .ok (.ifCond .ne 15, 3) := by decide +kernel
theorem dL_law_846 : decode cL_law 846 = .ok (.aload_n 3, 1) := by decide +kernel
theorem dL_law_847 : decode cL_law 847 = .ok (.iconst 0, 1) := by decide +kernel
theorem dL_law_848 : decode cL_law 848 = .ok (.laload, 1) := by decide +kernel
theorem dL_law_849 : decode cL_law 849 = .ok (.iload 6, 2) := by decide +kernel
theorem dL_law_851 : decode cL_law 851 = .ok (.i2l, 1) := by decide +kernel
theorem dL_law_852 : decode cL_law 852 = .ok (.lcmp, 1) := by decide +kernel
theorem dL_law_853 : decode cL_law 853 = .ok (.ifCond .eq 5, 3) := by decide +kernel
theorem dL_law_856 : decode cL_law 856 = .ok (.iconst 0, 1) := by decide +kernel
theorem dL_law_857 : decode cL_law 857 = .ok (.ireturn, 1) := by decide +kernel
theorem dL_law_858 : decode cL_law 858 = .ok (.goto 373, 3) := by decide +kernel
theorem dL_law_861 : decode cL_law 861 = .ok (.aload_n 1, 1) := by decide +kernel
theorem dL_law_862 : decode cL_law 862 = .ok (.aload_n 0, 1) := by decide +kernel
theorem dL_law_863 : decode cL_law 863 = .ok (.iload 4, 2) := by decide +kernel
theorem dL_law_865 : decode cL_law 865 = .ok (.iconst 1, 1) := by decide +kernel
theorem dL_law_866 : decode cL_law 866 = .ok (.iadd, 1) := by decide +kernel
theorem dL_law_867 : decode cL_law 867 = .ok (.iaload, 1) := by decide +kernel
theorem dL_law_868 : decode cL_law 868 = .ok (.aload_n 0, 1) := by decide +kernel
theorem dL_law_869 : decode cL_law 869 = .ok (.iload 4, 2) := by decide +kernel
theorem dL_law_871 : decode cL_law 871 = .ok (.iconst 2, 1) := by decide +kernel
theorem dL_law_872 : decode cL_law 872 = .ok (.iadd, 1) := by decide +kernel
theorem dL_law_873 : decode cL_law 873 = .ok (.iaload, 1) := by decide +kernel
theorem dL_law_874 : decode cL_law 874 = .ok (.aload_n 3, 1) := by decide +kernel
theorem dL_law_875 : decode cL_law 875 = .ok (.invokestatic 118, 3) := by decide +kernel
theorem dL_law_878 : decode cL_law 878 = .ok (.istore 5, 2) := by decide +kernel
theorem dL_law_880 : decode cL_law 880 = .ok (.aload_n 2, 1) := by decide +kernel
theorem dL_law_881 : decode cL_law 881 = .ok (.aload_n 0, 1) := by decide +kernel
theorem dL_law_882 : decode cL_law 882 = .ok (.iload 4, 2) := by decide +kernel
theorem dL_law_884 : decode cL_law 884 = .ok (.iconst 1, 1) := by decide +kernel
theorem dL_law_885 : decode cL_law 885 = .ok (.iadd, 1) := by decide +kernel
theorem dL_law_886 : decode cL_law 886 = .ok (.iaload, 1) := by decide +kernel
theorem dL_law_887 : decode cL_law 887 = .ok (.aload_n 0, 1) := by decide +kernel
theorem dL_law_888 : decode cL_law 888 = .ok (.iload 4, 2) := by decide +kernel
theorem dL_law_890 : decode cL_law 890 = .ok (.iconst 2, 1) := by decide +kernel
theorem dL_law_891 : decode cL_law 891 = .ok (.iadd, 1) := by decide +kernel
theorem dL_law_892 : decode cL_law 892 = .ok (.iaload, 1) := by decide +kernel
theorem dL_law_893 : decode cL_law 893 = .ok (.invokevirtual 120, 3) := by decide +kernel
theorem dL_law_896 : decode cL_law 896 = .ok (.istore 6, 2) := by decide +kernel
theorem dL_law_898 : decode cL_law 898 = .ok (.aload_n 2, 1) := by decide +kernel
theorem dL_law_899 : decode cL_law 899 = .ok (.invokevirtual 81, 3) := by decide +kernel
theorem dL_law_902 : decode cL_law 902 = .ok (.iload 5, 2) := by decide +kernel
theorem dL_law_904 : decode cL_law 904 = .ok (.if_icmp .eq 5, 3) := by decide +kernel
theorem dL_law_907 : decode cL_law 907 = .ok (.iconst 0, 1) := by decide +kernel
theorem dL_law_908 : decode cL_law 908 = .ok (.ireturn, 1) := by decide +kernel
theorem dL_law_909 : decode cL_law 909 = .ok (.iload 5, 2) := by decide +kernel
theorem dL_law_911 : decode cL_law 911 = .ok (.ifCond .ne 15, 3) := by decide +kernel
theorem dL_law_914 : decode cL_law 914 = .ok (.aload_n 3, 1) := by decide +kernel
theorem dL_law_915 : decode cL_law 915 = .ok (.iconst 0, 1) := by decide +kernel
theorem dL_law_916 : decode cL_law 916 = .ok (.laload, 1) := by decide +kernel
theorem dL_law_917 : decode cL_law 917 = .ok (.iload 6, 2) := by decide +kernel
theorem dL_law_919 : decode cL_law 919 = .ok (.i2l, 1) := by decide +kernel
theorem dL_law_920 : decode cL_law 920 = .ok (.lcmp, 1) := by decide +kernel
theorem dL_law_921 : decode cL_law 921 = .ok (.ifCond .eq 5, 3) := by decide +kernel
theorem dL_law_924 : decode cL_law 924 = .ok (.iconst 0, 1) := by decide +kernel
theorem dL_law_925 : decode cL_law 925 = .ok (.ireturn, 1) := by decide +kernel
theorem dL_law_926 : decode cL_law 926 = .ok (.goto 305, 3) := by decide +kernel
theorem dL_law_929 : decode cL_law 929 = .ok (.aload_n 1, 1) := by decide +kernel
theorem dL_law_930 : decode cL_law 930 = .ok (.aload_n 0, 1) := by decide +kernel
theorem dL_law_931 : decode cL_law 931 = .ok (.iload 4, 2) := by decide +kernel
theorem dL_law_933 : decode cL_law 933 = .ok (.iconst 1, 1) := by decide +kernel
theorem dL_law_934 : decode cL_law 934 = .ok (.iadd, 1) := by decide +kernel
theorem dL_law_935 : decode cL_law 935 = .ok (.iaload, 1) := by decide +kernel
theorem dL_law_936 : decode cL_law 936 = .ok (.aload_n 0, 1) := by decide +kernel
theorem dL_law_937 : decode cL_law 937 = .ok (.iload 4, 2) := by decide +kernel
theorem dL_law_939 : decode cL_law 939 = .ok (.iconst 2, 1) := by decide +kernel
theorem dL_law_940 : decode cL_law 940 = .ok (.iadd, 1) := by decide +kernel
theorem dL_law_941 : decode cL_law 941 = .ok (.iaload, 1) := by decide +kernel
theorem dL_law_942 : decode cL_law 942 = .ok (.aload_n 0, 1) := by decide +kernel
theorem dL_law_943 : decode cL_law 943 = .ok (.iload 4, 2) := by decide +kernel
theorem dL_law_945 : decode cL_law 945 = .ok (.iconst 3, 1) := by decide +kernel
theorem dL_law_946 : decode cL_law 946 = .ok (.iadd, 1) := by decide +kernel
theorem dL_law_947 : decode cL_law 947 = .ok (.iaload, 1) := by decide +kernel
theorem dL_law_948 : decode cL_law 948 = .ok (.aload_n 3, 1) := by decide +kernel
theorem dL_law_949 : decode cL_law 949 = .ok (.invokestatic 121, 3) := by decide +kernel
theorem dL_law_952 : decode cL_law 952 = .ok (.istore 5, 2) := by decide +kernel
theorem dL_law_954 : decode cL_law 954 = .ok (.aload_n 2, 1) := by decide +kernel
theorem dL_law_955 : decode cL_law 955 = .ok (.aload_n 0, 1) := by decide +kernel
theorem dL_law_956 : decode cL_law 956 = .ok (.iload 4, 2) := by decide +kernel
theorem dL_law_958 : decode cL_law 958 = .ok (.iconst 1, 1) := by decide +kernel
theorem dL_law_959 : decode cL_law 959 = .ok (.iadd, 1) := by decide +kernel
theorem dL_law_960 : decode cL_law 960 = .ok (.iaload, 1) := by decide +kernel
theorem dL_law_961 : decode cL_law 961 = .ok (.aload_n 0, 1) := by decide +kernel
theorem dL_law_962 : decode cL_law 962 = .ok (.iload 4, 2) := by decide +kernel
theorem dL_law_964 : decode cL_law 964 = .ok (.iconst 2, 1) := by decide +kernel
theorem dL_law_965 : decode cL_law 965 = .ok (.iadd, 1) := by decide +kernel
theorem dL_law_966 : decode cL_law 966 = .ok (.iaload, 1) := by decide +kernel
theorem dL_law_967 : decode cL_law 967 = .ok (.aload_n 0, 1) := by decide +kernel
theorem dL_law_968 : decode cL_law 968 = .ok (.iload 4, 2) := by decide +kernel
theorem dL_law_970 : decode cL_law 970 = .ok (.iconst 3, 1) := by decide +kernel
theorem dL_law_971 : decode cL_law 971 = .ok (.iadd, 1) := by decide +kernel
theorem dL_law_972 : decode cL_law 972 = .ok (.iaload, 1) := by decide +kernel
theorem dL_law_973 : decode cL_law 973 = .ok (.invokevirtual 124, 3) := by decide +kernel
theorem dL_law_976 : decode cL_law 976 = .ok (.istore 6, 2) := by decide +kernel
theorem dL_law_978 : decode cL_law 978 = .ok (.aload_n 2, 1) := by decide +kernel
theorem dL_law_979 : decode cL_law 979 = .ok (.invokevirtual 81, 3) := by decide +kernel
theorem dL_law_982 : decode cL_law 982 = .ok (.iload 5, 2) := by decide +kernel
theorem dL_law_984 : decode cL_law 984 = .ok (.if_icmp .eq 5, 3) := by decide +kernel
theorem dL_law_987 : decode cL_law 987 = .ok (.iconst 0, 1) := by decide +kernel
theorem dL_law_988 : decode cL_law 988 = .ok (.ireturn, 1) := by decide +kernel
theorem dL_law_989 : decode cL_law 989 = .ok (.iload 5, 2) := by decide +kernel
theorem dL_law_991 : decode cL_law 991 = .ok (.ifCond .ne 15, 3) := by decide +kernel
theorem dL_law_994 : decode cL_law 994 = .ok (.aload_n 3, 1) := by decide +kernel
theorem dL_law_995 : decode cL_law 995 = .ok (.iconst 0, 1) := by decide +kernel
theorem dL_law_996 : decode cL_law 996 = .ok (.laload, 1) := by decide +kernel
theorem dL_law_997 : decode cL_law 997 = .ok (.iload 6, 2) := by decide +kernel
theorem dL_law_999 : decode cL_law 999 = .ok (.i2l, 1) := by decide +kernel
theorem dL_law_1000 : decode cL_law 1000 = .ok (.lcmp, 1) := by decide +kernel
theorem dL_law_1001 : decode cL_law 1001 = .ok (.ifCond .eq 5, 3) := by decide +kernel
theorem dL_law_1004 : decode cL_law 1004 = .ok (.iconst 0, 1) := by decide +kernel
theorem dL_law_1005 : decode cL_law 1005 = .ok (.ireturn, 1) := by decide +kernel
theorem dL_law_1006 : decode cL_law 1006 = .ok (.goto 225, 3) := by decide +kernel
theorem dL_law_1009 : decode cL_law 1009 = .ok (.aload_n 1, 1) := by decide +kernel
theorem dL_law_1010 : decode cL_law 1010 = .ok (.aload_n 0, 1) := by decide +kernel
theorem dL_law_1011 : decode cL_law 1011 = .ok (.iload 4, 2) := by decide +kernel
theorem dL_law_1013 : decode cL_law 1013 = .ok (.iconst 1, 1) := by decide +kernel
theorem dL_law_1014 : decode cL_law 1014 = .ok (.iadd, 1) := by decide +kernel
theorem dL_law_1015 : decode cL_law 1015 = .ok (.iaload, 1) := by decide +kernel
theorem dL_law_1016 : decode cL_law 1016 = .ok (.aload_n 0, 1) := by decide +kernel
theorem dL_law_1017 : decode cL_law 1017 = .ok (.iload 4, 2) := by decide +kernel
theorem dL_law_1019 : decode cL_law 1019 = .ok (.iconst 2, 1) := by decide +kernel
theorem dL_law_1020 : decode cL_law 1020 = .ok (.iadd, 1) := by decide +kernel
theorem dL_law_1021 : decode cL_law 1021 = .ok (.iaload, 1) := by decide +kernel
theorem dL_law_1022 : decode cL_law 1022 = .ok (.aload_n 0, 1) := by decide +kernel
theorem dL_law_1023 : decode cL_law 1023 = .ok (.iload 4, 2) := by decide +kernel
theorem dL_law_1025 : decode cL_law 1025 = .ok (.iconst 3, 1) := by decide +kernel
theorem dL_law_1026 : decode cL_law 1026 = .ok (.iadd, 1) := by decide +kernel
theorem dL_law_1027 : decode cL_law 1027 = .ok (.iaload, 1) := by decide +kernel
theorem dL_law_1028 : decode cL_law 1028 = .ok (.aload_n 0, 1) := by decide +kernel
theorem dL_law_1029 : decode cL_law 1029 = .ok (.iload 4, 2) := by decide +kernel
theorem dL_law_1031 : decode cL_law 1031 = .ok (.iconst 4, 1) := by decide +kernel
theorem dL_law_1032 : decode cL_law 1032 = .ok (.iadd, 1) := by decide +kernel
theorem dL_law_1033 : decode cL_law 1033 = .ok (.iaload, 1) := by decide +kernel
theorem dL_law_1034 : decode cL_law 1034 = .ok (.aload_n 3, 1) := by decide +kernel
theorem dL_law_1035 : decode cL_law 1035 = .ok (.invokestatic 125, 3) := by decide +kernel
theorem dL_law_1038 : decode cL_law 1038 = .ok (.istore 5, 2) := by decide +kernel
theorem dL_law_1040 : decode cL_law 1040 = .ok (.aload_n 2, 1) := by decide +kernel
theorem dL_law_1041 : decode cL_law 1041 = .ok (.aload_n 0, 1) := by decide +kernel
theorem dL_law_1042 : decode cL_law 1042 = .ok (.iload 4, 2) := by decide +kernel
theorem dL_law_1044 : decode cL_law 1044 = .ok (.iconst 1, 1) := by decide +kernel
theorem dL_law_1045 : decode cL_law 1045 = .ok (.iadd, 1) := by decide +kernel
theorem dL_law_1046 : decode cL_law 1046 = .ok (.iaload, 1) := by decide +kernel
theorem dL_law_1047 : decode cL_law 1047 = .ok (.aload_n 0, 1) := by decide +kernel
theorem dL_law_1048 : decode cL_law 1048 = .ok (.iload 4, 2) := by decide +kernel
theorem dL_law_1050 : decode cL_law 1050 = .ok (.iconst 2, 1) := by decide +kernel
theorem dL_law_1051 : decode cL_law 1051 = .ok (.iadd, 1) := by decide +kernel
theorem dL_law_1052 : decode cL_law 1052 = .ok (.iaload, 1) := by decide +kernel
theorem dL_law_1053 : decode cL_law 1053 = .ok (.aload_n 0, 1) := by decide +kernel
theorem dL_law_1054 : decode cL_law 1054 = .ok (.iload 4, 2) := by decide +kernel
theorem dL_law_1056 : decode cL_law 1056 = .ok (.iconst 3, 1) := by decide +kernel
theorem dL_law_1057 : decode cL_law 1057 = .ok (.iadd, 1) := by decide +kernel
theorem dL_law_1058 : decode cL_law 1058 = .ok (.iaload, 1) := by decide +kernel
theorem dL_law_1059 : decode cL_law 1059 = .ok (.aload_n 0, 1) := by decide +kernel
theorem dL_law_1060 : decode cL_law 1060 = .ok (.iload 4, 2) := by decide +kernel
theorem dL_law_1062 : decode cL_law 1062 = .ok (.iconst 4, 1) := by decide +kernel
theorem dL_law_1063 : decode cL_law 1063 = .ok (.iadd, 1) := by decide +kernel
theorem dL_law_1064 : decode cL_law 1064 = .ok (.iaload, 1) := by decide +kernel
theorem dL_law_1065 : decode cL_law 1065 = .ok (.invokevirtual 127, 3) := by decide +kernel
theorem dL_law_1068 : decode cL_law 1068 = .ok (.istore 6, 2) := by decide +kernel
theorem dL_law_1070 : decode cL_law 1070 = .ok (.aload_n 2, 1) := by decide +kernel
theorem dL_law_1071 : decode cL_law 1071 = .ok (.invokevirtual 81, 3) := by decide +kernel
theorem dL_law_1074 : decode cL_law 1074 = .ok (.iload 5, 2) := by decide +kernel
theorem dL_law_1076 : decode cL_law 1076 = .ok (.if_icmp .eq 5, 3) := by decide +kernel
theorem dL_law_1079 : decode cL_law 1079 = .ok (.iconst 0, 1) := by decide +kernel
theorem dL_law_1080 : decode cL_law 1080 = .ok (.ireturn, 1) := by decide +kernel
theorem dL_law_1081 : decode cL_law 1081 = .ok (.iload 5, 2) := by decide +kernel
theorem dL_law_1083 : decode cL_law 1083 = .ok (.ifCond .ne 22, 3) := by decide +kernel
theorem dL_law_1086 : decode cL_law 1086 = .ok (.aload_n 3, 1) := by decide +kernel
theorem dL_law_1087 : decode cL_law 1087 = .ok (.iconst 0, 1) := by decide +kernel
theorem dL_law_1088 : decode cL_law 1088 = .ok (.laload, 1) := by decide +kernel
theorem dL_law_1089 : decode cL_law 1089 = .ok (.iload 6, 2) := by decide +kernel
theorem dL_law_1091 : decode cL_law 1091 = .ok (.ifCond .eq 7, 3) := by decide +kernel
theorem dL_law_1094 : decode cL_law 1094 = .ok (.lconst 1, 1) := by decide +kernel
theorem dL_law_1095 : decode cL_law 1095 = .ok (.goto 4, 3) := by decide +kernel
theorem dL_law_1098 : decode cL_law 1098 = .ok (.lconst 0, 1) := by decide +kernel
theorem dL_law_1099 : decode cL_law 1099 = .ok (.lcmp, 1) := by decide +kernel
theorem dL_law_1100 : decode cL_law 1100 = .ok (.ifCond .eq 5, 3) := by decide +kernel
theorem dL_law_1103 : decode cL_law 1103 = .ok (.iconst 0, 1) := by decide +kernel
theorem dL_law_1104 : decode cL_law 1104 = .ok (.ireturn, 1) := by decide +kernel
theorem dL_law_1105 : decode cL_law 1105 = .ok (.goto 126, 3) := by decide +kernel
theorem dL_law_1108 : decode cL_law 1108 = .ok (.aload_n 1, 1) := by decide +kernel
theorem dL_law_1109 : decode cL_law 1109 = .ok (.aload_n 0, 1) := by decide +kernel
theorem dL_law_1110 : decode cL_law 1110 = .ok (.iload 4, 2) := by decide +kernel
theorem dL_law_1112 : decode cL_law 1112 = .ok (.iconst 1, 1) := by decide +kernel
theorem dL_law_1113 : decode cL_law 1113 = .ok (.iadd, 1) := by decide +kernel
theorem dL_law_1114 : decode cL_law 1114 = .ok (.iaload, 1) := by decide +kernel
theorem dL_law_1115 : decode cL_law 1115 = .ok (.aload_n 3, 1) := by decide +kernel
theorem dL_law_1116 : decode cL_law 1116 = .ok (.invokestatic 128, 3) := by decide +kernel
theorem dL_law_1119 : decode cL_law 1119 = .ok (.istore 5, 2) := by decide +kernel
theorem dL_law_1121 : decode cL_law 1121 = .ok (.aload_n 2, 1) := by decide +kernel
theorem dL_law_1122 : decode cL_law 1122 = .ok (.aload_n 0, 1) := by decide +kernel
theorem dL_law_1123 : decode cL_law 1123 = .ok (.iload 4, 2) := by decide +kernel
theorem dL_law_1125 : decode cL_law 1125 = .ok (.iconst 1, 1) := by decide +kernel
theorem dL_law_1126 : decode cL_law 1126 = .ok (.iadd, 1) := by decide +kernel
theorem dL_law_1127 : decode cL_law 1127 = .ok (.iaload, 1) := by decide +kernel
theorem dL_law_1128 : decode cL_law 1128 = .ok (.invokevirtual 130, 3) := by decide +kernel
theorem dL_law_1131 : decode cL_law 1131 = .ok (.lstore 6, 2) := by decide +kernel
theorem dL_law_1133 : decode cL_law 1133 = .ok (.aload_n 2, 1) := by decide +kernel
theorem dL_law_1134 : decode cL_law 1134 = .ok (.invokevirtual 81, 3) := by decide +kernel
theorem dL_law_1137 : decode cL_law 1137 = .ok (.iload 5, 2) := by decide +kernel
theorem dL_law_1139 : decode cL_law 1139 = .ok (.if_icmp .eq 5, 3) := by decide +kernel
theorem dL_law_1142 : decode cL_law 1142 = .ok (.iconst 0, 1) := by decide +kernel
theorem dL_law_1143 : decode cL_law 1143 = .ok (.ireturn, 1) := by decide +kernel
theorem dL_law_1144 : decode cL_law 1144 = .ok (.iload 5, 2) := by decide +kernel
theorem dL_law_1146 : decode cL_law 1146 = .ok (.ifCond .ne 14, 3) := by decide +kernel
theorem dL_law_1149 : decode cL_law 1149 = .ok (.aload_n 3, 1) := by decide +kernel
theorem dL_law_1150 : decode cL_law 1150 = .ok (.iconst 0, 1) := by decide +kernel
theorem dL_law_1151 : decode cL_law 1151 = .ok (.laload, 1) := by decide +kernel
theorem dL_law_1152 : decode cL_law 1152 = .ok (.lload 6, 2) := by decide +kernel
theorem dL_law_1154 : decode cL_law 1154 = .ok (.lcmp, 1) := by decide +kernel
theorem dL_law_1155 : decode cL_law 1155 = .ok (.ifCond .eq 5, 3) := by decide +kernel
theorem dL_law_1158 : decode cL_law 1158 = .ok (.iconst 0, 1) := by decide +kernel
theorem dL_law_1159 : decode cL_law 1159 = .ok (.ireturn, 1) := by decide +kernel
theorem dL_law_1160 : decode cL_law 1160 = .ok (.goto 71, 3) := by decide +kernel
theorem dL_law_1163 : decode cL_law 1163 = .ok (.aload_n 1, 1) := by decide +kernel
theorem dL_law_1164 : decode cL_law 1164 = .ok (.aload_n 0, 1) := by decide +kernel
theorem dL_law_1165 : decode cL_law 1165 = .ok (.iload 4, 2) := by decide +kernel
theorem dL_law_1167 : decode cL_law 1167 = .ok (.iconst 1, 1) := by decide +kernel
theorem dL_law_1168 : decode cL_law 1168 = .ok (.iadd, 1) := by decide +kernel
theorem dL_law_1169 : decode cL_law 1169 = .ok (.iaload, 1) := by decide +kernel
theorem dL_law_1170 : decode cL_law 1170 = .ok (.aload_n 0, 1) := by decide +kernel
theorem dL_law_1171 : decode cL_law 1171 = .ok (.iload 4, 2) := by decide +kernel
theorem dL_law_1173 : decode cL_law 1173 = .ok (.iconst 2, 1) := by decide +kernel
theorem dL_law_1174 : decode cL_law 1174 = .ok (.iadd, 1) := by decide +kernel
theorem dL_law_1175 : decode cL_law 1175 = .ok (.iaload, 1) := by decide +kernel
theorem dL_law_1176 : decode cL_law 1176 = .ok (.aload_n 3, 1) := by decide +kernel
theorem dL_law_1177 : decode cL_law 1177 = .ok (.invokestatic 131, 3) := by decide +kernel
theorem dL_law_1180 : decode cL_law 1180 = .ok (.istore 5, 2) := by decide +kernel
theorem dL_law_1182 : decode cL_law 1182 = .ok (.aload_n 2, 1) := by decide +kernel
theorem dL_law_1183 : decode cL_law 1183 = .ok (.aload_n 0, 1) := by decide +kernel
theorem dL_law_1184 : decode cL_law 1184 = .ok (.iload 4, 2) := by decide +kernel
theorem dL_law_1186 : decode cL_law 1186 = .ok (.iconst 1, 1) := by decide +kernel
theorem dL_law_1187 : decode cL_law 1187 = .ok (.iadd, 1) := by decide +kernel
theorem dL_law_1188 : decode cL_law 1188 = .ok (.iaload, 1) := by decide +kernel
theorem dL_law_1189 : decode cL_law 1189 = .ok (.aload_n 0, 1) := by decide +kernel
theorem dL_law_1190 : decode cL_law 1190 = .ok (.iload 4, 2) := by decide +kernel
theorem dL_law_1192 : decode cL_law 1192 = .ok (.iconst 2, 1) := by decide +kernel
