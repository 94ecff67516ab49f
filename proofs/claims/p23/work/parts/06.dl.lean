theorem dL_below_0 : decode cL_below 0 = .ok (.iload_n 0, 1) := by decide +kernel
theorem dL_below_1 : decode cL_below 1 = .ok (.ldc 7, 2) := by decide +kernel
theorem dL_below_3 : decode cL_below 3 = .ok (.iand, 1) := by decide +kernel
theorem dL_below_4 : decode cL_below 4 = .ok (.iload_n 1, 1) := by decide +kernel
theorem dL_below_5 : decode cL_below 5 = .ok (.irem, 1) := by decide +kernel
theorem dL_below_6 : decode cL_below 6 = .ok (.ireturn, 1) := by decide +kernel
theorem dL_cell_0 : decode cL_cell 0 = .ok (.iload_n 1, 1) := by decide +kernel
theorem dL_cell_1 : decode cL_cell 1 = .ok (.aload_n 0, 1) := by decide +kernel
theorem dL_cell_2 : decode cL_cell 2 = .ok (.arraylength, 1) := by decide +kernel
theorem dL_cell_3 : decode cL_cell 3 = .ok (.if_icmp .ge 9, 3) := by decide +kernel
theorem dL_cell_6 : decode cL_cell 6 = .ok (.aload_n 0, 1) := by decide +kernel
theorem dL_cell_7 : decode cL_cell 7 = .ok (.iload_n 1, 1) := by decide +kernel
theorem dL_cell_8 : decode cL_cell 8 = .ok (.iaload, 1) := by decide +kernel
theorem dL_cell_9 : decode cL_cell 9 = .ok (.goto 9, 3) := by decide +kernel
theorem dL_cell_12 : decode cL_cell 12 = .ok (.ldc 8, 2) := by decide +kernel
theorem dL_cell_14 : decode cL_cell 14 = .ok (.iload_n 1, 1) := by decide +kernel
theorem dL_cell_15 : decode cL_cell 15 = .ok (.iconst 3, 1) := by decide +kernel
theorem dL_cell_16 : decode cL_cell 16 = .ok (.iadd, 1) := by decide +kernel
theorem dL_cell_17 : decode cL_cell 17 = .ok (.imul, 1) := by decide +kernel
theorem dL_cell_18 : decode cL_cell 18 = .ok (.ireturn, 1) := by decide +kernel
theorem dL_kind_0 : decode cL_kind 0 = .ok (.iload_n 0, 1) := by decide +kernel
theorem dL_kind_1 : decode cL_kind 1 = .ok (.bipush 60, 2) := by decide +kernel
theorem dL_kind_3 : decode cL_kind 3 = .ok (.if_icmp .le 7, 3) := by decide +kernel
theorem dL_kind_6 : decode cL_kind 6 = .ok (.iconst 0, 1) := by decide +kernel
theorem dL_kind_7 : decode cL_kind 7 = .ok (.goto 14, 3) := by decide +kernel
theorem dL_kind_10 : decode cL_kind 10 = .ok (.iload_n 0, 1) := by decide +kernel
theorem dL_kind_11 : decode cL_kind 11 = .ok (.bipush 30, 2) := by decide +kernel
theorem dL_kind_13 : decode cL_kind 13 = .ok (.if_icmp .le 7, 3) := by decide +kernel
theorem dL_kind_16 : decode cL_kind 16 = .ok (.iconst 1, 1) := by decide +kernel
theorem dL_kind_17 : decode cL_kind 17 = .ok (.goto 4, 3) := by decide +kernel
theorem dL_kind_20 : decode cL_kind 20 = .ok (.iconst 2, 1) := by decide +kernel
theorem dL_kind_21 : decode cL_kind 21 = .ok (.ireturn, 1) := by decide +kernel
theorem dL_stowed_0 : decode cL_stowed 0 = .ok (.bipush 80, 2) := by decide +kernel
theorem dL_stowed_2 : decode cL_stowed 2 = .ok (.bipush 30, 2) := by decide +kernel
theorem dL_stowed_4 : decode cL_stowed 4 = .ok (.iload_n 0, 1) := by decide +kernel
theorem dL_stowed_5 : decode cL_stowed 5 = .ok (.imul, 1) := by decide +kernel
theorem dL_stowed_6 : decode cL_stowed 6 = .ok (.isub, 1) := by decide +kernel
theorem dL_stowed_7 : decode cL_stowed 7 = .ok (.ireturn, 1) := by decide +kernel
theorem dL_act_0 : decode cL_act 0 = .ok (.aload_n 1, 1) := by decide +kernel
theorem dL_act_1 : decode cL_act 1 = .ok (.getfield 9, 3) := by decide +kernel
theorem dL_act_4 : decode cL_act 4 = .ok (.arraylength, 1) := by decide +kernel
theorem dL_act_5 : decode cL_act 5 = .ok (.istore_n 3, 1) := by decide +kernel
theorem dL_act_6 : decode cL_act 6 = .ok (.aload_n 1, 1) := by decide +kernel
theorem dL_act_7 : decode cL_act 7 = .ok (.getfield 15, 3) := by decide +kernel
theorem dL_act_10 : decode cL_act 10 = .ok (.arraylength, 1) := by decide +kernel
theorem dL_act_11 : decode cL_act 11 = .ok (.istore 4, 2) := by decide +kernel
theorem dL_act_13 : decode cL_act 13 = .ok (.iload_n 2, 1) := by decide +kernel
theorem dL_act_14 : decode cL_act 14 = .ok (.iconst 2, 1) := by decide +kernel
theorem dL_act_15 : decode cL_act 15 = .ok (.ishr, 1) := by decide +kernel
theorem dL_act_16 : decode cL_act 16 = .ok (.iconst 5, 1) := by decide +kernel
theorem dL_act_17 : decode cL_act 17 = .ok (.invokestatic 19, 3) := by decide +kernel
theorem dL_act_20 : decode cL_act 20 = .ok (.istore 5, 2) := by decide +kernel
theorem dL_act_22 : decode cL_act 22 = .ok (.iload_n 3, 1) := by decide +kernel
theorem dL_act_23 : decode cL_act 23 = .ok (.ifCond .ne 7, 3) := by decide +kernel
theorem dL_act_26 : decode cL_act 26 = .ok (.aconst_null, 1) := by decide +kernel
theorem dL_act_27 : decode cL_act 27 = .ok (.goto 13, 3) := by decide +kernel
theorem dL_act_30 : decode cL_act 30 = .ok (.aload_n 1, 1) := by decide +kernel
theorem dL_act_31 : decode cL_act 31 = .ok (.getfield 9, 3) := by decide +kernel
theorem dL_act_34 : decode cL_act 34 = .ok (.iload_n 2, 1) := by decide +kernel
theorem dL_act_35 : decode cL_act 35 = .ok (.iload_n 3, 1) := by decide +kernel
theorem dL_act_36 : decode cL_act 36 = .ok (.invokestatic 19, 3) := by decide +kernel
theorem dL_act_39 : decode cL_act 39 = .ok (.aaload, 1) := by decide +kernel
theorem dL_act_40 : decode cL_act 40 = .ok (.astore 6, 2) := by decide +kernel
theorem dL_act_42 : decode cL_act 42 = .ok (.iload_n 2, 1) := by decide +kernel
theorem dL_act_43 : decode cL_act 43 = .ok (.bipush 9, 2) := by decide +kernel
theorem dL_act_45 : decode cL_act 45 = .ok (.ishr, 1) := by decide +kernel
theorem dL_act_46 : decode cL_act 46 = .ok (.bipush 16, 2) := by decide +kernel
theorem dL_act_48 : decode cL_act 48 = .ok (.invokestatic 19, 3) := by decide +kernel
theorem dL_act_51 : decode cL_act 51 = .ok (.tableswitch 648 0 11 #[61, 159, 261, 345, 401, 401, 401, 401, 401, 509, 509, 553], 61) := by decide +kernel
theorem dL_act_112 : decode cL_act 112 = .ok (.iload_n 3, 1) := by decide +kernel
theorem dL_act_113 : decode cL_act 113 = .ok (.bipush 6, 2) := by decide +kernel
theorem dL_act_115 : decode cL_act 115 = .ok (.if_icmp .ne 5, 3) := by decide +kernel
theorem dL_act_118 : decode cL_act 118 = .ok (.iconst 1, 1) := by decide +kernel
theorem dL_act_119 : decode cL_act 119 = .ok (.ireturn, 1) := by decide +kernel
theorem dL_act_120 : decode cL_act 120 = .ok (.iload_n 3, 1) := by decide +kernel
theorem dL_act_121 : decode cL_act 121 = .ok (.iconst 1, 1) := by decide +kernel
theorem dL_act_122 : decode cL_act 122 = .ok (.iadd, 1) := by decide +kernel
theorem dL_act_123 : decode cL_act 123 = .ok (.anewarray 25, 3) := by decide +kernel
theorem dL_act_126 : decode cL_act 126 = .ok (.astore 7, 2) := by decide +kernel
theorem dL_act_128 : decode cL_act 128 = .ok (.iconst 0, 1) := by decide +kernel
theorem dL_act_129 : decode cL_act 129 = .ok (.istore 8, 2) := by decide +kernel
theorem dL_act_131 : decode cL_act 131 = .ok (.iload 8, 2) := by decide +kernel
theorem dL_act_133 : decode cL_act 133 = .ok (.iload_n 3, 1) := by decide +kernel
theorem dL_act_134 : decode cL_act 134 = .ok (.if_icmp .ge 21, 3) := by decide +kernel
theorem dL_act_137 : decode cL_act 137 = .ok (.aload 7, 2) := by decide +kernel
theorem dL_act_139 : decode cL_act 139 = .ok (.iload 8, 2) := by decide +kernel
theorem dL_act_141 : decode cL_act 141 = .ok (.aload_n 1, 1) := by decide +kernel
theorem dL_act_142 : decode cL_act 142 = .ok (.getfield 9, 3) := by decide +kernel
theorem dL_act_145 : decode cL_act 145 = .ok (.iload 8, 2) := by decide +kernel
theorem dL_act_147 : decode cL_act 147 = .ok (.aaload, 1) := by decide +kernel
theorem dL_act_148 : decode cL_act 148 = .ok (.aastore, 1) := by decide +kernel
theorem dL_act_149 : decode cL_act 149 = .ok (.iinc 8 1, 3) := by decide +kernel
theorem dL_act_152 : decode cL_act 152 = .ok (.goto (-21), 3) := by decide +kernel
theorem dL_act_155 : decode cL_act 155 = .ok (.aload 7, 2) := by decide +kernel
theorem dL_act_157 : decode cL_act 157 = .ok (.iload_n 3, 1) := by decide +kernel
theorem dL_act_158 : decode cL_act 158 = .ok (.new 25, 3) := by decide +kernel
theorem dL_act_161 : decode cL_act 161 = .ok (.dup, 1) := by decide +kernel
theorem dL_act_162 : decode cL_act 162 = .ok (.invokespecial 27, 3) := by decide +kernel
theorem dL_act_165 : decode cL_act 165 = .ok (.aastore, 1) := by decide +kernel
theorem dL_act_166 : decode cL_act 166 = .ok (.aload 7, 2) := by decide +kernel
theorem dL_act_168 : decode cL_act 168 = .ok (.iload_n 3, 1) := by decide +kernel
theorem dL_act_169 : decode cL_act 169 = .ok (.aaload, 1) := by decide +kernel
theorem dL_act_170 : decode cL_act 170 = .ok (.iconst 1, 1) := by decide +kernel
theorem dL_act_171 : decode cL_act 171 = .ok (.iload_n 2, 1) := by decide +kernel
theorem dL_act_172 : decode cL_act 172 = .ok (.iconst 1, 1) := by decide +kernel
theorem dL_act_173 : decode cL_act 173 = .ok (.ishr, 1) := by decide +kernel
theorem dL_act_174 : decode cL_act 174 = .ok (.bipush 8, 2) := by decide +kernel
theorem dL_act_176 : decode cL_act 176 = .ok (.invokestatic 19, 3) := by decide +kernel
theorem dL_act_179 : decode cL_act 179 = .ok (.iadd, 1) := by decide +kernel
theorem dL_act_180 : decode cL_act 180 = .ok (.putfield 28, 3) := by decide +kernel
theorem dL_act_183 : decode cL_act 183 = .ok (.aload_n 1, 1) := by decide +kernel
theorem dL_act_184 : decode cL_act 184 = .ok (.aload 7, 2) := by decide +kernel
theorem dL_act_186 : decode cL_act 186 = .ok (.putfield 9, 3) := by decide +kernel
theorem dL_act_189 : decode cL_act 189 = .ok (.aload_n 0, 1) := by decide +kernel
theorem dL_act_190 : decode cL_act 190 = .ok (.aload 7, 2) := by decide +kernel
theorem dL_act_192 : decode cL_act 192 = .ok (.iload_n 3, 1) := by decide +kernel
theorem dL_act_193 : decode cL_act 193 = .ok (.aaload, 1) := by decide +kernel
theorem dL_act_194 : decode cL_act 194 = .ok (.getfield 28, 3) := by decide +kernel
theorem dL_act_197 : decode cL_act 197 = .ok (.invokevirtual 32, 3) := by decide +kernel
theorem dL_act_200 : decode cL_act 200 = .ok (.iload_n 3, 1) := by decide +kernel
theorem dL_act_201 : decode cL_act 201 = .ok (.if_icmp .ne 7, 3) := by decide +kernel
theorem dL_act_204 : decode cL_act 204 = .ok (.iconst 1, 1) := by decide +kernel
theorem dL_act_205 : decode cL_act 205 = .ok (.goto 4, 3) := by decide +kernel
theorem dL_act_208 : decode cL_act 208 = .ok (.iconst 0, 1) := by decide +kernel
theorem dL_act_209 : decode cL_act 209 = .ok (.ireturn, 1) := by decide +kernel
theorem dL_act_210 : decode cL_act 210 = .ok (.iload 4, 2) := by decide +kernel
theorem dL_act_212 : decode cL_act 212 = .ok (.iconst 4, 1) := by decide +kernel
theorem dL_act_213 : decode cL_act 213 = .ok (.if_icmp .ne 5, 3) := by decide +kernel
theorem dL_act_216 : decode cL_act 216 = .ok (.iconst 1, 1) := by decide +kernel
theorem dL_act_217 : decode cL_act 217 = .ok (.ireturn, 1) := by decide +kernel
theorem dL_act_218 : decode cL_act 218 = .ok (.iload 4, 2) := by decide +kernel
theorem dL_act_220 : decode cL_act 220 = .ok (.iconst 1, 1) := by decide +kernel
theorem dL_act_221 : decode cL_act 221 = .ok (.iadd, 1) := by decide +kernel
theorem dL_act_222 : decode cL_act 222 = .ok (.anewarray 38, 3) := by decide +kernel
theorem dL_act_225 : decode cL_act 225 = .ok (.astore 8, 2) := by decide +kernel
theorem dL_act_227 : decode cL_act 227 = .ok (.iconst 0, 1) := by decide +kernel
theorem dL_act_228 : decode cL_act 228 = .ok (.istore 9, 2) := by decide +kernel
theorem dL_act_230 : decode cL_act 230 = .ok (.iload 9, 2) := by decide +kernel
theorem dL_act_232 : decode cL_act 232 = .ok (.iload 4, 2) := by decide +kernel
theorem dL_act_234 : decode cL_act 234 = .ok (.if_icmp .ge 21, 3) := by decide +kernel
theorem dL_act_237 : decode cL_act 237 = .ok (.aload 8, 2) := by decide +kernel
theorem dL_act_239 : decode cL_act 239 = .ok (.iload 9, 2) := by decide +kernel
theorem dL_act_241 : decode cL_act 241 = .ok (.aload_n 1, 1) := by decide +kernel
theorem dL_act_242 : decode cL_act 242 = .ok (.getfield 15, 3) := by decide +kernel
theorem dL_act_245 : decode cL_act 245 = .ok (.iload 9, 2) := by decide +kernel
theorem dL_act_247 : decode cL_act 247 = .ok (.aaload, 1) := by decide +kernel
theorem dL_act_248 : decode cL_act 248 = .ok (.aastore, 1) := by decide +kernel
theorem dL_act_249 : decode cL_act 249 = .ok (.iinc 9 1, 3) := by decide +kernel
theorem dL_act_252 : decode cL_act 252 = .ok (.goto (-22), 3) := by decide +kernel
theorem dL_act_255 : decode cL_act 255 = .ok (.aload 8, 2) := by decide +kernel
theorem dL_act_257 : decode cL_act 257 = .ok (.iload 4, 2) := by decide +kernel
theorem dL_act_259 : decode cL_act 259 = .ok (.iconst 3, 1) := by decide +kernel
theorem dL_act_260 : decode cL_act 260 = .ok (.newarray .int, 2) := by decide +kernel
theorem dL_act_262 : decode cL_act 262 = .ok (.dup, 1) := by decide +kernel
theorem dL_act_263 : decode cL_act 263 = .ok (.iconst 0, 1) := by decide +kernel
theorem dL_act_264 : decode cL_act 264 = .ok (.bipush 100, 2) := by decide +kernel
theorem dL_act_266 : decode cL_act 266 = .ok (.iload_n 2, 1) := by decide +kernel
theorem dL_act_267 : decode cL_act 267 = .ok (.sipush 801, 3) := by decide +kernel
theorem dL_act_270 : decode cL_act 270 = .ok (.invokestatic 19, 3) := by decide +kernel
theorem dL_act_273 : decode cL_act 273 = .ok (.iadd, 1) := by decide +kernel
theorem dL_act_274 : decode cL_act 274 = .ok (.iastore, 1) := by decide +kernel
theorem dL_act_275 : decode cL_act 275 = .ok (.dup, 1) := by decide +kernel
theorem dL_act_276 : decode cL_act 276 = .ok (.iconst 1, 1) := by decide +kernel
theorem dL_act_277 : decode cL_act 277 = .ok (.iconst 0, 1) := by decide +kernel
theorem dL_act_278 : decode cL_act 278 = .ok (.iastore, 1) := by decide +kernel
theorem dL_act_279 : decode cL_act 279 = .ok (.dup, 1) := by decide +kernel
theorem dL_act_280 : decode cL_act 280 = .ok (.iconst 2, 1) := by decide +kernel
theorem dL_act_281 : decode cL_act 281 = .ok (.iconst 0, 1) := by decide +kernel
theorem dL_act_282 : decode cL_act 282 = .ok (.iastore, 1) := by decide +kernel
theorem dL_act_283 : decode cL_act 283 = .ok (.aastore, 1) := by decide +kernel
theorem dL_act_284 : decode cL_act 284 = .ok (.aload_n 1, 1) := by decide +kernel
theorem dL_act_285 : decode cL_act 285 = .ok (.aload 8, 2) := by decide +kernel
theorem dL_act_287 : decode cL_act 287 = .ok (.putfield 15, 3) := by decide +kernel
theorem dL_act_290 : decode cL_act 290 = .ok (.aload_n 0, 1) := by decide +kernel
theorem dL_act_291 : decode cL_act 291 = .ok (.aload 8, 2) := by decide +kernel
theorem dL_act_293 : decode cL_act 293 = .ok (.iload 4, 2) := by decide +kernel
theorem dL_act_295 : decode cL_act 295 = .ok (.aaload, 1) := by decide +kernel
theorem dL_act_296 : decode cL_act 296 = .ok (.iconst 0, 1) := by decide +kernel
theorem dL_act_297 : decode cL_act 297 = .ok (.iaload, 1) := by decide +kernel
theorem dL_act_298 : decode cL_act 298 = .ok (.invokevirtual 40, 3) := by decide +kernel
theorem dL_act_301 : decode cL_act 301 = .ok (.iload 4, 2) := by decide +kernel
theorem dL_act_303 : decode cL_act 303 = .ok (.if_icmp .ne 7, 3) := by decide +kernel
theorem dL_act_306 : decode cL_act 306 = .ok (.iconst 1, 1) := by decide +kernel
theorem dL_act_307 : decode cL_act 307 = .ok (.goto 4, 3) := by decide +kernel
theorem dL_act_310 : decode cL_act 310 = .ok (.iconst 0, 1) := by decide +kernel
theorem dL_act_311 : decode cL_act 311 = .ok (.ireturn, 1) := by decide +kernel
theorem dL_act_312 : decode cL_act 312 = .ok (.bipush 10, 2) := by decide +kernel
theorem dL_act_314 : decode cL_act 314 = .ok (.aload_n 1, 1) := by decide +kernel
theorem dL_act_315 : decode cL_act 315 = .ok (.getfield 43, 3) := by decide +kernel
theorem dL_act_318 : decode cL_act 318 = .ok (.iload 5, 2) := by decide +kernel
theorem dL_act_320 : decode cL_act 320 = .ok (.iaload, 1) := by decide +kernel
theorem dL_act_321 : decode cL_act 321 = .ok (.imul, 1) := by decide +kernel
theorem dL_act_322 : decode cL_act 322 = .ok (.aload_n 1, 1) := by decide +kernel
theorem dL_act_323 : decode cL_act 323 = .ok (.getfield 46, 3) := by decide +kernel
theorem dL_act_326 : decode cL_act 326 = .ok (.iload 5, 2) := by decide +kernel
theorem dL_act_328 : decode cL_act 328 = .ok (.iaload, 1) := by decide +kernel
theorem dL_act_329 : decode cL_act 329 = .ok (.iadd, 1) := by decide +kernel
theorem dL_act_330 : decode cL_act 330 = .ok (.istore 9, 2) := by decide +kernel
theorem dL_act_332 : decode cL_act 332 = .ok (.aload_n 1, 1) := by decide +kernel
theorem dL_act_333 : decode cL_act 333 = .ok (.getfield 43, 3) := by decide +kernel
theorem dL_act_336 : decode cL_act 336 = .ok (.iload 5, 2) := by decide +kernel
theorem dL_act_338 : decode cL_act 338 = .ok (.iload_n 2, 1) := by decide +kernel
theorem dL_act_339 : decode cL_act 339 = .ok (.iconst 1, 1) := by decide +kernel
theorem dL_act_340 : decode cL_act 340 = .ok (.ishr, 1) := by decide +kernel
theorem dL_act_341 : decode cL_act 341 = .ok (.sipush 501, 3) := by decide +kernel
theorem dL_act_344 : decode cL_act 344 = .ok (.invokestatic 19, 3) := by decide +kernel
theorem dL_act_347 : decode cL_act 347 = .ok (.iastore, 1) := by decide +kernel
theorem dL_act_348 : decode cL_act 348 = .ok (.aload_n 1, 1) := by decide +kernel
theorem dL_act_349 : decode cL_act 349 = .ok (.getfield 46, 3) := by decide +kernel
theorem dL_act_352 : decode cL_act 352 = .ok (.iload 5, 2) := by decide +kernel
theorem dL_act_354 : decode cL_act 354 = .ok (.iconst 1, 1) := by decide +kernel
theorem dL_act_355 : decode cL_act 355 = .ok (.iload_n 2, 1) := by decide +kernel
theorem dL_act_356 : decode cL_act 356 = .ok (.iconst 4, 1) := by decide +kernel
theorem dL_act_357 : decode cL_act 357 = .ok (.ishr, 1) := by decide +kernel
theorem dL_act_358 : decode cL_act 358 = .ok (.bipush 9, 2) := by decide +kernel
theorem dL_act_360 : decode cL_act 360 = .ok (.invokestatic 19, 3) := by decide +kernel
theorem dL_act_363 : decode cL_act 363 = .ok (.iadd, 1) := by decide +kernel
theorem dL_act_364 : decode cL_act 364 = .ok (.iastore, 1) := by decide +kernel
theorem dL_act_365 : decode cL_act 365 = .ok (.aload_n 0, 1) := by decide +kernel
theorem dL_act_366 : decode cL_act 366 = .ok (.iload 5, 2) := by decide +kernel
theorem dL_act_368 : decode cL_act 368 = .ok (.aload_n 1, 1) := by decide +kernel
theorem dL_act_369 : decode cL_act 369 = .ok (.getfield 43, 3) := by decide +kernel
theorem dL_act_372 : decode cL_act 372 = .ok (.iload 5, 2) := by decide +kernel
theorem dL_act_374 : decode cL_act 374 = .ok (.iaload, 1) := by decide +kernel
theorem dL_act_375 : decode cL_act 375 = .ok (.aload_n 1, 1) := by decide +kernel
theorem dL_act_376 : decode cL_act 376 = .ok (.getfield 46, 3) := by decide +kernel
theorem dL_act_379 : decode cL_act 379 = .ok (.iload 5, 2) := by decide +kernel
theorem dL_act_381 : decode cL_act 381 = .ok (.iaload, 1) := by decide +kernel
theorem dL_act_382 : decode cL_act 382 = .ok (.invokevirtual 49, 3) := by decide +kernel
theorem dL_act_385 : decode cL_act 385 = .ok (.iload 9, 2) := by decide +kernel
theorem dL_act_387 : decode cL_act 387 = .ok (.if_icmp .ne 7, 3) := by decide +kernel
theorem dL_act_390 : decode cL_act 390 = .ok (.iconst 1, 1) := by decide +kernel
theorem dL_act_391 : decode cL_act 391 = .ok (.goto 4, 3) := by decide +kernel
theorem dL_act_394 : decode cL_act 394 = .ok (.iconst 0, 1) := by decide +kernel
theorem dL_act_395 : decode cL_act 395 = .ok (.ireturn, 1) := by decide +kernel
theorem dL_act_396 : decode cL_act 396 = .ok (.iload_n 2, 1) := by decide +kernel
theorem dL_act_397 : decode cL_act 397 = .ok (.bipush 8, 2) := by decide +kernel
theorem dL_act_399 : decode cL_act 399 = .ok (.invokestatic 19, 3) := by decide +kernel
theorem dL_act_402 : decode cL_act 402 = .ok (.istore 10, 2) := by decide +kernel
theorem dL_act_404 : decode cL_act 404 = .ok (.aload_n 1, 1) := by decide +kernel
theorem dL_act_405 : decode cL_act 405 = .ok (.getfield 53, 3) := by decide +kernel
theorem dL_act_408 : decode cL_act 408 = .ok (.iload 10, 2) := by decide +kernel
theorem dL_act_410 : decode cL_act 410 = .ok (.iaload, 1) := by decide +kernel
theorem dL_act_411 : decode cL_act 411 = .ok (.istore 11, 2) := by decide +kernel
theorem dL_act_413 : decode cL_act 413 = .ok (.aload_n 1, 1) := by decide +kernel
theorem dL_act_414 : decode cL_act 414 = .ok (.getfield 53, 3) := by decide +kernel
theorem dL_act_417 : decode cL_act 417 = .ok (.iload 10, 2) := by decide +kernel
theorem dL_act_419 : decode cL_act 419 = .ok (.iload_n 2, 1) := by decide +kernel
theorem dL_act_420 : decode cL_act 420 = .ok (.iconst 3, 1) := by decide +kernel
theorem dL_act_421 : decode cL_act 421 = .ok (.ishr, 1) := by decide +kernel
theorem dL_act_422 : decode cL_act 422 = .ok (.bipush 10, 2) := by decide +kernel
theorem dL_act_424 : decode cL_act 424 = .ok (.invokestatic 19, 3) := by decide +kernel
theorem dL_act_427 : decode cL_act 427 = .ok (.iastore, 1) := by decide +kernel
theorem dL_act_428 : decode cL_act 428 = .ok (.aload_n 0, 1) := by decide +kernel
theorem dL_act_429 : decode cL_act 429 = .ok (.iload 10, 2) := by decide +kernel
theorem dL_act_431 : decode cL_act 431 = .ok (.aload_n 1, 1) := by decide +kernel
theorem dL_act_432 : decode cL_act 432 = .ok (.getfield 53, 3) := by decide +kernel
theorem dL_act_435 : decode cL_act 435 = .ok (.iload 10, 2) := by decide +kernel
theorem dL_act_437 : decode cL_act 437 = .ok (.iaload, 1) := by decide +kernel
theorem dL_act_438 : decode cL_act 438 = .ok (.invokevirtual 56, 3) := by decide +kernel
theorem dL_act_441 : decode cL_act 441 = .ok (.iload 11, 2) := by decide +kernel
theorem dL_act_443 : decode cL_act 443 = .ok (.if_icmp .ne 7, 3) := by decide +kernel
theorem dL_act_446 : decode cL_act 446 = .ok (.iconst 1, 1) := by decide +kernel
theorem dL_act_447 : decode cL_act 447 = .ok (.goto 4, 3) := by decide +kernel
theorem dL_act_450 : decode cL_act 450 = .ok (.iconst 0, 1) := by decide +kernel
theorem dL_act_451 : decode cL_act 451 = .ok (.ireturn, 1) := by decide +kernel
theorem dL_act_452 : decode cL_act 452 = .ok (.iload_n 3, 1) := by decide +kernel
theorem dL_act_453 : decode cL_act 453 = .ok (.ifCond .eq 37, 3) := by decide +kernel
theorem dL_act_456 : decode cL_act 456 = .ok (.aload 6, 2) := by decide +kernel
theorem dL_act_458 : decode cL_act 458 = .ok (.getfield 59, 3) := by decide +kernel
theorem dL_act_461 : decode cL_act 461 = .ok (.ifCond .ne 29, 3) := by decide +kernel
theorem dL_act_464 : decode cL_act 464 = .ok (.aload 6, 2) := by decide +kernel
theorem dL_act_466 : decode cL_act 466 = .ok (.getfield 62, 3) := by decide +kernel
theorem dL_act_469 : decode cL_act 469 = .ok (.arraylength, 1) := by decide +kernel
theorem dL_act_470 : decode cL_act 470 = .ok (.aload 6, 2) := by decide +kernel
theorem dL_act_472 : decode cL_act 472 = .ok (.getfield 28, 3) := by decide +kernel
theorem dL_act_475 : decode cL_act 475 = .ok (.if_icmp .eq 15, 3) := by decide +kernel
theorem dL_act_478 : decode cL_act 478 = .ok (.aload_n 1, 1) := by decide +kernel
theorem dL_act_479 : decode cL_act 479 = .ok (.getfield 43, 3) := by decide +kernel
theorem dL_act_482 : decode cL_act 482 = .ok (.iload 5, 2) := by decide +kernel
theorem dL_act_484 : decode cL_act 484 = .ok (.iaload, 1) := by decide +kernel
theorem dL_act_485 : decode cL_act 485 = .ok (.bipush 10, 2) := by decide +kernel
theorem dL_act_487 : decode cL_act 487 = .ok (.if_icmp .ge 5, 3) := by decide +kernel
theorem dL_act_490 : decode cL_act 490 = .ok (.iconst 1, 1) := by decide +kernel
theorem dL_act_491 : decode cL_act 491 = .ok (.ireturn, 1) := by decide +kernel
theorem dL_act_492 : decode cL_act 492 = .ok (.aload_n 1, 1) := by decide +kernel
theorem dL_act_493 : decode cL_act 493 = .ok (.getfield 43, 3) := by decide +kernel
theorem dL_act_496 : decode cL_act 496 = .ok (.iload 5, 2) := by decide +kernel
theorem dL_act_498 : decode cL_act 498 = .ok (.dup2, 1) := by decide +kernel
theorem dL_act_499 : decode cL_act 499 = .ok (.iaload, 1) := by decide +kernel
theorem dL_act_500 : decode cL_act 500 = .ok (.bipush 10, 2) := by decide +kernel
theorem dL_act_502 : decode cL_act 502 = .ok (.isub, 1) := by decide +kernel
theorem dL_act_503 : decode cL_act 503 = .ok (.iastore, 1) := by decide +kernel
theorem dL_act_504 : decode cL_act 504 = .ok (.aload 6, 2) := by decide +kernel
theorem dL_act_506 : decode cL_act 506 = .ok (.aload 6, 2) := by decide +kernel
theorem dL_act_508 : decode cL_act 508 = .ok (.getfield 62, 3) := by decide +kernel
theorem dL_act_511 : decode cL_act 511 = .ok (.arraylength, 1) := by decide +kernel
theorem dL_act_512 : decode cL_act 512 = .ok (.iconst 1, 1) := by decide +kernel
theorem dL_act_513 : decode cL_act 513 = .ok (.iadd, 1) := by decide +kernel
theorem dL_act_514 : decode cL_act 514 = .ok (.bipush 10, 2) := by decide +kernel
theorem dL_act_516 : decode cL_act 516 = .ok (.aload_n 1, 1) := by decide +kernel
theorem dL_act_517 : decode cL_act 517 = .ok (.getfield 46, 3) := by decide +kernel
theorem dL_act_520 : decode cL_act 520 = .ok (.iload 5, 2) := by decide +kernel
theorem dL_act_522 : decode cL_act 522 = .ok (.iaload, 1) := by decide +kernel
theorem dL_act_523 : decode cL_act 523 = .ok (.imul, 1) := by decide +kernel
theorem dL_act_524 : decode cL_act 524 = .ok (.invokevirtual 65, 3) := by decide +kernel
theorem dL_act_527 : decode cL_act 527 = .ok (.aload_n 0, 1) := by decide +kernel
theorem dL_act_528 : decode cL_act 528 = .ok (.iload_n 2, 1) := by decide +kernel
theorem dL_act_529 : decode cL_act 529 = .ok (.iload_n 3, 1) := by decide +kernel
theorem dL_act_530 : decode cL_act 530 = .ok (.invokestatic 19, 3) := by decide +kernel
theorem dL_act_533 : decode cL_act 533 = .ok (.iload 5, 2) := by decide +kernel
theorem dL_act_535 : decode cL_act 535 = .ok (.invokevirtual 69, 3) := by decide +kernel
theorem dL_act_538 : decode cL_act 538 = .ok (.bipush 10, 2) := by decide +kernel
theorem dL_act_540 : decode cL_act 540 = .ok (.aload_n 1, 1) := by decide +kernel
theorem dL_act_541 : decode cL_act 541 = .ok (.getfield 46, 3) := by decide +kernel
theorem dL_act_544 : decode cL_act 544 = .ok (.iload 5, 2) := by decide +kernel
theorem dL_act_546 : decode cL_act 546 = .ok (.iaload, 1) := by decide +kernel
theorem dL_act_547 : decode cL_act 547 = .ok (.imul, 1) := by decide +kernel
theorem dL_act_548 : decode cL_act 548 = .ok (.invokestatic 72, 3) := by decide +kernel
theorem dL_act_551 : decode cL_act 551 = .ok (.if_icmp .ne 7, 3) := by decide +kernel
theorem dL_act_554 : decode cL_act 554 = .ok (.iconst 1, 1) := by decide +kernel
theorem dL_act_555 : decode cL_act 555 = .ok (.goto 4, 3) := by decide +kernel
theorem dL_act_558 : decode cL_act 558 = .ok (.iconst 0, 1) := by decide +kernel
theorem dL_act_559 : decode cL_act 559 = .ok (.ireturn, 1) := by decide +kernel
theorem dL_act_560 : decode cL_act 560 = .ok (.iload_n 3, 1) := by decide +kernel
theorem dL_act_561 : decode cL_act 561 = .ok (.ifCond .eq 11, 3) := by decide +kernel
theorem dL_act_564 : decode cL_act 564 = .ok (.aload 6, 2) := by decide +kernel
theorem dL_act_566 : decode cL_act 566 = .ok (.getfield 59, 3) := by decide +kernel
theorem dL_act_569 : decode cL_act 569 = .ok (.ifCond .eq 5, 3) := by decide +kernel
theorem dL_act_572 : decode cL_act 572 = .ok (.iconst 1, 1) := by decide +kernel
theorem dL_act_573 : decode cL_act 573 = .ok (.ireturn, 1) := by decide +kernel
theorem dL_act_574 : decode cL_act 574 = .ok (.aload 6, 2) := by decide +kernel
theorem dL_act_576 : decode cL_act 576 = .ok (.iconst 1, 1) := by decide +kernel
theorem dL_act_577 : decode cL_act 577 = .ok (.putfield 59, 3) := by decide +kernel
theorem dL_act_580 : decode cL_act 580 = .ok (.aload_n 0, 1) := by decide +kernel
theorem dL_act_581 : decode cL_act 581 = .ok (.iload_n 2, 1) := by decide +kernel
theorem dL_act_582 : decode cL_act 582 = .ok (.iload_n 3, 1) := by decide +kernel
theorem dL_act_583 : decode cL_act 583 = .ok (.invokestatic 19, 3) := by decide +kernel
theorem dL_act_586 : decode cL_act 586 = .ok (.invokevirtual 75, 3) := by decide +kernel
theorem dL_act_589 : decode cL_act 589 = .ok (.aload 6, 2) := by decide +kernel
theorem dL_act_591 : decode cL_act 591 = .ok (.getfield 62, 3) := by decide +kernel
theorem dL_act_594 : decode cL_act 594 = .ok (.arraylength, 1) := by decide +kernel
theorem dL_act_595 : decode cL_act 595 = .ok (.if_icmp .ne 7, 3) := by decide +kernel
theorem dL_act_598 : decode cL_act 598 = .ok (.iconst 1, 1) := by decide +kernel
theorem dL_act_599 : decode cL_act 599 = .ok (.goto 4, 3) := by decide +kernel
theorem dL_act_602 : decode cL_act 602 = .ok (.iconst 0, 1) := by decide +kernel
theorem dL_act_603 : decode cL_act 603 = .ok (.ireturn, 1) := by decide +kernel
theorem dL_act_604 : decode cL_act 604 = .ok (.iload 4, 2) := by decide +kernel
theorem dL_act_606 : decode cL_act 606 = .ok (.ifCond .eq 20, 3) := by decide +kernel
theorem dL_act_609 : decode cL_act 609 = .ok (.aload_n 1, 1) := by decide +kernel
theorem dL_act_610 : decode cL_act 610 = .ok (.getfield 15, 3) := by decide +kernel
theorem dL_act_613 : decode cL_act 613 = .ok (.iload_n 2, 1) := by decide +kernel
theorem dL_act_614 : decode cL_act 614 = .ok (.iload 4, 2) := by decide +kernel
theorem dL_act_616 : decode cL_act 616 = .ok (.invokestatic 19, 3) := by decide +kernel
theorem dL_act_619 : decode cL_act 619 = .ok (.aaload, 1) := by decide +kernel
theorem dL_act_620 : decode cL_act 620 = .ok (.invokestatic 78, 3) := by decide +kernel
theorem dL_act_623 : decode cL_act 623 = .ok (.ifCond .ne 5, 3) := by decide +kernel
theorem dL_act_626 : decode cL_act 626 = .ok (.iconst 1, 1) := by decide +kernel
theorem dL_act_627 : decode cL_act 627 = .ok (.ireturn, 1) := by decide +kernel
theorem dL_act_628 : decode cL_act 628 = .ok (.aload_n 1, 1) := by decide +kernel
theorem dL_act_629 : decode cL_act 629 = .ok (.getfield 15, 3) := by decide +kernel
theorem dL_act_632 : decode cL_act 632 = .ok (.iload_n 2, 1) := by decide +kernel
theorem dL_act_633 : decode cL_act 633 = .ok (.iload 4, 2) := by decide +kernel
theorem dL_act_635 : decode cL_act 635 = .ok (.invokestatic 19, 3) := by decide +kernel
theorem dL_act_638 : decode cL_act 638 = .ok (.aaload, 1) := by decide +kernel
theorem dL_act_639 : decode cL_act 639 = .ok (.astore 12, 2) := by decide +kernel
theorem dL_act_641 : decode cL_act 641 = .ok (.aload 12, 2) := by decide +kernel
theorem dL_act_643 : decode cL_act 643 = .ok (.iconst 1, 1) := by decide +kernel
theorem dL_act_644 : decode cL_act 644 = .ok (.iaload, 1) := by decide +kernel
theorem dL_act_645 : decode cL_act 645 = .ok (.aload 12, 2) := by decide +kernel
theorem dL_act_647 : decode cL_act 647 = .ok (.iconst 2, 1) := by decide +kernel
theorem dL_act_648 : decode cL_act 648 = .ok (.iaload, 1) := by decide +kernel
theorem dL_act_649 : decode cL_act 649 = .ok (.iadd, 1) := by decide +kernel
theorem dL_act_650 : decode cL_act 650 = .ok (.bipush 10, 2) := by decide +kernel
theorem dL_act_652 : decode cL_act 652 = .ok (.idiv, 1) := by decide +kernel
theorem dL_act_653 : decode cL_act 653 = .ok (.iconst 3, 1) := by decide +kernel
theorem dL_act_654 : decode cL_act 654 = .ok (.imul, 1) := by decide +kernel
theorem dL_act_655 : decode cL_act 655 = .ok (.istore 13, 2) := by decide +kernel
theorem dL_act_657 : decode cL_act 657 = .ok (.aload 12, 2) := by decide +kernel
theorem dL_act_659 : decode cL_act 659 = .ok (.iconst 1, 1) := by decide +kernel
theorem dL_act_660 : decode cL_act 660 = .ok (.iconst 0, 1) := by decide +kernel
theorem dL_act_661 : decode cL_act 661 = .ok (.iastore, 1) := by decide +kernel
theorem dL_act_662 : decode cL_act 662 = .ok (.aload 12, 2) := by decide +kernel
theorem dL_act_664 : decode cL_act 664 = .ok (.iconst 2, 1) := by decide +kernel
theorem dL_act_665 : decode cL_act 665 = .ok (.iconst 0, 1) := by decide +kernel
theorem dL_act_666 : decode cL_act 666 = .ok (.iastore, 1) := by decide +kernel
theorem dL_act_667 : decode cL_act 667 = .ok (.aload_n 1, 1) := by decide +kernel
theorem dL_act_668 : decode cL_act 668 = .ok (.dup, 1) := by decide +kernel
theorem dL_act_669 : decode cL_act 669 = .ok (.getfield 82, 3) := by decide +kernel
theorem dL_act_672 : decode cL_act 672 = .ok (.iload 13, 2) := by decide +kernel
theorem dL_act_674 : decode cL_act 674 = .ok (.iadd, 1) := by decide +kernel
theorem dL_act_675 : decode cL_act 675 = .ok (.putfield 82, 3) := by decide +kernel
theorem dL_act_678 : decode cL_act 678 = .ok (.aload_n 0, 1) := by decide +kernel
theorem dL_act_679 : decode cL_act 679 = .ok (.iload_n 2, 1) := by decide +kernel
theorem dL_act_680 : decode cL_act 680 = .ok (.iload 4, 2) := by decide +kernel
theorem dL_act_682 : decode cL_act 682 = .ok (.invokestatic 19, 3) := by decide +kernel
theorem dL_act_685 : decode cL_act 685 = .ok (.invokevirtual 85, 3) := by decide +kernel
theorem dL_act_688 : decode cL_act 688 = .ok (.iload 13, 2) := by decide +kernel
theorem dL_act_690 : decode cL_act 690 = .ok (.if_icmp .ne 7, 3) := by decide +kernel
theorem dL_act_693 : decode cL_act 693 = .ok (.iconst 1, 1) := by decide +kernel
theorem dL_act_694 : decode cL_act 694 = .ok (.goto 4, 3) := by decide +kernel
theorem dL_act_697 : decode cL_act 697 = .ok (.iconst 0, 1) := by decide +kernel
theorem dL_act_698 : decode cL_act 698 = .ok (.ireturn, 1) := by decide +kernel
theorem dL_act_699 : decode cL_act 699 = .ok (.iload_n 2, 1) := by decide +kernel
theorem dL_act_700 : decode cL_act 700 = .ok (.iconst 3, 1) := by decide +kernel
theorem dL_act_701 : decode cL_act 701 = .ok (.ishr, 1) := by decide +kernel
theorem dL_act_702 : decode cL_act 702 = .ok (.iconst 3, 1) := by decide +kernel
theorem dL_act_703 : decode cL_act 703 = .ok (.invokestatic 19, 3) := by decide +kernel
theorem dL_act_706 : decode cL_act 706 = .ok (.istore 14, 2) := by decide +kernel
theorem dL_act_708 : decode cL_act 708 = .ok (.iload 4, 2) := by decide +kernel
theorem dL_act_710 : decode cL_act 710 = .ok (.ifCond .eq 13, 3) := by decide +kernel
theorem dL_act_713 : decode cL_act 713 = .ok (.aload_n 1, 1) := by decide +kernel
theorem dL_act_714 : decode cL_act 714 = .ok (.getfield 88, 3) := by decide +kernel
theorem dL_act_717 : decode cL_act 717 = .ok (.iload 14, 2) := by decide +kernel
theorem dL_act_719 : decode cL_act 719 = .ok (.iaload, 1) := by decide +kernel
theorem dL_act_720 : decode cL_act 720 = .ok (.ifCond .ne 5, 3) := by decide +kernel
theorem dL_act_723 : decode cL_act 723 = .ok (.iconst 1, 1) := by decide +kernel
theorem dL_act_724 : decode cL_act 724 = .ok (.ireturn, 1) := by decide +kernel
theorem dL_act_725 : decode cL_act 725 = .ok (.aload_n 1, 1) := by decide +kernel
theorem dL_act_726 : decode cL_act 726 = .ok (.getfield 15, 3) := by decide +kernel
theorem dL_act_729 : decode cL_act 729 = .ok (.iload_n 2, 1) := by decide +kernel
theorem dL_act_730 : decode cL_act 730 = .ok (.iload 4, 2) := by decide +kernel
theorem dL_act_732 : decode cL_act 732 = .ok (.invokestatic 19, 3) := by decide +kernel
theorem dL_act_735 : decode cL_act 735 = .ok (.aaload, 1) := by decide +kernel
theorem dL_act_736 : decode cL_act 736 = .ok (.astore 15, 2) := by decide +kernel
theorem dL_act_738 : decode cL_act 738 = .ok (.aload 15, 2) := by decide +kernel
theorem dL_act_740 : decode cL_act 740 = .ok (.iconst 1, 1) := by decide +kernel
theorem dL_act_741 : decode cL_act 741 = .ok (.iaload, 1) := by decide +kernel
theorem dL_act_742 : decode cL_act 742 = .ok (.aload 15, 2) := by decide +kernel
theorem dL_act_744 : decode cL_act 744 = .ok (.iconst 2, 1) := by decide +kernel
theorem dL_act_745 : decode cL_act 745 = .ok (.iaload, 1) := by decide +kernel
theorem dL_act_746 : decode cL_act 746 = .ok (.iadd, 1) := by decide +kernel
theorem dL_act_747 : decode cL_act 747 = .ok (.iload 14, 2) := by decide +kernel
theorem dL_act_749 : decode cL_act 749 = .ok (.invokestatic 91, 3) := by decide +kernel
theorem dL_act_752 : decode cL_act 752 = .ok (.iadd, 1) := by decide +kernel
theorem dL_act_753 : decode cL_act 753 = .ok (.aload 15, 2) := by decide +kernel
theorem dL_act_755 : decode cL_act 755 = .ok (.iconst 0, 1) := by decide +kernel
theorem dL_act_756 : decode cL_act 756 = .ok (.iaload, 1) := by decide +kernel
theorem dL_act_757 : decode cL_act 757 = .ok (.if_icmp .le 5, 3) := by decide +kernel
theorem dL_act_760 : decode cL_act 760 = .ok (.iconst 1, 1) := by decide +kernel
theorem dL_act_761 : decode cL_act 761 = .ok (.ireturn, 1) := by decide +kernel
theorem dL_act_762 : decode cL_act 762 = .ok (.iload_n 2, 1) := by decide +kernel
theorem dL_act_763 : decode cL_act 763 = .ok (.iconst 5, 1) := by decide +kernel
theorem dL_act_764 : decode cL_act 764 = .ok (.ishr, 1) := by decide +kernel
theorem dL_act_765 : decode cL_act 765 = .ok (.iconst 2, 1) := by decide +kernel
theorem dL_act_766 : decode cL_act 766 = .ok (.invokestatic 19, 3) := by decide +kernel
theorem dL_act_769 : decode cL_act 769 = .ok (.ifCond .ne 7, 3) := by decide +kernel
theorem dL_act_772 : decode cL_act 772 = .ok (.iconst 1, 1) := by decide +kernel
theorem dL_act_773 : decode cL_act 773 = .ok (.goto 4, 3) := by decide +kernel
theorem dL_act_776 : decode cL_act 776 = .ok (.iconst 0, 1) := by decide +kernel
theorem dL_act_777 : decode cL_act 777 = .ok (.istore 16, 2) := by decide +kernel
theorem dL_act_779 : decode cL_act 779 = .ok (.aload_n 1, 1) := by decide +kernel
theorem dL_act_780 : decode cL_act 780 = .ok (.getfield 88, 3) := by decide +kernel
theorem dL_act_783 : decode cL_act 783 = .ok (.iload 14, 2) := by decide +kernel
theorem dL_act_785 : decode cL_act 785 = .ok (.dup2, 1) := by decide +kernel
theorem dL_act_786 : decode cL_act 786 = .ok (.iaload, 1) := by decide +kernel
theorem dL_act_787 : decode cL_act 787 = .ok (.iconst 1, 1) := by decide +kernel
theorem dL_act_788 : decode cL_act 788 = .ok (.isub, 1) := by decide +kernel
theorem dL_act_789 : decode cL_act 789 = .ok (.iastore, 1) := by decide +kernel
theorem dL_act_790 : decode cL_act 790 = .ok (.aload 15, 2) := by decide +kernel
theorem dL_act_792 : decode cL_act 792 = .ok (.iload 16, 2) := by decide +kernel
theorem dL_act_794 : decode cL_act 794 = .ok (.ifCond .eq 7, 3) := by decide +kernel
theorem dL_act_797 : decode cL_act 797 = .ok (.iconst 1, 1) := by decide +kernel
theorem dL_act_798 : decode cL_act 798 = .ok (.goto 4, 3) := by decide +kernel
theorem dL_act_801 : decode cL_act 801 = .ok (.iconst 2, 1) := by decide +kernel
theorem dL_act_802 : decode cL_act 802 = .ok (.dup2, 1) := by decide +kernel
theorem dL_act_803 : decode cL_act 803 = .ok (.iaload, 1) := by decide +kernel
theorem dL_act_804 : decode cL_act 804 = .ok (.iload 14, 2) := by decide +kernel
theorem dL_act_806 : decode cL_act 806 = .ok (.invokestatic 91, 3) := by decide +kernel
theorem dL_act_809 : decode cL_act 809 = .ok (.iadd, 1) := by decide +kernel
theorem dL_act_810 : decode cL_act 810 = .ok (.iastore, 1) := by decide +kernel
theorem dL_act_811 : decode cL_act 811 = .ok (.aload_n 0, 1) := by decide +kernel
theorem dL_act_812 : decode cL_act 812 = .ok (.iload_n 2, 1) := by decide +kernel
theorem dL_act_813 : decode cL_act 813 = .ok (.iload 4, 2) := by decide +kernel
theorem dL_act_815 : decode cL_act 815 = .ok (.invokestatic 19, 3) := by decide +kernel
theorem dL_act_818 : decode cL_act 818 = .ok (.iload 14, 2) := by decide +kernel
theorem dL_act_820 : decode cL_act 820 = .ok (.iload 16, 2) := by decide +kernel
theorem dL_act_822 : decode cL_act 822 = .ok (.invokevirtual 94, 3) := by decide +kernel
theorem dL_act_825 : decode cL_act 825 = .ok (.aload 15, 2) := by decide +kernel
theorem dL_act_827 : decode cL_act 827 = .ok (.iconst 1, 1) := by decide +kernel
theorem dL_act_828 : decode cL_act 828 = .ok (.iaload, 1) := by decide +kernel
theorem dL_act_829 : decode cL_act 829 = .ok (.aload 15, 2) := by decide +kernel
theorem dL_act_831 : decode cL_act 831 = .ok (.iconst 2, 1) := by decide +kernel
theorem dL_act_832 : decode cL_act 832 = .ok (.iaload, 1) := by decide +kernel
theorem dL_act_833 : decode cL_act 833 = .ok (.isub, 1) := by decide +kernel
theorem dL_act_834 : decode cL_act 834 = .ok (.if_icmp .ne 7, 3) := by decide +kernel
theorem dL_act_837 : decode cL_act 837 = .ok (.iconst 1, 1) := by decide +kernel
theorem dL_act_838 : decode cL_act 838 = .ok (.goto 4, 3) := by decide +kernel
theorem dL_act_841 : decode cL_act 841 = .ok (.iconst 0, 1) := by decide +kernel
theorem dL_act_842 : decode cL_act 842 = .ok (.ireturn, 1) := by decide +kernel
theorem dL_build_0 : decode cL_build 0 = .ok (.new 10, 3) := by decide +kernel
theorem dL_build_3 : decode cL_build 3 = .ok (.dup, 1) := by decide +kernel
theorem dL_build_4 : decode cL_build 4 = .ok (.invokespecial 98, 3) := by decide +kernel
theorem dL_build_7 : decode cL_build 7 = .ok (.astore_n 2, 1) := by decide +kernel
theorem dL_build_8 : decode cL_build 8 = .ok (.iconst 0, 1) := by decide +kernel
theorem dL_build_9 : decode cL_build 9 = .ok (.istore_n 3, 1) := by decide +kernel
theorem dL_build_10 : decode cL_build 10 = .ok (.iload_n 3, 1) := by decide +kernel
theorem dL_build_11 : decode cL_build 11 = .ok (.bipush 36, 2) := by decide +kernel
theorem dL_build_13 : decode cL_build 13 = .ok (.if_icmp .ge 84, 3) := by decide +kernel
theorem dL_build_16 : decode cL_build 16 = .ok (.aload_n 0, 1) := by decide +kernel
theorem dL_build_17 : decode cL_build 17 = .ok (.aload_n 2, 1) := by decide +kernel
theorem dL_build_18 : decode cL_build 18 = .ok (.aload_n 1, 1) := by decide +kernel
theorem dL_build_19 : decode cL_build 19 = .ok (.iload_n 3, 1) := by decide +kernel
theorem dL_build_20 : decode cL_build 20 = .ok (.bipush 16, 2) := by decide +kernel
theorem dL_build_22 : decode cL_build 22 = .ok (.irem, 1) := by decide +kernel
theorem dL_build_23 : decode cL_build 23 = .ok (.invokestatic 99, 3) := by decide +kernel
theorem dL_build_26 : decode cL_build 26 = .ok (.iload_n 3, 1) := by decide +kernel
theorem dL_build_27 : decode cL_build 27 = .ok (.bipush 16, 2) := by decide +kernel
theorem dL_build_29 : decode cL_build 29 = .ok (.idiv, 1) := by decide +kernel
theorem dL_build_30 : decode cL_build 30 = .ok (.iconst 4, 1) := by decide +kernel
theorem dL_build_31 : decode cL_build 31 = .ok (.imul, 1) := by decide +kernel
theorem dL_build_32 : decode cL_build 32 = .ok (.ishr, 1) := by decide +kernel
theorem dL_build_33 : decode cL_build 33 = .ok (.sipush 257, 3) := by decide +kernel
theorem dL_build_36 : decode cL_build 36 = .ok (.iload_n 3, 1) := by decide +kernel
theorem dL_build_37 : decode cL_build 37 = .ok (.imul, 1) := by decide +kernel
theorem dL_build_38 : decode cL_build 38 = .ok (.iadd, 1) := by decide +kernel
theorem dL_build_39 : decode cL_build 39 = .ok (.iload_n 3, 1) := by decide +kernel
theorem dL_build_40 : decode cL_build 40 = .ok (.bipush 8, 2) := by decide +kernel
theorem dL_build_42 : decode cL_build 42 = .ok (.if_icmp .ge 13, 3) := by decide +kernel
theorem dL_build_45 : decode cL_build 45 = .ok (.sipush 512, 3) := by decide +kernel
theorem dL_build_48 : decode cL_build 48 = .ok (.iload_n 3, 1) := by decide +kernel
theorem dL_build_49 : decode cL_build 49 = .ok (.iconst 4, 1) := by decide +kernel
theorem dL_build_50 : decode cL_build 50 = .ok (.irem, 1) := by decide +kernel
theorem dL_build_51 : decode cL_build 51 = .ok (.imul, 1) := by decide +kernel
theorem dL_build_52 : decode cL_build 52 = .ok (.goto 4, 3) := by decide +kernel
theorem dL_build_55 : decode cL_build 55 = .ok (.iconst 0, 1) := by decide +kernel
theorem dL_build_56 : decode cL_build 56 = .ok (.iadd, 1) := by decide +kernel
theorem dL_build_57 : decode cL_build 57 = .ok (.invokestatic 103, 3) := by decide +kernel
theorem dL_build_60 : decode cL_build 60 = .ok (.ifCond .ne 5, 3) := by decide +kernel
theorem dL_build_63 : decode cL_build 63 = .ok (.aconst_null, 1) := by decide +kernel
theorem dL_build_64 : decode cL_build 64 = .ok (.areturn, 1) := by decide +kernel
theorem dL_build_65 : decode cL_build 65 = .ok (.iload_n 3, 1) := by decide +kernel
theorem dL_build_66 : decode cL_build 66 = .ok (.bipush 10, 2) := by decide +kernel
theorem dL_build_68 : decode cL_build 68 = .ok (.if_icmp .le 23, 3) := by decide +kernel
theorem dL_build_71 : decode cL_build 71 = .ok (.iload_n 3, 1) := by decide +kernel
theorem dL_build_72 : decode cL_build 72 = .ok (.iconst 3, 1) := by decide +kernel
theorem dL_build_73 : decode cL_build 73 = .ok (.irem, 1) := by decide +kernel
theorem dL_build_74 : decode cL_build 74 = .ok (.ifCond .ne 17, 3) := by decide +kernel
theorem dL_build_77 : decode cL_build 77 = .ok (.aload_n 0, 1) := by decide +kernel
theorem dL_build_78 : decode cL_build 78 = .ok (.iconst 1, 1) := by decide +kernel
theorem dL_build_79 : decode cL_build 79 = .ok (.invokevirtual 107, 3) := by decide +kernel
theorem dL_build_82 : decode cL_build 82 = .ok (.aload_n 2, 1) := by decide +kernel
theorem dL_build_83 : decode cL_build 83 = .ok (.invokevirtual 110, 3) := by decide +kernel
theorem dL_build_86 : decode cL_build 86 = .ok (.if_icmp .eq 5, 3) := by decide +kernel
theorem dL_build_89 : decode cL_build 89 = .ok (.aconst_null, 1) := by decide +kernel
theorem dL_build_90 : decode cL_build 90 = .ok (.areturn, 1) := by decide +kernel
theorem dL_build_91 : decode cL_build 91 = .ok (.iinc 3 1, 3) := by decide +kernel
theorem dL_build_94 : decode cL_build 94 = .ok (.goto (-84), 3) := by decide +kernel
theorem dL_build_97 : decode cL_build 97 = .ok (.aload_n 2, 1) := by decide +kernel
theorem dL_build_98 : decode cL_build 98 = .ok (.areturn, 1) := by decide +kernel
theorem dL_law_0 : decode cL_law 0 = .ok (.new 33, 3) := by decide +kernel
theorem dL_law_3 : decode cL_law 3 = .ok (.dup, 1) := by decide +kernel
theorem dL_law_4 : decode cL_law 4 = .ok (.invokespecial 113, 3) := by decide +kernel
theorem dL_law_7 : decode cL_law 7 = .ok (.astore_n 1, 1) := by decide +kernel
theorem dL_law_8 : decode cL_law 8 = .ok (.aload_n 1, 1) := by decide +kernel
theorem dL_law_9 : decode cL_law 9 = .ok (.aload_n 0, 1) := by decide +kernel
theorem dL_law_10 : decode cL_law 10 = .ok (.invokestatic 114, 3) := by decide +kernel
theorem dL_law_13 : decode cL_law 13 = .ok (.astore_n 2, 1) := by decide +kernel
theorem dL_law_14 : decode cL_law 14 = .ok (.aload_n 2, 1) := by decide +kernel
theorem dL_law_15 : decode cL_law 15 = .ok (.ifnonnull 5, 3) := by decide +kernel
theorem dL_law_18 : decode cL_law 18 = .ok (.iconst 0, 1) := by decide +kernel
theorem dL_law_19 : decode cL_law 19 = .ok (.ireturn, 1) := by decide +kernel
theorem dL_law_20 : decode cL_law 20 = .ok (.iconst 0, 1) := by decide +kernel
theorem dL_law_21 : decode cL_law 21 = .ok (.istore_n 3, 1) := by decide +kernel
theorem dL_law_22 : decode cL_law 22 = .ok (.iload_n 3, 1) := by decide +kernel
theorem dL_law_23 : decode cL_law 23 = .ok (.bipush 36, 2) := by decide +kernel
theorem dL_law_25 : decode cL_law 25 = .ok (.if_icmp .ge 923, 3) := by decide +kernel
theorem dL_law_28 : decode cL_law 28 = .ok (.aload_n 0, 1) := by decide +kernel
theorem dL_law_29 : decode cL_law 29 = .ok (.iload_n 3, 1) := by decide +kernel
theorem dL_law_30 : decode cL_law 30 = .ok (.bipush 16, 2) := by decide +kernel
theorem dL_law_32 : decode cL_law 32 = .ok (.irem, 1) := by decide +kernel
theorem dL_law_33 : decode cL_law 33 = .ok (.invokestatic 99, 3) := by decide +kernel
theorem dL_law_36 : decode cL_law 36 = .ok (.iload_n 3, 1) := by decide +kernel
theorem dL_law_37 : decode cL_law 37 = .ok (.bipush 16, 2) := by decide +kernel
theorem dL_law_39 : decode cL_law 39 = .ok (.idiv, 1) := by decide +kernel
theorem dL_law_40 : decode cL_law 40 = .ok (.iconst 3, 1) := by decide +kernel
theorem dL_law_41 : decode cL_law 41 = .ok (.imul, 1) := by decide +kernel
theorem dL_law_42 : decode cL_law 42 = .ok (.ishr, 1) := by decide +kernel
theorem dL_law_43 : decode cL_law 43 = .ok (.sipush 257, 3) := by decide +kernel
theorem dL_law_46 : decode cL_law 46 = .ok (.iload_n 3, 1) := by decide +kernel
theorem dL_law_47 : decode cL_law 47 = .ok (.imul, 1) := by decide +kernel
theorem dL_law_48 : decode cL_law 48 = .ok (.iadd, 1) := by decide +kernel
theorem dL_law_49 : decode cL_law 49 = .ok (.istore 4, 2) := by decide +kernel
theorem dL_law_51 : decode cL_law 51 = .ok (.iconst 0, 1) := by decide +kernel
theorem dL_law_52 : decode cL_law 52 = .ok (.istore 5, 2) := by decide +kernel
theorem dL_law_54 : decode cL_law 54 = .ok (.iload 5, 2) := by decide +kernel
theorem dL_law_56 : decode cL_law 56 = .ok (.iconst 3, 1) := by decide +kernel
theorem dL_law_57 : decode cL_law 57 = .ok (.if_icmp .ge 33, 3) := by decide +kernel
theorem dL_law_60 : decode cL_law 60 = .ok (.aload_n 1, 1) := by decide +kernel
theorem dL_law_61 : decode cL_law 61 = .ok (.aload_n 2, 1) := by decide +kernel
theorem dL_law_62 : decode cL_law 62 = .ok (.iload 4, 2) := by decide +kernel
theorem dL_law_64 : decode cL_law 64 = .ok (.iconst 2, 1) := by decide +kernel
theorem dL_law_65 : decode cL_law 65 = .ok (.iload 5, 2) := by decide +kernel
theorem dL_law_67 : decode cL_law 67 = .ok (.imul, 1) := by decide +kernel
theorem dL_law_68 : decode cL_law 68 = .ok (.ishr, 1) := by decide +kernel
theorem dL_law_69 : decode cL_law 69 = .ok (.sipush 181, 3) := by decide +kernel
theorem dL_law_72 : decode cL_law 72 = .ok (.iload 5, 2) := by decide +kernel
theorem dL_law_74 : decode cL_law 74 = .ok (.imul, 1) := by decide +kernel
theorem dL_law_75 : decode cL_law 75 = .ok (.iadd, 1) := by decide +kernel
theorem dL_law_76 : decode cL_law 76 = .ok (.invokestatic 103, 3) := by decide +kernel
theorem dL_law_79 : decode cL_law 79 = .ok (.ifCond .ne 5, 3) := by decide +kernel
theorem dL_law_82 : decode cL_law 82 = .ok (.iconst 0, 1) := by decide +kernel
theorem dL_law_83 : decode cL_law 83 = .ok (.ireturn, 1) := by decide +kernel
theorem dL_law_84 : decode cL_law 84 = .ok (.iinc 5 1, 3) := by decide +kernel
theorem dL_law_87 : decode cL_law 87 = .ok (.goto (-33), 3) := by decide +kernel
theorem dL_law_90 : decode cL_law 90 = .ok (.aload_n 2, 1) := by decide +kernel
theorem dL_law_91 : decode cL_law 91 = .ok (.getfield 9, 3) := by decide +kernel
theorem dL_law_94 : decode cL_law 94 = .ok (.arraylength, 1) := by decide +kernel
theorem dL_law_95 : decode cL_law 95 = .ok (.istore 5, 2) := by decide +kernel
theorem dL_law_97 : decode cL_law 97 = .ok (.iload 5, 2) := by decide +kernel
theorem dL_law_99 : decode cL_law 99 = .ok (.newarray .int, 2) := by decide +kernel
theorem dL_law_101 : decode cL_law 101 = .ok (.astore 6, 2) := by decide +kernel
theorem dL_law_103 : decode cL_law 103 = .ok (.iload 5, 2) := by decide +kernel
theorem dL_law_105 : decode cL_law 105 = .ok (.newarray .int, 2) := by decide +kernel
theorem dL_law_107 : decode cL_law 107 = .ok (.astore 7, 2) := by decide +kernel
theorem dL_law_109 : decode cL_law 109 = .ok (.iload 5, 2) := by decide +kernel
theorem dL_law_111 : decode cL_law 111 = .ok (.bipush 6, 2) := by decide +kernel
theorem dL_law_113 : decode cL_law 113 = .ok (.multianewarray 117 2, 4) := by decide +kernel
theorem dL_law_117 : decode cL_law 117 = .ok (.astore 8, 2) := by decide +kernel
theorem dL_law_119 : decode cL_law 119 = .ok (.iconst 0, 1) := by decide +kernel
theorem dL_law_120 : decode cL_law 120 = .ok (.istore 9, 2) := by decide +kernel
theorem dL_law_122 : decode cL_law 122 = .ok (.iload 9, 2) := by decide +kernel
theorem dL_law_124 : decode cL_law 124 = .ok (.iload 5, 2) := by decide +kernel
theorem dL_law_126 : decode cL_law 126 = .ok (.if_icmp .ge 140, 3) := by decide +kernel
theorem dL_law_129 : decode cL_law 129 = .ok (.aload 6, 2) := by decide +kernel
theorem dL_law_131 : decode cL_law 131 = .ok (.iload 9, 2) := by decide +kernel
theorem dL_law_133 : decode cL_law 133 = .ok (.aload_n 1, 1) := by decide +kernel
theorem dL_law_134 : decode cL_law 134 = .ok (.iload 9, 2) := by decide +kernel
theorem dL_law_136 : decode cL_law 136 = .ok (.invokevirtual 118, 3) := by decide +kernel
theorem dL_law_139 : decode cL_law 139 = .ok (.iastore, 1) := by decide +kernel
theorem dL_law_140 : decode cL_law 140 = .ok (.aload 7, 2) := by decide +kernel
theorem dL_law_142 : decode cL_law 142 = .ok (.iload 9, 2) := by decide +kernel
theorem dL_law_144 : decode cL_law 144 = .ok (.aload_n 1, 1) := by decide +kernel
theorem dL_law_145 : decode cL_law 145 = .ok (.iload 9, 2) := by decide +kernel
theorem dL_law_147 : decode cL_law 147 = .ok (.invokevirtual 121, 3) := by decide +kernel
theorem dL_law_150 : decode cL_law 150 = .ok (.iastore, 1) := by decide +kernel
theorem dL_law_151 : decode cL_law 151 = .ok (.iconst 0, 1) := by decide +kernel
theorem dL_law_152 : decode cL_law 152 = .ok (.istore 10, 2) := by decide +kernel
theorem dL_law_154 : decode cL_law 154 = .ok (.iload 10, 2) := by decide +kernel
theorem dL_law_156 : decode cL_law 156 = .ok (.bipush 6, 2) := by decide +kernel
theorem dL_law_158 : decode cL_law 158 = .ok (.if_icmp .ge 25, 3) := by decide +kernel
theorem dL_law_161 : decode cL_law 161 = .ok (.aload 8, 2) := by decide +kernel
theorem dL_law_163 : decode cL_law 163 = .ok (.iload 9, 2) := by decide +kernel
theorem dL_law_165 : decode cL_law 165 = .ok (.aaload, 1) := by decide +kernel
theorem dL_law_166 : decode cL_law 166 = .ok (.iload 10, 2) := by decide +kernel
theorem dL_law_168 : decode cL_law 168 = .ok (.aload_n 1, 1) := by decide +kernel
theorem dL_law_169 : decode cL_law 169 = .ok (.iload 9, 2) := by decide +kernel
theorem dL_law_171 : decode cL_law 171 = .ok (.iload 10, 2) := by decide +kernel
theorem dL_law_173 : decode cL_law 173 = .ok (.invokevirtual 124, 3) := by decide +kernel
theorem dL_law_176 : decode cL_law 176 = .ok (.iastore, 1) := by decide +kernel
theorem dL_law_177 : decode cL_law 177 = .ok (.iinc 10 1, 3) := by decide +kernel
theorem dL_law_180 : decode cL_law 180 = .ok (.goto (-26), 3) := by decide +kernel
theorem dL_law_183 : decode cL_law 183 = .ok (.aload 6, 2) := by decide +kernel
theorem dL_law_185 : decode cL_law 185 = .ok (.iload 9, 2) := by decide +kernel
theorem dL_law_187 : decode cL_law 187 = .ok (.iaload, 1) := by decide +kernel
theorem dL_law_188 : decode cL_law 188 = .ok (.ifCond .ne 7, 3) := by decide +kernel
theorem dL_law_191 : decode cL_law 191 = .ok (.iconst 1, 1) := by decide +kernel
theorem dL_law_192 : decode cL_law 192 = .ok (.goto 4, 3) := by decide +kernel
theorem dL_law_195 : decode cL_law 195 = .ok (.iconst 0, 1) := by decide +kernel
theorem dL_law_196 : decode cL_law 196 = .ok (.aload 8, 2) := by decide +kernel
theorem dL_law_198 : decode cL_law 198 = .ok (.iload 9, 2) := by decide +kernel
theorem dL_law_200 : decode cL_law 200 = .ok (.aaload, 1) := by decide +kernel
theorem dL_law_201 : decode cL_law 201 = .ok (.iconst 3, 1) := by decide +kernel
theorem dL_law_202 : decode cL_law 202 = .ok (.iaload, 1) := by decide +kernel
theorem dL_law_203 : decode cL_law 203 = .ok (.ifCond .ne 7, 3) := by decide +kernel
theorem dL_law_206 : decode cL_law 206 = .ok (.iconst 1, 1) := by decide +kernel
theorem dL_law_207 : decode cL_law 207 = .ok (.goto 4, 3) := by decide +kernel
theorem dL_law_210 : decode cL_law 210 = .ok (.iconst 0, 1) := by decide +kernel
theorem dL_law_211 : decode cL_law 211 = .ok (.if_icmp .ne 47, 3) := by decide +kernel
theorem dL_law_214 : decode cL_law 214 = .ok (.aload 7, 2) := by decide +kernel
theorem dL_law_216 : decode cL_law 216 = .ok (.iload 9, 2) := by decide +kernel
theorem dL_law_218 : decode cL_law 218 = .ok (.iaload, 1) := by decide +kernel
theorem dL_law_219 : decode cL_law 219 = .ok (.aload 8, 2) := by decide +kernel
theorem dL_law_221 : decode cL_law 221 = .ok (.iload 9, 2) := by decide +kernel
theorem dL_law_223 : decode cL_law 223 = .ok (.aaload, 1) := by decide +kernel
theorem dL_law_224 : decode cL_law 224 = .ok (.iconst 1, 1) := by decide +kernel
theorem dL_law_225 : decode cL_law 225 = .ok (.iaload, 1) := by decide +kernel
theorem dL_law_226 : decode cL_law 226 = .ok (.if_icmp .gt 32, 3) := by decide +kernel
theorem dL_law_229 : decode cL_law 229 = .ok (.aload 8, 2) := by decide +kernel
theorem dL_law_231 : decode cL_law 231 = .ok (.iload 9, 2) := by decide +kernel
theorem dL_law_233 : decode cL_law 233 = .ok (.aaload, 1) := by decide +kernel
theorem dL_law_234 : decode cL_law 234 = .ok (.iconst 3, 1) := by decide +kernel
theorem dL_law_235 : decode cL_law 235 = .ok (.iaload, 1) := by decide +kernel
theorem dL_law_236 : decode cL_law 236 = .ok (.iconst 2, 1) := by decide +kernel
theorem dL_law_237 : decode cL_law 237 = .ok (.if_icmp .ne 23, 3) := by decide +kernel
theorem dL_law_240 : decode cL_law 240 = .ok (.aload 7, 2) := by decide +kernel
theorem dL_law_242 : decode cL_law 242 = .ok (.iload 9, 2) := by decide +kernel
theorem dL_law_244 : decode cL_law 244 = .ok (.iaload, 1) := by decide +kernel
theorem dL_law_245 : decode cL_law 245 = .ok (.ifCond .ne 13, 3) := by decide +kernel
theorem dL_law_248 : decode cL_law 248 = .ok (.aload 8, 2) := by decide +kernel
theorem dL_law_250 : decode cL_law 250 = .ok (.iload 9, 2) := by decide +kernel
theorem dL_law_252 : decode cL_law 252 = .ok (.aaload, 1) := by decide +kernel
theorem dL_law_253 : decode cL_law 253 = .ok (.iconst 1, 1) := by decide +kernel
theorem dL_law_254 : decode cL_law 254 = .ok (.iaload, 1) := by decide +kernel
theorem dL_law_255 : decode cL_law 255 = .ok (.ifCond .eq 5, 3) := by decide +kernel
theorem dL_law_258 : decode cL_law 258 = .ok (.iconst 0, 1) := by decide +kernel
theorem dL_law_259 : decode cL_law 259 = .ok (.ireturn, 1) := by decide +kernel
theorem dL_law_260 : decode cL_law 260 = .ok (.iinc 9 1, 3) := by decide +kernel
theorem dL_law_263 : decode cL_law 263 = .ok (.goto (-141), 3) := by decide +kernel
theorem dL_law_266 : decode cL_law 266 = .ok (.aload_n 1, 1) := by decide +kernel
theorem dL_law_267 : decode cL_law 267 = .ok (.iconst 1, 1) := by decide +kernel
theorem dL_law_268 : decode cL_law 268 = .ok (.invokevirtual 127, 3) := by decide +kernel
theorem dL_law_271 : decode cL_law 271 = .ok (.istore 9, 2) := by decide +kernel
theorem dL_law_273 : decode cL_law 273 = .ok (.iconst 3, 1) := by decide +kernel
theorem dL_law_274 : decode cL_law 274 = .ok (.newarray .int, 2) := by decide +kernel
theorem dL_law_276 : decode cL_law 276 = .ok (.dup, 1) := by decide +kernel
theorem dL_law_277 : decode cL_law 277 = .ok (.iconst 0, 1) := by decide +kernel
theorem dL_law_278 : decode cL_law 278 = .ok (.aload_n 1, 1) := by decide +kernel
theorem dL_law_279 : decode cL_law 279 = .ok (.iconst 1, 1) := by decide +kernel
theorem dL_law_280 : decode cL_law 280 = .ok (.iconst 5, 1) := by decide +kernel
theorem dL_law_281 : decode cL_law 281 = .ok (.invokevirtual 130, 3) := by decide +kernel
theorem dL_law_284 : decode cL_law 284 = .ok (.iastore, 1) := by decide +kernel
theorem dL_law_285 : decode cL_law 285 = .ok (.dup, 1) := by decide +kernel
theorem dL_law_286 : decode cL_law 286 = .ok (.iconst 1, 1) := by decide +kernel
theorem dL_law_287 : decode cL_law 287 = .ok (.aload_n 1, 1) := by decide +kernel
theorem dL_law_288 : decode cL_law 288 = .ok (.iconst 1, 1) := by decide +kernel
theorem dL_law_289 : decode cL_law 289 = .ok (.bipush 6, 2) := by decide +kernel
theorem dL_law_291 : decode cL_law 291 = .ok (.invokevirtual 130, 3) := by decide +kernel
theorem dL_law_294 : decode cL_law 294 = .ok (.iastore, 1) := by decide +kernel
theorem dL_law_295 : decode cL_law 295 = .ok (.dup, 1) := by decide +kernel
theorem dL_law_296 : decode cL_law 296 = .ok (.iconst 2, 1) := by decide +kernel
theorem dL_law_297 : decode cL_law 297 = .ok (.aload_n 1, 1) := by decide +kernel
theorem dL_law_298 : decode cL_law 298 = .ok (.iconst 1, 1) := by decide +kernel
theorem dL_law_299 : decode cL_law 299 = .ok (.bipush 7, 2) := by decide +kernel
theorem dL_law_301 : decode cL_law 301 = .ok (.invokevirtual 130, 3) := by decide +kernel
theorem dL_law_304 : decode cL_law 304 = .ok (.iastore, 1) := by decide +kernel
theorem dL_law_305 : decode cL_law 305 = .ok (.astore 10, 2) := by decide +kernel
theorem dL_law_307 : decode cL_law 307 = .ok (.aload_n 1, 1) := by decide +kernel
theorem dL_law_308 : decode cL_law 308 = .ok (.iconst 1, 1) := by decide +kernel
theorem dL_law_309 : decode cL_law 309 = .ok (.invokevirtual 107, 3) := by decide +kernel
theorem dL_law_312 : decode cL_law 312 = .ok (.istore 11, 2) := by decide +kernel
theorem dL_law_314 : decode cL_law 314 = .ok (.aload_n 2, 1) := by decide +kernel
theorem dL_law_315 : decode cL_law 315 = .ok (.invokevirtual 110, 3) := by decide +kernel
theorem dL_law_318 : decode cL_law 318 = .ok (.pop, 1) := by decide +kernel
theorem dL_law_319 : decode cL_law 319 = .ok (.iconst 0, 1) := by decide +kernel
theorem dL_law_320 : decode cL_law 320 = .ok (.istore 12, 2) := by decide +kernel
theorem dL_law_322 : decode cL_law 322 = .ok (.iload 12, 2) := by decide +kernel
theorem dL_law_324 : decode cL_law 324 = .ok (.iconst 3, 1) := by decide +kernel
theorem dL_law_325 : decode cL_law 325 = .ok (.if_icmp .ge 27, 3) := by decide +kernel
theorem dL_law_328 : decode cL_law 328 = .ok (.aload_n 1, 1) := by decide +kernel
theorem dL_law_329 : decode cL_law 329 = .ok (.iconst 5, 1) := by decide +kernel
theorem dL_law_330 : decode cL_law 330 = .ok (.iload 12, 2) := by decide +kernel
theorem dL_law_332 : decode cL_law 332 = .ok (.iadd, 1) := by decide +kernel
theorem dL_law_333 : decode cL_law 333 = .ok (.invokevirtual 127, 3) := by decide +kernel
theorem dL_law_336 : decode cL_law 336 = .ok (.aload 10, 2) := by decide +kernel
theorem dL_law_338 : decode cL_law 338 = .ok (.iload 12, 2) := by decide +kernel
theorem dL_law_340 : decode cL_law 340 = .ok (.iaload, 1) := by decide +kernel
theorem dL_law_341 : decode cL_law 341 = .ok (.if_icmp .eq 5, 3) := by decide +kernel
theorem dL_law_344 : decode cL_law 344 = .ok (.iconst 0, 1) := by decide +kernel
theorem dL_law_345 : decode cL_law 345 = .ok (.ireturn, 1) := by decide +kernel
theorem dL_law_346 : decode cL_law 346 = .ok (.iinc 12 1, 3) := by decide +kernel
theorem dL_law_349 : decode cL_law 349 = .ok (.goto (-27), 3) := by decide +kernel
theorem dL_law_352 : decode cL_law 352 = .ok (.iconst 0, 1) := by decide +kernel
theorem dL_law_353 : decode cL_law 353 = .ok (.istore 12, 2) := by decide +kernel
theorem dL_law_355 : decode cL_law 355 = .ok (.iconst 0, 1) := by decide +kernel
theorem dL_law_356 : decode cL_law 356 = .ok (.istore 13, 2) := by decide +kernel
theorem dL_law_358 : decode cL_law 358 = .ok (.iload 13, 2) := by decide +kernel
theorem dL_law_360 : decode cL_law 360 = .ok (.iload 5, 2) := by decide +kernel
theorem dL_law_362 : decode cL_law 362 = .ok (.if_icmp .ge 228, 3) := by decide +kernel
theorem dL_law_365 : decode cL_law 365 = .ok (.aload_n 1, 1) := by decide +kernel
theorem dL_law_366 : decode cL_law 366 = .ok (.iload 13, 2) := by decide +kernel
theorem dL_law_368 : decode cL_law 368 = .ok (.iconst 3, 1) := by decide +kernel
theorem dL_law_369 : decode cL_law 369 = .ok (.invokevirtual 124, 3) := by decide +kernel
theorem dL_law_372 : decode cL_law 372 = .ok (.istore 14, 2) := by decide +kernel
theorem dL_law_374 : decode cL_law 374 = .ok (.aload 8, 2) := by decide +kernel
theorem dL_law_376 : decode cL_law 376 = .ok (.iload 13, 2) := by decide +kernel
theorem dL_law_378 : decode cL_law 378 = .ok (.aaload, 1) := by decide +kernel
theorem dL_law_379 : decode cL_law 379 = .ok (.iconst 3, 1) := by decide +kernel
theorem dL_law_380 : decode cL_law 380 = .ok (.iaload, 1) := by decide +kernel
theorem dL_law_381 : decode cL_law 381 = .ok (.ifCond .eq 21, 3) := by decide +kernel
theorem dL_law_384 : decode cL_law 384 = .ok (.aload_n 1, 1) := by decide +kernel
theorem dL_law_385 : decode cL_law 385 = .ok (.iload 13, 2) := by decide +kernel
theorem dL_law_387 : decode cL_law 387 = .ok (.invokevirtual 118, 3) := by decide +kernel
theorem dL_law_390 : decode cL_law 390 = .ok (.aload 6, 2) := by decide +kernel
theorem dL_law_392 : decode cL_law 392 = .ok (.iload 13, 2) := by decide +kernel
theorem dL_law_394 : decode cL_law 394 = .ok (.iaload, 1) := by decide +kernel
theorem dL_law_395 : decode cL_law 395 = .ok (.iconst 1, 1) := by decide +kernel
theorem dL_law_396 : decode cL_law 396 = .ok (.isub, 1) := by decide +kernel
theorem dL_law_397 : decode cL_law 397 = .ok (.if_icmp .eq 5, 3) := by decide +kernel
theorem dL_law_400 : decode cL_law 400 = .ok (.iconst 0, 1) := by decide +kernel
theorem dL_law_401 : decode cL_law 401 = .ok (.ireturn, 1) := by decide +kernel
theorem dL_law_402 : decode cL_law 402 = .ok (.aload 8, 2) := by decide +kernel
theorem dL_law_404 : decode cL_law 404 = .ok (.iload 13, 2) := by decide +kernel
theorem dL_law_406 : decode cL_law 406 = .ok (.aaload, 1) := by decide +kernel
theorem dL_law_407 : decode cL_law 407 = .ok (.iconst 3, 1) := by decide +kernel
theorem dL_law_408 : decode cL_law 408 = .ok (.iaload, 1) := by decide +kernel
theorem dL_law_409 : decode cL_law 409 = .ok (.iconst 1, 1) := by decide +kernel
theorem dL_law_410 : decode cL_law 410 = .ok (.if_icmp .eq 6, 3) := by decide +kernel
theorem dL_law_413 : decode cL_law 413 = .ok (.goto 171, 3) := by decide +kernel
theorem dL_law_416 : decode cL_law 416 = .ok (.aload 8, 2) := by decide +kernel
theorem dL_law_418 : decode cL_law 418 = .ok (.iload 13, 2) := by decide +kernel
theorem dL_law_420 : decode cL_law 420 = .ok (.aaload, 1) := by decide +kernel
theorem dL_law_421 : decode cL_law 421 = .ok (.iconst 1, 1) := by decide +kernel
theorem dL_law_422 : decode cL_law 422 = .ok (.iaload, 1) := by decide +kernel
theorem dL_law_423 : decode cL_law 423 = .ok (.aload 8, 2) := by decide +kernel
theorem dL_law_425 : decode cL_law 425 = .ok (.iload 13, 2) := by decide +kernel
theorem dL_law_427 : decode cL_law 427 = .ok (.aaload, 1) := by decide +kernel
theorem dL_law_428 : decode cL_law 428 = .ok (.iconst 1, 1) := by decide +kernel
theorem dL_law_429 : decode cL_law 429 = .ok (.iaload, 1) := by decide +kernel
theorem dL_law_430 : decode cL_law 430 = .ok (.ifCond .le 23, 3) := by decide +kernel
theorem dL_law_433 : decode cL_law 433 = .ok (.iload 9, 2) := by decide +kernel
theorem dL_law_435 : decode cL_law 435 = .ok (.iconst 4, 1) := by decide +kernel
theorem dL_law_436 : decode cL_law 436 = .ok (.iconst 2, 1) := by decide +kernel
theorem dL_law_437 : decode cL_law 437 = .ok (.aload 8, 2) := by decide +kernel
theorem dL_law_439 : decode cL_law 439 = .ok (.iload 13, 2) := by decide +kernel
theorem dL_law_441 : decode cL_law 441 = .ok (.aaload, 1) := by decide +kernel
theorem dL_law_442 : decode cL_law 442 = .ok (.iconst 1, 1) := by decide +kernel
theorem dL_law_443 : decode cL_law 443 = .ok (.iaload, 1) := by decide +kernel
theorem dL_law_444 : decode cL_law 444 = .ok (.imul, 1) := by decide +kernel
theorem dL_law_445 : decode cL_law 445 = .ok (.iadd, 1) := by decide +kernel
theorem dL_law_446 : decode cL_law 446 = .ok (.if_icmp .le 7, 3) := by decide +kernel
theorem dL_law_449 : decode cL_law 449 = .ok (.iconst 1, 1) := by decide +kernel
theorem dL_law_450 : decode cL_law 450 = .ok (.goto 4, 3) := by decide +kernel
theorem dL_law_453 : decode cL_law 453 = .ok (.iconst 0, 1) := by decide +kernel
theorem dL_law_454 : decode cL_law 454 = .ok (.isub, 1) := by decide +kernel
theorem dL_law_455 : decode cL_law 455 = .ok (.istore 15, 2) := by decide +kernel
theorem dL_law_457 : decode cL_law 457 = .ok (.iconst 0, 1) := by decide +kernel
theorem dL_law_458 : decode cL_law 458 = .ok (.aload 8, 2) := by decide +kernel
theorem dL_law_460 : decode cL_law 460 = .ok (.iload 13, 2) := by decide +kernel
theorem dL_law_462 : decode cL_law 462 = .ok (.aaload, 1) := by decide +kernel
theorem dL_law_463 : decode cL_law 463 = .ok (.iconst 2, 1) := by decide +kernel
theorem dL_law_464 : decode cL_law 464 = .ok (.iaload, 1) := by decide +kernel
theorem dL_law_465 : decode cL_law 465 = .ok (.iconst 4, 1) := by decide +kernel
theorem dL_law_466 : decode cL_law 466 = .ok (.isub, 1) := by decide +kernel
theorem dL_law_467 : decode cL_law 467 = .ok (.iload 15, 2) := by decide +kernel
theorem dL_law_469 : decode cL_law 469 = .ok (.iconst 3, 1) := by decide +kernel
theorem dL_law_470 : decode cL_law 470 = .ok (.idiv, 1) := by decide +kernel
theorem dL_law_471 : decode cL_law 471 = .ok (.iadd, 1) := by decide +kernel
theorem dL_law_472 : decode cL_law 472 = .ok (.iload 9, 2) := by decide +kernel
theorem dL_law_474 : decode cL_law 474 = .ok (.iconst 2, 1) := by decide +kernel
theorem dL_law_475 : decode cL_law 475 = .ok (.idiv, 1) := by decide +kernel
theorem dL_law_476 : decode cL_law 476 = .ok (.isub, 1) := by decide +kernel
theorem dL_law_477 : decode cL_law 477 = .ok (.invokestatic 133, 3) := by decide +kernel
theorem dL_law_480 : decode cL_law 480 = .ok (.istore 16, 2) := by decide +kernel
theorem dL_law_482 : decode cL_law 482 = .ok (.aload_n 1, 1) := by decide +kernel
theorem dL_law_483 : decode cL_law 483 = .ok (.iload 13, 2) := by decide +kernel
theorem dL_law_485 : decode cL_law 485 = .ok (.iconst 2, 1) := by decide +kernel
theorem dL_law_486 : decode cL_law 486 = .ok (.invokevirtual 124, 3) := by decide +kernel
theorem dL_law_489 : decode cL_law 489 = .ok (.iload 16, 2) := by decide +kernel
theorem dL_law_491 : decode cL_law 491 = .ok (.if_icmp .ne 39, 3) := by decide +kernel
theorem dL_law_494 : decode cL_law 494 = .ok (.iload 14, 2) := by decide +kernel
theorem dL_law_496 : decode cL_law 496 = .ok (.iload 16, 2) := by decide +kernel
theorem dL_law_498 : decode cL_law 498 = .ok (.ifCond .ne 7, 3) := by decide +kernel
theorem dL_law_501 : decode cL_law 501 = .ok (.iconst 2, 1) := by decide +kernel
theorem dL_law_502 : decode cL_law 502 = .ok (.goto 4, 3) := by decide +kernel
theorem dL_law_505 : decode cL_law 505 = .ok (.iconst 1, 1) := by decide +kernel
theorem dL_law_506 : decode cL_law 506 = .ok (.if_icmp .ne 24, 3) := by decide +kernel
theorem dL_law_509 : decode cL_law 509 = .ok (.aload_n 1, 1) := by decide +kernel
theorem dL_law_510 : decode cL_law 510 = .ok (.iload 13, 2) := by decide +kernel
theorem dL_law_512 : decode cL_law 512 = .ok (.iconst 1, 1) := by decide +kernel
theorem dL_law_513 : decode cL_law 513 = .ok (.invokevirtual 124, 3) := by decide +kernel
theorem dL_law_516 : decode cL_law 516 = .ok (.iload 16, 2) := by decide +kernel
theorem dL_law_518 : decode cL_law 518 = .ok (.ifCond .ne 7, 3) := by decide +kernel
theorem dL_law_521 : decode cL_law 521 = .ok (.iconst 0, 1) := by decide +kernel
theorem dL_law_522 : decode cL_law 522 = .ok (.goto 5, 3) := by decide +kernel
theorem dL_law_525 : decode cL_law 525 = .ok (.iload 15, 2) := by decide +kernel
theorem dL_law_527 : decode cL_law 527 = .ok (.if_icmp .eq 5, 3) := by decide +kernel
theorem dL_law_530 : decode cL_law 530 = .ok (.iconst 0, 1) := by decide +kernel
theorem dL_law_531 : decode cL_law 531 = .ok (.ireturn, 1) := by decide +kernel
theorem dL_law_532 : decode cL_law 532 = .ok (.iload 16, 2) := by decide +kernel
theorem dL_law_534 : decode cL_law 534 = .ok (.ifCond .ne 13, 3) := by decide +kernel
theorem dL_law_537 : decode cL_law 537 = .ok (.aload 7, 2) := by decide +kernel
theorem dL_law_539 : decode cL_law 539 = .ok (.iload 13, 2) := by decide +kernel
theorem dL_law_541 : decode cL_law 541 = .ok (.iaload, 1) := by decide +kernel
theorem dL_law_542 : decode cL_law 542 = .ok (.iload 15, 2) := by decide +kernel
theorem dL_law_544 : decode cL_law 544 = .ok (.if_icmp .ne 22, 3) := by decide +kernel
theorem dL_law_547 : decode cL_law 547 = .ok (.iload 16, 2) := by decide +kernel
theorem dL_law_549 : decode cL_law 549 = .ok (.ifCond .le 19, 3) := by decide +kernel
theorem dL_law_552 : decode cL_law 552 = .ok (.aload_n 1, 1) := by decide +kernel
theorem dL_law_553 : decode cL_law 553 = .ok (.iload 13, 2) := by decide +kernel
theorem dL_law_555 : decode cL_law 555 = .ok (.invokevirtual 121, 3) := by decide +kernel
theorem dL_law_558 : decode cL_law 558 = .ok (.aload 7, 2) := by decide +kernel
theorem dL_law_560 : decode cL_law 560 = .ok (.iload 13, 2) := by decide +kernel
theorem dL_law_562 : decode cL_law 562 = .ok (.iaload, 1) := by decide +kernel
theorem dL_law_563 : decode cL_law 563 = .ok (.if_icmp .eq 5, 3) := by decide +kernel
theorem dL_law_566 : decode cL_law 566 = .ok (.iconst 0, 1) := by decide +kernel
theorem dL_law_567 : decode cL_law 567 = .ok (.ireturn, 1) := by decide +kernel
theorem dL_law_568 : decode cL_law 568 = .ok (.iload 12, 2) := by decide +kernel
theorem dL_law_570 : decode cL_law 570 = .ok (.iload 16, 2) := by decide +kernel
theorem dL_law_572 : decode cL_law 572 = .ok (.ifCond .ne 8, 3) := by decide +kernel
theorem dL_law_575 : decode cL_law 575 = .ok (.iload 15, 2) := by decide +kernel
theorem dL_law_577 : decode cL_law 577 = .ok (.goto 4, 3) := by decide +kernel
theorem dL_law_580 : decode cL_law 580 = .ok (.iconst 0, 1) := by decide +kernel
theorem dL_law_581 : decode cL_law 581 = .ok (.iadd, 1) := by decide +kernel
theorem dL_law_582 : decode cL_law 582 = .ok (.istore 12, 2) := by decide +kernel
theorem dL_law_584 : decode cL_law 584 = .ok (.iinc 13 1, 3) := by decide +kernel
theorem dL_law_587 : decode cL_law 587 = .ok (.goto (-229), 3) := by decide +kernel
theorem dL_law_590 : decode cL_law 590 = .ok (.iload 11, 2) := by decide +kernel
theorem dL_law_592 : decode cL_law 592 = .ok (.iload 12, 2) := by decide +kernel
theorem dL_law_594 : decode cL_law 594 = .ok (.if_icmp .eq 5, 3) := by decide +kernel
theorem dL_law_597 : decode cL_law 597 = .ok (.iconst 0, 1) := by decide +kernel
theorem dL_law_598 : decode cL_law 598 = .ok (.ireturn, 1) := by decide +kernel
theorem dL_law_599 : decode cL_law 599 = .ok (.iconst 0, 1) := by decide +kernel
theorem dL_law_600 : decode cL_law 600 = .ok (.istore 13, 2) := by decide +kernel
theorem dL_law_602 : decode cL_law 602 = .ok (.iload 13, 2) := by decide +kernel
theorem dL_law_604 : decode cL_law 604 = .ok (.aload_n 2, 1) := by decide +kernel
theorem dL_law_605 : decode cL_law 605 = .ok (.getfield 15, 3) := by decide +kernel
theorem dL_law_608 : decode cL_law 608 = .ok (.arraylength, 1) := by decide +kernel
theorem dL_law_609 : decode cL_law 609 = .ok (.if_icmp .ge 333, 3) := by decide +kernel
theorem dL_law_612 : decode cL_law 612 = .ok (.aload_n 1, 1) := by decide +kernel
theorem dL_law_613 : decode cL_law 613 = .ok (.iload 13, 2) := by decide +kernel
theorem dL_law_615 : decode cL_law 615 = .ok (.iconst 1, 1) := by decide +kernel
theorem dL_law_616 : decode cL_law 616 = .ok (.invokevirtual 138, 3) := by decide +kernel
theorem dL_law_619 : decode cL_law 619 = .ok (.istore 14, 2) := by decide +kernel
theorem dL_law_621 : decode cL_law 621 = .ok (.aload_n 1, 1) := by decide +kernel
theorem dL_law_622 : decode cL_law 622 = .ok (.iload 13, 2) := by decide +kernel
theorem dL_law_624 : decode cL_law 624 = .ok (.iconst 2, 1) := by decide +kernel
theorem dL_law_625 : decode cL_law 625 = .ok (.invokevirtual 138, 3) := by decide +kernel
theorem dL_law_628 : decode cL_law 628 = .ok (.istore 15, 2) := by decide +kernel
theorem dL_law_630 : decode cL_law 630 = .ok (.iload 14, 2) := by decide +kernel
theorem dL_law_632 : decode cL_law 632 = .ok (.iload 15, 2) := by decide +kernel
theorem dL_law_634 : decode cL_law 634 = .ok (.iadd, 1) := by decide +kernel
theorem dL_law_635 : decode cL_law 635 = .ok (.bipush 50, 2) := by decide +kernel
theorem dL_law_637 : decode cL_law 637 = .ok (.idiv, 1) := by decide +kernel
theorem dL_law_638 : decode cL_law 638 = .ok (.iload 14, 2) := by decide +kernel
theorem dL_law_640 : decode cL_law 640 = .ok (.iload 15, 2) := by decide +kernel
theorem dL_law_642 : decode cL_law 642 = .ok (.isub, 1) := by decide +kernel
theorem dL_law_643 : decode cL_law 643 = .ok (.invokestatic 141, 3) := by decide +kernel
theorem dL_law_646 : decode cL_law 646 = .ok (.bipush 40, 2) := by decide +kernel
theorem dL_law_648 : decode cL_law 648 = .ok (.idiv, 1) := by decide +kernel
theorem dL_law_649 : decode cL_law 649 = .ok (.iadd, 1) := by decide +kernel
theorem dL_law_650 : decode cL_law 650 = .ok (.istore 16, 2) := by decide +kernel
theorem dL_law_652 : decode cL_law 652 = .ok (.iload 16, 2) := by decide +kernel
theorem dL_law_654 : decode cL_law 654 = .ok (.bipush 20, 2) := by decide +kernel
theorem dL_law_656 : decode cL_law 656 = .ok (.if_icmp .gt 20, 3) := by decide +kernel
theorem dL_law_659 : decode cL_law 659 = .ok (.iload 14, 2) := by decide +kernel
theorem dL_law_661 : decode cL_law 661 = .ok (.iload 15, 2) := by decide +kernel
theorem dL_law_663 : decode cL_law 663 = .ok (.isub, 1) := by decide +kernel
theorem dL_law_664 : decode cL_law 664 = .ok (.invokestatic 141, 3) := by decide +kernel
theorem dL_law_667 : decode cL_law 667 = .ok (.bipush 100, 2) := by decide +kernel
theorem dL_law_669 : decode cL_law 669 = .ok (.if_icmp .gt 7, 3) := by decide +kernel
theorem dL_law_672 : decode cL_law 672 = .ok (.iconst 1, 1) := by decide +kernel
theorem dL_law_673 : decode cL_law 673 = .ok (.goto 4, 3) := by decide +kernel
theorem dL_law_676 : decode cL_law 676 = .ok (.iconst 0, 1) := by decide +kernel
theorem dL_law_677 : decode cL_law 677 = .ok (.istore 17, 2) := by decide +kernel
theorem dL_law_679 : decode cL_law 679 = .ok (.aload_n 1, 1) := by decide +kernel
theorem dL_law_680 : decode cL_law 680 = .ok (.iload 13, 2) := by decide +kernel
theorem dL_law_682 : decode cL_law 682 = .ok (.iconst 3, 1) := by decide +kernel
theorem dL_law_683 : decode cL_law 683 = .ok (.invokevirtual 138, 3) := by decide +kernel
theorem dL_law_686 : decode cL_law 686 = .ok (.iload 14, 2) := by decide +kernel
theorem dL_law_688 : decode cL_law 688 = .ok (.iload 15, 2) := by decide +kernel
theorem dL_law_690 : decode cL_law 690 = .ok (.isub, 1) := by decide +kernel
theorem dL_law_691 : decode cL_law 691 = .ok (.if_icmp .ne 86, 3) := by decide +kernel
theorem dL_law_694 : decode cL_law 694 = .ok (.aload_n 1, 1) := by decide +kernel
theorem dL_law_695 : decode cL_law 695 = .ok (.iload 13, 2) := by decide +kernel
theorem dL_law_697 : decode cL_law 697 = .ok (.iconst 4, 1) := by decide +kernel
theorem dL_law_698 : decode cL_law 698 = .ok (.invokevirtual 138, 3) := by decide +kernel
theorem dL_law_701 : decode cL_law 701 = .ok (.iload 16, 2) := by decide +kernel
theorem dL_law_703 : decode cL_law 703 = .ok (.if_icmp .ne 74, 3) := by decide +kernel
theorem dL_law_706 : decode cL_law 706 = .ok (.aload_n 1, 1) := by decide +kernel
theorem dL_law_707 : decode cL_law 707 = .ok (.iload 13, 2) := by decide +kernel
theorem dL_law_709 : decode cL_law 709 = .ok (.iconst 5, 1) := by decide +kernel
theorem dL_law_710 : decode cL_law 710 = .ok (.invokevirtual 138, 3) := by decide +kernel
theorem dL_law_713 : decode cL_law 713 = .ok (.iload 17, 2) := by decide +kernel
theorem dL_law_715 : decode cL_law 715 = .ok (.ifCond .eq 7, 3) := by decide +kernel
theorem dL_law_718 : decode cL_law 718 = .ok (.iconst 1, 1) := by decide +kernel
theorem dL_law_719 : decode cL_law 719 = .ok (.goto 4, 3) := by decide +kernel
theorem dL_law_722 : decode cL_law 722 = .ok (.iconst 0, 1) := by decide +kernel
theorem dL_law_723 : decode cL_law 723 = .ok (.if_icmp .ne 54, 3) := by decide +kernel
theorem dL_law_726 : decode cL_law 726 = .ok (.aload_n 1, 1) := by decide +kernel
theorem dL_law_727 : decode cL_law 727 = .ok (.iload 13, 2) := by decide +kernel
theorem dL_law_729 : decode cL_law 729 = .ok (.bipush 6, 2) := by decide +kernel
theorem dL_law_731 : decode cL_law 731 = .ok (.invokevirtual 138, 3) := by decide +kernel
theorem dL_law_734 : decode cL_law 734 = .ok (.aload_n 1, 1) := by decide +kernel
theorem dL_law_735 : decode cL_law 735 = .ok (.iload 13, 2) := by decide +kernel
theorem dL_law_737 : decode cL_law 737 = .ok (.iconst 0, 1) := by decide +kernel
theorem dL_law_738 : decode cL_law 738 = .ok (.invokevirtual 138, 3) := by decide +kernel
theorem dL_law_741 : decode cL_law 741 = .ok (.iload 14, 2) := by decide +kernel
theorem dL_law_743 : decode cL_law 743 = .ok (.isub, 1) := by decide +kernel
theorem dL_law_744 : decode cL_law 744 = .ok (.iload 15, 2) := by decide +kernel
theorem dL_law_746 : decode cL_law 746 = .ok (.isub, 1) := by decide +kernel
theorem dL_law_747 : decode cL_law 747 = .ok (.if_icmp .ne 30, 3) := by decide +kernel
theorem dL_law_750 : decode cL_law 750 = .ok (.aload_n 1, 1) := by decide +kernel
theorem dL_law_751 : decode cL_law 751 = .ok (.iload 13, 2) := by decide +kernel
theorem dL_law_753 : decode cL_law 753 = .ok (.bipush 6, 2) := by decide +kernel
theorem dL_law_755 : decode cL_law 755 = .ok (.invokevirtual 138, 3) := by decide +kernel
theorem dL_law_758 : decode cL_law 758 = .ok (.ifCond .lt 19, 3) := by decide +kernel
theorem dL_law_761 : decode cL_law 761 = .ok (.iload 14, 2) := by decide +kernel
theorem dL_law_763 : decode cL_law 763 = .ok (.bipush 10, 2) := by decide +kernel
theorem dL_law_765 : decode cL_law 765 = .ok (.irem, 1) := by decide +kernel
theorem dL_law_766 : decode cL_law 766 = .ok (.ifCond .ne 11, 3) := by decide +kernel
theorem dL_law_769 : decode cL_law 769 = .ok (.iload 15, 2) := by decide +kernel
theorem dL_law_771 : decode cL_law 771 = .ok (.bipush 10, 2) := by decide +kernel
theorem dL_law_773 : decode cL_law 773 = .ok (.irem, 1) := by decide +kernel
theorem dL_law_774 : decode cL_law 774 = .ok (.ifCond .eq 5, 3) := by decide +kernel
theorem dL_law_777 : decode cL_law 777 = .ok (.iconst 0, 1) := by decide +kernel
theorem dL_law_778 : decode cL_law 778 = .ok (.ireturn, 1) := by decide +kernel
theorem dL_law_779 : decode cL_law 779 = .ok (.iconst 0, 1) := by decide +kernel
theorem dL_law_780 : decode cL_law 780 = .ok (.istore 18, 2) := by decide +kernel
theorem dL_law_782 : decode cL_law 782 = .ok (.iload 18, 2) := by decide +kernel
theorem dL_law_784 : decode cL_law 784 = .ok (.iconst 3, 1) := by decide +kernel
theorem dL_law_785 : decode cL_law 785 = .ok (.if_icmp .ge 151, 3) := by decide +kernel
theorem dL_law_788 : decode cL_law 788 = .ok (.aload_n 1, 1) := by decide +kernel
theorem dL_law_789 : decode cL_law 789 = .ok (.iload 13, 2) := by decide +kernel
theorem dL_law_791 : decode cL_law 791 = .ok (.iload 18, 2) := by decide +kernel
theorem dL_law_793 : decode cL_law 793 = .ok (.invokevirtual 144, 3) := by decide +kernel
theorem dL_law_796 : decode cL_law 796 = .ok (.istore 19, 2) := by decide +kernel
theorem dL_law_798 : decode cL_law 798 = .ok (.iload 18, 2) := by decide +kernel
theorem dL_law_800 : decode cL_law 800 = .ok (.ifCond .ne 8, 3) := by decide +kernel
theorem dL_law_803 : decode cL_law 803 = .ok (.bipush 80, 2) := by decide +kernel
theorem dL_law_805 : decode cL_law 805 = .ok (.goto 16, 3) := by decide +kernel
theorem dL_law_808 : decode cL_law 808 = .ok (.iload 18, 2) := by decide +kernel
theorem dL_law_810 : decode cL_law 810 = .ok (.iconst 1, 1) := by decide +kernel
theorem dL_law_811 : decode cL_law 811 = .ok (.if_icmp .ne 8, 3) := by decide +kernel
theorem dL_law_814 : decode cL_law 814 = .ok (.bipush 50, 2) := by decide +kernel
theorem dL_law_816 : decode cL_law 816 = .ok (.goto 5, 3) := by decide +kernel
theorem dL_law_819 : decode cL_law 819 = .ok (.bipush 20, 2) := by decide +kernel
theorem dL_law_821 : decode cL_law 821 = .ok (.istore 20, 2) := by decide +kernel
theorem dL_law_823 : decode cL_law 823 = .ok (.iload 19, 2) := by decide +kernel
theorem dL_law_825 : decode cL_law 825 = .ok (.ifCond .ne 7, 3) := by decide +kernel
theorem dL_law_828 : decode cL_law 828 = .ok (.iconst 1, 1) := by decide +kernel
theorem dL_law_829 : decode cL_law 829 = .ok (.goto 4, 3) := by decide +kernel
theorem dL_law_832 : decode cL_law 832 = .ok (.iconst 0, 1) := by decide +kernel
theorem dL_law_833 : decode cL_law 833 = .ok (.aload_n 1, 1) := by decide +kernel
theorem dL_law_834 : decode cL_law 834 = .ok (.iload 13, 2) := by decide +kernel
theorem dL_law_836 : decode cL_law 836 = .ok (.bipush 6, 2) := by decide +kernel
theorem dL_law_838 : decode cL_law 838 = .ok (.invokevirtual 138, 3) := by decide +kernel
theorem dL_law_841 : decode cL_law 841 = .ok (.iload 20, 2) := by decide +kernel
theorem dL_law_843 : decode cL_law 843 = .ok (.if_icmp .ge 7, 3) := by decide +kernel
theorem dL_law_846 : decode cL_law 846 = .ok (.iconst 1, 1) := by decide +kernel
theorem dL_law_847 : decode cL_law 847 = .ok (.goto 4, 3) := by decide +kernel
theorem dL_law_850 : decode cL_law 850 = .ok (.iconst 0, 1) := by decide +kernel
theorem dL_law_851 : decode cL_law 851 = .ok (.if_icmp .ne 77, 3) := by decide +kernel
theorem dL_law_854 : decode cL_law 854 = .ok (.iload 19, 2) := by decide +kernel
theorem dL_law_856 : decode cL_law 856 = .ok (.iconst 1, 1) := by decide +kernel
theorem dL_law_857 : decode cL_law 857 = .ok (.if_icmp .ne 34, 3) := by decide +kernel
theorem dL_law_860 : decode cL_law 860 = .ok (.iload 14, 2) := by decide +kernel
theorem dL_law_862 : decode cL_law 862 = .ok (.iload 20, 2) := by decide +kernel
theorem dL_law_864 : decode cL_law 864 = .ok (.iadd, 1) := by decide +kernel
theorem dL_law_865 : decode cL_law 865 = .ok (.iload 15, 2) := by decide +kernel
theorem dL_law_867 : decode cL_law 867 = .ok (.isub, 1) := by decide +kernel
theorem dL_law_868 : decode cL_law 868 = .ok (.invokestatic 141, 3) := by decide +kernel
theorem dL_law_871 : decode cL_law 871 = .ok (.bipush 40, 2) := by decide +kernel
theorem dL_law_873 : decode cL_law 873 = .ok (.idiv, 1) := by decide +kernel
theorem dL_law_874 : decode cL_law 874 = .ok (.iload 14, 2) := by decide +kernel
theorem dL_law_876 : decode cL_law 876 = .ok (.iload 20, 2) := by decide +kernel
theorem dL_law_878 : decode cL_law 878 = .ok (.isub, 1) := by decide +kernel
theorem dL_law_879 : decode cL_law 879 = .ok (.iload 15, 2) := by decide +kernel
theorem dL_law_881 : decode cL_law 881 = .ok (.isub, 1) := by decide +kernel
theorem dL_law_882 : decode cL_law 882 = .ok (.invokestatic 141, 3) := by decide +kernel
theorem dL_law_885 : decode cL_law 885 = .ok (.bipush 40, 2) := by decide +kernel
theorem dL_law_887 : decode cL_law 887 = .ok (.idiv, 1) := by decide +kernel
theorem dL_law_888 : decode cL_law 888 = .ok (.if_icmp .gt 40, 3) := by decide +kernel
theorem dL_law_891 : decode cL_law 891 = .ok (.iload 19, 2) := by decide +kernel
theorem dL_law_893 : decode cL_law 893 = .ok (.iconst 2, 1) := by decide +kernel
theorem dL_law_894 : decode cL_law 894 = .ok (.if_icmp .ne 36, 3) := by decide +kernel
theorem dL_law_897 : decode cL_law 897 = .ok (.iload 14, 2) := by decide +kernel
theorem dL_law_899 : decode cL_law 899 = .ok (.iload 20, 2) := by decide +kernel
theorem dL_law_901 : decode cL_law 901 = .ok (.iadd, 1) := by decide +kernel
theorem dL_law_902 : decode cL_law 902 = .ok (.iload 15, 2) := by decide +kernel
theorem dL_law_904 : decode cL_law 904 = .ok (.isub, 1) := by decide +kernel
theorem dL_law_905 : decode cL_law 905 = .ok (.invokestatic 141, 3) := by decide +kernel
theorem dL_law_908 : decode cL_law 908 = .ok (.bipush 40, 2) := by decide +kernel
theorem dL_law_910 : decode cL_law 910 = .ok (.idiv, 1) := by decide +kernel
theorem dL_law_911 : decode cL_law 911 = .ok (.iload 14, 2) := by decide +kernel
theorem dL_law_913 : decode cL_law 913 = .ok (.iload 20, 2) := by decide +kernel
theorem dL_law_915 : decode cL_law 915 = .ok (.isub, 1) := by decide +kernel
theorem dL_law_916 : decode cL_law 916 = .ok (.iload 15, 2) := by decide +kernel
theorem dL_law_918 : decode cL_law 918 = .ok (.isub, 1) := by decide +kernel
theorem dL_law_919 : decode cL_law 919 = .ok (.invokestatic 141, 3) := by decide +kernel
theorem dL_law_922 : decode cL_law 922 = .ok (.bipush 40, 2) := by decide +kernel
theorem dL_law_924 : decode cL_law 924 = .ok (.idiv, 1) := by decide +kernel
theorem dL_law_925 : decode cL_law 925 = .ok (.if_icmp .gt 5, 3) := by decide +kernel
theorem dL_law_928 : decode cL_law 928 = .ok (.iconst 0, 1) := by decide +kernel
theorem dL_law_929 : decode cL_law 929 = .ok (.ireturn, 1) := by decide +kernel
theorem dL_law_930 : decode cL_law 930 = .ok (.iinc 18 1, 3) := by decide +kernel
theorem dL_law_933 : decode cL_law 933 = .ok (.goto (-151), 3) := by decide +kernel
theorem dL_law_936 : decode cL_law 936 = .ok (.iinc 13 1, 3) := by decide +kernel
theorem dL_law_939 : decode cL_law 939 = .ok (.goto (-337), 3) := by decide +kernel
theorem dL_law_942 : decode cL_law 942 = .ok (.iinc 3 1, 3) := by decide +kernel
theorem dL_law_945 : decode cL_law 945 = .ok (.goto (-923), 3) := by decide +kernel
theorem dL_law_948 : decode cL_law 948 = .ok (.aload_n 2, 1) := by decide +kernel
theorem dL_law_949 : decode cL_law 949 = .ok (.aload_n 1, 1) := by decide +kernel
theorem dL_law_950 : decode cL_law 950 = .ok (.invokevirtual 147, 3) := by decide +kernel
theorem dL_law_953 : decode cL_law 953 = .ok (.ireturn, 1) := by decide +kernel
