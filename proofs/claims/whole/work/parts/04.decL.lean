theorem d_Lw_law_0 : decode b_Lw_law 0 = .ok (.new 8, 3) := by decide +kernel
theorem d_Lw_law_3 : decode b_Lw_law 3 = .ok (.dup, 1) := by decide +kernel
theorem d_Lw_law_4 : decode b_Lw_law 4 = .ok (.aload_n 0, 1) := by decide +kernel
theorem d_Lw_law_5 : decode b_Lw_law 5 = .ok (.iconst 0, 1) := by decide +kernel
theorem d_Lw_law_6 : decode b_Lw_law 6 = .ok (.invokestatic 48, 3) := by decide +kernel
theorem d_Lw_law_9 : decode b_Lw_law 9 = .ok (.invokespecial 54, 3) := by decide +kernel
theorem d_Lw_law_12 : decode b_Lw_law 12 = .ok (.astore_n 1, 1) := by decide +kernel
theorem d_Lw_law_13 : decode b_Lw_law 13 = .ok (.new 57, 3) := by decide +kernel
theorem d_Lw_law_16 : decode b_Lw_law 16 = .ok (.dup, 1) := by decide +kernel
theorem d_Lw_law_17 : decode b_Lw_law 17 = .ok (.aload_n 0, 1) := by decide +kernel
theorem d_Lw_law_18 : decode b_Lw_law 18 = .ok (.iconst 0, 1) := by decide +kernel
theorem d_Lw_law_19 : decode b_Lw_law 19 = .ok (.invokestatic 48, 3) := by decide +kernel
theorem d_Lw_law_22 : decode b_Lw_law 22 = .ok (.invokespecial 59, 3) := by decide +kernel
theorem d_Lw_law_25 : decode b_Lw_law 25 = .ok (.astore_n 2, 1) := by decide +kernel
theorem d_Lw_law_26 : decode b_Lw_law 26 = .ok (.iconst 1, 1) := by decide +kernel
theorem d_Lw_law_27 : decode b_Lw_law 27 = .ok (.newarray .long, 2) := by decide +kernel
theorem d_Lw_law_29 : decode b_Lw_law 29 = .ok (.astore_n 3, 1) := by decide +kernel
theorem d_Lw_law_30 : decode b_Lw_law 30 = .ok (.iconst 1, 1) := by decide +kernel
theorem d_Lw_law_31 : decode b_Lw_law 31 = .ok (.istore 4, 2) := by decide +kernel
theorem d_Lw_law_33 : decode b_Lw_law 33 = .ok (.iload 4, 2) := by decide +kernel
theorem d_Lw_law_35 : decode b_Lw_law 35 = .ok (.aload_n 0, 1) := by decide +kernel
theorem d_Lw_law_36 : decode b_Lw_law 36 = .ok (.arraylength, 1) := by decide +kernel
theorem d_Lw_law_37 : decode b_Lw_law 37 = .ok (.iconst 4, 1) := by decide +kernel
theorem d_Lw_law_38 : decode b_Lw_law 38 = .ok (.isub, 1) := by decide +kernel
theorem d_Lw_law_39 : decode b_Lw_law 39 = .ok (.if_icmp .gt 748, 3) := by decide +kernel
theorem d_Lw_law_42 : decode b_Lw_law 42 = .ok (.aload_n 0, 1) := by decide +kernel
theorem d_Lw_law_43 : decode b_Lw_law 43 = .ok (.iload 4, 2) := by decide +kernel
theorem d_Lw_law_45 : decode b_Lw_law 45 = .ok (.iaload, 1) := by decide +kernel
theorem d_Lw_law_46 : decode b_Lw_law 46 = .ok (.bipush 31, 2) := by decide +kernel
theorem d_Lw_law_48 : decode b_Lw_law 48 = .ok (.iand, 1) := by decide +kernel
theorem d_Lw_law_49 : decode b_Lw_law 49 = .ok (.tableswitch 732 0 16 #[83, 110, 121, 165, 209, 220, 276, 289, 302, 315, 390, 446, 526, 539, 607, 620, 676], 83) := by decide +kernel
theorem d_Lw_law_132 : decode b_Lw_law 132 = .ok (.aload_n 1, 1) := by decide +kernel
theorem d_Lw_law_133 : decode b_Lw_law 133 = .ok (.aload_n 0, 1) := by decide +kernel
theorem d_Lw_law_134 : decode b_Lw_law 134 = .ok (.iload 4, 2) := by decide +kernel
theorem d_Lw_law_136 : decode b_Lw_law 136 = .ok (.iconst 1, 1) := by decide +kernel
theorem d_Lw_law_137 : decode b_Lw_law 137 = .ok (.iadd, 1) := by decide +kernel
theorem d_Lw_law_138 : decode b_Lw_law 138 = .ok (.iaload, 1) := by decide +kernel
theorem d_Lw_law_139 : decode b_Lw_law 139 = .ok (.i2c, 1) := by decide +kernel
theorem d_Lw_law_140 : decode b_Lw_law 140 = .ok (.invokevirtual 60, 3) := by decide +kernel
theorem d_Lw_law_143 : decode b_Lw_law 143 = .ok (.aload_n 2, 1) := by decide +kernel
theorem d_Lw_law_144 : decode b_Lw_law 144 = .ok (.aload_n 0, 1) := by decide +kernel
theorem d_Lw_law_145 : decode b_Lw_law 145 = .ok (.iload 4, 2) := by decide +kernel
theorem d_Lw_law_147 : decode b_Lw_law 147 = .ok (.iconst 1, 1) := by decide +kernel
theorem d_Lw_law_148 : decode b_Lw_law 148 = .ok (.iadd, 1) := by decide +kernel
theorem d_Lw_law_149 : decode b_Lw_law 149 = .ok (.iaload, 1) := by decide +kernel
theorem d_Lw_law_150 : decode b_Lw_law 150 = .ok (.i2c, 1) := by decide +kernel
theorem d_Lw_law_151 : decode b_Lw_law 151 = .ok (.invokevirtual 64, 3) := by decide +kernel
theorem d_Lw_law_154 : decode b_Lw_law 154 = .ok (.if_icmp .eq 627, 3) := by decide +kernel
theorem d_Lw_law_157 : decode b_Lw_law 157 = .ok (.iconst 0, 1) := by decide +kernel
theorem d_Lw_law_158 : decode b_Lw_law 158 = .ok (.ireturn, 1) := by decide +kernel
theorem d_Lw_law_159 : decode b_Lw_law 159 = .ok (.aload_n 1, 1) := by decide +kernel
theorem d_Lw_law_160 : decode b_Lw_law 160 = .ok (.invokevirtual 65, 3) := by decide +kernel
theorem d_Lw_law_163 : decode b_Lw_law 163 = .ok (.aload_n 2, 1) := by decide +kernel
theorem d_Lw_law_164 : decode b_Lw_law 164 = .ok (.invokevirtual 68, 3) := by decide +kernel
theorem d_Lw_law_167 : decode b_Lw_law 167 = .ok (.goto 614, 3) := by decide +kernel
theorem d_Lw_law_170 : decode b_Lw_law 170 = .ok (.aload_n 1, 1) := by decide +kernel
theorem d_Lw_law_171 : decode b_Lw_law 171 = .ok (.aload_n 3, 1) := by decide +kernel
theorem d_Lw_law_172 : decode b_Lw_law 172 = .ok (.invokestatic 69, 3) := by decide +kernel
theorem d_Lw_law_175 : decode b_Lw_law 175 = .ok (.istore 5, 2) := by decide +kernel
theorem d_Lw_law_177 : decode b_Lw_law 177 = .ok (.aload_n 2, 1) := by decide +kernel
theorem d_Lw_law_178 : decode b_Lw_law 178 = .ok (.invokevirtual 72, 3) := by decide +kernel
theorem d_Lw_law_181 : decode b_Lw_law 181 = .ok (.istore 6, 2) := by decide +kernel
theorem d_Lw_law_183 : decode b_Lw_law 183 = .ok (.aload_n 2, 1) := by decide +kernel
theorem d_Lw_law_184 : decode b_Lw_law 184 = .ok (.invokevirtual 73, 3) := by decide +kernel
theorem d_Lw_law_187 : decode b_Lw_law 187 = .ok (.iload 5, 2) := by decide +kernel
theorem d_Lw_law_189 : decode b_Lw_law 189 = .ok (.if_icmp .eq 5, 3) := by decide +kernel
theorem d_Lw_law_192 : decode b_Lw_law 192 = .ok (.iconst 0, 1) := by decide +kernel
theorem d_Lw_law_193 : decode b_Lw_law 193 = .ok (.ireturn, 1) := by decide +kernel
theorem d_Lw_law_194 : decode b_Lw_law 194 = .ok (.iload 5, 2) := by decide +kernel
theorem d_Lw_law_196 : decode b_Lw_law 196 = .ok (.ifCond .ne 15, 3) := by decide +kernel
theorem d_Lw_law_199 : decode b_Lw_law 199 = .ok (.aload_n 3, 1) := by decide +kernel
theorem d_Lw_law_200 : decode b_Lw_law 200 = .ok (.iconst 0, 1) := by decide +kernel
theorem d_Lw_law_201 : decode b_Lw_law 201 = .ok (.laload, 1) := by decide +kernel
theorem d_Lw_law_202 : decode b_Lw_law 202 = .ok (.iload 6, 2) := by decide +kernel
theorem d_Lw_law_204 : decode b_Lw_law 204 = .ok (.i2l, 1) := by decide +kernel
theorem d_Lw_law_205 : decode b_Lw_law 205 = .ok (.lcmp, 1) := by decide +kernel
theorem d_Lw_law_206 : decode b_Lw_law 206 = .ok (.ifCond .eq 5, 3) := by decide +kernel
theorem d_Lw_law_209 : decode b_Lw_law 209 = .ok (.iconst 0, 1) := by decide +kernel
theorem d_Lw_law_210 : decode b_Lw_law 210 = .ok (.ireturn, 1) := by decide +kernel
theorem d_Lw_law_211 : decode b_Lw_law 211 = .ok (.goto 570, 3) := by decide +kernel
theorem d_Lw_law_214 : decode b_Lw_law 214 = .ok (.aload_n 1, 1) := by decide +kernel
theorem d_Lw_law_215 : decode b_Lw_law 215 = .ok (.aload_n 3, 1) := by decide +kernel
theorem d_Lw_law_216 : decode b_Lw_law 216 = .ok (.invokestatic 76, 3) := by decide +kernel
theorem d_Lw_law_219 : decode b_Lw_law 219 = .ok (.istore 5, 2) := by decide +kernel
theorem d_Lw_law_221 : decode b_Lw_law 221 = .ok (.aload_n 2, 1) := by decide +kernel
theorem d_Lw_law_222 : decode b_Lw_law 222 = .ok (.invokevirtual 78, 3) := by decide +kernel
theorem d_Lw_law_225 : decode b_Lw_law 225 = .ok (.istore 6, 2) := by decide +kernel
theorem d_Lw_law_227 : decode b_Lw_law 227 = .ok (.aload_n 2, 1) := by decide +kernel
theorem d_Lw_law_228 : decode b_Lw_law 228 = .ok (.invokevirtual 73, 3) := by decide +kernel
theorem d_Lw_law_231 : decode b_Lw_law 231 = .ok (.iload 5, 2) := by decide +kernel
theorem d_Lw_law_233 : decode b_Lw_law 233 = .ok (.if_icmp .eq 5, 3) := by decide +kernel
theorem d_Lw_law_236 : decode b_Lw_law 236 = .ok (.iconst 0, 1) := by decide +kernel
theorem d_Lw_law_237 : decode b_Lw_law 237 = .ok (.ireturn, 1) := by decide +kernel
theorem d_Lw_law_238 : decode b_Lw_law 238 = .ok (.iload 5, 2) := by decide +kernel
theorem d_Lw_law_240 : decode b_Lw_law 240 = .ok (.ifCond .ne 15, 3) := by decide +kernel
theorem d_Lw_law_243 : decode b_Lw_law 243 = .ok (.aload_n 3, 1) := by decide +kernel
theorem d_Lw_law_244 : decode b_Lw_law 244 = .ok (.iconst 0, 1) := by decide +kernel
theorem d_Lw_law_245 : decode b_Lw_law 245 = .ok (.laload, 1) := by decide +kernel
theorem d_Lw_law_246 : decode b_Lw_law 246 = .ok (.iload 6, 2) := by decide +kernel
theorem d_Lw_law_248 : decode b_Lw_law 248 = .ok (.i2l, 1) := by decide +kernel
theorem d_Lw_law_249 : decode b_Lw_law 249 = .ok (.lcmp, 1) := by decide +kernel
theorem d_Lw_law_250 : decode b_Lw_law 250 = .ok (.ifCond .eq 5, 3) := by decide +kernel
theorem d_Lw_law_253 : decode b_Lw_law 253 = .ok (.iconst 0, 1) := by decide +kernel
theorem d_Lw_law_254 : decode b_Lw_law 254 = .ok (.ireturn, 1) := by decide +kernel
theorem d_Lw_law_255 : decode b_Lw_law 255 = .ok (.goto 526, 3) := by decide +kernel
theorem d_Lw_law_258 : decode b_Lw_law 258 = .ok (.aload_n 1, 1) := by decide +kernel
theorem d_Lw_law_259 : decode b_Lw_law 259 = .ok (.invokevirtual 79, 3) := by decide +kernel
theorem d_Lw_law_262 : decode b_Lw_law 262 = .ok (.aload_n 2, 1) := by decide +kernel
theorem d_Lw_law_263 : decode b_Lw_law 263 = .ok (.invokevirtual 82, 3) := by decide +kernel
theorem d_Lw_law_266 : decode b_Lw_law 266 = .ok (.goto 515, 3) := by decide +kernel
theorem d_Lw_law_269 : decode b_Lw_law 269 = .ok (.aload_n 1, 1) := by decide +kernel
theorem d_Lw_law_270 : decode b_Lw_law 270 = .ok (.aload_n 0, 1) := by decide +kernel
theorem d_Lw_law_271 : decode b_Lw_law 271 = .ok (.iload 4, 2) := by decide +kernel
theorem d_Lw_law_273 : decode b_Lw_law 273 = .ok (.iconst 1, 1) := by decide +kernel
theorem d_Lw_law_274 : decode b_Lw_law 274 = .ok (.iadd, 1) := by decide +kernel
theorem d_Lw_law_275 : decode b_Lw_law 275 = .ok (.iaload, 1) := by decide +kernel
theorem d_Lw_law_276 : decode b_Lw_law 276 = .ok (.aload_n 3, 1) := by decide +kernel
theorem d_Lw_law_277 : decode b_Lw_law 277 = .ok (.invokestatic 83, 3) := by decide +kernel
theorem d_Lw_law_280 : decode b_Lw_law 280 = .ok (.istore 5, 2) := by decide +kernel
theorem d_Lw_law_282 : decode b_Lw_law 282 = .ok (.aload_n 2, 1) := by decide +kernel
theorem d_Lw_law_283 : decode b_Lw_law 283 = .ok (.aload_n 0, 1) := by decide +kernel
theorem d_Lw_law_284 : decode b_Lw_law 284 = .ok (.iload 4, 2) := by decide +kernel
theorem d_Lw_law_286 : decode b_Lw_law 286 = .ok (.iconst 1, 1) := by decide +kernel
theorem d_Lw_law_287 : decode b_Lw_law 287 = .ok (.iadd, 1) := by decide +kernel
theorem d_Lw_law_288 : decode b_Lw_law 288 = .ok (.iaload, 1) := by decide +kernel
theorem d_Lw_law_289 : decode b_Lw_law 289 = .ok (.invokevirtual 86, 3) := by decide +kernel
theorem d_Lw_law_292 : decode b_Lw_law 292 = .ok (.istore 6, 2) := by decide +kernel
theorem d_Lw_law_294 : decode b_Lw_law 294 = .ok (.aload_n 2, 1) := by decide +kernel
theorem d_Lw_law_295 : decode b_Lw_law 295 = .ok (.invokevirtual 73, 3) := by decide +kernel
theorem d_Lw_law_298 : decode b_Lw_law 298 = .ok (.iload 5, 2) := by decide +kernel
theorem d_Lw_law_300 : decode b_Lw_law 300 = .ok (.if_icmp .eq 5, 3) := by decide +kernel
theorem d_Lw_law_303 : decode b_Lw_law 303 = .ok (.iconst 0, 1) := by decide +kernel
theorem d_Lw_law_304 : decode b_Lw_law 304 = .ok (.ireturn, 1) := by decide +kernel
theorem d_Lw_law_305 : decode b_Lw_law 305 = .ok (.iload 5, 2) := by decide +kernel
theorem d_Lw_law_307 : decode b_Lw_law 307 = .ok (.ifCond .ne 15, 3) := by decide +kernel
theorem d_Lw_law_310 : decode b_Lw_law 310 = .ok (.aload_n 3, 1) := by decide +kernel
theorem d_Lw_law_311 : decode b_Lw_law 311 = .ok (.iconst 0, 1) := by decide +kernel
theorem d_Lw_law_312 : decode b_Lw_law 312 = .ok (.laload, 1) := by decide +kernel
theorem d_Lw_law_313 : decode b_Lw_law 313 = .ok (.iload 6, 2) := by decide +kernel
theorem d_Lw_law_315 : decode b_Lw_law 315 = .ok (.i2l, 1) := by decide +kernel
theorem d_Lw_law_316 : decode b_Lw_law 316 = .ok (.lcmp, 1) := by decide +kernel
theorem d_Lw_law_317 : decode b_Lw_law 317 = .ok (.ifCond .eq 5, 3) := by decide +kernel
theorem d_Lw_law_320 : decode b_Lw_law 320 = .ok (.iconst 0, 1) := by decide +kernel
theorem d_Lw_law_321 : decode b_Lw_law 321 = .ok (.ireturn, 1) := by decide +kernel
theorem d_Lw_law_322 : decode b_Lw_law 322 = .ok (.goto 459, 3) := by decide +kernel
theorem d_Lw_law_325 : decode b_Lw_law 325 = .ok (.aload_n 1, 1) := by decide +kernel
theorem d_Lw_law_326 : decode b_Lw_law 326 = .ok (.invokevirtual 87, 3) := by decide +kernel
theorem d_Lw_law_329 : decode b_Lw_law 329 = .ok (.aload_n 2, 1) := by decide +kernel
theorem d_Lw_law_330 : decode b_Lw_law 330 = .ok (.invokevirtual 90, 3) := by decide +kernel
theorem d_Lw_law_333 : decode b_Lw_law 333 = .ok (.if_icmp .eq 448, 3) := by decide +kernel
theorem d_Lw_law_336 : decode b_Lw_law 336 = .ok (.iconst 0, 1) := by decide +kernel
theorem d_Lw_law_337 : decode b_Lw_law 337 = .ok (.ireturn, 1) := by decide +kernel
theorem d_Lw_law_338 : decode b_Lw_law 338 = .ok (.aload_n 1, 1) := by decide +kernel
theorem d_Lw_law_339 : decode b_Lw_law 339 = .ok (.invokevirtual 91, 3) := by decide +kernel
theorem d_Lw_law_342 : decode b_Lw_law 342 = .ok (.aload_n 2, 1) := by decide +kernel
theorem d_Lw_law_343 : decode b_Lw_law 343 = .ok (.invokevirtual 94, 3) := by decide +kernel
theorem d_Lw_law_346 : decode b_Lw_law 346 = .ok (.if_icmp .eq 435, 3) := by decide +kernel
theorem d_Lw_law_349 : decode b_Lw_law 349 = .ok (.iconst 0, 1) := by decide +kernel
theorem d_Lw_law_350 : decode b_Lw_law 350 = .ok (.ireturn, 1) := by decide +kernel
theorem d_Lw_law_351 : decode b_Lw_law 351 = .ok (.aload_n 1, 1) := by decide +kernel
theorem d_Lw_law_352 : decode b_Lw_law 352 = .ok (.invokevirtual 95, 3) := by decide +kernel
theorem d_Lw_law_355 : decode b_Lw_law 355 = .ok (.aload_n 2, 1) := by decide +kernel
theorem d_Lw_law_356 : decode b_Lw_law 356 = .ok (.invokevirtual 98, 3) := by decide +kernel
theorem d_Lw_law_359 : decode b_Lw_law 359 = .ok (.if_icmp .eq 422, 3) := by decide +kernel
theorem d_Lw_law_362 : decode b_Lw_law 362 = .ok (.iconst 0, 1) := by decide +kernel
theorem d_Lw_law_363 : decode b_Lw_law 363 = .ok (.ireturn, 1) := by decide +kernel
theorem d_Lw_law_364 : decode b_Lw_law 364 = .ok (.aload_n 1, 1) := by decide +kernel
theorem d_Lw_law_365 : decode b_Lw_law 365 = .ok (.aload_n 0, 1) := by decide +kernel
theorem d_Lw_law_366 : decode b_Lw_law 366 = .ok (.iload 4, 2) := by decide +kernel
theorem d_Lw_law_368 : decode b_Lw_law 368 = .ok (.iconst 1, 1) := by decide +kernel
theorem d_Lw_law_369 : decode b_Lw_law 369 = .ok (.iadd, 1) := by decide +kernel
theorem d_Lw_law_370 : decode b_Lw_law 370 = .ok (.iaload, 1) := by decide +kernel
theorem d_Lw_law_371 : decode b_Lw_law 371 = .ok (.aload_n 0, 1) := by decide +kernel
theorem d_Lw_law_372 : decode b_Lw_law 372 = .ok (.iload 4, 2) := by decide +kernel
theorem d_Lw_law_374 : decode b_Lw_law 374 = .ok (.iconst 2, 1) := by decide +kernel
theorem d_Lw_law_375 : decode b_Lw_law 375 = .ok (.iadd, 1) := by decide +kernel
theorem d_Lw_law_376 : decode b_Lw_law 376 = .ok (.iaload, 1) := by decide +kernel
theorem d_Lw_law_377 : decode b_Lw_law 377 = .ok (.aload_n 3, 1) := by decide +kernel
theorem d_Lw_law_378 : decode b_Lw_law 378 = .ok (.invokestatic 99, 3) := by decide +kernel
theorem d_Lw_law_381 : decode b_Lw_law 381 = .ok (.istore 5, 2) := by decide +kernel
theorem d_Lw_law_383 : decode b_Lw_law 383 = .ok (.aload_n 2, 1) := by decide +kernel
theorem d_Lw_law_384 : decode b_Lw_law 384 = .ok (.aload_n 0, 1) := by decide +kernel
theorem d_Lw_law_385 : decode b_Lw_law 385 = .ok (.iload 4, 2) := by decide +kernel
theorem d_Lw_law_387 : decode b_Lw_law 387 = .ok (.iconst 1, 1) := by decide +kernel
theorem d_Lw_law_388 : decode b_Lw_law 388 = .ok (.iadd, 1) := by decide +kernel
theorem d_Lw_law_389 : decode b_Lw_law 389 = .ok (.iaload, 1) := by decide +kernel
theorem d_Lw_law_390 : decode b_Lw_law 390 = .ok (.aload_n 0, 1) := by decide +kernel
theorem d_Lw_law_391 : decode b_Lw_law 391 = .ok (.iload 4, 2) := by decide +kernel
theorem d_Lw_law_393 : decode b_Lw_law 393 = .ok (.iconst 2, 1) := by decide +kernel
theorem d_Lw_law_394 : decode b_Lw_law 394 = .ok (.iadd, 1) := by decide +kernel
theorem d_Lw_law_395 : decode b_Lw_law 395 = .ok (.iaload, 1) := by decide +kernel
theorem d_Lw_law_396 : decode b_Lw_law 396 = .ok (.invokevirtual 102, 3) := by decide +kernel
theorem d_Lw_law_399 : decode b_Lw_law 399 = .ok (.istore 6, 2) := by decide +kernel
theorem d_Lw_law_401 : decode b_Lw_law 401 = .ok (.aload_n 2, 1) := by decide +kernel
theorem d_Lw_law_402 : decode b_Lw_law 402 = .ok (.invokevirtual 73, 3) := by decide +kernel
theorem d_Lw_law_405 : decode b_Lw_law 405 = .ok (.iload 5, 2) := by decide +kernel
theorem d_Lw_law_407 : decode b_Lw_law 407 = .ok (.if_icmp .eq 5, 3) := by decide +kernel
theorem d_Lw_law_410 : decode b_Lw_law 410 = .ok (.iconst 0, 1) := by decide +kernel
theorem d_Lw_law_411 : decode b_Lw_law 411 = .ok (.ireturn, 1) := by decide +kernel
theorem d_Lw_law_412 : decode b_Lw_law 412 = .ok (.iload 5, 2) := by decide +kernel
theorem d_Lw_law_414 : decode b_Lw_law 414 = .ok (.ifCond .ne 22, 3) := by decide +kernel
theorem d_Lw_law_417 : decode b_Lw_law 417 = .ok (.aload_n 3, 1) := by decide +kernel
theorem d_Lw_law_418 : decode b_Lw_law 418 = .ok (.iconst 0, 1) := by decide +kernel
theorem d_Lw_law_419 : decode b_Lw_law 419 = .ok (.laload, 1) := by decide +kernel
theorem d_Lw_law_420 : decode b_Lw_law 420 = .ok (.iload 6, 2) := by decide +kernel
theorem d_Lw_law_422 : decode b_Lw_law 422 = .ok (.ifCond .eq 7, 3) := by decide +kernel
theorem d_Lw_law_425 : decode b_Lw_law 425 = .ok (.lconst 1, 1) := by decide +kernel
theorem d_Lw_law_426 : decode b_Lw_law 426 = .ok (.goto 4, 3) := by decide +kernel
theorem d_Lw_law_429 : decode b_Lw_law 429 = .ok (.lconst 0, 1) := by decide +kernel
theorem d_Lw_law_430 : decode b_Lw_law 430 = .ok (.lcmp, 1) := by decide +kernel
theorem d_Lw_law_431 : decode b_Lw_law 431 = .ok (.ifCond .eq 5, 3) := by decide +kernel
theorem d_Lw_law_434 : decode b_Lw_law 434 = .ok (.iconst 0, 1) := by decide +kernel
theorem d_Lw_law_435 : decode b_Lw_law 435 = .ok (.ireturn, 1) := by decide +kernel
theorem d_Lw_law_436 : decode b_Lw_law 436 = .ok (.goto 345, 3) := by decide +kernel
theorem d_Lw_law_439 : decode b_Lw_law 439 = .ok (.aload_n 1, 1) := by decide +kernel
theorem d_Lw_law_440 : decode b_Lw_law 440 = .ok (.aload_n 0, 1) := by decide +kernel
theorem d_Lw_law_441 : decode b_Lw_law 441 = .ok (.iload 4, 2) := by decide +kernel
theorem d_Lw_law_443 : decode b_Lw_law 443 = .ok (.iconst 1, 1) := by decide +kernel
theorem d_Lw_law_444 : decode b_Lw_law 444 = .ok (.iadd, 1) := by decide +kernel
theorem d_Lw_law_445 : decode b_Lw_law 445 = .ok (.iaload, 1) := by decide +kernel
theorem d_Lw_law_446 : decode b_Lw_law 446 = .ok (.aload_n 3, 1) := by decide +kernel
theorem d_Lw_law_447 : decode b_Lw_law 447 = .ok (.invokestatic 103, 3) := by decide +kernel
theorem d_Lw_law_450 : decode b_Lw_law 450 = .ok (.istore 5, 2) := by decide +kernel
theorem d_Lw_law_452 : decode b_Lw_law 452 = .ok (.aload_n 2, 1) := by decide +kernel
theorem d_Lw_law_453 : decode b_Lw_law 453 = .ok (.aload_n 0, 1) := by decide +kernel
theorem d_Lw_law_454 : decode b_Lw_law 454 = .ok (.iload 4, 2) := by decide +kernel
theorem d_Lw_law_456 : decode b_Lw_law 456 = .ok (.iconst 1, 1) := by decide +kernel
theorem d_Lw_law_457 : decode b_Lw_law 457 = .ok (.iadd, 1) := by decide +kernel
theorem d_Lw_law_458 : decode b_Lw_law 458 = .ok (.iaload, 1) := by decide +kernel
theorem d_Lw_law_459 : decode b_Lw_law 459 = .ok (.invokevirtual 105, 3) := by decide +kernel
theorem d_Lw_law_462 : decode b_Lw_law 462 = .ok (.istore 6, 2) := by decide +kernel
theorem d_Lw_law_464 : decode b_Lw_law 464 = .ok (.aload_n 2, 1) := by decide +kernel
theorem d_Lw_law_465 : decode b_Lw_law 465 = .ok (.invokevirtual 73, 3) := by decide +kernel
theorem d_Lw_law_468 : decode b_Lw_law 468 = .ok (.iload 5, 2) := by decide +kernel
theorem d_Lw_law_470 : decode b_Lw_law 470 = .ok (.if_icmp .eq 5, 3) := by decide +kernel
theorem d_Lw_law_473 : decode b_Lw_law 473 = .ok (.iconst 0, 1) := by decide +kernel
theorem d_Lw_law_474 : decode b_Lw_law 474 = .ok (.ireturn, 1) := by decide +kernel
theorem d_Lw_law_475 : decode b_Lw_law 475 = .ok (.iload 5, 2) := by decide +kernel
theorem d_Lw_law_477 : decode b_Lw_law 477 = .ok (.ifCond .ne 15, 3) := by decide +kernel
theorem d_Lw_law_480 : decode b_Lw_law 480 = .ok (.aload_n 3, 1) := by decide +kernel
theorem d_Lw_law_481 : decode b_Lw_law 481 = .ok (.iconst 0, 1) := by decide +kernel
theorem d_Lw_law_482 : decode b_Lw_law 482 = .ok (.laload, 1) := by decide +kernel
theorem d_Lw_law_483 : decode b_Lw_law 483 = .ok (.iload 6, 2) := by decide +kernel
theorem d_Lw_law_485 : decode b_Lw_law 485 = .ok (.i2l, 1) := by decide +kernel
theorem d_Lw_law_486 : decode b_Lw_law 486 = .ok (.lcmp, 1) := by decide +kernel
theorem d_Lw_law_487 : decode b_Lw_law 487 = .ok (.ifCond .eq 5, 3) := by decide +kernel
theorem d_Lw_law_490 : decode b_Lw_law 490 = .ok (.iconst 0, 1) := by decide +kernel
theorem d_Lw_law_491 : decode b_Lw_law 491 = .ok (.ireturn, 1) := by decide +kernel
theorem d_Lw_law_492 : decode b_Lw_law 492 = .ok (.goto 289, 3) := by decide +kernel
theorem d_Lw_law_495 : decode b_Lw_law 495 = .ok (.aload_n 1, 1) := by decide +kernel
theorem d_Lw_law_496 : decode b_Lw_law 496 = .ok (.aload_n 0, 1) := by decide +kernel
theorem d_Lw_law_497 : decode b_Lw_law 497 = .ok (.iload 4, 2) := by decide +kernel
theorem d_Lw_law_499 : decode b_Lw_law 499 = .ok (.iconst 1, 1) := by decide +kernel
theorem d_Lw_law_500 : decode b_Lw_law 500 = .ok (.iadd, 1) := by decide +kernel
theorem d_Lw_law_501 : decode b_Lw_law 501 = .ok (.iaload, 1) := by decide +kernel
theorem d_Lw_law_502 : decode b_Lw_law 502 = .ok (.aload_n 0, 1) := by decide +kernel
theorem d_Lw_law_503 : decode b_Lw_law 503 = .ok (.iload 4, 2) := by decide +kernel
theorem d_Lw_law_505 : decode b_Lw_law 505 = .ok (.iconst 2, 1) := by decide +kernel
theorem d_Lw_law_506 : decode b_Lw_law 506 = .ok (.iadd, 1) := by decide +kernel
theorem d_Lw_law_507 : decode b_Lw_law 507 = .ok (.iaload, 1) := by decide +kernel
theorem d_Lw_law_508 : decode b_Lw_law 508 = .ok (.aload_n 0, 1) := by decide +kernel
theorem d_Lw_law_509 : decode b_Lw_law 509 = .ok (.iload 4, 2) := by decide +kernel
theorem d_Lw_law_511 : decode b_Lw_law 511 = .ok (.iconst 3, 1) := by decide +kernel
theorem d_Lw_law_512 : decode b_Lw_law 512 = .ok (.iadd, 1) := by decide +kernel
theorem d_Lw_law_513 : decode b_Lw_law 513 = .ok (.iaload, 1) := by decide +kernel
theorem d_Lw_law_514 : decode b_Lw_law 514 = .ok (.aload_n 3, 1) := by decide +kernel
theorem d_Lw_law_515 : decode b_Lw_law 515 = .ok (.invokestatic 106, 3) := by decide +kernel
theorem d_Lw_law_518 : decode b_Lw_law 518 = .ok (.istore 5, 2) := by decide +kernel
theorem d_Lw_law_520 : decode b_Lw_law 520 = .ok (.aload_n 2, 1) := by decide +kernel
theorem d_Lw_law_521 : decode b_Lw_law 521 = .ok (.aload_n 0, 1) := by decide +kernel
theorem d_Lw_law_522 : decode b_Lw_law 522 = .ok (.iload 4, 2) := by decide +kernel
theorem d_Lw_law_524 : decode b_Lw_law 524 = .ok (.iconst 1, 1) := by decide +kernel
theorem d_Lw_law_525 : decode b_Lw_law 525 = .ok (.iadd, 1) := by decide +kernel
theorem d_Lw_law_526 : decode b_Lw_law 526 = .ok (.iaload, 1) := by decide +kernel
theorem d_Lw_law_527 : decode b_Lw_law 527 = .ok (.aload_n 0, 1) := by decide +kernel
theorem d_Lw_law_528 : decode b_Lw_law 528 = .ok (.iload 4, 2) := by decide +kernel
theorem d_Lw_law_530 : decode b_Lw_law 530 = .ok (.iconst 2, 1) := by decide +kernel
theorem d_Lw_law_531 : decode b_Lw_law 531 = .ok (.iadd, 1) := by decide +kernel
theorem d_Lw_law_532 : decode b_Lw_law 532 = .ok (.iaload, 1) := by decide +kernel
theorem d_Lw_law_533 : decode b_Lw_law 533 = .ok (.aload_n 0, 1) := by decide +kernel
theorem d_Lw_law_534 : decode b_Lw_law 534 = .ok (.iload 4, 2) := by decide +kernel
theorem d_Lw_law_536 : decode b_Lw_law 536 = .ok (.iconst 3, 1) := by decide +kernel
theorem d_Lw_law_537 : decode b_Lw_law 537 = .ok (.iadd, 1) := by decide +kernel
theorem d_Lw_law_538 : decode b_Lw_law 538 = .ok (.iaload, 1) := by decide +kernel
theorem d_Lw_law_539 : decode b_Lw_law 539 = .ok (.invokevirtual 109, 3) := by decide +kernel
theorem d_Lw_law_542 : decode b_Lw_law 542 = .ok (.istore 6, 2) := by decide +kernel
theorem d_Lw_law_544 : decode b_Lw_law 544 = .ok (.aload_n 2, 1) := by decide +kernel
theorem d_Lw_law_545 : decode b_Lw_law 545 = .ok (.invokevirtual 73, 3) := by decide +kernel
theorem d_Lw_law_548 : decode b_Lw_law 548 = .ok (.iload 5, 2) := by decide +kernel
theorem d_Lw_law_550 : decode b_Lw_law 550 = .ok (.if_icmp .eq 5, 3) := by decide +kernel
theorem d_Lw_law_553 : decode b_Lw_law 553 = .ok (.iconst 0, 1) := by decide +kernel
theorem d_Lw_law_554 : decode b_Lw_law 554 = .ok (.ireturn, 1) := by decide +kernel
theorem d_Lw_law_555 : decode b_Lw_law 555 = .ok (.iload 5, 2) := by decide +kernel
theorem d_Lw_law_557 : decode b_Lw_law 557 = .ok (.ifCond .ne 15, 3) := by decide +kernel
theorem d_Lw_law_560 : decode b_Lw_law 560 = .ok (.aload_n 3, 1) := by decide +kernel
theorem d_Lw_law_561 : decode b_Lw_law 561 = .ok (.iconst 0, 1) := by decide +kernel
theorem d_Lw_law_562 : decode b_Lw_law 562 = .ok (.laload, 1) := by decide +kernel
theorem d_Lw_law_563 : decode b_Lw_law 563 = .ok (.iload 6, 2) := by decide +kernel
theorem d_Lw_law_565 : decode b_Lw_law 565 = .ok (.i2l, 1) := by decide +kernel
theorem d_Lw_law_566 : decode b_Lw_law 566 = .ok (.lcmp, 1) := by decide +kernel
theorem d_Lw_law_567 : decode b_Lw_law 567 = .ok (.ifCond .eq 5, 3) := by decide +kernel
theorem d_Lw_law_570 : decode b_Lw_law 570 = .ok (.iconst 0, 1) := by decide +kernel
theorem d_Lw_law_571 : decode b_Lw_law 571 = .ok (.ireturn, 1) := by decide +kernel
theorem d_Lw_law_572 : decode b_Lw_law 572 = .ok (.goto 209, 3) := by decide +kernel
theorem d_Lw_law_575 : decode b_Lw_law 575 = .ok (.aload_n 1, 1) := by decide +kernel
theorem d_Lw_law_576 : decode b_Lw_law 576 = .ok (.invokevirtual 110, 3) := by decide +kernel
theorem d_Lw_law_579 : decode b_Lw_law 579 = .ok (.aload_n 2, 1) := by decide +kernel
theorem d_Lw_law_580 : decode b_Lw_law 580 = .ok (.invokevirtual 113, 3) := by decide +kernel
theorem d_Lw_law_583 : decode b_Lw_law 583 = .ok (.if_icmp .eq 198, 3) := by decide +kernel
theorem d_Lw_law_586 : decode b_Lw_law 586 = .ok (.iconst 0, 1) := by decide +kernel
theorem d_Lw_law_587 : decode b_Lw_law 587 = .ok (.ireturn, 1) := by decide +kernel
theorem d_Lw_law_588 : decode b_Lw_law 588 = .ok (.aload_n 1, 1) := by decide +kernel
theorem d_Lw_law_589 : decode b_Lw_law 589 = .ok (.aload_n 0, 1) := by decide +kernel
theorem d_Lw_law_590 : decode b_Lw_law 590 = .ok (.iload 4, 2) := by decide +kernel
theorem d_Lw_law_592 : decode b_Lw_law 592 = .ok (.iconst 1, 1) := by decide +kernel
theorem d_Lw_law_593 : decode b_Lw_law 593 = .ok (.iadd, 1) := by decide +kernel
theorem d_Lw_law_594 : decode b_Lw_law 594 = .ok (.iaload, 1) := by decide +kernel
theorem d_Lw_law_595 : decode b_Lw_law 595 = .ok (.aload_n 0, 1) := by decide +kernel
theorem d_Lw_law_596 : decode b_Lw_law 596 = .ok (.iload 4, 2) := by decide +kernel
theorem d_Lw_law_598 : decode b_Lw_law 598 = .ok (.iconst 2, 1) := by decide +kernel
theorem d_Lw_law_599 : decode b_Lw_law 599 = .ok (.iadd, 1) := by decide +kernel
theorem d_Lw_law_600 : decode b_Lw_law 600 = .ok (.iaload, 1) := by decide +kernel
theorem d_Lw_law_601 : decode b_Lw_law 601 = .ok (.aload_n 3, 1) := by decide +kernel
theorem d_Lw_law_602 : decode b_Lw_law 602 = .ok (.invokestatic 114, 3) := by decide +kernel
theorem d_Lw_law_605 : decode b_Lw_law 605 = .ok (.istore 5, 2) := by decide +kernel
theorem d_Lw_law_607 : decode b_Lw_law 607 = .ok (.aload_n 2, 1) := by decide +kernel
theorem d_Lw_law_608 : decode b_Lw_law 608 = .ok (.aload_n 0, 1) := by decide +kernel
theorem d_Lw_law_609 : decode b_Lw_law 609 = .ok (.iload 4, 2) := by decide +kernel
theorem d_Lw_law_611 : decode b_Lw_law 611 = .ok (.iconst 1, 1) := by decide +kernel
theorem d_Lw_law_612 : decode b_Lw_law 612 = .ok (.iadd, 1) := by decide +kernel
theorem d_Lw_law_613 : decode b_Lw_law 613 = .ok (.iaload, 1) := by decide +kernel
theorem d_Lw_law_614 : decode b_Lw_law 614 = .ok (.aload_n 0, 1) := by decide +kernel
theorem d_Lw_law_615 : decode b_Lw_law 615 = .ok (.iload 4, 2) := by decide +kernel
theorem d_Lw_law_617 : decode b_Lw_law 617 = .ok (.iconst 2, 1) := by decide +kernel
theorem d_Lw_law_618 : decode b_Lw_law 618 = .ok (.iadd, 1) := by decide +kernel
theorem d_Lw_law_619 : decode b_Lw_law 619 = .ok (.iaload, 1) := by decide +kernel
theorem d_Lw_law_620 : decode b_Lw_law 620 = .ok (.invokevirtual 116, 3) := by decide +kernel
theorem d_Lw_law_623 : decode b_Lw_law 623 = .ok (.istore 6, 2) := by decide +kernel
theorem d_Lw_law_625 : decode b_Lw_law 625 = .ok (.aload_n 2, 1) := by decide +kernel
theorem d_Lw_law_626 : decode b_Lw_law 626 = .ok (.invokevirtual 73, 3) := by decide +kernel
theorem d_Lw_law_629 : decode b_Lw_law 629 = .ok (.iload 5, 2) := by decide +kernel
theorem d_Lw_law_631 : decode b_Lw_law 631 = .ok (.if_icmp .eq 5, 3) := by decide +kernel
theorem d_Lw_law_634 : decode b_Lw_law 634 = .ok (.iconst 0, 1) := by decide +kernel
theorem d_Lw_law_635 : decode b_Lw_law 635 = .ok (.ireturn, 1) := by decide +kernel
theorem d_Lw_law_636 : decode b_Lw_law 636 = .ok (.iload 5, 2) := by decide +kernel
theorem d_Lw_law_638 : decode b_Lw_law 638 = .ok (.ifCond .ne 15, 3) := by decide +kernel
theorem d_Lw_law_641 : decode b_Lw_law 641 = .ok (.aload_n 3, 1) := by decide +kernel
theorem d_Lw_law_642 : decode b_Lw_law 642 = .ok (.iconst 0, 1) := by decide +kernel
theorem d_Lw_law_643 : decode b_Lw_law 643 = .ok (.laload, 1) := by decide +kernel
theorem d_Lw_law_644 : decode b_Lw_law 644 = .ok (.iload 6, 2) := by decide +kernel
theorem d_Lw_law_646 : decode b_Lw_law 646 = .ok (.i2l, 1) := by decide +kernel
theorem d_Lw_law_647 : decode b_Lw_law 647 = .ok (.lcmp, 1) := by decide +kernel
theorem d_Lw_law_648 : decode b_Lw_law 648 = .ok (.ifCond .eq 5, 3) := by decide +kernel
theorem d_Lw_law_651 : decode b_Lw_law 651 = .ok (.iconst 0, 1) := by decide +kernel
theorem d_Lw_law_652 : decode b_Lw_law 652 = .ok (.ireturn, 1) := by decide +kernel
theorem d_Lw_law_653 : decode b_Lw_law 653 = .ok (.goto 128, 3) := by decide +kernel
theorem d_Lw_law_656 : decode b_Lw_law 656 = .ok (.aload_n 1, 1) := by decide +kernel
theorem d_Lw_law_657 : decode b_Lw_law 657 = .ok (.invokevirtual 117, 3) := by decide +kernel
theorem d_Lw_law_660 : decode b_Lw_law 660 = .ok (.aload_n 2, 1) := by decide +kernel
theorem d_Lw_law_661 : decode b_Lw_law 661 = .ok (.invokevirtual 120, 3) := by decide +kernel
theorem d_Lw_law_664 : decode b_Lw_law 664 = .ok (.if_icmp .eq 117, 3) := by decide +kernel
theorem d_Lw_law_667 : decode b_Lw_law 667 = .ok (.iconst 0, 1) := by decide +kernel
theorem d_Lw_law_668 : decode b_Lw_law 668 = .ok (.ireturn, 1) := by decide +kernel
theorem d_Lw_law_669 : decode b_Lw_law 669 = .ok (.aload_n 1, 1) := by decide +kernel
theorem d_Lw_law_670 : decode b_Lw_law 670 = .ok (.aload_n 0, 1) := by decide +kernel
theorem d_Lw_law_671 : decode b_Lw_law 671 = .ok (.iload 4, 2) := by decide +kernel
theorem d_Lw_law_673 : decode b_Lw_law 673 = .ok (.iconst 1, 1) := by decide +kernel
theorem d_Lw_law_674 : decode b_Lw_law 674 = .ok (.iadd, 1) := by decide +kernel
theorem d_Lw_law_675 : decode b_Lw_law 675 = .ok (.iaload, 1) := by decide +kernel
theorem d_Lw_law_676 : decode b_Lw_law 676 = .ok (.aload_n 3, 1) := by decide +kernel
theorem d_Lw_law_677 : decode b_Lw_law 677 = .ok (.invokestatic 121, 3) := by decide +kernel
theorem d_Lw_law_680 : decode b_Lw_law 680 = .ok (.istore 5, 2) := by decide +kernel
theorem d_Lw_law_682 : decode b_Lw_law 682 = .ok (.aload_n 2, 1) := by decide +kernel
theorem d_Lw_law_683 : decode b_Lw_law 683 = .ok (.aload_n 0, 1) := by decide +kernel
theorem d_Lw_law_684 : decode b_Lw_law 684 = .ok (.iload 4, 2) := by decide +kernel
theorem d_Lw_law_686 : decode b_Lw_law 686 = .ok (.iconst 1, 1) := by decide +kernel
theorem d_Lw_law_687 : decode b_Lw_law 687 = .ok (.iadd, 1) := by decide +kernel
theorem d_Lw_law_688 : decode b_Lw_law 688 = .ok (.iaload, 1) := by decide +kernel
theorem d_Lw_law_689 : decode b_Lw_law 689 = .ok (.invokevirtual 123, 3) := by decide +kernel
theorem d_Lw_law_692 : decode b_Lw_law 692 = .ok (.istore 6, 2) := by decide +kernel
theorem d_Lw_law_694 : decode b_Lw_law 694 = .ok (.aload_n 2, 1) := by decide +kernel
theorem d_Lw_law_695 : decode b_Lw_law 695 = .ok (.invokevirtual 73, 3) := by decide +kernel
theorem d_Lw_law_698 : decode b_Lw_law 698 = .ok (.iload 5, 2) := by decide +kernel
theorem d_Lw_law_700 : decode b_Lw_law 700 = .ok (.if_icmp .eq 5, 3) := by decide +kernel
theorem d_Lw_law_703 : decode b_Lw_law 703 = .ok (.iconst 0, 1) := by decide +kernel
theorem d_Lw_law_704 : decode b_Lw_law 704 = .ok (.ireturn, 1) := by decide +kernel
theorem d_Lw_law_705 : decode b_Lw_law 705 = .ok (.iload 5, 2) := by decide +kernel
theorem d_Lw_law_707 : decode b_Lw_law 707 = .ok (.ifCond .ne 15, 3) := by decide +kernel
theorem d_Lw_law_710 : decode b_Lw_law 710 = .ok (.aload_n 3, 1) := by decide +kernel
theorem d_Lw_law_711 : decode b_Lw_law 711 = .ok (.iconst 0, 1) := by decide +kernel
theorem d_Lw_law_712 : decode b_Lw_law 712 = .ok (.laload, 1) := by decide +kernel
theorem d_Lw_law_713 : decode b_Lw_law 713 = .ok (.iload 6, 2) := by decide +kernel
theorem d_Lw_law_715 : decode b_Lw_law 715 = .ok (.i2l, 1) := by decide +kernel
theorem d_Lw_law_716 : decode b_Lw_law 716 = .ok (.lcmp, 1) := by decide +kernel
theorem d_Lw_law_717 : decode b_Lw_law 717 = .ok (.ifCond .eq 5, 3) := by decide +kernel
theorem d_Lw_law_720 : decode b_Lw_law 720 = .ok (.iconst 0, 1) := by decide +kernel
theorem d_Lw_law_721 : decode b_Lw_law 721 = .ok (.ireturn, 1) := by decide +kernel
theorem d_Lw_law_722 : decode b_Lw_law 722 = .ok (.goto 59, 3) := by decide +kernel
theorem d_Lw_law_725 : decode b_Lw_law 725 = .ok (.aload_n 1, 1) := by decide +kernel
theorem d_Lw_law_726 : decode b_Lw_law 726 = .ok (.aload_n 0, 1) := by decide +kernel
theorem d_Lw_law_727 : decode b_Lw_law 727 = .ok (.iload 4, 2) := by decide +kernel
theorem d_Lw_law_729 : decode b_Lw_law 729 = .ok (.iconst 1, 1) := by decide +kernel
theorem d_Lw_law_730 : decode b_Lw_law 730 = .ok (.iadd, 1) := by decide +kernel
theorem d_Lw_law_731 : decode b_Lw_law 731 = .ok (.iaload, 1) := by decide +kernel
theorem d_Lw_law_732 : decode b_Lw_law 732 = .ok (.aload_n 3, 1) := by decide +kernel
theorem d_Lw_law_733 : decode b_Lw_law 733 = .ok (.invokestatic 124, 3) := by decide +kernel
theorem d_Lw_law_736 : decode b_Lw_law 736 = .ok (.istore 5, 2) := by decide +kernel
theorem d_Lw_law_738 : decode b_Lw_law 738 = .ok (.aload_n 2, 1) := by decide +kernel
theorem d_Lw_law_739 : decode b_Lw_law 739 = .ok (.aload_n 0, 1) := by decide +kernel
theorem d_Lw_law_740 : decode b_Lw_law 740 = .ok (.iload 4, 2) := by decide +kernel
theorem d_Lw_law_742 : decode b_Lw_law 742 = .ok (.iconst 1, 1) := by decide +kernel
theorem d_Lw_law_743 : decode b_Lw_law 743 = .ok (.iadd, 1) := by decide +kernel
theorem d_Lw_law_744 : decode b_Lw_law 744 = .ok (.iaload, 1) := by decide +kernel
theorem d_Lw_law_745 : decode b_Lw_law 745 = .ok (.invokevirtual 126, 3) := by decide +kernel
theorem d_Lw_law_748 : decode b_Lw_law 748 = .ok (.istore 6, 2) := by decide +kernel
theorem d_Lw_law_750 : decode b_Lw_law 750 = .ok (.aload_n 2, 1) := by decide +kernel
theorem d_Lw_law_751 : decode b_Lw_law 751 = .ok (.invokevirtual 73, 3) := by decide +kernel
theorem d_Lw_law_754 : decode b_Lw_law 754 = .ok (.iload 5, 2) := by decide +kernel
theorem d_Lw_law_756 : decode b_Lw_law 756 = .ok (.if_icmp .eq 5, 3) := by decide +kernel
theorem d_Lw_law_759 : decode b_Lw_law 759 = .ok (.iconst 0, 1) := by decide +kernel
theorem d_Lw_law_760 : decode b_Lw_law 760 = .ok (.ireturn, 1) := by decide +kernel
theorem d_Lw_law_761 : decode b_Lw_law 761 = .ok (.iload 5, 2) := by decide +kernel
theorem d_Lw_law_763 : decode b_Lw_law 763 = .ok (.ifCond .ne 15, 3) := by decide +kernel
theorem d_Lw_law_766 : decode b_Lw_law 766 = .ok (.aload_n 3, 1) := by decide +kernel
theorem d_Lw_law_767 : decode b_Lw_law 767 = .ok (.iconst 0, 1) := by decide +kernel
theorem d_Lw_law_768 : decode b_Lw_law 768 = .ok (.laload, 1) := by decide +kernel
theorem d_Lw_law_769 : decode b_Lw_law 769 = .ok (.iload 6, 2) := by decide +kernel
theorem d_Lw_law_771 : decode b_Lw_law 771 = .ok (.i2l, 1) := by decide +kernel
theorem d_Lw_law_772 : decode b_Lw_law 772 = .ok (.lcmp, 1) := by decide +kernel
theorem d_Lw_law_773 : decode b_Lw_law 773 = .ok (.ifCond .eq 5, 3) := by decide +kernel
theorem d_Lw_law_776 : decode b_Lw_law 776 = .ok (.iconst 0, 1) := by decide +kernel
theorem d_Lw_law_777 : decode b_Lw_law 777 = .ok (.ireturn, 1) := by decide +kernel
theorem d_Lw_law_778 : decode b_Lw_law 778 = .ok (.goto 3, 3) := by decide +kernel
theorem d_Lw_law_781 : decode b_Lw_law 781 = .ok (.iinc 4 4, 3) := by decide +kernel
theorem d_Lw_law_784 : decode b_Lw_law 784 = .ok (.goto (-751), 3) := by decide +kernel
theorem d_Lw_law_787 : decode b_Lw_law 787 = .ok (.iconst 1, 1) := by decide +kernel
theorem d_Lw_law_788 : decode b_Lw_law 788 = .ok (.ireturn, 1) := by decide +kernel
