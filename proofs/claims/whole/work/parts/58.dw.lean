section DEC_L
abbrev cd_L_law : ByteArray := code
theorem dw_0 : decode cd_L_law 0 = .ok (.new 8, 3) := by decide +kernel
theorem dw_3 : decode cd_L_law 3 = .ok (.dup, 1) := by decide +kernel
theorem dw_4 : decode cd_L_law 4 = .ok (.aload_n 0, 1) := by decide +kernel
theorem dw_5 : decode cd_L_law 5 = .ok (.iconst 0, 1) := by decide +kernel
theorem dw_6 : decode cd_L_law 6 = .ok (.invokestatic 54, 3) := by decide +kernel
theorem dw_9 : decode cd_L_law 9 = .ok (.aload_n 0, 1) := by decide +kernel
theorem dw_10 : decode cd_L_law 10 = .ok (.iconst 1, 1) := by decide +kernel
theorem dw_11 : decode cd_L_law 11 = .ok (.invokestatic 54, 3) := by decide +kernel
theorem dw_14 : decode cd_L_law 14 = .ok (.invokespecial 60, 3) := by decide +kernel
theorem dw_17 : decode cd_L_law 17 = .ok (.astore_n 1, 1) := by decide +kernel
theorem dw_18 : decode cd_L_law 18 = .ok (.new 63, 3) := by decide +kernel
theorem dw_21 : decode cd_L_law 21 = .ok (.dup, 1) := by decide +kernel
theorem dw_22 : decode cd_L_law 22 = .ok (.aload_n 0, 1) := by decide +kernel
theorem dw_23 : decode cd_L_law 23 = .ok (.iconst 0, 1) := by decide +kernel
theorem dw_24 : decode cd_L_law 24 = .ok (.invokestatic 54, 3) := by decide +kernel
theorem dw_27 : decode cd_L_law 27 = .ok (.aload_n 0, 1) := by decide +kernel
theorem dw_28 : decode cd_L_law 28 = .ok (.iconst 1, 1) := by decide +kernel
theorem dw_29 : decode cd_L_law 29 = .ok (.invokestatic 54, 3) := by decide +kernel
theorem dw_32 : decode cd_L_law 32 = .ok (.invokespecial 65, 3) := by decide +kernel
theorem dw_35 : decode cd_L_law 35 = .ok (.astore_n 2, 1) := by decide +kernel
theorem dw_36 : decode cd_L_law 36 = .ok (.iconst 1, 1) := by decide +kernel
theorem dw_37 : decode cd_L_law 37 = .ok (.newarray .long, 2) := by decide +kernel
theorem dw_39 : decode cd_L_law 39 = .ok (.astore_n 3, 1) := by decide +kernel
theorem dw_40 : decode cd_L_law 40 = .ok (.iconst 2, 1) := by decide +kernel
theorem dw_41 : decode cd_L_law 41 = .ok (.istore 4, 2) := by decide +kernel
theorem dw_43 : decode cd_L_law 43 = .ok (.iload 4, 2) := by decide +kernel
theorem dw_45 : decode cd_L_law 45 = .ok (.aload_n 0, 1) := by decide +kernel
theorem dw_46 : decode cd_L_law 46 = .ok (.arraylength, 1) := by decide +kernel
theorem dw_47 : decode cd_L_law 47 = .ok (.iconst 5, 1) := by decide +kernel
theorem dw_48 : decode cd_L_law 48 = .ok (.isub, 1) := by decide +kernel
theorem dw_49 : decode cd_L_law 49 = .ok (.if_icmp .gt 845, 3) := by decide +kernel
theorem dw_52 : decode cd_L_law 52 = .ok (.aload_n 0, 1) := by decide +kernel
theorem dw_53 : decode cd_L_law 53 = .ok (.iload 4, 2) := by decide +kernel
theorem dw_55 : decode cd_L_law 55 = .ok (.iaload, 1) := by decide +kernel
theorem dw_56 : decode cd_L_law 56 = .ok (.bipush 15, 2) := by decide +kernel
theorem dw_58 : decode cd_L_law 58 = .ok (.iand, 1) := by decide +kernel
theorem dw_59 : decode cd_L_law 59 = .ok (.tableswitch 829 0 14 #[73, 145, 201, 269, 325, 381, 437, 450, 463, 531, 587, 643, 656, 669, 749], 73) := by decide +kernel
theorem dw_132 : decode cd_L_law 132 = .ok (.aload_n 1, 1) := by decide +kernel
theorem dw_133 : decode cd_L_law 133 = .ok (.aload_n 0, 1) := by decide +kernel
theorem dw_134 : decode cd_L_law 134 = .ok (.iload 4, 2) := by decide +kernel
theorem dw_136 : decode cd_L_law 136 = .ok (.iconst 1, 1) := by decide +kernel
theorem dw_137 : decode cd_L_law 137 = .ok (.iadd, 1) := by decide +kernel
theorem dw_138 : decode cd_L_law 138 = .ok (.iaload, 1) := by decide +kernel
theorem dw_139 : decode cd_L_law 139 = .ok (.aload_n 0, 1) := by decide +kernel
theorem dw_140 : decode cd_L_law 140 = .ok (.iload 4, 2) := by decide +kernel
theorem dw_142 : decode cd_L_law 142 = .ok (.iconst 2, 1) := by decide +kernel
theorem dw_143 : decode cd_L_law 143 = .ok (.iadd, 1) := by decide +kernel
theorem dw_144 : decode cd_L_law 144 = .ok (.iaload, 1) := by decide +kernel
theorem dw_145 : decode cd_L_law 145 = .ok (.aload_n 0, 1) := by decide +kernel
theorem dw_146 : decode cd_L_law 146 = .ok (.iload 4, 2) := by decide +kernel
theorem dw_148 : decode cd_L_law 148 = .ok (.iconst 3, 1) := by decide +kernel
theorem dw_149 : decode cd_L_law 149 = .ok (.iadd, 1) := by decide +kernel
theorem dw_150 : decode cd_L_law 150 = .ok (.iaload, 1) := by decide +kernel
theorem dw_151 : decode cd_L_law 151 = .ok (.aload_n 0, 1) := by decide +kernel
theorem dw_152 : decode cd_L_law 152 = .ok (.iload 4, 2) := by decide +kernel
theorem dw_154 : decode cd_L_law 154 = .ok (.iconst 4, 1) := by decide +kernel
theorem dw_155 : decode cd_L_law 155 = .ok (.iadd, 1) := by decide +kernel
theorem dw_156 : decode cd_L_law 156 = .ok (.iaload, 1) := by decide +kernel
theorem dw_157 : decode cd_L_law 157 = .ok (.invokestatic 66, 3) := by decide +kernel
theorem dw_160 : decode cd_L_law 160 = .ok (.istore 5, 2) := by decide +kernel
theorem dw_162 : decode cd_L_law 162 = .ok (.aload_n 2, 1) := by decide +kernel
theorem dw_163 : decode cd_L_law 163 = .ok (.aload_n 0, 1) := by decide +kernel
theorem dw_164 : decode cd_L_law 164 = .ok (.iload 4, 2) := by decide +kernel
theorem dw_166 : decode cd_L_law 166 = .ok (.iconst 1, 1) := by decide +kernel
theorem dw_167 : decode cd_L_law 167 = .ok (.iadd, 1) := by decide +kernel
theorem dw_168 : decode cd_L_law 168 = .ok (.iaload, 1) := by decide +kernel
theorem dw_169 : decode cd_L_law 169 = .ok (.aload_n 0, 1) := by decide +kernel
theorem dw_170 : decode cd_L_law 170 = .ok (.iload 4, 2) := by decide +kernel
theorem dw_172 : decode cd_L_law 172 = .ok (.iconst 2, 1) := by decide +kernel
theorem dw_173 : decode cd_L_law 173 = .ok (.iadd, 1) := by decide +kernel
theorem dw_174 : decode cd_L_law 174 = .ok (.iaload, 1) := by decide +kernel
theorem dw_175 : decode cd_L_law 175 = .ok (.aload_n 0, 1) := by decide +kernel
theorem dw_176 : decode cd_L_law 176 = .ok (.iload 4, 2) := by decide +kernel
theorem dw_178 : decode cd_L_law 178 = .ok (.iconst 3, 1) := by decide +kernel
theorem dw_179 : decode cd_L_law 179 = .ok (.iadd, 1) := by decide +kernel
theorem dw_180 : decode cd_L_law 180 = .ok (.iaload, 1) := by decide +kernel
theorem dw_181 : decode cd_L_law 181 = .ok (.aload_n 0, 1) := by decide +kernel
theorem dw_182 : decode cd_L_law 182 = .ok (.iload 4, 2) := by decide +kernel
theorem dw_184 : decode cd_L_law 184 = .ok (.iconst 4, 1) := by decide +kernel
theorem dw_185 : decode cd_L_law 185 = .ok (.iadd, 1) := by decide +kernel
theorem dw_186 : decode cd_L_law 186 = .ok (.iaload, 1) := by decide +kernel
theorem dw_187 : decode cd_L_law 187 = .ok (.invokevirtual 69, 3) := by decide +kernel
theorem dw_190 : decode cd_L_law 190 = .ok (.aload_n 2, 1) := by decide +kernel
theorem dw_191 : decode cd_L_law 191 = .ok (.invokevirtual 70, 3) := by decide +kernel
theorem dw_194 : decode cd_L_law 194 = .ok (.iload 5, 2) := by decide +kernel
theorem dw_196 : decode cd_L_law 196 = .ok (.if_icmp .eq 5, 3) := by decide +kernel
theorem dw_199 : decode cd_L_law 199 = .ok (.iconst 0, 1) := by decide +kernel
theorem dw_200 : decode cd_L_law 200 = .ok (.ireturn, 1) := by decide +kernel
theorem dw_201 : decode cd_L_law 201 = .ok (.goto 687, 3) := by decide +kernel
theorem dw_204 : decode cd_L_law 204 = .ok (.aload_n 1, 1) := by decide +kernel
theorem dw_205 : decode cd_L_law 205 = .ok (.aload_n 0, 1) := by decide +kernel
theorem dw_206 : decode cd_L_law 206 = .ok (.iload 4, 2) := by decide +kernel
theorem dw_208 : decode cd_L_law 208 = .ok (.iconst 1, 1) := by decide +kernel
theorem dw_209 : decode cd_L_law 209 = .ok (.iadd, 1) := by decide +kernel
theorem dw_210 : decode cd_L_law 210 = .ok (.iaload, 1) := by decide +kernel
theorem dw_211 : decode cd_L_law 211 = .ok (.aload_n 3, 1) := by decide +kernel
theorem dw_212 : decode cd_L_law 212 = .ok (.invokestatic 74, 3) := by decide +kernel
theorem dw_215 : decode cd_L_law 215 = .ok (.istore 5, 2) := by decide +kernel
theorem dw_217 : decode cd_L_law 217 = .ok (.aload_n 2, 1) := by decide +kernel
theorem dw_218 : decode cd_L_law 218 = .ok (.aload_n 0, 1) := by decide +kernel
theorem dw_219 : decode cd_L_law 219 = .ok (.iload 4, 2) := by decide +kernel
theorem dw_221 : decode cd_L_law 221 = .ok (.iconst 1, 1) := by decide +kernel
theorem dw_222 : decode cd_L_law 222 = .ok (.iadd, 1) := by decide +kernel
theorem dw_223 : decode cd_L_law 223 = .ok (.iaload, 1) := by decide +kernel
theorem dw_224 : decode cd_L_law 224 = .ok (.invokevirtual 77, 3) := by decide +kernel
theorem dw_227 : decode cd_L_law 227 = .ok (.istore 6, 2) := by decide +kernel
theorem dw_229 : decode cd_L_law 229 = .ok (.aload_n 2, 1) := by decide +kernel
theorem dw_230 : decode cd_L_law 230 = .ok (.invokevirtual 70, 3) := by decide +kernel
theorem dw_233 : decode cd_L_law 233 = .ok (.iload 5, 2) := by decide +kernel
theorem dw_235 : decode cd_L_law 235 = .ok (.if_icmp .eq 5, 3) := by decide +kernel
theorem dw_238 : decode cd_L_law 238 = .ok (.iconst 0, 1) := by decide +kernel
theorem dw_239 : decode cd_L_law 239 = .ok (.ireturn, 1) := by decide +kernel
theorem dw_240 : decode cd_L_law 240 = .ok (.iload 5, 2) := by decide +kernel
theorem dw_242 : decode cd_L_law 242 = .ok (.ifCond .ne 15, 3) := by decide +kernel
theorem dw_245 : decode cd_L_law 245 = .ok (.aload_n 3, 1) := by decide +kernel
theorem dw_246 : decode cd_L_law 246 = .ok (.iconst 0, 1) := by decide +kernel
theorem dw_247 : decode cd_L_law 247 = .ok (.laload, 1) := by decide +kernel
theorem dw_248 : decode cd_L_law 248 = .ok (.iload 6, 2) := by decide +kernel
theorem dw_250 : decode cd_L_law 250 = .ok (.i2l, 1) := by decide +kernel
theorem dw_251 : decode cd_L_law 251 = .ok (.lcmp, 1) := by decide +kernel
theorem dw_252 : decode cd_L_law 252 = .ok (.ifCond .eq 5, 3) := by decide +kernel
theorem dw_255 : decode cd_L_law 255 = .ok (.iconst 0, 1) := by decide +kernel
theorem dw_256 : decode cd_L_law 256 = .ok (.ireturn, 1) := by decide +kernel
theorem dw_257 : decode cd_L_law 257 = .ok (.goto 631, 3) := by decide +kernel
theorem dw_260 : decode cd_L_law 260 = .ok (.aload_n 1, 1) := by decide +kernel
theorem dw_261 : decode cd_L_law 261 = .ok (.aload_n 0, 1) := by decide +kernel
theorem dw_262 : decode cd_L_law 262 = .ok (.iload 4, 2) := by decide +kernel
theorem dw_264 : decode cd_L_law 264 = .ok (.iconst 1, 1) := by decide +kernel
theorem dw_265 : decode cd_L_law 265 = .ok (.iadd, 1) := by decide +kernel
theorem dw_266 : decode cd_L_law 266 = .ok (.iaload, 1) := by decide +kernel
theorem dw_267 : decode cd_L_law 267 = .ok (.aload_n 0, 1) := by decide +kernel
theorem dw_268 : decode cd_L_law 268 = .ok (.iload 4, 2) := by decide +kernel
theorem dw_270 : decode cd_L_law 270 = .ok (.iconst 2, 1) := by decide +kernel
theorem dw_271 : decode cd_L_law 271 = .ok (.iadd, 1) := by decide +kernel
theorem dw_272 : decode cd_L_law 272 = .ok (.iaload, 1) := by decide +kernel
theorem dw_273 : decode cd_L_law 273 = .ok (.aload_n 3, 1) := by decide +kernel
theorem dw_274 : decode cd_L_law 274 = .ok (.invokestatic 78, 3) := by decide +kernel
theorem dw_277 : decode cd_L_law 277 = .ok (.istore 5, 2) := by decide +kernel
theorem dw_279 : decode cd_L_law 279 = .ok (.aload_n 2, 1) := by decide +kernel
theorem dw_280 : decode cd_L_law 280 = .ok (.aload_n 0, 1) := by decide +kernel
theorem dw_281 : decode cd_L_law 281 = .ok (.iload 4, 2) := by decide +kernel
theorem dw_283 : decode cd_L_law 283 = .ok (.iconst 1, 1) := by decide +kernel
theorem dw_284 : decode cd_L_law 284 = .ok (.iadd, 1) := by decide +kernel
theorem dw_285 : decode cd_L_law 285 = .ok (.iaload, 1) := by decide +kernel
theorem dw_286 : decode cd_L_law 286 = .ok (.aload_n 0, 1) := by decide +kernel
theorem dw_287 : decode cd_L_law 287 = .ok (.iload 4, 2) := by decide +kernel
theorem dw_289 : decode cd_L_law 289 = .ok (.iconst 2, 1) := by decide +kernel
theorem dw_290 : decode cd_L_law 290 = .ok (.iadd, 1) := by decide +kernel
theorem dw_291 : decode cd_L_law 291 = .ok (.iaload, 1) := by decide +kernel
theorem dw_292 : decode cd_L_law 292 = .ok (.invokevirtual 81, 3) := by decide +kernel
theorem dw_295 : decode cd_L_law 295 = .ok (.istore 6, 2) := by decide +kernel
theorem dw_297 : decode cd_L_law 297 = .ok (.aload_n 2, 1) := by decide +kernel
theorem dw_298 : decode cd_L_law 298 = .ok (.invokevirtual 70, 3) := by decide +kernel
theorem dw_301 : decode cd_L_law 301 = .ok (.iload 5, 2) := by decide +kernel
theorem dw_303 : decode cd_L_law 303 = .ok (.if_icmp .eq 5, 3) := by decide +kernel
theorem dw_306 : decode cd_L_law 306 = .ok (.iconst 0, 1) := by decide +kernel
theorem dw_307 : decode cd_L_law 307 = .ok (.ireturn, 1) := by decide +kernel
theorem dw_308 : decode cd_L_law 308 = .ok (.iload 5, 2) := by decide +kernel
theorem dw_310 : decode cd_L_law 310 = .ok (.ifCond .ne 15, 3) := by decide +kernel
theorem dw_313 : decode cd_L_law 313 = .ok (.aload_n 3, 1) := by decide +kernel
theorem dw_314 : decode cd_L_law 314 = .ok (.iconst 0, 1) := by decide +kernel
theorem dw_315 : decode cd_L_law 315 = .ok (.laload, 1) := by decide +kernel
theorem dw_316 : decode cd_L_law 316 = .ok (.iload 6, 2) := by decide +kernel
theorem dw_318 : decode cd_L_law 318 = .ok (.i2l, 1) := by decide +kernel
theorem dw_319 : decode cd_L_law 319 = .ok (.lcmp, 1) := by decide +kernel
theorem dw_320 : decode cd_L_law 320 = .ok (.ifCond .eq 5, 3) := by decide +kernel
theorem dw_323 : decode cd_L_law 323 = .ok (.iconst 0, 1) := by decide +kernel
theorem dw_324 : decode cd_L_law 324 = .ok (.ireturn, 1) := by decide +kernel
theorem dw_325 : decode cd_L_law 325 = .ok (.goto 563, 3) := by decide +kernel
theorem dw_328 : decode cd_L_law 328 = .ok (.aload_n 1, 1) := by decide +kernel
theorem dw_329 : decode cd_L_law 329 = .ok (.aload_n 0, 1) := by decide +kernel
theorem dw_330 : decode cd_L_law 330 = .ok (.iload 4, 2) := by decide +kernel
theorem dw_332 : decode cd_L_law 332 = .ok (.iconst 1, 1) := by decide +kernel
theorem dw_333 : decode cd_L_law 333 = .ok (.iadd, 1) := by decide +kernel
theorem dw_334 : decode cd_L_law 334 = .ok (.iaload, 1) := by decide +kernel
theorem dw_335 : decode cd_L_law 335 = .ok (.aload_n 3, 1) := by decide +kernel
theorem dw_336 : decode cd_L_law 336 = .ok (.invokestatic 82, 3) := by decide +kernel
theorem dw_339 : decode cd_L_law 339 = .ok (.istore 5, 2) := by decide +kernel
theorem dw_341 : decode cd_L_law 341 = .ok (.aload_n 2, 1) := by decide +kernel
theorem dw_342 : decode cd_L_law 342 = .ok (.aload_n 0, 1) := by decide +kernel
theorem dw_343 : decode cd_L_law 343 = .ok (.iload 4, 2) := by decide +kernel
theorem dw_345 : decode cd_L_law 345 = .ok (.iconst 1, 1) := by decide +kernel
theorem dw_346 : decode cd_L_law 346 = .ok (.iadd, 1) := by decide +kernel
theorem dw_347 : decode cd_L_law 347 = .ok (.iaload, 1) := by decide +kernel
theorem dw_348 : decode cd_L_law 348 = .ok (.invokevirtual 84, 3) := by decide +kernel
theorem dw_351 : decode cd_L_law 351 = .ok (.istore 6, 2) := by decide +kernel
theorem dw_353 : decode cd_L_law 353 = .ok (.aload_n 2, 1) := by decide +kernel
theorem dw_354 : decode cd_L_law 354 = .ok (.invokevirtual 70, 3) := by decide +kernel
theorem dw_357 : decode cd_L_law 357 = .ok (.iload 5, 2) := by decide +kernel
theorem dw_359 : decode cd_L_law 359 = .ok (.if_icmp .eq 5, 3) := by decide +kernel
theorem dw_362 : decode cd_L_law 362 = .ok (.iconst 0, 1) := by decide +kernel
theorem dw_363 : decode cd_L_law 363 = .ok (.ireturn, 1) := by decide +kernel
theorem dw_364 : decode cd_L_law 364 = .ok (.iload 5, 2) := by decide +kernel
theorem dw_366 : decode cd_L_law 366 = .ok (.ifCond .ne 15, 3) := by decide +kernel
theorem dw_369 : decode cd_L_law 369 = .ok (.aload_n 3, 1) := by decide +kernel
theorem dw_370 : decode cd_L_law 370 = .ok (.iconst 0, 1) := by decide +kernel
theorem dw_371 : decode cd_L_law 371 = .ok (.laload, 1) := by decide +kernel
theorem dw_372 : decode cd_L_law 372 = .ok (.iload 6, 2) := by decide +kernel
theorem dw_374 : decode cd_L_law 374 = .ok (.i2l, 1) := by decide +kernel
theorem dw_375 : decode cd_L_law 375 = .ok (.lcmp, 1) := by decide +kernel
theorem dw_376 : decode cd_L_law 376 = .ok (.ifCond .eq 5, 3) := by decide +kernel
theorem dw_379 : decode cd_L_law 379 = .ok (.iconst 0, 1) := by decide +kernel
theorem dw_380 : decode cd_L_law 380 = .ok (.ireturn, 1) := by decide +kernel
theorem dw_381 : decode cd_L_law 381 = .ok (.goto 507, 3) := by decide +kernel
theorem dw_384 : decode cd_L_law 384 = .ok (.aload_n 1, 1) := by decide +kernel
theorem dw_385 : decode cd_L_law 385 = .ok (.aload_n 0, 1) := by decide +kernel
theorem dw_386 : decode cd_L_law 386 = .ok (.iload 4, 2) := by decide +kernel
theorem dw_388 : decode cd_L_law 388 = .ok (.iconst 1, 1) := by decide +kernel
theorem dw_389 : decode cd_L_law 389 = .ok (.iadd, 1) := by decide +kernel
theorem dw_390 : decode cd_L_law 390 = .ok (.iaload, 1) := by decide +kernel
theorem dw_391 : decode cd_L_law 391 = .ok (.aload_n 3, 1) := by decide +kernel
theorem dw_392 : decode cd_L_law 392 = .ok (.invokestatic 85, 3) := by decide +kernel
theorem dw_395 : decode cd_L_law 395 = .ok (.istore 5, 2) := by decide +kernel
theorem dw_397 : decode cd_L_law 397 = .ok (.aload_n 2, 1) := by decide +kernel
theorem dw_398 : decode cd_L_law 398 = .ok (.aload_n 0, 1) := by decide +kernel
theorem dw_399 : decode cd_L_law 399 = .ok (.iload 4, 2) := by decide +kernel
theorem dw_401 : decode cd_L_law 401 = .ok (.iconst 1, 1) := by decide +kernel
theorem dw_402 : decode cd_L_law 402 = .ok (.iadd, 1) := by decide +kernel
theorem dw_403 : decode cd_L_law 403 = .ok (.iaload, 1) := by decide +kernel
theorem dw_404 : decode cd_L_law 404 = .ok (.invokevirtual 87, 3) := by decide +kernel
theorem dw_407 : decode cd_L_law 407 = .ok (.istore 6, 2) := by decide +kernel
theorem dw_409 : decode cd_L_law 409 = .ok (.aload_n 2, 1) := by decide +kernel
theorem dw_410 : decode cd_L_law 410 = .ok (.invokevirtual 70, 3) := by decide +kernel
theorem dw_413 : decode cd_L_law 413 = .ok (.iload 5, 2) := by decide +kernel
theorem dw_415 : decode cd_L_law 415 = .ok (.if_icmp .eq 5, 3) := by decide +kernel
theorem dw_418 : decode cd_L_law 418 = .ok (.iconst 0, 1) := by decide +kernel
theorem dw_419 : decode cd_L_law 419 = .ok (.ireturn, 1) := by decide +kernel
theorem dw_420 : decode cd_L_law 420 = .ok (.iload 5, 2) := by decide +kernel
theorem dw_422 : decode cd_L_law 422 = .ok (.ifCond .ne 15, 3) := by decide +kernel
theorem dw_425 : decode cd_L_law 425 = .ok (.aload_n 3, 1) := by decide +kernel
theorem dw_426 : decode cd_L_law 426 = .ok (.iconst 0, 1) := by decide +kernel
theorem dw_427 : decode cd_L_law 427 = .ok (.laload, 1) := by decide +kernel
theorem dw_428 : decode cd_L_law 428 = .ok (.iload 6, 2) := by decide +kernel
theorem dw_430 : decode cd_L_law 430 = .ok (.i2l, 1) := by decide +kernel
theorem dw_431 : decode cd_L_law 431 = .ok (.lcmp, 1) := by decide +kernel
theorem dw_432 : decode cd_L_law 432 = .ok (.ifCond .eq 5, 3) := by decide +kernel
theorem dw_435 : decode cd_L_law 435 = .ok (.iconst 0, 1) := by decide +kernel
theorem dw_436 : decode cd_L_law 436 = .ok (.ireturn, 1) := by decide +kernel
theorem dw_437 : decode cd_L_law 437 = .ok (.goto 451, 3) := by decide +kernel
theorem dw_440 : decode cd_L_law 440 = .ok (.aload_n 1, 1) := by decide +kernel
theorem dw_441 : decode cd_L_law 441 = .ok (.aload_n 0, 1) := by decide +kernel
theorem dw_442 : decode cd_L_law 442 = .ok (.iload 4, 2) := by decide +kernel
theorem dw_444 : decode cd_L_law 444 = .ok (.iconst 1, 1) := by decide +kernel
theorem dw_445 : decode cd_L_law 445 = .ok (.iadd, 1) := by decide +kernel
theorem dw_446 : decode cd_L_law 446 = .ok (.iaload, 1) := by decide +kernel
theorem dw_447 : decode cd_L_law 447 = .ok (.aload_n 3, 1) := by decide +kernel
theorem dw_448 : decode cd_L_law 448 = .ok (.invokestatic 88, 3) := by decide +kernel
theorem dw_451 : decode cd_L_law 451 = .ok (.istore 5, 2) := by decide +kernel
theorem dw_453 : decode cd_L_law 453 = .ok (.aload_n 2, 1) := by decide +kernel
theorem dw_454 : decode cd_L_law 454 = .ok (.aload_n 0, 1) := by decide +kernel
theorem dw_455 : decode cd_L_law 455 = .ok (.iload 4, 2) := by decide +kernel
theorem dw_457 : decode cd_L_law 457 = .ok (.iconst 1, 1) := by decide +kernel
theorem dw_458 : decode cd_L_law 458 = .ok (.iadd, 1) := by decide +kernel
theorem dw_459 : decode cd_L_law 459 = .ok (.iaload, 1) := by decide +kernel
theorem dw_460 : decode cd_L_law 460 = .ok (.invokevirtual 90, 3) := by decide +kernel
theorem dw_463 : decode cd_L_law 463 = .ok (.istore 6, 2) := by decide +kernel
theorem dw_465 : decode cd_L_law 465 = .ok (.aload_n 2, 1) := by decide +kernel
theorem dw_466 : decode cd_L_law 466 = .ok (.invokevirtual 70, 3) := by decide +kernel
theorem dw_469 : decode cd_L_law 469 = .ok (.iload 5, 2) := by decide +kernel
theorem dw_471 : decode cd_L_law 471 = .ok (.if_icmp .eq 5, 3) := by decide +kernel
theorem dw_474 : decode cd_L_law 474 = .ok (.iconst 0, 1) := by decide +kernel
theorem dw_475 : decode cd_L_law 475 = .ok (.ireturn, 1) := by decide +kernel
theorem dw_476 : decode cd_L_law 476 = .ok (.iload 5, 2) := by decide +kernel
theorem dw_478 : decode cd_L_law 478 = .ok (.ifCond .ne 15, 3) := by decide +kernel
theorem dw_481 : decode cd_L_law 481 = .ok (.aload_n 3, 1) := by decide +kernel
theorem dw_482 : decode cd_L_law 482 = .ok (.iconst 0, 1) := by decide +kernel
theorem dw_483 : decode cd_L_law 483 = .ok (.laload, 1) := by decide +kernel
theorem dw_484 : decode cd_L_law 484 = .ok (.iload 6, 2) := by decide +kernel
theorem dw_486 : decode cd_L_law 486 = .ok (.i2l, 1) := by decide +kernel
theorem dw_487 : decode cd_L_law 487 = .ok (.lcmp, 1) := by decide +kernel
theorem dw_488 : decode cd_L_law 488 = .ok (.ifCond .eq 5, 3) := by decide +kernel
theorem dw_491 : decode cd_L_law 491 = .ok (.iconst 0, 1) := by decide +kernel
theorem dw_492 : decode cd_L_law 492 = .ok (.ireturn, 1) := by decide +kernel
theorem dw_493 : decode cd_L_law 493 = .ok (.goto 395, 3) := by decide +kernel
theorem dw_496 : decode cd_L_law 496 = .ok (.aload_n 1, 1) := by decide +kernel
theorem dw_497 : decode cd_L_law 497 = .ok (.invokevirtual 91, 3) := by decide +kernel
theorem dw_500 : decode cd_L_law 500 = .ok (.aload_n 2, 1) := by decide +kernel
theorem dw_501 : decode cd_L_law 501 = .ok (.invokevirtual 94, 3) := by decide +kernel
theorem dw_504 : decode cd_L_law 504 = .ok (.if_icmp .eq 384, 3) := by decide +kernel
theorem dw_507 : decode cd_L_law 507 = .ok (.iconst 0, 1) := by decide +kernel
theorem dw_508 : decode cd_L_law 508 = .ok (.ireturn, 1) := by decide +kernel
theorem dw_509 : decode cd_L_law 509 = .ok (.aload_n 1, 1) := by decide +kernel
theorem dw_510 : decode cd_L_law 510 = .ok (.invokevirtual 95, 3) := by decide +kernel
theorem dw_513 : decode cd_L_law 513 = .ok (.aload_n 2, 1) := by decide +kernel
theorem dw_514 : decode cd_L_law 514 = .ok (.invokevirtual 98, 3) := by decide +kernel
theorem dw_517 : decode cd_L_law 517 = .ok (.if_icmp .eq 371, 3) := by decide +kernel
theorem dw_520 : decode cd_L_law 520 = .ok (.iconst 0, 1) := by decide +kernel
theorem dw_521 : decode cd_L_law 521 = .ok (.ireturn, 1) := by decide +kernel
theorem dw_522 : decode cd_L_law 522 = .ok (.aload_n 1, 1) := by decide +kernel
theorem dw_523 : decode cd_L_law 523 = .ok (.aload_n 0, 1) := by decide +kernel
theorem dw_524 : decode cd_L_law 524 = .ok (.iload 4, 2) := by decide +kernel
theorem dw_526 : decode cd_L_law 526 = .ok (.iconst 1, 1) := by decide +kernel
theorem dw_527 : decode cd_L_law 527 = .ok (.iadd, 1) := by decide +kernel
theorem dw_528 : decode cd_L_law 528 = .ok (.iaload, 1) := by decide +kernel
theorem dw_529 : decode cd_L_law 529 = .ok (.aload_n 0, 1) := by decide +kernel
theorem dw_530 : decode cd_L_law 530 = .ok (.iload 4, 2) := by decide +kernel
theorem dw_532 : decode cd_L_law 532 = .ok (.iconst 2, 1) := by decide +kernel
theorem dw_533 : decode cd_L_law 533 = .ok (.iadd, 1) := by decide +kernel
theorem dw_534 : decode cd_L_law 534 = .ok (.iaload, 1) := by decide +kernel
theorem dw_535 : decode cd_L_law 535 = .ok (.aload_n 3, 1) := by decide +kernel
theorem dw_536 : decode cd_L_law 536 = .ok (.invokestatic 99, 3) := by decide +kernel
theorem dw_539 : decode cd_L_law 539 = .ok (.istore 5, 2) := by decide +kernel
theorem dw_541 : decode cd_L_law 541 = .ok (.aload_n 2, 1) := by decide +kernel
theorem dw_542 : decode cd_L_law 542 = .ok (.aload_n 0, 1) := by decide +kernel
theorem dw_543 : decode cd_L_law 543 = .ok (.iload 4, 2) := by decide +kernel
theorem dw_545 : decode cd_L_law 545 = .ok (.iconst 1, 1) := by decide +kernel
theorem dw_546 : decode cd_L_law 546 = .ok (.iadd, 1) := by decide +kernel
theorem dw_547 : decode cd_L_law 547 = .ok (.iaload, 1) := by decide +kernel
theorem dw_548 : decode cd_L_law 548 = .ok (.aload_n 0, 1) := by decide +kernel
theorem dw_549 : decode cd_L_law 549 = .ok (.iload 4, 2) := by decide +kernel
theorem dw_551 : decode cd_L_law 551 = .ok (.iconst 2, 1) := by decide +kernel
theorem dw_552 : decode cd_L_law 552 = .ok (.iadd, 1) := by decide +kernel
theorem dw_553 : decode cd_L_law 553 = .ok (.iaload, 1) := by decide +kernel
theorem dw_554 : decode cd_L_law 554 = .ok (.invokevirtual 101, 3) := by decide +kernel
theorem dw_557 : decode cd_L_law 557 = .ok (.istore 6, 2) := by decide +kernel
theorem dw_559 : decode cd_L_law 559 = .ok (.aload_n 2, 1) := by decide +kernel
theorem dw_560 : decode cd_L_law 560 = .ok (.invokevirtual 70, 3) := by decide +kernel
theorem dw_563 : decode cd_L_law 563 = .ok (.iload 5, 2) := by decide +kernel
theorem dw_565 : decode cd_L_law 565 = .ok (.if_icmp .eq 5, 3) := by decide +kernel
theorem dw_568 : decode cd_L_law 568 = .ok (.iconst 0, 1) := by decide +kernel
theorem dw_569 : decode cd_L_law 569 = .ok (.ireturn, 1) := by decide +kernel
theorem dw_570 : decode cd_L_law 570 = .ok (.iload 5, 2) := by decide +kernel
theorem dw_572 : decode cd_L_law 572 = .ok (.ifCond .ne 15, 3) := by decide +kernel
theorem dw_575 : decode cd_L_law 575 = .ok (.aload_n 3, 1) := by decide +kernel
theorem dw_576 : decode cd_L_law 576 = .ok (.iconst 0, 1) := by decide +kernel
theorem dw_577 : decode cd_L_law 577 = .ok (.laload, 1) := by decide +kernel
theorem dw_578 : decode cd_L_law 578 = .ok (.iload 6, 2) := by decide +kernel
theorem dw_580 : decode cd_L_law 580 = .ok (.i2l, 1) := by decide +kernel
theorem dw_581 : decode cd_L_law 581 = .ok (.lcmp, 1) := by decide +kernel
theorem dw_582 : decode cd_L_law 582 = .ok (.ifCond .eq 5, 3) := by decide +kernel
theorem dw_585 : decode cd_L_law 585 = .ok (.iconst 0, 1) := by decide +kernel
theorem dw_586 : decode cd_L_law 586 = .ok (.ireturn, 1) := by decide +kernel
theorem dw_587 : decode cd_L_law 587 = .ok (.goto 301, 3) := by decide +kernel
theorem dw_590 : decode cd_L_law 590 = .ok (.aload_n 1, 1) := by decide +kernel
theorem dw_591 : decode cd_L_law 591 = .ok (.aload_n 0, 1) := by decide +kernel
theorem dw_592 : decode cd_L_law 592 = .ok (.iload 4, 2) := by decide +kernel
theorem dw_594 : decode cd_L_law 594 = .ok (.iconst 1, 1) := by decide +kernel
theorem dw_595 : decode cd_L_law 595 = .ok (.iadd, 1) := by decide +kernel
theorem dw_596 : decode cd_L_law 596 = .ok (.iaload, 1) := by decide +kernel
theorem dw_597 : decode cd_L_law 597 = .ok (.aload_n 3, 1) := by decide +kernel
theorem dw_598 : decode cd_L_law 598 = .ok (.invokestatic 102, 3) := by decide +kernel
theorem dw_601 : decode cd_L_law 601 = .ok (.istore 5, 2) := by decide +kernel
theorem dw_603 : decode cd_L_law 603 = .ok (.aload_n 2, 1) := by decide +kernel
theorem dw_604 : decode cd_L_law 604 = .ok (.aload_n 0, 1) := by decide +kernel
theorem dw_605 : decode cd_L_law 605 = .ok (.iload 4, 2) := by decide +kernel
theorem dw_607 : decode cd_L_law 607 = .ok (.iconst 1, 1) := by decide +kernel
theorem dw_608 : decode cd_L_law 608 = .ok (.iadd, 1) := by decide +kernel
theorem dw_609 : decode cd_L_law 609 = .ok (.iaload, 1) := by decide +kernel
theorem dw_610 : decode cd_L_law 610 = .ok (.invokevirtual 104, 3) := by decide +kernel
theorem dw_613 : decode cd_L_law 613 = .ok (.istore 6, 2) := by decide +kernel
theorem dw_615 : decode cd_L_law 615 = .ok (.aload_n 2, 1) := by decide +kernel
theorem dw_616 : decode cd_L_law 616 = .ok (.invokevirtual 70, 3) := by decide +kernel
theorem dw_619 : decode cd_L_law 619 = .ok (.iload 5, 2) := by decide +kernel
theorem dw_621 : decode cd_L_law 621 = .ok (.if_icmp .eq 5, 3) := by decide +kernel
theorem dw_624 : decode cd_L_law 624 = .ok (.iconst 0, 1) := by decide +kernel
theorem dw_625 : decode cd_L_law 625 = .ok (.ireturn, 1) := by decide +kernel
theorem dw_626 : decode cd_L_law 626 = .ok (.iload 5, 2) := by decide +kernel
theorem dw_628 : decode cd_L_law 628 = .ok (.ifCond .ne 15, 3) := by decide +kernel
theorem dw_631 : decode cd_L_law 631 = .ok (.aload_n 3, 1) := by decide +kernel
theorem dw_632 : decode cd_L_law 632 = .ok (.iconst 0, 1) := by decide +kernel
theorem dw_633 : decode cd_L_law 633 = .ok (.laload, 1) := by decide +kernel
theorem dw_634 : decode cd_L_law 634 = .ok (.iload 6, 2) := by decide +kernel
theorem dw_636 : decode cd_L_law 636 = .ok (.i2l, 1) := by decide +kernel
theorem dw_637 : decode cd_L_law 637 = .ok (.lcmp, 1) := by decide +kernel
theorem dw_638 : decode cd_L_law 638 = .ok (.ifCond .eq 5, 3) := by decide +kernel
theorem dw_641 : decode cd_L_law 641 = .ok (.iconst 0, 1) := by decide +kernel
theorem dw_642 : decode cd_L_law 642 = .ok (.ireturn, 1) := by decide +kernel
theorem dw_643 : decode cd_L_law 643 = .ok (.goto 245, 3) := by decide +kernel
theorem dw_646 : decode cd_L_law 646 = .ok (.aload_n 1, 1) := by decide +kernel
theorem dw_647 : decode cd_L_law 647 = .ok (.aload_n 0, 1) := by decide +kernel
theorem dw_648 : decode cd_L_law 648 = .ok (.iload 4, 2) := by decide +kernel
theorem dw_650 : decode cd_L_law 650 = .ok (.iconst 1, 1) := by decide +kernel
theorem dw_651 : decode cd_L_law 651 = .ok (.iadd, 1) := by decide +kernel
theorem dw_652 : decode cd_L_law 652 = .ok (.iaload, 1) := by decide +kernel
theorem dw_653 : decode cd_L_law 653 = .ok (.aload_n 3, 1) := by decide +kernel
theorem dw_654 : decode cd_L_law 654 = .ok (.invokestatic 105, 3) := by decide +kernel
theorem dw_657 : decode cd_L_law 657 = .ok (.istore 5, 2) := by decide +kernel
theorem dw_659 : decode cd_L_law 659 = .ok (.aload_n 2, 1) := by decide +kernel
theorem dw_660 : decode cd_L_law 660 = .ok (.aload_n 0, 1) := by decide +kernel
theorem dw_661 : decode cd_L_law 661 = .ok (.iload 4, 2) := by decide +kernel
theorem dw_663 : decode cd_L_law 663 = .ok (.iconst 1, 1) := by decide +kernel
theorem dw_664 : decode cd_L_law 664 = .ok (.iadd, 1) := by decide +kernel
theorem dw_665 : decode cd_L_law 665 = .ok (.iaload, 1) := by decide +kernel
theorem dw_666 : decode cd_L_law 666 = .ok (.invokevirtual 107, 3) := by decide +kernel
theorem dw_669 : decode cd_L_law 669 = .ok (.istore 6, 2) := by decide +kernel
theorem dw_671 : decode cd_L_law 671 = .ok (.aload_n 2, 1) := by decide +kernel
theorem dw_672 : decode cd_L_law 672 = .ok (.invokevirtual 70, 3) := by decide +kernel
theorem dw_675 : decode cd_L_law 675 = .ok (.iload 5, 2) := by decide +kernel
theorem dw_677 : decode cd_L_law 677 = .ok (.if_icmp .eq 5, 3) := by decide +kernel
theorem dw_680 : decode cd_L_law 680 = .ok (.iconst 0, 1) := by decide +kernel
theorem dw_681 : decode cd_L_law 681 = .ok (.ireturn, 1) := by decide +kernel
theorem dw_682 : decode cd_L_law 682 = .ok (.iload 5, 2) := by decide +kernel
theorem dw_684 : decode cd_L_law 684 = .ok (.ifCond .ne 15, 3) := by decide +kernel
theorem dw_687 : decode cd_L_law 687 = .ok (.aload_n 3, 1) := by decide +kernel
theorem dw_688 : decode cd_L_law 688 = .ok (.iconst 0, 1) := by decide +kernel
theorem dw_689 : decode cd_L_law 689 = .ok (.laload, 1) := by decide +kernel
theorem dw_690 : decode cd_L_law 690 = .ok (.iload 6, 2) := by decide +kernel
theorem dw_692 : decode cd_L_law 692 = .ok (.i2l, 1) := by decide +kernel
theorem dw_693 : decode cd_L_law 693 = .ok (.lcmp, 1) := by decide +kernel
theorem dw_694 : decode cd_L_law 694 = .ok (.ifCond .eq 5, 3) := by decide +kernel
theorem dw_697 : decode cd_L_law 697 = .ok (.iconst 0, 1) := by decide +kernel
theorem dw_698 : decode cd_L_law 698 = .ok (.ireturn, 1) := by decide +kernel
theorem dw_699 : decode cd_L_law 699 = .ok (.goto 189, 3) := by decide +kernel
theorem dw_702 : decode cd_L_law 702 = .ok (.aload_n 1, 1) := by decide +kernel
theorem dw_703 : decode cd_L_law 703 = .ok (.invokevirtual 108, 3) := by decide +kernel
theorem dw_706 : decode cd_L_law 706 = .ok (.aload_n 2, 1) := by decide +kernel
theorem dw_707 : decode cd_L_law 707 = .ok (.invokevirtual 111, 3) := by decide +kernel
theorem dw_710 : decode cd_L_law 710 = .ok (.if_icmp .eq 178, 3) := by decide +kernel
theorem dw_713 : decode cd_L_law 713 = .ok (.iconst 0, 1) := by decide +kernel
theorem dw_714 : decode cd_L_law 714 = .ok (.ireturn, 1) := by decide +kernel
theorem dw_715 : decode cd_L_law 715 = .ok (.aload_n 1, 1) := by decide +kernel
theorem dw_716 : decode cd_L_law 716 = .ok (.invokevirtual 112, 3) := by decide +kernel
theorem dw_719 : decode cd_L_law 719 = .ok (.aload_n 2, 1) := by decide +kernel
theorem dw_720 : decode cd_L_law 720 = .ok (.invokevirtual 115, 3) := by decide +kernel
theorem dw_723 : decode cd_L_law 723 = .ok (.if_icmp .eq 165, 3) := by decide +kernel
theorem dw_726 : decode cd_L_law 726 = .ok (.iconst 0, 1) := by decide +kernel
theorem dw_727 : decode cd_L_law 727 = .ok (.ireturn, 1) := by decide +kernel
theorem dw_728 : decode cd_L_law 728 = .ok (.aload_n 1, 1) := by decide +kernel
theorem dw_729 : decode cd_L_law 729 = .ok (.aload_n 0, 1) := by decide +kernel
theorem dw_730 : decode cd_L_law 730 = .ok (.iload 4, 2) := by decide +kernel
theorem dw_732 : decode cd_L_law 732 = .ok (.iconst 1, 1) := by decide +kernel
theorem dw_733 : decode cd_L_law 733 = .ok (.iadd, 1) := by decide +kernel
theorem dw_734 : decode cd_L_law 734 = .ok (.iaload, 1) := by decide +kernel
theorem dw_735 : decode cd_L_law 735 = .ok (.aload_n 0, 1) := by decide +kernel
theorem dw_736 : decode cd_L_law 736 = .ok (.iload 4, 2) := by decide +kernel
theorem dw_738 : decode cd_L_law 738 = .ok (.iconst 2, 1) := by decide +kernel
theorem dw_739 : decode cd_L_law 739 = .ok (.iadd, 1) := by decide +kernel
theorem dw_740 : decode cd_L_law 740 = .ok (.iaload, 1) := by decide +kernel
theorem dw_741 : decode cd_L_law 741 = .ok (.aload_n 0, 1) := by decide +kernel
theorem dw_742 : decode cd_L_law 742 = .ok (.iload 4, 2) := by decide +kernel
theorem dw_744 : decode cd_L_law 744 = .ok (.iconst 3, 1) := by decide +kernel
theorem dw_745 : decode cd_L_law 745 = .ok (.iadd, 1) := by decide +kernel
theorem dw_746 : decode cd_L_law 746 = .ok (.iaload, 1) := by decide +kernel
theorem dw_747 : decode cd_L_law 747 = .ok (.aload_n 3, 1) := by decide +kernel
theorem dw_748 : decode cd_L_law 748 = .ok (.invokestatic 116, 3) := by decide +kernel
theorem dw_751 : decode cd_L_law 751 = .ok (.istore 5, 2) := by decide +kernel
theorem dw_753 : decode cd_L_law 753 = .ok (.aload_n 2, 1) := by decide +kernel
theorem dw_754 : decode cd_L_law 754 = .ok (.aload_n 0, 1) := by decide +kernel
theorem dw_755 : decode cd_L_law 755 = .ok (.iload 4, 2) := by decide +kernel
theorem dw_757 : decode cd_L_law 757 = .ok (.iconst 1, 1) := by decide +kernel
theorem dw_758 : decode cd_L_law 758 = .ok (.iadd, 1) := by decide +kernel
theorem dw_759 : decode cd_L_law 759 = .ok (.iaload, 1) := by decide +kernel
theorem dw_760 : decode cd_L_law 760 = .ok (.aload_n 0, 1) := by decide +kernel
theorem dw_761 : decode cd_L_law 761 = .ok (.iload 4, 2) := by decide +kernel
theorem dw_763 : decode cd_L_law 763 = .ok (.iconst 2, 1) := by decide +kernel
theorem dw_764 : decode cd_L_law 764 = .ok (.iadd, 1) := by decide +kernel
theorem dw_765 : decode cd_L_law 765 = .ok (.iaload, 1) := by decide +kernel
theorem dw_766 : decode cd_L_law 766 = .ok (.aload_n 0, 1) := by decide +kernel
theorem dw_767 : decode cd_L_law 767 = .ok (.iload 4, 2) := by decide +kernel
theorem dw_769 : decode cd_L_law 769 = .ok (.iconst 3, 1) := by decide +kernel
theorem dw_770 : decode cd_L_law 770 = .ok (.iadd, 1) := by decide +kernel
theorem dw_771 : decode cd_L_law 771 = .ok (.iaload, 1) := by decide +kernel
theorem dw_772 : decode cd_L_law 772 = .ok (.invokevirtual 119, 3) := by decide +kernel
theorem dw_775 : decode cd_L_law 775 = .ok (.istore 6, 2) := by decide +kernel
theorem dw_777 : decode cd_L_law 777 = .ok (.aload_n 2, 1) := by decide +kernel
theorem dw_778 : decode cd_L_law 778 = .ok (.invokevirtual 70, 3) := by decide +kernel
theorem dw_781 : decode cd_L_law 781 = .ok (.iload 5, 2) := by decide +kernel
theorem dw_783 : decode cd_L_law 783 = .ok (.if_icmp .eq 5, 3) := by decide +kernel
theorem dw_786 : decode cd_L_law 786 = .ok (.iconst 0, 1) := by decide +kernel
theorem dw_787 : decode cd_L_law 787 = .ok (.ireturn, 1) := by decide +kernel
theorem dw_788 : decode cd_L_law 788 = .ok (.iload 5, 2) := by decide +kernel
theorem dw_790 : decode cd_L_law 790 = .ok (.ifCond .ne 15, 3) := by decide +kernel
theorem dw_793 : decode cd_L_law 793 = .ok (.aload_n 3, 1) := by decide +kernel
theorem dw_794 : decode cd_L_law 794 = .ok (.iconst 0, 1) := by decide +kernel
theorem dw_795 : decode cd_L_law 795 = .ok (.laload, 1) := by decide +kernel
theorem dw_796 : decode cd_L_law 796 = .ok (.iload 6, 2) := by decide +kernel
theorem dw_798 : decode cd_L_law 798 = .ok (.i2l, 1) := by decide +kernel
theorem dw_799 : decode cd_L_law 799 = .ok (.lcmp, 1) := by decide +kernel
theorem dw_800 : decode cd_L_law 800 = .ok (.ifCond .eq 5, 3) := by decide +kernel
theorem dw_803 : decode cd_L_law 803 = .ok (.iconst 0, 1) := by decide +kernel
theorem dw_804 : decode cd_L_law 804 = .ok (.ireturn, 1) := by decide +kernel
theorem dw_805 : decode cd_L_law 805 = .ok (.goto 83, 3) := by decide +kernel
theorem dw_808 : decode cd_L_law 808 = .ok (.aload_n 1, 1) := by decide +kernel
theorem dw_809 : decode cd_L_law 809 = .ok (.aload_n 0, 1) := by decide +kernel
theorem dw_810 : decode cd_L_law 810 = .ok (.iload 4, 2) := by decide +kernel
theorem dw_812 : decode cd_L_law 812 = .ok (.iconst 1, 1) := by decide +kernel
theorem dw_813 : decode cd_L_law 813 = .ok (.iadd, 1) := by decide +kernel
theorem dw_814 : decode cd_L_law 814 = .ok (.iaload, 1) := by decide +kernel
theorem dw_815 : decode cd_L_law 815 = .ok (.aload_n 0, 1) := by decide +kernel
theorem dw_816 : decode cd_L_law 816 = .ok (.iload 4, 2) := by decide +kernel
theorem dw_818 : decode cd_L_law 818 = .ok (.iconst 2, 1) := by decide +kernel
theorem dw_819 : decode cd_L_law 819 = .ok (.iadd, 1) := by decide +kernel
theorem dw_820 : decode cd_L_law 820 = .ok (.iaload, 1) := by decide +kernel
theorem dw_821 : decode cd_L_law 821 = .ok (.aload_n 0, 1) := by decide +kernel
theorem dw_822 : decode cd_L_law 822 = .ok (.iload 4, 2) := by decide +kernel
theorem dw_824 : decode cd_L_law 824 = .ok (.iconst 3, 1) := by decide +kernel
theorem dw_825 : decode cd_L_law 825 = .ok (.iadd, 1) := by decide +kernel
theorem dw_826 : decode cd_L_law 826 = .ok (.iaload, 1) := by decide +kernel
theorem dw_827 : decode cd_L_law 827 = .ok (.aload_n 3, 1) := by decide +kernel
theorem dw_828 : decode cd_L_law 828 = .ok (.invokestatic 120, 3) := by decide +kernel
theorem dw_831 : decode cd_L_law 831 = .ok (.istore 5, 2) := by decide +kernel
theorem dw_833 : decode cd_L_law 833 = .ok (.aload_n 2, 1) := by decide +kernel
theorem dw_834 : decode cd_L_law 834 = .ok (.aload_n 0, 1) := by decide +kernel
theorem dw_835 : decode cd_L_law 835 = .ok (.iload 4, 2) := by decide +kernel
theorem dw_837 : decode cd_L_law 837 = .ok (.iconst 1, 1) := by decide +kernel
theorem dw_838 : decode cd_L_law 838 = .ok (.iadd, 1) := by decide +kernel
theorem dw_839 : decode cd_L_law 839 = .ok (.iaload, 1) := by decide +kernel
theorem dw_840 : decode cd_L_law 840 = .ok (.aload_n 0, 1) := by decide +kernel
theorem dw_841 : decode cd_L_law 841 = .ok (.iload 4, 2) := by decide +kernel
theorem dw_843 : decode cd_L_law 843 = .ok (.iconst 2, 1) := by decide +kernel
theorem dw_844 : decode cd_L_law 844 = .ok (.iadd, 1) := by decide +kernel
theorem dw_845 : decode cd_L_law 845 = .ok (.iaload, 1) := by decide +kernel
theorem dw_846 : decode cd_L_law 846 = .ok (.aload_n 0, 1) := by decide +kernel
theorem dw_847 : decode cd_L_law 847 = .ok (.iload 4, 2) := by decide +kernel
theorem dw_849 : decode cd_L_law 849 = .ok (.iconst 3, 1) := by decide +kernel
theorem dw_850 : decode cd_L_law 850 = .ok (.iadd, 1) := by decide +kernel
theorem dw_851 : decode cd_L_law 851 = .ok (.iaload, 1) := by decide +kernel
theorem dw_852 : decode cd_L_law 852 = .ok (.invokevirtual 122, 3) := by decide +kernel
theorem dw_855 : decode cd_L_law 855 = .ok (.istore 6, 2) := by decide +kernel
theorem dw_857 : decode cd_L_law 857 = .ok (.aload_n 2, 1) := by decide +kernel
theorem dw_858 : decode cd_L_law 858 = .ok (.invokevirtual 70, 3) := by decide +kernel
theorem dw_861 : decode cd_L_law 861 = .ok (.iload 5, 2) := by decide +kernel
theorem dw_863 : decode cd_L_law 863 = .ok (.if_icmp .eq 5, 3) := by decide +kernel
theorem dw_866 : decode cd_L_law 866 = .ok (.iconst 0, 1) := by decide +kernel
theorem dw_867 : decode cd_L_law 867 = .ok (.ireturn, 1) := by decide +kernel
theorem dw_868 : decode cd_L_law 868 = .ok (.iload 5, 2) := by decide +kernel
theorem dw_870 : decode cd_L_law 870 = .ok (.ifCond .ne 15, 3) := by decide +kernel
theorem dw_873 : decode cd_L_law 873 = .ok (.aload_n 3, 1) := by decide +kernel
theorem dw_874 : decode cd_L_law 874 = .ok (.iconst 0, 1) := by decide +kernel
theorem dw_875 : decode cd_L_law 875 = .ok (.laload, 1) := by decide +kernel
theorem dw_876 : decode cd_L_law 876 = .ok (.iload 6, 2) := by decide +kernel
theorem dw_878 : decode cd_L_law 878 = .ok (.i2l, 1) := by decide +kernel
theorem dw_879 : decode cd_L_law 879 = .ok (.lcmp, 1) := by decide +kernel
theorem dw_880 : decode cd_L_law 880 = .ok (.ifCond .eq 5, 3) := by decide +kernel
theorem dw_883 : decode cd_L_law 883 = .ok (.iconst 0, 1) := by decide +kernel
theorem dw_884 : decode cd_L_law 884 = .ok (.ireturn, 1) := by decide +kernel
theorem dw_885 : decode cd_L_law 885 = .ok (.goto 3, 3) := by decide +kernel
theorem dw_888 : decode cd_L_law 888 = .ok (.iinc 4 5, 3) := by decide +kernel
theorem dw_891 : decode cd_L_law 891 = .ok (.goto (-848), 3) := by decide +kernel
theorem dw_894 : decode cd_L_law 894 = .ok (.iconst 1, 1) := by decide +kernel
theorem dw_895 : decode cd_L_law 895 = .ok (.ireturn, 1) := by decide +kernel
end DEC_L
