section DEC_01x
theorem dc_M_init_0 : decode cd_M_init 0 = .ok (.aload_n 0, 1) := by decide +kernel
theorem dc_M_init_1 : decode cd_M_init 1 = .ok (.invokespecial 1, 3) := by decide +kernel
theorem dc_M_init_4 : decode cd_M_init 4 = .ok (.aload_n 0, 1) := by decide +kernel
theorem dc_M_init_5 : decode cd_M_init 5 = .ok (.bipush 32, 2) := by decide +kernel
theorem dc_M_init_7 : decode cd_M_init 7 = .ok (.newarray .boolean, 2) := by decide +kernel
theorem dc_M_init_9 : decode cd_M_init 9 = .ok (.putfield 7, 3) := by decide +kernel
theorem dc_M_init_12 : decode cd_M_init 12 = .ok (.aload_n 0, 1) := by decide +kernel
theorem dc_M_init_13 : decode cd_M_init 13 = .ok (.bipush 32, 2) := by decide +kernel
theorem dc_M_init_15 : decode cd_M_init 15 = .ok (.newarray .int, 2) := by decide +kernel
theorem dc_M_init_17 : decode cd_M_init 17 = .ok (.putfield 13, 3) := by decide +kernel
theorem dc_M_init_20 : decode cd_M_init 20 = .ok (.aload_n 0, 1) := by decide +kernel
theorem dc_M_init_21 : decode cd_M_init 21 = .ok (.bipush 32, 2) := by decide +kernel
theorem dc_M_init_23 : decode cd_M_init 23 = .ok (.newarray .int, 2) := by decide +kernel
theorem dc_M_init_25 : decode cd_M_init 25 = .ok (.putfield 17, 3) := by decide +kernel
theorem dc_M_init_28 : decode cd_M_init 28 = .ok (.aload_n 0, 1) := by decide +kernel
theorem dc_M_init_29 : decode cd_M_init 29 = .ok (.bipush 32, 2) := by decide +kernel
theorem dc_M_init_31 : decode cd_M_init 31 = .ok (.newarray .int, 2) := by decide +kernel
theorem dc_M_init_33 : decode cd_M_init 33 = .ok (.putfield 20, 3) := by decide +kernel
theorem dc_M_init_36 : decode cd_M_init 36 = .ok (.aload_n 0, 1) := by decide +kernel
theorem dc_M_init_37 : decode cd_M_init 37 = .ok (.bipush 32, 2) := by decide +kernel
theorem dc_M_init_39 : decode cd_M_init 39 = .ok (.newarray .int, 2) := by decide +kernel
theorem dc_M_init_41 : decode cd_M_init 41 = .ok (.putfield 23, 3) := by decide +kernel
theorem dc_M_init_44 : decode cd_M_init 44 = .ok (.aload_n 0, 1) := by decide +kernel
theorem dc_M_init_45 : decode cd_M_init 45 = .ok (.bipush 32, 2) := by decide +kernel
theorem dc_M_init_47 : decode cd_M_init 47 = .ok (.newarray .int, 2) := by decide +kernel
theorem dc_M_init_49 : decode cd_M_init 49 = .ok (.putfield 26, 3) := by decide +kernel
theorem dc_M_init_52 : decode cd_M_init 52 = .ok (.aload_n 0, 1) := by decide +kernel
theorem dc_M_init_53 : decode cd_M_init 53 = .ok (.bipush 32, 2) := by decide +kernel
theorem dc_M_init_55 : decode cd_M_init 55 = .ok (.newarray .int, 2) := by decide +kernel
theorem dc_M_init_57 : decode cd_M_init 57 = .ok (.putfield 29, 3) := by decide +kernel
theorem dc_M_init_60 : decode cd_M_init 60 = .ok (.aload_n 0, 1) := by decide +kernel
theorem dc_M_init_61 : decode cd_M_init 61 = .ok (.iconst 5, 1) := by decide +kernel
theorem dc_M_init_62 : decode cd_M_init 62 = .ok (.newarray .int, 2) := by decide +kernel
theorem dc_M_init_64 : decode cd_M_init 64 = .ok (.putfield 32, 3) := by decide +kernel
theorem dc_M_init_67 : decode cd_M_init 67 = .ok (.aload_n 0, 1) := by decide +kernel
theorem dc_M_init_68 : decode cd_M_init 68 = .ok (.iconst 5, 1) := by decide +kernel
theorem dc_M_init_69 : decode cd_M_init 69 = .ok (.newarray .int, 2) := by decide +kernel
theorem dc_M_init_71 : decode cd_M_init 71 = .ok (.putfield 35, 3) := by decide +kernel
theorem dc_M_init_74 : decode cd_M_init 74 = .ok (.aload_n 0, 1) := by decide +kernel
theorem dc_M_init_75 : decode cd_M_init 75 = .ok (.iconst 5, 1) := by decide +kernel
theorem dc_M_init_76 : decode cd_M_init 76 = .ok (.newarray .int, 2) := by decide +kernel
theorem dc_M_init_78 : decode cd_M_init 78 = .ok (.putfield 38, 3) := by decide +kernel
theorem dc_M_init_81 : decode cd_M_init 81 = .ok (.aload_n 0, 1) := by decide +kernel
theorem dc_M_init_82 : decode cd_M_init 82 = .ok (.iconst 5, 1) := by decide +kernel
theorem dc_M_init_83 : decode cd_M_init 83 = .ok (.newarray .int, 2) := by decide +kernel
theorem dc_M_init_85 : decode cd_M_init 85 = .ok (.putfield 41, 3) := by decide +kernel
theorem dc_M_init_88 : decode cd_M_init 88 = .ok (.aload_n 0, 1) := by decide +kernel
theorem dc_M_init_89 : decode cd_M_init 89 = .ok (.iconst 5, 1) := by decide +kernel
theorem dc_M_init_90 : decode cd_M_init 90 = .ok (.newarray .int, 2) := by decide +kernel
theorem dc_M_init_92 : decode cd_M_init 92 = .ok (.putfield 44, 3) := by decide +kernel
theorem dc_M_init_95 : decode cd_M_init 95 = .ok (.aload_n 0, 1) := by decide +kernel
theorem dc_M_init_96 : decode cd_M_init 96 = .ok (.iconst 5, 1) := by decide +kernel
theorem dc_M_init_97 : decode cd_M_init 97 = .ok (.newarray .int, 2) := by decide +kernel
theorem dc_M_init_99 : decode cd_M_init 99 = .ok (.putfield 47, 3) := by decide +kernel
theorem dc_M_init_102 : decode cd_M_init 102 = .ok (.aload_n 0, 1) := by decide +kernel
theorem dc_M_init_103 : decode cd_M_init 103 = .ok (.iconst 5, 1) := by decide +kernel
theorem dc_M_init_104 : decode cd_M_init 104 = .ok (.newarray .int, 2) := by decide +kernel
theorem dc_M_init_106 : decode cd_M_init 106 = .ok (.putfield 50, 3) := by decide +kernel
theorem dc_M_init_109 : decode cd_M_init 109 = .ok (.aload_n 0, 1) := by decide +kernel
theorem dc_M_init_110 : decode cd_M_init 110 = .ok (.iconst 5, 1) := by decide +kernel
theorem dc_M_init_111 : decode cd_M_init 111 = .ok (.newarray .int, 2) := by decide +kernel
theorem dc_M_init_113 : decode cd_M_init 113 = .ok (.putfield 53, 3) := by decide +kernel
theorem dc_M_init_116 : decode cd_M_init 116 = .ok (.aload_n 0, 1) := by decide +kernel
theorem dc_M_init_117 : decode cd_M_init 117 = .ok (.iconst 5, 1) := by decide +kernel
theorem dc_M_init_118 : decode cd_M_init 118 = .ok (.newarray .int, 2) := by decide +kernel
theorem dc_M_init_120 : decode cd_M_init 120 = .ok (.putfield 56, 3) := by decide +kernel
theorem dc_M_init_123 : decode cd_M_init 123 = .ok (.aload_n 0, 1) := by decide +kernel
theorem dc_M_init_124 : decode cd_M_init 124 = .ok (.iconst 5, 1) := by decide +kernel
theorem dc_M_init_125 : decode cd_M_init 125 = .ok (.newarray .int, 2) := by decide +kernel
theorem dc_M_init_127 : decode cd_M_init 127 = .ok (.putfield 59, 3) := by decide +kernel
theorem dc_M_init_130 : decode cd_M_init 130 = .ok (.aload_n 0, 1) := by decide +kernel
theorem dc_M_init_131 : decode cd_M_init 131 = .ok (.iconst 5, 1) := by decide +kernel
theorem dc_M_init_132 : decode cd_M_init 132 = .ok (.newarray .int, 2) := by decide +kernel
theorem dc_M_init_134 : decode cd_M_init 134 = .ok (.putfield 62, 3) := by decide +kernel
theorem dc_M_init_137 : decode cd_M_init 137 = .ok (.aload_n 0, 1) := by decide +kernel
theorem dc_M_init_138 : decode cd_M_init 138 = .ok (.iconst 5, 1) := by decide +kernel
theorem dc_M_init_139 : decode cd_M_init 139 = .ok (.newarray .int, 2) := by decide +kernel
theorem dc_M_init_141 : decode cd_M_init 141 = .ok (.putfield 65, 3) := by decide +kernel
theorem dc_M_init_144 : decode cd_M_init 144 = .ok (.aload_n 0, 1) := by decide +kernel
theorem dc_M_init_145 : decode cd_M_init 145 = .ok (.iconst 5, 1) := by decide +kernel
theorem dc_M_init_146 : decode cd_M_init 146 = .ok (.newarray .int, 2) := by decide +kernel
theorem dc_M_init_148 : decode cd_M_init 148 = .ok (.putfield 68, 3) := by decide +kernel
theorem dc_M_init_151 : decode cd_M_init 151 = .ok (.aload_n 0, 1) := by decide +kernel
theorem dc_M_init_152 : decode cd_M_init 152 = .ok (.sipush 600, 3) := by decide +kernel
theorem dc_M_init_155 : decode cd_M_init 155 = .ok (.newarray .int, 2) := by decide +kernel
theorem dc_M_init_157 : decode cd_M_init 157 = .ok (.putfield 71, 3) := by decide +kernel
theorem dc_M_init_160 : decode cd_M_init 160 = .ok (.aload_n 0, 1) := by decide +kernel
theorem dc_M_init_161 : decode cd_M_init 161 = .ok (.sipush 600, 3) := by decide +kernel
theorem dc_M_init_164 : decode cd_M_init 164 = .ok (.newarray .int, 2) := by decide +kernel
theorem dc_M_init_166 : decode cd_M_init 166 = .ok (.putfield 74, 3) := by decide +kernel
theorem dc_M_init_169 : decode cd_M_init 169 = .ok (.aload_n 0, 1) := by decide +kernel
theorem dc_M_init_170 : decode cd_M_init 170 = .ok (.sipush 600, 3) := by decide +kernel
theorem dc_M_init_173 : decode cd_M_init 173 = .ok (.newarray .int, 2) := by decide +kernel
theorem dc_M_init_175 : decode cd_M_init 175 = .ok (.putfield 77, 3) := by decide +kernel
theorem dc_M_init_178 : decode cd_M_init 178 = .ok (.aload_n 0, 1) := by decide +kernel
theorem dc_M_init_179 : decode cd_M_init 179 = .ok (.bipush 8, 2) := by decide +kernel
theorem dc_M_init_181 : decode cd_M_init 181 = .ok (.newarray .int, 2) := by decide +kernel
theorem dc_M_init_183 : decode cd_M_init 183 = .ok (.putfield 80, 3) := by decide +kernel
theorem dc_M_init_186 : decode cd_M_init 186 = .ok (.aload_n 0, 1) := by decide +kernel
theorem dc_M_init_187 : decode cd_M_init 187 = .ok (.bipush 8, 2) := by decide +kernel
theorem dc_M_init_189 : decode cd_M_init 189 = .ok (.newarray .int, 2) := by decide +kernel
theorem dc_M_init_191 : decode cd_M_init 191 = .ok (.putfield 83, 3) := by decide +kernel
theorem dc_M_init_194 : decode cd_M_init 194 = .ok (.aload_n 0, 1) := by decide +kernel
theorem dc_M_init_195 : decode cd_M_init 195 = .ok (.iload_n 1, 1) := by decide +kernel
theorem dc_M_init_196 : decode cd_M_init 196 = .ok (.ifCond .ge 7, 3) := by decide +kernel
theorem dc_M_init_199 : decode cd_M_init 199 = .ok (.iconst 0, 1) := by decide +kernel
theorem dc_M_init_200 : decode cd_M_init 200 = .ok (.goto 13, 3) := by decide +kernel
theorem dc_M_init_203 : decode cd_M_init 203 = .ok (.iload_n 1, 1) := by decide +kernel
theorem dc_M_init_204 : decode cd_M_init 204 = .ok (.iconst 3, 1) := by decide +kernel
theorem dc_M_init_205 : decode cd_M_init 205 = .ok (.if_icmp .le 7, 3) := by decide +kernel
theorem dc_M_init_208 : decode cd_M_init 208 = .ok (.iconst 3, 1) := by decide +kernel
theorem dc_M_init_209 : decode cd_M_init 209 = .ok (.goto 4, 3) := by decide +kernel
theorem dc_M_init_212 : decode cd_M_init 212 = .ok (.iload_n 1, 1) := by decide +kernel
theorem dc_M_init_213 : decode cd_M_init 213 = .ok (.putfield 86, 3) := by decide +kernel
theorem dc_M_init_216 : decode cd_M_init 216 = .ok (.aload_n 0, 1) := by decide +kernel
theorem dc_M_init_217 : decode cd_M_init 217 = .ok (.iload_n 2, 1) := by decide +kernel
theorem dc_M_init_218 : decode cd_M_init 218 = .ok (.iconst 1, 1) := by decide +kernel
theorem dc_M_init_219 : decode cd_M_init 219 = .ok (.if_icmp .ge 7, 3) := by decide +kernel
theorem dc_M_init_222 : decode cd_M_init 222 = .ok (.iconst 1, 1) := by decide +kernel
theorem dc_M_init_223 : decode cd_M_init 223 = .ok (.goto 13, 3) := by decide +kernel
theorem dc_M_init_226 : decode cd_M_init 226 = .ok (.iload_n 2, 1) := by decide +kernel
theorem dc_M_init_227 : decode cd_M_init 227 = .ok (.iconst 5, 1) := by decide +kernel
theorem dc_M_init_228 : decode cd_M_init 228 = .ok (.if_icmp .le 7, 3) := by decide +kernel
theorem dc_M_init_231 : decode cd_M_init 231 = .ok (.iconst 5, 1) := by decide +kernel
theorem dc_M_init_232 : decode cd_M_init 232 = .ok (.goto 4, 3) := by decide +kernel
theorem dc_M_init_235 : decode cd_M_init 235 = .ok (.iload_n 2, 1) := by decide +kernel
theorem dc_M_init_236 : decode cd_M_init 236 = .ok (.putfield 90, 3) := by decide +kernel
theorem dc_M_init_239 : decode cd_M_init 239 = .ok (.aload_n 0, 1) := by decide +kernel
theorem dc_M_init_240 : decode cd_M_init 240 = .ok (.getfield 7, 3) := by decide +kernel
theorem dc_M_init_243 : decode cd_M_init 243 = .ok (.iconst 0, 1) := by decide +kernel
theorem dc_M_init_244 : decode cd_M_init 244 = .ok (.iconst 1, 1) := by decide +kernel
theorem dc_M_init_245 : decode cd_M_init 245 = .ok (.bastore, 1) := by decide +kernel
theorem dc_M_init_246 : decode cd_M_init 246 = .ok (.aload_n 0, 1) := by decide +kernel
theorem dc_M_init_247 : decode cd_M_init 247 = .ok (.getfield 13, 3) := by decide +kernel
theorem dc_M_init_250 : decode cd_M_init 250 = .ok (.iconst 0, 1) := by decide +kernel
theorem dc_M_init_251 : decode cd_M_init 251 = .ok (.iconst 1, 1) := by decide +kernel
theorem dc_M_init_252 : decode cd_M_init 252 = .ok (.iastore, 1) := by decide +kernel
theorem dc_M_init_253 : decode cd_M_init 253 = .ok (.aload_n 0, 1) := by decide +kernel
theorem dc_M_init_254 : decode cd_M_init 254 = .ok (.iconst 1, 1) := by decide +kernel
theorem dc_M_init_255 : decode cd_M_init 255 = .ok (.putfield 93, 3) := by decide +kernel
theorem dc_M_init_258 : decode cd_M_init 258 = .ok (.iconst 0, 1) := by decide +kernel
theorem dc_M_init_259 : decode cd_M_init 259 = .ok (.istore_n 3, 1) := by decide +kernel
theorem dc_M_init_260 : decode cd_M_init 260 = .ok (.iload_n 3, 1) := by decide +kernel
theorem dc_M_init_261 : decode cd_M_init 261 = .ok (.bipush 32, 2) := by decide +kernel
theorem dc_M_init_263 : decode cd_M_init 263 = .ok (.if_icmp .ge 23, 3) := by decide +kernel
theorem dc_M_init_266 : decode cd_M_init 266 = .ok (.aload_n 0, 1) := by decide +kernel
theorem dc_M_init_267 : decode cd_M_init 267 = .ok (.getfield 17, 3) := by decide +kernel
theorem dc_M_init_270 : decode cd_M_init 270 = .ok (.iload_n 3, 1) := by decide +kernel
theorem dc_M_init_271 : decode cd_M_init 271 = .ok (.iconst (-1), 1) := by decide +kernel
theorem dc_M_init_272 : decode cd_M_init 272 = .ok (.iastore, 1) := by decide +kernel
theorem dc_M_init_273 : decode cd_M_init 273 = .ok (.aload_n 0, 1) := by decide +kernel
theorem dc_M_init_274 : decode cd_M_init 274 = .ok (.getfield 20, 3) := by decide +kernel
theorem dc_M_init_277 : decode cd_M_init 277 = .ok (.iload_n 3, 1) := by decide +kernel
theorem dc_M_init_278 : decode cd_M_init 278 = .ok (.iconst (-1), 1) := by decide +kernel
theorem dc_M_init_279 : decode cd_M_init 279 = .ok (.iastore, 1) := by decide +kernel
theorem dc_M_init_280 : decode cd_M_init 280 = .ok (.iinc 3 1, 3) := by decide +kernel
theorem dc_M_init_283 : decode cd_M_init 283 = .ok (.goto (-23), 3) := by decide +kernel
theorem dc_M_init_286 : decode cd_M_init 286 = .ok (.iconst 0, 1) := by decide +kernel
theorem dc_M_init_287 : decode cd_M_init 287 = .ok (.istore_n 3, 1) := by decide +kernel
theorem dc_M_init_288 : decode cd_M_init 288 = .ok (.iload_n 3, 1) := by decide +kernel
theorem dc_M_init_289 : decode cd_M_init 289 = .ok (.iconst 5, 1) := by decide +kernel
theorem dc_M_init_290 : decode cd_M_init 290 = .ok (.if_icmp .ge 30, 3) := by decide +kernel
theorem dc_M_init_293 : decode cd_M_init 293 = .ok (.aload_n 0, 1) := by decide +kernel
theorem dc_M_init_294 : decode cd_M_init 294 = .ok (.getfield 35, 3) := by decide +kernel
theorem dc_M_init_297 : decode cd_M_init 297 = .ok (.iload_n 3, 1) := by decide +kernel
theorem dc_M_init_298 : decode cd_M_init 298 = .ok (.iconst (-1), 1) := by decide +kernel
theorem dc_M_init_299 : decode cd_M_init 299 = .ok (.iastore, 1) := by decide +kernel
theorem dc_M_init_300 : decode cd_M_init 300 = .ok (.aload_n 0, 1) := by decide +kernel
theorem dc_M_init_301 : decode cd_M_init 301 = .ok (.getfield 38, 3) := by decide +kernel
theorem dc_M_init_304 : decode cd_M_init 304 = .ok (.iload_n 3, 1) := by decide +kernel
theorem dc_M_init_305 : decode cd_M_init 305 = .ok (.iconst (-1), 1) := by decide +kernel
theorem dc_M_init_306 : decode cd_M_init 306 = .ok (.iastore, 1) := by decide +kernel
theorem dc_M_init_307 : decode cd_M_init 307 = .ok (.aload_n 0, 1) := by decide +kernel
theorem dc_M_init_308 : decode cd_M_init 308 = .ok (.getfield 68, 3) := by decide +kernel
theorem dc_M_init_311 : decode cd_M_init 311 = .ok (.iload_n 3, 1) := by decide +kernel
theorem dc_M_init_312 : decode cd_M_init 312 = .ok (.iconst (-1), 1) := by decide +kernel
theorem dc_M_init_313 : decode cd_M_init 313 = .ok (.iastore, 1) := by decide +kernel
theorem dc_M_init_314 : decode cd_M_init 314 = .ok (.iinc 3 1, 3) := by decide +kernel
theorem dc_M_init_317 : decode cd_M_init 317 = .ok (.goto (-29), 3) := by decide +kernel
theorem dc_M_init_320 : decode cd_M_init 320 = .ok (.aload_n 0, 1) := by decide +kernel
theorem dc_M_init_321 : decode cd_M_init 321 = .ok (.invokevirtual 96, 3) := by decide +kernel
theorem dc_M_init_324 : decode cd_M_init 324 = .ok (.iconst 0, 1) := by decide +kernel
theorem dc_M_init_325 : decode cd_M_init 325 = .ok (.istore_n 3, 1) := by decide +kernel
theorem dc_M_init_326 : decode cd_M_init 326 = .ok (.iload_n 3, 1) := by decide +kernel
theorem dc_M_init_327 : decode cd_M_init 327 = .ok (.bipush 8, 2) := by decide +kernel
theorem dc_M_init_329 : decode cd_M_init 329 = .ok (.if_icmp .ge 21, 3) := by decide +kernel
theorem dc_M_init_332 : decode cd_M_init 332 = .ok (.aload_n 0, 1) := by decide +kernel
theorem dc_M_init_333 : decode cd_M_init 333 = .ok (.getfield 83, 3) := by decide +kernel
theorem dc_M_init_336 : decode cd_M_init 336 = .ok (.iload_n 3, 1) := by decide +kernel
theorem dc_M_init_337 : decode cd_M_init 337 = .ok (.aload_n 0, 1) := by decide +kernel
theorem dc_M_init_338 : decode cd_M_init 338 = .ok (.getfield 80, 3) := by decide +kernel
theorem dc_M_init_341 : decode cd_M_init 341 = .ok (.iload_n 3, 1) := by decide +kernel
theorem dc_M_init_342 : decode cd_M_init 342 = .ok (.iaload, 1) := by decide +kernel
theorem dc_M_init_343 : decode cd_M_init 343 = .ok (.iastore, 1) := by decide +kernel
theorem dc_M_init_344 : decode cd_M_init 344 = .ok (.iinc 3 1, 3) := by decide +kernel
theorem dc_M_init_347 : decode cd_M_init 347 = .ok (.goto (-21), 3) := by decide +kernel
theorem dc_M_init_350 : decode cd_M_init 350 = .ok (.return_, 1) := by decide +kernel
theorem dc_M_thrown_0 : decode cd_M_thrown 0 = .ok (.aload_n 0, 1) := by decide +kernel
theorem dc_M_thrown_1 : decode cd_M_thrown 1 = .ok (.getfield 99, 3) := by decide +kernel
theorem dc_M_thrown_4 : decode cd_M_thrown 4 = .ok (.ireturn, 1) := by decide +kernel
theorem dc_M_refused_0 : decode cd_M_refused 0 = .ok (.aload_n 0, 1) := by decide +kernel
theorem dc_M_refused_1 : decode cd_M_refused 1 = .ok (.iload_n 1, 1) := by decide +kernel
theorem dc_M_refused_2 : decode cd_M_refused 2 = .ok (.putfield 99, 3) := by decide +kernel
theorem dc_M_refused_5 : decode cd_M_refused 5 = .ok (.iload_n 1, 1) := by decide +kernel
theorem dc_M_refused_6 : decode cd_M_refused 6 = .ok (.ifCond .le 7, 3) := by decide +kernel
theorem dc_M_refused_9 : decode cd_M_refused 9 = .ok (.iconst 1, 1) := by decide +kernel
theorem dc_M_refused_10 : decode cd_M_refused 10 = .ok (.goto 4, 3) := by decide +kernel
theorem dc_M_refused_13 : decode cd_M_refused 13 = .ok (.iconst 0, 1) := by decide +kernel
theorem dc_M_refused_14 : decode cd_M_refused 14 = .ok (.ireturn, 1) := by decide +kernel
theorem dc_M_isProcess_0 : decode cd_M_isProcess 0 = .ok (.iload_n 1, 1) := by decide +kernel
theorem dc_M_isProcess_1 : decode cd_M_isProcess 1 = .ok (.ifCond .lt 15, 3) := by decide +kernel
theorem dc_M_isProcess_4 : decode cd_M_isProcess 4 = .ok (.iload_n 1, 1) := by decide +kernel
theorem dc_M_isProcess_5 : decode cd_M_isProcess 5 = .ok (.aload_n 0, 1) := by decide +kernel
theorem dc_M_isProcess_6 : decode cd_M_isProcess 6 = .ok (.getfield 90, 3) := by decide +kernel
theorem dc_M_isProcess_9 : decode cd_M_isProcess 9 = .ok (.if_icmp .ge 7, 3) := by decide +kernel
theorem dc_M_isProcess_12 : decode cd_M_isProcess 12 = .ok (.iconst 1, 1) := by decide +kernel
theorem dc_M_isProcess_13 : decode cd_M_isProcess 13 = .ok (.goto 4, 3) := by decide +kernel
theorem dc_M_isProcess_16 : decode cd_M_isProcess 16 = .ok (.iconst 0, 1) := by decide +kernel
theorem dc_M_isProcess_17 : decode cd_M_isProcess 17 = .ok (.ireturn, 1) := by decide +kernel
theorem dc_M_begin_0 : decode cd_M_begin 0 = .ok (.aload_n 0, 1) := by decide +kernel
theorem dc_M_begin_1 : decode cd_M_begin 1 = .ok (.iconst 0, 1) := by decide +kernel
theorem dc_M_begin_2 : decode cd_M_begin 2 = .ok (.putfield 102, 3) := by decide +kernel
theorem dc_M_begin_5 : decode cd_M_begin 5 = .ok (.iconst 0, 1) := by decide +kernel
theorem dc_M_begin_6 : decode cd_M_begin 6 = .ok (.istore_n 1, 1) := by decide +kernel
theorem dc_M_begin_7 : decode cd_M_begin 7 = .ok (.iload_n 1, 1) := by decide +kernel
theorem dc_M_begin_8 : decode cd_M_begin 8 = .ok (.bipush 8, 2) := by decide +kernel
theorem dc_M_begin_10 : decode cd_M_begin 10 = .ok (.if_icmp .ge 29, 3) := by decide +kernel
theorem dc_M_begin_13 : decode cd_M_begin 13 = .ok (.aload_n 0, 1) := by decide +kernel
theorem dc_M_begin_14 : decode cd_M_begin 14 = .ok (.getfield 80, 3) := by decide +kernel
theorem dc_M_begin_17 : decode cd_M_begin 17 = .ok (.iload_n 1, 1) := by decide +kernel
theorem dc_M_begin_18 : decode cd_M_begin 18 = .ok (.aload_n 0, 1) := by decide +kernel
theorem dc_M_begin_19 : decode cd_M_begin 19 = .ok (.getfield 86, 3) := by decide +kernel
theorem dc_M_begin_22 : decode cd_M_begin 22 = .ok (.iconst 3, 1) := by decide +kernel
theorem dc_M_begin_23 : decode cd_M_begin 23 = .ok (.if_icmp .ne 8, 3) := by decide +kernel
theorem dc_M_begin_26 : decode cd_M_begin 26 = .ok (.bipush 100, 2) := by decide +kernel
theorem dc_M_begin_28 : decode cd_M_begin 28 = .ok (.goto 4, 3) := by decide +kernel
theorem dc_M_begin_31 : decode cd_M_begin 31 = .ok (.iconst 0, 1) := by decide +kernel
theorem dc_M_begin_32 : decode cd_M_begin 32 = .ok (.iastore, 1) := by decide +kernel
theorem dc_M_begin_33 : decode cd_M_begin 33 = .ok (.iinc 1 1, 3) := by decide +kernel
theorem dc_M_begin_36 : decode cd_M_begin 36 = .ok (.goto (-29), 3) := by decide +kernel
theorem dc_M_begin_39 : decode cd_M_begin 39 = .ok (.return_, 1) := by decide +kernel
theorem dc_M_queue_0 : decode cd_M_queue 0 = .ok (.iload_n 1, 1) := by decide +kernel
theorem dc_M_queue_1 : decode cd_M_queue 1 = .ok (.iconst 2, 1) := by decide +kernel
theorem dc_M_queue_2 : decode cd_M_queue 2 = .ok (.if_icmp .ne 8, 3) := by decide +kernel
theorem dc_M_queue_5 : decode cd_M_queue 5 = .ok (.aload_n 0, 1) := by decide +kernel
theorem dc_M_queue_6 : decode cd_M_queue 6 = .ok (.getfield 102, 3) := by decide +kernel
theorem dc_M_queue_9 : decode cd_M_queue 9 = .ok (.ireturn, 1) := by decide +kernel
theorem dc_M_queue_10 : decode cd_M_queue 10 = .ok (.iload_n 1, 1) := by decide +kernel
theorem dc_M_queue_11 : decode cd_M_queue 11 = .ok (.ifCond .ne 39, 3) := by decide +kernel
theorem dc_M_queue_14 : decode cd_M_queue 14 = .ok (.aload_n 0, 1) := by decide +kernel
theorem dc_M_queue_15 : decode cd_M_queue 15 = .ok (.getfield 102, 3) := by decide +kernel
theorem dc_M_queue_18 : decode cd_M_queue 18 = .ok (.bipush 8, 2) := by decide +kernel
theorem dc_M_queue_20 : decode cd_M_queue 20 = .ok (.if_icmp .ne 5, 3) := by decide +kernel
theorem dc_M_queue_23 : decode cd_M_queue 23 = .ok (.iconst (-1), 1) := by decide +kernel
theorem dc_M_queue_24 : decode cd_M_queue 24 = .ok (.ireturn, 1) := by decide +kernel
theorem dc_M_queue_25 : decode cd_M_queue 25 = .ok (.aload_n 0, 1) := by decide +kernel
theorem dc_M_queue_26 : decode cd_M_queue 26 = .ok (.getfield 80, 3) := by decide +kernel
theorem dc_M_queue_29 : decode cd_M_queue 29 = .ok (.aload_n 0, 1) := by decide +kernel
theorem dc_M_queue_30 : decode cd_M_queue 30 = .ok (.getfield 102, 3) := by decide +kernel
theorem dc_M_queue_33 : decode cd_M_queue 33 = .ok (.iload_n 2, 1) := by decide +kernel
theorem dc_M_queue_34 : decode cd_M_queue 34 = .ok (.iastore, 1) := by decide +kernel
theorem dc_M_queue_35 : decode cd_M_queue 35 = .ok (.aload_n 0, 1) := by decide +kernel
theorem dc_M_queue_36 : decode cd_M_queue 36 = .ok (.dup, 1) := by decide +kernel
theorem dc_M_queue_37 : decode cd_M_queue 37 = .ok (.getfield 102, 3) := by decide +kernel
theorem dc_M_queue_40 : decode cd_M_queue 40 = .ok (.iconst 1, 1) := by decide +kernel
theorem dc_M_queue_41 : decode cd_M_queue 41 = .ok (.iadd, 1) := by decide +kernel
theorem dc_M_queue_42 : decode cd_M_queue 42 = .ok (.putfield 102, 3) := by decide +kernel
theorem dc_M_queue_45 : decode cd_M_queue 45 = .ok (.aload_n 0, 1) := by decide +kernel
theorem dc_M_queue_46 : decode cd_M_queue 46 = .ok (.getfield 102, 3) := by decide +kernel
theorem dc_M_queue_49 : decode cd_M_queue 49 = .ok (.ireturn, 1) := by decide +kernel
theorem dc_M_queue_50 : decode cd_M_queue 50 = .ok (.aload_n 0, 1) := by decide +kernel
theorem dc_M_queue_51 : decode cd_M_queue 51 = .ok (.getfield 102, 3) := by decide +kernel
theorem dc_M_queue_54 : decode cd_M_queue 54 = .ok (.ifCond .ne 5, 3) := by decide +kernel
theorem dc_M_queue_57 : decode cd_M_queue 57 = .ok (.iconst (-1), 1) := by decide +kernel
theorem dc_M_queue_58 : decode cd_M_queue 58 = .ok (.ireturn, 1) := by decide +kernel
theorem dc_M_queue_59 : decode cd_M_queue 59 = .ok (.aload_n 0, 1) := by decide +kernel
theorem dc_M_queue_60 : decode cd_M_queue 60 = .ok (.dup, 1) := by decide +kernel
theorem dc_M_queue_61 : decode cd_M_queue 61 = .ok (.getfield 102, 3) := by decide +kernel
theorem dc_M_queue_64 : decode cd_M_queue 64 = .ok (.iconst 1, 1) := by decide +kernel
theorem dc_M_queue_65 : decode cd_M_queue 65 = .ok (.isub, 1) := by decide +kernel
theorem dc_M_queue_66 : decode cd_M_queue 66 = .ok (.putfield 102, 3) := by decide +kernel
theorem dc_M_queue_69 : decode cd_M_queue 69 = .ok (.aload_n 0, 1) := by decide +kernel
theorem dc_M_queue_70 : decode cd_M_queue 70 = .ok (.getfield 86, 3) := by decide +kernel
theorem dc_M_queue_73 : decode cd_M_queue 73 = .ok (.ifCond .ne 12, 3) := by decide +kernel
theorem dc_M_queue_76 : decode cd_M_queue 76 = .ok (.aload_n 0, 1) := by decide +kernel
theorem dc_M_queue_77 : decode cd_M_queue 77 = .ok (.getfield 80, 3) := by decide +kernel
theorem dc_M_queue_80 : decode cd_M_queue 80 = .ok (.iconst 0, 1) := by decide +kernel
theorem dc_M_queue_81 : decode cd_M_queue 81 = .ok (.iaload, 1) := by decide +kernel
theorem dc_M_queue_82 : decode cd_M_queue 82 = .ok (.goto 12, 3) := by decide +kernel
theorem dc_M_queue_85 : decode cd_M_queue 85 = .ok (.aload_n 0, 1) := by decide +kernel
theorem dc_M_queue_86 : decode cd_M_queue 86 = .ok (.getfield 80, 3) := by decide +kernel
theorem dc_M_queue_89 : decode cd_M_queue 89 = .ok (.aload_n 0, 1) := by decide +kernel
theorem dc_M_queue_90 : decode cd_M_queue 90 = .ok (.getfield 102, 3) := by decide +kernel
theorem dc_M_queue_93 : decode cd_M_queue 93 = .ok (.iaload, 1) := by decide +kernel
theorem dc_M_queue_94 : decode cd_M_queue 94 = .ok (.istore_n 3, 1) := by decide +kernel
theorem dc_M_queue_95 : decode cd_M_queue 95 = .ok (.iconst 0, 1) := by decide +kernel
theorem dc_M_queue_96 : decode cd_M_queue 96 = .ok (.istore 4, 2) := by decide +kernel
theorem dc_M_queue_98 : decode cd_M_queue 98 = .ok (.aload_n 0, 1) := by decide +kernel
theorem dc_M_queue_99 : decode cd_M_queue 99 = .ok (.getfield 86, 3) := by decide +kernel
theorem dc_M_queue_102 : decode cd_M_queue 102 = .ok (.ifCond .ne 34, 3) := by decide +kernel
theorem dc_M_queue_105 : decode cd_M_queue 105 = .ok (.iload 4, 2) := by decide +kernel
theorem dc_M_queue_107 : decode cd_M_queue 107 = .ok (.aload_n 0, 1) := by decide +kernel
theorem dc_M_queue_108 : decode cd_M_queue 108 = .ok (.getfield 102, 3) := by decide +kernel
theorem dc_M_queue_111 : decode cd_M_queue 111 = .ok (.if_icmp .ge 25, 3) := by decide +kernel
theorem dc_M_queue_114 : decode cd_M_queue 114 = .ok (.aload_n 0, 1) := by decide +kernel
theorem dc_M_queue_115 : decode cd_M_queue 115 = .ok (.getfield 80, 3) := by decide +kernel
theorem dc_M_queue_118 : decode cd_M_queue 118 = .ok (.iload 4, 2) := by decide +kernel
theorem dc_M_queue_120 : decode cd_M_queue 120 = .ok (.aload_n 0, 1) := by decide +kernel
theorem dc_M_queue_121 : decode cd_M_queue 121 = .ok (.getfield 80, 3) := by decide +kernel
theorem dc_M_queue_124 : decode cd_M_queue 124 = .ok (.iload 4, 2) := by decide +kernel
theorem dc_M_queue_126 : decode cd_M_queue 126 = .ok (.iconst 1, 1) := by decide +kernel
theorem dc_M_queue_127 : decode cd_M_queue 127 = .ok (.iadd, 1) := by decide +kernel
theorem dc_M_queue_128 : decode cd_M_queue 128 = .ok (.iaload, 1) := by decide +kernel
theorem dc_M_queue_129 : decode cd_M_queue 129 = .ok (.iastore, 1) := by decide +kernel
theorem dc_M_queue_130 : decode cd_M_queue 130 = .ok (.iinc 4 1, 3) := by decide +kernel
theorem dc_M_queue_133 : decode cd_M_queue 133 = .ok (.goto (-35), 3) := by decide +kernel
theorem dc_M_queue_136 : decode cd_M_queue 136 = .ok (.iload_n 3, 1) := by decide +kernel
theorem dc_M_queue_137 : decode cd_M_queue 137 = .ok (.ireturn, 1) := by decide +kernel
theorem dc_M_table_0 : decode cd_M_table 0 = .ok (.iconst 0, 1) := by decide +kernel
theorem dc_M_table_1 : decode cd_M_table 1 = .ok (.istore 4, 2) := by decide +kernel
theorem dc_M_table_3 : decode cd_M_table 3 = .ok (.iconst 0, 1) := by decide +kernel
theorem dc_M_table_4 : decode cd_M_table 4 = .ok (.istore 5, 2) := by decide +kernel
theorem dc_M_table_6 : decode cd_M_table 6 = .ok (.iload 5, 2) := by decide +kernel
theorem dc_M_table_8 : decode cd_M_table 8 = .ok (.bipush 8, 2) := by decide +kernel
theorem dc_M_table_10 : decode cd_M_table 10 = .ok (.if_icmp .ge 21, 3) := by decide +kernel
theorem dc_M_table_13 : decode cd_M_table 13 = .ok (.iload 4, 2) := by decide +kernel
theorem dc_M_table_15 : decode cd_M_table 15 = .ok (.aload_n 0, 1) := by decide +kernel
theorem dc_M_table_16 : decode cd_M_table 16 = .ok (.getfield 80, 3) := by decide +kernel
theorem dc_M_table_19 : decode cd_M_table 19 = .ok (.iload 5, 2) := by decide +kernel
theorem dc_M_table_21 : decode cd_M_table 21 = .ok (.iaload, 1) := by decide +kernel
theorem dc_M_table_22 : decode cd_M_table 22 = .ok (.iadd, 1) := by decide +kernel
theorem dc_M_table_23 : decode cd_M_table 23 = .ok (.istore 4, 2) := by decide +kernel
theorem dc_M_table_25 : decode cd_M_table 25 = .ok (.iinc 5 1, 3) := by decide +kernel
theorem dc_M_table_28 : decode cd_M_table 28 = .ok (.goto (-22), 3) := by decide +kernel
theorem dc_M_table_31 : decode cd_M_table 31 = .ok (.aload_n 0, 1) := by decide +kernel
theorem dc_M_table_32 : decode cd_M_table 32 = .ok (.getfield 80, 3) := by decide +kernel
theorem dc_M_table_35 : decode cd_M_table 35 = .ok (.iload_n 2, 1) := by decide +kernel
theorem dc_M_table_36 : decode cd_M_table 36 = .ok (.bipush 7, 2) := by decide +kernel
theorem dc_M_table_38 : decode cd_M_table 38 = .ok (.iand, 1) := by decide +kernel
theorem dc_M_table_39 : decode cd_M_table 39 = .ok (.iaload, 1) := by decide +kernel
theorem dc_M_table_40 : decode cd_M_table 40 = .ok (.istore 5, 2) := by decide +kernel
theorem dc_M_table_42 : decode cd_M_table 42 = .ok (.iload_n 1, 1) := by decide +kernel
theorem dc_M_table_43 : decode cd_M_table 43 = .ok (.ifCond .ne 13, 3) := by decide +kernel
theorem dc_M_table_46 : decode cd_M_table 46 = .ok (.aload_n 0, 1) := by decide +kernel
theorem dc_M_table_47 : decode cd_M_table 47 = .ok (.getfield 80, 3) := by decide +kernel
theorem dc_M_table_50 : decode cd_M_table 50 = .ok (.iload_n 2, 1) := by decide +kernel
theorem dc_M_table_51 : decode cd_M_table 51 = .ok (.bipush 7, 2) := by decide +kernel
theorem dc_M_table_53 : decode cd_M_table 53 = .ok (.iand, 1) := by decide +kernel
theorem dc_M_table_54 : decode cd_M_table 54 = .ok (.iload_n 3, 1) := by decide +kernel
theorem dc_M_table_55 : decode cd_M_table 55 = .ok (.iastore, 1) := by decide +kernel
theorem dc_M_table_56 : decode cd_M_table 56 = .ok (.iload_n 1, 1) := by decide +kernel
theorem dc_M_table_57 : decode cd_M_table 57 = .ok (.iconst 2, 1) := by decide +kernel
theorem dc_M_table_58 : decode cd_M_table 58 = .ok (.if_icmp .ne 8, 3) := by decide +kernel
theorem dc_M_table_61 : decode cd_M_table 61 = .ok (.iload 4, 2) := by decide +kernel
theorem dc_M_table_63 : decode cd_M_table 63 = .ok (.goto 5, 3) := by decide +kernel
theorem dc_M_table_66 : decode cd_M_table 66 = .ok (.iload 5, 2) := by decide +kernel
theorem dc_M_table_68 : decode cd_M_table 68 = .ok (.ireturn, 1) := by decide +kernel
theorem dc_M_bank_0 : decode cd_M_bank 0 = .ok (.iload_n 2, 1) := by decide +kernel
theorem dc_M_bank_1 : decode cd_M_bank 1 = .ok (.iconst 3, 1) := by decide +kernel
theorem dc_M_bank_2 : decode cd_M_bank 2 = .ok (.iand, 1) := by decide +kernel
theorem dc_M_bank_3 : decode cd_M_bank 3 = .ok (.istore 4, 2) := by decide +kernel
theorem dc_M_bank_5 : decode cd_M_bank 5 = .ok (.iload_n 1, 1) := by decide +kernel
theorem dc_M_bank_6 : decode cd_M_bank 6 = .ok (.ifCond .ne 55, 3) := by decide +kernel
theorem dc_M_bank_9 : decode cd_M_bank 9 = .ok (.aload_n 0, 1) := by decide +kernel
theorem dc_M_bank_10 : decode cd_M_bank 10 = .ok (.getfield 80, 3) := by decide +kernel
theorem dc_M_bank_13 : decode cd_M_bank 13 = .ok (.iload 4, 2) := by decide +kernel
theorem dc_M_bank_15 : decode cd_M_bank 15 = .ok (.iaload, 1) := by decide +kernel
theorem dc_M_bank_16 : decode cd_M_bank 16 = .ok (.bipush 10, 2) := by decide +kernel
theorem dc_M_bank_18 : decode cd_M_bank 18 = .ok (.if_icmp .ge 5, 3) := by decide +kernel
theorem dc_M_bank_21 : decode cd_M_bank 21 = .ok (.iconst 0, 1) := by decide +kernel
theorem dc_M_bank_22 : decode cd_M_bank 22 = .ok (.ireturn, 1) := by decide +kernel
theorem dc_M_bank_23 : decode cd_M_bank 23 = .ok (.aload_n 0, 1) := by decide +kernel
theorem dc_M_bank_24 : decode cd_M_bank 24 = .ok (.getfield 80, 3) := by decide +kernel
theorem dc_M_bank_27 : decode cd_M_bank 27 = .ok (.iload 4, 2) := by decide +kernel
theorem dc_M_bank_29 : decode cd_M_bank 29 = .ok (.aload_n 0, 1) := by decide +kernel
theorem dc_M_bank_30 : decode cd_M_bank 30 = .ok (.getfield 80, 3) := by decide +kernel
theorem dc_M_bank_33 : decode cd_M_bank 33 = .ok (.iload 4, 2) := by decide +kernel
theorem dc_M_bank_35 : decode cd_M_bank 35 = .ok (.iaload, 1) := by decide +kernel
theorem dc_M_bank_36 : decode cd_M_bank 36 = .ok (.bipush 10, 2) := by decide +kernel
theorem dc_M_bank_38 : decode cd_M_bank 38 = .ok (.isub, 1) := by decide +kernel
theorem dc_M_bank_39 : decode cd_M_bank 39 = .ok (.iastore, 1) := by decide +kernel
theorem dc_M_bank_40 : decode cd_M_bank 40 = .ok (.aload_n 0, 1) := by decide +kernel
theorem dc_M_bank_41 : decode cd_M_bank 41 = .ok (.getfield 80, 3) := by decide +kernel
theorem dc_M_bank_44 : decode cd_M_bank 44 = .ok (.iload_n 3, 1) := by decide +kernel
theorem dc_M_bank_45 : decode cd_M_bank 45 = .ok (.iconst 3, 1) := by decide +kernel
theorem dc_M_bank_46 : decode cd_M_bank 46 = .ok (.iand, 1) := by decide +kernel
theorem dc_M_bank_47 : decode cd_M_bank 47 = .ok (.aload_n 0, 1) := by decide +kernel
theorem dc_M_bank_48 : decode cd_M_bank 48 = .ok (.getfield 80, 3) := by decide +kernel
theorem dc_M_bank_51 : decode cd_M_bank 51 = .ok (.iload_n 3, 1) := by decide +kernel
theorem dc_M_bank_52 : decode cd_M_bank 52 = .ok (.iconst 3, 1) := by decide +kernel
theorem dc_M_bank_53 : decode cd_M_bank 53 = .ok (.iand, 1) := by decide +kernel
theorem dc_M_bank_54 : decode cd_M_bank 54 = .ok (.iaload, 1) := by decide +kernel
theorem dc_M_bank_55 : decode cd_M_bank 55 = .ok (.bipush 10, 2) := by decide +kernel
theorem dc_M_bank_57 : decode cd_M_bank 57 = .ok (.iadd, 1) := by decide +kernel
theorem dc_M_bank_58 : decode cd_M_bank 58 = .ok (.iastore, 1) := by decide +kernel
theorem dc_M_bank_59 : decode cd_M_bank 59 = .ok (.iconst 1, 1) := by decide +kernel
theorem dc_M_bank_60 : decode cd_M_bank 60 = .ok (.ireturn, 1) := by decide +kernel
theorem dc_M_bank_61 : decode cd_M_bank 61 = .ok (.iload_n 1, 1) := by decide +kernel
theorem dc_M_bank_62 : decode cd_M_bank 62 = .ok (.iconst 2, 1) := by decide +kernel
theorem dc_M_bank_63 : decode cd_M_bank 63 = .ok (.if_icmp .ne 19, 3) := by decide +kernel
theorem dc_M_bank_66 : decode cd_M_bank 66 = .ok (.aload_n 0, 1) := by decide +kernel
theorem dc_M_bank_67 : decode cd_M_bank 67 = .ok (.getfield 80, 3) := by decide +kernel
theorem dc_M_bank_70 : decode cd_M_bank 70 = .ok (.iload 4, 2) := by decide +kernel
theorem dc_M_bank_72 : decode cd_M_bank 72 = .ok (.aload_n 0, 1) := by decide +kernel
theorem dc_M_bank_73 : decode cd_M_bank 73 = .ok (.getfield 80, 3) := by decide +kernel
theorem dc_M_bank_76 : decode cd_M_bank 76 = .ok (.iload 4, 2) := by decide +kernel
theorem dc_M_bank_78 : decode cd_M_bank 78 = .ok (.iaload, 1) := by decide +kernel
theorem dc_M_bank_79 : decode cd_M_bank 79 = .ok (.iload_n 3, 1) := by decide +kernel
theorem dc_M_bank_80 : decode cd_M_bank 80 = .ok (.iadd, 1) := by decide +kernel
theorem dc_M_bank_81 : decode cd_M_bank 81 = .ok (.iastore, 1) := by decide +kernel
theorem dc_M_bank_82 : decode cd_M_bank 82 = .ok (.aload_n 0, 1) := by decide +kernel
theorem dc_M_bank_83 : decode cd_M_bank 83 = .ok (.getfield 80, 3) := by decide +kernel
theorem dc_M_bank_86 : decode cd_M_bank 86 = .ok (.iload 4, 2) := by decide +kernel
theorem dc_M_bank_88 : decode cd_M_bank 88 = .ok (.iaload, 1) := by decide +kernel
theorem dc_M_bank_89 : decode cd_M_bank 89 = .ok (.ireturn, 1) := by decide +kernel
theorem dc_M_act_0 : decode cd_M_act 0 = .ok (.aload_n 0, 1) := by decide +kernel
theorem dc_M_act_1 : decode cd_M_act 1 = .ok (.getfield 86, 3) := by decide +kernel
theorem dc_M_act_4 : decode cd_M_act 4 = .ok (.iconst 2, 1) := by decide +kernel
theorem dc_M_act_5 : decode cd_M_act 5 = .ok (.if_icmp .ge 12, 3) := by decide +kernel
theorem dc_M_act_8 : decode cd_M_act 8 = .ok (.aload_n 0, 1) := by decide +kernel
theorem dc_M_act_9 : decode cd_M_act 9 = .ok (.iload_n 1, 1) := by decide +kernel
theorem dc_M_act_10 : decode cd_M_act 10 = .ok (.iload_n 2, 1) := by decide +kernel
theorem dc_M_act_11 : decode cd_M_act 11 = .ok (.invokevirtual 105, 3) := by decide +kernel
theorem dc_M_act_14 : decode cd_M_act 14 = .ok (.goto 28, 3) := by decide +kernel
theorem dc_M_act_17 : decode cd_M_act 17 = .ok (.aload_n 0, 1) := by decide +kernel
theorem dc_M_act_18 : decode cd_M_act 18 = .ok (.getfield 86, 3) := by decide +kernel
theorem dc_M_act_21 : decode cd_M_act 21 = .ok (.iconst 2, 1) := by decide +kernel
theorem dc_M_act_22 : decode cd_M_act 22 = .ok (.if_icmp .ne 13, 3) := by decide +kernel
theorem dc_M_act_25 : decode cd_M_act 25 = .ok (.aload_n 0, 1) := by decide +kernel
theorem dc_M_act_26 : decode cd_M_act 26 = .ok (.iload_n 1, 1) := by decide +kernel
theorem dc_M_act_27 : decode cd_M_act 27 = .ok (.iload_n 2, 1) := by decide +kernel
theorem dc_M_act_28 : decode cd_M_act 28 = .ok (.iload_n 3, 1) := by decide +kernel
theorem dc_M_act_29 : decode cd_M_act 29 = .ok (.invokevirtual 109, 3) := by decide +kernel
theorem dc_M_act_32 : decode cd_M_act 32 = .ok (.goto 10, 3) := by decide +kernel
theorem dc_M_act_35 : decode cd_M_act 35 = .ok (.aload_n 0, 1) := by decide +kernel
theorem dc_M_act_36 : decode cd_M_act 36 = .ok (.iload_n 1, 1) := by decide +kernel
theorem dc_M_act_37 : decode cd_M_act 37 = .ok (.iload_n 2, 1) := by decide +kernel
theorem dc_M_act_38 : decode cd_M_act 38 = .ok (.iload_n 3, 1) := by decide +kernel
theorem dc_M_act_39 : decode cd_M_act 39 = .ok (.invokevirtual 113, 3) := by decide +kernel
theorem dc_M_act_42 : decode cd_M_act 42 = .ok (.ireturn, 1) := by decide +kernel
theorem dc_M_replay_0 : decode cd_M_replay 0 = .ok (.aload_n 0, 1) := by decide +kernel
theorem dc_M_replay_1 : decode cd_M_replay 1 = .ok (.invokevirtual 96, 3) := by decide +kernel
theorem dc_M_replay_4 : decode cd_M_replay 4 = .ok (.iconst 0, 1) := by decide +kernel
theorem dc_M_replay_5 : decode cd_M_replay 5 = .ok (.istore_n 2, 1) := by decide +kernel
theorem dc_M_replay_6 : decode cd_M_replay 6 = .ok (.iconst 2, 1) := by decide +kernel
theorem dc_M_replay_7 : decode cd_M_replay 7 = .ok (.istore_n 3, 1) := by decide +kernel
theorem dc_M_replay_8 : decode cd_M_replay 8 = .ok (.iload_n 3, 1) := by decide +kernel
theorem dc_M_replay_9 : decode cd_M_replay 9 = .ok (.iload_n 1, 1) := by decide +kernel
theorem dc_M_replay_10 : decode cd_M_replay 10 = .ok (.if_icmp .gt 32, 3) := by decide +kernel
theorem dc_M_replay_13 : decode cd_M_replay 13 = .ok (.aload_n 0, 1) := by decide +kernel
theorem dc_M_replay_14 : decode cd_M_replay 14 = .ok (.aload_n 0, 1) := by decide +kernel
theorem dc_M_replay_15 : decode cd_M_replay 15 = .ok (.getfield 71, 3) := by decide +kernel
theorem dc_M_replay_18 : decode cd_M_replay 18 = .ok (.iload_n 3, 1) := by decide +kernel
theorem dc_M_replay_19 : decode cd_M_replay 19 = .ok (.iaload, 1) := by decide +kernel
theorem dc_M_replay_20 : decode cd_M_replay 20 = .ok (.aload_n 0, 1) := by decide +kernel
theorem dc_M_replay_21 : decode cd_M_replay 21 = .ok (.getfield 74, 3) := by decide +kernel
theorem dc_M_replay_24 : decode cd_M_replay 24 = .ok (.iload_n 3, 1) := by decide +kernel
theorem dc_M_replay_25 : decode cd_M_replay 25 = .ok (.iaload, 1) := by decide +kernel
theorem dc_M_replay_26 : decode cd_M_replay 26 = .ok (.aload_n 0, 1) := by decide +kernel
theorem dc_M_replay_27 : decode cd_M_replay 27 = .ok (.getfield 77, 3) := by decide +kernel
theorem dc_M_replay_30 : decode cd_M_replay 30 = .ok (.iload_n 3, 1) := by decide +kernel
theorem dc_M_replay_31 : decode cd_M_replay 31 = .ok (.iaload, 1) := by decide +kernel
theorem dc_M_replay_32 : decode cd_M_replay 32 = .ok (.invokevirtual 116, 3) := by decide +kernel
theorem dc_M_replay_35 : decode cd_M_replay 35 = .ok (.istore_n 2, 1) := by decide +kernel
theorem dc_M_replay_36 : decode cd_M_replay 36 = .ok (.iinc 3 1, 3) := by decide +kernel
theorem dc_M_replay_39 : decode cd_M_replay 39 = .ok (.goto (-31), 3) := by decide +kernel
theorem dc_M_replay_42 : decode cd_M_replay 42 = .ok (.iload_n 2, 1) := by decide +kernel
theorem dc_M_replay_43 : decode cd_M_replay 43 = .ok (.ireturn, 1) := by decide +kernel
theorem dc_M_call_0 : decode cd_M_call 0 = .ok (.aload_n 0, 1) := by decide +kernel
theorem dc_M_call_1 : decode cd_M_call 1 = .ok (.aload_n 0, 1) := by decide +kernel
theorem dc_M_call_2 : decode cd_M_call 2 = .ok (.iload_n 1, 1) := by decide +kernel
theorem dc_M_call_3 : decode cd_M_call 3 = .ok (.invokevirtual 119, 3) := by decide +kernel
theorem dc_M_call_6 : decode cd_M_call 6 = .ok (.ifCond .ne 7, 3) := by decide +kernel
theorem dc_M_call_9 : decode cd_M_call 9 = .ok (.iconst 1, 1) := by decide +kernel
theorem dc_M_call_10 : decode cd_M_call 10 = .ok (.goto 31, 3) := by decide +kernel
theorem dc_M_call_13 : decode cd_M_call 13 = .ok (.iload_n 2, 1) := by decide +kernel
theorem dc_M_call_14 : decode cd_M_call 14 = .ok (.ifCond .lt 8, 3) := by decide +kernel
theorem dc_M_call_17 : decode cd_M_call 17 = .ok (.iload_n 2, 1) := by decide +kernel
theorem dc_M_call_18 : decode cd_M_call 18 = .ok (.iconst 2, 1) := by decide +kernel
theorem dc_M_call_19 : decode cd_M_call 19 = .ok (.if_icmp .le 7, 3) := by decide +kernel
theorem dc_M_call_22 : decode cd_M_call 22 = .ok (.iconst 2, 1) := by decide +kernel
theorem dc_M_call_23 : decode cd_M_call 23 = .ok (.goto 18, 3) := by decide +kernel
theorem dc_M_call_26 : decode cd_M_call 26 = .ok (.aload_n 0, 1) := by decide +kernel
theorem dc_M_call_27 : decode cd_M_call 27 = .ok (.getfield 38, 3) := by decide +kernel
theorem dc_M_call_30 : decode cd_M_call 30 = .ok (.iload_n 1, 1) := by decide +kernel
theorem dc_M_call_31 : decode cd_M_call 31 = .ok (.iaload, 1) := by decide +kernel
theorem dc_M_call_32 : decode cd_M_call 32 = .ok (.iconst (-1), 1) := by decide +kernel
theorem dc_M_call_33 : decode cd_M_call 33 = .ok (.if_icmp .eq 7, 3) := by decide +kernel
theorem dc_M_call_36 : decode cd_M_call 36 = .ok (.iconst 3, 1) := by decide +kernel
theorem dc_M_call_37 : decode cd_M_call 37 = .ok (.goto 4, 3) := by decide +kernel
theorem dc_M_call_40 : decode cd_M_call 40 = .ok (.iconst 0, 1) := by decide +kernel
theorem dc_M_call_41 : decode cd_M_call 41 = .ok (.invokevirtual 123, 3) := by decide +kernel
theorem dc_M_call_44 : decode cd_M_call 44 = .ok (.ifCond .eq 4, 3) := by decide +kernel
theorem dc_M_call_47 : decode cd_M_call 47 = .ok (.return_, 1) := by decide +kernel
theorem dc_M_call_48 : decode cd_M_call 48 = .ok (.aload_n 0, 1) := by decide +kernel
theorem dc_M_call_49 : decode cd_M_call 49 = .ok (.getfield 38, 3) := by decide +kernel
theorem dc_M_call_52 : decode cd_M_call 52 = .ok (.iload_n 1, 1) := by decide +kernel
theorem dc_M_call_53 : decode cd_M_call 53 = .ok (.iconst 0, 1) := by decide +kernel
theorem dc_M_call_54 : decode cd_M_call 54 = .ok (.iastore, 1) := by decide +kernel
theorem dc_M_call_55 : decode cd_M_call 55 = .ok (.aload_n 0, 1) := by decide +kernel
theorem dc_M_call_56 : decode cd_M_call 56 = .ok (.getfield 53, 3) := by decide +kernel
theorem dc_M_call_59 : decode cd_M_call 59 = .ok (.iload_n 1, 1) := by decide +kernel
theorem dc_M_call_60 : decode cd_M_call 60 = .ok (.iload_n 2, 1) := by decide +kernel
theorem dc_M_call_61 : decode cd_M_call 61 = .ok (.iastore, 1) := by decide +kernel
theorem dc_M_call_62 : decode cd_M_call 62 = .ok (.aload_n 0, 1) := by decide +kernel
theorem dc_M_call_63 : decode cd_M_call 63 = .ok (.getfield 56, 3) := by decide +kernel
theorem dc_M_call_66 : decode cd_M_call 66 = .ok (.iload_n 1, 1) := by decide +kernel
theorem dc_M_call_67 : decode cd_M_call 67 = .ok (.iload_n 3, 1) := by decide +kernel
theorem dc_M_call_68 : decode cd_M_call 68 = .ok (.iastore, 1) := by decide +kernel
theorem dc_M_call_69 : decode cd_M_call 69 = .ok (.aload_n 0, 1) := by decide +kernel
theorem dc_M_call_70 : decode cd_M_call 70 = .ok (.getfield 59, 3) := by decide +kernel
theorem dc_M_call_73 : decode cd_M_call 73 = .ok (.iload_n 1, 1) := by decide +kernel
theorem dc_M_call_74 : decode cd_M_call 74 = .ok (.iload 4, 2) := by decide +kernel
theorem dc_M_call_76 : decode cd_M_call 76 = .ok (.iastore, 1) := by decide +kernel
theorem dc_M_call_77 : decode cd_M_call 77 = .ok (.return_, 1) := by decide +kernel
theorem dc_M_announce_0 : decode cd_M_announce 0 = .ok (.iconst (-1), 1) := by decide +kernel
theorem dc_M_announce_1 : decode cd_M_announce 1 = .ok (.istore_n 2, 1) := by decide +kernel
theorem dc_M_announce_2 : decode cd_M_announce 2 = .ok (.bipush 31, 2) := by decide +kernel
theorem dc_M_announce_4 : decode cd_M_announce 4 = .ok (.istore_n 3, 1) := by decide +kernel
theorem dc_M_announce_5 : decode cd_M_announce 5 = .ok (.iload_n 3, 1) := by decide +kernel
theorem dc_M_announce_6 : decode cd_M_announce 6 = .ok (.ifCond .lt 24, 3) := by decide +kernel
theorem dc_M_announce_9 : decode cd_M_announce 9 = .ok (.aload_n 0, 1) := by decide +kernel
theorem dc_M_announce_10 : decode cd_M_announce 10 = .ok (.getfield 7, 3) := by decide +kernel
theorem dc_M_announce_13 : decode cd_M_announce 13 = .ok (.iload_n 3, 1) := by decide +kernel
theorem dc_M_announce_14 : decode cd_M_announce 14 = .ok (.baload, 1) := by decide +kernel
theorem dc_M_announce_15 : decode cd_M_announce 15 = .ok (.ifCond .eq 7, 3) := by decide +kernel
theorem dc_M_announce_18 : decode cd_M_announce 18 = .ok (.iload_n 2, 1) := by decide +kernel
theorem dc_M_announce_19 : decode cd_M_announce 19 = .ok (.goto 4, 3) := by decide +kernel
theorem dc_M_announce_22 : decode cd_M_announce 22 = .ok (.iload_n 3, 1) := by decide +kernel
theorem dc_M_announce_23 : decode cd_M_announce 23 = .ok (.istore_n 2, 1) := by decide +kernel
theorem dc_M_announce_24 : decode cd_M_announce 24 = .ok (.iinc 3 (-1), 3) := by decide +kernel
theorem dc_M_announce_27 : decode cd_M_announce 27 = .ok (.goto (-22), 3) := by decide +kernel
theorem dc_M_announce_30 : decode cd_M_announce 30 = .ok (.iload_n 2, 1) := by decide +kernel
theorem dc_M_announce_31 : decode cd_M_announce 31 = .ok (.ifCond .ge 5, 3) := by decide +kernel
theorem dc_M_announce_34 : decode cd_M_announce 34 = .ok (.iconst 3, 1) := by decide +kernel
theorem dc_M_announce_35 : decode cd_M_announce 35 = .ok (.ireturn, 1) := by decide +kernel
theorem dc_M_announce_36 : decode cd_M_announce 36 = .ok (.aload_n 0, 1) := by decide +kernel
theorem dc_M_announce_37 : decode cd_M_announce 37 = .ok (.getfield 7, 3) := by decide +kernel
theorem dc_M_announce_40 : decode cd_M_announce 40 = .ok (.iload_n 2, 1) := by decide +kernel
theorem dc_M_announce_41 : decode cd_M_announce 41 = .ok (.iconst 1, 1) := by decide +kernel
theorem dc_M_announce_42 : decode cd_M_announce 42 = .ok (.bastore, 1) := by decide +kernel
theorem dc_M_announce_43 : decode cd_M_announce 43 = .ok (.aload_n 0, 1) := by decide +kernel
theorem dc_M_announce_44 : decode cd_M_announce 44 = .ok (.getfield 13, 3) := by decide +kernel
theorem dc_M_announce_47 : decode cd_M_announce 47 = .ok (.iload_n 2, 1) := by decide +kernel
theorem dc_M_announce_48 : decode cd_M_announce 48 = .ok (.iconst 0, 1) := by decide +kernel
theorem dc_M_announce_49 : decode cd_M_announce 49 = .ok (.iastore, 1) := by decide +kernel
theorem dc_M_announce_50 : decode cd_M_announce 50 = .ok (.aload_n 0, 1) := by decide +kernel
theorem dc_M_announce_51 : decode cd_M_announce 51 = .ok (.getfield 17, 3) := by decide +kernel
theorem dc_M_announce_54 : decode cd_M_announce 54 = .ok (.iload_n 2, 1) := by decide +kernel
theorem dc_M_announce_55 : decode cd_M_announce 55 = .ok (.iconst (-1), 1) := by decide +kernel
theorem dc_M_announce_56 : decode cd_M_announce 56 = .ok (.iastore, 1) := by decide +kernel
theorem dc_M_announce_57 : decode cd_M_announce 57 = .ok (.aload_n 0, 1) := by decide +kernel
theorem dc_M_announce_58 : decode cd_M_announce 58 = .ok (.getfield 20, 3) := by decide +kernel
theorem dc_M_announce_61 : decode cd_M_announce 61 = .ok (.iload_n 2, 1) := by decide +kernel
theorem dc_M_announce_62 : decode cd_M_announce 62 = .ok (.iload_n 1, 1) := by decide +kernel
theorem dc_M_announce_63 : decode cd_M_announce 63 = .ok (.iastore, 1) := by decide +kernel
theorem dc_M_announce_64 : decode cd_M_announce 64 = .ok (.aload_n 0, 1) := by decide +kernel
theorem dc_M_announce_65 : decode cd_M_announce 65 = .ok (.getfield 23, 3) := by decide +kernel
theorem dc_M_announce_68 : decode cd_M_announce 68 = .ok (.iload_n 2, 1) := by decide +kernel
theorem dc_M_announce_69 : decode cd_M_announce 69 = .ok (.aload_n 0, 1) := by decide +kernel
theorem dc_M_announce_70 : decode cd_M_announce 70 = .ok (.getfield 53, 3) := by decide +kernel
theorem dc_M_announce_73 : decode cd_M_announce 73 = .ok (.iload_n 1, 1) := by decide +kernel
theorem dc_M_announce_74 : decode cd_M_announce 74 = .ok (.iaload, 1) := by decide +kernel
theorem dc_M_announce_75 : decode cd_M_announce 75 = .ok (.iastore, 1) := by decide +kernel
theorem dc_M_announce_76 : decode cd_M_announce 76 = .ok (.aload_n 0, 1) := by decide +kernel
theorem dc_M_announce_77 : decode cd_M_announce 77 = .ok (.getfield 26, 3) := by decide +kernel
theorem dc_M_announce_80 : decode cd_M_announce 80 = .ok (.iload_n 2, 1) := by decide +kernel
theorem dc_M_announce_81 : decode cd_M_announce 81 = .ok (.aload_n 0, 1) := by decide +kernel
theorem dc_M_announce_82 : decode cd_M_announce 82 = .ok (.getfield 56, 3) := by decide +kernel
theorem dc_M_announce_85 : decode cd_M_announce 85 = .ok (.iload_n 1, 1) := by decide +kernel
theorem dc_M_announce_86 : decode cd_M_announce 86 = .ok (.iaload, 1) := by decide +kernel
theorem dc_M_announce_87 : decode cd_M_announce 87 = .ok (.iastore, 1) := by decide +kernel
theorem dc_M_announce_88 : decode cd_M_announce 88 = .ok (.aload_n 0, 1) := by decide +kernel
theorem dc_M_announce_89 : decode cd_M_announce 89 = .ok (.getfield 29, 3) := by decide +kernel
theorem dc_M_announce_92 : decode cd_M_announce 92 = .ok (.iload_n 2, 1) := by decide +kernel
theorem dc_M_announce_93 : decode cd_M_announce 93 = .ok (.aload_n 0, 1) := by decide +kernel
theorem dc_M_announce_94 : decode cd_M_announce 94 = .ok (.getfield 59, 3) := by decide +kernel
theorem dc_M_announce_97 : decode cd_M_announce 97 = .ok (.iload_n 1, 1) := by decide +kernel
theorem dc_M_announce_98 : decode cd_M_announce 98 = .ok (.iaload, 1) := by decide +kernel
theorem dc_M_announce_99 : decode cd_M_announce 99 = .ok (.iastore, 1) := by decide +kernel
theorem dc_M_announce_100 : decode cd_M_announce 100 = .ok (.aload_n 0, 1) := by decide +kernel
theorem dc_M_announce_101 : decode cd_M_announce 101 = .ok (.getfield 44, 3) := by decide +kernel
theorem dc_M_announce_104 : decode cd_M_announce 104 = .ok (.iload_n 1, 1) := by decide +kernel
theorem dc_M_announce_105 : decode cd_M_announce 105 = .ok (.iload_n 2, 1) := by decide +kernel
theorem dc_M_announce_106 : decode cd_M_announce 106 = .ok (.iastore, 1) := by decide +kernel
theorem dc_M_announce_107 : decode cd_M_announce 107 = .ok (.aload_n 0, 1) := by decide +kernel
theorem dc_M_announce_108 : decode cd_M_announce 108 = .ok (.getfield 35, 3) := by decide +kernel
theorem dc_M_announce_111 : decode cd_M_announce 111 = .ok (.iload_n 1, 1) := by decide +kernel
theorem dc_M_announce_112 : decode cd_M_announce 112 = .ok (.iload_n 2, 1) := by decide +kernel
theorem dc_M_announce_113 : decode cd_M_announce 113 = .ok (.iastore, 1) := by decide +kernel
theorem dc_M_announce_114 : decode cd_M_announce 114 = .ok (.aload_n 0, 1) := by decide +kernel
theorem dc_M_announce_115 : decode cd_M_announce 115 = .ok (.getfield 47, 3) := by decide +kernel
theorem dc_M_announce_118 : decode cd_M_announce 118 = .ok (.iload_n 1, 1) := by decide +kernel
theorem dc_M_announce_119 : decode cd_M_announce 119 = .ok (.aload_n 0, 1) := by decide +kernel
theorem dc_M_announce_120 : decode cd_M_announce 120 = .ok (.getfield 32, 3) := by decide +kernel
theorem dc_M_announce_123 : decode cd_M_announce 123 = .ok (.iload_n 1, 1) := by decide +kernel
theorem dc_M_announce_124 : decode cd_M_announce 124 = .ok (.iaload, 1) := by decide +kernel
theorem dc_M_announce_125 : decode cd_M_announce 125 = .ok (.iastore, 1) := by decide +kernel
theorem dc_M_announce_126 : decode cd_M_announce 126 = .ok (.aload_n 0, 1) := by decide +kernel
theorem dc_M_announce_127 : decode cd_M_announce 127 = .ok (.getfield 41, 3) := by decide +kernel
theorem dc_M_announce_130 : decode cd_M_announce 130 = .ok (.iload_n 1, 1) := by decide +kernel
theorem dc_M_announce_131 : decode cd_M_announce 131 = .ok (.iconst 0, 1) := by decide +kernel
theorem dc_M_announce_132 : decode cd_M_announce 132 = .ok (.iastore, 1) := by decide +kernel
theorem dc_M_announce_133 : decode cd_M_announce 133 = .ok (.aload_n 0, 1) := by decide +kernel
theorem dc_M_announce_134 : decode cd_M_announce 134 = .ok (.getfield 38, 3) := by decide +kernel
theorem dc_M_announce_137 : decode cd_M_announce 137 = .ok (.iload_n 1, 1) := by decide +kernel
theorem dc_M_announce_138 : decode cd_M_announce 138 = .ok (.iconst 1, 1) := by decide +kernel
theorem dc_M_announce_139 : decode cd_M_announce 139 = .ok (.iastore, 1) := by decide +kernel
theorem dc_M_announce_140 : decode cd_M_announce 140 = .ok (.iconst 0, 1) := by decide +kernel
theorem dc_M_announce_141 : decode cd_M_announce 141 = .ok (.ireturn, 1) := by decide +kernel
theorem dc_M_look_0 : decode cd_M_look 0 = .ok (.aload_n 0, 1) := by decide +kernel
theorem dc_M_look_1 : decode cd_M_look 1 = .ok (.getfield 32, 3) := by decide +kernel
theorem dc_M_look_4 : decode cd_M_look 4 = .ok (.aload_n 0, 1) := by decide +kernel
theorem dc_M_look_5 : decode cd_M_look 5 = .ok (.getfield 41, 3) := by decide +kernel
theorem dc_M_look_8 : decode cd_M_look 8 = .ok (.iload_n 1, 1) := by decide +kernel
theorem dc_M_look_9 : decode cd_M_look 9 = .ok (.iaload, 1) := by decide +kernel
theorem dc_M_look_10 : decode cd_M_look 10 = .ok (.iaload, 1) := by decide +kernel
theorem dc_M_look_11 : decode cd_M_look 11 = .ok (.istore_n 2, 1) := by decide +kernel
theorem dc_M_look_12 : decode cd_M_look 12 = .ok (.aload_n 0, 1) := by decide +kernel
theorem dc_M_look_13 : decode cd_M_look 13 = .ok (.getfield 47, 3) := by decide +kernel
theorem dc_M_look_16 : decode cd_M_look 16 = .ok (.iload_n 1, 1) := by decide +kernel
theorem dc_M_look_17 : decode cd_M_look 17 = .ok (.aload_n 0, 1) := by decide +kernel
theorem dc_M_look_18 : decode cd_M_look 18 = .ok (.getfield 13, 3) := by decide +kernel
theorem dc_M_look_21 : decode cd_M_look 21 = .ok (.iload_n 2, 1) := by decide +kernel
theorem dc_M_look_22 : decode cd_M_look 22 = .ok (.iaload, 1) := by decide +kernel
theorem dc_M_look_23 : decode cd_M_look 23 = .ok (.aload_n 0, 1) := by decide +kernel
theorem dc_M_look_24 : decode cd_M_look 24 = .ok (.getfield 13, 3) := by decide +kernel
theorem dc_M_look_27 : decode cd_M_look 27 = .ok (.aload_n 0, 1) := by decide +kernel
theorem dc_M_look_28 : decode cd_M_look 28 = .ok (.getfield 47, 3) := by decide +kernel
theorem dc_M_look_31 : decode cd_M_look 31 = .ok (.iload_n 1, 1) := by decide +kernel
theorem dc_M_look_32 : decode cd_M_look 32 = .ok (.iaload, 1) := by decide +kernel
theorem dc_M_look_33 : decode cd_M_look 33 = .ok (.iaload, 1) := by decide +kernel
theorem dc_M_look_34 : decode cd_M_look 34 = .ok (.if_icmp .le 7, 3) := by decide +kernel
theorem dc_M_look_37 : decode cd_M_look 37 = .ok (.iload_n 2, 1) := by decide +kernel
theorem dc_M_look_38 : decode cd_M_look 38 = .ok (.goto 9, 3) := by decide +kernel
theorem dc_M_look_41 : decode cd_M_look 41 = .ok (.aload_n 0, 1) := by decide +kernel
theorem dc_M_look_42 : decode cd_M_look 42 = .ok (.getfield 47, 3) := by decide +kernel
theorem dc_M_look_45 : decode cd_M_look 45 = .ok (.iload_n 1, 1) := by decide +kernel
theorem dc_M_look_46 : decode cd_M_look 46 = .ok (.iaload, 1) := by decide +kernel
theorem dc_M_look_47 : decode cd_M_look 47 = .ok (.iastore, 1) := by decide +kernel
theorem dc_M_look_48 : decode cd_M_look 48 = .ok (.aload_n 0, 1) := by decide +kernel
theorem dc_M_look_49 : decode cd_M_look 49 = .ok (.getfield 41, 3) := by decide +kernel
theorem dc_M_look_52 : decode cd_M_look 52 = .ok (.iload_n 1, 1) := by decide +kernel
theorem dc_M_look_53 : decode cd_M_look 53 = .ok (.dup2, 1) := by decide +kernel
theorem dc_M_look_54 : decode cd_M_look 54 = .ok (.iaload, 1) := by decide +kernel
theorem dc_M_look_55 : decode cd_M_look 55 = .ok (.iconst 1, 1) := by decide +kernel
theorem dc_M_look_56 : decode cd_M_look 56 = .ok (.iadd, 1) := by decide +kernel
theorem dc_M_look_57 : decode cd_M_look 57 = .ok (.iastore, 1) := by decide +kernel
theorem dc_M_look_58 : decode cd_M_look 58 = .ok (.aload_n 0, 1) := by decide +kernel
theorem dc_M_look_59 : decode cd_M_look 59 = .ok (.getfield 38, 3) := by decide +kernel
theorem dc_M_look_62 : decode cd_M_look 62 = .ok (.iload_n 1, 1) := by decide +kernel
theorem dc_M_look_63 : decode cd_M_look 63 = .ok (.aload_n 0, 1) := by decide +kernel
theorem dc_M_look_64 : decode cd_M_look 64 = .ok (.getfield 41, 3) := by decide +kernel
theorem dc_M_look_67 : decode cd_M_look 67 = .ok (.iload_n 1, 1) := by decide +kernel
theorem dc_M_look_68 : decode cd_M_look 68 = .ok (.iaload, 1) := by decide +kernel
theorem dc_M_look_69 : decode cd_M_look 69 = .ok (.aload_n 0, 1) := by decide +kernel
theorem dc_M_look_70 : decode cd_M_look 70 = .ok (.getfield 90, 3) := by decide +kernel
theorem dc_M_look_73 : decode cd_M_look 73 = .ok (.if_icmp .ne 7, 3) := by decide +kernel
theorem dc_M_look_76 : decode cd_M_look 76 = .ok (.iconst 2, 1) := by decide +kernel
theorem dc_M_look_77 : decode cd_M_look 77 = .ok (.goto 4, 3) := by decide +kernel
theorem dc_M_look_80 : decode cd_M_look 80 = .ok (.iconst 1, 1) := by decide +kernel
theorem dc_M_look_81 : decode cd_M_look 81 = .ok (.iastore, 1) := by decide +kernel
theorem dc_M_look_82 : decode cd_M_look 82 = .ok (.return_, 1) := by decide +kernel
theorem dc_M_choose_0 : decode cd_M_choose 0 = .ok (.aload_n 0, 1) := by decide +kernel
theorem dc_M_choose_1 : decode cd_M_choose 1 = .ok (.getfield 13, 3) := by decide +kernel
theorem dc_M_choose_4 : decode cd_M_choose 4 = .ok (.aload_n 0, 1) := by decide +kernel
theorem dc_M_choose_5 : decode cd_M_choose 5 = .ok (.getfield 47, 3) := by decide +kernel
theorem dc_M_choose_8 : decode cd_M_choose 8 = .ok (.iload_n 1, 1) := by decide +kernel
theorem dc_M_choose_9 : decode cd_M_choose 9 = .ok (.iaload, 1) := by decide +kernel
theorem dc_M_choose_10 : decode cd_M_choose 10 = .ok (.iaload, 1) := by decide +kernel
theorem dc_M_choose_11 : decode cd_M_choose 11 = .ok (.iconst 1, 1) := by decide +kernel
theorem dc_M_choose_12 : decode cd_M_choose 12 = .ok (.iadd, 1) := by decide +kernel
theorem dc_M_choose_13 : decode cd_M_choose 13 = .ok (.aload_n 0, 1) := by decide +kernel
theorem dc_M_choose_14 : decode cd_M_choose 14 = .ok (.getfield 90, 3) := by decide +kernel
theorem dc_M_choose_17 : decode cd_M_choose 17 = .ok (.irem, 1) := by decide +kernel
theorem dc_M_choose_18 : decode cd_M_choose 18 = .ok (.istore_n 2, 1) := by decide +kernel
theorem dc_M_choose_19 : decode cd_M_choose 19 = .ok (.aload_n 0, 1) := by decide +kernel
theorem dc_M_choose_20 : decode cd_M_choose 20 = .ok (.getfield 50, 3) := by decide +kernel
theorem dc_M_choose_23 : decode cd_M_choose 23 = .ok (.iload_n 1, 1) := by decide +kernel
theorem dc_M_choose_24 : decode cd_M_choose 24 = .ok (.aload_n 0, 1) := by decide +kernel
theorem dc_M_choose_25 : decode cd_M_choose 25 = .ok (.getfield 35, 3) := by decide +kernel
theorem dc_M_choose_28 : decode cd_M_choose 28 = .ok (.iload_n 2, 1) := by decide +kernel
theorem dc_M_choose_29 : decode cd_M_choose 29 = .ok (.iaload, 1) := by decide +kernel
theorem dc_M_choose_30 : decode cd_M_choose 30 = .ok (.ifCond .lt 26, 3) := by decide +kernel
theorem dc_M_choose_33 : decode cd_M_choose 33 = .ok (.aload_n 0, 1) := by decide +kernel
theorem dc_M_choose_34 : decode cd_M_choose 34 = .ok (.getfield 13, 3) := by decide +kernel
theorem dc_M_choose_37 : decode cd_M_choose 37 = .ok (.aload_n 0, 1) := by decide +kernel
theorem dc_M_choose_38 : decode cd_M_choose 38 = .ok (.getfield 35, 3) := by decide +kernel
theorem dc_M_choose_41 : decode cd_M_choose 41 = .ok (.iload_n 2, 1) := by decide +kernel
theorem dc_M_choose_42 : decode cd_M_choose 42 = .ok (.iaload, 1) := by decide +kernel
theorem dc_M_choose_43 : decode cd_M_choose 43 = .ok (.iaload, 1) := by decide +kernel
theorem dc_M_choose_44 : decode cd_M_choose 44 = .ok (.ifCond .ne 12, 3) := by decide +kernel
theorem dc_M_choose_47 : decode cd_M_choose 47 = .ok (.aload_n 0, 1) := by decide +kernel
theorem dc_M_choose_48 : decode cd_M_choose 48 = .ok (.getfield 35, 3) := by decide +kernel
theorem dc_M_choose_51 : decode cd_M_choose 51 = .ok (.iload_n 2, 1) := by decide +kernel
theorem dc_M_choose_52 : decode cd_M_choose 52 = .ok (.iaload, 1) := by decide +kernel
theorem dc_M_choose_53 : decode cd_M_choose 53 = .ok (.goto 9, 3) := by decide +kernel
theorem dc_M_choose_56 : decode cd_M_choose 56 = .ok (.aload_n 0, 1) := by decide +kernel
theorem dc_M_choose_57 : decode cd_M_choose 57 = .ok (.getfield 44, 3) := by decide +kernel
theorem dc_M_choose_60 : decode cd_M_choose 60 = .ok (.iload_n 1, 1) := by decide +kernel
theorem dc_M_choose_61 : decode cd_M_choose 61 = .ok (.iaload, 1) := by decide +kernel
theorem dc_M_choose_62 : decode cd_M_choose 62 = .ok (.iastore, 1) := by decide +kernel
theorem dc_M_choose_63 : decode cd_M_choose 63 = .ok (.aload_n 0, 1) := by decide +kernel
theorem dc_M_choose_64 : decode cd_M_choose 64 = .ok (.getfield 38, 3) := by decide +kernel
theorem dc_M_choose_67 : decode cd_M_choose 67 = .ok (.iload_n 1, 1) := by decide +kernel
theorem dc_M_choose_68 : decode cd_M_choose 68 = .ok (.iconst 4, 1) := by decide +kernel
theorem dc_M_choose_69 : decode cd_M_choose 69 = .ok (.iastore, 1) := by decide +kernel
theorem dc_M_choose_70 : decode cd_M_choose 70 = .ok (.return_, 1) := by decide +kernel
theorem dc_M_propose_0 : decode cd_M_propose 0 = .ok (.aload_n 0, 1) := by decide +kernel
theorem dc_M_propose_1 : decode cd_M_propose 1 = .ok (.getfield 47, 3) := by decide +kernel
theorem dc_M_propose_4 : decode cd_M_propose 4 = .ok (.iload_n 1, 1) := by decide +kernel
theorem dc_M_propose_5 : decode cd_M_propose 5 = .ok (.iaload, 1) := by decide +kernel
theorem dc_M_propose_6 : decode cd_M_propose 6 = .ok (.istore_n 2, 1) := by decide +kernel
theorem dc_M_propose_7 : decode cd_M_propose 7 = .ok (.aload_n 0, 1) := by decide +kernel
theorem dc_M_propose_8 : decode cd_M_propose 8 = .ok (.getfield 17, 3) := by decide +kernel
theorem dc_M_propose_11 : decode cd_M_propose 11 = .ok (.iload_n 2, 1) := by decide +kernel
theorem dc_M_propose_12 : decode cd_M_propose 12 = .ok (.aload_n 0, 1) := by decide +kernel
theorem dc_M_propose_13 : decode cd_M_propose 13 = .ok (.getfield 17, 3) := by decide +kernel
theorem dc_M_propose_16 : decode cd_M_propose 16 = .ok (.iload_n 2, 1) := by decide +kernel
theorem dc_M_propose_17 : decode cd_M_propose 17 = .ok (.iaload, 1) := by decide +kernel
theorem dc_M_propose_18 : decode cd_M_propose 18 = .ok (.ifCond .ge 12, 3) := by decide +kernel
theorem dc_M_propose_21 : decode cd_M_propose 21 = .ok (.aload_n 0, 1) := by decide +kernel
theorem dc_M_propose_22 : decode cd_M_propose 22 = .ok (.getfield 50, 3) := by decide +kernel
theorem dc_M_propose_25 : decode cd_M_propose 25 = .ok (.iload_n 1, 1) := by decide +kernel
theorem dc_M_propose_26 : decode cd_M_propose 26 = .ok (.iaload, 1) := by decide +kernel
theorem dc_M_propose_27 : decode cd_M_propose 27 = .ok (.goto 9, 3) := by decide +kernel
theorem dc_M_propose_30 : decode cd_M_propose 30 = .ok (.aload_n 0, 1) := by decide +kernel
theorem dc_M_propose_31 : decode cd_M_propose 31 = .ok (.getfield 17, 3) := by decide +kernel
theorem dc_M_propose_34 : decode cd_M_propose 34 = .ok (.iload_n 2, 1) := by decide +kernel
theorem dc_M_propose_35 : decode cd_M_propose 35 = .ok (.iaload, 1) := by decide +kernel
theorem dc_M_propose_36 : decode cd_M_propose 36 = .ok (.iastore, 1) := by decide +kernel
theorem dc_M_propose_37 : decode cd_M_propose 37 = .ok (.aload_n 0, 1) := by decide +kernel
theorem dc_M_propose_38 : decode cd_M_propose 38 = .ok (.getfield 50, 3) := by decide +kernel
theorem dc_M_propose_41 : decode cd_M_propose 41 = .ok (.iload_n 1, 1) := by decide +kernel
theorem dc_M_propose_42 : decode cd_M_propose 42 = .ok (.aload_n 0, 1) := by decide +kernel
theorem dc_M_propose_43 : decode cd_M_propose 43 = .ok (.getfield 17, 3) := by decide +kernel
theorem dc_M_propose_46 : decode cd_M_propose 46 = .ok (.iload_n 2, 1) := by decide +kernel
theorem dc_M_propose_47 : decode cd_M_propose 47 = .ok (.iaload, 1) := by decide +kernel
theorem dc_M_propose_48 : decode cd_M_propose 48 = .ok (.iastore, 1) := by decide +kernel
theorem dc_M_propose_49 : decode cd_M_propose 49 = .ok (.aload_n 0, 1) := by decide +kernel
theorem dc_M_propose_50 : decode cd_M_propose 50 = .ok (.getfield 38, 3) := by decide +kernel
theorem dc_M_propose_53 : decode cd_M_propose 53 = .ok (.iload_n 1, 1) := by decide +kernel
theorem dc_M_propose_54 : decode cd_M_propose 54 = .ok (.iconst 5, 1) := by decide +kernel
theorem dc_M_propose_55 : decode cd_M_propose 55 = .ok (.iastore, 1) := by decide +kernel
theorem dc_M_propose_56 : decode cd_M_propose 56 = .ok (.return_, 1) := by decide +kernel
theorem dc_M_give_0 : decode cd_M_give 0 = .ok (.aload_n 0, 1) := by decide +kernel
theorem dc_M_give_1 : decode cd_M_give 1 = .ok (.getfield 50, 3) := by decide +kernel
theorem dc_M_give_4 : decode cd_M_give 4 = .ok (.iload_n 1, 1) := by decide +kernel
theorem dc_M_give_5 : decode cd_M_give 5 = .ok (.iaload, 1) := by decide +kernel
theorem dc_M_give_6 : decode cd_M_give 6 = .ok (.istore_n 2, 1) := by decide +kernel
theorem dc_M_give_7 : decode cd_M_give 7 = .ok (.aload_n 0, 1) := by decide +kernel
theorem dc_M_give_8 : decode cd_M_give 8 = .ok (.getfield 13, 3) := by decide +kernel
theorem dc_M_give_11 : decode cd_M_give 11 = .ok (.aload_n 0, 1) := by decide +kernel
theorem dc_M_give_12 : decode cd_M_give 12 = .ok (.getfield 47, 3) := by decide +kernel
theorem dc_M_give_15 : decode cd_M_give 15 = .ok (.iload_n 1, 1) := by decide +kernel
theorem dc_M_give_16 : decode cd_M_give 16 = .ok (.iaload, 1) := by decide +kernel
theorem dc_M_give_17 : decode cd_M_give 17 = .ok (.iaload, 1) := by decide +kernel
theorem dc_M_give_18 : decode cd_M_give 18 = .ok (.iconst 1, 1) := by decide +kernel
theorem dc_M_give_19 : decode cd_M_give 19 = .ok (.iadd, 1) := by decide +kernel
theorem dc_M_give_20 : decode cd_M_give 20 = .ok (.istore_n 3, 1) := by decide +kernel
theorem dc_M_give_21 : decode cd_M_give 21 = .ok (.aload_n 0, 1) := by decide +kernel
theorem dc_M_give_22 : decode cd_M_give 22 = .ok (.getfield 13, 3) := by decide +kernel
theorem dc_M_give_25 : decode cd_M_give 25 = .ok (.iload_n 2, 1) := by decide +kernel
theorem dc_M_give_26 : decode cd_M_give 26 = .ok (.iload_n 3, 1) := by decide +kernel
theorem dc_M_give_27 : decode cd_M_give 27 = .ok (.iastore, 1) := by decide +kernel
theorem dc_M_give_28 : decode cd_M_give 28 = .ok (.aload_n 0, 1) := by decide +kernel
theorem dc_M_give_29 : decode cd_M_give 29 = .ok (.getfield 71, 3) := by decide +kernel
theorem dc_M_give_32 : decode cd_M_give 32 = .ok (.iload_n 3, 1) := by decide +kernel
theorem dc_M_give_33 : decode cd_M_give 33 = .ok (.aload_n 0, 1) := by decide +kernel
theorem dc_M_give_34 : decode cd_M_give 34 = .ok (.getfield 23, 3) := by decide +kernel
theorem dc_M_give_37 : decode cd_M_give 37 = .ok (.iload_n 2, 1) := by decide +kernel
theorem dc_M_give_38 : decode cd_M_give 38 = .ok (.iaload, 1) := by decide +kernel
theorem dc_M_give_39 : decode cd_M_give 39 = .ok (.iastore, 1) := by decide +kernel
theorem dc_M_give_40 : decode cd_M_give 40 = .ok (.aload_n 0, 1) := by decide +kernel
theorem dc_M_give_41 : decode cd_M_give 41 = .ok (.getfield 74, 3) := by decide +kernel
theorem dc_M_give_44 : decode cd_M_give 44 = .ok (.iload_n 3, 1) := by decide +kernel
theorem dc_M_give_45 : decode cd_M_give 45 = .ok (.aload_n 0, 1) := by decide +kernel
theorem dc_M_give_46 : decode cd_M_give 46 = .ok (.getfield 26, 3) := by decide +kernel
theorem dc_M_give_49 : decode cd_M_give 49 = .ok (.iload_n 2, 1) := by decide +kernel
theorem dc_M_give_50 : decode cd_M_give 50 = .ok (.iaload, 1) := by decide +kernel
theorem dc_M_give_51 : decode cd_M_give 51 = .ok (.iastore, 1) := by decide +kernel
theorem dc_M_give_52 : decode cd_M_give 52 = .ok (.aload_n 0, 1) := by decide +kernel
theorem dc_M_give_53 : decode cd_M_give 53 = .ok (.getfield 77, 3) := by decide +kernel
theorem dc_M_give_56 : decode cd_M_give 56 = .ok (.iload_n 3, 1) := by decide +kernel
theorem dc_M_give_57 : decode cd_M_give 57 = .ok (.aload_n 0, 1) := by decide +kernel
theorem dc_M_give_58 : decode cd_M_give 58 = .ok (.getfield 29, 3) := by decide +kernel
theorem dc_M_give_61 : decode cd_M_give 61 = .ok (.iload_n 2, 1) := by decide +kernel
theorem dc_M_give_62 : decode cd_M_give 62 = .ok (.iaload, 1) := by decide +kernel
theorem dc_M_give_63 : decode cd_M_give 63 = .ok (.iastore, 1) := by decide +kernel
theorem dc_M_give_64 : decode cd_M_give 64 = .ok (.aload_n 0, 1) := by decide +kernel
theorem dc_M_give_65 : decode cd_M_give 65 = .ok (.iload_n 3, 1) := by decide +kernel
theorem dc_M_give_66 : decode cd_M_give 66 = .ok (.aload_n 0, 1) := by decide +kernel
theorem dc_M_give_67 : decode cd_M_give 67 = .ok (.getfield 93, 3) := by decide +kernel
theorem dc_M_give_70 : decode cd_M_give 70 = .ok (.if_icmp .le 7, 3) := by decide +kernel
theorem dc_M_give_73 : decode cd_M_give 73 = .ok (.iload_n 3, 1) := by decide +kernel
theorem dc_M_give_74 : decode cd_M_give 74 = .ok (.goto 7, 3) := by decide +kernel
theorem dc_M_give_77 : decode cd_M_give 77 = .ok (.aload_n 0, 1) := by decide +kernel
theorem dc_M_give_78 : decode cd_M_give 78 = .ok (.getfield 93, 3) := by decide +kernel
theorem dc_M_give_81 : decode cd_M_give 81 = .ok (.putfield 93, 3) := by decide +kernel
theorem dc_M_give_84 : decode cd_M_give 84 = .ok (.aload_n 0, 1) := by decide +kernel
theorem dc_M_give_85 : decode cd_M_give 85 = .ok (.getfield 38, 3) := by decide +kernel
theorem dc_M_give_88 : decode cd_M_give 88 = .ok (.iload_n 1, 1) := by decide +kernel
theorem dc_M_give_89 : decode cd_M_give 89 = .ok (.bipush 6, 2) := by decide +kernel
theorem dc_M_give_91 : decode cd_M_give 91 = .ok (.iastore, 1) := by decide +kernel
theorem dc_M_give_92 : decode cd_M_give 92 = .ok (.return_, 1) := by decide +kernel
theorem dc_M_finish_0 : decode cd_M_finish 0 = .ok (.aload_n 0, 1) := by decide +kernel
theorem dc_M_finish_1 : decode cd_M_finish 1 = .ok (.getfield 32, 3) := by decide +kernel
theorem dc_M_finish_4 : decode cd_M_finish 4 = .ok (.iload_n 1, 1) := by decide +kernel
theorem dc_M_finish_5 : decode cd_M_finish 5 = .ok (.aload_n 0, 1) := by decide +kernel
theorem dc_M_finish_6 : decode cd_M_finish 6 = .ok (.getfield 44, 3) := by decide +kernel
theorem dc_M_finish_9 : decode cd_M_finish 9 = .ok (.iload_n 1, 1) := by decide +kernel
theorem dc_M_finish_10 : decode cd_M_finish 10 = .ok (.iaload, 1) := by decide +kernel
theorem dc_M_finish_11 : decode cd_M_finish 11 = .ok (.iastore, 1) := by decide +kernel
theorem dc_M_finish_12 : decode cd_M_finish 12 = .ok (.aload_n 0, 1) := by decide +kernel
theorem dc_M_finish_13 : decode cd_M_finish 13 = .ok (.getfield 35, 3) := by decide +kernel
theorem dc_M_finish_16 : decode cd_M_finish 16 = .ok (.iload_n 1, 1) := by decide +kernel
theorem dc_M_finish_17 : decode cd_M_finish 17 = .ok (.iconst (-1), 1) := by decide +kernel
theorem dc_M_finish_18 : decode cd_M_finish 18 = .ok (.iastore, 1) := by decide +kernel
theorem dc_M_finish_19 : decode cd_M_finish 19 = .ok (.aload_n 0, 1) := by decide +kernel
theorem dc_M_finish_20 : decode cd_M_finish 20 = .ok (.getfield 68, 3) := by decide +kernel
theorem dc_M_finish_23 : decode cd_M_finish 23 = .ok (.iload_n 1, 1) := by decide +kernel
theorem dc_M_finish_24 : decode cd_M_finish 24 = .ok (.aload_n 0, 1) := by decide +kernel
theorem dc_M_finish_25 : decode cd_M_finish 25 = .ok (.getfield 13, 3) := by decide +kernel
theorem dc_M_finish_28 : decode cd_M_finish 28 = .ok (.aload_n 0, 1) := by decide +kernel
theorem dc_M_finish_29 : decode cd_M_finish 29 = .ok (.getfield 44, 3) := by decide +kernel
theorem dc_M_finish_32 : decode cd_M_finish 32 = .ok (.iload_n 1, 1) := by decide +kernel
theorem dc_M_finish_33 : decode cd_M_finish 33 = .ok (.iaload, 1) := by decide +kernel
theorem dc_M_finish_34 : decode cd_M_finish 34 = .ok (.iaload, 1) := by decide +kernel
theorem dc_M_finish_35 : decode cd_M_finish 35 = .ok (.iastore, 1) := by decide +kernel
theorem dc_M_finish_36 : decode cd_M_finish 36 = .ok (.aload_n 0, 1) := by decide +kernel
theorem dc_M_finish_37 : decode cd_M_finish 37 = .ok (.getfield 65, 3) := by decide +kernel
theorem dc_M_finish_40 : decode cd_M_finish 40 = .ok (.iload_n 1, 1) := by decide +kernel
theorem dc_M_finish_41 : decode cd_M_finish 41 = .ok (.aload_n 0, 1) := by decide +kernel
theorem dc_M_finish_42 : decode cd_M_finish 42 = .ok (.aload_n 0, 1) := by decide +kernel
theorem dc_M_finish_43 : decode cd_M_finish 43 = .ok (.getfield 68, 3) := by decide +kernel
theorem dc_M_finish_46 : decode cd_M_finish 46 = .ok (.iload_n 1, 1) := by decide +kernel
theorem dc_M_finish_47 : decode cd_M_finish 47 = .ok (.iaload, 1) := by decide +kernel
theorem dc_M_finish_48 : decode cd_M_finish 48 = .ok (.invokevirtual 126, 3) := by decide +kernel
theorem dc_M_finish_51 : decode cd_M_finish 51 = .ok (.iastore, 1) := by decide +kernel
theorem dc_M_finish_52 : decode cd_M_finish 52 = .ok (.aload_n 0, 1) := by decide +kernel
theorem dc_M_finish_53 : decode cd_M_finish 53 = .ok (.getfield 62, 3) := by decide +kernel
theorem dc_M_finish_56 : decode cd_M_finish 56 = .ok (.iload_n 1, 1) := by decide +kernel
theorem dc_M_finish_57 : decode cd_M_finish 57 = .ok (.dup2, 1) := by decide +kernel
theorem dc_M_finish_58 : decode cd_M_finish 58 = .ok (.iaload, 1) := by decide +kernel
theorem dc_M_finish_59 : decode cd_M_finish 59 = .ok (.iconst 1, 1) := by decide +kernel
theorem dc_M_finish_60 : decode cd_M_finish 60 = .ok (.iadd, 1) := by decide +kernel
theorem dc_M_finish_61 : decode cd_M_finish 61 = .ok (.iastore, 1) := by decide +kernel
theorem dc_M_finish_62 : decode cd_M_finish 62 = .ok (.aload_n 0, 1) := by decide +kernel
theorem dc_M_finish_63 : decode cd_M_finish 63 = .ok (.getfield 38, 3) := by decide +kernel
theorem dc_M_finish_66 : decode cd_M_finish 66 = .ok (.iload_n 1, 1) := by decide +kernel
theorem dc_M_finish_67 : decode cd_M_finish 67 = .ok (.iconst (-1), 1) := by decide +kernel
theorem dc_M_finish_68 : decode cd_M_finish 68 = .ok (.iastore, 1) := by decide +kernel
theorem dc_M_finish_69 : decode cd_M_finish 69 = .ok (.iconst 1, 1) := by decide +kernel
theorem dc_M_finish_70 : decode cd_M_finish 70 = .ok (.ireturn, 1) := by decide +kernel
theorem dc_M_one_0 : decode cd_M_one 0 = .ok (.aload_n 0, 1) := by decide +kernel
theorem dc_M_one_1 : decode cd_M_one 1 = .ok (.getfield 38, 3) := by decide +kernel
theorem dc_M_one_4 : decode cd_M_one 4 = .ok (.iload_n 1, 1) := by decide +kernel
theorem dc_M_one_5 : decode cd_M_one 5 = .ok (.iaload, 1) := by decide +kernel
theorem dc_M_one_6 : decode cd_M_one 6 = .ok (.tableswitch 149 (-1) 6 #[46, 48, 54, 62, 91, 99, 107, 115], 46) := by decide +kernel
theorem dc_M_one_52 : decode cd_M_one 52 = .ok (.iconst 2, 1) := by decide +kernel
theorem dc_M_one_53 : decode cd_M_one 53 = .ok (.ireturn, 1) := by decide +kernel
theorem dc_M_one_54 : decode cd_M_one 54 = .ok (.aload_n 0, 1) := by decide +kernel
theorem dc_M_one_55 : decode cd_M_one 55 = .ok (.iload_n 1, 1) := by decide +kernel
theorem dc_M_one_56 : decode cd_M_one 56 = .ok (.invokevirtual 130, 3) := by decide +kernel
theorem dc_M_one_59 : decode cd_M_one 59 = .ok (.ireturn, 1) := by decide +kernel
theorem dc_M_one_60 : decode cd_M_one 60 = .ok (.aload_n 0, 1) := by decide +kernel
theorem dc_M_one_61 : decode cd_M_one 61 = .ok (.iload_n 1, 1) := by decide +kernel
theorem dc_M_one_62 : decode cd_M_one 62 = .ok (.invokevirtual 133, 3) := by decide +kernel
theorem dc_M_one_65 : decode cd_M_one 65 = .ok (.goto 96, 3) := by decide +kernel
theorem dc_M_one_68 : decode cd_M_one 68 = .ok (.aload_n 0, 1) := by decide +kernel
theorem dc_M_one_69 : decode cd_M_one 69 = .ok (.getfield 38, 3) := by decide +kernel
theorem dc_M_one_72 : decode cd_M_one 72 = .ok (.iload_n 1, 1) := by decide +kernel
theorem dc_M_one_73 : decode cd_M_one 73 = .ok (.aload_n 0, 1) := by decide +kernel
theorem dc_M_one_74 : decode cd_M_one 74 = .ok (.getfield 13, 3) := by decide +kernel
theorem dc_M_one_77 : decode cd_M_one 77 = .ok (.aload_n 0, 1) := by decide +kernel
theorem dc_M_one_78 : decode cd_M_one 78 = .ok (.getfield 44, 3) := by decide +kernel
theorem dc_M_one_81 : decode cd_M_one 81 = .ok (.iload_n 1, 1) := by decide +kernel
theorem dc_M_one_82 : decode cd_M_one 82 = .ok (.iaload, 1) := by decide +kernel
theorem dc_M_one_83 : decode cd_M_one 83 = .ok (.iaload, 1) := by decide +kernel
theorem dc_M_one_84 : decode cd_M_one 84 = .ok (.ifCond .le 8, 3) := by decide +kernel
theorem dc_M_one_87 : decode cd_M_one 87 = .ok (.bipush 7, 2) := by decide +kernel
theorem dc_M_one_89 : decode cd_M_one 89 = .ok (.goto 4, 3) := by decide +kernel
theorem dc_M_one_92 : decode cd_M_one 92 = .ok (.iconst 3, 1) := by decide +kernel
theorem dc_M_one_93 : decode cd_M_one 93 = .ok (.iastore, 1) := by decide +kernel
theorem dc_M_one_94 : decode cd_M_one 94 = .ok (.goto 67, 3) := by decide +kernel
theorem dc_M_one_97 : decode cd_M_one 97 = .ok (.aload_n 0, 1) := by decide +kernel
theorem dc_M_one_98 : decode cd_M_one 98 = .ok (.iload_n 1, 1) := by decide +kernel
theorem dc_M_one_99 : decode cd_M_one 99 = .ok (.invokevirtual 137, 3) := by decide +kernel
theorem dc_M_one_102 : decode cd_M_one 102 = .ok (.goto 59, 3) := by decide +kernel
theorem dc_M_one_105 : decode cd_M_one 105 = .ok (.aload_n 0, 1) := by decide +kernel
theorem dc_M_one_106 : decode cd_M_one 106 = .ok (.iload_n 1, 1) := by decide +kernel
theorem dc_M_one_107 : decode cd_M_one 107 = .ok (.invokevirtual 140, 3) := by decide +kernel
theorem dc_M_one_110 : decode cd_M_one 110 = .ok (.goto 51, 3) := by decide +kernel
theorem dc_M_one_113 : decode cd_M_one 113 = .ok (.aload_n 0, 1) := by decide +kernel
theorem dc_M_one_114 : decode cd_M_one 114 = .ok (.iload_n 1, 1) := by decide +kernel
theorem dc_M_one_115 : decode cd_M_one 115 = .ok (.invokevirtual 143, 3) := by decide +kernel
theorem dc_M_one_118 : decode cd_M_one 118 = .ok (.goto 43, 3) := by decide +kernel
theorem dc_M_one_121 : decode cd_M_one 121 = .ok (.aload_n 0, 1) := by decide +kernel
theorem dc_M_one_122 : decode cd_M_one 122 = .ok (.getfield 32, 3) := by decide +kernel
theorem dc_M_one_125 : decode cd_M_one 125 = .ok (.iload_n 1, 1) := by decide +kernel
theorem dc_M_one_126 : decode cd_M_one 126 = .ok (.aload_n 0, 1) := by decide +kernel
theorem dc_M_one_127 : decode cd_M_one 127 = .ok (.getfield 50, 3) := by decide +kernel
theorem dc_M_one_130 : decode cd_M_one 130 = .ok (.iload_n 1, 1) := by decide +kernel
theorem dc_M_one_131 : decode cd_M_one 131 = .ok (.iaload, 1) := by decide +kernel
theorem dc_M_one_132 : decode cd_M_one 132 = .ok (.iastore, 1) := by decide +kernel
theorem dc_M_one_133 : decode cd_M_one 133 = .ok (.aload_n 0, 1) := by decide +kernel
theorem dc_M_one_134 : decode cd_M_one 134 = .ok (.getfield 47, 3) := by decide +kernel
theorem dc_M_one_137 : decode cd_M_one 137 = .ok (.iload_n 1, 1) := by decide +kernel
theorem dc_M_one_138 : decode cd_M_one 138 = .ok (.aload_n 0, 1) := by decide +kernel
theorem dc_M_one_139 : decode cd_M_one 139 = .ok (.getfield 50, 3) := by decide +kernel
theorem dc_M_one_142 : decode cd_M_one 142 = .ok (.iload_n 1, 1) := by decide +kernel
theorem dc_M_one_143 : decode cd_M_one 143 = .ok (.iaload, 1) := by decide +kernel
theorem dc_M_one_144 : decode cd_M_one 144 = .ok (.iastore, 1) := by decide +kernel
theorem dc_M_one_145 : decode cd_M_one 145 = .ok (.aload_n 0, 1) := by decide +kernel
theorem dc_M_one_146 : decode cd_M_one 146 = .ok (.getfield 38, 3) := by decide +kernel
theorem dc_M_one_149 : decode cd_M_one 149 = .ok (.iload_n 1, 1) := by decide +kernel
theorem dc_M_one_150 : decode cd_M_one 150 = .ok (.iconst 2, 1) := by decide +kernel
theorem dc_M_one_151 : decode cd_M_one 151 = .ok (.iastore, 1) := by decide +kernel
theorem dc_M_one_152 : decode cd_M_one 152 = .ok (.goto 9, 3) := by decide +kernel
theorem dc_M_one_155 : decode cd_M_one 155 = .ok (.aload_n 0, 1) := by decide +kernel
theorem dc_M_one_156 : decode cd_M_one 156 = .ok (.iload_n 1, 1) := by decide +kernel
theorem dc_M_one_157 : decode cd_M_one 157 = .ok (.invokevirtual 146, 3) := by decide +kernel
theorem dc_M_one_160 : decode cd_M_one 160 = .ok (.ireturn, 1) := by decide +kernel
theorem dc_M_one_161 : decode cd_M_one 161 = .ok (.iconst 0, 1) := by decide +kernel
theorem dc_M_one_162 : decode cd_M_one 162 = .ok (.ireturn, 1) := by decide +kernel
theorem dc_M_step_0 : decode cd_M_step 0 = .ok (.aload_n 0, 1) := by decide +kernel
theorem dc_M_step_1 : decode cd_M_step 1 = .ok (.aload_n 0, 1) := by decide +kernel
theorem dc_M_step_2 : decode cd_M_step 2 = .ok (.iload_n 1, 1) := by decide +kernel
theorem dc_M_step_3 : decode cd_M_step 3 = .ok (.invokevirtual 119, 3) := by decide +kernel
theorem dc_M_step_6 : decode cd_M_step 6 = .ok (.ifCond .eq 7, 3) := by decide +kernel
theorem dc_M_step_9 : decode cd_M_step 9 = .ok (.iconst 0, 1) := by decide +kernel
theorem dc_M_step_10 : decode cd_M_step 10 = .ok (.goto 4, 3) := by decide +kernel
theorem dc_M_step_13 : decode cd_M_step 13 = .ok (.iconst 1, 1) := by decide +kernel
theorem dc_M_step_14 : decode cd_M_step 14 = .ok (.invokevirtual 123, 3) := by decide +kernel
theorem dc_M_step_17 : decode cd_M_step 17 = .ok (.ifCond .eq 7, 3) := by decide +kernel
theorem dc_M_step_20 : decode cd_M_step 20 = .ok (.iconst 0, 1) := by decide +kernel
theorem dc_M_step_21 : decode cd_M_step 21 = .ok (.goto 8, 3) := by decide +kernel
theorem dc_M_step_24 : decode cd_M_step 24 = .ok (.aload_n 0, 1) := by decide +kernel
theorem dc_M_step_25 : decode cd_M_step 25 = .ok (.iload_n 1, 1) := by decide +kernel
theorem dc_M_step_26 : decode cd_M_step 26 = .ok (.invokevirtual 149, 3) := by decide +kernel
theorem dc_M_step_29 : decode cd_M_step 29 = .ok (.ireturn, 1) := by decide +kernel
theorem dc_M_run_0 : decode cd_M_run 0 = .ok (.aload_n 0, 1) := by decide +kernel
theorem dc_M_run_1 : decode cd_M_run 1 = .ok (.iload_n 2, 1) := by decide +kernel
theorem dc_M_run_2 : decode cd_M_run 2 = .ok (.iconst 1, 1) := by decide +kernel
theorem dc_M_run_3 : decode cd_M_run 3 = .ok (.if_icmp .lt 10, 3) := by decide +kernel
theorem dc_M_run_6 : decode cd_M_run 6 = .ok (.iload_n 2, 1) := by decide +kernel
theorem dc_M_run_7 : decode cd_M_run 7 = .ok (.sipush 1000, 3) := by decide +kernel
theorem dc_M_run_10 : decode cd_M_run 10 = .ok (.if_icmp .le 7, 3) := by decide +kernel
theorem dc_M_run_13 : decode cd_M_run 13 = .ok (.iconst 1, 1) := by decide +kernel
theorem dc_M_run_14 : decode cd_M_run 14 = .ok (.goto 4, 3) := by decide +kernel
theorem dc_M_run_17 : decode cd_M_run 17 = .ok (.iconst 0, 1) := by decide +kernel
theorem dc_M_run_18 : decode cd_M_run 18 = .ok (.invokevirtual 123, 3) := by decide +kernel
theorem dc_M_run_21 : decode cd_M_run 21 = .ok (.ifCond .eq 5, 3) := by decide +kernel
theorem dc_M_run_24 : decode cd_M_run 24 = .ok (.iconst 0, 1) := by decide +kernel
theorem dc_M_run_25 : decode cd_M_run 25 = .ok (.ireturn, 1) := by decide +kernel
theorem dc_M_run_26 : decode cd_M_run 26 = .ok (.iload_n 1, 1) := by decide +kernel
theorem dc_M_run_27 : decode cd_M_run 27 = .ok (.istore_n 3, 1) := by decide +kernel
theorem dc_M_run_28 : decode cd_M_run 28 = .ok (.iconst 0, 1) := by decide +kernel
theorem dc_M_run_29 : decode cd_M_run 29 = .ok (.istore 4, 2) := by decide +kernel
theorem dc_M_run_31 : decode cd_M_run 31 = .ok (.iconst 0, 1) := by decide +kernel
theorem dc_M_run_32 : decode cd_M_run 32 = .ok (.istore 5, 2) := by decide +kernel
theorem dc_M_run_34 : decode cd_M_run 34 = .ok (.iload 5, 2) := by decide +kernel
theorem dc_M_run_36 : decode cd_M_run 36 = .ok (.iload_n 2, 1) := by decide +kernel
theorem dc_M_run_37 : decode cd_M_run 37 = .ok (.if_icmp .ge 46, 3) := by decide +kernel
theorem dc_M_run_40 : decode cd_M_run 40 = .ok (.iload_n 3, 1) := by decide +kernel
theorem dc_M_run_41 : decode cd_M_run 41 = .ok (.ldc 152, 2) := by decide +kernel
theorem dc_M_run_43 : decode cd_M_run 43 = .ok (.imul, 1) := by decide +kernel
theorem dc_M_run_44 : decode cd_M_run 44 = .ok (.sipush 12345, 3) := by decide +kernel
theorem dc_M_run_47 : decode cd_M_run 47 = .ok (.iadd, 1) := by decide +kernel
theorem dc_M_run_48 : decode cd_M_run 48 = .ok (.istore_n 3, 1) := by decide +kernel
theorem dc_M_run_49 : decode cd_M_run 49 = .ok (.aload_n 0, 1) := by decide +kernel
theorem dc_M_run_50 : decode cd_M_run 50 = .ok (.iload_n 3, 1) := by decide +kernel
theorem dc_M_run_51 : decode cd_M_run 51 = .ok (.bipush 16, 2) := by decide +kernel
theorem dc_M_run_53 : decode cd_M_run 53 = .ok (.iushr, 1) := by decide +kernel
theorem dc_M_run_54 : decode cd_M_run 54 = .ok (.aload_n 0, 1) := by decide +kernel
theorem dc_M_run_55 : decode cd_M_run 55 = .ok (.getfield 90, 3) := by decide +kernel
theorem dc_M_run_58 : decode cd_M_run 58 = .ok (.irem, 1) := by decide +kernel
theorem dc_M_run_59 : decode cd_M_run 59 = .ok (.invokevirtual 149, 3) := by decide +kernel
theorem dc_M_run_62 : decode cd_M_run 62 = .ok (.iconst 1, 1) := by decide +kernel
theorem dc_M_run_63 : decode cd_M_run 63 = .ok (.if_icmp .ne 10, 3) := by decide +kernel
theorem dc_M_run_66 : decode cd_M_run 66 = .ok (.iload 4, 2) := by decide +kernel
theorem dc_M_run_68 : decode cd_M_run 68 = .ok (.iconst 1, 1) := by decide +kernel
theorem dc_M_run_69 : decode cd_M_run 69 = .ok (.iadd, 1) := by decide +kernel
theorem dc_M_run_70 : decode cd_M_run 70 = .ok (.goto 5, 3) := by decide +kernel
theorem dc_M_run_73 : decode cd_M_run 73 = .ok (.iload 4, 2) := by decide +kernel
theorem dc_M_run_75 : decode cd_M_run 75 = .ok (.istore 4, 2) := by decide +kernel
theorem dc_M_run_77 : decode cd_M_run 77 = .ok (.iinc 5 1, 3) := by decide +kernel
theorem dc_M_run_80 : decode cd_M_run 80 = .ok (.goto (-46), 3) := by decide +kernel
theorem dc_M_run_83 : decode cd_M_run 83 = .ok (.iload 4, 2) := by decide +kernel
theorem dc_M_run_85 : decode cd_M_run 85 = .ok (.ireturn, 1) := by decide +kernel
theorem dc_M_done_0 : decode cd_M_done 0 = .ok (.aload_n 0, 1) := by decide +kernel
theorem dc_M_done_1 : decode cd_M_done 1 = .ok (.aload_n 0, 1) := by decide +kernel
theorem dc_M_done_2 : decode cd_M_done 2 = .ok (.iload_n 1, 1) := by decide +kernel
theorem dc_M_done_3 : decode cd_M_done 3 = .ok (.invokevirtual 119, 3) := by decide +kernel
theorem dc_M_done_6 : decode cd_M_done 6 = .ok (.ifCond .eq 7, 3) := by decide +kernel
theorem dc_M_done_9 : decode cd_M_done 9 = .ok (.iconst 0, 1) := by decide +kernel
theorem dc_M_done_10 : decode cd_M_done 10 = .ok (.goto 4, 3) := by decide +kernel
theorem dc_M_done_13 : decode cd_M_done 13 = .ok (.iconst 1, 1) := by decide +kernel
theorem dc_M_done_14 : decode cd_M_done 14 = .ok (.invokevirtual 123, 3) := by decide +kernel
theorem dc_M_done_17 : decode cd_M_done 17 = .ok (.ifCond .eq 7, 3) := by decide +kernel
theorem dc_M_done_20 : decode cd_M_done 20 = .ok (.iconst 0, 1) := by decide +kernel
theorem dc_M_done_21 : decode cd_M_done 21 = .ok (.goto 9, 3) := by decide +kernel
theorem dc_M_done_24 : decode cd_M_done 24 = .ok (.aload_n 0, 1) := by decide +kernel
theorem dc_M_done_25 : decode cd_M_done 25 = .ok (.getfield 62, 3) := by decide +kernel
theorem dc_M_done_28 : decode cd_M_done 28 = .ok (.iload_n 1, 1) := by decide +kernel
theorem dc_M_done_29 : decode cd_M_done 29 = .ok (.iaload, 1) := by decide +kernel
theorem dc_M_done_30 : decode cd_M_done 30 = .ok (.ireturn, 1) := by decide +kernel
theorem dc_M_answer_0 : decode cd_M_answer 0 = .ok (.aload_n 0, 1) := by decide +kernel
theorem dc_M_answer_1 : decode cd_M_answer 1 = .ok (.aload_n 0, 1) := by decide +kernel
theorem dc_M_answer_2 : decode cd_M_answer 2 = .ok (.iload_n 1, 1) := by decide +kernel
theorem dc_M_answer_3 : decode cd_M_answer 3 = .ok (.invokevirtual 119, 3) := by decide +kernel
theorem dc_M_answer_6 : decode cd_M_answer 6 = .ok (.ifCond .ne 7, 3) := by decide +kernel
theorem dc_M_answer_9 : decode cd_M_answer 9 = .ok (.iconst 1, 1) := by decide +kernel
theorem dc_M_answer_10 : decode cd_M_answer 10 = .ok (.goto 17, 3) := by decide +kernel
theorem dc_M_answer_13 : decode cd_M_answer 13 = .ok (.aload_n 0, 1) := by decide +kernel
theorem dc_M_answer_14 : decode cd_M_answer 14 = .ok (.getfield 62, 3) := by decide +kernel
theorem dc_M_answer_17 : decode cd_M_answer 17 = .ok (.iload_n 1, 1) := by decide +kernel
theorem dc_M_answer_18 : decode cd_M_answer 18 = .ok (.iaload, 1) := by decide +kernel
theorem dc_M_answer_19 : decode cd_M_answer 19 = .ok (.ifCond .ne 7, 3) := by decide +kernel
theorem dc_M_answer_22 : decode cd_M_answer 22 = .ok (.iconst 2, 1) := by decide +kernel
theorem dc_M_answer_23 : decode cd_M_answer 23 = .ok (.goto 4, 3) := by decide +kernel
theorem dc_M_answer_26 : decode cd_M_answer 26 = .ok (.iconst 0, 1) := by decide +kernel
theorem dc_M_answer_27 : decode cd_M_answer 27 = .ok (.invokevirtual 123, 3) := by decide +kernel
theorem dc_M_answer_30 : decode cd_M_answer 30 = .ok (.ifCond .eq 7, 3) := by decide +kernel
theorem dc_M_answer_33 : decode cd_M_answer 33 = .ok (.iconst 0, 1) := by decide +kernel
theorem dc_M_answer_34 : decode cd_M_answer 34 = .ok (.goto 9, 3) := by decide +kernel
theorem dc_M_answer_37 : decode cd_M_answer 37 = .ok (.aload_n 0, 1) := by decide +kernel
theorem dc_M_answer_38 : decode cd_M_answer 38 = .ok (.getfield 65, 3) := by decide +kernel
theorem dc_M_answer_41 : decode cd_M_answer 41 = .ok (.iload_n 1, 1) := by decide +kernel
theorem dc_M_answer_42 : decode cd_M_answer 42 = .ok (.iaload, 1) := by decide +kernel
theorem dc_M_answer_43 : decode cd_M_answer 43 = .ok (.ireturn, 1) := by decide +kernel
theorem dc_M_placeOf_0 : decode cd_M_placeOf 0 = .ok (.aload_n 0, 1) := by decide +kernel
theorem dc_M_placeOf_1 : decode cd_M_placeOf 1 = .ok (.aload_n 0, 1) := by decide +kernel
theorem dc_M_placeOf_2 : decode cd_M_placeOf 2 = .ok (.iload_n 1, 1) := by decide +kernel
theorem dc_M_placeOf_3 : decode cd_M_placeOf 3 = .ok (.invokevirtual 119, 3) := by decide +kernel
theorem dc_M_placeOf_6 : decode cd_M_placeOf 6 = .ok (.ifCond .eq 7, 3) := by decide +kernel
theorem dc_M_placeOf_9 : decode cd_M_placeOf 9 = .ok (.iconst 0, 1) := by decide +kernel
theorem dc_M_placeOf_10 : decode cd_M_placeOf 10 = .ok (.goto 4, 3) := by decide +kernel
theorem dc_M_placeOf_13 : decode cd_M_placeOf 13 = .ok (.iconst 1, 1) := by decide +kernel
theorem dc_M_placeOf_14 : decode cd_M_placeOf 14 = .ok (.invokevirtual 123, 3) := by decide +kernel
theorem dc_M_placeOf_17 : decode cd_M_placeOf 17 = .ok (.ifCond .eq 7, 3) := by decide +kernel
theorem dc_M_placeOf_20 : decode cd_M_placeOf 20 = .ok (.iconst 0, 1) := by decide +kernel
theorem dc_M_placeOf_21 : decode cd_M_placeOf 21 = .ok (.goto 9, 3) := by decide +kernel
theorem dc_M_placeOf_24 : decode cd_M_placeOf 24 = .ok (.aload_n 0, 1) := by decide +kernel
theorem dc_M_placeOf_25 : decode cd_M_placeOf 25 = .ok (.getfield 68, 3) := by decide +kernel
theorem dc_M_placeOf_28 : decode cd_M_placeOf 28 = .ok (.iload_n 1, 1) := by decide +kernel
theorem dc_M_placeOf_29 : decode cd_M_placeOf 29 = .ok (.iaload, 1) := by decide +kernel
theorem dc_M_placeOf_30 : decode cd_M_placeOf 30 = .ok (.ireturn, 1) := by decide +kernel
theorem dc_M_end_0 : decode cd_M_end 0 = .ok (.aload_n 0, 1) := by decide +kernel
theorem dc_M_end_1 : decode cd_M_end 1 = .ok (.iconst 0, 1) := by decide +kernel
theorem dc_M_end_2 : decode cd_M_end 2 = .ok (.putfield 99, 3) := by decide +kernel
theorem dc_M_end_5 : decode cd_M_end 5 = .ok (.aload_n 0, 1) := by decide +kernel
theorem dc_M_end_6 : decode cd_M_end 6 = .ok (.getfield 93, 3) := by decide +kernel
theorem dc_M_end_9 : decode cd_M_end 9 = .ok (.ireturn, 1) := by decide +kernel
theorem dc_M_leastInUse_0 : decode cd_M_leastInUse 0 = .ok (.iconst 0, 1) := by decide +kernel
theorem dc_M_leastInUse_1 : decode cd_M_leastInUse 1 = .ok (.istore_n 1, 1) := by decide +kernel
theorem dc_M_leastInUse_2 : decode cd_M_leastInUse 2 = .ok (.iconst 0, 1) := by decide +kernel
theorem dc_M_leastInUse_3 : decode cd_M_leastInUse 3 = .ok (.istore_n 2, 1) := by decide +kernel
theorem dc_M_leastInUse_4 : decode cd_M_leastInUse 4 = .ok (.iload_n 2, 1) := by decide +kernel
theorem dc_M_leastInUse_5 : decode cd_M_leastInUse 5 = .ok (.bipush 32, 2) := by decide +kernel
theorem dc_M_leastInUse_7 : decode cd_M_leastInUse 7 = .ok (.if_icmp .ge 52, 3) := by decide +kernel
theorem dc_M_leastInUse_10 : decode cd_M_leastInUse 10 = .ok (.aload_n 0, 1) := by decide +kernel
theorem dc_M_leastInUse_11 : decode cd_M_leastInUse 11 = .ok (.getfield 7, 3) := by decide +kernel
theorem dc_M_leastInUse_14 : decode cd_M_leastInUse 14 = .ok (.iload_n 2, 1) := by decide +kernel
theorem dc_M_leastInUse_15 : decode cd_M_leastInUse 15 = .ok (.baload, 1) := by decide +kernel
theorem dc_M_leastInUse_16 : decode cd_M_leastInUse 16 = .ok (.ifCond .eq 35, 3) := by decide +kernel
theorem dc_M_leastInUse_19 : decode cd_M_leastInUse 19 = .ok (.aload_n 0, 1) := by decide +kernel
theorem dc_M_leastInUse_20 : decode cd_M_leastInUse 20 = .ok (.getfield 13, 3) := by decide +kernel
theorem dc_M_leastInUse_23 : decode cd_M_leastInUse 23 = .ok (.iload_n 2, 1) := by decide +kernel
theorem dc_M_leastInUse_24 : decode cd_M_leastInUse 24 = .ok (.iaload, 1) := by decide +kernel
theorem dc_M_leastInUse_25 : decode cd_M_leastInUse 25 = .ok (.ifCond .le 26, 3) := by decide +kernel
theorem dc_M_leastInUse_28 : decode cd_M_leastInUse 28 = .ok (.iload_n 1, 1) := by decide +kernel
theorem dc_M_leastInUse_29 : decode cd_M_leastInUse 29 = .ok (.ifCond .eq 13, 3) := by decide +kernel
theorem dc_M_leastInUse_32 : decode cd_M_leastInUse 32 = .ok (.aload_n 0, 1) := by decide +kernel
theorem dc_M_leastInUse_33 : decode cd_M_leastInUse 33 = .ok (.getfield 13, 3) := by decide +kernel
theorem dc_M_leastInUse_36 : decode cd_M_leastInUse 36 = .ok (.iload_n 2, 1) := by decide +kernel
theorem dc_M_leastInUse_37 : decode cd_M_leastInUse 37 = .ok (.iaload, 1) := by decide +kernel
theorem dc_M_leastInUse_38 : decode cd_M_leastInUse 38 = .ok (.iload_n 1, 1) := by decide +kernel
theorem dc_M_leastInUse_39 : decode cd_M_leastInUse 39 = .ok (.if_icmp .ge 12, 3) := by decide +kernel
theorem dc_M_leastInUse_42 : decode cd_M_leastInUse 42 = .ok (.aload_n 0, 1) := by decide +kernel
theorem dc_M_leastInUse_43 : decode cd_M_leastInUse 43 = .ok (.getfield 13, 3) := by decide +kernel
theorem dc_M_leastInUse_46 : decode cd_M_leastInUse 46 = .ok (.iload_n 2, 1) := by decide +kernel
theorem dc_M_leastInUse_47 : decode cd_M_leastInUse 47 = .ok (.iaload, 1) := by decide +kernel
theorem dc_M_leastInUse_48 : decode cd_M_leastInUse 48 = .ok (.goto 4, 3) := by decide +kernel
theorem dc_M_leastInUse_51 : decode cd_M_leastInUse 51 = .ok (.iload_n 1, 1) := by decide +kernel
theorem dc_M_leastInUse_52 : decode cd_M_leastInUse 52 = .ok (.istore_n 1, 1) := by decide +kernel
theorem dc_M_leastInUse_53 : decode cd_M_leastInUse 53 = .ok (.iinc 2 1, 3) := by decide +kernel
theorem dc_M_leastInUse_56 : decode cd_M_leastInUse 56 = .ok (.goto (-52), 3) := by decide +kernel
theorem dc_M_leastInUse_59 : decode cd_M_leastInUse 59 = .ok (.iload_n 1, 1) := by decide +kernel
theorem dc_M_leastInUse_60 : decode cd_M_leastInUse 60 = .ok (.ireturn, 1) := by decide +kernel
theorem dc_M_oldest_0 : decode cd_M_oldest 0 = .ok (.aload_n 0, 1) := by decide +kernel
theorem dc_M_oldest_1 : decode cd_M_oldest 1 = .ok (.iconst 0, 1) := by decide +kernel
theorem dc_M_oldest_2 : decode cd_M_oldest 2 = .ok (.putfield 99, 3) := by decide +kernel
theorem dc_M_oldest_5 : decode cd_M_oldest 5 = .ok (.aload_n 0, 1) := by decide +kernel
theorem dc_M_oldest_6 : decode cd_M_oldest 6 = .ok (.invokevirtual 153, 3) := by decide +kernel
theorem dc_M_oldest_9 : decode cd_M_oldest 9 = .ok (.ireturn, 1) := by decide +kernel
theorem dc_M_node_0 : decode cd_M_node 0 = .ok (.iconst (-1), 1) := by decide +kernel
theorem dc_M_node_1 : decode cd_M_node 1 = .ok (.istore_n 3, 1) := by decide +kernel
theorem dc_M_node_2 : decode cd_M_node 2 = .ok (.iconst 0, 1) := by decide +kernel
theorem dc_M_node_3 : decode cd_M_node 3 = .ok (.istore 4, 2) := by decide +kernel
theorem dc_M_node_5 : decode cd_M_node 5 = .ok (.iload 4, 2) := by decide +kernel
theorem dc_M_node_7 : decode cd_M_node 7 = .ok (.bipush 32, 2) := by decide +kernel
theorem dc_M_node_9 : decode cd_M_node 9 = .ok (.if_icmp .ge 41, 3) := by decide +kernel
theorem dc_M_node_12 : decode cd_M_node 12 = .ok (.aload_n 0, 1) := by decide +kernel
theorem dc_M_node_13 : decode cd_M_node 13 = .ok (.getfield 7, 3) := by decide +kernel
theorem dc_M_node_16 : decode cd_M_node 16 = .ok (.iload 4, 2) := by decide +kernel
theorem dc_M_node_18 : decode cd_M_node 18 = .ok (.baload, 1) := by decide +kernel
theorem dc_M_node_19 : decode cd_M_node 19 = .ok (.ifCond .eq 23, 3) := by decide +kernel
theorem dc_M_node_22 : decode cd_M_node 22 = .ok (.iload_n 1, 1) := by decide +kernel
theorem dc_M_node_23 : decode cd_M_node 23 = .ok (.ifCond .le 19, 3) := by decide +kernel
theorem dc_M_node_26 : decode cd_M_node 26 = .ok (.aload_n 0, 1) := by decide +kernel
theorem dc_M_node_27 : decode cd_M_node 27 = .ok (.getfield 13, 3) := by decide +kernel
theorem dc_M_node_30 : decode cd_M_node 30 = .ok (.iload 4, 2) := by decide +kernel
theorem dc_M_node_32 : decode cd_M_node 32 = .ok (.iaload, 1) := by decide +kernel
theorem dc_M_node_33 : decode cd_M_node 33 = .ok (.iload_n 1, 1) := by decide +kernel
theorem dc_M_node_34 : decode cd_M_node 34 = .ok (.if_icmp .ne 8, 3) := by decide +kernel
theorem dc_M_node_37 : decode cd_M_node 37 = .ok (.iload 4, 2) := by decide +kernel
theorem dc_M_node_39 : decode cd_M_node 39 = .ok (.goto 4, 3) := by decide +kernel
theorem dc_M_node_42 : decode cd_M_node 42 = .ok (.iload_n 3, 1) := by decide +kernel
theorem dc_M_node_43 : decode cd_M_node 43 = .ok (.istore_n 3, 1) := by decide +kernel
theorem dc_M_node_44 : decode cd_M_node 44 = .ok (.iinc 4 1, 3) := by decide +kernel
theorem dc_M_node_47 : decode cd_M_node 47 = .ok (.goto (-42), 3) := by decide +kernel
theorem dc_M_node_50 : decode cd_M_node 50 = .ok (.aload_n 0, 1) := by decide +kernel
theorem dc_M_node_51 : decode cd_M_node 51 = .ok (.iload_n 3, 1) := by decide +kernel
theorem dc_M_node_52 : decode cd_M_node 52 = .ok (.ifCond .ge 7, 3) := by decide +kernel
theorem dc_M_node_55 : decode cd_M_node 55 = .ok (.iconst 1, 1) := by decide +kernel
theorem dc_M_node_56 : decode cd_M_node 56 = .ok (.goto 17, 3) := by decide +kernel
theorem dc_M_node_59 : decode cd_M_node 59 = .ok (.iload_n 2, 1) := by decide +kernel
theorem dc_M_node_60 : decode cd_M_node 60 = .ok (.ifCond .lt 8, 3) := by decide +kernel
theorem dc_M_node_63 : decode cd_M_node 63 = .ok (.iload_n 2, 1) := by decide +kernel
theorem dc_M_node_64 : decode cd_M_node 64 = .ok (.iconst 3, 1) := by decide +kernel
theorem dc_M_node_65 : decode cd_M_node 65 = .ok (.if_icmp .le 7, 3) := by decide +kernel
theorem dc_M_node_68 : decode cd_M_node 68 = .ok (.iconst 2, 1) := by decide +kernel
theorem dc_M_node_69 : decode cd_M_node 69 = .ok (.goto 4, 3) := by decide +kernel
theorem dc_M_node_72 : decode cd_M_node 72 = .ok (.iconst 0, 1) := by decide +kernel
theorem dc_M_node_73 : decode cd_M_node 73 = .ok (.invokevirtual 123, 3) := by decide +kernel
theorem dc_M_node_76 : decode cd_M_node 76 = .ok (.ifCond .eq 5, 3) := by decide +kernel
theorem dc_M_node_79 : decode cd_M_node 79 = .ok (.iconst 0, 1) := by decide +kernel
theorem dc_M_node_80 : decode cd_M_node 80 = .ok (.ireturn, 1) := by decide +kernel
theorem dc_M_node_81 : decode cd_M_node 81 = .ok (.iload_n 1, 1) := by decide +kernel
theorem dc_M_node_82 : decode cd_M_node 82 = .ok (.iconst 1, 1) := by decide +kernel
theorem dc_M_node_83 : decode cd_M_node 83 = .ok (.if_icmp .ne 5, 3) := by decide +kernel
theorem dc_M_node_86 : decode cd_M_node 86 = .ok (.iconst (-1), 1) := by decide +kernel
theorem dc_M_node_87 : decode cd_M_node 87 = .ok (.ireturn, 1) := by decide +kernel
theorem dc_M_node_88 : decode cd_M_node 88 = .ok (.iload_n 2, 1) := by decide +kernel
theorem dc_M_node_89 : decode cd_M_node 89 = .ok (.ifCond .ne 12, 3) := by decide +kernel
theorem dc_M_node_92 : decode cd_M_node 92 = .ok (.aload_n 0, 1) := by decide +kernel
theorem dc_M_node_93 : decode cd_M_node 93 = .ok (.getfield 20, 3) := by decide +kernel
theorem dc_M_node_96 : decode cd_M_node 96 = .ok (.iload_n 3, 1) := by decide +kernel
theorem dc_M_node_97 : decode cd_M_node 97 = .ok (.iaload, 1) := by decide +kernel
theorem dc_M_node_98 : decode cd_M_node 98 = .ok (.goto 37, 3) := by decide +kernel
theorem dc_M_node_101 : decode cd_M_node 101 = .ok (.iload_n 2, 1) := by decide +kernel
theorem dc_M_node_102 : decode cd_M_node 102 = .ok (.iconst 1, 1) := by decide +kernel
theorem dc_M_node_103 : decode cd_M_node 103 = .ok (.if_icmp .ne 12, 3) := by decide +kernel
theorem dc_M_node_106 : decode cd_M_node 106 = .ok (.aload_n 0, 1) := by decide +kernel
theorem dc_M_node_107 : decode cd_M_node 107 = .ok (.getfield 23, 3) := by decide +kernel
theorem dc_M_node_110 : decode cd_M_node 110 = .ok (.iload_n 3, 1) := by decide +kernel
theorem dc_M_node_111 : decode cd_M_node 111 = .ok (.iaload, 1) := by decide +kernel
theorem dc_M_node_112 : decode cd_M_node 112 = .ok (.goto 23, 3) := by decide +kernel
theorem dc_M_node_115 : decode cd_M_node 115 = .ok (.iload_n 2, 1) := by decide +kernel
theorem dc_M_node_116 : decode cd_M_node 116 = .ok (.iconst 2, 1) := by decide +kernel
theorem dc_M_node_117 : decode cd_M_node 117 = .ok (.if_icmp .ne 12, 3) := by decide +kernel
theorem dc_M_node_120 : decode cd_M_node 120 = .ok (.aload_n 0, 1) := by decide +kernel
theorem dc_M_node_121 : decode cd_M_node 121 = .ok (.getfield 26, 3) := by decide +kernel
theorem dc_M_node_124 : decode cd_M_node 124 = .ok (.iload_n 3, 1) := by decide +kernel
theorem dc_M_node_125 : decode cd_M_node 125 = .ok (.iaload, 1) := by decide +kernel
theorem dc_M_node_126 : decode cd_M_node 126 = .ok (.goto 9, 3) := by decide +kernel
theorem dc_M_node_129 : decode cd_M_node 129 = .ok (.aload_n 0, 1) := by decide +kernel
theorem dc_M_node_130 : decode cd_M_node 130 = .ok (.getfield 29, 3) := by decide +kernel
theorem dc_M_node_133 : decode cd_M_node 133 = .ok (.iload_n 3, 1) := by decide +kernel
theorem dc_M_node_134 : decode cd_M_node 134 = .ok (.iaload, 1) := by decide +kernel
theorem dc_M_node_135 : decode cd_M_node 135 = .ok (.ireturn, 1) := by decide +kernel
theorem dc_M_stage_0 : decode cd_M_stage 0 = .ok (.aload_n 0, 1) := by decide +kernel
theorem dc_M_stage_1 : decode cd_M_stage 1 = .ok (.aload_n 0, 1) := by decide +kernel
theorem dc_M_stage_2 : decode cd_M_stage 2 = .ok (.iload_n 1, 1) := by decide +kernel
theorem dc_M_stage_3 : decode cd_M_stage 3 = .ok (.invokevirtual 119, 3) := by decide +kernel
theorem dc_M_stage_6 : decode cd_M_stage 6 = .ok (.ifCond .eq 7, 3) := by decide +kernel
theorem dc_M_stage_9 : decode cd_M_stage 9 = .ok (.iconst 0, 1) := by decide +kernel
theorem dc_M_stage_10 : decode cd_M_stage 10 = .ok (.goto 4, 3) := by decide +kernel
theorem dc_M_stage_13 : decode cd_M_stage 13 = .ok (.iconst 1, 1) := by decide +kernel
theorem dc_M_stage_14 : decode cd_M_stage 14 = .ok (.invokevirtual 123, 3) := by decide +kernel
theorem dc_M_stage_17 : decode cd_M_stage 17 = .ok (.ifCond .eq 7, 3) := by decide +kernel
theorem dc_M_stage_20 : decode cd_M_stage 20 = .ok (.iconst 0, 1) := by decide +kernel
theorem dc_M_stage_21 : decode cd_M_stage 21 = .ok (.goto 9, 3) := by decide +kernel
theorem dc_M_stage_24 : decode cd_M_stage 24 = .ok (.aload_n 0, 1) := by decide +kernel
theorem dc_M_stage_25 : decode cd_M_stage 25 = .ok (.getfield 38, 3) := by decide +kernel
theorem dc_M_stage_28 : decode cd_M_stage 28 = .ok (.iload_n 1, 1) := by decide +kernel
theorem dc_M_stage_29 : decode cd_M_stage 29 = .ok (.iaload, 1) := by decide +kernel
theorem dc_M_stage_30 : decode cd_M_stage 30 = .ok (.ireturn, 1) := by decide +kernel
theorem dc_M_head_0 : decode cd_M_head 0 = .ok (.aload_n 0, 1) := by decide +kernel
theorem dc_M_head_1 : decode cd_M_head 1 = .ok (.aload_n 0, 1) := by decide +kernel
theorem dc_M_head_2 : decode cd_M_head 2 = .ok (.iload_n 1, 1) := by decide +kernel
theorem dc_M_head_3 : decode cd_M_head 3 = .ok (.invokevirtual 119, 3) := by decide +kernel
theorem dc_M_head_6 : decode cd_M_head 6 = .ok (.ifCond .eq 7, 3) := by decide +kernel
theorem dc_M_head_9 : decode cd_M_head 9 = .ok (.iconst 0, 1) := by decide +kernel
theorem dc_M_head_10 : decode cd_M_head 10 = .ok (.goto 4, 3) := by decide +kernel
theorem dc_M_head_13 : decode cd_M_head 13 = .ok (.iconst 1, 1) := by decide +kernel
theorem dc_M_head_14 : decode cd_M_head 14 = .ok (.invokevirtual 123, 3) := by decide +kernel
theorem dc_M_head_17 : decode cd_M_head 17 = .ok (.ifCond .eq 7, 3) := by decide +kernel
theorem dc_M_head_20 : decode cd_M_head 20 = .ok (.iconst 0, 1) := by decide +kernel
theorem dc_M_head_21 : decode cd_M_head 21 = .ok (.goto 14, 3) := by decide +kernel
theorem dc_M_head_24 : decode cd_M_head 24 = .ok (.aload_n 0, 1) := by decide +kernel
theorem dc_M_head_25 : decode cd_M_head 25 = .ok (.getfield 13, 3) := by decide +kernel
theorem dc_M_head_28 : decode cd_M_head 28 = .ok (.aload_n 0, 1) := by decide +kernel
theorem dc_M_head_29 : decode cd_M_head 29 = .ok (.getfield 32, 3) := by decide +kernel
theorem dc_M_head_32 : decode cd_M_head 32 = .ok (.iload_n 1, 1) := by decide +kernel
theorem dc_M_head_33 : decode cd_M_head 33 = .ok (.iaload, 1) := by decide +kernel
theorem dc_M_head_34 : decode cd_M_head 34 = .ok (.iaload, 1) := by decide +kernel
theorem dc_M_head_35 : decode cd_M_head 35 = .ok (.ireturn, 1) := by decide +kernel
theorem dc_M_inUseCount_0 : decode cd_M_inUseCount 0 = .ok (.iconst 0, 1) := by decide +kernel
theorem dc_M_inUseCount_1 : decode cd_M_inUseCount 1 = .ok (.istore_n 1, 1) := by decide +kernel
theorem dc_M_inUseCount_2 : decode cd_M_inUseCount 2 = .ok (.iconst 0, 1) := by decide +kernel
theorem dc_M_inUseCount_3 : decode cd_M_inUseCount 3 = .ok (.istore_n 2, 1) := by decide +kernel
theorem dc_M_inUseCount_4 : decode cd_M_inUseCount 4 = .ok (.iload_n 2, 1) := by decide +kernel
theorem dc_M_inUseCount_5 : decode cd_M_inUseCount 5 = .ok (.bipush 32, 2) := by decide +kernel
theorem dc_M_inUseCount_7 : decode cd_M_inUseCount 7 = .ok (.if_icmp .ge 26, 3) := by decide +kernel
theorem dc_M_inUseCount_10 : decode cd_M_inUseCount 10 = .ok (.aload_n 0, 1) := by decide +kernel
theorem dc_M_inUseCount_11 : decode cd_M_inUseCount 11 = .ok (.getfield 7, 3) := by decide +kernel
theorem dc_M_inUseCount_14 : decode cd_M_inUseCount 14 = .ok (.iload_n 2, 1) := by decide +kernel
theorem dc_M_inUseCount_15 : decode cd_M_inUseCount 15 = .ok (.baload, 1) := by decide +kernel
theorem dc_M_inUseCount_16 : decode cd_M_inUseCount 16 = .ok (.ifCond .eq 9, 3) := by decide +kernel
theorem dc_M_inUseCount_19 : decode cd_M_inUseCount 19 = .ok (.iload_n 1, 1) := by decide +kernel
theorem dc_M_inUseCount_20 : decode cd_M_inUseCount 20 = .ok (.iconst 1, 1) := by decide +kernel
theorem dc_M_inUseCount_21 : decode cd_M_inUseCount 21 = .ok (.iadd, 1) := by decide +kernel
theorem dc_M_inUseCount_22 : decode cd_M_inUseCount 22 = .ok (.goto 4, 3) := by decide +kernel
theorem dc_M_inUseCount_25 : decode cd_M_inUseCount 25 = .ok (.iload_n 1, 1) := by decide +kernel
theorem dc_M_inUseCount_26 : decode cd_M_inUseCount 26 = .ok (.istore_n 1, 1) := by decide +kernel
theorem dc_M_inUseCount_27 : decode cd_M_inUseCount 27 = .ok (.iinc 2 1, 3) := by decide +kernel
theorem dc_M_inUseCount_30 : decode cd_M_inUseCount 30 = .ok (.goto (-26), 3) := by decide +kernel
theorem dc_M_inUseCount_33 : decode cd_M_inUseCount 33 = .ok (.iload_n 1, 1) := by decide +kernel
theorem dc_M_inUseCount_34 : decode cd_M_inUseCount 34 = .ok (.ireturn, 1) := by decide +kernel
theorem dc_M_used_0 : decode cd_M_used 0 = .ok (.aload_n 0, 1) := by decide +kernel
theorem dc_M_used_1 : decode cd_M_used 1 = .ok (.iconst 0, 1) := by decide +kernel
theorem dc_M_used_2 : decode cd_M_used 2 = .ok (.putfield 99, 3) := by decide +kernel
theorem dc_M_used_5 : decode cd_M_used 5 = .ok (.aload_n 0, 1) := by decide +kernel
theorem dc_M_used_6 : decode cd_M_used 6 = .ok (.invokevirtual 157, 3) := by decide +kernel
theorem dc_M_used_9 : decode cd_M_used 9 = .ok (.ireturn, 1) := by decide +kernel
theorem dc_M_cut_0 : decode cd_M_cut 0 = .ok (.aload_n 0, 1) := by decide +kernel
theorem dc_M_cut_1 : decode cd_M_cut 1 = .ok (.iconst 0, 1) := by decide +kernel
theorem dc_M_cut_2 : decode cd_M_cut 2 = .ok (.putfield 99, 3) := by decide +kernel
theorem dc_M_cut_5 : decode cd_M_cut 5 = .ok (.iconst 0, 1) := by decide +kernel
theorem dc_M_cut_6 : decode cd_M_cut 6 = .ok (.istore_n 1, 1) := by decide +kernel
theorem dc_M_cut_7 : decode cd_M_cut 7 = .ok (.iconst 1, 1) := by decide +kernel
theorem dc_M_cut_8 : decode cd_M_cut 8 = .ok (.istore_n 2, 1) := by decide +kernel
theorem dc_M_cut_9 : decode cd_M_cut 9 = .ok (.iload_n 2, 1) := by decide +kernel
theorem dc_M_cut_10 : decode cd_M_cut 10 = .ok (.aload_n 0, 1) := by decide +kernel
theorem dc_M_cut_11 : decode cd_M_cut 11 = .ok (.getfield 90, 3) := by decide +kernel
theorem dc_M_cut_14 : decode cd_M_cut 14 = .ok (.if_icmp .ge 40, 3) := by decide +kernel
theorem dc_M_cut_17 : decode cd_M_cut 17 = .ok (.aload_n 0, 1) := by decide +kernel
theorem dc_M_cut_18 : decode cd_M_cut 18 = .ok (.getfield 13, 3) := by decide +kernel
theorem dc_M_cut_21 : decode cd_M_cut 21 = .ok (.aload_n 0, 1) := by decide +kernel
theorem dc_M_cut_22 : decode cd_M_cut 22 = .ok (.getfield 32, 3) := by decide +kernel
theorem dc_M_cut_25 : decode cd_M_cut 25 = .ok (.iload_n 2, 1) := by decide +kernel
theorem dc_M_cut_26 : decode cd_M_cut 26 = .ok (.iaload, 1) := by decide +kernel
theorem dc_M_cut_27 : decode cd_M_cut 27 = .ok (.iaload, 1) := by decide +kernel
theorem dc_M_cut_28 : decode cd_M_cut 28 = .ok (.aload_n 0, 1) := by decide +kernel
theorem dc_M_cut_29 : decode cd_M_cut 29 = .ok (.getfield 13, 3) := by decide +kernel
theorem dc_M_cut_32 : decode cd_M_cut 32 = .ok (.aload_n 0, 1) := by decide +kernel
theorem dc_M_cut_33 : decode cd_M_cut 33 = .ok (.getfield 32, 3) := by decide +kernel
theorem dc_M_cut_36 : decode cd_M_cut 36 = .ok (.iload_n 1, 1) := by decide +kernel
theorem dc_M_cut_37 : decode cd_M_cut 37 = .ok (.iaload, 1) := by decide +kernel
theorem dc_M_cut_38 : decode cd_M_cut 38 = .ok (.iaload, 1) := by decide +kernel
theorem dc_M_cut_39 : decode cd_M_cut 39 = .ok (.if_icmp .le 7, 3) := by decide +kernel
theorem dc_M_cut_42 : decode cd_M_cut 42 = .ok (.iload_n 2, 1) := by decide +kernel
theorem dc_M_cut_43 : decode cd_M_cut 43 = .ok (.goto 4, 3) := by decide +kernel
theorem dc_M_cut_46 : decode cd_M_cut 46 = .ok (.iload_n 1, 1) := by decide +kernel
theorem dc_M_cut_47 : decode cd_M_cut 47 = .ok (.istore_n 1, 1) := by decide +kernel
theorem dc_M_cut_48 : decode cd_M_cut 48 = .ok (.iinc 2 1, 3) := by decide +kernel
theorem dc_M_cut_51 : decode cd_M_cut 51 = .ok (.goto (-42), 3) := by decide +kernel
theorem dc_M_cut_54 : decode cd_M_cut 54 = .ok (.aload_n 0, 1) := by decide +kernel
theorem dc_M_cut_55 : decode cd_M_cut 55 = .ok (.getfield 32, 3) := by decide +kernel
theorem dc_M_cut_58 : decode cd_M_cut 58 = .ok (.iload_n 1, 1) := by decide +kernel
theorem dc_M_cut_59 : decode cd_M_cut 59 = .ok (.iaload, 1) := by decide +kernel
theorem dc_M_cut_60 : decode cd_M_cut 60 = .ok (.istore_n 2, 1) := by decide +kernel
theorem dc_M_cut_61 : decode cd_M_cut 61 = .ok (.aload_n 0, 1) := by decide +kernel
theorem dc_M_cut_62 : decode cd_M_cut 62 = .ok (.getfield 13, 3) := by decide +kernel
theorem dc_M_cut_65 : decode cd_M_cut 65 = .ok (.iload_n 2, 1) := by decide +kernel
theorem dc_M_cut_66 : decode cd_M_cut 66 = .ok (.iaload, 1) := by decide +kernel
theorem dc_M_cut_67 : decode cd_M_cut 67 = .ok (.istore_n 3, 1) := by decide +kernel
theorem dc_M_cut_68 : decode cd_M_cut 68 = .ok (.iconst 0, 1) := by decide +kernel
theorem dc_M_cut_69 : decode cd_M_cut 69 = .ok (.istore 4, 2) := by decide +kernel
theorem dc_M_cut_71 : decode cd_M_cut 71 = .ok (.iload 4, 2) := by decide +kernel
theorem dc_M_cut_73 : decode cd_M_cut 73 = .ok (.aload_n 0, 1) := by decide +kernel
theorem dc_M_cut_74 : decode cd_M_cut 74 = .ok (.getfield 90, 3) := by decide +kernel
theorem dc_M_cut_77 : decode cd_M_cut 77 = .ok (.if_icmp .ge 71, 3) := by decide +kernel
theorem dc_M_cut_80 : decode cd_M_cut 80 = .ok (.aload_n 0, 1) := by decide +kernel
theorem dc_M_cut_81 : decode cd_M_cut 81 = .ok (.getfield 32, 3) := by decide +kernel
theorem dc_M_cut_84 : decode cd_M_cut 84 = .ok (.iload 4, 2) := by decide +kernel
theorem dc_M_cut_86 : decode cd_M_cut 86 = .ok (.aload_n 0, 1) := by decide +kernel
theorem dc_M_cut_87 : decode cd_M_cut 87 = .ok (.getfield 38, 3) := by decide +kernel
theorem dc_M_cut_90 : decode cd_M_cut 90 = .ok (.iload 4, 2) := by decide +kernel
theorem dc_M_cut_92 : decode cd_M_cut 92 = .ok (.iaload, 1) := by decide +kernel
theorem dc_M_cut_93 : decode cd_M_cut 93 = .ok (.iconst (-1), 1) := by decide +kernel
theorem dc_M_cut_94 : decode cd_M_cut 94 = .ok (.if_icmp .ne 7, 3) := by decide +kernel
theorem dc_M_cut_97 : decode cd_M_cut 97 = .ok (.iload_n 2, 1) := by decide +kernel
theorem dc_M_cut_98 : decode cd_M_cut 98 = .ok (.goto 10, 3) := by decide +kernel
theorem dc_M_cut_101 : decode cd_M_cut 101 = .ok (.aload_n 0, 1) := by decide +kernel
theorem dc_M_cut_102 : decode cd_M_cut 102 = .ok (.getfield 32, 3) := by decide +kernel
theorem dc_M_cut_105 : decode cd_M_cut 105 = .ok (.iload 4, 2) := by decide +kernel
theorem dc_M_cut_107 : decode cd_M_cut 107 = .ok (.iaload, 1) := by decide +kernel
theorem dc_M_cut_108 : decode cd_M_cut 108 = .ok (.iastore, 1) := by decide +kernel
theorem dc_M_cut_109 : decode cd_M_cut 109 = .ok (.aload_n 0, 1) := by decide +kernel
theorem dc_M_cut_110 : decode cd_M_cut 110 = .ok (.getfield 13, 3) := by decide +kernel
theorem dc_M_cut_113 : decode cd_M_cut 113 = .ok (.aload_n 0, 1) := by decide +kernel
theorem dc_M_cut_114 : decode cd_M_cut 114 = .ok (.getfield 32, 3) := by decide +kernel
theorem dc_M_cut_117 : decode cd_M_cut 117 = .ok (.iload 4, 2) := by decide +kernel
theorem dc_M_cut_119 : decode cd_M_cut 119 = .ok (.iaload, 1) := by decide +kernel
theorem dc_M_cut_120 : decode cd_M_cut 120 = .ok (.iaload, 1) := by decide +kernel
theorem dc_M_cut_121 : decode cd_M_cut 121 = .ok (.iload_n 3, 1) := by decide +kernel
theorem dc_M_cut_122 : decode cd_M_cut 122 = .ok (.if_icmp .ge 18, 3) := by decide +kernel
theorem dc_M_cut_125 : decode cd_M_cut 125 = .ok (.aload_n 0, 1) := by decide +kernel
theorem dc_M_cut_126 : decode cd_M_cut 126 = .ok (.getfield 13, 3) := by decide +kernel
theorem dc_M_cut_129 : decode cd_M_cut 129 = .ok (.aload_n 0, 1) := by decide +kernel
theorem dc_M_cut_130 : decode cd_M_cut 130 = .ok (.getfield 32, 3) := by decide +kernel
theorem dc_M_cut_133 : decode cd_M_cut 133 = .ok (.iload 4, 2) := by decide +kernel
theorem dc_M_cut_135 : decode cd_M_cut 135 = .ok (.iaload, 1) := by decide +kernel
theorem dc_M_cut_136 : decode cd_M_cut 136 = .ok (.iaload, 1) := by decide +kernel
theorem dc_M_cut_137 : decode cd_M_cut 137 = .ok (.goto 4, 3) := by decide +kernel
theorem dc_M_cut_140 : decode cd_M_cut 140 = .ok (.iload_n 3, 1) := by decide +kernel
theorem dc_M_cut_141 : decode cd_M_cut 141 = .ok (.istore_n 3, 1) := by decide +kernel
theorem dc_M_cut_142 : decode cd_M_cut 142 = .ok (.iinc 4 1, 3) := by decide +kernel
theorem dc_M_cut_145 : decode cd_M_cut 145 = .ok (.goto (-74), 3) := by decide +kernel
theorem dc_M_cut_148 : decode cd_M_cut 148 = .ok (.aload_n 0, 1) := by decide +kernel
theorem dc_M_cut_149 : decode cd_M_cut 149 = .ok (.invokevirtual 157, 3) := by decide +kernel
theorem dc_M_cut_152 : decode cd_M_cut 152 = .ok (.istore 4, 2) := by decide +kernel
theorem dc_M_cut_154 : decode cd_M_cut 154 = .ok (.iconst 0, 1) := by decide +kernel
theorem dc_M_cut_155 : decode cd_M_cut 155 = .ok (.istore 5, 2) := by decide +kernel
theorem dc_M_cut_157 : decode cd_M_cut 157 = .ok (.iload 5, 2) := by decide +kernel
theorem dc_M_cut_159 : decode cd_M_cut 159 = .ok (.bipush 32, 2) := by decide +kernel
theorem dc_M_cut_161 : decode cd_M_cut 161 = .ok (.if_icmp .ge 48, 3) := by decide +kernel
theorem dc_M_cut_164 : decode cd_M_cut 164 = .ok (.aload_n 0, 1) := by decide +kernel
theorem dc_M_cut_165 : decode cd_M_cut 165 = .ok (.getfield 7, 3) := by decide +kernel
theorem dc_M_cut_168 : decode cd_M_cut 168 = .ok (.iload 5, 2) := by decide +kernel
theorem dc_M_cut_170 : decode cd_M_cut 170 = .ok (.baload, 1) := by decide +kernel
theorem dc_M_cut_171 : decode cd_M_cut 171 = .ok (.ifCond .eq 32, 3) := by decide +kernel
theorem dc_M_cut_174 : decode cd_M_cut 174 = .ok (.aload_n 0, 1) := by decide +kernel
theorem dc_M_cut_175 : decode cd_M_cut 175 = .ok (.getfield 13, 3) := by decide +kernel
theorem dc_M_cut_178 : decode cd_M_cut 178 = .ok (.iload 5, 2) := by decide +kernel
theorem dc_M_cut_180 : decode cd_M_cut 180 = .ok (.iaload, 1) := by decide +kernel
theorem dc_M_cut_181 : decode cd_M_cut 181 = .ok (.ifCond .le 22, 3) := by decide +kernel
theorem dc_M_cut_184 : decode cd_M_cut 184 = .ok (.aload_n 0, 1) := by decide +kernel
theorem dc_M_cut_185 : decode cd_M_cut 185 = .ok (.getfield 13, 3) := by decide +kernel
theorem dc_M_cut_188 : decode cd_M_cut 188 = .ok (.iload 5, 2) := by decide +kernel
theorem dc_M_cut_190 : decode cd_M_cut 190 = .ok (.iaload, 1) := by decide +kernel
theorem dc_M_cut_191 : decode cd_M_cut 191 = .ok (.iload_n 3, 1) := by decide +kernel
theorem dc_M_cut_192 : decode cd_M_cut 192 = .ok (.if_icmp .ge 11, 3) := by decide +kernel
theorem dc_M_cut_195 : decode cd_M_cut 195 = .ok (.aload_n 0, 1) := by decide +kernel
theorem dc_M_cut_196 : decode cd_M_cut 196 = .ok (.getfield 7, 3) := by decide +kernel
theorem dc_M_cut_199 : decode cd_M_cut 199 = .ok (.iload 5, 2) := by decide +kernel
theorem dc_M_cut_201 : decode cd_M_cut 201 = .ok (.iconst 0, 1) := by decide +kernel
theorem dc_M_cut_202 : decode cd_M_cut 202 = .ok (.bastore, 1) := by decide +kernel
theorem dc_M_cut_203 : decode cd_M_cut 203 = .ok (.iinc 5 1, 3) := by decide +kernel
theorem dc_M_cut_206 : decode cd_M_cut 206 = .ok (.goto (-49), 3) := by decide +kernel
theorem dc_M_cut_209 : decode cd_M_cut 209 = .ok (.iload 4, 2) := by decide +kernel
theorem dc_M_cut_211 : decode cd_M_cut 211 = .ok (.aload_n 0, 1) := by decide +kernel
theorem dc_M_cut_212 : decode cd_M_cut 212 = .ok (.invokevirtual 157, 3) := by decide +kernel
theorem dc_M_cut_215 : decode cd_M_cut 215 = .ok (.isub, 1) := by decide +kernel
theorem dc_M_cut_216 : decode cd_M_cut 216 = .ok (.ireturn, 1) := by decide +kernel
theorem dc_M_peek_0 : decode cd_M_peek 0 = .ok (.aload_n 0, 1) := by decide +kernel
theorem dc_M_peek_1 : decode cd_M_peek 1 = .ok (.iload_n 1, 1) := by decide +kernel
theorem dc_M_peek_2 : decode cd_M_peek 2 = .ok (.ifCond .lt 8, 3) := by decide +kernel
theorem dc_M_peek_5 : decode cd_M_peek 5 = .ok (.iload_n 1, 1) := by decide +kernel
theorem dc_M_peek_6 : decode cd_M_peek 6 = .ok (.iconst 2, 1) := by decide +kernel
theorem dc_M_peek_7 : decode cd_M_peek 7 = .ok (.if_icmp .le 7, 3) := by decide +kernel
theorem dc_M_peek_10 : decode cd_M_peek 10 = .ok (.iconst 1, 1) := by decide +kernel
theorem dc_M_peek_11 : decode cd_M_peek 11 = .ok (.goto 4, 3) := by decide +kernel
theorem dc_M_peek_14 : decode cd_M_peek 14 = .ok (.iconst 0, 1) := by decide +kernel
theorem dc_M_peek_15 : decode cd_M_peek 15 = .ok (.invokevirtual 123, 3) := by decide +kernel
theorem dc_M_peek_18 : decode cd_M_peek 18 = .ok (.ifCond .eq 5, 3) := by decide +kernel
theorem dc_M_peek_21 : decode cd_M_peek 21 = .ok (.iconst 0, 1) := by decide +kernel
theorem dc_M_peek_22 : decode cd_M_peek 22 = .ok (.ireturn, 1) := by decide +kernel
theorem dc_M_peek_23 : decode cd_M_peek 23 = .ok (.aload_n 0, 1) := by decide +kernel
theorem dc_M_peek_24 : decode cd_M_peek 24 = .ok (.aload_n 0, 1) := by decide +kernel
theorem dc_M_peek_25 : decode cd_M_peek 25 = .ok (.getfield 93, 3) := by decide +kernel
theorem dc_M_peek_28 : decode cd_M_peek 28 = .ok (.invokevirtual 126, 3) := by decide +kernel
theorem dc_M_peek_31 : decode cd_M_peek 31 = .ok (.pop, 1) := by decide +kernel
theorem dc_M_peek_32 : decode cd_M_peek 32 = .ok (.aload_n 0, 1) := by decide +kernel
theorem dc_M_peek_33 : decode cd_M_peek 33 = .ok (.iload_n 1, 1) := by decide +kernel
theorem dc_M_peek_34 : decode cd_M_peek 34 = .ok (.iload_n 2, 1) := by decide +kernel
theorem dc_M_peek_35 : decode cd_M_peek 35 = .ok (.iload_n 3, 1) := by decide +kernel
theorem dc_M_peek_36 : decode cd_M_peek 36 = .ok (.invokevirtual 116, 3) := by decide +kernel
theorem dc_M_peek_39 : decode cd_M_peek 39 = .ok (.ireturn, 1) := by decide +kernel
theorem dc_M_plain_0 : decode cd_M_plain 0 = .ok (.aload_n 0, 1) := by decide +kernel
theorem dc_M_plain_1 : decode cd_M_plain 1 = .ok (.iload_n 1, 1) := by decide +kernel
theorem dc_M_plain_2 : decode cd_M_plain 2 = .ok (.ifCond .lt 8, 3) := by decide +kernel
theorem dc_M_plain_5 : decode cd_M_plain 5 = .ok (.iload_n 1, 1) := by decide +kernel
theorem dc_M_plain_6 : decode cd_M_plain 6 = .ok (.iconst 2, 1) := by decide +kernel
theorem dc_M_plain_7 : decode cd_M_plain 7 = .ok (.if_icmp .le 7, 3) := by decide +kernel
theorem dc_M_plain_10 : decode cd_M_plain 10 = .ok (.iconst 1, 1) := by decide +kernel
theorem dc_M_plain_11 : decode cd_M_plain 11 = .ok (.goto 4, 3) := by decide +kernel
theorem dc_M_plain_14 : decode cd_M_plain 14 = .ok (.iconst 0, 1) := by decide +kernel
theorem dc_M_plain_15 : decode cd_M_plain 15 = .ok (.invokevirtual 123, 3) := by decide +kernel
theorem dc_M_plain_18 : decode cd_M_plain 18 = .ok (.ifCond .eq 5, 3) := by decide +kernel
theorem dc_M_plain_21 : decode cd_M_plain 21 = .ok (.iconst 0, 1) := by decide +kernel
theorem dc_M_plain_22 : decode cd_M_plain 22 = .ok (.ireturn, 1) := by decide +kernel
theorem dc_M_plain_23 : decode cd_M_plain 23 = .ok (.aload_n 0, 1) := by decide +kernel
theorem dc_M_plain_24 : decode cd_M_plain 24 = .ok (.aload_n 0, 1) := by decide +kernel
theorem dc_M_plain_25 : decode cd_M_plain 25 = .ok (.getfield 160, 3) := by decide +kernel
theorem dc_M_plain_28 : decode cd_M_plain 28 = .ok (.putfield 102, 3) := by decide +kernel
theorem dc_M_plain_31 : decode cd_M_plain 31 = .ok (.iconst 0, 1) := by decide +kernel
theorem dc_M_plain_32 : decode cd_M_plain 32 = .ok (.istore 4, 2) := by decide +kernel
theorem dc_M_plain_34 : decode cd_M_plain 34 = .ok (.iload 4, 2) := by decide +kernel
theorem dc_M_plain_36 : decode cd_M_plain 36 = .ok (.bipush 8, 2) := by decide +kernel
theorem dc_M_plain_38 : decode cd_M_plain 38 = .ok (.if_icmp .ge 23, 3) := by decide +kernel
theorem dc_M_plain_41 : decode cd_M_plain 41 = .ok (.aload_n 0, 1) := by decide +kernel
theorem dc_M_plain_42 : decode cd_M_plain 42 = .ok (.getfield 80, 3) := by decide +kernel
theorem dc_M_plain_45 : decode cd_M_plain 45 = .ok (.iload 4, 2) := by decide +kernel
theorem dc_M_plain_47 : decode cd_M_plain 47 = .ok (.aload_n 0, 1) := by decide +kernel
theorem dc_M_plain_48 : decode cd_M_plain 48 = .ok (.getfield 83, 3) := by decide +kernel
theorem dc_M_plain_51 : decode cd_M_plain 51 = .ok (.iload 4, 2) := by decide +kernel
theorem dc_M_plain_53 : decode cd_M_plain 53 = .ok (.iaload, 1) := by decide +kernel
theorem dc_M_plain_54 : decode cd_M_plain 54 = .ok (.iastore, 1) := by decide +kernel
theorem dc_M_plain_55 : decode cd_M_plain 55 = .ok (.iinc 4 1, 3) := by decide +kernel
theorem dc_M_plain_58 : decode cd_M_plain 58 = .ok (.goto (-24), 3) := by decide +kernel
theorem dc_M_plain_61 : decode cd_M_plain 61 = .ok (.aload_n 0, 1) := by decide +kernel
theorem dc_M_plain_62 : decode cd_M_plain 62 = .ok (.iload_n 1, 1) := by decide +kernel
theorem dc_M_plain_63 : decode cd_M_plain 63 = .ok (.iload_n 2, 1) := by decide +kernel
theorem dc_M_plain_64 : decode cd_M_plain 64 = .ok (.iload_n 3, 1) := by decide +kernel
theorem dc_M_plain_65 : decode cd_M_plain 65 = .ok (.invokevirtual 116, 3) := by decide +kernel
theorem dc_M_plain_68 : decode cd_M_plain 68 = .ok (.istore 4, 2) := by decide +kernel
theorem dc_M_plain_70 : decode cd_M_plain 70 = .ok (.aload_n 0, 1) := by decide +kernel
theorem dc_M_plain_71 : decode cd_M_plain 71 = .ok (.aload_n 0, 1) := by decide +kernel
theorem dc_M_plain_72 : decode cd_M_plain 72 = .ok (.getfield 102, 3) := by decide +kernel
theorem dc_M_plain_75 : decode cd_M_plain 75 = .ok (.putfield 160, 3) := by decide +kernel
theorem dc_M_plain_78 : decode cd_M_plain 78 = .ok (.iconst 0, 1) := by decide +kernel
theorem dc_M_plain_79 : decode cd_M_plain 79 = .ok (.istore 5, 2) := by decide +kernel
theorem dc_M_plain_81 : decode cd_M_plain 81 = .ok (.iload 5, 2) := by decide +kernel
theorem dc_M_plain_83 : decode cd_M_plain 83 = .ok (.bipush 8, 2) := by decide +kernel
theorem dc_M_plain_85 : decode cd_M_plain 85 = .ok (.if_icmp .ge 23, 3) := by decide +kernel
theorem dc_M_plain_88 : decode cd_M_plain 88 = .ok (.aload_n 0, 1) := by decide +kernel
theorem dc_M_plain_89 : decode cd_M_plain 89 = .ok (.getfield 83, 3) := by decide +kernel
theorem dc_M_plain_92 : decode cd_M_plain 92 = .ok (.iload 5, 2) := by decide +kernel
theorem dc_M_plain_94 : decode cd_M_plain 94 = .ok (.aload_n 0, 1) := by decide +kernel
theorem dc_M_plain_95 : decode cd_M_plain 95 = .ok (.getfield 80, 3) := by decide +kernel
theorem dc_M_plain_98 : decode cd_M_plain 98 = .ok (.iload 5, 2) := by decide +kernel
theorem dc_M_plain_100 : decode cd_M_plain 100 = .ok (.iaload, 1) := by decide +kernel
theorem dc_M_plain_101 : decode cd_M_plain 101 = .ok (.iastore, 1) := by decide +kernel
theorem dc_M_plain_102 : decode cd_M_plain 102 = .ok (.iinc 5 1, 3) := by decide +kernel
theorem dc_M_plain_105 : decode cd_M_plain 105 = .ok (.goto (-24), 3) := by decide +kernel
theorem dc_M_plain_108 : decode cd_M_plain 108 = .ok (.iload 4, 2) := by decide +kernel
theorem dc_M_plain_110 : decode cd_M_plain 110 = .ok (.ireturn, 1) := by decide +kernel
end DEC_01x
