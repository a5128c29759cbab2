theorem dX11_init_0 : decode cX11_init 0 = .ok (.aload_n 0, 1) := by decide +kernel
theorem dX11_init_1 : decode cX11_init 1 = .ok (.invokespecial 1, 3) := by decide +kernel
theorem dX11_init_4 : decode cX11_init 4 = .ok (.aload_n 0, 1) := by decide +kernel
theorem dX11_init_5 : decode cX11_init 5 = .ok (.iconst 2, 1) := by decide +kernel
theorem dX11_init_6 : decode cX11_init 6 = .ok (.newarray .int, 2) := by decide +kernel
theorem dX11_init_8 : decode cX11_init 8 = .ok (.putfield 7, 3) := by decide +kernel
theorem dX11_init_11 : decode cX11_init 11 = .ok (.aload_n 0, 1) := by decide +kernel
theorem dX11_init_12 : decode cX11_init 12 = .ok (.iconst (-1), 1) := by decide +kernel
theorem dX11_init_13 : decode cX11_init 13 = .ok (.putfield 13, 3) := by decide +kernel
theorem dX11_init_16 : decode cX11_init 16 = .ok (.aload_n 0, 1) := by decide +kernel
theorem dX11_init_17 : decode cX11_init 17 = .ok (.sipush 300, 3) := by decide +kernel
theorem dX11_init_20 : decode cX11_init 20 = .ok (.newarray .int, 2) := by decide +kernel
theorem dX11_init_22 : decode cX11_init 22 = .ok (.putfield 17, 3) := by decide +kernel
theorem dX11_init_25 : decode cX11_init 25 = .ok (.aload_n 0, 1) := by decide +kernel
theorem dX11_init_26 : decode cX11_init 26 = .ok (.iconst 4, 1) := by decide +kernel
theorem dX11_init_27 : decode cX11_init 27 = .ok (.putfield 20, 3) := by decide +kernel
theorem dX11_init_30 : decode cX11_init 30 = .ok (.aload_n 0, 1) := by decide +kernel
theorem dX11_init_31 : decode cX11_init 31 = .ok (.iconst 1, 1) := by decide +kernel
theorem dX11_init_32 : decode cX11_init 32 = .ok (.putfield 23, 3) := by decide +kernel
theorem dX11_init_35 : decode cX11_init 35 = .ok (.aload_n 0, 1) := by decide +kernel
theorem dX11_init_36 : decode cX11_init 36 = .ok (.bipush 7, 2) := by decide +kernel
theorem dX11_init_38 : decode cX11_init 38 = .ok (.newarray .int, 2) := by decide +kernel
theorem dX11_init_40 : decode cX11_init 40 = .ok (.putfield 26, 3) := by decide +kernel
theorem dX11_init_43 : decode cX11_init 43 = .ok (.aload_n 0, 1) := by decide +kernel
theorem dX11_init_44 : decode cX11_init 44 = .ok (.iconst 2, 1) := by decide +kernel
theorem dX11_init_45 : decode cX11_init 45 = .ok (.bipush 7, 2) := by decide +kernel
theorem dX11_init_47 : decode cX11_init 47 = .ok (.multianewarray 29 2, 4) := by decide +kernel
theorem dX11_init_51 : decode cX11_init 51 = .ok (.putfield 31, 3) := by decide +kernel
theorem dX11_init_54 : decode cX11_init 54 = .ok (.aload_n 0, 1) := by decide +kernel
theorem dX11_init_55 : decode cX11_init 55 = .ok (.iconst 2, 1) := by decide +kernel
theorem dX11_init_56 : decode cX11_init 56 = .ok (.bipush 7, 2) := by decide +kernel
theorem dX11_init_58 : decode cX11_init 58 = .ok (.bipush 13, 2) := by decide +kernel
theorem dX11_init_60 : decode cX11_init 60 = .ok (.bipush 6, 2) := by decide +kernel
theorem dX11_init_62 : decode cX11_init 62 = .ok (.multianewarray 34 4, 4) := by decide +kernel
theorem dX11_init_66 : decode cX11_init 66 = .ok (.putfield 36, 3) := by decide +kernel
theorem dX11_init_69 : decode cX11_init 69 = .ok (.aload_n 0, 1) := by decide +kernel
theorem dX11_init_70 : decode cX11_init 70 = .ok (.iconst (-1), 1) := by decide +kernel
theorem dX11_init_71 : decode cX11_init 71 = .ok (.putfield 39, 3) := by decide +kernel
theorem dX11_init_74 : decode cX11_init 74 = .ok (.aload_n 0, 1) := by decide +kernel
theorem dX11_init_75 : decode cX11_init 75 = .ok (.bipush 7, 2) := by decide +kernel
theorem dX11_init_77 : decode cX11_init 77 = .ok (.bipush 57, 2) := by decide +kernel
theorem dX11_init_79 : decode cX11_init 79 = .ok (.multianewarray 29 2, 4) := by decide +kernel
theorem dX11_init_83 : decode cX11_init 83 = .ok (.putfield 42, 3) := by decide +kernel
theorem dX11_init_86 : decode cX11_init 86 = .ok (.aload_n 0, 1) := by decide +kernel
theorem dX11_init_87 : decode cX11_init 87 = .ok (.bipush 7, 2) := by decide +kernel
theorem dX11_init_89 : decode cX11_init 89 = .ok (.bipush 57, 2) := by decide +kernel
theorem dX11_init_91 : decode cX11_init 91 = .ok (.multianewarray 45 2, 4) := by decide +kernel
theorem dX11_init_95 : decode cX11_init 95 = .ok (.putfield 47, 3) := by decide +kernel
theorem dX11_init_98 : decode cX11_init 98 = .ok (.aload_n 0, 1) := by decide +kernel
theorem dX11_init_99 : decode cX11_init 99 = .ok (.bipush 7, 2) := by decide +kernel
theorem dX11_init_101 : decode cX11_init 101 = .ok (.iconst 5, 1) := by decide +kernel
theorem dX11_init_102 : decode cX11_init 102 = .ok (.multianewarray 29 2, 4) := by decide +kernel
theorem dX11_init_106 : decode cX11_init 106 = .ok (.putfield 50, 3) := by decide +kernel
theorem dX11_init_109 : decode cX11_init 109 = .ok (.aload_n 0, 1) := by decide +kernel
theorem dX11_init_110 : decode cX11_init 110 = .ok (.bipush 7, 2) := by decide +kernel
theorem dX11_init_112 : decode cX11_init 112 = .ok (.newarray .int, 2) := by decide +kernel
theorem dX11_init_114 : decode cX11_init 114 = .ok (.putfield 53, 3) := by decide +kernel
theorem dX11_init_117 : decode cX11_init 117 = .ok (.aload_n 0, 1) := by decide +kernel
theorem dX11_init_118 : decode cX11_init 118 = .ok (.sipush 1200, 3) := by decide +kernel
theorem dX11_init_121 : decode cX11_init 121 = .ok (.newarray .int, 2) := by decide +kernel
theorem dX11_init_123 : decode cX11_init 123 = .ok (.putfield 56, 3) := by decide +kernel
theorem dX11_init_126 : decode cX11_init 126 = .ok (.aload_n 0, 1) := by decide +kernel
theorem dX11_init_127 : decode cX11_init 127 = .ok (.bipush 6, 2) := by decide +kernel
theorem dX11_init_129 : decode cX11_init 129 = .ok (.newarray .int, 2) := by decide +kernel
theorem dX11_init_131 : decode cX11_init 131 = .ok (.putfield 59, 3) := by decide +kernel
theorem dX11_init_134 : decode cX11_init 134 = .ok (.aload_n 0, 1) := by decide +kernel
theorem dX11_init_135 : decode cX11_init 135 = .ok (.bipush 7, 2) := by decide +kernel
theorem dX11_init_137 : decode cX11_init 137 = .ok (.newarray .int, 2) := by decide +kernel
theorem dX11_init_139 : decode cX11_init 139 = .ok (.putfield 62, 3) := by decide +kernel
theorem dX11_init_142 : decode cX11_init 142 = .ok (.aload_n 0, 1) := by decide +kernel
theorem dX11_init_143 : decode cX11_init 143 = .ok (.bipush 7, 2) := by decide +kernel
theorem dX11_init_145 : decode cX11_init 145 = .ok (.newarray .int, 2) := by decide +kernel
theorem dX11_init_147 : decode cX11_init 147 = .ok (.putfield 65, 3) := by decide +kernel
theorem dX11_init_150 : decode cX11_init 150 = .ok (.aload_n 0, 1) := by decide +kernel
theorem dX11_init_151 : decode cX11_init 151 = .ok (.bipush 7, 2) := by decide +kernel
theorem dX11_init_153 : decode cX11_init 153 = .ok (.newarray .int, 2) := by decide +kernel
theorem dX11_init_155 : decode cX11_init 155 = .ok (.putfield 68, 3) := by decide +kernel
theorem dX11_init_158 : decode cX11_init 158 = .ok (.aload_n 0, 1) := by decide +kernel
theorem dX11_init_159 : decode cX11_init 159 = .ok (.bipush 7, 2) := by decide +kernel
theorem dX11_init_161 : decode cX11_init 161 = .ok (.newarray .int, 2) := by decide +kernel
theorem dX11_init_163 : decode cX11_init 163 = .ok (.putfield 71, 3) := by decide +kernel
theorem dX11_init_166 : decode cX11_init 166 = .ok (.aload_n 0, 1) := by decide +kernel
theorem dX11_init_167 : decode cX11_init 167 = .ok (.bipush 7, 2) := by decide +kernel
theorem dX11_init_169 : decode cX11_init 169 = .ok (.bipush 60, 2) := by decide +kernel
theorem dX11_init_171 : decode cX11_init 171 = .ok (.multianewarray 29 2, 4) := by decide +kernel
theorem dX11_init_175 : decode cX11_init 175 = .ok (.putfield 74, 3) := by decide +kernel
theorem dX11_init_178 : decode cX11_init 178 = .ok (.aload_n 0, 1) := by decide +kernel
theorem dX11_init_179 : decode cX11_init 179 = .ok (.bipush 7, 2) := by decide +kernel
theorem dX11_init_181 : decode cX11_init 181 = .ok (.bipush 60, 2) := by decide +kernel
theorem dX11_init_183 : decode cX11_init 183 = .ok (.multianewarray 29 2, 4) := by decide +kernel
theorem dX11_init_187 : decode cX11_init 187 = .ok (.putfield 77, 3) := by decide +kernel
theorem dX11_init_190 : decode cX11_init 190 = .ok (.aload_n 0, 1) := by decide +kernel
theorem dX11_init_191 : decode cX11_init 191 = .ok (.bipush 7, 2) := by decide +kernel
theorem dX11_init_193 : decode cX11_init 193 = .ok (.bipush 60, 2) := by decide +kernel
theorem dX11_init_195 : decode cX11_init 195 = .ok (.multianewarray 29 2, 4) := by decide +kernel
theorem dX11_init_199 : decode cX11_init 199 = .ok (.putfield 80, 3) := by decide +kernel
theorem dX11_init_202 : decode cX11_init 202 = .ok (.aload_n 0, 1) := by decide +kernel
theorem dX11_init_203 : decode cX11_init 203 = .ok (.bipush 7, 2) := by decide +kernel
theorem dX11_init_205 : decode cX11_init 205 = .ok (.bipush 60, 2) := by decide +kernel
theorem dX11_init_207 : decode cX11_init 207 = .ok (.multianewarray 29 2, 4) := by decide +kernel
theorem dX11_init_211 : decode cX11_init 211 = .ok (.putfield 83, 3) := by decide +kernel
theorem dX11_init_214 : decode cX11_init 214 = .ok (.aload_n 0, 1) := by decide +kernel
theorem dX11_init_215 : decode cX11_init 215 = .ok (.bipush 7, 2) := by decide +kernel
theorem dX11_init_217 : decode cX11_init 217 = .ok (.newarray .int, 2) := by decide +kernel
theorem dX11_init_219 : decode cX11_init 219 = .ok (.putfield 86, 3) := by decide +kernel
theorem dX11_init_222 : decode cX11_init 222 = .ok (.aload_n 0, 1) := by decide +kernel
theorem dX11_init_223 : decode cX11_init 223 = .ok (.bipush 7, 2) := by decide +kernel
theorem dX11_init_225 : decode cX11_init 225 = .ok (.newarray .int, 2) := by decide +kernel
theorem dX11_init_227 : decode cX11_init 227 = .ok (.putfield 89, 3) := by decide +kernel
theorem dX11_init_230 : decode cX11_init 230 = .ok (.aload_n 0, 1) := by decide +kernel
theorem dX11_init_231 : decode cX11_init 231 = .ok (.bipush 7, 2) := by decide +kernel
theorem dX11_init_233 : decode cX11_init 233 = .ok (.newarray .int, 2) := by decide +kernel
theorem dX11_init_235 : decode cX11_init 235 = .ok (.putfield 92, 3) := by decide +kernel
theorem dX11_init_238 : decode cX11_init 238 = .ok (.aload_n 0, 1) := by decide +kernel
theorem dX11_init_239 : decode cX11_init 239 = .ok (.bipush 7, 2) := by decide +kernel
theorem dX11_init_241 : decode cX11_init 241 = .ok (.newarray .int, 2) := by decide +kernel
theorem dX11_init_243 : decode cX11_init 243 = .ok (.putfield 95, 3) := by decide +kernel
theorem dX11_init_246 : decode cX11_init 246 = .ok (.aload_n 0, 1) := by decide +kernel
theorem dX11_init_247 : decode cX11_init 247 = .ok (.bipush 7, 2) := by decide +kernel
theorem dX11_init_249 : decode cX11_init 249 = .ok (.newarray .int, 2) := by decide +kernel
theorem dX11_init_251 : decode cX11_init 251 = .ok (.putfield 98, 3) := by decide +kernel
theorem dX11_init_254 : decode cX11_init 254 = .ok (.aload_n 0, 1) := by decide +kernel
theorem dX11_init_255 : decode cX11_init 255 = .ok (.bipush 7, 2) := by decide +kernel
theorem dX11_init_257 : decode cX11_init 257 = .ok (.bipush 7, 2) := by decide +kernel
theorem dX11_init_259 : decode cX11_init 259 = .ok (.multianewarray 29 2, 4) := by decide +kernel
theorem dX11_init_263 : decode cX11_init 263 = .ok (.putfield 101, 3) := by decide +kernel
theorem dX11_init_266 : decode cX11_init 266 = .ok (.aload_n 0, 1) := by decide +kernel
theorem dX11_init_267 : decode cX11_init 267 = .ok (.bipush 7, 2) := by decide +kernel
theorem dX11_init_269 : decode cX11_init 269 = .ok (.bipush 7, 2) := by decide +kernel
theorem dX11_init_271 : decode cX11_init 271 = .ok (.multianewarray 29 2, 4) := by decide +kernel
theorem dX11_init_275 : decode cX11_init 275 = .ok (.putfield 104, 3) := by decide +kernel
theorem dX11_init_278 : decode cX11_init 278 = .ok (.aload_n 0, 1) := by decide +kernel
theorem dX11_init_279 : decode cX11_init 279 = .ok (.bipush 7, 2) := by decide +kernel
theorem dX11_init_281 : decode cX11_init 281 = .ok (.bipush 7, 2) := by decide +kernel
theorem dX11_init_283 : decode cX11_init 283 = .ok (.multianewarray 45 2, 4) := by decide +kernel
theorem dX11_init_287 : decode cX11_init 287 = .ok (.putfield 107, 3) := by decide +kernel
theorem dX11_init_290 : decode cX11_init 290 = .ok (.aload_n 0, 1) := by decide +kernel
theorem dX11_init_291 : decode cX11_init 291 = .ok (.bipush 7, 2) := by decide +kernel
theorem dX11_init_293 : decode cX11_init 293 = .ok (.bipush 7, 2) := by decide +kernel
theorem dX11_init_295 : decode cX11_init 295 = .ok (.multianewarray 45 2, 4) := by decide +kernel
theorem dX11_init_299 : decode cX11_init 299 = .ok (.putfield 110, 3) := by decide +kernel
theorem dX11_init_302 : decode cX11_init 302 = .ok (.aload_n 0, 1) := by decide +kernel
theorem dX11_init_303 : decode cX11_init 303 = .ok (.bipush 7, 2) := by decide +kernel
theorem dX11_init_305 : decode cX11_init 305 = .ok (.newarray .int, 2) := by decide +kernel
theorem dX11_init_307 : decode cX11_init 307 = .ok (.putfield 113, 3) := by decide +kernel
theorem dX11_init_310 : decode cX11_init 310 = .ok (.aload_n 0, 1) := by decide +kernel
theorem dX11_init_311 : decode cX11_init 311 = .ok (.bipush 7, 2) := by decide +kernel
theorem dX11_init_313 : decode cX11_init 313 = .ok (.newarray .int, 2) := by decide +kernel
theorem dX11_init_315 : decode cX11_init 315 = .ok (.putfield 116, 3) := by decide +kernel
theorem dX11_init_318 : decode cX11_init 318 = .ok (.aload_n 0, 1) := by decide +kernel
theorem dX11_init_319 : decode cX11_init 319 = .ok (.bipush 7, 2) := by decide +kernel
theorem dX11_init_321 : decode cX11_init 321 = .ok (.newarray .int, 2) := by decide +kernel
theorem dX11_init_323 : decode cX11_init 323 = .ok (.putfield 119, 3) := by decide +kernel
theorem dX11_init_326 : decode cX11_init 326 = .ok (.aload_n 0, 1) := by decide +kernel
theorem dX11_init_327 : decode cX11_init 327 = .ok (.bipush 7, 2) := by decide +kernel
theorem dX11_init_329 : decode cX11_init 329 = .ok (.newarray .int, 2) := by decide +kernel
theorem dX11_init_331 : decode cX11_init 331 = .ok (.putfield 122, 3) := by decide +kernel
theorem dX11_init_334 : decode cX11_init 334 = .ok (.aload_n 0, 1) := by decide +kernel
theorem dX11_init_335 : decode cX11_init 335 = .ok (.bipush 7, 2) := by decide +kernel
theorem dX11_init_337 : decode cX11_init 337 = .ok (.newarray .boolean, 2) := by decide +kernel
theorem dX11_init_339 : decode cX11_init 339 = .ok (.putfield 125, 3) := by decide +kernel
theorem dX11_init_342 : decode cX11_init 342 = .ok (.aload_n 0, 1) := by decide +kernel
theorem dX11_init_343 : decode cX11_init 343 = .ok (.bipush 7, 2) := by decide +kernel
theorem dX11_init_345 : decode cX11_init 345 = .ok (.newarray .float, 2) := by decide +kernel
theorem dX11_init_347 : decode cX11_init 347 = .ok (.putfield 129, 3) := by decide +kernel
theorem dX11_init_350 : decode cX11_init 350 = .ok (.aload_n 0, 1) := by decide +kernel
theorem dX11_init_351 : decode cX11_init 351 = .ok (.bipush 7, 2) := by decide +kernel
theorem dX11_init_353 : decode cX11_init 353 = .ok (.newarray .float, 2) := by decide +kernel
theorem dX11_init_355 : decode cX11_init 355 = .ok (.putfield 133, 3) := by decide +kernel
theorem dX11_init_358 : decode cX11_init 358 = .ok (.aload_n 0, 1) := by decide +kernel
theorem dX11_init_359 : decode cX11_init 359 = .ok (.bipush 7, 2) := by decide +kernel
theorem dX11_init_361 : decode cX11_init 361 = .ok (.newarray .float, 2) := by decide +kernel
theorem dX11_init_363 : decode cX11_init 363 = .ok (.putfield 136, 3) := by decide +kernel
theorem dX11_init_366 : decode cX11_init 366 = .ok (.aload_n 0, 1) := by decide +kernel
theorem dX11_init_367 : decode cX11_init 367 = .ok (.iconst 4, 1) := by decide +kernel
theorem dX11_init_368 : decode cX11_init 368 = .ok (.newarray .int, 2) := by decide +kernel
theorem dX11_init_370 : decode cX11_init 370 = .ok (.putfield 139, 3) := by decide +kernel
theorem dX11_init_373 : decode cX11_init 373 = .ok (.aload_n 0, 1) := by decide +kernel
theorem dX11_init_374 : decode cX11_init 374 = .ok (.iconst 4, 1) := by decide +kernel
theorem dX11_init_375 : decode cX11_init 375 = .ok (.newarray .int, 2) := by decide +kernel
theorem dX11_init_377 : decode cX11_init 377 = .ok (.putfield 142, 3) := by decide +kernel
theorem dX11_init_380 : decode cX11_init 380 = .ok (.aload_n 0, 1) := by decide +kernel
theorem dX11_init_381 : decode cX11_init 381 = .ok (.iconst 0, 1) := by decide +kernel
theorem dX11_init_382 : decode cX11_init 382 = .ok (.invokevirtual 145, 3) := by decide +kernel
theorem dX11_init_385 : decode cX11_init 385 = .ok (.return_, 1) := by decide +kernel
theorem dX11_thrown_0 : decode cX11_thrown 0 = .ok (.aload_n 0, 1) := by decide +kernel
theorem dX11_thrown_1 : decode cX11_thrown 1 = .ok (.getfield 149, 3) := by decide +kernel
theorem dX11_thrown_4 : decode cX11_thrown 4 = .ok (.ireturn, 1) := by decide +kernel
theorem dX11_bad_0 : decode cX11_bad 0 = .ok (.iload_n 1, 1) := by decide +kernel
theorem dX11_bad_1 : decode cX11_bad 1 = .ok (.ifCond .eq 25, 3) := by decide +kernel
theorem dX11_bad_4 : decode cX11_bad 4 = .ok (.aload_n 0, 1) := by decide +kernel
theorem dX11_bad_5 : decode cX11_bad 5 = .ok (.getfield 149, 3) := by decide +kernel
theorem dX11_bad_8 : decode cX11_bad 8 = .ok (.ifCond .ne 18, 3) := by decide +kernel
theorem dX11_bad_11 : decode cX11_bad 11 = .ok (.aload_n 0, 1) := by decide +kernel
theorem dX11_bad_12 : decode cX11_bad 12 = .ok (.iload_n 2, 1) := by decide +kernel
theorem dX11_bad_13 : decode cX11_bad 13 = .ok (.putfield 149, 3) := by decide +kernel
theorem dX11_bad_16 : decode cX11_bad 16 = .ok (.aload_n 0, 1) := by decide +kernel
theorem dX11_bad_17 : decode cX11_bad 17 = .ok (.getfield 7, 3) := by decide +kernel
theorem dX11_bad_20 : decode cX11_bad 20 = .ok (.iload_n 3, 1) := by decide +kernel
theorem dX11_bad_21 : decode cX11_bad 21 = .ok (.dup2, 1) := by decide +kernel
theorem dX11_bad_22 : decode cX11_bad 22 = .ok (.iaload, 1) := by decide +kernel
theorem dX11_bad_23 : decode cX11_bad 23 = .ok (.iconst 1, 1) := by decide +kernel
theorem dX11_bad_24 : decode cX11_bad 24 = .ok (.iadd, 1) := by decide +kernel
theorem dX11_bad_25 : decode cX11_bad 25 = .ok (.iastore, 1) := by decide +kernel
theorem dX11_bad_26 : decode cX11_bad 26 = .ok (.aload_n 0, 1) := by decide +kernel
theorem dX11_bad_27 : decode cX11_bad 27 = .ok (.getfield 149, 3) := by decide +kernel
theorem dX11_bad_30 : decode cX11_bad 30 = .ok (.ifCond .eq 7, 3) := by decide +kernel
theorem dX11_bad_33 : decode cX11_bad 33 = .ok (.iconst 1, 1) := by decide +kernel
theorem dX11_bad_34 : decode cX11_bad 34 = .ok (.goto 4, 3) := by decide +kernel
theorem dX11_bad_37 : decode cX11_bad 37 = .ok (.iconst 0, 1) := by decide +kernel
theorem dX11_bad_38 : decode cX11_bad 38 = .ok (.ireturn, 1) := by decide +kernel
theorem dX11_in_0 : decode cX11_in 0 = .ok (.iload_n 0, 1) := by decide +kernel
theorem dX11_in_1 : decode cX11_in 1 = .ok (.iload_n 1, 1) := by decide +kernel
theorem dX11_in_2 : decode cX11_in 2 = .ok (.if_icmp .lt 12, 3) := by decide +kernel
theorem dX11_in_5 : decode cX11_in 5 = .ok (.iload_n 0, 1) := by decide +kernel
theorem dX11_in_6 : decode cX11_in 6 = .ok (.iload_n 2, 1) := by decide +kernel
theorem dX11_in_7 : decode cX11_in 7 = .ok (.if_icmp .gt 7, 3) := by decide +kernel
theorem dX11_in_10 : decode cX11_in 10 = .ok (.iconst 1, 1) := by decide +kernel
theorem dX11_in_11 : decode cX11_in 11 = .ok (.goto 4, 3) := by decide +kernel
theorem dX11_in_14 : decode cX11_in 14 = .ok (.iconst 0, 1) := by decide +kernel
theorem dX11_in_15 : decode cX11_in 15 = .ok (.ireturn, 1) := by decide +kernel
theorem dX11_less_0 : decode cX11_less 0 = .ok (.iload_n 0, 1) := by decide +kernel
theorem dX11_less_1 : decode cX11_less 1 = .ok (.iload_n 1, 1) := by decide +kernel
theorem dX11_less_2 : decode cX11_less 2 = .ok (.if_icmp .ge 7, 3) := by decide +kernel
theorem dX11_less_5 : decode cX11_less 5 = .ok (.iload_n 0, 1) := by decide +kernel
theorem dX11_less_6 : decode cX11_less 6 = .ok (.goto 4, 3) := by decide +kernel
theorem dX11_less_9 : decode cX11_less 9 = .ok (.iload_n 1, 1) := by decide +kernel
theorem dX11_less_10 : decode cX11_less 10 = .ok (.ireturn, 1) := by decide +kernel
theorem dX11_bits_0 : decode cX11_bits 0 = .ok (.iload_n 0, 1) := by decide +kernel
theorem dX11_bits_1 : decode cX11_bits 1 = .ok (.i2f, 1) := by decide +kernel
theorem dX11_bits_2 : decode cX11_bits 2 = .ok (.iload_n 1, 1) := by decide +kernel
theorem dX11_bits_3 : decode cX11_bits 3 = .ok (.i2f, 1) := by decide +kernel
theorem dX11_bits_4 : decode cX11_bits 4 = .ok (.fdiv, 1) := by decide +kernel
theorem dX11_bits_5 : decode cX11_bits 5 = .ok (.invokestatic 152, 3) := by decide +kernel
theorem dX11_bits_8 : decode cX11_bits 8 = .ok (.ireturn, 1) := by decide +kernel
theorem dX11_real_0 : decode cX11_real 0 = .ok (.iload_n 0, 1) := by decide +kernel
theorem dX11_real_1 : decode cX11_real 1 = .ok (.invokestatic 158, 3) := by decide +kernel
theorem dX11_real_4 : decode cX11_real 4 = .ok (.freturn, 1) := by decide +kernel
theorem dX11_empties_0 : decode cX11_empties 0 = .ok (.iconst 0, 1) := by decide +kernel
theorem dX11_empties_1 : decode cX11_empties 1 = .ok (.istore_n 2, 1) := by decide +kernel
theorem dX11_empties_2 : decode cX11_empties 2 = .ok (.iload_n 2, 1) := by decide +kernel
theorem dX11_empties_3 : decode cX11_empties 3 = .ok (.bipush 7, 2) := by decide +kernel
theorem dX11_empties_5 : decode cX11_empties 5 = .ok (.if_icmp .ge 18, 3) := by decide +kernel
theorem dX11_empties_8 : decode cX11_empties 8 = .ok (.aload_n 0, 1) := by decide +kernel
theorem dX11_empties_9 : decode cX11_empties 9 = .ok (.getfield 31, 3) := by decide +kernel
theorem dX11_empties_12 : decode cX11_empties 12 = .ok (.iload_n 1, 1) := by decide +kernel
theorem dX11_empties_13 : decode cX11_empties 13 = .ok (.aaload, 1) := by decide +kernel
theorem dX11_empties_14 : decode cX11_empties 14 = .ok (.iload_n 2, 1) := by decide +kernel
theorem dX11_empties_15 : decode cX11_empties 15 = .ok (.iconst (-1), 1) := by decide +kernel
theorem dX11_empties_16 : decode cX11_empties 16 = .ok (.iastore, 1) := by decide +kernel
theorem dX11_empties_17 : decode cX11_empties 17 = .ok (.iinc 2 1, 3) := by decide +kernel
theorem dX11_empties_20 : decode cX11_empties 20 = .ok (.goto (-18), 3) := by decide +kernel
theorem dX11_empties_23 : decode cX11_empties 23 = .ok (.return_, 1) := by decide +kernel
theorem dX11_isMember_0 : decode cX11_isMember 0 = .ok (.iload_n 1, 1) := by decide +kernel
theorem dX11_isMember_1 : decode cX11_isMember 1 = .ok (.iconst 0, 1) := by decide +kernel
theorem dX11_isMember_2 : decode cX11_isMember 2 = .ok (.aload_n 0, 1) := by decide +kernel
theorem dX11_isMember_3 : decode cX11_isMember 3 = .ok (.getfield 20, 3) := by decide +kernel
theorem dX11_isMember_6 : decode cX11_isMember 6 = .ok (.iconst 1, 1) := by decide +kernel
theorem dX11_isMember_7 : decode cX11_isMember 7 = .ok (.isub, 1) := by decide +kernel
theorem dX11_isMember_8 : decode cX11_isMember 8 = .ok (.invokestatic 162, 3) := by decide +kernel
theorem dX11_isMember_11 : decode cX11_isMember 11 = .ok (.ireturn, 1) := by decide +kernel
theorem dX11_isLiar_0 : decode cX11_isLiar 0 = .ok (.aload_n 0, 1) := by decide +kernel
theorem dX11_isLiar_1 : decode cX11_isLiar 1 = .ok (.getfield 31, 3) := by decide +kernel
theorem dX11_isLiar_4 : decode cX11_isLiar 4 = .ok (.iconst 0, 1) := by decide +kernel
theorem dX11_isLiar_5 : decode cX11_isLiar 5 = .ok (.aaload, 1) := by decide +kernel
theorem dX11_isLiar_6 : decode cX11_isLiar 6 = .ok (.iload_n 1, 1) := by decide +kernel
theorem dX11_isLiar_7 : decode cX11_isLiar 7 = .ok (.iaload, 1) := by decide +kernel
theorem dX11_isLiar_8 : decode cX11_isLiar 8 = .ok (.iconst (-1), 1) := by decide +kernel
theorem dX11_isLiar_9 : decode cX11_isLiar 9 = .ok (.if_icmp .eq 7, 3) := by decide +kernel
theorem dX11_isLiar_12 : decode cX11_isLiar 12 = .ok (.iconst 1, 1) := by decide +kernel
theorem dX11_isLiar_13 : decode cX11_isLiar 13 = .ok (.goto 4, 3) := by decide +kernel
theorem dX11_isLiar_16 : decode cX11_isLiar 16 = .ok (.iconst 0, 1) := by decide +kernel
theorem dX11_isLiar_17 : decode cX11_isLiar 17 = .ok (.ireturn, 1) := by decide +kernel
theorem dX11_group_0 : decode cX11_group 0 = .ok (.aload_n 0, 1) := by decide +kernel
theorem dX11_group_1 : decode cX11_group 1 = .ok (.iconst 0, 1) := by decide +kernel
theorem dX11_group_2 : decode cX11_group 2 = .ok (.putfield 149, 3) := by decide +kernel
theorem dX11_group_5 : decode cX11_group 5 = .ok (.aload_n 0, 1) := by decide +kernel
theorem dX11_group_6 : decode cX11_group 6 = .ok (.iload_n 1, 1) := by decide +kernel
theorem dX11_group_7 : decode cX11_group 7 = .ok (.iconst 3, 1) := by decide +kernel
theorem dX11_group_8 : decode cX11_group 8 = .ok (.bipush 7, 2) := by decide +kernel
theorem dX11_group_10 : decode cX11_group 10 = .ok (.invokestatic 162, 3) := by decide +kernel
theorem dX11_group_13 : decode cX11_group 13 = .ok (.ifCond .eq 12, 3) := by decide +kernel
theorem dX11_group_16 : decode cX11_group 16 = .ok (.iload_n 2, 1) := by decide +kernel
theorem dX11_group_17 : decode cX11_group 17 = .ok (.iconst 0, 1) := by decide +kernel
theorem dX11_group_18 : decode cX11_group 18 = .ok (.iconst 2, 1) := by decide +kernel
theorem dX11_group_19 : decode cX11_group 19 = .ok (.invokestatic 162, 3) := by decide +kernel
theorem dX11_group_22 : decode cX11_group 22 = .ok (.ifCond .ne 7, 3) := by decide +kernel
theorem dX11_group_25 : decode cX11_group 25 = .ok (.iconst 1, 1) := by decide +kernel
theorem dX11_group_26 : decode cX11_group 26 = .ok (.goto 4, 3) := by decide +kernel
theorem dX11_group_29 : decode cX11_group 29 = .ok (.iconst 0, 1) := by decide +kernel
theorem dX11_group_30 : decode cX11_group 30 = .ok (.iconst 1, 1) := by decide +kernel
theorem dX11_group_31 : decode cX11_group 31 = .ok (.iconst 1, 1) := by decide +kernel
theorem dX11_group_32 : decode cX11_group 32 = .ok (.invokevirtual 166, 3) := by decide +kernel
theorem dX11_group_35 : decode cX11_group 35 = .ok (.ifCond .eq 5, 3) := by decide +kernel
theorem dX11_group_38 : decode cX11_group 38 = .ok (.iconst 0, 1) := by decide +kernel
theorem dX11_group_39 : decode cX11_group 39 = .ok (.ireturn, 1) := by decide +kernel
theorem dX11_group_40 : decode cX11_group 40 = .ok (.aload_n 0, 1) := by decide +kernel
theorem dX11_group_41 : decode cX11_group 41 = .ok (.iload_n 1, 1) := by decide +kernel
theorem dX11_group_42 : decode cX11_group 42 = .ok (.putfield 20, 3) := by decide +kernel
theorem dX11_group_45 : decode cX11_group 45 = .ok (.aload_n 0, 1) := by decide +kernel
theorem dX11_group_46 : decode cX11_group 46 = .ok (.iload_n 2, 1) := by decide +kernel
theorem dX11_group_47 : decode cX11_group 47 = .ok (.putfield 23, 3) := by decide +kernel
theorem dX11_group_50 : decode cX11_group 50 = .ok (.aload_n 0, 1) := by decide +kernel
theorem dX11_group_51 : decode cX11_group 51 = .ok (.iconst 0, 1) := by decide +kernel
theorem dX11_group_52 : decode cX11_group 52 = .ok (.putfield 170, 3) := by decide +kernel
theorem dX11_group_55 : decode cX11_group 55 = .ok (.iconst 0, 1) := by decide +kernel
theorem dX11_group_56 : decode cX11_group 56 = .ok (.istore_n 3, 1) := by decide +kernel
theorem dX11_group_57 : decode cX11_group 57 = .ok (.iload_n 3, 1) := by decide +kernel
theorem dX11_group_58 : decode cX11_group 58 = .ok (.bipush 7, 2) := by decide +kernel
theorem dX11_group_60 : decode cX11_group 60 = .ok (.if_icmp .ge 16, 3) := by decide +kernel
theorem dX11_group_63 : decode cX11_group 63 = .ok (.aload_n 0, 1) := by decide +kernel
theorem dX11_group_64 : decode cX11_group 64 = .ok (.getfield 26, 3) := by decide +kernel
theorem dX11_group_67 : decode cX11_group 67 = .ok (.iload_n 3, 1) := by decide +kernel
theorem dX11_group_68 : decode cX11_group 68 = .ok (.iconst 0, 1) := by decide +kernel
theorem dX11_group_69 : decode cX11_group 69 = .ok (.iastore, 1) := by decide +kernel
theorem dX11_group_70 : decode cX11_group 70 = .ok (.iinc 3 1, 3) := by decide +kernel
theorem dX11_group_73 : decode cX11_group 73 = .ok (.goto (-16), 3) := by decide +kernel
theorem dX11_group_76 : decode cX11_group 76 = .ok (.aload_n 0, 1) := by decide +kernel
theorem dX11_group_77 : decode cX11_group 77 = .ok (.iconst 0, 1) := by decide +kernel
theorem dX11_group_78 : decode cX11_group 78 = .ok (.invokevirtual 145, 3) := by decide +kernel
theorem dX11_group_81 : decode cX11_group 81 = .ok (.aload_n 0, 1) := by decide +kernel
theorem dX11_group_82 : decode cX11_group 82 = .ok (.iconst (-1), 1) := by decide +kernel
theorem dX11_group_83 : decode cX11_group 83 = .ok (.putfield 39, 3) := by decide +kernel
theorem dX11_group_86 : decode cX11_group 86 = .ok (.aload_n 0, 1) := by decide +kernel
theorem dX11_group_87 : decode cX11_group 87 = .ok (.iconst 0, 1) := by decide +kernel
theorem dX11_group_88 : decode cX11_group 88 = .ok (.putfield 173, 3) := by decide +kernel
theorem dX11_group_91 : decode cX11_group 91 = .ok (.aload_n 0, 1) := by decide +kernel
theorem dX11_group_92 : decode cX11_group 92 = .ok (.iconst 0, 1) := by decide +kernel
theorem dX11_group_93 : decode cX11_group 93 = .ok (.putfield 176, 3) := by decide +kernel
theorem dX11_group_96 : decode cX11_group 96 = .ok (.aload_n 0, 1) := by decide +kernel
theorem dX11_group_97 : decode cX11_group 97 = .ok (.getfield 23, 3) := by decide +kernel
theorem dX11_group_100 : decode cX11_group 100 = .ok (.iconst 1, 1) := by decide +kernel
theorem dX11_group_101 : decode cX11_group 101 = .ok (.iadd, 1) := by decide +kernel
theorem dX11_group_102 : decode cX11_group 102 = .ok (.ireturn, 1) := by decide +kernel
theorem dX11_value_0 : decode cX11_value 0 = .ok (.aload_n 0, 1) := by decide +kernel
theorem dX11_value_1 : decode cX11_value 1 = .ok (.iconst 0, 1) := by decide +kernel
theorem dX11_value_2 : decode cX11_value 2 = .ok (.putfield 149, 3) := by decide +kernel
theorem dX11_value_5 : decode cX11_value 5 = .ok (.aload_n 0, 1) := by decide +kernel
theorem dX11_value_6 : decode cX11_value 6 = .ok (.aload_n 0, 1) := by decide +kernel
theorem dX11_value_7 : decode cX11_value 7 = .ok (.iload_n 1, 1) := by decide +kernel
theorem dX11_value_8 : decode cX11_value 8 = .ok (.invokevirtual 179, 3) := by decide +kernel
theorem dX11_value_11 : decode cX11_value 11 = .ok (.ifCond .ne 7, 3) := by decide +kernel
theorem dX11_value_14 : decode cX11_value 14 = .ok (.iconst 1, 1) := by decide +kernel
theorem dX11_value_15 : decode cX11_value 15 = .ok (.goto 4, 3) := by decide +kernel
theorem dX11_value_18 : decode cX11_value 18 = .ok (.iconst 0, 1) := by decide +kernel
theorem dX11_value_19 : decode cX11_value 19 = .ok (.iconst 1, 1) := by decide +kernel
theorem dX11_value_20 : decode cX11_value 20 = .ok (.iconst 0, 1) := by decide +kernel
theorem dX11_value_21 : decode cX11_value 21 = .ok (.invokevirtual 166, 3) := by decide +kernel
theorem dX11_value_24 : decode cX11_value 24 = .ok (.ifCond .ne 39, 3) := by decide +kernel
theorem dX11_value_27 : decode cX11_value 27 = .ok (.aload_n 0, 1) := by decide +kernel
theorem dX11_value_28 : decode cX11_value 28 = .ok (.iload_n 2, 1) := by decide +kernel
theorem dX11_value_29 : decode cX11_value 29 = .ok (.ldc 183, 2) := by decide +kernel
theorem dX11_value_31 : decode cX11_value 31 = .ok (.ldc 184, 2) := by decide +kernel
theorem dX11_value_33 : decode cX11_value 33 = .ok (.invokestatic 162, 3) := by decide +kernel
theorem dX11_value_36 : decode cX11_value 36 = .ok (.ifCond .eq 14, 3) := by decide +kernel
theorem dX11_value_39 : decode cX11_value 39 = .ok (.iload_n 3, 1) := by decide +kernel
theorem dX11_value_40 : decode cX11_value 40 = .ok (.iconst 1, 1) := by decide +kernel
theorem dX11_value_41 : decode cX11_value 41 = .ok (.sipush 999, 3) := by decide +kernel
theorem dX11_value_44 : decode cX11_value 44 = .ok (.invokestatic 162, 3) := by decide +kernel
theorem dX11_value_47 : decode cX11_value 47 = .ok (.ifCond .ne 7, 3) := by decide +kernel
theorem dX11_value_50 : decode cX11_value 50 = .ok (.iconst 1, 1) := by decide +kernel
theorem dX11_value_51 : decode cX11_value 51 = .ok (.goto 4, 3) := by decide +kernel
theorem dX11_value_54 : decode cX11_value 54 = .ok (.iconst 0, 1) := by decide +kernel
theorem dX11_value_55 : decode cX11_value 55 = .ok (.iconst 2, 1) := by decide +kernel
theorem dX11_value_56 : decode cX11_value 56 = .ok (.iconst 1, 1) := by decide +kernel
theorem dX11_value_57 : decode cX11_value 57 = .ok (.invokevirtual 166, 3) := by decide +kernel
theorem dX11_value_60 : decode cX11_value 60 = .ok (.ifCond .eq 5, 3) := by decide +kernel
theorem dX11_value_63 : decode cX11_value 63 = .ok (.iconst 0, 1) := by decide +kernel
theorem dX11_value_64 : decode cX11_value 64 = .ok (.ireturn, 1) := by decide +kernel
theorem dX11_value_65 : decode cX11_value 65 = .ok (.aload_n 0, 1) := by decide +kernel
theorem dX11_value_66 : decode cX11_value 66 = .ok (.getfield 26, 3) := by decide +kernel
theorem dX11_value_69 : decode cX11_value 69 = .ok (.iload_n 1, 1) := by decide +kernel
theorem dX11_value_70 : decode cX11_value 70 = .ok (.iaload, 1) := by decide +kernel
theorem dX11_value_71 : decode cX11_value 71 = .ok (.istore 4, 2) := by decide +kernel
theorem dX11_value_73 : decode cX11_value 73 = .ok (.aload_n 0, 1) := by decide +kernel
theorem dX11_value_74 : decode cX11_value 74 = .ok (.getfield 26, 3) := by decide +kernel
theorem dX11_value_77 : decode cX11_value 77 = .ok (.iload_n 1, 1) := by decide +kernel
theorem dX11_value_78 : decode cX11_value 78 = .ok (.iload_n 2, 1) := by decide +kernel
theorem dX11_value_79 : decode cX11_value 79 = .ok (.iload_n 3, 1) := by decide +kernel
theorem dX11_value_80 : decode cX11_value 80 = .ok (.invokestatic 185, 3) := by decide +kernel
theorem dX11_value_83 : decode cX11_value 83 = .ok (.iastore, 1) := by decide +kernel
theorem dX11_value_84 : decode cX11_value 84 = .ok (.iload 4, 2) := by decide +kernel
theorem dX11_value_86 : decode cX11_value 86 = .ok (.ireturn, 1) := by decide +kernel
theorem dX11_missing_0 : decode cX11_missing 0 = .ok (.aload_n 0, 1) := by decide +kernel
theorem dX11_missing_1 : decode cX11_missing 1 = .ok (.iconst 0, 1) := by decide +kernel
theorem dX11_missing_2 : decode cX11_missing 2 = .ok (.putfield 149, 3) := by decide +kernel
theorem dX11_missing_5 : decode cX11_missing 5 = .ok (.aload_n 0, 1) := by decide +kernel
theorem dX11_missing_6 : decode cX11_missing 6 = .ok (.iload_n 1, 1) := by decide +kernel
theorem dX11_missing_7 : decode cX11_missing 7 = .ok (.ldc 183, 2) := by decide +kernel
theorem dX11_missing_9 : decode cX11_missing 9 = .ok (.ldc 184, 2) := by decide +kernel
theorem dX11_missing_11 : decode cX11_missing 11 = .ok (.invokestatic 162, 3) := by decide +kernel
theorem dX11_missing_14 : decode cX11_missing 14 = .ok (.ifCond .eq 14, 3) := by decide +kernel
theorem dX11_missing_17 : decode cX11_missing 17 = .ok (.iload_n 2, 1) := by decide +kernel
theorem dX11_missing_18 : decode cX11_missing 18 = .ok (.iconst 1, 1) := by decide +kernel
theorem dX11_missing_19 : decode cX11_missing 19 = .ok (.sipush 999, 3) := by decide +kernel
theorem dX11_missing_22 : decode cX11_missing 22 = .ok (.invokestatic 162, 3) := by decide +kernel
theorem dX11_missing_25 : decode cX11_missing 25 = .ok (.ifCond .ne 7, 3) := by decide +kernel
theorem dX11_missing_28 : decode cX11_missing 28 = .ok (.iconst 1, 1) := by decide +kernel
theorem dX11_missing_29 : decode cX11_missing 29 = .ok (.goto 4, 3) := by decide +kernel
theorem dX11_missing_32 : decode cX11_missing 32 = .ok (.iconst 0, 1) := by decide +kernel
theorem dX11_missing_33 : decode cX11_missing 33 = .ok (.iconst 1, 1) := by decide +kernel
theorem dX11_missing_34 : decode cX11_missing 34 = .ok (.iconst 1, 1) := by decide +kernel
theorem dX11_missing_35 : decode cX11_missing 35 = .ok (.invokevirtual 166, 3) := by decide +kernel
theorem dX11_missing_38 : decode cX11_missing 38 = .ok (.ifCond .eq 5, 3) := by decide +kernel
theorem dX11_missing_41 : decode cX11_missing 41 = .ok (.iconst 0, 1) := by decide +kernel
theorem dX11_missing_42 : decode cX11_missing 42 = .ok (.ireturn, 1) := by decide +kernel
theorem dX11_missing_43 : decode cX11_missing 43 = .ok (.aload_n 0, 1) := by decide +kernel
theorem dX11_missing_44 : decode cX11_missing 44 = .ok (.getfield 170, 3) := by decide +kernel
theorem dX11_missing_47 : decode cX11_missing 47 = .ok (.istore_n 3, 1) := by decide +kernel
theorem dX11_missing_48 : decode cX11_missing 48 = .ok (.aload_n 0, 1) := by decide +kernel
theorem dX11_missing_49 : decode cX11_missing 49 = .ok (.iload_n 1, 1) := by decide +kernel
theorem dX11_missing_50 : decode cX11_missing 50 = .ok (.iload_n 2, 1) := by decide +kernel
theorem dX11_missing_51 : decode cX11_missing 51 = .ok (.invokestatic 185, 3) := by decide +kernel
theorem dX11_missing_54 : decode cX11_missing 54 = .ok (.putfield 170, 3) := by decide +kernel
theorem dX11_missing_57 : decode cX11_missing 57 = .ok (.iload_n 3, 1) := by decide +kernel
theorem dX11_missing_58 : decode cX11_missing 58 = .ok (.ireturn, 1) := by decide +kernel
theorem dX11_feed_0 : decode cX11_feed 0 = .ok (.aload_n 0, 1) := by decide +kernel
theorem dX11_feed_1 : decode cX11_feed 1 = .ok (.iconst 0, 1) := by decide +kernel
theorem dX11_feed_2 : decode cX11_feed 2 = .ok (.putfield 149, 3) := by decide +kernel
theorem dX11_feed_5 : decode cX11_feed 5 = .ok (.aload_n 0, 1) := by decide +kernel
theorem dX11_feed_6 : decode cX11_feed 6 = .ok (.getfield 189, 3) := by decide +kernel
theorem dX11_feed_9 : decode cX11_feed 9 = .ok (.bipush 20, 2) := by decide +kernel
theorem dX11_feed_11 : decode cX11_feed 11 = .ok (.iadd, 1) := by decide +kernel
theorem dX11_feed_12 : decode cX11_feed 12 = .ok (.sipush 300, 3) := by decide +kernel
theorem dX11_feed_15 : decode cX11_feed 15 = .ok (.if_icmp .le 5, 3) := by decide +kernel
theorem dX11_feed_18 : decode cX11_feed 18 = .ok (.iconst (-1), 1) := by decide +kernel
theorem dX11_feed_19 : decode cX11_feed 19 = .ok (.ireturn, 1) := by decide +kernel
theorem dX11_feed_20 : decode cX11_feed 20 = .ok (.iconst 0, 1) := by decide +kernel
theorem dX11_feed_21 : decode cX11_feed 21 = .ok (.istore 6, 2) := by decide +kernel
theorem dX11_feed_23 : decode cX11_feed 23 = .ok (.iload 6, 2) := by decide +kernel
theorem dX11_feed_25 : decode cX11_feed 25 = .ok (.bipush 20, 2) := by decide +kernel
theorem dX11_feed_27 : decode cX11_feed 27 = .ok (.if_icmp .ge 93, 3) := by decide +kernel
theorem dX11_feed_30 : decode cX11_feed 30 = .ok (.iload 6, 2) := by decide +kernel
theorem dX11_feed_32 : decode cX11_feed 32 = .ok (.iconst 4, 1) := by decide +kernel
theorem dX11_feed_33 : decode cX11_feed 33 = .ok (.if_icmp .ge 7, 3) := by decide +kernel
theorem dX11_feed_36 : decode cX11_feed 36 = .ok (.iload_n 1, 1) := by decide +kernel
theorem dX11_feed_37 : decode cX11_feed 37 = .ok (.goto 39, 3) := by decide +kernel
theorem dX11_feed_40 : decode cX11_feed 40 = .ok (.iload 6, 2) := by decide +kernel
theorem dX11_feed_42 : decode cX11_feed 42 = .ok (.bipush 8, 2) := by decide +kernel
theorem dX11_feed_44 : decode cX11_feed 44 = .ok (.if_icmp .ge 7, 3) := by decide +kernel
theorem dX11_feed_47 : decode cX11_feed 47 = .ok (.iload_n 2, 1) := by decide +kernel
theorem dX11_feed_48 : decode cX11_feed 48 = .ok (.goto 28, 3) := by decide +kernel
theorem dX11_feed_51 : decode cX11_feed 51 = .ok (.iload 6, 2) := by decide +kernel
theorem dX11_feed_53 : decode cX11_feed 53 = .ok (.bipush 12, 2) := by decide +kernel
theorem dX11_feed_55 : decode cX11_feed 55 = .ok (.if_icmp .ge 7, 3) := by decide +kernel
theorem dX11_feed_58 : decode cX11_feed 58 = .ok (.iload_n 3, 1) := by decide +kernel
theorem dX11_feed_59 : decode cX11_feed 59 = .ok (.goto 17, 3) := by decide +kernel
theorem dX11_feed_62 : decode cX11_feed 62 = .ok (.iload 6, 2) := by decide +kernel
theorem dX11_feed_64 : decode cX11_feed 64 = .ok (.bipush 16, 2) := by decide +kernel
theorem dX11_feed_66 : decode cX11_feed 66 = .ok (.if_icmp .ge 8, 3) := by decide +kernel
theorem dX11_feed_69 : decode cX11_feed 69 = .ok (.iload 4, 2) := by decide +kernel
theorem dX11_feed_71 : decode cX11_feed 71 = .ok (.goto 5, 3) := by decide +kernel
theorem dX11_feed_74 : decode cX11_feed 74 = .ok (.iload 5, 2) := by decide +kernel
theorem dX11_feed_76 : decode cX11_feed 76 = .ok (.istore 7, 2) := by decide +kernel
theorem dX11_feed_78 : decode cX11_feed 78 = .ok (.aload_n 0, 1) := by decide +kernel
theorem dX11_feed_79 : decode cX11_feed 79 = .ok (.getfield 17, 3) := by decide +kernel
theorem dX11_feed_82 : decode cX11_feed 82 = .ok (.aload_n 0, 1) := by decide +kernel
theorem dX11_feed_83 : decode cX11_feed 83 = .ok (.getfield 189, 3) := by decide +kernel
theorem dX11_feed_86 : decode cX11_feed 86 = .ok (.iload 7, 2) := by decide +kernel
theorem dX11_feed_88 : decode cX11_feed 88 = .ok (.bipush 24, 2) := by decide +kernel
theorem dX11_feed_90 : decode cX11_feed 90 = .ok (.bipush 8, 2) := by decide +kernel
theorem dX11_feed_92 : decode cX11_feed 92 = .ok (.iload 6, 2) := by decide +kernel
theorem dX11_feed_94 : decode cX11_feed 94 = .ok (.iconst 4, 1) := by decide +kernel
theorem dX11_feed_95 : decode cX11_feed 95 = .ok (.irem, 1) := by decide +kernel
theorem dX11_feed_96 : decode cX11_feed 96 = .ok (.imul, 1) := by decide +kernel
theorem dX11_feed_97 : decode cX11_feed 97 = .ok (.isub, 1) := by decide +kernel
theorem dX11_feed_98 : decode cX11_feed 98 = .ok (.ishr, 1) := by decide +kernel
theorem dX11_feed_99 : decode cX11_feed 99 = .ok (.sipush 255, 3) := by decide +kernel
theorem dX11_feed_102 : decode cX11_feed 102 = .ok (.iand, 1) := by decide +kernel
theorem dX11_feed_103 : decode cX11_feed 103 = .ok (.iastore, 1) := by decide +kernel
theorem dX11_feed_104 : decode cX11_feed 104 = .ok (.aload_n 0, 1) := by decide +kernel
theorem dX11_feed_105 : decode cX11_feed 105 = .ok (.dup, 1) := by decide +kernel
theorem dX11_feed_106 : decode cX11_feed 106 = .ok (.getfield 189, 3) := by decide +kernel
theorem dX11_feed_109 : decode cX11_feed 109 = .ok (.iconst 1, 1) := by decide +kernel
theorem dX11_feed_110 : decode cX11_feed 110 = .ok (.iadd, 1) := by decide +kernel
theorem dX11_feed_111 : decode cX11_feed 111 = .ok (.putfield 189, 3) := by decide +kernel
theorem dX11_feed_114 : decode cX11_feed 114 = .ok (.iinc 6 1, 3) := by decide +kernel
theorem dX11_feed_117 : decode cX11_feed 117 = .ok (.goto (-94), 3) := by decide +kernel
theorem dX11_feed_120 : decode cX11_feed 120 = .ok (.aload_n 0, 1) := by decide +kernel
theorem dX11_feed_121 : decode cX11_feed 121 = .ok (.getfield 189, 3) := by decide +kernel
theorem dX11_feed_124 : decode cX11_feed 124 = .ok (.ireturn, 1) := by decide +kernel
theorem dX11_byteAt_0 : decode cX11_byteAt 0 = .ok (.iload_n 1, 1) := by decide +kernel
theorem dX11_byteAt_1 : decode cX11_byteAt 1 = .ok (.aload_n 0, 1) := by decide +kernel
theorem dX11_byteAt_2 : decode cX11_byteAt 2 = .ok (.getfield 192, 3) := by decide +kernel
theorem dX11_byteAt_5 : decode cX11_byteAt 5 = .ok (.if_icmp .lt 7, 3) := by decide +kernel
theorem dX11_byteAt_8 : decode cX11_byteAt 8 = .ok (.iconst (-1), 1) := by decide +kernel
theorem dX11_byteAt_9 : decode cX11_byteAt 9 = .ok (.goto 9, 3) := by decide +kernel
theorem dX11_byteAt_12 : decode cX11_byteAt 12 = .ok (.aload_n 0, 1) := by decide +kernel
theorem dX11_byteAt_13 : decode cX11_byteAt 13 = .ok (.getfield 17, 3) := by decide +kernel
theorem dX11_byteAt_16 : decode cX11_byteAt 16 = .ok (.iload_n 1, 1) := by decide +kernel
theorem dX11_byteAt_17 : decode cX11_byteAt 17 = .ok (.iaload, 1) := by decide +kernel
theorem dX11_byteAt_18 : decode cX11_byteAt 18 = .ok (.ireturn, 1) := by decide +kernel
theorem dX11_here_0 : decode cX11_here 0 = .ok (.aload_n 0, 1) := by decide +kernel
theorem dX11_here_1 : decode cX11_here 1 = .ok (.aload_n 0, 1) := by decide +kernel
theorem dX11_here_2 : decode cX11_here 2 = .ok (.getfield 195, 3) := by decide +kernel
theorem dX11_here_5 : decode cX11_here 5 = .ok (.invokevirtual 198, 3) := by decide +kernel
theorem dX11_here_8 : decode cX11_here 8 = .ok (.bipush 32, 2) := by decide +kernel
theorem dX11_here_10 : decode cX11_here 10 = .ok (.if_icmp .ne 16, 3) := by decide +kernel
theorem dX11_here_13 : decode cX11_here 13 = .ok (.aload_n 0, 1) := by decide +kernel
theorem dX11_here_14 : decode cX11_here 14 = .ok (.dup, 1) := by decide +kernel
theorem dX11_here_15 : decode cX11_here 15 = .ok (.getfield 195, 3) := by decide +kernel
theorem dX11_here_18 : decode cX11_here 18 = .ok (.iconst 1, 1) := by decide +kernel
theorem dX11_here_19 : decode cX11_here 19 = .ok (.iadd, 1) := by decide +kernel
theorem dX11_here_20 : decode cX11_here 20 = .ok (.putfield 195, 3) := by decide +kernel
theorem dX11_here_23 : decode cX11_here 23 = .ok (.goto (-23), 3) := by decide +kernel
theorem dX11_here_26 : decode cX11_here 26 = .ok (.aload_n 0, 1) := by decide +kernel
theorem dX11_here_27 : decode cX11_here 27 = .ok (.aload_n 0, 1) := by decide +kernel
theorem dX11_here_28 : decode cX11_here 28 = .ok (.getfield 195, 3) := by decide +kernel
theorem dX11_here_31 : decode cX11_here 31 = .ok (.invokevirtual 198, 3) := by decide +kernel
theorem dX11_here_34 : decode cX11_here 34 = .ok (.ireturn, 1) := by decide +kernel
theorem dX11_fine_0 : decode cX11_fine 0 = .ok (.aload_n 0, 1) := by decide +kernel
theorem dX11_fine_1 : decode cX11_fine 1 = .ok (.getfield 202, 3) := by decide +kernel
theorem dX11_fine_4 : decode cX11_fine 4 = .ok (.ifCond .ne 7, 3) := by decide +kernel
theorem dX11_fine_7 : decode cX11_fine 7 = .ok (.iconst 1, 1) := by decide +kernel
theorem dX11_fine_8 : decode cX11_fine 8 = .ok (.goto 4, 3) := by decide +kernel
theorem dX11_fine_11 : decode cX11_fine 11 = .ok (.iconst 0, 1) := by decide +kernel
theorem dX11_fine_12 : decode cX11_fine 12 = .ok (.ireturn, 1) := by decide +kernel
theorem dX11_wrong_0 : decode cX11_wrong 0 = .ok (.aload_n 0, 1) := by decide +kernel
theorem dX11_wrong_1 : decode cX11_wrong 1 = .ok (.getfield 202, 3) := by decide +kernel
theorem dX11_wrong_4 : decode cX11_wrong 4 = .ok (.ifCond .ne 13, 3) := by decide +kernel
theorem dX11_wrong_7 : decode cX11_wrong 7 = .ok (.aload_n 0, 1) := by decide +kernel
theorem dX11_wrong_8 : decode cX11_wrong 8 = .ok (.iload_n 1, 1) := by decide +kernel
theorem dX11_wrong_9 : decode cX11_wrong 9 = .ok (.putfield 202, 3) := by decide +kernel
theorem dX11_wrong_12 : decode cX11_wrong 12 = .ok (.aload_n 0, 1) := by decide +kernel
theorem dX11_wrong_13 : decode cX11_wrong 13 = .ok (.iload_n 2, 1) := by decide +kernel
theorem dX11_wrong_14 : decode cX11_wrong 14 = .ok (.putfield 205, 3) := by decide +kernel
theorem dX11_wrong_17 : decode cX11_wrong 17 = .ok (.return_, 1) := by decide +kernel
theorem dX11_isDigit_0 : decode cX11_isDigit 0 = .ok (.iload_n 0, 1) := by decide +kernel
theorem dX11_isDigit_1 : decode cX11_isDigit 1 = .ok (.bipush 48, 2) := by decide +kernel
theorem dX11_isDigit_3 : decode cX11_isDigit 3 = .ok (.if_icmp .lt 13, 3) := by decide +kernel
theorem dX11_isDigit_6 : decode cX11_isDigit 6 = .ok (.iload_n 0, 1) := by decide +kernel
theorem dX11_isDigit_7 : decode cX11_isDigit 7 = .ok (.bipush 57, 2) := by decide +kernel
theorem dX11_isDigit_9 : decode cX11_isDigit 9 = .ok (.if_icmp .gt 7, 3) := by decide +kernel
theorem dX11_isDigit_12 : decode cX11_isDigit 12 = .ok (.iconst 1, 1) := by decide +kernel
theorem dX11_isDigit_13 : decode cX11_isDigit 13 = .ok (.goto 4, 3) := by decide +kernel
theorem dX11_isDigit_16 : decode cX11_isDigit 16 = .ok (.iconst 0, 1) := by decide +kernel
theorem dX11_isDigit_17 : decode cX11_isDigit 17 = .ok (.ireturn, 1) := by decide +kernel
theorem dX11_isSmall_0 : decode cX11_isSmall 0 = .ok (.iload_n 0, 1) := by decide +kernel
theorem dX11_isSmall_1 : decode cX11_isSmall 1 = .ok (.bipush 97, 2) := by decide +kernel
theorem dX11_isSmall_3 : decode cX11_isSmall 3 = .ok (.if_icmp .lt 13, 3) := by decide +kernel
theorem dX11_isSmall_6 : decode cX11_isSmall 6 = .ok (.iload_n 0, 1) := by decide +kernel
theorem dX11_isSmall_7 : decode cX11_isSmall 7 = .ok (.bipush 122, 2) := by decide +kernel
theorem dX11_isSmall_9 : decode cX11_isSmall 9 = .ok (.if_icmp .gt 7, 3) := by decide +kernel
theorem dX11_isSmall_12 : decode cX11_isSmall 12 = .ok (.iconst 1, 1) := by decide +kernel
theorem dX11_isSmall_13 : decode cX11_isSmall 13 = .ok (.goto 4, 3) := by decide +kernel
theorem dX11_isSmall_16 : decode cX11_isSmall 16 = .ok (.iconst 0, 1) := by decide +kernel
theorem dX11_isSmall_17 : decode cX11_isSmall 17 = .ok (.ireturn, 1) := by decide +kernel
theorem dX11_number_0 : decode cX11_number 0 = .ok (.aload_n 0, 1) := by decide +kernel
theorem dX11_number_1 : decode cX11_number 1 = .ok (.invokevirtual 208, 3) := by decide +kernel
theorem dX11_number_4 : decode cX11_number 4 = .ok (.ifCond .ne 5, 3) := by decide +kernel
theorem dX11_number_7 : decode cX11_number 7 = .ok (.iload_n 1, 1) := by decide +kernel
theorem dX11_number_8 : decode cX11_number 8 = .ok (.ireturn, 1) := by decide +kernel
theorem dX11_number_9 : decode cX11_number 9 = .ok (.aload_n 0, 1) := by decide +kernel
theorem dX11_number_10 : decode cX11_number 10 = .ok (.invokevirtual 212, 3) := by decide +kernel
theorem dX11_number_13 : decode cX11_number 13 = .ok (.invokestatic 216, 3) := by decide +kernel
theorem dX11_number_16 : decode cX11_number 16 = .ok (.ifCond .ne 12, 3) := by decide +kernel
theorem dX11_number_19 : decode cX11_number 19 = .ok (.aload_n 0, 1) := by decide +kernel
theorem dX11_number_20 : decode cX11_number 20 = .ok (.iconst 1, 1) := by decide +kernel
theorem dX11_number_21 : decode cX11_number 21 = .ok (.aload_n 0, 1) := by decide +kernel
theorem dX11_number_22 : decode cX11_number 22 = .ok (.getfield 195, 3) := by decide +kernel
theorem dX11_number_25 : decode cX11_number 25 = .ok (.invokevirtual 219, 3) := by decide +kernel
theorem dX11_number_28 : decode cX11_number 28 = .ok (.aload_n 0, 1) := by decide +kernel
theorem dX11_number_29 : decode cX11_number 29 = .ok (.aload_n 0, 1) := by decide +kernel
theorem dX11_number_30 : decode cX11_number 30 = .ok (.getfield 195, 3) := by decide +kernel
theorem dX11_number_33 : decode cX11_number 33 = .ok (.putfield 223, 3) := by decide +kernel
theorem dX11_number_36 : decode cX11_number 36 = .ok (.iconst 0, 1) := by decide +kernel
theorem dX11_number_37 : decode cX11_number 37 = .ok (.istore_n 3, 1) := by decide +kernel
theorem dX11_number_38 : decode cX11_number 38 = .ok (.aload_n 0, 1) := by decide +kernel
theorem dX11_number_39 : decode cX11_number 39 = .ok (.aload_n 0, 1) := by decide +kernel
theorem dX11_number_40 : decode cX11_number 40 = .ok (.getfield 195, 3) := by decide +kernel
theorem dX11_number_43 : decode cX11_number 43 = .ok (.invokevirtual 198, 3) := by decide +kernel
theorem dX11_number_46 : decode cX11_number 46 = .ok (.invokestatic 216, 3) := by decide +kernel
theorem dX11_number_49 : decode cX11_number 49 = .ok (.ifCond .eq 38, 3) := by decide +kernel
theorem dX11_number_52 : decode cX11_number 52 = .ok (.ldc 226, 2) := by decide +kernel
theorem dX11_number_54 : decode cX11_number 54 = .ok (.bipush 10, 2) := by decide +kernel
theorem dX11_number_56 : decode cX11_number 56 = .ok (.iload_n 3, 1) := by decide +kernel
theorem dX11_number_57 : decode cX11_number 57 = .ok (.imul, 1) := by decide +kernel
theorem dX11_number_58 : decode cX11_number 58 = .ok (.aload_n 0, 1) := by decide +kernel
theorem dX11_number_59 : decode cX11_number 59 = .ok (.aload_n 0, 1) := by decide +kernel
theorem dX11_number_60 : decode cX11_number 60 = .ok (.getfield 195, 3) := by decide +kernel
theorem dX11_number_63 : decode cX11_number 63 = .ok (.invokevirtual 198, 3) := by decide +kernel
theorem dX11_number_66 : decode cX11_number 66 = .ok (.iadd, 1) := by decide +kernel
theorem dX11_number_67 : decode cX11_number 67 = .ok (.bipush 48, 2) := by decide +kernel
theorem dX11_number_69 : decode cX11_number 69 = .ok (.isub, 1) := by decide +kernel
theorem dX11_number_70 : decode cX11_number 70 = .ok (.invokestatic 227, 3) := by decide +kernel
theorem dX11_number_73 : decode cX11_number 73 = .ok (.istore_n 3, 1) := by decide +kernel
theorem dX11_number_74 : decode cX11_number 74 = .ok (.aload_n 0, 1) := by decide +kernel
theorem dX11_number_75 : decode cX11_number 75 = .ok (.dup, 1) := by decide +kernel
theorem dX11_number_76 : decode cX11_number 76 = .ok (.getfield 195, 3) := by decide +kernel
theorem dX11_number_79 : decode cX11_number 79 = .ok (.iconst 1, 1) := by decide +kernel
theorem dX11_number_80 : decode cX11_number 80 = .ok (.iadd, 1) := by decide +kernel
theorem dX11_number_81 : decode cX11_number 81 = .ok (.putfield 195, 3) := by decide +kernel
theorem dX11_number_84 : decode cX11_number 84 = .ok (.goto (-46), 3) := by decide +kernel
theorem dX11_number_87 : decode cX11_number 87 = .ok (.iload_n 3, 1) := by decide +kernel
theorem dX11_number_88 : decode cX11_number 88 = .ok (.iload_n 1, 1) := by decide +kernel
theorem dX11_number_89 : decode cX11_number 89 = .ok (.iload_n 2, 1) := by decide +kernel
theorem dX11_number_90 : decode cX11_number 90 = .ok (.invokestatic 162, 3) := by decide +kernel
theorem dX11_number_93 : decode cX11_number 93 = .ok (.ifCond .ne 12, 3) := by decide +kernel
theorem dX11_number_96 : decode cX11_number 96 = .ok (.aload_n 0, 1) := by decide +kernel
theorem dX11_number_97 : decode cX11_number 97 = .ok (.iconst 2, 1) := by decide +kernel
theorem dX11_number_98 : decode cX11_number 98 = .ok (.aload_n 0, 1) := by decide +kernel
theorem dX11_number_99 : decode cX11_number 99 = .ok (.getfield 223, 3) := by decide +kernel
theorem dX11_number_102 : decode cX11_number 102 = .ok (.invokevirtual 219, 3) := by decide +kernel
theorem dX11_number_105 : decode cX11_number 105 = .ok (.aload_n 0, 1) := by decide +kernel
theorem dX11_number_106 : decode cX11_number 106 = .ok (.invokevirtual 208, 3) := by decide +kernel
theorem dX11_number_109 : decode cX11_number 109 = .ok (.ifCond .eq 7, 3) := by decide +kernel
theorem dX11_number_112 : decode cX11_number 112 = .ok (.iload_n 3, 1) := by decide +kernel
theorem dX11_number_113 : decode cX11_number 113 = .ok (.goto 4, 3) := by decide +kernel
theorem dX11_number_116 : decode cX11_number 116 = .ok (.iload_n 1, 1) := by decide +kernel
theorem dX11_number_117 : decode cX11_number 117 = .ok (.ireturn, 1) := by decide +kernel
theorem dX11_wordHere_0 : decode cX11_wordHere 0 = .ok (.aload_n 0, 1) := by decide +kernel
theorem dX11_wordHere_1 : decode cX11_wordHere 1 = .ok (.invokevirtual 212, 3) := by decide +kernel
theorem dX11_wordHere_4 : decode cX11_wordHere 4 = .ok (.pop, 1) := by decide +kernel
theorem dX11_wordHere_5 : decode cX11_wordHere 5 = .ok (.iconst 0, 1) := by decide +kernel
theorem dX11_wordHere_6 : decode cX11_wordHere 6 = .ok (.istore_n 1, 1) := by decide +kernel
theorem dX11_wordHere_7 : decode cX11_wordHere 7 = .ok (.iconst 0, 1) := by decide +kernel
theorem dX11_wordHere_8 : decode cX11_wordHere 8 = .ok (.istore_n 2, 1) := by decide +kernel
theorem dX11_wordHere_9 : decode cX11_wordHere 9 = .ok (.aload_n 0, 1) := by decide +kernel
theorem dX11_wordHere_10 : decode cX11_wordHere 10 = .ok (.aload_n 0, 1) := by decide +kernel
theorem dX11_wordHere_11 : decode cX11_wordHere 11 = .ok (.getfield 195, 3) := by decide +kernel
theorem dX11_wordHere_14 : decode cX11_wordHere 14 = .ok (.iload_n 2, 1) := by decide +kernel
theorem dX11_wordHere_15 : decode cX11_wordHere 15 = .ok (.iadd, 1) := by decide +kernel
theorem dX11_wordHere_16 : decode cX11_wordHere 16 = .ok (.invokevirtual 198, 3) := by decide +kernel
theorem dX11_wordHere_19 : decode cX11_wordHere 19 = .ok (.invokestatic 230, 3) := by decide +kernel
theorem dX11_wordHere_22 : decode cX11_wordHere 22 = .ok (.ifCond .eq 40, 3) := by decide +kernel
theorem dX11_wordHere_25 : decode cX11_wordHere 25 = .ok (.iload_n 2, 1) := by decide +kernel
theorem dX11_wordHere_26 : decode cX11_wordHere 26 = .ok (.bipush 6, 2) := by decide +kernel
theorem dX11_wordHere_28 : decode cX11_wordHere 28 = .ok (.if_icmp .ge 26, 3) := by decide +kernel
theorem dX11_wordHere_31 : decode cX11_wordHere 31 = .ok (.bipush 27, 2) := by decide +kernel
theorem dX11_wordHere_33 : decode cX11_wordHere 33 = .ok (.iload_n 1, 1) := by decide +kernel
theorem dX11_wordHere_34 : decode cX11_wordHere 34 = .ok (.imul, 1) := by decide +kernel
theorem dX11_wordHere_35 : decode cX11_wordHere 35 = .ok (.aload_n 0, 1) := by decide +kernel
theorem dX11_wordHere_36 : decode cX11_wordHere 36 = .ok (.aload_n 0, 1) := by decide +kernel
theorem dX11_wordHere_37 : decode cX11_wordHere 37 = .ok (.getfield 195, 3) := by decide +kernel
theorem dX11_wordHere_40 : decode cX11_wordHere 40 = .ok (.iload_n 2, 1) := by decide +kernel
theorem dX11_wordHere_41 : decode cX11_wordHere 41 = .ok (.iadd, 1) := by decide +kernel
theorem dX11_wordHere_42 : decode cX11_wordHere 42 = .ok (.invokevirtual 198, 3) := by decide +kernel
theorem dX11_wordHere_45 : decode cX11_wordHere 45 = .ok (.iadd, 1) := by decide +kernel
theorem dX11_wordHere_46 : decode cX11_wordHere 46 = .ok (.bipush 97, 2) := by decide +kernel
theorem dX11_wordHere_48 : decode cX11_wordHere 48 = .ok (.isub, 1) := by decide +kernel
theorem dX11_wordHere_49 : decode cX11_wordHere 49 = .ok (.iconst 1, 1) := by decide +kernel
theorem dX11_wordHere_50 : decode cX11_wordHere 50 = .ok (.iadd, 1) := by decide +kernel
theorem dX11_wordHere_51 : decode cX11_wordHere 51 = .ok (.goto 4, 3) := by decide +kernel
theorem dX11_wordHere_54 : decode cX11_wordHere 54 = .ok (.iload_n 1, 1) := by decide +kernel
theorem dX11_wordHere_55 : decode cX11_wordHere 55 = .ok (.istore_n 1, 1) := by decide +kernel
theorem dX11_wordHere_56 : decode cX11_wordHere 56 = .ok (.iinc 2 1, 3) := by decide +kernel
theorem dX11_wordHere_59 : decode cX11_wordHere 59 = .ok (.goto (-50), 3) := by decide +kernel
theorem dX11_wordHere_62 : decode cX11_wordHere 62 = .ok (.iload_n 2, 1) := by decide +kernel
theorem dX11_wordHere_63 : decode cX11_wordHere 63 = .ok (.ifCond .eq 9, 3) := by decide +kernel
theorem dX11_wordHere_66 : decode cX11_wordHere 66 = .ok (.iload_n 2, 1) := by decide +kernel
theorem dX11_wordHere_67 : decode cX11_wordHere 67 = .ok (.bipush 6, 2) := by decide +kernel
theorem dX11_wordHere_69 : decode cX11_wordHere 69 = .ok (.if_icmp .le 7, 3) := by decide +kernel
theorem dX11_wordHere_72 : decode cX11_wordHere 72 = .ok (.iconst (-1), 1) := by decide +kernel
theorem dX11_wordHere_73 : decode cX11_wordHere 73 = .ok (.goto 4, 3) := by decide +kernel
theorem dX11_wordHere_76 : decode cX11_wordHere 76 = .ok (.iload_n 1, 1) := by decide +kernel
theorem dX11_wordHere_77 : decode cX11_wordHere 77 = .ok (.ireturn, 1) := by decide +kernel
theorem dX11_coded_0 : decode cX11_coded 0 = .ok (.iconst 0, 1) := by decide +kernel
theorem dX11_coded_1 : decode cX11_coded 1 = .ok (.istore_n 1, 1) := by decide +kernel
theorem dX11_coded_2 : decode cX11_coded 2 = .ok (.iconst 0, 1) := by decide +kernel
theorem dX11_coded_3 : decode cX11_coded 3 = .ok (.istore_n 2, 1) := by decide +kernel
theorem dX11_coded_4 : decode cX11_coded 4 = .ok (.iload_n 2, 1) := by decide +kernel
theorem dX11_coded_5 : decode cX11_coded 5 = .ok (.aload_n 0, 1) := by decide +kernel
theorem dX11_coded_6 : decode cX11_coded 6 = .ok (.invokevirtual 233, 3) := by decide +kernel
theorem dX11_coded_9 : decode cX11_coded 9 = .ok (.if_icmp .ge 25, 3) := by decide +kernel
theorem dX11_coded_12 : decode cX11_coded 12 = .ok (.bipush 27, 2) := by decide +kernel
theorem dX11_coded_14 : decode cX11_coded 14 = .ok (.iload_n 1, 1) := by decide +kernel
theorem dX11_coded_15 : decode cX11_coded 15 = .ok (.imul, 1) := by decide +kernel
theorem dX11_coded_16 : decode cX11_coded 16 = .ok (.aload_n 0, 1) := by decide +kernel
theorem dX11_coded_17 : decode cX11_coded 17 = .ok (.iload_n 2, 1) := by decide +kernel
theorem dX11_coded_18 : decode cX11_coded 18 = .ok (.invokevirtual 238, 3) := by decide +kernel
theorem dX11_coded_21 : decode cX11_coded 21 = .ok (.iadd, 1) := by decide +kernel
theorem dX11_coded_22 : decode cX11_coded 22 = .ok (.bipush 97, 2) := by decide +kernel
theorem dX11_coded_24 : decode cX11_coded 24 = .ok (.isub, 1) := by decide +kernel
theorem dX11_coded_25 : decode cX11_coded 25 = .ok (.iconst 1, 1) := by decide +kernel
theorem dX11_coded_26 : decode cX11_coded 26 = .ok (.iadd, 1) := by decide +kernel
theorem dX11_coded_27 : decode cX11_coded 27 = .ok (.istore_n 1, 1) := by decide +kernel
theorem dX11_coded_28 : decode cX11_coded 28 = .ok (.iinc 2 1, 3) := by decide +kernel
theorem dX11_coded_31 : decode cX11_coded 31 = .ok (.goto (-27), 3) := by decide +kernel
theorem dX11_coded_34 : decode cX11_coded 34 = .ok (.iload_n 1, 1) := by decide +kernel
theorem dX11_coded_35 : decode cX11_coded 35 = .ok (.ireturn, 1) := by decide +kernel
theorem dX11_takes_0 : decode cX11_takes 0 = .ok (.aload_n 0, 1) := by decide +kernel
theorem dX11_takes_1 : decode cX11_takes 1 = .ok (.invokevirtual 208, 3) := by decide +kernel
theorem dX11_takes_4 : decode cX11_takes 4 = .ok (.ifCond .eq 14, 3) := by decide +kernel
theorem dX11_takes_7 : decode cX11_takes 7 = .ok (.aload_n 0, 1) := by decide +kernel
theorem dX11_takes_8 : decode cX11_takes 8 = .ok (.invokevirtual 242, 3) := by decide +kernel
theorem dX11_takes_11 : decode cX11_takes 11 = .ok (.aload_n 1, 1) := by decide +kernel
theorem dX11_takes_12 : decode cX11_takes 12 = .ok (.invokestatic 245, 3) := by decide +kernel
theorem dX11_takes_15 : decode cX11_takes 15 = .ok (.if_icmp .eq 5, 3) := by decide +kernel
theorem dX11_takes_18 : decode cX11_takes 18 = .ok (.iconst 0, 1) := by decide +kernel
theorem dX11_takes_19 : decode cX11_takes 19 = .ok (.ireturn, 1) := by decide +kernel
theorem dX11_takes_20 : decode cX11_takes 20 = .ok (.aload_n 0, 1) := by decide +kernel
theorem dX11_takes_21 : decode cX11_takes 21 = .ok (.dup, 1) := by decide +kernel
theorem dX11_takes_22 : decode cX11_takes 22 = .ok (.getfield 195, 3) := by decide +kernel
theorem dX11_takes_25 : decode cX11_takes 25 = .ok (.aload_n 1, 1) := by decide +kernel
theorem dX11_takes_26 : decode cX11_takes 26 = .ok (.invokevirtual 233, 3) := by decide +kernel
theorem dX11_takes_29 : decode cX11_takes 29 = .ok (.iadd, 1) := by decide +kernel
theorem dX11_takes_30 : decode cX11_takes 30 = .ok (.putfield 195, 3) := by decide +kernel
theorem dX11_takes_33 : decode cX11_takes 33 = .ok (.iconst 1, 1) := by decide +kernel
theorem dX11_takes_34 : decode cX11_takes 34 = .ok (.ireturn, 1) := by decide +kernel
theorem dX11_sign_0 : decode cX11_sign 0 = .ok (.aload_n 0, 1) := by decide +kernel
theorem dX11_sign_1 : decode cX11_sign 1 = .ok (.invokevirtual 208, 3) := by decide +kernel
theorem dX11_sign_4 : decode cX11_sign 4 = .ok (.ifCond .ne 4, 3) := by decide +kernel
theorem dX11_sign_7 : decode cX11_sign 7 = .ok (.return_, 1) := by decide +kernel
theorem dX11_sign_8 : decode cX11_sign 8 = .ok (.aload_n 0, 1) := by decide +kernel
theorem dX11_sign_9 : decode cX11_sign 9 = .ok (.invokevirtual 212, 3) := by decide +kernel
theorem dX11_sign_12 : decode cX11_sign 12 = .ok (.iload_n 1, 1) := by decide +kernel
theorem dX11_sign_13 : decode cX11_sign 13 = .ok (.if_icmp .ne 16, 3) := by decide +kernel
theorem dX11_sign_16 : decode cX11_sign 16 = .ok (.aload_n 0, 1) := by decide +kernel
theorem dX11_sign_17 : decode cX11_sign 17 = .ok (.dup, 1) := by decide +kernel
theorem dX11_sign_18 : decode cX11_sign 18 = .ok (.getfield 195, 3) := by decide +kernel
theorem dX11_sign_21 : decode cX11_sign 21 = .ok (.iconst 1, 1) := by decide +kernel
theorem dX11_sign_22 : decode cX11_sign 22 = .ok (.iadd, 1) := by decide +kernel
theorem dX11_sign_23 : decode cX11_sign 23 = .ok (.putfield 195, 3) := by decide +kernel
theorem dX11_sign_26 : decode cX11_sign 26 = .ok (.goto 12, 3) := by decide +kernel
theorem dX11_sign_29 : decode cX11_sign 29 = .ok (.aload_n 0, 1) := by decide +kernel
theorem dX11_sign_30 : decode cX11_sign 30 = .ok (.iconst 1, 1) := by decide +kernel
theorem dX11_sign_31 : decode cX11_sign 31 = .ok (.aload_n 0, 1) := by decide +kernel
theorem dX11_sign_32 : decode cX11_sign 32 = .ok (.getfield 195, 3) := by decide +kernel
theorem dX11_sign_35 : decode cX11_sign 35 = .ok (.invokevirtual 219, 3) := by decide +kernel
theorem dX11_sign_38 : decode cX11_sign 38 = .ok (.return_, 1) := by decide +kernel
theorem dX11_valueHere_0 : decode cX11_valueHere 0 = .ok (.aload_n 0, 1) := by decide +kernel
theorem dX11_valueHere_1 : decode cX11_valueHere 1 = .ok (.invokevirtual 208, 3) := by decide +kernel
theorem dX11_valueHere_4 : decode cX11_valueHere 4 = .ok (.ifCond .ne 5, 3) := by decide +kernel
theorem dX11_valueHere_7 : decode cX11_valueHere 7 = .ok (.iconst 0, 1) := by decide +kernel
theorem dX11_valueHere_8 : decode cX11_valueHere 8 = .ok (.ireturn, 1) := by decide +kernel
theorem dX11_valueHere_9 : decode cX11_valueHere 9 = .ok (.aload_n 0, 1) := by decide +kernel
theorem dX11_valueHere_10 : decode cX11_valueHere 10 = .ok (.invokevirtual 212, 3) := by decide +kernel
theorem dX11_valueHere_13 : decode cX11_valueHere 13 = .ok (.bipush 45, 2) := by decide +kernel
theorem dX11_valueHere_15 : decode cX11_valueHere 15 = .ok (.if_icmp .ne 7, 3) := by decide +kernel
theorem dX11_valueHere_18 : decode cX11_valueHere 18 = .ok (.iconst 1, 1) := by decide +kernel
theorem dX11_valueHere_19 : decode cX11_valueHere 19 = .ok (.goto 4, 3) := by decide +kernel
theorem dX11_valueHere_22 : decode cX11_valueHere 22 = .ok (.iconst 0, 1) := by decide +kernel
theorem dX11_valueHere_23 : decode cX11_valueHere 23 = .ok (.istore_n 1, 1) := by decide +kernel
theorem dX11_valueHere_24 : decode cX11_valueHere 24 = .ok (.iload_n 1, 1) := by decide +kernel
theorem dX11_valueHere_25 : decode cX11_valueHere 25 = .ok (.ifCond .eq 13, 3) := by decide +kernel
theorem dX11_valueHere_28 : decode cX11_valueHere 28 = .ok (.aload_n 0, 1) := by decide +kernel
theorem dX11_valueHere_29 : decode cX11_valueHere 29 = .ok (.dup, 1) := by decide +kernel
theorem dX11_valueHere_30 : decode cX11_valueHere 30 = .ok (.getfield 195, 3) := by decide +kernel
theorem dX11_valueHere_33 : decode cX11_valueHere 33 = .ok (.iconst 1, 1) := by decide +kernel
theorem dX11_valueHere_34 : decode cX11_valueHere 34 = .ok (.iadd, 1) := by decide +kernel
theorem dX11_valueHere_35 : decode cX11_valueHere 35 = .ok (.putfield 195, 3) := by decide +kernel
theorem dX11_valueHere_38 : decode cX11_valueHere 38 = .ok (.aload_n 0, 1) := by decide +kernel
theorem dX11_valueHere_39 : decode cX11_valueHere 39 = .ok (.iconst 0, 1) := by decide +kernel
theorem dX11_valueHere_40 : decode cX11_valueHere 40 = .ok (.ldc 184, 2) := by decide +kernel
theorem dX11_valueHere_42 : decode cX11_valueHere 42 = .ok (.invokevirtual 249, 3) := by decide +kernel
theorem dX11_valueHere_45 : decode cX11_valueHere 45 = .ok (.istore_n 2, 1) := by decide +kernel
theorem dX11_valueHere_46 : decode cX11_valueHere 46 = .ok (.iconst 1, 1) := by decide +kernel
theorem dX11_valueHere_47 : decode cX11_valueHere 47 = .ok (.istore_n 3, 1) := by decide +kernel
theorem dX11_valueHere_48 : decode cX11_valueHere 48 = .ok (.aload_n 0, 1) := by decide +kernel
theorem dX11_valueHere_49 : decode cX11_valueHere 49 = .ok (.invokevirtual 208, 3) := by decide +kernel
theorem dX11_valueHere_52 : decode cX11_valueHere 52 = .ok (.ifCond .eq 31, 3) := by decide +kernel
theorem dX11_valueHere_55 : decode cX11_valueHere 55 = .ok (.aload_n 0, 1) := by decide +kernel
theorem dX11_valueHere_56 : decode cX11_valueHere 56 = .ok (.invokevirtual 212, 3) := by decide +kernel
theorem dX11_valueHere_59 : decode cX11_valueHere 59 = .ok (.bipush 47, 2) := by decide +kernel
theorem dX11_valueHere_61 : decode cX11_valueHere 61 = .ok (.if_icmp .ne 22, 3) := by decide +kernel
theorem dX11_valueHere_64 : decode cX11_valueHere 64 = .ok (.aload_n 0, 1) := by decide +kernel
theorem dX11_valueHere_65 : decode cX11_valueHere 65 = .ok (.dup, 1) := by decide +kernel
theorem dX11_valueHere_66 : decode cX11_valueHere 66 = .ok (.getfield 195, 3) := by decide +kernel
theorem dX11_valueHere_69 : decode cX11_valueHere 69 = .ok (.iconst 1, 1) := by decide +kernel
theorem dX11_valueHere_70 : decode cX11_valueHere 70 = .ok (.iadd, 1) := by decide +kernel
theorem dX11_valueHere_71 : decode cX11_valueHere 71 = .ok (.putfield 195, 3) := by decide +kernel
theorem dX11_valueHere_74 : decode cX11_valueHere 74 = .ok (.aload_n 0, 1) := by decide +kernel
theorem dX11_valueHere_75 : decode cX11_valueHere 75 = .ok (.iconst 1, 1) := by decide +kernel
theorem dX11_valueHere_76 : decode cX11_valueHere 76 = .ok (.sipush 999, 3) := by decide +kernel
theorem dX11_valueHere_79 : decode cX11_valueHere 79 = .ok (.invokevirtual 249, 3) := by decide +kernel
theorem dX11_valueHere_82 : decode cX11_valueHere 82 = .ok (.istore_n 3, 1) := by decide +kernel
theorem dX11_valueHere_83 : decode cX11_valueHere 83 = .ok (.iload_n 1, 1) := by decide +kernel
theorem dX11_valueHere_84 : decode cX11_valueHere 84 = .ok (.ifCond .eq 8, 3) := by decide +kernel
theorem dX11_valueHere_87 : decode cX11_valueHere 87 = .ok (.iload_n 2, 1) := by decide +kernel
theorem dX11_valueHere_88 : decode cX11_valueHere 88 = .ok (.ineg, 1) := by decide +kernel
theorem dX11_valueHere_89 : decode cX11_valueHere 89 = .ok (.goto 4, 3) := by decide +kernel
theorem dX11_valueHere_92 : decode cX11_valueHere 92 = .ok (.iload_n 2, 1) := by decide +kernel
theorem dX11_valueHere_93 : decode cX11_valueHere 93 = .ok (.iload_n 3, 1) := by decide +kernel
theorem dX11_valueHere_94 : decode cX11_valueHere 94 = .ok (.invokestatic 185, 3) := by decide +kernel
theorem dX11_valueHere_97 : decode cX11_valueHere 97 = .ok (.ireturn, 1) := by decide +kernel
theorem dX11_actHere_0 : decode cX11_actHere 0 = .ok (.aload_n 0, 1) := by decide +kernel
theorem dX11_actHere_1 : decode cX11_actHere 1 = .ok (.ldc 252, 2) := by decide +kernel
theorem dX11_actHere_3 : decode cX11_actHere 3 = .ok (.invokevirtual 253, 3) := by decide +kernel
theorem dX11_actHere_6 : decode cX11_actHere 6 = .ok (.ifCond .eq 5, 3) := by decide +kernel
theorem dX11_actHere_9 : decode cX11_actHere 9 = .ok (.iconst 0, 1) := by decide +kernel
theorem dX11_actHere_10 : decode cX11_actHere 10 = .ok (.ireturn, 1) := by decide +kernel
theorem dX11_actHere_11 : decode cX11_actHere 11 = .ok (.aload_n 0, 1) := by decide +kernel
theorem dX11_actHere_12 : decode cX11_actHere 12 = .ok (.ldc_w 257, 3) := by decide +kernel
theorem dX11_actHere_15 : decode cX11_actHere 15 = .ok (.invokevirtual 253, 3) := by decide +kernel
theorem dX11_actHere_18 : decode cX11_actHere 18 = .ok (.ifCond .eq 5, 3) := by decide +kernel
theorem dX11_actHere_21 : decode cX11_actHere 21 = .ok (.iconst 1, 1) := by decide +kernel
theorem dX11_actHere_22 : decode cX11_actHere 22 = .ok (.ireturn, 1) := by decide +kernel
theorem dX11_actHere_23 : decode cX11_actHere 23 = .ok (.aload_n 0, 1) := by decide +kernel
theorem dX11_actHere_24 : decode cX11_actHere 24 = .ok (.ldc_w 259, 3) := by decide +kernel
theorem dX11_actHere_27 : decode cX11_actHere 27 = .ok (.invokevirtual 253, 3) := by decide +kernel
theorem dX11_actHere_30 : decode cX11_actHere 30 = .ok (.ifCond .eq 5, 3) := by decide +kernel
theorem dX11_actHere_33 : decode cX11_actHere 33 = .ok (.iconst 2, 1) := by decide +kernel
theorem dX11_actHere_34 : decode cX11_actHere 34 = .ok (.ireturn, 1) := by decide +kernel
theorem dX11_actHere_35 : decode cX11_actHere 35 = .ok (.aload_n 0, 1) := by decide +kernel
theorem dX11_actHere_36 : decode cX11_actHere 36 = .ok (.ldc_w 261, 3) := by decide +kernel
theorem dX11_actHere_39 : decode cX11_actHere 39 = .ok (.invokevirtual 253, 3) := by decide +kernel
theorem dX11_actHere_42 : decode cX11_actHere 42 = .ok (.ifCond .eq 5, 3) := by decide +kernel
theorem dX11_actHere_45 : decode cX11_actHere 45 = .ok (.iconst 3, 1) := by decide +kernel
theorem dX11_actHere_46 : decode cX11_actHere 46 = .ok (.ireturn, 1) := by decide +kernel
theorem dX11_actHere_47 : decode cX11_actHere 47 = .ok (.aload_n 0, 1) := by decide +kernel
theorem dX11_actHere_48 : decode cX11_actHere 48 = .ok (.ldc_w 263, 3) := by decide +kernel
theorem dX11_actHere_51 : decode cX11_actHere 51 = .ok (.invokevirtual 253, 3) := by decide +kernel
theorem dX11_actHere_54 : decode cX11_actHere 54 = .ok (.ifCond .ne 12, 3) := by decide +kernel
theorem dX11_actHere_57 : decode cX11_actHere 57 = .ok (.aload_n 0, 1) := by decide +kernel
theorem dX11_actHere_58 : decode cX11_actHere 58 = .ok (.iconst 1, 1) := by decide +kernel
theorem dX11_actHere_59 : decode cX11_actHere 59 = .ok (.aload_n 0, 1) := by decide +kernel
theorem dX11_actHere_60 : decode cX11_actHere 60 = .ok (.getfield 195, 3) := by decide +kernel
theorem dX11_actHere_63 : decode cX11_actHere 63 = .ok (.invokevirtual 219, 3) := by decide +kernel
theorem dX11_actHere_66 : decode cX11_actHere 66 = .ok (.iconst 4, 1) := by decide +kernel
theorem dX11_actHere_67 : decode cX11_actHere 67 = .ok (.ireturn, 1) := by decide +kernel
theorem dX11_isLieHere_0 : decode cX11_isLieHere 0 = .ok (.aload_n 0, 1) := by decide +kernel
theorem dX11_isLieHere_1 : decode cX11_isLieHere 1 = .ok (.invokevirtual 242, 3) := by decide +kernel
theorem dX11_isLieHere_4 : decode cX11_isLieHere 4 = .ok (.istore_n 1, 1) := by decide +kernel
theorem dX11_isLieHere_5 : decode cX11_isLieHere 5 = .ok (.iload_n 1, 1) := by decide +kernel
theorem dX11_isLieHere_6 : decode cX11_isLieHere 6 = .ok (.ldc_w 265, 3) := by decide +kernel
theorem dX11_isLieHere_9 : decode cX11_isLieHere 9 = .ok (.invokestatic 245, 3) := by decide +kernel
theorem dX11_isLieHere_12 : decode cX11_isLieHere 12 = .ok (.if_icmp .eq 72, 3) := by decide +kernel
theorem dX11_isLieHere_15 : decode cX11_isLieHere 15 = .ok (.iload_n 1, 1) := by decide +kernel
theorem dX11_isLieHere_16 : decode cX11_isLieHere 16 = .ok (.ldc_w 267, 3) := by decide +kernel
theorem dX11_isLieHere_19 : decode cX11_isLieHere 19 = .ok (.invokestatic 245, 3) := by decide +kernel
theorem dX11_isLieHere_22 : decode cX11_isLieHere 22 = .ok (.if_icmp .eq 62, 3) := by decide +kernel
theorem dX11_isLieHere_25 : decode cX11_isLieHere 25 = .ok (.iload_n 1, 1) := by decide +kernel
theorem dX11_isLieHere_26 : decode cX11_isLieHere 26 = .ok (.ldc_w 269, 3) := by decide +kernel
theorem dX11_isLieHere_29 : decode cX11_isLieHere 29 = .ok (.invokestatic 245, 3) := by decide +kernel
theorem dX11_isLieHere_32 : decode cX11_isLieHere 32 = .ok (.if_icmp .eq 52, 3) := by decide +kernel
theorem dX11_isLieHere_35 : decode cX11_isLieHere 35 = .ok (.iload_n 1, 1) := by decide +kernel
theorem dX11_isLieHere_36 : decode cX11_isLieHere 36 = .ok (.ldc 252, 2) := by decide +kernel
theorem dX11_isLieHere_38 : decode cX11_isLieHere 38 = .ok (.invokestatic 245, 3) := by decide +kernel
theorem dX11_isLieHere_41 : decode cX11_isLieHere 41 = .ok (.if_icmp .eq 43, 3) := by decide +kernel
theorem dX11_isLieHere_44 : decode cX11_isLieHere 44 = .ok (.iload_n 1, 1) := by decide +kernel
theorem dX11_isLieHere_45 : decode cX11_isLieHere 45 = .ok (.ldc_w 257, 3) := by decide +kernel
theorem dX11_isLieHere_48 : decode cX11_isLieHere 48 = .ok (.invokestatic 245, 3) := by decide +kernel
theorem dX11_isLieHere_51 : decode cX11_isLieHere 51 = .ok (.if_icmp .eq 33, 3) := by decide +kernel
theorem dX11_isLieHere_54 : decode cX11_isLieHere 54 = .ok (.iload_n 1, 1) := by decide +kernel
theorem dX11_isLieHere_55 : decode cX11_isLieHere 55 = .ok (.ldc_w 259, 3) := by decide +kernel
theorem dX11_isLieHere_58 : decode cX11_isLieHere 58 = .ok (.invokestatic 245, 3) := by decide +kernel
theorem dX11_isLieHere_61 : decode cX11_isLieHere 61 = .ok (.if_icmp .eq 23, 3) := by decide +kernel
theorem dX11_isLieHere_64 : decode cX11_isLieHere 64 = .ok (.iload_n 1, 1) := by decide +kernel
theorem dX11_isLieHere_65 : decode cX11_isLieHere 65 = .ok (.ldc_w 261, 3) := by decide +kernel
theorem dX11_isLieHere_68 : decode cX11_isLieHere 68 = .ok (.invokestatic 245, 3) := by decide +kernel
theorem dX11_isLieHere_71 : decode cX11_isLieHere 71 = .ok (.if_icmp .eq 13, 3) := by decide +kernel
theorem dX11_isLieHere_74 : decode cX11_isLieHere 74 = .ok (.iload_n 1, 1) := by decide +kernel
theorem dX11_isLieHere_75 : decode cX11_isLieHere 75 = .ok (.ldc_w 263, 3) := by decide +kernel
theorem dX11_isLieHere_78 : decode cX11_isLieHere 78 = .ok (.invokestatic 245, 3) := by decide +kernel
theorem dX11_isLieHere_81 : decode cX11_isLieHere 81 = .ok (.if_icmp .ne 7, 3) := by decide +kernel
theorem dX11_isLieHere_84 : decode cX11_isLieHere 84 = .ok (.iconst 1, 1) := by decide +kernel
theorem dX11_isLieHere_85 : decode cX11_isLieHere 85 = .ok (.goto 4, 3) := by decide +kernel
theorem dX11_isLieHere_88 : decode cX11_isLieHere 88 = .ok (.iconst 0, 1) := by decide +kernel
theorem dX11_isLieHere_89 : decode cX11_isLieHere 89 = .ok (.ireturn, 1) := by decide +kernel
theorem dX11_readsLie_0 : decode cX11_readsLie 0 = .ok (.aload_n 1, 1) := by decide +kernel
theorem dX11_readsLie_1 : decode cX11_readsLie 1 = .ok (.iconst 0, 1) := by decide +kernel
theorem dX11_readsLie_2 : decode cX11_readsLie 2 = .ok (.aload_n 0, 1) := by decide +kernel
theorem dX11_readsLie_3 : decode cX11_readsLie 3 = .ok (.ldc_w 265, 3) := by decide +kernel
theorem dX11_readsLie_6 : decode cX11_readsLie 6 = .ok (.invokevirtual 253, 3) := by decide +kernel
theorem dX11_readsLie_9 : decode cX11_readsLie 9 = .ok (.ifCond .eq 12, 3) := by decide +kernel
theorem dX11_readsLie_12 : decode cX11_readsLie 12 = .ok (.aload_n 0, 1) := by decide +kernel
theorem dX11_readsLie_13 : decode cX11_readsLie 13 = .ok (.iconst 1, 1) := by decide +kernel
theorem dX11_readsLie_14 : decode cX11_readsLie 14 = .ok (.iconst 3, 1) := by decide +kernel
theorem dX11_readsLie_15 : decode cX11_readsLie 15 = .ok (.invokevirtual 249, 3) := by decide +kernel
theorem dX11_readsLie_18 : decode cX11_readsLie 18 = .ok (.goto 4, 3) := by decide +kernel
theorem dX11_readsLie_21 : decode cX11_readsLie 21 = .ok (.iconst 0, 1) := by decide +kernel
theorem dX11_readsLie_22 : decode cX11_readsLie 22 = .ok (.iastore, 1) := by decide +kernel
theorem dX11_readsLie_23 : decode cX11_readsLie 23 = .ok (.aload_n 1, 1) := by decide +kernel
theorem dX11_readsLie_24 : decode cX11_readsLie 24 = .ok (.iconst 1, 1) := by decide +kernel
theorem dX11_readsLie_25 : decode cX11_readsLie 25 = .ok (.aload_n 0, 1) := by decide +kernel
theorem dX11_readsLie_26 : decode cX11_readsLie 26 = .ok (.ldc_w 267, 3) := by decide +kernel
theorem dX11_readsLie_29 : decode cX11_readsLie 29 = .ok (.invokevirtual 253, 3) := by decide +kernel
theorem dX11_readsLie_32 : decode cX11_readsLie 32 = .ok (.ifCond .eq 17, 3) := by decide +kernel
theorem dX11_readsLie_35 : decode cX11_readsLie 35 = .ok (.aload_n 0, 1) := by decide +kernel
theorem dX11_readsLie_36 : decode cX11_readsLie 36 = .ok (.iconst 0, 1) := by decide +kernel
theorem dX11_readsLie_37 : decode cX11_readsLie 37 = .ok (.aload_n 0, 1) := by decide +kernel
theorem dX11_readsLie_38 : decode cX11_readsLie 38 = .ok (.getfield 20, 3) := by decide +kernel
theorem dX11_readsLie_41 : decode cX11_readsLie 41 = .ok (.iconst 1, 1) := by decide +kernel
theorem dX11_readsLie_42 : decode cX11_readsLie 42 = .ok (.isub, 1) := by decide +kernel
theorem dX11_readsLie_43 : decode cX11_readsLie 43 = .ok (.invokevirtual 249, 3) := by decide +kernel
theorem dX11_readsLie_46 : decode cX11_readsLie 46 = .ok (.goto 4, 3) := by decide +kernel
theorem dX11_readsLie_49 : decode cX11_readsLie 49 = .ok (.iconst (-1), 1) := by decide +kernel
theorem dX11_readsLie_50 : decode cX11_readsLie 50 = .ok (.iastore, 1) := by decide +kernel
theorem dX11_readsLie_51 : decode cX11_readsLie 51 = .ok (.aload_n 1, 1) := by decide +kernel
theorem dX11_readsLie_52 : decode cX11_readsLie 52 = .ok (.iconst 2, 1) := by decide +kernel
theorem dX11_readsLie_53 : decode cX11_readsLie 53 = .ok (.aload_n 0, 1) := by decide +kernel
theorem dX11_readsLie_54 : decode cX11_readsLie 54 = .ok (.ldc_w 269, 3) := by decide +kernel
theorem dX11_readsLie_57 : decode cX11_readsLie 57 = .ok (.invokevirtual 253, 3) := by decide +kernel
theorem dX11_readsLie_60 : decode cX11_readsLie 60 = .ok (.ifCond .eq 17, 3) := by decide +kernel
theorem dX11_readsLie_63 : decode cX11_readsLie 63 = .ok (.aload_n 0, 1) := by decide +kernel
theorem dX11_readsLie_64 : decode cX11_readsLie 64 = .ok (.iconst 0, 1) := by decide +kernel
theorem dX11_readsLie_65 : decode cX11_readsLie 65 = .ok (.aload_n 0, 1) := by decide +kernel
theorem dX11_readsLie_66 : decode cX11_readsLie 66 = .ok (.getfield 20, 3) := by decide +kernel
theorem dX11_readsLie_69 : decode cX11_readsLie 69 = .ok (.iconst 1, 1) := by decide +kernel
theorem dX11_readsLie_70 : decode cX11_readsLie 70 = .ok (.isub, 1) := by decide +kernel
theorem dX11_readsLie_71 : decode cX11_readsLie 71 = .ok (.invokevirtual 249, 3) := by decide +kernel
theorem dX11_readsLie_74 : decode cX11_readsLie 74 = .ok (.goto 4, 3) := by decide +kernel
theorem dX11_readsLie_77 : decode cX11_readsLie 77 = .ok (.iconst (-1), 1) := by decide +kernel
theorem dX11_readsLie_78 : decode cX11_readsLie 78 = .ok (.iastore, 1) := by decide +kernel
theorem dX11_readsLie_79 : decode cX11_readsLie 79 = .ok (.aload_n 0, 1) := by decide +kernel
theorem dX11_readsLie_80 : decode cX11_readsLie 80 = .ok (.invokevirtual 208, 3) := by decide +kernel
theorem dX11_readsLie_83 : decode cX11_readsLie 83 = .ok (.ifCond .ne 4, 3) := by decide +kernel
theorem dX11_readsLie_86 : decode cX11_readsLie 86 = .ok (.return_, 1) := by decide +kernel
theorem dX11_readsLie_87 : decode cX11_readsLie 87 = .ok (.aload_n 0, 1) := by decide +kernel
theorem dX11_readsLie_88 : decode cX11_readsLie 88 = .ok (.invokevirtual 212, 3) := by decide +kernel
theorem dX11_readsLie_91 : decode cX11_readsLie 91 = .ok (.pop, 1) := by decide +kernel
theorem dX11_readsLie_92 : decode cX11_readsLie 92 = .ok (.aload_n 1, 1) := by decide +kernel
theorem dX11_readsLie_93 : decode cX11_readsLie 93 = .ok (.iconst 3, 1) := by decide +kernel
theorem dX11_readsLie_94 : decode cX11_readsLie 94 = .ok (.aload_n 0, 1) := by decide +kernel
theorem dX11_readsLie_95 : decode cX11_readsLie 95 = .ok (.invokevirtual 271, 3) := by decide +kernel
theorem dX11_readsLie_98 : decode cX11_readsLie 98 = .ok (.iastore, 1) := by decide +kernel
theorem dX11_readsLie_99 : decode cX11_readsLie 99 = .ok (.aload_n 1, 1) := by decide +kernel
theorem dX11_readsLie_100 : decode cX11_readsLie 100 = .ok (.iconst 4, 1) := by decide +kernel
theorem dX11_readsLie_101 : decode cX11_readsLie 101 = .ok (.aload_n 1, 1) := by decide +kernel
theorem dX11_readsLie_102 : decode cX11_readsLie 102 = .ok (.iconst 3, 1) := by decide +kernel
theorem dX11_readsLie_103 : decode cX11_readsLie 103 = .ok (.iaload, 1) := by decide +kernel
theorem dX11_readsLie_104 : decode cX11_readsLie 104 = .ok (.iconst 1, 1) := by decide +kernel
theorem dX11_readsLie_105 : decode cX11_readsLie 105 = .ok (.if_icmp .gt 10, 3) := by decide +kernel
theorem dX11_readsLie_108 : decode cX11_readsLie 108 = .ok (.aload_n 0, 1) := by decide +kernel
theorem dX11_readsLie_109 : decode cX11_readsLie 109 = .ok (.invokevirtual 274, 3) := by decide +kernel
theorem dX11_readsLie_112 : decode cX11_readsLie 112 = .ok (.goto 4, 3) := by decide +kernel
theorem dX11_readsLie_115 : decode cX11_readsLie 115 = .ok (.iconst 0, 1) := by decide +kernel
theorem dX11_readsLie_116 : decode cX11_readsLie 116 = .ok (.iastore, 1) := by decide +kernel
theorem dX11_readsLie_117 : decode cX11_readsLie 117 = .ok (.aload_n 1, 1) := by decide +kernel
theorem dX11_readsLie_118 : decode cX11_readsLie 118 = .ok (.iconst 5, 1) := by decide +kernel
theorem dX11_readsLie_119 : decode cX11_readsLie 119 = .ok (.aload_n 1, 1) := by decide +kernel
theorem dX11_readsLie_120 : decode cX11_readsLie 120 = .ok (.iconst 3, 1) := by decide +kernel
theorem dX11_readsLie_121 : decode cX11_readsLie 121 = .ok (.iaload, 1) := by decide +kernel
theorem dX11_readsLie_122 : decode cX11_readsLie 122 = .ok (.iconst 1, 1) := by decide +kernel
theorem dX11_readsLie_123 : decode cX11_readsLie 123 = .ok (.if_icmp .ne 10, 3) := by decide +kernel
theorem dX11_readsLie_126 : decode cX11_readsLie 126 = .ok (.aload_n 0, 1) := by decide +kernel
theorem dX11_readsLie_127 : decode cX11_readsLie 127 = .ok (.invokevirtual 274, 3) := by decide +kernel
theorem dX11_readsLie_130 : decode cX11_readsLie 130 = .ok (.goto 4, 3) := by decide +kernel
theorem dX11_readsLie_133 : decode cX11_readsLie 133 = .ok (.iconst 0, 1) := by decide +kernel
theorem dX11_readsLie_134 : decode cX11_readsLie 134 = .ok (.iastore, 1) := by decide +kernel
theorem dX11_readsLie_135 : decode cX11_readsLie 135 = .ok (.aload_n 0, 1) := by decide +kernel
theorem dX11_readsLie_136 : decode cX11_readsLie 136 = .ok (.bipush 59, 2) := by decide +kernel
theorem dX11_readsLie_138 : decode cX11_readsLie 138 = .ok (.invokevirtual 277, 3) := by decide +kernel
theorem dX11_readsLie_141 : decode cX11_readsLie 141 = .ok (.return_, 1) := by decide +kernel
theorem dX11_readsLiar_0 : decode cX11_readsLiar 0 = .ok (.aload_n 0, 1) := by decide +kernel
theorem dX11_readsLiar_1 : decode cX11_readsLiar 1 = .ok (.ldc_w 280, 3) := by decide +kernel
theorem dX11_readsLiar_4 : decode cX11_readsLiar 4 = .ok (.invokevirtual 253, 3) := by decide +kernel
theorem dX11_readsLiar_7 : decode cX11_readsLiar 7 = .ok (.ifCond .ne 12, 3) := by decide +kernel
theorem dX11_readsLiar_10 : decode cX11_readsLiar 10 = .ok (.aload_n 0, 1) := by decide +kernel
theorem dX11_readsLiar_11 : decode cX11_readsLiar 11 = .ok (.iconst 1, 1) := by decide +kernel
theorem dX11_readsLiar_12 : decode cX11_readsLiar 12 = .ok (.aload_n 0, 1) := by decide +kernel
theorem dX11_readsLiar_13 : decode cX11_readsLiar 13 = .ok (.getfield 195, 3) := by decide +kernel
theorem dX11_readsLiar_16 : decode cX11_readsLiar 16 = .ok (.invokevirtual 219, 3) := by decide +kernel
theorem dX11_readsLiar_19 : decode cX11_readsLiar 19 = .ok (.aload_n 0, 1) := by decide +kernel
theorem dX11_readsLiar_20 : decode cX11_readsLiar 20 = .ok (.iconst 0, 1) := by decide +kernel
theorem dX11_readsLiar_21 : decode cX11_readsLiar 21 = .ok (.aload_n 0, 1) := by decide +kernel
theorem dX11_readsLiar_22 : decode cX11_readsLiar 22 = .ok (.getfield 20, 3) := by decide +kernel
theorem dX11_readsLiar_25 : decode cX11_readsLiar 25 = .ok (.iconst 1, 1) := by decide +kernel
theorem dX11_readsLiar_26 : decode cX11_readsLiar 26 = .ok (.isub, 1) := by decide +kernel
theorem dX11_readsLiar_27 : decode cX11_readsLiar 27 = .ok (.invokevirtual 249, 3) := by decide +kernel
theorem dX11_readsLiar_30 : decode cX11_readsLiar 30 = .ok (.istore_n 1, 1) := by decide +kernel
theorem dX11_readsLiar_31 : decode cX11_readsLiar 31 = .ok (.aload_n 0, 1) := by decide +kernel
theorem dX11_readsLiar_32 : decode cX11_readsLiar 32 = .ok (.invokevirtual 208, 3) := by decide +kernel
theorem dX11_readsLiar_35 : decode cX11_readsLiar 35 = .ok (.ifCond .eq 24, 3) := by decide +kernel
theorem dX11_readsLiar_38 : decode cX11_readsLiar 38 = .ok (.aload_n 0, 1) := by decide +kernel
theorem dX11_readsLiar_39 : decode cX11_readsLiar 39 = .ok (.getfield 31, 3) := by decide +kernel
theorem dX11_readsLiar_42 : decode cX11_readsLiar 42 = .ok (.iconst 1, 1) := by decide +kernel
theorem dX11_readsLiar_43 : decode cX11_readsLiar 43 = .ok (.aaload, 1) := by decide +kernel
theorem dX11_readsLiar_44 : decode cX11_readsLiar 44 = .ok (.iload_n 1, 1) := by decide +kernel
theorem dX11_readsLiar_45 : decode cX11_readsLiar 45 = .ok (.iaload, 1) := by decide +kernel
theorem dX11_readsLiar_46 : decode cX11_readsLiar 46 = .ok (.iconst (-1), 1) := by decide +kernel
theorem dX11_readsLiar_47 : decode cX11_readsLiar 47 = .ok (.if_icmp .eq 12, 3) := by decide +kernel
theorem dX11_readsLiar_50 : decode cX11_readsLiar 50 = .ok (.aload_n 0, 1) := by decide +kernel
theorem dX11_readsLiar_51 : decode cX11_readsLiar 51 = .ok (.iconst 4, 1) := by decide +kernel
theorem dX11_readsLiar_52 : decode cX11_readsLiar 52 = .ok (.aload_n 0, 1) := by decide +kernel
theorem dX11_readsLiar_53 : decode cX11_readsLiar 53 = .ok (.getfield 223, 3) := by decide +kernel
theorem dX11_readsLiar_56 : decode cX11_readsLiar 56 = .ok (.invokevirtual 219, 3) := by decide +kernel
theorem dX11_readsLiar_59 : decode cX11_readsLiar 59 = .ok (.aload_n 0, 1) := by decide +kernel
theorem dX11_readsLiar_60 : decode cX11_readsLiar 60 = .ok (.bipush 123, 2) := by decide +kernel
theorem dX11_readsLiar_62 : decode cX11_readsLiar 62 = .ok (.invokevirtual 277, 3) := by decide +kernel
theorem dX11_readsLiar_65 : decode cX11_readsLiar 65 = .ok (.aload_n 0, 1) := by decide +kernel
theorem dX11_readsLiar_66 : decode cX11_readsLiar 66 = .ok (.invokevirtual 208, 3) := by decide +kernel
theorem dX11_readsLiar_69 : decode cX11_readsLiar 69 = .ok (.ifCond .ne 4, 3) := by decide +kernel
theorem dX11_readsLiar_72 : decode cX11_readsLiar 72 = .ok (.return_, 1) := by decide +kernel
theorem dX11_readsLiar_73 : decode cX11_readsLiar 73 = .ok (.aload_n 0, 1) := by decide +kernel
theorem dX11_readsLiar_74 : decode cX11_readsLiar 74 = .ok (.getfield 31, 3) := by decide +kernel
theorem dX11_readsLiar_77 : decode cX11_readsLiar 77 = .ok (.iconst 1, 1) := by decide +kernel
theorem dX11_readsLiar_78 : decode cX11_readsLiar 78 = .ok (.aaload, 1) := by decide +kernel
theorem dX11_readsLiar_79 : decode cX11_readsLiar 79 = .ok (.iload_n 1, 1) := by decide +kernel
theorem dX11_readsLiar_80 : decode cX11_readsLiar 80 = .ok (.iconst 0, 1) := by decide +kernel
theorem dX11_readsLiar_81 : decode cX11_readsLiar 81 = .ok (.iastore, 1) := by decide +kernel
theorem dX11_readsLiar_82 : decode cX11_readsLiar 82 = .ok (.aload_n 0, 1) := by decide +kernel
theorem dX11_readsLiar_83 : decode cX11_readsLiar 83 = .ok (.invokevirtual 208, 3) := by decide +kernel
theorem dX11_readsLiar_86 : decode cX11_readsLiar 86 = .ok (.ifCond .eq 97, 3) := by decide +kernel
theorem dX11_readsLiar_89 : decode cX11_readsLiar 89 = .ok (.aload_n 0, 1) := by decide +kernel
theorem dX11_readsLiar_90 : decode cX11_readsLiar 90 = .ok (.invokevirtual 212, 3) := by decide +kernel
theorem dX11_readsLiar_93 : decode cX11_readsLiar 93 = .ok (.bipush 125, 2) := by decide +kernel
theorem dX11_readsLiar_95 : decode cX11_readsLiar 95 = .ok (.if_icmp .eq 88, 3) := by decide +kernel
theorem dX11_readsLiar_98 : decode cX11_readsLiar 98 = .ok (.aload_n 0, 1) := by decide +kernel
theorem dX11_readsLiar_99 : decode cX11_readsLiar 99 = .ok (.invokevirtual 282, 3) := by decide +kernel
theorem dX11_readsLiar_102 : decode cX11_readsLiar 102 = .ok (.ifCond .ne 15, 3) := by decide +kernel
theorem dX11_readsLiar_105 : decode cX11_readsLiar 105 = .ok (.aload_n 0, 1) := by decide +kernel
theorem dX11_readsLiar_106 : decode cX11_readsLiar 106 = .ok (.iconst 1, 1) := by decide +kernel
theorem dX11_readsLiar_107 : decode cX11_readsLiar 107 = .ok (.aload_n 0, 1) := by decide +kernel
theorem dX11_readsLiar_108 : decode cX11_readsLiar 108 = .ok (.getfield 195, 3) := by decide +kernel
theorem dX11_readsLiar_111 : decode cX11_readsLiar 111 = .ok (.invokevirtual 219, 3) := by decide +kernel
theorem dX11_readsLiar_114 : decode cX11_readsLiar 114 = .ok (.goto 25, 3) := by decide +kernel
theorem dX11_readsLiar_117 : decode cX11_readsLiar 117 = .ok (.aload_n 0, 1) := by decide +kernel
theorem dX11_readsLiar_118 : decode cX11_readsLiar 118 = .ok (.getfield 31, 3) := by decide +kernel
theorem dX11_readsLiar_121 : decode cX11_readsLiar 121 = .ok (.iconst 1, 1) := by decide +kernel
theorem dX11_readsLiar_122 : decode cX11_readsLiar 122 = .ok (.aaload, 1) := by decide +kernel
theorem dX11_readsLiar_123 : decode cX11_readsLiar 123 = .ok (.iload_n 1, 1) := by decide +kernel
theorem dX11_readsLiar_124 : decode cX11_readsLiar 124 = .ok (.iaload, 1) := by decide +kernel
theorem dX11_readsLiar_125 : decode cX11_readsLiar 125 = .ok (.bipush 12, 2) := by decide +kernel
theorem dX11_readsLiar_127 : decode cX11_readsLiar 127 = .ok (.if_icmp .ne 12, 3) := by decide +kernel
theorem dX11_readsLiar_130 : decode cX11_readsLiar 130 = .ok (.aload_n 0, 1) := by decide +kernel
theorem dX11_readsLiar_131 : decode cX11_readsLiar 131 = .ok (.iconst 3, 1) := by decide +kernel
theorem dX11_readsLiar_132 : decode cX11_readsLiar 132 = .ok (.aload_n 0, 1) := by decide +kernel
theorem dX11_readsLiar_133 : decode cX11_readsLiar 133 = .ok (.getfield 195, 3) := by decide +kernel
theorem dX11_readsLiar_136 : decode cX11_readsLiar 136 = .ok (.invokevirtual 219, 3) := by decide +kernel
theorem dX11_readsLiar_139 : decode cX11_readsLiar 139 = .ok (.aload_n 0, 1) := by decide +kernel
theorem dX11_readsLiar_140 : decode cX11_readsLiar 140 = .ok (.invokevirtual 208, 3) := by decide +kernel
theorem dX11_readsLiar_143 : decode cX11_readsLiar 143 = .ok (.ifCond .ne 4, 3) := by decide +kernel
theorem dX11_readsLiar_146 : decode cX11_readsLiar 146 = .ok (.return_, 1) := by decide +kernel
theorem dX11_readsLiar_147 : decode cX11_readsLiar 147 = .ok (.aload_n 0, 1) := by decide +kernel
theorem dX11_readsLiar_148 : decode cX11_readsLiar 148 = .ok (.aload_n 0, 1) := by decide +kernel
theorem dX11_readsLiar_149 : decode cX11_readsLiar 149 = .ok (.getfield 36, 3) := by decide +kernel
theorem dX11_readsLiar_152 : decode cX11_readsLiar 152 = .ok (.iconst 1, 1) := by decide +kernel
theorem dX11_readsLiar_153 : decode cX11_readsLiar 153 = .ok (.aaload, 1) := by decide +kernel
theorem dX11_readsLiar_154 : decode cX11_readsLiar 154 = .ok (.iload_n 1, 1) := by decide +kernel
theorem dX11_readsLiar_155 : decode cX11_readsLiar 155 = .ok (.aaload, 1) := by decide +kernel
theorem dX11_readsLiar_156 : decode cX11_readsLiar 156 = .ok (.aload_n 0, 1) := by decide +kernel
theorem dX11_readsLiar_157 : decode cX11_readsLiar 157 = .ok (.getfield 31, 3) := by decide +kernel
theorem dX11_readsLiar_160 : decode cX11_readsLiar 160 = .ok (.iconst 1, 1) := by decide +kernel
theorem dX11_readsLiar_161 : decode cX11_readsLiar 161 = .ok (.aaload, 1) := by decide +kernel
theorem dX11_readsLiar_162 : decode cX11_readsLiar 162 = .ok (.iload_n 1, 1) := by decide +kernel
theorem dX11_readsLiar_163 : decode cX11_readsLiar 163 = .ok (.iaload, 1) := by decide +kernel
theorem dX11_readsLiar_164 : decode cX11_readsLiar 164 = .ok (.aaload, 1) := by decide +kernel
theorem dX11_readsLiar_165 : decode cX11_readsLiar 165 = .ok (.invokevirtual 285, 3) := by decide +kernel
theorem dX11_readsLiar_168 : decode cX11_readsLiar 168 = .ok (.aload_n 0, 1) := by decide +kernel
theorem dX11_readsLiar_169 : decode cX11_readsLiar 169 = .ok (.getfield 31, 3) := by decide +kernel
theorem dX11_readsLiar_172 : decode cX11_readsLiar 172 = .ok (.iconst 1, 1) := by decide +kernel
theorem dX11_readsLiar_173 : decode cX11_readsLiar 173 = .ok (.aaload, 1) := by decide +kernel
theorem dX11_readsLiar_174 : decode cX11_readsLiar 174 = .ok (.iload_n 1, 1) := by decide +kernel
theorem dX11_readsLiar_175 : decode cX11_readsLiar 175 = .ok (.dup2, 1) := by decide +kernel
theorem dX11_readsLiar_176 : decode cX11_readsLiar 176 = .ok (.iaload, 1) := by decide +kernel
theorem dX11_readsLiar_177 : decode cX11_readsLiar 177 = .ok (.iconst 1, 1) := by decide +kernel
theorem dX11_readsLiar_178 : decode cX11_readsLiar 178 = .ok (.iadd, 1) := by decide +kernel
theorem dX11_readsLiar_179 : decode cX11_readsLiar 179 = .ok (.iastore, 1) := by decide +kernel
theorem dX11_readsLiar_180 : decode cX11_readsLiar 180 = .ok (.goto (-98), 3) := by decide +kernel
theorem dX11_readsLiar_183 : decode cX11_readsLiar 183 = .ok (.aload_n 0, 1) := by decide +kernel
theorem dX11_readsLiar_184 : decode cX11_readsLiar 184 = .ok (.bipush 125, 2) := by decide +kernel
theorem dX11_readsLiar_186 : decode cX11_readsLiar 186 = .ok (.invokevirtual 277, 3) := by decide +kernel
theorem dX11_readsLiar_189 : decode cX11_readsLiar 189 = .ok (.return_, 1) := by decide +kernel
theorem dX11_lies_0 : decode cX11_lies 0 = .ok (.aload_n 0, 1) := by decide +kernel
theorem dX11_lies_1 : decode cX11_lies 1 = .ok (.iconst 0, 1) := by decide +kernel
theorem dX11_lies_2 : decode cX11_lies 2 = .ok (.putfield 149, 3) := by decide +kernel
theorem dX11_lies_5 : decode cX11_lies 5 = .ok (.aload_n 0, 1) := by decide +kernel
theorem dX11_lies_6 : decode cX11_lies 6 = .ok (.iload_n 1, 1) := by decide +kernel
theorem dX11_lies_7 : decode cX11_lies 7 = .ok (.iconst 0, 1) := by decide +kernel
theorem dX11_lies_8 : decode cX11_lies 8 = .ok (.aload_n 0, 1) := by decide +kernel
theorem dX11_lies_9 : decode cX11_lies 9 = .ok (.getfield 189, 3) := by decide +kernel
theorem dX11_lies_12 : decode cX11_lies 12 = .ok (.invokestatic 162, 3) := by decide +kernel
theorem dX11_lies_15 : decode cX11_lies 15 = .ok (.ifCond .ne 7, 3) := by decide +kernel
theorem dX11_lies_18 : decode cX11_lies 18 = .ok (.iconst 1, 1) := by decide +kernel
theorem dX11_lies_19 : decode cX11_lies 19 = .ok (.goto 4, 3) := by decide +kernel
theorem dX11_lies_22 : decode cX11_lies 22 = .ok (.iconst 0, 1) := by decide +kernel
theorem dX11_lies_23 : decode cX11_lies 23 = .ok (.iconst 1, 1) := by decide +kernel
theorem dX11_lies_24 : decode cX11_lies 24 = .ok (.iconst 1, 1) := by decide +kernel
theorem dX11_lies_25 : decode cX11_lies 25 = .ok (.invokevirtual 166, 3) := by decide +kernel
theorem dX11_lies_28 : decode cX11_lies 28 = .ok (.ifCond .eq 5, 3) := by decide +kernel
theorem dX11_lies_31 : decode cX11_lies 31 = .ok (.iconst 0, 1) := by decide +kernel
theorem dX11_lies_32 : decode cX11_lies 32 = .ok (.ireturn, 1) := by decide +kernel
theorem dX11_lies_33 : decode cX11_lies 33 = .ok (.aload_n 0, 1) := by decide +kernel
theorem dX11_lies_34 : decode cX11_lies 34 = .ok (.iconst 0, 1) := by decide +kernel
theorem dX11_lies_35 : decode cX11_lies 35 = .ok (.putfield 189, 3) := by decide +kernel
theorem dX11_lies_38 : decode cX11_lies 38 = .ok (.aload_n 0, 1) := by decide +kernel
theorem dX11_lies_39 : decode cX11_lies 39 = .ok (.iload_n 1, 1) := by decide +kernel
theorem dX11_lies_40 : decode cX11_lies 40 = .ok (.putfield 192, 3) := by decide +kernel
theorem dX11_lies_43 : decode cX11_lies 43 = .ok (.aload_n 0, 1) := by decide +kernel
theorem dX11_lies_44 : decode cX11_lies 44 = .ok (.iconst 0, 1) := by decide +kernel
theorem dX11_lies_45 : decode cX11_lies 45 = .ok (.putfield 195, 3) := by decide +kernel
theorem dX11_lies_48 : decode cX11_lies 48 = .ok (.aload_n 0, 1) := by decide +kernel
theorem dX11_lies_49 : decode cX11_lies 49 = .ok (.iconst 0, 1) := by decide +kernel
theorem dX11_lies_50 : decode cX11_lies 50 = .ok (.putfield 202, 3) := by decide +kernel
theorem dX11_lies_53 : decode cX11_lies 53 = .ok (.aload_n 0, 1) := by decide +kernel
theorem dX11_lies_54 : decode cX11_lies 54 = .ok (.iconst (-1), 1) := by decide +kernel
theorem dX11_lies_55 : decode cX11_lies 55 = .ok (.putfield 205, 3) := by decide +kernel
theorem dX11_lies_58 : decode cX11_lies 58 = .ok (.aload_n 0, 1) := by decide +kernel
theorem dX11_lies_59 : decode cX11_lies 59 = .ok (.iconst 1, 1) := by decide +kernel
theorem dX11_lies_60 : decode cX11_lies 60 = .ok (.invokevirtual 145, 3) := by decide +kernel
theorem dX11_lies_63 : decode cX11_lies 63 = .ok (.aload_n 0, 1) := by decide +kernel
theorem dX11_lies_64 : decode cX11_lies 64 = .ok (.invokevirtual 208, 3) := by decide +kernel
theorem dX11_lies_67 : decode cX11_lies 67 = .ok (.ifCond .eq 18, 3) := by decide +kernel
theorem dX11_lies_70 : decode cX11_lies 70 = .ok (.aload_n 0, 1) := by decide +kernel
theorem dX11_lies_71 : decode cX11_lies 71 = .ok (.invokevirtual 212, 3) := by decide +kernel
theorem dX11_lies_74 : decode cX11_lies 74 = .ok (.iconst (-1), 1) := by decide +kernel
theorem dX11_lies_75 : decode cX11_lies 75 = .ok (.if_icmp .eq 10, 3) := by decide +kernel
theorem dX11_lies_78 : decode cX11_lies 78 = .ok (.aload_n 0, 1) := by decide +kernel
theorem dX11_lies_79 : decode cX11_lies 79 = .ok (.invokevirtual 289, 3) := by decide +kernel
theorem dX11_lies_82 : decode cX11_lies 82 = .ok (.goto (-19), 3) := by decide +kernel
theorem dX11_lies_85 : decode cX11_lies 85 = .ok (.aload_n 0, 1) := by decide +kernel
theorem dX11_lies_86 : decode cX11_lies 86 = .ok (.aload_n 0, 1) := by decide +kernel
theorem dX11_lies_87 : decode cX11_lies 87 = .ok (.getfield 205, 3) := by decide +kernel
theorem dX11_lies_90 : decode cX11_lies 90 = .ok (.putfield 13, 3) := by decide +kernel
theorem dX11_lies_93 : decode cX11_lies 93 = .ok (.aload_n 0, 1) := by decide +kernel
theorem dX11_lies_94 : decode cX11_lies 94 = .ok (.invokevirtual 208, 3) := by decide +kernel
theorem dX11_lies_97 : decode cX11_lies 97 = .ok (.ifCond .ne 11, 3) := by decide +kernel
theorem dX11_lies_100 : decode cX11_lies 100 = .ok (.aload_n 0, 1) := by decide +kernel
theorem dX11_lies_101 : decode cX11_lies 101 = .ok (.getfield 202, 3) := by decide +kernel
theorem dX11_lies_104 : decode cX11_lies 104 = .ok (.bipush 10, 2) := by decide +kernel
theorem dX11_lies_106 : decode cX11_lies 106 = .ok (.isub, 1) := by decide +kernel
theorem dX11_lies_107 : decode cX11_lies 107 = .ok (.ireturn, 1) := by decide +kernel
theorem dX11_lies_108 : decode cX11_lies 108 = .ok (.iconst 0, 1) := by decide +kernel
theorem dX11_lies_109 : decode cX11_lies 109 = .ok (.istore_n 2, 1) := by decide +kernel
theorem dX11_lies_110 : decode cX11_lies 110 = .ok (.iload_n 2, 1) := by decide +kernel
theorem dX11_lies_111 : decode cX11_lies 111 = .ok (.bipush 7, 2) := by decide +kernel
theorem dX11_lies_113 : decode cX11_lies 113 = .ok (.if_icmp .ge 87, 3) := by decide +kernel
theorem dX11_lies_116 : decode cX11_lies 116 = .ok (.aload_n 0, 1) := by decide +kernel
theorem dX11_lies_117 : decode cX11_lies 117 = .ok (.getfield 31, 3) := by decide +kernel
theorem dX11_lies_120 : decode cX11_lies 120 = .ok (.iconst 0, 1) := by decide +kernel
theorem dX11_lies_121 : decode cX11_lies 121 = .ok (.aaload, 1) := by decide +kernel
theorem dX11_lies_122 : decode cX11_lies 122 = .ok (.iload_n 2, 1) := by decide +kernel
theorem dX11_lies_123 : decode cX11_lies 123 = .ok (.aload_n 0, 1) := by decide +kernel
theorem dX11_lies_124 : decode cX11_lies 124 = .ok (.getfield 31, 3) := by decide +kernel
theorem dX11_lies_127 : decode cX11_lies 127 = .ok (.iconst 1, 1) := by decide +kernel
theorem dX11_lies_128 : decode cX11_lies 128 = .ok (.aaload, 1) := by decide +kernel
theorem dX11_lies_129 : decode cX11_lies 129 = .ok (.iload_n 2, 1) := by decide +kernel
theorem dX11_lies_130 : decode cX11_lies 130 = .ok (.iaload, 1) := by decide +kernel
theorem dX11_lies_131 : decode cX11_lies 131 = .ok (.iastore, 1) := by decide +kernel
theorem dX11_lies_132 : decode cX11_lies 132 = .ok (.iconst 0, 1) := by decide +kernel
theorem dX11_lies_133 : decode cX11_lies 133 = .ok (.istore_n 3, 1) := by decide +kernel
theorem dX11_lies_134 : decode cX11_lies 134 = .ok (.iload_n 3, 1) := by decide +kernel
theorem dX11_lies_135 : decode cX11_lies 135 = .ok (.aload_n 0, 1) := by decide +kernel
theorem dX11_lies_136 : decode cX11_lies 136 = .ok (.getfield 31, 3) := by decide +kernel
theorem dX11_lies_139 : decode cX11_lies 139 = .ok (.iconst 0, 1) := by decide +kernel
theorem dX11_lies_140 : decode cX11_lies 140 = .ok (.aaload, 1) := by decide +kernel
theorem dX11_lies_141 : decode cX11_lies 141 = .ok (.iload_n 2, 1) := by decide +kernel
theorem dX11_lies_142 : decode cX11_lies 142 = .ok (.iaload, 1) := by decide +kernel
theorem dX11_lies_143 : decode cX11_lies 143 = .ok (.if_icmp .ge 51, 3) := by decide +kernel
theorem dX11_lies_146 : decode cX11_lies 146 = .ok (.iconst 0, 1) := by decide +kernel
theorem dX11_lies_147 : decode cX11_lies 147 = .ok (.istore 4, 2) := by decide +kernel
theorem dX11_lies_149 : decode cX11_lies 149 = .ok (.iload 4, 2) := by decide +kernel
theorem dX11_lies_151 : decode cX11_lies 151 = .ok (.bipush 6, 2) := by decide +kernel
theorem dX11_lies_153 : decode cX11_lies 153 = .ok (.if_icmp .ge 35, 3) := by decide +kernel
theorem dX11_lies_156 : decode cX11_lies 156 = .ok (.aload_n 0, 1) := by decide +kernel
theorem dX11_lies_157 : decode cX11_lies 157 = .ok (.getfield 36, 3) := by decide +kernel
theorem dX11_lies_160 : decode cX11_lies 160 = .ok (.iconst 0, 1) := by decide +kernel
theorem dX11_lies_161 : decode cX11_lies 161 = .ok (.aaload, 1) := by decide +kernel
theorem dX11_lies_162 : decode cX11_lies 162 = .ok (.iload_n 2, 1) := by decide +kernel
theorem dX11_lies_163 : decode cX11_lies 163 = .ok (.aaload, 1) := by decide +kernel
theorem dX11_lies_164 : decode cX11_lies 164 = .ok (.iload_n 3, 1) := by decide +kernel
theorem dX11_lies_165 : decode cX11_lies 165 = .ok (.aaload, 1) := by decide +kernel
theorem dX11_lies_166 : decode cX11_lies 166 = .ok (.iload 4, 2) := by decide +kernel
theorem dX11_lies_168 : decode cX11_lies 168 = .ok (.aload_n 0, 1) := by decide +kernel
theorem dX11_lies_169 : decode cX11_lies 169 = .ok (.getfield 36, 3) := by decide +kernel
theorem dX11_lies_172 : decode cX11_lies 172 = .ok (.iconst 1, 1) := by decide +kernel
theorem dX11_lies_173 : decode cX11_lies 173 = .ok (.aaload, 1) := by decide +kernel
theorem dX11_lies_174 : decode cX11_lies 174 = .ok (.iload_n 2, 1) := by decide +kernel
theorem dX11_lies_175 : decode cX11_lies 175 = .ok (.aaload, 1) := by decide +kernel
theorem dX11_lies_176 : decode cX11_lies 176 = .ok (.iload_n 3, 1) := by decide +kernel
theorem dX11_lies_177 : decode cX11_lies 177 = .ok (.aaload, 1) := by decide +kernel
theorem dX11_lies_178 : decode cX11_lies 178 = .ok (.iload 4, 2) := by decide +kernel
theorem dX11_lies_180 : decode cX11_lies 180 = .ok (.iaload, 1) := by decide +kernel
theorem dX11_lies_181 : decode cX11_lies 181 = .ok (.iastore, 1) := by decide +kernel
theorem dX11_lies_182 : decode cX11_lies 182 = .ok (.iinc 4 1, 3) := by decide +kernel
theorem dX11_lies_185 : decode cX11_lies 185 = .ok (.goto (-36), 3) := by decide +kernel
theorem dX11_lies_188 : decode cX11_lies 188 = .ok (.iinc 3 1, 3) := by decide +kernel
theorem dX11_lies_191 : decode cX11_lies 191 = .ok (.goto (-57), 3) := by decide +kernel
theorem dX11_lies_194 : decode cX11_lies 194 = .ok (.iinc 2 1, 3) := by decide +kernel
theorem dX11_lies_197 : decode cX11_lies 197 = .ok (.goto (-87), 3) := by decide +kernel
theorem dX11_lies_200 : decode cX11_lies 200 = .ok (.aload_n 0, 1) := by decide +kernel
theorem dX11_lies_201 : decode cX11_lies 201 = .ok (.invokevirtual 292, 3) := by decide +kernel
theorem dX11_lies_204 : decode cX11_lies 204 = .ok (.ireturn, 1) := by decide +kernel
theorem dX11_liars_0 : decode cX11_liars 0 = .ok (.iconst 0, 1) := by decide +kernel
theorem dX11_liars_1 : decode cX11_liars 1 = .ok (.istore_n 1, 1) := by decide +kernel
theorem dX11_liars_2 : decode cX11_liars 2 = .ok (.iconst 0, 1) := by decide +kernel
theorem dX11_liars_3 : decode cX11_liars 3 = .ok (.istore_n 2, 1) := by decide +kernel
theorem dX11_liars_4 : decode cX11_liars 4 = .ok (.iload_n 2, 1) := by decide +kernel
theorem dX11_liars_5 : decode cX11_liars 5 = .ok (.aload_n 0, 1) := by decide +kernel
theorem dX11_liars_6 : decode cX11_liars 6 = .ok (.getfield 20, 3) := by decide +kernel
theorem dX11_liars_9 : decode cX11_liars 9 = .ok (.if_icmp .ge 25, 3) := by decide +kernel
theorem dX11_liars_12 : decode cX11_liars 12 = .ok (.iload_n 1, 1) := by decide +kernel
theorem dX11_liars_13 : decode cX11_liars 13 = .ok (.aload_n 0, 1) := by decide +kernel
theorem dX11_liars_14 : decode cX11_liars 14 = .ok (.iload_n 2, 1) := by decide +kernel
theorem dX11_liars_15 : decode cX11_liars 15 = .ok (.invokevirtual 295, 3) := by decide +kernel
theorem dX11_liars_18 : decode cX11_liars 18 = .ok (.ifCond .eq 7, 3) := by decide +kernel
theorem dX11_liars_21 : decode cX11_liars 21 = .ok (.iconst 1, 1) := by decide +kernel
theorem dX11_liars_22 : decode cX11_liars 22 = .ok (.goto 4, 3) := by decide +kernel
theorem dX11_liars_25 : decode cX11_liars 25 = .ok (.iconst 0, 1) := by decide +kernel
theorem dX11_liars_26 : decode cX11_liars 26 = .ok (.iadd, 1) := by decide +kernel
theorem dX11_liars_27 : decode cX11_liars 27 = .ok (.istore_n 1, 1) := by decide +kernel
theorem dX11_liars_28 : decode cX11_liars 28 = .ok (.iinc 2 1, 3) := by decide +kernel
theorem dX11_liars_31 : decode cX11_liars 31 = .ok (.goto (-27), 3) := by decide +kernel
theorem dX11_liars_34 : decode cX11_liars 34 = .ok (.iload_n 1, 1) := by decide +kernel
theorem dX11_liars_35 : decode cX11_liars 35 = .ok (.ireturn, 1) := by decide +kernel
theorem dX11_fault_0 : decode cX11_fault 0 = .ok (.aload_n 0, 1) := by decide +kernel
theorem dX11_fault_1 : decode cX11_fault 1 = .ok (.iconst 0, 1) := by decide +kernel
theorem dX11_fault_2 : decode cX11_fault 2 = .ok (.putfield 149, 3) := by decide +kernel
theorem dX11_fault_5 : decode cX11_fault 5 = .ok (.aload_n 0, 1) := by decide +kernel
theorem dX11_fault_6 : decode cX11_fault 6 = .ok (.getfield 13, 3) := by decide +kernel
theorem dX11_fault_9 : decode cX11_fault 9 = .ok (.ireturn, 1) := by decide +kernel
theorem dX11_says_0 : decode cX11_says 0 = .ok (.aload_n 0, 1) := by decide +kernel
theorem dX11_says_1 : decode cX11_says 1 = .ok (.iload 5, 2) := by decide +kernel
theorem dX11_says_3 : decode cX11_says 3 = .ok (.putfield 298, 3) := by decide +kernel
theorem dX11_says_6 : decode cX11_says 6 = .ok (.aload_n 0, 1) := by decide +kernel
theorem dX11_says_7 : decode cX11_says 7 = .ok (.iload_n 1, 1) := by decide +kernel
theorem dX11_says_8 : decode cX11_says 8 = .ok (.invokevirtual 295, 3) := by decide +kernel
theorem dX11_says_11 : decode cX11_says 11 = .ok (.ifCond .ne 5, 3) := by decide +kernel
theorem dX11_says_14 : decode cX11_says 14 = .ok (.iconst 2, 1) := by decide +kernel
theorem dX11_says_15 : decode cX11_says 15 = .ok (.ireturn, 1) := by decide +kernel
theorem dX11_says_16 : decode cX11_says 16 = .ok (.iconst 0, 1) := by decide +kernel
theorem dX11_says_17 : decode cX11_says 17 = .ok (.istore 6, 2) := by decide +kernel
theorem dX11_says_19 : decode cX11_says 19 = .ok (.iload 6, 2) := by decide +kernel
theorem dX11_says_21 : decode cX11_says 21 = .ok (.aload_n 0, 1) := by decide +kernel
theorem dX11_says_22 : decode cX11_says 22 = .ok (.getfield 31, 3) := by decide +kernel
theorem dX11_says_25 : decode cX11_says 25 = .ok (.iconst 0, 1) := by decide +kernel
theorem dX11_says_26 : decode cX11_says 26 = .ok (.aaload, 1) := by decide +kernel
theorem dX11_says_27 : decode cX11_says 27 = .ok (.iload_n 1, 1) := by decide +kernel
theorem dX11_says_28 : decode cX11_says 28 = .ok (.iaload, 1) := by decide +kernel
theorem dX11_says_29 : decode cX11_says 29 = .ok (.if_icmp .ge 140, 3) := by decide +kernel
theorem dX11_says_32 : decode cX11_says 32 = .ok (.aload_n 0, 1) := by decide +kernel
theorem dX11_says_33 : decode cX11_says 33 = .ok (.getfield 36, 3) := by decide +kernel
theorem dX11_says_36 : decode cX11_says 36 = .ok (.iconst 0, 1) := by decide +kernel
theorem dX11_says_37 : decode cX11_says 37 = .ok (.aaload, 1) := by decide +kernel
theorem dX11_says_38 : decode cX11_says 38 = .ok (.iload_n 1, 1) := by decide +kernel
theorem dX11_says_39 : decode cX11_says 39 = .ok (.aaload, 1) := by decide +kernel
theorem dX11_says_40 : decode cX11_says 40 = .ok (.iload 6, 2) := by decide +kernel
theorem dX11_says_42 : decode cX11_says 42 = .ok (.aaload, 1) := by decide +kernel
theorem dX11_says_43 : decode cX11_says 43 = .ok (.astore 7, 2) := by decide +kernel
theorem dX11_says_45 : decode cX11_says 45 = .ok (.aload 7, 2) := by decide +kernel
theorem dX11_says_47 : decode cX11_says 47 = .ok (.iconst 0, 1) := by decide +kernel
theorem dX11_says_48 : decode cX11_says 48 = .ok (.iaload, 1) := by decide +kernel
theorem dX11_says_49 : decode cX11_says 49 = .ok (.ifCond .eq 11, 3) := by decide +kernel
theorem dX11_says_52 : decode cX11_says 52 = .ok (.aload 7, 2) := by decide +kernel
theorem dX11_says_54 : decode cX11_says 54 = .ok (.iconst 0, 1) := by decide +kernel
theorem dX11_says_55 : decode cX11_says 55 = .ok (.iaload, 1) := by decide +kernel
theorem dX11_says_56 : decode cX11_says 56 = .ok (.iload_n 3, 1) := by decide +kernel
theorem dX11_says_57 : decode cX11_says 57 = .ok (.if_icmp .ne 106, 3) := by decide +kernel
theorem dX11_says_60 : decode cX11_says 60 = .ok (.aload 7, 2) := by decide +kernel
theorem dX11_says_62 : decode cX11_says 62 = .ok (.iconst 1, 1) := by decide +kernel
theorem dX11_says_63 : decode cX11_says 63 = .ok (.iaload, 1) := by decide +kernel
theorem dX11_says_64 : decode cX11_says 64 = .ok (.iconst (-1), 1) := by decide +kernel
theorem dX11_says_65 : decode cX11_says 65 = .ok (.if_icmp .eq 11, 3) := by decide +kernel
theorem dX11_says_68 : decode cX11_says 68 = .ok (.aload 7, 2) := by decide +kernel
theorem dX11_says_70 : decode cX11_says 70 = .ok (.iconst 1, 1) := by decide +kernel
theorem dX11_says_71 : decode cX11_says 71 = .ok (.iaload, 1) := by decide +kernel
theorem dX11_says_72 : decode cX11_says 72 = .ok (.iload_n 2, 1) := by decide +kernel
theorem dX11_says_73 : decode cX11_says 73 = .ok (.if_icmp .ne 90, 3) := by decide +kernel
theorem dX11_says_76 : decode cX11_says 76 = .ok (.aload 7, 2) := by decide +kernel
theorem dX11_says_78 : decode cX11_says 78 = .ok (.iconst 2, 1) := by decide +kernel
theorem dX11_says_79 : decode cX11_says 79 = .ok (.iaload, 1) := by decide +kernel
theorem dX11_says_80 : decode cX11_says 80 = .ok (.iconst (-1), 1) := by decide +kernel
theorem dX11_says_81 : decode cX11_says 81 = .ok (.if_icmp .eq 15, 3) := by decide +kernel
theorem dX11_says_84 : decode cX11_says 84 = .ok (.aload 7, 2) := by decide +kernel
theorem dX11_says_86 : decode cX11_says 86 = .ok (.iconst 2, 1) := by decide +kernel
theorem dX11_says_87 : decode cX11_says 87 = .ok (.iaload, 1) := by decide +kernel
theorem dX11_says_88 : decode cX11_says 88 = .ok (.iload 4, 2) := by decide +kernel
theorem dX11_says_90 : decode cX11_says 90 = .ok (.if_icmp .eq 6, 3) := by decide +kernel
theorem dX11_says_93 : decode cX11_says 93 = .ok (.goto 70, 3) := by decide +kernel
theorem dX11_says_96 : decode cX11_says 96 = .ok (.aload 7, 2) := by decide +kernel
theorem dX11_says_98 : decode cX11_says 98 = .ok (.iconst 3, 1) := by decide +kernel
theorem dX11_says_99 : decode cX11_says 99 = .ok (.iaload, 1) := by decide +kernel
theorem dX11_says_100 : decode cX11_says 100 = .ok (.iconst 2, 1) := by decide +kernel
theorem dX11_says_101 : decode cX11_says 101 = .ok (.if_icmp .ne 5, 3) := by decide +kernel
theorem dX11_says_104 : decode cX11_says 104 = .ok (.iconst 0, 1) := by decide +kernel
theorem dX11_says_105 : decode cX11_says 105 = .ok (.ireturn, 1) := by decide +kernel
theorem dX11_says_106 : decode cX11_says 106 = .ok (.aload 7, 2) := by decide +kernel
theorem dX11_says_108 : decode cX11_says 108 = .ok (.iconst 3, 1) := by decide +kernel
theorem dX11_says_109 : decode cX11_says 109 = .ok (.iaload, 1) := by decide +kernel
theorem dX11_says_110 : decode cX11_says 110 = .ok (.iconst 3, 1) := by decide +kernel
theorem dX11_says_111 : decode cX11_says 111 = .ok (.if_icmp .ne 5, 3) := by decide +kernel
theorem dX11_says_114 : decode cX11_says 114 = .ok (.iconst 1, 1) := by decide +kernel
theorem dX11_says_115 : decode cX11_says 115 = .ok (.ireturn, 1) := by decide +kernel
theorem dX11_says_116 : decode cX11_says 116 = .ok (.aload 7, 2) := by decide +kernel
theorem dX11_says_118 : decode cX11_says 118 = .ok (.iconst 3, 1) := by decide +kernel
theorem dX11_says_119 : decode cX11_says 119 = .ok (.iaload, 1) := by decide +kernel
theorem dX11_says_120 : decode cX11_says 120 = .ok (.ifCond .eq 11, 3) := by decide +kernel
theorem dX11_says_123 : decode cX11_says 123 = .ok (.aload 7, 2) := by decide +kernel
theorem dX11_says_125 : decode cX11_says 125 = .ok (.iconst 3, 1) := by decide +kernel
theorem dX11_says_126 : decode cX11_says 126 = .ok (.iaload, 1) := by decide +kernel
theorem dX11_says_127 : decode cX11_says 127 = .ok (.iconst 1, 1) := by decide +kernel
theorem dX11_says_128 : decode cX11_says 128 = .ok (.if_icmp .ne 33, 3) := by decide +kernel
theorem dX11_says_131 : decode cX11_says 131 = .ok (.aload_n 0, 1) := by decide +kernel
theorem dX11_says_132 : decode cX11_says 132 = .ok (.aload 7, 2) := by decide +kernel
theorem dX11_says_134 : decode cX11_says 134 = .ok (.iconst 3, 1) := by decide +kernel
theorem dX11_says_135 : decode cX11_says 135 = .ok (.iaload, 1) := by decide +kernel
theorem dX11_says_136 : decode cX11_says 136 = .ok (.iconst 1, 1) := by decide +kernel
theorem dX11_says_137 : decode cX11_says 137 = .ok (.if_icmp .ne 17, 3) := by decide +kernel
theorem dX11_says_140 : decode cX11_says 140 = .ok (.iload_n 2, 1) := by decide +kernel
theorem dX11_says_141 : decode cX11_says 141 = .ok (.iconst 2, 1) := by decide +kernel
theorem dX11_says_142 : decode cX11_says 142 = .ok (.irem, 1) := by decide +kernel
theorem dX11_says_143 : decode cX11_says 143 = .ok (.iconst 1, 1) := by decide +kernel
theorem dX11_says_144 : decode cX11_says 144 = .ok (.if_icmp .ne 10, 3) := by decide +kernel
theorem dX11_says_147 : decode cX11_says 147 = .ok (.aload 7, 2) := by decide +kernel
theorem dX11_says_149 : decode cX11_says 149 = .ok (.iconst 5, 1) := by decide +kernel
theorem dX11_says_150 : decode cX11_says 150 = .ok (.iaload, 1) := by decide +kernel
theorem dX11_says_151 : decode cX11_says 151 = .ok (.goto 7, 3) := by decide +kernel
theorem dX11_says_154 : decode cX11_says 154 = .ok (.aload 7, 2) := by decide +kernel
theorem dX11_says_156 : decode cX11_says 156 = .ok (.iconst 4, 1) := by decide +kernel
theorem dX11_says_157 : decode cX11_says 157 = .ok (.iaload, 1) := by decide +kernel
theorem dX11_says_158 : decode cX11_says 158 = .ok (.putfield 298, 3) := by decide +kernel
theorem dX11_says_161 : decode cX11_says 161 = .ok (.iconst 2, 1) := by decide +kernel
theorem dX11_says_162 : decode cX11_says 162 = .ok (.ireturn, 1) := by decide +kernel
theorem dX11_says_163 : decode cX11_says 163 = .ok (.iinc 6 1, 3) := by decide +kernel
theorem dX11_says_166 : decode cX11_says 166 = .ok (.goto (-147), 3) := by decide +kernel
theorem dX11_says_169 : decode cX11_says 169 = .ok (.iconst 2, 1) := by decide +kernel
theorem dX11_says_170 : decode cX11_says 170 = .ok (.ireturn, 1) := by decide +kernel
theorem dX11_pathOf_0 : decode cX11_pathOf 0 = .ok (.iload_n 0, 1) := by decide +kernel
theorem dX11_pathOf_1 : decode cX11_pathOf 1 = .ok (.iconst (-1), 1) := by decide +kernel
theorem dX11_pathOf_2 : decode cX11_pathOf 2 = .ok (.if_icmp .ne 7, 3) := by decide +kernel
theorem dX11_pathOf_5 : decode cX11_pathOf 5 = .ok (.iconst 0, 1) := by decide +kernel
theorem dX11_pathOf_6 : decode cX11_pathOf 6 = .ok (.goto 23, 3) := by decide +kernel
theorem dX11_pathOf_9 : decode cX11_pathOf 9 = .ok (.iload_n 1, 1) := by decide +kernel
theorem dX11_pathOf_10 : decode cX11_pathOf 10 = .ok (.iconst (-1), 1) := by decide +kernel
theorem dX11_pathOf_11 : decode cX11_pathOf 11 = .ok (.if_icmp .ne 9, 3) := by decide +kernel
theorem dX11_pathOf_14 : decode cX11_pathOf 14 = .ok (.iconst 1, 1) := by decide +kernel
theorem dX11_pathOf_15 : decode cX11_pathOf 15 = .ok (.iload_n 0, 1) := by decide +kernel
theorem dX11_pathOf_16 : decode cX11_pathOf 16 = .ok (.iadd, 1) := by decide +kernel
theorem dX11_pathOf_17 : decode cX11_pathOf 17 = .ok (.goto 12, 3) := by decide +kernel
theorem dX11_pathOf_20 : decode cX11_pathOf 20 = .ok (.bipush 8, 2) := by decide +kernel
theorem dX11_pathOf_22 : decode cX11_pathOf 22 = .ok (.bipush 7, 2) := by decide +kernel
theorem dX11_pathOf_24 : decode cX11_pathOf 24 = .ok (.iload_n 0, 1) := by decide +kernel
theorem dX11_pathOf_25 : decode cX11_pathOf 25 = .ok (.imul, 1) := by decide +kernel
theorem dX11_pathOf_26 : decode cX11_pathOf 26 = .ok (.iadd, 1) := by decide +kernel
theorem dX11_pathOf_27 : decode cX11_pathOf 27 = .ok (.iload_n 1, 1) := by decide +kernel
theorem dX11_pathOf_28 : decode cX11_pathOf 28 = .ok (.iadd, 1) := by decide +kernel
theorem dX11_pathOf_29 : decode cX11_pathOf 29 = .ok (.ireturn, 1) := by decide +kernel
theorem dX11_lengthOf_0 : decode cX11_lengthOf 0 = .ok (.iload_n 0, 1) := by decide +kernel
theorem dX11_lengthOf_1 : decode cX11_lengthOf 1 = .ok (.ifCond .ne 7, 3) := by decide +kernel
theorem dX11_lengthOf_4 : decode cX11_lengthOf 4 = .ok (.iconst 1, 1) := by decide +kernel
theorem dX11_lengthOf_5 : decode cX11_lengthOf 5 = .ok (.goto 14, 3) := by decide +kernel
theorem dX11_lengthOf_8 : decode cX11_lengthOf 8 = .ok (.iload_n 0, 1) := by decide +kernel
theorem dX11_lengthOf_9 : decode cX11_lengthOf 9 = .ok (.bipush 8, 2) := by decide +kernel
theorem dX11_lengthOf_11 : decode cX11_lengthOf 11 = .ok (.if_icmp .ge 7, 3) := by decide +kernel
theorem dX11_lengthOf_14 : decode cX11_lengthOf 14 = .ok (.iconst 2, 1) := by decide +kernel
theorem dX11_lengthOf_15 : decode cX11_lengthOf 15 = .ok (.goto 4, 3) := by decide +kernel
theorem dX11_lengthOf_18 : decode cX11_lengthOf 18 = .ok (.iconst 3, 1) := by decide +kernel
theorem dX11_lengthOf_19 : decode cX11_lengthOf 19 = .ok (.ireturn, 1) := by decide +kernel
theorem dX11_second_0 : decode cX11_second 0 = .ok (.iload_n 0, 1) := by decide +kernel
theorem dX11_second_1 : decode cX11_second 1 = .ok (.ifCond .ne 7, 3) := by decide +kernel
theorem dX11_second_4 : decode cX11_second 4 = .ok (.iconst (-1), 1) := by decide +kernel
theorem dX11_second_5 : decode cX11_second 5 = .ok (.goto 22, 3) := by decide +kernel
theorem dX11_second_8 : decode cX11_second 8 = .ok (.iload_n 0, 1) := by decide +kernel
theorem dX11_second_9 : decode cX11_second 9 = .ok (.bipush 8, 2) := by decide +kernel
theorem dX11_second_11 : decode cX11_second 11 = .ok (.if_icmp .ge 9, 3) := by decide +kernel
theorem dX11_second_14 : decode cX11_second 14 = .ok (.iload_n 0, 1) := by decide +kernel
theorem dX11_second_15 : decode cX11_second 15 = .ok (.iconst 1, 1) := by decide +kernel
theorem dX11_second_16 : decode cX11_second 16 = .ok (.isub, 1) := by decide +kernel
theorem dX11_second_17 : decode cX11_second 17 = .ok (.goto 10, 3) := by decide +kernel
theorem dX11_second_20 : decode cX11_second 20 = .ok (.iload_n 0, 1) := by decide +kernel
theorem dX11_second_21 : decode cX11_second 21 = .ok (.bipush 8, 2) := by decide +kernel
theorem dX11_second_23 : decode cX11_second 23 = .ok (.isub, 1) := by decide +kernel
theorem dX11_second_24 : decode cX11_second 24 = .ok (.bipush 7, 2) := by decide +kernel
theorem dX11_second_26 : decode cX11_second 26 = .ok (.idiv, 1) := by decide +kernel
theorem dX11_second_27 : decode cX11_second 27 = .ok (.ireturn, 1) := by decide +kernel
theorem dX11_third_0 : decode cX11_third 0 = .ok (.iload_n 0, 1) := by decide +kernel
theorem dX11_third_1 : decode cX11_third 1 = .ok (.bipush 8, 2) := by decide +kernel
theorem dX11_third_3 : decode cX11_third 3 = .ok (.if_icmp .ge 7, 3) := by decide +kernel
theorem dX11_third_6 : decode cX11_third 6 = .ok (.iconst (-1), 1) := by decide +kernel
theorem dX11_third_7 : decode cX11_third 7 = .ok (.goto 10, 3) := by decide +kernel
theorem dX11_third_10 : decode cX11_third 10 = .ok (.iload_n 0, 1) := by decide +kernel
theorem dX11_third_11 : decode cX11_third 11 = .ok (.bipush 8, 2) := by decide +kernel
theorem dX11_third_13 : decode cX11_third 13 = .ok (.isub, 1) := by decide +kernel
theorem dX11_third_14 : decode cX11_third 14 = .ok (.bipush 7, 2) := by decide +kernel
theorem dX11_third_16 : decode cX11_third 16 = .ok (.irem, 1) := by decide +kernel
theorem dX11_third_17 : decode cX11_third 17 = .ok (.ireturn, 1) := by decide +kernel
theorem dX11_isIn_0 : decode cX11_isIn 0 = .ok (.iload_n 2, 1) := by decide +kernel
theorem dX11_isIn_1 : decode cX11_isIn 1 = .ok (.aload_n 0, 1) := by decide +kernel
theorem dX11_isIn_2 : decode cX11_isIn 2 = .ok (.getfield 39, 3) := by decide +kernel
theorem dX11_isIn_5 : decode cX11_isIn 5 = .ok (.if_icmp .eq 29, 3) := by decide +kernel
theorem dX11_isIn_8 : decode cX11_isIn 8 = .ok (.iload_n 1, 1) := by decide +kernel
theorem dX11_isIn_9 : decode cX11_isIn 9 = .ok (.ifCond .le 11, 3) := by decide +kernel
theorem dX11_isIn_12 : decode cX11_isIn 12 = .ok (.iload_n 2, 1) := by decide +kernel
theorem dX11_isIn_13 : decode cX11_isIn 13 = .ok (.iload_n 1, 1) := by decide +kernel
theorem dX11_isIn_14 : decode cX11_isIn 14 = .ok (.invokestatic 301, 3) := by decide +kernel
theorem dX11_isIn_17 : decode cX11_isIn 17 = .ok (.if_icmp .eq 17, 3) := by decide +kernel
theorem dX11_isIn_20 : decode cX11_isIn 20 = .ok (.iload_n 1, 1) := by decide +kernel
theorem dX11_isIn_21 : decode cX11_isIn 21 = .ok (.bipush 8, 2) := by decide +kernel
theorem dX11_isIn_23 : decode cX11_isIn 23 = .ok (.if_icmp .lt 15, 3) := by decide +kernel
theorem dX11_isIn_26 : decode cX11_isIn 26 = .ok (.iload_n 2, 1) := by decide +kernel
theorem dX11_isIn_27 : decode cX11_isIn 27 = .ok (.iload_n 1, 1) := by decide +kernel
theorem dX11_isIn_28 : decode cX11_isIn 28 = .ok (.invokestatic 304, 3) := by decide +kernel
theorem dX11_isIn_31 : decode cX11_isIn 31 = .ok (.if_icmp .ne 7, 3) := by decide +kernel
theorem dX11_isIn_34 : decode cX11_isIn 34 = .ok (.iconst 1, 1) := by decide +kernel
theorem dX11_isIn_35 : decode cX11_isIn 35 = .ok (.goto 4, 3) := by decide +kernel
theorem dX11_isIn_38 : decode cX11_isIn 38 = .ok (.iconst 0, 1) := by decide +kernel
theorem dX11_isIn_39 : decode cX11_isIn 39 = .ok (.ireturn, 1) := by decide +kernel
theorem dX11_lastOf_0 : decode cX11_lastOf 0 = .ok (.iload_n 1, 1) := by decide +kernel
theorem dX11_lastOf_1 : decode cX11_lastOf 1 = .ok (.ifCond .ne 10, 3) := by decide +kernel
theorem dX11_lastOf_4 : decode cX11_lastOf 4 = .ok (.aload_n 0, 1) := by decide +kernel
theorem dX11_lastOf_5 : decode cX11_lastOf 5 = .ok (.getfield 39, 3) := by decide +kernel
theorem dX11_lastOf_8 : decode cX11_lastOf 8 = .ok (.goto 20, 3) := by decide +kernel
theorem dX11_lastOf_11 : decode cX11_lastOf 11 = .ok (.iload_n 1, 1) := by decide +kernel
theorem dX11_lastOf_12 : decode cX11_lastOf 12 = .ok (.bipush 8, 2) := by decide +kernel
theorem dX11_lastOf_14 : decode cX11_lastOf 14 = .ok (.if_icmp .ge 10, 3) := by decide +kernel
theorem dX11_lastOf_17 : decode cX11_lastOf 17 = .ok (.iload_n 1, 1) := by decide +kernel
theorem dX11_lastOf_18 : decode cX11_lastOf 18 = .ok (.invokestatic 301, 3) := by decide +kernel
theorem dX11_lastOf_21 : decode cX11_lastOf 21 = .ok (.goto 7, 3) := by decide +kernel
theorem dX11_lastOf_24 : decode cX11_lastOf 24 = .ok (.iload_n 1, 1) := by decide +kernel
theorem dX11_lastOf_25 : decode cX11_lastOf 25 = .ok (.invokestatic 304, 3) := by decide +kernel
theorem dX11_lastOf_28 : decode cX11_lastOf 28 = .ok (.ireturn, 1) := by decide +kernel
theorem dX11_longer_0 : decode cX11_longer 0 = .ok (.iload_n 0, 1) := by decide +kernel
theorem dX11_longer_1 : decode cX11_longer 1 = .ok (.ifCond .ne 9, 3) := by decide +kernel
theorem dX11_longer_4 : decode cX11_longer 4 = .ok (.iconst 1, 1) := by decide +kernel
theorem dX11_longer_5 : decode cX11_longer 5 = .ok (.iload_n 1, 1) := by decide +kernel
theorem dX11_longer_6 : decode cX11_longer 6 = .ok (.iadd, 1) := by decide +kernel
theorem dX11_longer_7 : decode cX11_longer 7 = .ok (.goto 15, 3) := by decide +kernel
theorem dX11_longer_10 : decode cX11_longer 10 = .ok (.bipush 8, 2) := by decide +kernel
theorem dX11_longer_12 : decode cX11_longer 12 = .ok (.bipush 7, 2) := by decide +kernel
theorem dX11_longer_14 : decode cX11_longer 14 = .ok (.iload_n 0, 1) := by decide +kernel
theorem dX11_longer_15 : decode cX11_longer 15 = .ok (.invokestatic 301, 3) := by decide +kernel
theorem dX11_longer_18 : decode cX11_longer 18 = .ok (.imul, 1) := by decide +kernel
theorem dX11_longer_19 : decode cX11_longer 19 = .ok (.iadd, 1) := by decide +kernel
theorem dX11_longer_20 : decode cX11_longer 20 = .ok (.iload_n 1, 1) := by decide +kernel
theorem dX11_longer_21 : decode cX11_longer 21 = .ok (.iadd, 1) := by decide +kernel
theorem dX11_longer_22 : decode cX11_longer 22 = .ok (.ireturn, 1) := by decide +kernel
theorem dX11_isPath_0 : decode cX11_isPath 0 = .ok (.iload_n 1, 1) := by decide +kernel
theorem dX11_isPath_1 : decode cX11_isPath 1 = .ok (.ifCond .ne 5, 3) := by decide +kernel
theorem dX11_isPath_4 : decode cX11_isPath 4 = .ok (.iconst 1, 1) := by decide +kernel
theorem dX11_isPath_5 : decode cX11_isPath 5 = .ok (.ireturn, 1) := by decide +kernel
theorem dX11_isPath_6 : decode cX11_isPath 6 = .ok (.iload_n 1, 1) := by decide +kernel
theorem dX11_isPath_7 : decode cX11_isPath 7 = .ok (.invokestatic 301, 3) := by decide +kernel
theorem dX11_isPath_10 : decode cX11_isPath 10 = .ok (.istore_n 2, 1) := by decide +kernel
theorem dX11_isPath_11 : decode cX11_isPath 11 = .ok (.iload_n 1, 1) := by decide +kernel
theorem dX11_isPath_12 : decode cX11_isPath 12 = .ok (.invokestatic 304, 3) := by decide +kernel
theorem dX11_isPath_15 : decode cX11_isPath 15 = .ok (.istore_n 3, 1) := by decide +kernel
theorem dX11_isPath_16 : decode cX11_isPath 16 = .ok (.iload_n 2, 1) := by decide +kernel
theorem dX11_isPath_17 : decode cX11_isPath 17 = .ok (.iconst 0, 1) := by decide +kernel
theorem dX11_isPath_18 : decode cX11_isPath 18 = .ok (.aload_n 0, 1) := by decide +kernel
theorem dX11_isPath_19 : decode cX11_isPath 19 = .ok (.getfield 20, 3) := by decide +kernel
theorem dX11_isPath_22 : decode cX11_isPath 22 = .ok (.iconst 1, 1) := by decide +kernel
theorem dX11_isPath_23 : decode cX11_isPath 23 = .ok (.isub, 1) := by decide +kernel
theorem dX11_isPath_24 : decode cX11_isPath 24 = .ok (.invokestatic 162, 3) := by decide +kernel
theorem dX11_isPath_27 : decode cX11_isPath 27 = .ok (.ifCond .eq 47, 3) := by decide +kernel
theorem dX11_isPath_30 : decode cX11_isPath 30 = .ok (.iload_n 2, 1) := by decide +kernel
theorem dX11_isPath_31 : decode cX11_isPath 31 = .ok (.aload_n 0, 1) := by decide +kernel
theorem dX11_isPath_32 : decode cX11_isPath 32 = .ok (.getfield 39, 3) := by decide +kernel
theorem dX11_isPath_35 : decode cX11_isPath 35 = .ok (.if_icmp .eq 39, 3) := by decide +kernel
theorem dX11_isPath_38 : decode cX11_isPath 38 = .ok (.iload_n 3, 1) := by decide +kernel
theorem dX11_isPath_39 : decode cX11_isPath 39 = .ok (.iconst (-1), 1) := by decide +kernel
theorem dX11_isPath_40 : decode cX11_isPath 40 = .ok (.if_icmp .eq 30, 3) := by decide +kernel
theorem dX11_isPath_43 : decode cX11_isPath 43 = .ok (.iload_n 3, 1) := by decide +kernel
theorem dX11_isPath_44 : decode cX11_isPath 44 = .ok (.iconst 0, 1) := by decide +kernel
theorem dX11_isPath_45 : decode cX11_isPath 45 = .ok (.aload_n 0, 1) := by decide +kernel
theorem dX11_isPath_46 : decode cX11_isPath 46 = .ok (.getfield 20, 3) := by decide +kernel
theorem dX11_isPath_49 : decode cX11_isPath 49 = .ok (.iconst 1, 1) := by decide +kernel
theorem dX11_isPath_50 : decode cX11_isPath 50 = .ok (.isub, 1) := by decide +kernel
theorem dX11_isPath_51 : decode cX11_isPath 51 = .ok (.invokestatic 162, 3) := by decide +kernel
theorem dX11_isPath_54 : decode cX11_isPath 54 = .ok (.ifCond .eq 20, 3) := by decide +kernel
theorem dX11_isPath_57 : decode cX11_isPath 57 = .ok (.iload_n 3, 1) := by decide +kernel
theorem dX11_isPath_58 : decode cX11_isPath 58 = .ok (.aload_n 0, 1) := by decide +kernel
theorem dX11_isPath_59 : decode cX11_isPath 59 = .ok (.getfield 39, 3) := by decide +kernel
theorem dX11_isPath_62 : decode cX11_isPath 62 = .ok (.if_icmp .eq 12, 3) := by decide +kernel
theorem dX11_isPath_65 : decode cX11_isPath 65 = .ok (.iload_n 3, 1) := by decide +kernel
theorem dX11_isPath_66 : decode cX11_isPath 66 = .ok (.iload_n 2, 1) := by decide +kernel
theorem dX11_isPath_67 : decode cX11_isPath 67 = .ok (.if_icmp .eq 7, 3) := by decide +kernel
theorem dX11_isPath_70 : decode cX11_isPath 70 = .ok (.iconst 1, 1) := by decide +kernel
theorem dX11_isPath_71 : decode cX11_isPath 71 = .ok (.goto 4, 3) := by decide +kernel
theorem dX11_isPath_74 : decode cX11_isPath 74 = .ok (.iconst 0, 1) := by decide +kernel
theorem dX11_isPath_75 : decode cX11_isPath 75 = .ok (.ireturn, 1) := by decide +kernel
theorem dX11_hears_0 : decode cX11_hears 0 = .ok (.aload_n 0, 1) := by decide +kernel
theorem dX11_hears_1 : decode cX11_hears 1 = .ok (.getfield 50, 3) := by decide +kernel
theorem dX11_hears_4 : decode cX11_hears 4 = .ok (.iload_n 2, 1) := by decide +kernel
theorem dX11_hears_5 : decode cX11_hears 5 = .ok (.aaload, 1) := by decide +kernel
theorem dX11_hears_6 : decode cX11_hears 6 = .ok (.iload 5, 2) := by decide +kernel
theorem dX11_hears_8 : decode cX11_hears 8 = .ok (.iconst 1, 1) := by decide +kernel
theorem dX11_hears_9 : decode cX11_hears 9 = .ok (.isub, 1) := by decide +kernel
theorem dX11_hears_10 : decode cX11_hears 10 = .ok (.iaload, 1) := by decide +kernel
theorem dX11_hears_11 : decode cX11_hears 11 = .ok (.iload_n 1, 1) := by decide +kernel
theorem dX11_hears_12 : decode cX11_hears 12 = .ok (.ishr, 1) := by decide +kernel
theorem dX11_hears_13 : decode cX11_hears 13 = .ok (.iconst 1, 1) := by decide +kernel
theorem dX11_hears_14 : decode cX11_hears 14 = .ok (.iand, 1) := by decide +kernel
theorem dX11_hears_15 : decode cX11_hears 15 = .ok (.ifCond .ne 7, 3) := by decide +kernel
theorem dX11_hears_18 : decode cX11_hears 18 = .ok (.iconst 1, 1) := by decide +kernel
theorem dX11_hears_19 : decode cX11_hears 19 = .ok (.goto 4, 3) := by decide +kernel
theorem dX11_hears_22 : decode cX11_hears 22 = .ok (.iconst 0, 1) := by decide +kernel
theorem dX11_hears_23 : decode cX11_hears 23 = .ok (.istore 6, 2) := by decide +kernel
theorem dX11_hears_25 : decode cX11_hears 25 = .ok (.aload_n 0, 1) := by decide +kernel
theorem dX11_hears_26 : decode cX11_hears 26 = .ok (.dup, 1) := by decide +kernel
theorem dX11_hears_27 : decode cX11_hears 27 = .ok (.getfield 173, 3) := by decide +kernel
theorem dX11_hears_30 : decode cX11_hears 30 = .ok (.iload 4, 2) := by decide +kernel
theorem dX11_hears_32 : decode cX11_hears 32 = .ok (.ifCond .ne 7, 3) := by decide +kernel
theorem dX11_hears_35 : decode cX11_hears 35 = .ok (.iconst 0, 1) := by decide +kernel
theorem dX11_hears_36 : decode cX11_hears 36 = .ok (.goto 4, 3) := by decide +kernel
theorem dX11_hears_39 : decode cX11_hears 39 = .ok (.iconst 1, 1) := by decide +kernel
theorem dX11_hears_40 : decode cX11_hears 40 = .ok (.iadd, 1) := by decide +kernel
theorem dX11_hears_41 : decode cX11_hears 41 = .ok (.putfield 173, 3) := by decide +kernel
theorem dX11_hears_44 : decode cX11_hears 44 = .ok (.aload_n 0, 1) := by decide +kernel
theorem dX11_hears_45 : decode cX11_hears 45 = .ok (.getfield 53, 3) := by decide +kernel
theorem dX11_hears_48 : decode cX11_hears 48 = .ok (.iload_n 1, 1) := by decide +kernel
theorem dX11_hears_49 : decode cX11_hears 49 = .ok (.dup2, 1) := by decide +kernel
theorem dX11_hears_50 : decode cX11_hears 50 = .ok (.iaload, 1) := by decide +kernel
theorem dX11_hears_51 : decode cX11_hears 51 = .ok (.iload 4, 2) := by decide +kernel
theorem dX11_hears_53 : decode cX11_hears 53 = .ok (.ifCond .ne 7, 3) := by decide +kernel
theorem dX11_hears_56 : decode cX11_hears 56 = .ok (.iconst 0, 1) := by decide +kernel
theorem dX11_hears_57 : decode cX11_hears 57 = .ok (.goto 4, 3) := by decide +kernel
theorem dX11_hears_60 : decode cX11_hears 60 = .ok (.iconst 1, 1) := by decide +kernel
theorem dX11_hears_61 : decode cX11_hears 61 = .ok (.iadd, 1) := by decide +kernel
theorem dX11_hears_62 : decode cX11_hears 62 = .ok (.iastore, 1) := by decide +kernel
theorem dX11_hears_63 : decode cX11_hears 63 = .ok (.aload_n 0, 1) := by decide +kernel
theorem dX11_hears_64 : decode cX11_hears 64 = .ok (.dup, 1) := by decide +kernel
theorem dX11_hears_65 : decode cX11_hears 65 = .ok (.getfield 176, 3) := by decide +kernel
theorem dX11_hears_68 : decode cX11_hears 68 = .ok (.iload 4, 2) := by decide +kernel
theorem dX11_hears_70 : decode cX11_hears 70 = .ok (.iconst 1, 1) := by decide +kernel
theorem dX11_hears_71 : decode cX11_hears 71 = .ok (.if_icmp .ne 12, 3) := by decide +kernel
theorem dX11_hears_74 : decode cX11_hears 74 = .ok (.iload 6, 2) := by decide +kernel
theorem dX11_hears_76 : decode cX11_hears 76 = .ok (.ifCond .eq 7, 3) := by decide +kernel
theorem dX11_hears_79 : decode cX11_hears 79 = .ok (.iconst 1, 1) := by decide +kernel
theorem dX11_hears_80 : decode cX11_hears 80 = .ok (.goto 4, 3) := by decide +kernel
theorem dX11_hears_83 : decode cX11_hears 83 = .ok (.iconst 0, 1) := by decide +kernel
theorem dX11_hears_84 : decode cX11_hears 84 = .ok (.iadd, 1) := by decide +kernel
theorem dX11_hears_85 : decode cX11_hears 85 = .ok (.putfield 176, 3) := by decide +kernel
theorem dX11_hears_88 : decode cX11_hears 88 = .ok (.iload 4, 2) := by decide +kernel
theorem dX11_hears_90 : decode cX11_hears 90 = .ok (.iconst 2, 1) := by decide +kernel
theorem dX11_hears_91 : decode cX11_hears 91 = .ok (.if_icmp .ne 12, 3) := by decide +kernel
theorem dX11_hears_94 : decode cX11_hears 94 = .ok (.iload 6, 2) := by decide +kernel
theorem dX11_hears_96 : decode cX11_hears 96 = .ok (.ifCond .eq 7, 3) := by decide +kernel
theorem dX11_hears_99 : decode cX11_hears 99 = .ok (.iconst 1, 1) := by decide +kernel
theorem dX11_hears_100 : decode cX11_hears 100 = .ok (.goto 4, 3) := by decide +kernel
theorem dX11_hears_103 : decode cX11_hears 103 = .ok (.iconst 0, 1) := by decide +kernel
theorem dX11_hears_104 : decode cX11_hears 104 = .ok (.istore 7, 2) := by decide +kernel
theorem dX11_hears_106 : decode cX11_hears 106 = .ok (.aload_n 0, 1) := by decide +kernel
theorem dX11_hears_107 : decode cX11_hears 107 = .ok (.getfield 42, 3) := by decide +kernel
theorem dX11_hears_110 : decode cX11_hears 110 = .ok (.iload_n 2, 1) := by decide +kernel
theorem dX11_hears_111 : decode cX11_hears 111 = .ok (.aaload, 1) := by decide +kernel
theorem dX11_hears_112 : decode cX11_hears 112 = .ok (.iload_n 3, 1) := by decide +kernel
theorem dX11_hears_113 : decode cX11_hears 113 = .ok (.iload 7, 2) := by decide +kernel
theorem dX11_hears_115 : decode cX11_hears 115 = .ok (.ifCond .eq 10, 3) := by decide +kernel
theorem dX11_hears_118 : decode cX11_hears 118 = .ok (.aload_n 0, 1) := by decide +kernel
theorem dX11_hears_119 : decode cX11_hears 119 = .ok (.getfield 298, 3) := by decide +kernel
theorem dX11_hears_122 : decode cX11_hears 122 = .ok (.goto 7, 3) := by decide +kernel
theorem dX11_hears_125 : decode cX11_hears 125 = .ok (.aload_n 0, 1) := by decide +kernel
theorem dX11_hears_126 : decode cX11_hears 126 = .ok (.getfield 307, 3) := by decide +kernel
theorem dX11_hears_129 : decode cX11_hears 129 = .ok (.iastore, 1) := by decide +kernel
theorem dX11_hears_130 : decode cX11_hears 130 = .ok (.aload_n 0, 1) := by decide +kernel
theorem dX11_hears_131 : decode cX11_hears 131 = .ok (.getfield 47, 3) := by decide +kernel
theorem dX11_hears_134 : decode cX11_hears 134 = .ok (.iload_n 2, 1) := by decide +kernel
theorem dX11_hears_135 : decode cX11_hears 135 = .ok (.aaload, 1) := by decide +kernel
theorem dX11_hears_136 : decode cX11_hears 136 = .ok (.iload_n 3, 1) := by decide +kernel
theorem dX11_hears_137 : decode cX11_hears 137 = .ok (.iload 7, 2) := by decide +kernel
theorem dX11_hears_139 : decode cX11_hears 139 = .ok (.ifCond .ne 12, 3) := by decide +kernel
theorem dX11_hears_142 : decode cX11_hears 142 = .ok (.iload 6, 2) := by decide +kernel
theorem dX11_hears_144 : decode cX11_hears 144 = .ok (.ifCond .eq 7, 3) := by decide +kernel
theorem dX11_hears_147 : decode cX11_hears 147 = .ok (.iconst 1, 1) := by decide +kernel
theorem dX11_hears_148 : decode cX11_hears 148 = .ok (.goto 4, 3) := by decide +kernel
theorem dX11_hears_151 : decode cX11_hears 151 = .ok (.iconst 0, 1) := by decide +kernel
theorem dX11_hears_152 : decode cX11_hears 152 = .ok (.bastore, 1) := by decide +kernel
theorem dX11_hears_153 : decode cX11_hears 153 = .ok (.return_, 1) := by decide +kernel
theorem dX11_firstRound_0 : decode cX11_firstRound 0 = .ok (.iconst 0, 1) := by decide +kernel
theorem dX11_firstRound_1 : decode cX11_firstRound 1 = .ok (.istore_n 1, 1) := by decide +kernel
theorem dX11_firstRound_2 : decode cX11_firstRound 2 = .ok (.iload_n 1, 1) := by decide +kernel
theorem dX11_firstRound_3 : decode cX11_firstRound 3 = .ok (.aload_n 0, 1) := by decide +kernel
theorem dX11_firstRound_4 : decode cX11_firstRound 4 = .ok (.getfield 20, 3) := by decide +kernel
theorem dX11_firstRound_7 : decode cX11_firstRound 7 = .ok (.if_icmp .ge 46, 3) := by decide +kernel
theorem dX11_firstRound_10 : decode cX11_firstRound 10 = .ok (.iload_n 1, 1) := by decide +kernel
theorem dX11_firstRound_11 : decode cX11_firstRound 11 = .ok (.aload_n 0, 1) := by decide +kernel
theorem dX11_firstRound_12 : decode cX11_firstRound 12 = .ok (.getfield 39, 3) := by decide +kernel
theorem dX11_firstRound_15 : decode cX11_firstRound 15 = .ok (.if_icmp .eq 32, 3) := by decide +kernel
theorem dX11_firstRound_18 : decode cX11_firstRound 18 = .ok (.aload_n 0, 1) := by decide +kernel
theorem dX11_firstRound_19 : decode cX11_firstRound 19 = .ok (.aload_n 0, 1) := by decide +kernel
theorem dX11_firstRound_20 : decode cX11_firstRound 20 = .ok (.getfield 39, 3) := by decide +kernel
theorem dX11_firstRound_23 : decode cX11_firstRound 23 = .ok (.iload_n 1, 1) := by decide +kernel
theorem dX11_firstRound_24 : decode cX11_firstRound 24 = .ok (.iconst 0, 1) := by decide +kernel
theorem dX11_firstRound_25 : decode cX11_firstRound 25 = .ok (.aload_n 0, 1) := by decide +kernel
theorem dX11_firstRound_26 : decode cX11_firstRound 26 = .ok (.aload_n 0, 1) := by decide +kernel
theorem dX11_firstRound_27 : decode cX11_firstRound 27 = .ok (.getfield 39, 3) := by decide +kernel
theorem dX11_firstRound_30 : decode cX11_firstRound 30 = .ok (.iload_n 1, 1) := by decide +kernel
theorem dX11_firstRound_31 : decode cX11_firstRound 31 = .ok (.iconst 1, 1) := by decide +kernel
theorem dX11_firstRound_32 : decode cX11_firstRound 32 = .ok (.aload_n 0, 1) := by decide +kernel
theorem dX11_firstRound_33 : decode cX11_firstRound 33 = .ok (.getfield 39, 3) := by decide +kernel
theorem dX11_firstRound_36 : decode cX11_firstRound 36 = .ok (.aload_n 0, 1) := by decide +kernel
theorem dX11_firstRound_37 : decode cX11_firstRound 37 = .ok (.getfield 310, 3) := by decide +kernel
theorem dX11_firstRound_40 : decode cX11_firstRound 40 = .ok (.invokevirtual 313, 3) := by decide +kernel
theorem dX11_firstRound_43 : decode cX11_firstRound 43 = .ok (.iconst 1, 1) := by decide +kernel
theorem dX11_firstRound_44 : decode cX11_firstRound 44 = .ok (.invokevirtual 317, 3) := by decide +kernel
theorem dX11_firstRound_47 : decode cX11_firstRound 47 = .ok (.iinc 1 1, 3) := by decide +kernel
theorem dX11_firstRound_50 : decode cX11_firstRound 50 = .ok (.goto (-48), 3) := by decide +kernel
theorem dX11_firstRound_53 : decode cX11_firstRound 53 = .ok (.return_, 1) := by decide +kernel
theorem dX11_nextRound_0 : decode cX11_nextRound 0 = .ok (.iconst 0, 1) := by decide +kernel
theorem dX11_nextRound_1 : decode cX11_nextRound 1 = .ok (.istore_n 2, 1) := by decide +kernel
theorem dX11_nextRound_2 : decode cX11_nextRound 2 = .ok (.iload_n 2, 1) := by decide +kernel
theorem dX11_nextRound_3 : decode cX11_nextRound 3 = .ok (.aload_n 0, 1) := by decide +kernel
theorem dX11_nextRound_4 : decode cX11_nextRound 4 = .ok (.getfield 20, 3) := by decide +kernel
theorem dX11_nextRound_7 : decode cX11_nextRound 7 = .ok (.if_icmp .ge 160, 3) := by decide +kernel
theorem dX11_nextRound_10 : decode cX11_nextRound 10 = .ok (.iconst 0, 1) := by decide +kernel
theorem dX11_nextRound_11 : decode cX11_nextRound 11 = .ok (.istore_n 3, 1) := by decide +kernel
theorem dX11_nextRound_12 : decode cX11_nextRound 12 = .ok (.iload_n 3, 1) := by decide +kernel
theorem dX11_nextRound_13 : decode cX11_nextRound 13 = .ok (.bipush 57, 2) := by decide +kernel
theorem dX11_nextRound_15 : decode cX11_nextRound 15 = .ok (.if_icmp .ge 146, 3) := by decide +kernel
theorem dX11_nextRound_18 : decode cX11_nextRound 18 = .ok (.iload_n 2, 1) := by decide +kernel
theorem dX11_nextRound_19 : decode cX11_nextRound 19 = .ok (.aload_n 0, 1) := by decide +kernel
theorem dX11_nextRound_20 : decode cX11_nextRound 20 = .ok (.getfield 39, 3) := by decide +kernel
theorem dX11_nextRound_23 : decode cX11_nextRound 23 = .ok (.if_icmp .eq 138, 3) := by decide +kernel
theorem dX11_nextRound_26 : decode cX11_nextRound 26 = .ok (.iload_n 3, 1) := by decide +kernel
theorem dX11_nextRound_27 : decode cX11_nextRound 27 = .ok (.invokestatic 321, 3) := by decide +kernel
theorem dX11_nextRound_30 : decode cX11_nextRound 30 = .ok (.iload_n 1, 1) := by decide +kernel
theorem dX11_nextRound_31 : decode cX11_nextRound 31 = .ok (.iconst 1, 1) := by decide +kernel
theorem dX11_nextRound_32 : decode cX11_nextRound 32 = .ok (.isub, 1) := by decide +kernel
theorem dX11_nextRound_33 : decode cX11_nextRound 33 = .ok (.if_icmp .ne 122, 3) := by decide +kernel
theorem dX11_nextRound_36 : decode cX11_nextRound 36 = .ok (.aload_n 0, 1) := by decide +kernel
theorem dX11_nextRound_37 : decode cX11_nextRound 37 = .ok (.iload_n 3, 1) := by decide +kernel
theorem dX11_nextRound_38 : decode cX11_nextRound 38 = .ok (.invokevirtual 324, 3) := by decide +kernel
theorem dX11_nextRound_41 : decode cX11_nextRound 41 = .ok (.ifCond .eq 114, 3) := by decide +kernel
theorem dX11_nextRound_44 : decode cX11_nextRound 44 = .ok (.aload_n 0, 1) := by decide +kernel
theorem dX11_nextRound_45 : decode cX11_nextRound 45 = .ok (.iload_n 3, 1) := by decide +kernel
theorem dX11_nextRound_46 : decode cX11_nextRound 46 = .ok (.iload_n 2, 1) := by decide +kernel
theorem dX11_nextRound_47 : decode cX11_nextRound 47 = .ok (.invokevirtual 327, 3) := by decide +kernel
theorem dX11_nextRound_50 : decode cX11_nextRound 50 = .ok (.ifCond .eq 6, 3) := by decide +kernel
theorem dX11_nextRound_53 : decode cX11_nextRound 53 = .ok (.goto 102, 3) := by decide +kernel
theorem dX11_nextRound_56 : decode cX11_nextRound 56 = .ok (.iload_n 3, 1) := by decide +kernel
theorem dX11_nextRound_57 : decode cX11_nextRound 57 = .ok (.iload_n 2, 1) := by decide +kernel
theorem dX11_nextRound_58 : decode cX11_nextRound 58 = .ok (.invokestatic 331, 3) := by decide +kernel
theorem dX11_nextRound_61 : decode cX11_nextRound 61 = .ok (.istore 4, 2) := by decide +kernel
theorem dX11_nextRound_63 : decode cX11_nextRound 63 = .ok (.iconst 0, 1) := by decide +kernel
theorem dX11_nextRound_64 : decode cX11_nextRound 64 = .ok (.istore 5, 2) := by decide +kernel
theorem dX11_nextRound_66 : decode cX11_nextRound 66 = .ok (.iload 5, 2) := by decide +kernel
theorem dX11_nextRound_68 : decode cX11_nextRound 68 = .ok (.aload_n 0, 1) := by decide +kernel
theorem dX11_nextRound_69 : decode cX11_nextRound 69 = .ok (.getfield 20, 3) := by decide +kernel
theorem dX11_nextRound_72 : decode cX11_nextRound 72 = .ok (.if_icmp .ge 56, 3) := by decide +kernel
theorem dX11_nextRound_75 : decode cX11_nextRound 75 = .ok (.iload 5, 2) := by decide +kernel
theorem dX11_nextRound_77 : decode cX11_nextRound 77 = .ok (.iload_n 2, 1) := by decide +kernel
theorem dX11_nextRound_78 : decode cX11_nextRound 78 = .ok (.if_icmp .eq 44, 3) := by decide +kernel
theorem dX11_nextRound_81 : decode cX11_nextRound 81 = .ok (.aload_n 0, 1) := by decide +kernel
theorem dX11_nextRound_82 : decode cX11_nextRound 82 = .ok (.iload_n 3, 1) := by decide +kernel
theorem dX11_nextRound_83 : decode cX11_nextRound 83 = .ok (.iload 5, 2) := by decide +kernel
theorem dX11_nextRound_85 : decode cX11_nextRound 85 = .ok (.invokevirtual 327, 3) := by decide +kernel
theorem dX11_nextRound_88 : decode cX11_nextRound 88 = .ok (.ifCond .ne 34, 3) := by decide +kernel
theorem dX11_nextRound_91 : decode cX11_nextRound 91 = .ok (.aload_n 0, 1) := by decide +kernel
theorem dX11_nextRound_92 : decode cX11_nextRound 92 = .ok (.iload_n 2, 1) := by decide +kernel
theorem dX11_nextRound_93 : decode cX11_nextRound 93 = .ok (.iload 5, 2) := by decide +kernel
theorem dX11_nextRound_95 : decode cX11_nextRound 95 = .ok (.iload 4, 2) := by decide +kernel
theorem dX11_nextRound_97 : decode cX11_nextRound 97 = .ok (.aload_n 0, 1) := by decide +kernel
theorem dX11_nextRound_98 : decode cX11_nextRound 98 = .ok (.iload_n 2, 1) := by decide +kernel
theorem dX11_nextRound_99 : decode cX11_nextRound 99 = .ok (.iload 5, 2) := by decide +kernel
theorem dX11_nextRound_101 : decode cX11_nextRound 101 = .ok (.iload_n 1, 1) := by decide +kernel
theorem dX11_nextRound_102 : decode cX11_nextRound 102 = .ok (.aload_n 0, 1) := by decide +kernel
theorem dX11_nextRound_103 : decode cX11_nextRound 103 = .ok (.iload_n 3, 1) := by decide +kernel
theorem dX11_nextRound_104 : decode cX11_nextRound 104 = .ok (.invokevirtual 334, 3) := by decide +kernel
theorem dX11_nextRound_107 : decode cX11_nextRound 107 = .ok (.aload_n 0, 1) := by decide +kernel
theorem dX11_nextRound_108 : decode cX11_nextRound 108 = .ok (.getfield 42, 3) := by decide +kernel
theorem dX11_nextRound_111 : decode cX11_nextRound 111 = .ok (.iload_n 2, 1) := by decide +kernel
theorem dX11_nextRound_112 : decode cX11_nextRound 112 = .ok (.aaload, 1) := by decide +kernel
theorem dX11_nextRound_113 : decode cX11_nextRound 113 = .ok (.iload_n 3, 1) := by decide +kernel
theorem dX11_nextRound_114 : decode cX11_nextRound 114 = .ok (.iaload, 1) := by decide +kernel
theorem dX11_nextRound_115 : decode cX11_nextRound 115 = .ok (.invokevirtual 313, 3) := by decide +kernel
theorem dX11_nextRound_118 : decode cX11_nextRound 118 = .ok (.iload_n 1, 1) := by decide +kernel
theorem dX11_nextRound_119 : decode cX11_nextRound 119 = .ok (.invokevirtual 317, 3) := by decide +kernel
theorem dX11_nextRound_122 : decode cX11_nextRound 122 = .ok (.iinc 5 1, 3) := by decide +kernel
theorem dX11_nextRound_125 : decode cX11_nextRound 125 = .ok (.goto (-59), 3) := by decide +kernel
theorem dX11_nextRound_128 : decode cX11_nextRound 128 = .ok (.aload_n 0, 1) := by decide +kernel
theorem dX11_nextRound_129 : decode cX11_nextRound 129 = .ok (.getfield 42, 3) := by decide +kernel
theorem dX11_nextRound_132 : decode cX11_nextRound 132 = .ok (.iload_n 2, 1) := by decide +kernel
theorem dX11_nextRound_133 : decode cX11_nextRound 133 = .ok (.aaload, 1) := by decide +kernel
theorem dX11_nextRound_134 : decode cX11_nextRound 134 = .ok (.iload 4, 2) := by decide +kernel
theorem dX11_nextRound_136 : decode cX11_nextRound 136 = .ok (.aload_n 0, 1) := by decide +kernel
theorem dX11_nextRound_137 : decode cX11_nextRound 137 = .ok (.getfield 42, 3) := by decide +kernel
theorem dX11_nextRound_140 : decode cX11_nextRound 140 = .ok (.iload_n 2, 1) := by decide +kernel
theorem dX11_nextRound_141 : decode cX11_nextRound 141 = .ok (.aaload, 1) := by decide +kernel
theorem dX11_nextRound_142 : decode cX11_nextRound 142 = .ok (.iload_n 3, 1) := by decide +kernel
theorem dX11_nextRound_143 : decode cX11_nextRound 143 = .ok (.iaload, 1) := by decide +kernel
theorem dX11_nextRound_144 : decode cX11_nextRound 144 = .ok (.iastore, 1) := by decide +kernel
theorem dX11_nextRound_145 : decode cX11_nextRound 145 = .ok (.aload_n 0, 1) := by decide +kernel
theorem dX11_nextRound_146 : decode cX11_nextRound 146 = .ok (.getfield 47, 3) := by decide +kernel
theorem dX11_nextRound_149 : decode cX11_nextRound 149 = .ok (.iload_n 2, 1) := by decide +kernel
theorem dX11_nextRound_150 : decode cX11_nextRound 150 = .ok (.aaload, 1) := by decide +kernel
theorem dX11_nextRound_151 : decode cX11_nextRound 151 = .ok (.iload 4, 2) := by decide +kernel
theorem dX11_nextRound_153 : decode cX11_nextRound 153 = .ok (.iconst 0, 1) := by decide +kernel
theorem dX11_nextRound_154 : decode cX11_nextRound 154 = .ok (.bastore, 1) := by decide +kernel
theorem dX11_nextRound_155 : decode cX11_nextRound 155 = .ok (.iinc 3 1, 3) := by decide +kernel
theorem dX11_nextRound_158 : decode cX11_nextRound 158 = .ok (.goto (-146), 3) := by decide +kernel
theorem dX11_nextRound_161 : decode cX11_nextRound 161 = .ok (.iinc 2 1, 3) := by decide +kernel
theorem dX11_nextRound_164 : decode cX11_nextRound 164 = .ok (.goto (-162), 3) := by decide +kernel
theorem dX11_nextRound_167 : decode cX11_nextRound 167 = .ok (.return_, 1) := by decide +kernel
theorem dX11_hasHeard_0 : decode cX11_hasHeard 0 = .ok (.aload_n 0, 1) := by decide +kernel
theorem dX11_hasHeard_1 : decode cX11_hasHeard 1 = .ok (.iload_n 2, 1) := by decide +kernel
theorem dX11_hasHeard_2 : decode cX11_hasHeard 2 = .ok (.invokevirtual 324, 3) := by decide +kernel
theorem dX11_hasHeard_5 : decode cX11_hasHeard 5 = .ok (.ifCond .eq 24, 3) := by decide +kernel
theorem dX11_hasHeard_8 : decode cX11_hasHeard 8 = .ok (.iload_n 1, 1) := by decide +kernel
theorem dX11_hasHeard_9 : decode cX11_hasHeard 9 = .ok (.aload_n 0, 1) := by decide +kernel
theorem dX11_hasHeard_10 : decode cX11_hasHeard 10 = .ok (.getfield 39, 3) := by decide +kernel
theorem dX11_hasHeard_13 : decode cX11_hasHeard 13 = .ok (.if_icmp .eq 16, 3) := by decide +kernel
theorem dX11_hasHeard_16 : decode cX11_hasHeard 16 = .ok (.iload_n 2, 1) := by decide +kernel
theorem dX11_hasHeard_17 : decode cX11_hasHeard 17 = .ok (.invokestatic 321, 3) := by decide +kernel
theorem dX11_hasHeard_20 : decode cX11_hasHeard 20 = .ok (.aload_n 0, 1) := by decide +kernel
theorem dX11_hasHeard_21 : decode cX11_hasHeard 21 = .ok (.getfield 23, 3) := by decide +kernel
theorem dX11_hasHeard_24 : decode cX11_hasHeard 24 = .ok (.iconst 1, 1) := by decide +kernel
theorem dX11_hasHeard_25 : decode cX11_hasHeard 25 = .ok (.iadd, 1) := by decide +kernel
theorem dX11_hasHeard_26 : decode cX11_hasHeard 26 = .ok (.if_icmp .le 5, 3) := by decide +kernel
theorem dX11_hasHeard_29 : decode cX11_hasHeard 29 = .ok (.iconst 0, 1) := by decide +kernel
theorem dX11_hasHeard_30 : decode cX11_hasHeard 30 = .ok (.ireturn, 1) := by decide +kernel
theorem dX11_hasHeard_31 : decode cX11_hasHeard 31 = .ok (.aload_n 0, 1) := by decide +kernel
theorem dX11_hasHeard_32 : decode cX11_hasHeard 32 = .ok (.iload_n 2, 1) := by decide +kernel
theorem dX11_hasHeard_33 : decode cX11_hasHeard 33 = .ok (.iload_n 1, 1) := by decide +kernel
theorem dX11_hasHeard_34 : decode cX11_hasHeard 34 = .ok (.invokevirtual 327, 3) := by decide +kernel
theorem dX11_hasHeard_37 : decode cX11_hasHeard 37 = .ok (.ifCond .eq 16, 3) := by decide +kernel
theorem dX11_hasHeard_40 : decode cX11_hasHeard 40 = .ok (.iload_n 2, 1) := by decide +kernel
theorem dX11_hasHeard_41 : decode cX11_hasHeard 41 = .ok (.ifCond .le 16, 3) := by decide +kernel
theorem dX11_hasHeard_44 : decode cX11_hasHeard 44 = .ok (.aload_n 0, 1) := by decide +kernel
theorem dX11_hasHeard_45 : decode cX11_hasHeard 45 = .ok (.iload_n 2, 1) := by decide +kernel
theorem dX11_hasHeard_46 : decode cX11_hasHeard 46 = .ok (.invokevirtual 334, 3) := by decide +kernel
theorem dX11_hasHeard_49 : decode cX11_hasHeard 49 = .ok (.iload_n 1, 1) := by decide +kernel
theorem dX11_hasHeard_50 : decode cX11_hasHeard 50 = .ok (.if_icmp .ne 7, 3) := by decide +kernel
theorem dX11_hasHeard_53 : decode cX11_hasHeard 53 = .ok (.iconst 1, 1) := by decide +kernel
theorem dX11_hasHeard_54 : decode cX11_hasHeard 54 = .ok (.goto 4, 3) := by decide +kernel
theorem dX11_hasHeard_57 : decode cX11_hasHeard 57 = .ok (.iconst 0, 1) := by decide +kernel
theorem dX11_hasHeard_58 : decode cX11_hasHeard 58 = .ok (.ireturn, 1) := by decide +kernel
theorem dX11_mostTold_0 : decode cX11_mostTold 0 = .ok (.iconst 0, 1) := by decide +kernel
theorem dX11_mostTold_1 : decode cX11_mostTold 1 = .ok (.istore_n 3, 1) := by decide +kernel
theorem dX11_mostTold_2 : decode cX11_mostTold 2 = .ok (.iconst 0, 1) := by decide +kernel
theorem dX11_mostTold_3 : decode cX11_mostTold 3 = .ok (.istore 4, 2) := by decide +kernel
theorem dX11_mostTold_5 : decode cX11_mostTold 5 = .ok (.iload 4, 2) := by decide +kernel
theorem dX11_mostTold_7 : decode cX11_mostTold 7 = .ok (.aload_n 0, 1) := by decide +kernel
theorem dX11_mostTold_8 : decode cX11_mostTold 8 = .ok (.getfield 20, 3) := by decide +kernel
theorem dX11_mostTold_11 : decode cX11_mostTold 11 = .ok (.if_icmp .ge 105, 3) := by decide +kernel
theorem dX11_mostTold_14 : decode cX11_mostTold 14 = .ok (.aload_n 0, 1) := by decide +kernel
theorem dX11_mostTold_15 : decode cX11_mostTold 15 = .ok (.iload_n 2, 1) := by decide +kernel
theorem dX11_mostTold_16 : decode cX11_mostTold 16 = .ok (.iload 4, 2) := by decide +kernel
theorem dX11_mostTold_18 : decode cX11_mostTold 18 = .ok (.invokevirtual 327, 3) := by decide +kernel
theorem dX11_mostTold_21 : decode cX11_mostTold 21 = .ok (.ifCond .eq 6, 3) := by decide +kernel
theorem dX11_mostTold_24 : decode cX11_mostTold 24 = .ok (.goto 86, 3) := by decide +kernel
theorem dX11_mostTold_27 : decode cX11_mostTold 27 = .ok (.iconst 0, 1) := by decide +kernel
theorem dX11_mostTold_28 : decode cX11_mostTold 28 = .ok (.istore 5, 2) := by decide +kernel
theorem dX11_mostTold_30 : decode cX11_mostTold 30 = .ok (.iconst 0, 1) := by decide +kernel
theorem dX11_mostTold_31 : decode cX11_mostTold 31 = .ok (.istore 6, 2) := by decide +kernel
theorem dX11_mostTold_33 : decode cX11_mostTold 33 = .ok (.iload 6, 2) := by decide +kernel
theorem dX11_mostTold_35 : decode cX11_mostTold 35 = .ok (.aload_n 0, 1) := by decide +kernel
theorem dX11_mostTold_36 : decode cX11_mostTold 36 = .ok (.getfield 20, 3) := by decide +kernel
theorem dX11_mostTold_39 : decode cX11_mostTold 39 = .ok (.if_icmp .ge 58, 3) := by decide +kernel
theorem dX11_mostTold_42 : decode cX11_mostTold 42 = .ok (.iload 5, 2) := by decide +kernel
theorem dX11_mostTold_44 : decode cX11_mostTold 44 = .ok (.aload_n 0, 1) := by decide +kernel
theorem dX11_mostTold_45 : decode cX11_mostTold 45 = .ok (.iload_n 2, 1) := by decide +kernel
theorem dX11_mostTold_46 : decode cX11_mostTold 46 = .ok (.iload 6, 2) := by decide +kernel
theorem dX11_mostTold_48 : decode cX11_mostTold 48 = .ok (.invokevirtual 327, 3) := by decide +kernel
theorem dX11_mostTold_51 : decode cX11_mostTold 51 = .ok (.ifCond .ne 36, 3) := by decide +kernel
theorem dX11_mostTold_54 : decode cX11_mostTold 54 = .ok (.aload_n 0, 1) := by decide +kernel
theorem dX11_mostTold_55 : decode cX11_mostTold 55 = .ok (.getfield 42, 3) := by decide +kernel
theorem dX11_mostTold_58 : decode cX11_mostTold 58 = .ok (.iload_n 1, 1) := by decide +kernel
theorem dX11_mostTold_59 : decode cX11_mostTold 59 = .ok (.aaload, 1) := by decide +kernel
theorem dX11_mostTold_60 : decode cX11_mostTold 60 = .ok (.iload_n 2, 1) := by decide +kernel
theorem dX11_mostTold_61 : decode cX11_mostTold 61 = .ok (.iload 6, 2) := by decide +kernel
theorem dX11_mostTold_63 : decode cX11_mostTold 63 = .ok (.invokestatic 331, 3) := by decide +kernel
theorem dX11_mostTold_66 : decode cX11_mostTold 66 = .ok (.iaload, 1) := by decide +kernel
theorem dX11_mostTold_67 : decode cX11_mostTold 67 = .ok (.aload_n 0, 1) := by decide +kernel
theorem dX11_mostTold_68 : decode cX11_mostTold 68 = .ok (.getfield 42, 3) := by decide +kernel
theorem dX11_mostTold_71 : decode cX11_mostTold 71 = .ok (.iload_n 1, 1) := by decide +kernel
theorem dX11_mostTold_72 : decode cX11_mostTold 72 = .ok (.aaload, 1) := by decide +kernel
theorem dX11_mostTold_73 : decode cX11_mostTold 73 = .ok (.iload_n 2, 1) := by decide +kernel
theorem dX11_mostTold_74 : decode cX11_mostTold 74 = .ok (.iload 4, 2) := by decide +kernel
theorem dX11_mostTold_76 : decode cX11_mostTold 76 = .ok (.invokestatic 331, 3) := by decide +kernel
theorem dX11_mostTold_79 : decode cX11_mostTold 79 = .ok (.iaload, 1) := by decide +kernel
theorem dX11_mostTold_80 : decode cX11_mostTold 80 = .ok (.if_icmp .ne 7, 3) := by decide +kernel
theorem dX11_mostTold_83 : decode cX11_mostTold 83 = .ok (.iconst 1, 1) := by decide +kernel
theorem dX11_mostTold_84 : decode cX11_mostTold 84 = .ok (.goto 4, 3) := by decide +kernel
theorem dX11_mostTold_87 : decode cX11_mostTold 87 = .ok (.iconst 0, 1) := by decide +kernel
theorem dX11_mostTold_88 : decode cX11_mostTold 88 = .ok (.iadd, 1) := by decide +kernel
theorem dX11_mostTold_89 : decode cX11_mostTold 89 = .ok (.istore 5, 2) := by decide +kernel
theorem dX11_mostTold_91 : decode cX11_mostTold 91 = .ok (.iinc 6 1, 3) := by decide +kernel
theorem dX11_mostTold_94 : decode cX11_mostTold 94 = .ok (.goto (-61), 3) := by decide +kernel
theorem dX11_mostTold_97 : decode cX11_mostTold 97 = .ok (.iload 5, 2) := by decide +kernel
theorem dX11_mostTold_99 : decode cX11_mostTold 99 = .ok (.iload_n 3, 1) := by decide +kernel
theorem dX11_mostTold_100 : decode cX11_mostTold 100 = .ok (.if_icmp .le 8, 3) := by decide +kernel
theorem dX11_mostTold_103 : decode cX11_mostTold 103 = .ok (.iload 5, 2) := by decide +kernel
theorem dX11_mostTold_105 : decode cX11_mostTold 105 = .ok (.goto 4, 3) := by decide +kernel
theorem dX11_mostTold_108 : decode cX11_mostTold 108 = .ok (.iload_n 3, 1) := by decide +kernel
theorem dX11_mostTold_109 : decode cX11_mostTold 109 = .ok (.istore_n 3, 1) := by decide +kernel
theorem dX11_mostTold_110 : decode cX11_mostTold 110 = .ok (.iinc 4 1, 3) := by decide +kernel
theorem dX11_mostTold_113 : decode cX11_mostTold 113 = .ok (.goto (-108), 3) := by decide +kernel
theorem dX11_mostTold_116 : decode cX11_mostTold 116 = .ok (.iload_n 3, 1) := by decide +kernel
theorem dX11_mostTold_117 : decode cX11_mostTold 117 = .ok (.ireturn, 1) := by decide +kernel
theorem dX11_finds_0 : decode cX11_finds 0 = .ok (.aload_n 0, 1) := by decide +kernel
theorem dX11_finds_1 : decode cX11_finds 1 = .ok (.getfield 50, 3) := by decide +kernel
theorem dX11_finds_4 : decode cX11_finds 4 = .ok (.iload_n 1, 1) := by decide +kernel
theorem dX11_finds_5 : decode cX11_finds 5 = .ok (.aaload, 1) := by decide +kernel
theorem dX11_finds_6 : decode cX11_finds 6 = .ok (.iload_n 2, 1) := by decide +kernel
theorem dX11_finds_7 : decode cX11_finds 7 = .ok (.iconst 1, 1) := by decide +kernel
theorem dX11_finds_8 : decode cX11_finds 8 = .ok (.isub, 1) := by decide +kernel
theorem dX11_finds_9 : decode cX11_finds 9 = .ok (.iaload, 1) := by decide +kernel
theorem dX11_finds_10 : decode cX11_finds 10 = .ok (.istore_n 3, 1) := by decide +kernel
theorem dX11_finds_11 : decode cX11_finds 11 = .ok (.iconst 0, 1) := by decide +kernel
theorem dX11_finds_12 : decode cX11_finds 12 = .ok (.istore 4, 2) := by decide +kernel
theorem dX11_finds_14 : decode cX11_finds 14 = .ok (.iload 4, 2) := by decide +kernel
theorem dX11_finds_16 : decode cX11_finds 16 = .ok (.bipush 57, 2) := by decide +kernel
theorem dX11_finds_18 : decode cX11_finds 18 = .ok (.if_icmp .ge 126, 3) := by decide +kernel
theorem dX11_finds_21 : decode cX11_finds 21 = .ok (.aload_n 0, 1) := by decide +kernel
theorem dX11_finds_22 : decode cX11_finds 22 = .ok (.iload 4, 2) := by decide +kernel
theorem dX11_finds_24 : decode cX11_finds 24 = .ok (.invokevirtual 324, 3) := by decide +kernel
theorem dX11_finds_27 : decode cX11_finds 27 = .ok (.ifCond .ne 6, 3) := by decide +kernel
theorem dX11_finds_30 : decode cX11_finds 30 = .ok (.goto 108, 3) := by decide +kernel
theorem dX11_finds_33 : decode cX11_finds 33 = .ok (.iload 4, 2) := by decide +kernel
theorem dX11_finds_35 : decode cX11_finds 35 = .ok (.invokestatic 321, 3) := by decide +kernel
theorem dX11_finds_38 : decode cX11_finds 38 = .ok (.iload_n 2, 1) := by decide +kernel
theorem dX11_finds_39 : decode cX11_finds 39 = .ok (.if_icmp .ne 36, 3) := by decide +kernel
theorem dX11_finds_42 : decode cX11_finds 42 = .ok (.aload_n 0, 1) := by decide +kernel
theorem dX11_finds_43 : decode cX11_finds 43 = .ok (.iload_n 1, 1) := by decide +kernel
theorem dX11_finds_44 : decode cX11_finds 44 = .ok (.iload 4, 2) := by decide +kernel
theorem dX11_finds_46 : decode cX11_finds 46 = .ok (.invokevirtual 337, 3) := by decide +kernel
theorem dX11_finds_49 : decode cX11_finds 49 = .ok (.ifCond .eq 26, 3) := by decide +kernel
theorem dX11_finds_52 : decode cX11_finds 52 = .ok (.aload_n 0, 1) := by decide +kernel
theorem dX11_finds_53 : decode cX11_finds 53 = .ok (.getfield 47, 3) := by decide +kernel
theorem dX11_finds_56 : decode cX11_finds 56 = .ok (.iload_n 1, 1) := by decide +kernel
theorem dX11_finds_57 : decode cX11_finds 57 = .ok (.aaload, 1) := by decide +kernel
theorem dX11_finds_58 : decode cX11_finds 58 = .ok (.iload 4, 2) := by decide +kernel
theorem dX11_finds_60 : decode cX11_finds 60 = .ok (.baload, 1) := by decide +kernel
theorem dX11_finds_61 : decode cX11_finds 61 = .ok (.ifCond .eq 14, 3) := by decide +kernel
theorem dX11_finds_64 : decode cX11_finds 64 = .ok (.iload_n 3, 1) := by decide +kernel
theorem dX11_finds_65 : decode cX11_finds 65 = .ok (.iconst 1, 1) := by decide +kernel
theorem dX11_finds_66 : decode cX11_finds 66 = .ok (.aload_n 0, 1) := by decide +kernel
theorem dX11_finds_67 : decode cX11_finds 67 = .ok (.iload 4, 2) := by decide +kernel
theorem dX11_finds_69 : decode cX11_finds 69 = .ok (.invokevirtual 334, 3) := by decide +kernel
theorem dX11_finds_72 : decode cX11_finds 72 = .ok (.ishl, 1) := by decide +kernel
theorem dX11_finds_73 : decode cX11_finds 73 = .ok (.ior, 1) := by decide +kernel
theorem dX11_finds_74 : decode cX11_finds 74 = .ok (.istore_n 3, 1) := by decide +kernel
theorem dX11_finds_75 : decode cX11_finds 75 = .ok (.iload_n 2, 1) := by decide +kernel
theorem dX11_finds_76 : decode cX11_finds 76 = .ok (.iconst 2, 1) := by decide +kernel
theorem dX11_finds_77 : decode cX11_finds 77 = .ok (.if_icmp .lt 61, 3) := by decide +kernel
theorem dX11_finds_80 : decode cX11_finds 80 = .ok (.iload 4, 2) := by decide +kernel
theorem dX11_finds_82 : decode cX11_finds 82 = .ok (.invokestatic 321, 3) := by decide +kernel
theorem dX11_finds_85 : decode cX11_finds 85 = .ok (.iload_n 2, 1) := by decide +kernel
theorem dX11_finds_86 : decode cX11_finds 86 = .ok (.iconst 1, 1) := by decide +kernel
theorem dX11_finds_87 : decode cX11_finds 87 = .ok (.isub, 1) := by decide +kernel
theorem dX11_finds_88 : decode cX11_finds 88 = .ok (.if_icmp .ne 50, 3) := by decide +kernel
theorem dX11_finds_91 : decode cX11_finds 91 = .ok (.aload_n 0, 1) := by decide +kernel
theorem dX11_finds_92 : decode cX11_finds 92 = .ok (.iload 4, 2) := by decide +kernel
theorem dX11_finds_94 : decode cX11_finds 94 = .ok (.iload_n 1, 1) := by decide +kernel
theorem dX11_finds_95 : decode cX11_finds 95 = .ok (.invokevirtual 327, 3) := by decide +kernel
theorem dX11_finds_98 : decode cX11_finds 98 = .ok (.ifCond .eq 6, 3) := by decide +kernel
theorem dX11_finds_101 : decode cX11_finds 101 = .ok (.goto 37, 3) := by decide +kernel
theorem dX11_finds_104 : decode cX11_finds 104 = .ok (.aload_n 0, 1) := by decide +kernel
theorem dX11_finds_105 : decode cX11_finds 105 = .ok (.iload_n 1, 1) := by decide +kernel
theorem dX11_finds_106 : decode cX11_finds 106 = .ok (.iload 4, 2) := by decide +kernel
theorem dX11_finds_108 : decode cX11_finds 108 = .ok (.invokevirtual 340, 3) := by decide +kernel
theorem dX11_finds_111 : decode cX11_finds 111 = .ok (.aload_n 0, 1) := by decide +kernel
theorem dX11_finds_112 : decode cX11_finds 112 = .ok (.getfield 20, 3) := by decide +kernel
theorem dX11_finds_115 : decode cX11_finds 115 = .ok (.iload_n 2, 1) := by decide +kernel
theorem dX11_finds_116 : decode cX11_finds 116 = .ok (.isub, 1) := by decide +kernel
theorem dX11_finds_117 : decode cX11_finds 117 = .ok (.iconst 1, 1) := by decide +kernel
theorem dX11_finds_118 : decode cX11_finds 118 = .ok (.iadd, 1) := by decide +kernel
theorem dX11_finds_119 : decode cX11_finds 119 = .ok (.aload_n 0, 1) := by decide +kernel
theorem dX11_finds_120 : decode cX11_finds 120 = .ok (.getfield 23, 3) := by decide +kernel
theorem dX11_finds_123 : decode cX11_finds 123 = .ok (.isub, 1) := by decide +kernel
theorem dX11_finds_124 : decode cX11_finds 124 = .ok (.if_icmp .ge 14, 3) := by decide +kernel
theorem dX11_finds_127 : decode cX11_finds 127 = .ok (.iload_n 3, 1) := by decide +kernel
theorem dX11_finds_128 : decode cX11_finds 128 = .ok (.iconst 1, 1) := by decide +kernel
theorem dX11_finds_129 : decode cX11_finds 129 = .ok (.aload_n 0, 1) := by decide +kernel
theorem dX11_finds_130 : decode cX11_finds 130 = .ok (.iload 4, 2) := by decide +kernel
theorem dX11_finds_132 : decode cX11_finds 132 = .ok (.invokevirtual 334, 3) := by decide +kernel
theorem dX11_finds_135 : decode cX11_finds 135 = .ok (.ishl, 1) := by decide +kernel
theorem dX11_finds_136 : decode cX11_finds 136 = .ok (.ior, 1) := by decide +kernel
theorem dX11_finds_137 : decode cX11_finds 137 = .ok (.istore_n 3, 1) := by decide +kernel
theorem dX11_finds_138 : decode cX11_finds 138 = .ok (.iinc 4 1, 3) := by decide +kernel
theorem dX11_finds_141 : decode cX11_finds 141 = .ok (.goto (-127), 3) := by decide +kernel
theorem dX11_finds_144 : decode cX11_finds 144 = .ok (.aload_n 0, 1) := by decide +kernel
theorem dX11_finds_145 : decode cX11_finds 145 = .ok (.getfield 50, 3) := by decide +kernel
theorem dX11_finds_148 : decode cX11_finds 148 = .ok (.iload_n 1, 1) := by decide +kernel
theorem dX11_finds_149 : decode cX11_finds 149 = .ok (.aaload, 1) := by decide +kernel
theorem dX11_finds_150 : decode cX11_finds 150 = .ok (.iload_n 2, 1) := by decide +kernel
theorem dX11_finds_151 : decode cX11_finds 151 = .ok (.iload_n 3, 1) := by decide +kernel
theorem dX11_finds_152 : decode cX11_finds 152 = .ok (.iastore, 1) := by decide +kernel
theorem dX11_finds_153 : decode cX11_finds 153 = .ok (.return_, 1) := by decide +kernel
theorem dX11_goesBy_0 : decode cX11_goesBy 0 = .ok (.aload_n 0, 1) := by decide +kernel
theorem dX11_goesBy_1 : decode cX11_goesBy 1 = .ok (.iload_n 1, 1) := by decide +kernel
theorem dX11_goesBy_2 : decode cX11_goesBy 2 = .ok (.putfield 39, 3) := by decide +kernel
theorem dX11_goesBy_5 : decode cX11_goesBy 5 = .ok (.aload_n 0, 1) := by decide +kernel
theorem dX11_goesBy_6 : decode cX11_goesBy 6 = .ok (.iconst 0, 1) := by decide +kernel
theorem dX11_goesBy_7 : decode cX11_goesBy 7 = .ok (.putfield 173, 3) := by decide +kernel
theorem dX11_goesBy_10 : decode cX11_goesBy 10 = .ok (.aload_n 0, 1) := by decide +kernel
theorem dX11_goesBy_11 : decode cX11_goesBy 11 = .ok (.iconst 0, 1) := by decide +kernel
theorem dX11_goesBy_12 : decode cX11_goesBy 12 = .ok (.putfield 176, 3) := by decide +kernel
theorem dX11_goesBy_15 : decode cX11_goesBy 15 = .ok (.aload_n 0, 1) := by decide +kernel
theorem dX11_goesBy_16 : decode cX11_goesBy 16 = .ok (.aload_n 0, 1) := by decide +kernel
theorem dX11_goesBy_17 : decode cX11_goesBy 17 = .ok (.getfield 170, 3) := by decide +kernel
theorem dX11_goesBy_20 : decode cX11_goesBy 20 = .ok (.putfield 307, 3) := by decide +kernel
theorem dX11_goesBy_23 : decode cX11_goesBy 23 = .ok (.aload_n 0, 1) := by decide +kernel
theorem dX11_goesBy_24 : decode cX11_goesBy 24 = .ok (.aload_n 0, 1) := by decide +kernel
theorem dX11_goesBy_25 : decode cX11_goesBy 25 = .ok (.getfield 26, 3) := by decide +kernel
theorem dX11_goesBy_28 : decode cX11_goesBy 28 = .ok (.aload_n 0, 1) := by decide +kernel
theorem dX11_goesBy_29 : decode cX11_goesBy 29 = .ok (.getfield 39, 3) := by decide +kernel
theorem dX11_goesBy_32 : decode cX11_goesBy 32 = .ok (.iaload, 1) := by decide +kernel
theorem dX11_goesBy_33 : decode cX11_goesBy 33 = .ok (.putfield 310, 3) := by decide +kernel
theorem dX11_goesBy_36 : decode cX11_goesBy 36 = .ok (.aload_n 0, 1) := by decide +kernel
theorem dX11_goesBy_37 : decode cX11_goesBy 37 = .ok (.iconst 0, 1) := by decide +kernel
theorem dX11_goesBy_38 : decode cX11_goesBy 38 = .ok (.putfield 343, 3) := by decide +kernel
theorem dX11_goesBy_41 : decode cX11_goesBy 41 = .ok (.iconst 0, 1) := by decide +kernel
theorem dX11_goesBy_42 : decode cX11_goesBy 42 = .ok (.istore_n 2, 1) := by decide +kernel
theorem dX11_goesBy_43 : decode cX11_goesBy 43 = .ok (.iload_n 2, 1) := by decide +kernel
theorem dX11_goesBy_44 : decode cX11_goesBy 44 = .ok (.aload_n 0, 1) := by decide +kernel
theorem dX11_goesBy_45 : decode cX11_goesBy 45 = .ok (.getfield 20, 3) := by decide +kernel
theorem dX11_goesBy_48 : decode cX11_goesBy 48 = .ok (.if_icmp .ge 62, 3) := by decide +kernel
theorem dX11_goesBy_51 : decode cX11_goesBy 51 = .ok (.aload_n 0, 1) := by decide +kernel
theorem dX11_goesBy_52 : decode cX11_goesBy 52 = .ok (.dup, 1) := by decide +kernel
theorem dX11_goesBy_53 : decode cX11_goesBy 53 = .ok (.getfield 343, 3) := by decide +kernel
theorem dX11_goesBy_56 : decode cX11_goesBy 56 = .ok (.aload_n 0, 1) := by decide +kernel
theorem dX11_goesBy_57 : decode cX11_goesBy 57 = .ok (.iload_n 2, 1) := by decide +kernel
theorem dX11_goesBy_58 : decode cX11_goesBy 58 = .ok (.invokevirtual 295, 3) := by decide +kernel
theorem dX11_goesBy_61 : decode cX11_goesBy 61 = .ok (.ifCond .eq 9, 3) := by decide +kernel
theorem dX11_goesBy_64 : decode cX11_goesBy 64 = .ok (.iconst 1, 1) := by decide +kernel
theorem dX11_goesBy_65 : decode cX11_goesBy 65 = .ok (.iload_n 2, 1) := by decide +kernel
theorem dX11_goesBy_66 : decode cX11_goesBy 66 = .ok (.ishl, 1) := by decide +kernel
theorem dX11_goesBy_67 : decode cX11_goesBy 67 = .ok (.goto 4, 3) := by decide +kernel
theorem dX11_goesBy_70 : decode cX11_goesBy 70 = .ok (.iconst 0, 1) := by decide +kernel
theorem dX11_goesBy_71 : decode cX11_goesBy 71 = .ok (.ior, 1) := by decide +kernel
theorem dX11_goesBy_72 : decode cX11_goesBy 72 = .ok (.putfield 343, 3) := by decide +kernel
theorem dX11_goesBy_75 : decode cX11_goesBy 75 = .ok (.aload_n 0, 1) := by decide +kernel
theorem dX11_goesBy_76 : decode cX11_goesBy 76 = .ok (.getfield 53, 3) := by decide +kernel
theorem dX11_goesBy_79 : decode cX11_goesBy 79 = .ok (.iload_n 2, 1) := by decide +kernel
theorem dX11_goesBy_80 : decode cX11_goesBy 80 = .ok (.iconst 0, 1) := by decide +kernel
theorem dX11_goesBy_81 : decode cX11_goesBy 81 = .ok (.iastore, 1) := by decide +kernel
theorem dX11_goesBy_82 : decode cX11_goesBy 82 = .ok (.iconst 0, 1) := by decide +kernel
theorem dX11_goesBy_83 : decode cX11_goesBy 83 = .ok (.istore_n 3, 1) := by decide +kernel
theorem dX11_goesBy_84 : decode cX11_goesBy 84 = .ok (.iload_n 3, 1) := by decide +kernel
theorem dX11_goesBy_85 : decode cX11_goesBy 85 = .ok (.iconst 5, 1) := by decide +kernel
theorem dX11_goesBy_86 : decode cX11_goesBy 86 = .ok (.if_icmp .ge 18, 3) := by decide +kernel
theorem dX11_goesBy_89 : decode cX11_goesBy 89 = .ok (.aload_n 0, 1) := by decide +kernel
theorem dX11_goesBy_90 : decode cX11_goesBy 90 = .ok (.getfield 50, 3) := by decide +kernel
theorem dX11_goesBy_93 : decode cX11_goesBy 93 = .ok (.iload_n 2, 1) := by decide +kernel
theorem dX11_goesBy_94 : decode cX11_goesBy 94 = .ok (.aaload, 1) := by decide +kernel
theorem dX11_goesBy_95 : decode cX11_goesBy 95 = .ok (.iload_n 3, 1) := by decide +kernel
theorem dX11_goesBy_96 : decode cX11_goesBy 96 = .ok (.iconst 0, 1) := by decide +kernel
theorem dX11_goesBy_97 : decode cX11_goesBy 97 = .ok (.iastore, 1) := by decide +kernel
theorem dX11_goesBy_98 : decode cX11_goesBy 98 = .ok (.iinc 3 1, 3) := by decide +kernel
theorem dX11_goesBy_101 : decode cX11_goesBy 101 = .ok (.goto (-17), 3) := by decide +kernel
theorem dX11_goesBy_104 : decode cX11_goesBy 104 = .ok (.iinc 2 1, 3) := by decide +kernel
theorem dX11_goesBy_107 : decode cX11_goesBy 107 = .ok (.goto (-64), 3) := by decide +kernel
theorem dX11_goesBy_110 : decode cX11_goesBy 110 = .ok (.iconst 1, 1) := by decide +kernel
theorem dX11_goesBy_111 : decode cX11_goesBy 111 = .ok (.istore_n 2, 1) := by decide +kernel
theorem dX11_goesBy_112 : decode cX11_goesBy 112 = .ok (.iload_n 2, 1) := by decide +kernel
theorem dX11_goesBy_113 : decode cX11_goesBy 113 = .ok (.aload_n 0, 1) := by decide +kernel
theorem dX11_goesBy_114 : decode cX11_goesBy 114 = .ok (.getfield 23, 3) := by decide +kernel
theorem dX11_goesBy_117 : decode cX11_goesBy 117 = .ok (.iconst 1, 1) := by decide +kernel
theorem dX11_goesBy_118 : decode cX11_goesBy 118 = .ok (.iadd, 1) := by decide +kernel
theorem dX11_goesBy_119 : decode cX11_goesBy 119 = .ok (.if_icmp .gt 56, 3) := by decide +kernel
theorem dX11_goesBy_122 : decode cX11_goesBy 122 = .ok (.iload_n 2, 1) := by decide +kernel
theorem dX11_goesBy_123 : decode cX11_goesBy 123 = .ok (.iconst 1, 1) := by decide +kernel
theorem dX11_goesBy_124 : decode cX11_goesBy 124 = .ok (.if_icmp .ne 10, 3) := by decide +kernel
theorem dX11_goesBy_127 : decode cX11_goesBy 127 = .ok (.aload_n 0, 1) := by decide +kernel
theorem dX11_goesBy_128 : decode cX11_goesBy 128 = .ok (.invokevirtual 346, 3) := by decide +kernel
theorem dX11_goesBy_131 : decode cX11_goesBy 131 = .ok (.goto 8, 3) := by decide +kernel
theorem dX11_goesBy_134 : decode cX11_goesBy 134 = .ok (.aload_n 0, 1) := by decide +kernel
theorem dX11_goesBy_135 : decode cX11_goesBy 135 = .ok (.iload_n 2, 1) := by decide +kernel
theorem dX11_goesBy_136 : decode cX11_goesBy 136 = .ok (.invokevirtual 349, 3) := by decide +kernel
theorem dX11_goesBy_139 : decode cX11_goesBy 139 = .ok (.iconst 0, 1) := by decide +kernel
theorem dX11_goesBy_140 : decode cX11_goesBy 140 = .ok (.istore_n 3, 1) := by decide +kernel
theorem dX11_goesBy_141 : decode cX11_goesBy 141 = .ok (.iload_n 3, 1) := by decide +kernel
theorem dX11_goesBy_142 : decode cX11_goesBy 142 = .ok (.aload_n 0, 1) := by decide +kernel
theorem dX11_goesBy_143 : decode cX11_goesBy 143 = .ok (.getfield 20, 3) := by decide +kernel
theorem dX11_goesBy_146 : decode cX11_goesBy 146 = .ok (.if_icmp .ge 23, 3) := by decide +kernel
theorem dX11_goesBy_149 : decode cX11_goesBy 149 = .ok (.iload_n 3, 1) := by decide +kernel
theorem dX11_goesBy_150 : decode cX11_goesBy 150 = .ok (.aload_n 0, 1) := by decide +kernel
theorem dX11_goesBy_151 : decode cX11_goesBy 151 = .ok (.getfield 39, 3) := by decide +kernel
theorem dX11_goesBy_154 : decode cX11_goesBy 154 = .ok (.if_icmp .eq 9, 3) := by decide +kernel
theorem dX11_goesBy_157 : decode cX11_goesBy 157 = .ok (.aload_n 0, 1) := by decide +kernel
theorem dX11_goesBy_158 : decode cX11_goesBy 158 = .ok (.iload_n 3, 1) := by decide +kernel
theorem dX11_goesBy_159 : decode cX11_goesBy 159 = .ok (.iload_n 2, 1) := by decide +kernel
theorem dX11_goesBy_160 : decode cX11_goesBy 160 = .ok (.invokevirtual 352, 3) := by decide +kernel
theorem dX11_goesBy_163 : decode cX11_goesBy 163 = .ok (.iinc 3 1, 3) := by decide +kernel
theorem dX11_goesBy_166 : decode cX11_goesBy 166 = .ok (.goto (-25), 3) := by decide +kernel
theorem dX11_goesBy_169 : decode cX11_goesBy 169 = .ok (.iinc 2 1, 3) := by decide +kernel
theorem dX11_goesBy_172 : decode cX11_goesBy 172 = .ok (.goto (-60), 3) := by decide +kernel
theorem dX11_goesBy_175 : decode cX11_goesBy 175 = .ok (.return_, 1) := by decide +kernel
theorem dX11_resolved_0 : decode cX11_resolved 0 = .ok (.iload_n 2, 1) := by decide +kernel
theorem dX11_resolved_1 : decode cX11_resolved 1 = .ok (.invokestatic 321, 3) := by decide +kernel
theorem dX11_resolved_4 : decode cX11_resolved 4 = .ok (.iload_n 3, 1) := by decide +kernel
theorem dX11_resolved_5 : decode cX11_resolved 5 = .ok (.if_icmp .ge 16, 3) := by decide +kernel
theorem dX11_resolved_8 : decode cX11_resolved 8 = .ok (.iload_n 2, 1) := by decide +kernel
theorem dX11_resolved_9 : decode cX11_resolved 9 = .ok (.ifCond .le 21, 3) := by decide +kernel
theorem dX11_resolved_12 : decode cX11_resolved 12 = .ok (.aload_n 0, 1) := by decide +kernel
theorem dX11_resolved_13 : decode cX11_resolved 13 = .ok (.iload_n 2, 1) := by decide +kernel
theorem dX11_resolved_14 : decode cX11_resolved 14 = .ok (.invokevirtual 334, 3) := by decide +kernel
theorem dX11_resolved_17 : decode cX11_resolved 17 = .ok (.iload_n 1, 1) := by decide +kernel
theorem dX11_resolved_18 : decode cX11_resolved 18 = .ok (.if_icmp .ne 12, 3) := by decide +kernel
theorem dX11_resolved_21 : decode cX11_resolved 21 = .ok (.aload_n 0, 1) := by decide +kernel
theorem dX11_resolved_22 : decode cX11_resolved 22 = .ok (.getfield 42, 3) := by decide +kernel
theorem dX11_resolved_25 : decode cX11_resolved 25 = .ok (.iload_n 1, 1) := by decide +kernel
theorem dX11_resolved_26 : decode cX11_resolved 26 = .ok (.aaload, 1) := by decide +kernel
theorem dX11_resolved_27 : decode cX11_resolved 27 = .ok (.iload_n 2, 1) := by decide +kernel
theorem dX11_resolved_28 : decode cX11_resolved 28 = .ok (.iaload, 1) := by decide +kernel
theorem dX11_resolved_29 : decode cX11_resolved 29 = .ok (.ireturn, 1) := by decide +kernel
theorem dX11_resolved_30 : decode cX11_resolved 30 = .ok (.iconst 0, 1) := by decide +kernel
theorem dX11_resolved_31 : decode cX11_resolved 31 = .ok (.istore 4, 2) := by decide +kernel
theorem dX11_resolved_33 : decode cX11_resolved 33 = .ok (.iload 4, 2) := by decide +kernel
theorem dX11_resolved_35 : decode cX11_resolved 35 = .ok (.aload_n 0, 1) := by decide +kernel
theorem dX11_resolved_36 : decode cX11_resolved 36 = .ok (.getfield 20, 3) := by decide +kernel
theorem dX11_resolved_39 : decode cX11_resolved 39 = .ok (.if_icmp .ge 115, 3) := by decide +kernel
theorem dX11_resolved_42 : decode cX11_resolved 42 = .ok (.aload_n 0, 1) := by decide +kernel
theorem dX11_resolved_43 : decode cX11_resolved 43 = .ok (.iload_n 2, 1) := by decide +kernel
theorem dX11_resolved_44 : decode cX11_resolved 44 = .ok (.iload 4, 2) := by decide +kernel
theorem dX11_resolved_46 : decode cX11_resolved 46 = .ok (.invokevirtual 327, 3) := by decide +kernel
theorem dX11_resolved_49 : decode cX11_resolved 49 = .ok (.ifCond .eq 6, 3) := by decide +kernel
theorem dX11_resolved_52 : decode cX11_resolved 52 = .ok (.goto 96, 3) := by decide +kernel
theorem dX11_resolved_55 : decode cX11_resolved 55 = .ok (.iconst 0, 1) := by decide +kernel
theorem dX11_resolved_56 : decode cX11_resolved 56 = .ok (.istore 5, 2) := by decide +kernel
theorem dX11_resolved_58 : decode cX11_resolved 58 = .ok (.iconst 0, 1) := by decide +kernel
theorem dX11_resolved_59 : decode cX11_resolved 59 = .ok (.istore 6, 2) := by decide +kernel
theorem dX11_resolved_61 : decode cX11_resolved 61 = .ok (.aload_n 0, 1) := by decide +kernel
theorem dX11_resolved_62 : decode cX11_resolved 62 = .ok (.iload_n 1, 1) := by decide +kernel
theorem dX11_resolved_63 : decode cX11_resolved 63 = .ok (.iload_n 2, 1) := by decide +kernel
theorem dX11_resolved_64 : decode cX11_resolved 64 = .ok (.iload 4, 2) := by decide +kernel
theorem dX11_resolved_66 : decode cX11_resolved 66 = .ok (.invokestatic 331, 3) := by decide +kernel
theorem dX11_resolved_69 : decode cX11_resolved 69 = .ok (.iload_n 3, 1) := by decide +kernel
theorem dX11_resolved_70 : decode cX11_resolved 70 = .ok (.invokevirtual 355, 3) := by decide +kernel
theorem dX11_resolved_73 : decode cX11_resolved 73 = .ok (.istore 7, 2) := by decide +kernel
theorem dX11_resolved_75 : decode cX11_resolved 75 = .ok (.iconst 0, 1) := by decide +kernel
theorem dX11_resolved_76 : decode cX11_resolved 76 = .ok (.istore 8, 2) := by decide +kernel
theorem dX11_resolved_78 : decode cX11_resolved 78 = .ok (.iload 8, 2) := by decide +kernel
theorem dX11_resolved_80 : decode cX11_resolved 80 = .ok (.aload_n 0, 1) := by decide +kernel
theorem dX11_resolved_81 : decode cX11_resolved 81 = .ok (.getfield 20, 3) := by decide +kernel
theorem dX11_resolved_84 : decode cX11_resolved 84 = .ok (.if_icmp .ge 52, 3) := by decide +kernel
theorem dX11_resolved_87 : decode cX11_resolved 87 = .ok (.aload_n 0, 1) := by decide +kernel
theorem dX11_resolved_88 : decode cX11_resolved 88 = .ok (.iload_n 2, 1) := by decide +kernel
theorem dX11_resolved_89 : decode cX11_resolved 89 = .ok (.iload 8, 2) := by decide +kernel
theorem dX11_resolved_91 : decode cX11_resolved 91 = .ok (.invokevirtual 327, 3) := by decide +kernel
theorem dX11_resolved_94 : decode cX11_resolved 94 = .ok (.ifCond .eq 6, 3) := by decide +kernel
theorem dX11_resolved_97 : decode cX11_resolved 97 = .ok (.goto 33, 3) := by decide +kernel
theorem dX11_resolved_100 : decode cX11_resolved 100 = .ok (.iinc 6 1, 3) := by decide +kernel
theorem dX11_resolved_103 : decode cX11_resolved 103 = .ok (.iload 5, 2) := by decide +kernel
theorem dX11_resolved_105 : decode cX11_resolved 105 = .ok (.aload_n 0, 1) := by decide +kernel
theorem dX11_resolved_106 : decode cX11_resolved 106 = .ok (.iload_n 1, 1) := by decide +kernel
theorem dX11_resolved_107 : decode cX11_resolved 107 = .ok (.iload_n 2, 1) := by decide +kernel
theorem dX11_resolved_108 : decode cX11_resolved 108 = .ok (.iload 8, 2) := by decide +kernel
theorem dX11_resolved_110 : decode cX11_resolved 110 = .ok (.invokestatic 331, 3) := by decide +kernel
theorem dX11_resolved_113 : decode cX11_resolved 113 = .ok (.iload_n 3, 1) := by decide +kernel
theorem dX11_resolved_114 : decode cX11_resolved 114 = .ok (.invokevirtual 355, 3) := by decide +kernel
theorem dX11_resolved_117 : decode cX11_resolved 117 = .ok (.iload 7, 2) := by decide +kernel
theorem dX11_resolved_119 : decode cX11_resolved 119 = .ok (.if_icmp .ne 7, 3) := by decide +kernel
theorem dX11_resolved_122 : decode cX11_resolved 122 = .ok (.iconst 1, 1) := by decide +kernel
theorem dX11_resolved_123 : decode cX11_resolved 123 = .ok (.goto 4, 3) := by decide +kernel
theorem dX11_resolved_126 : decode cX11_resolved 126 = .ok (.iconst 0, 1) := by decide +kernel
theorem dX11_resolved_127 : decode cX11_resolved 127 = .ok (.iadd, 1) := by decide +kernel
theorem dX11_resolved_128 : decode cX11_resolved 128 = .ok (.istore 5, 2) := by decide +kernel
theorem dX11_resolved_130 : decode cX11_resolved 130 = .ok (.iinc 8 1, 3) := by decide +kernel
theorem dX11_resolved_133 : decode cX11_resolved 133 = .ok (.goto (-55), 3) := by decide +kernel
theorem dX11_resolved_136 : decode cX11_resolved 136 = .ok (.iconst 2, 1) := by decide +kernel
theorem dX11_resolved_137 : decode cX11_resolved 137 = .ok (.iload 5, 2) := by decide +kernel
theorem dX11_resolved_139 : decode cX11_resolved 139 = .ok (.imul, 1) := by decide +kernel
theorem dX11_resolved_140 : decode cX11_resolved 140 = .ok (.iload 6, 2) := by decide +kernel
theorem dX11_resolved_142 : decode cX11_resolved 142 = .ok (.if_icmp .le 6, 3) := by decide +kernel
theorem dX11_resolved_145 : decode cX11_resolved 145 = .ok (.iload 7, 2) := by decide +kernel
theorem dX11_resolved_147 : decode cX11_resolved 147 = .ok (.ireturn, 1) := by decide +kernel
theorem dX11_resolved_148 : decode cX11_resolved 148 = .ok (.iinc 4 1, 3) := by decide +kernel
theorem dX11_resolved_151 : decode cX11_resolved 151 = .ok (.goto (-118), 3) := by decide +kernel
theorem dX11_resolved_154 : decode cX11_resolved 154 = .ok (.aload_n 0, 1) := by decide +kernel
theorem dX11_resolved_155 : decode cX11_resolved 155 = .ok (.getfield 307, 3) := by decide +kernel
theorem dX11_resolved_158 : decode cX11_resolved 158 = .ok (.ireturn, 1) := by decide +kernel
theorem dX11_decided_0 : decode cX11_decided 0 = .ok (.iload_n 1, 1) := by decide +kernel
theorem dX11_decided_1 : decode cX11_decided 1 = .ok (.aload_n 0, 1) := by decide +kernel
theorem dX11_decided_2 : decode cX11_decided 2 = .ok (.getfield 39, 3) := by decide +kernel
theorem dX11_decided_5 : decode cX11_decided 5 = .ok (.if_icmp .ne 10, 3) := by decide +kernel
theorem dX11_decided_8 : decode cX11_decided 8 = .ok (.aload_n 0, 1) := by decide +kernel
theorem dX11_decided_9 : decode cX11_decided 9 = .ok (.getfield 310, 3) := by decide +kernel
theorem dX11_decided_12 : decode cX11_decided 12 = .ok (.goto 10, 3) := by decide +kernel
theorem dX11_decided_15 : decode cX11_decided 15 = .ok (.aload_n 0, 1) := by decide +kernel
theorem dX11_decided_16 : decode cX11_decided 16 = .ok (.iload_n 1, 1) := by decide +kernel
theorem dX11_decided_17 : decode cX11_decided 17 = .ok (.iconst 0, 1) := by decide +kernel
theorem dX11_decided_18 : decode cX11_decided 18 = .ok (.iload_n 2, 1) := by decide +kernel
theorem dX11_decided_19 : decode cX11_decided 19 = .ok (.invokevirtual 355, 3) := by decide +kernel
theorem dX11_decided_22 : decode cX11_decided 22 = .ok (.ireturn, 1) := by decide +kernel
theorem dX11_isTrue_0 : decode cX11_isTrue 0 = .ok (.aload_n 0, 1) := by decide +kernel
theorem dX11_isTrue_1 : decode cX11_isTrue 1 = .ok (.getfield 343, 3) := by decide +kernel
theorem dX11_isTrue_4 : decode cX11_isTrue 4 = .ok (.iload_n 1, 1) := by decide +kernel
theorem dX11_isTrue_5 : decode cX11_isTrue 5 = .ok (.ishr, 1) := by decide +kernel
theorem dX11_isTrue_6 : decode cX11_isTrue 6 = .ok (.iconst 1, 1) := by decide +kernel
theorem dX11_isTrue_7 : decode cX11_isTrue 7 = .ok (.iand, 1) := by decide +kernel
theorem dX11_isTrue_8 : decode cX11_isTrue 8 = .ok (.ifCond .ne 7, 3) := by decide +kernel
theorem dX11_isTrue_11 : decode cX11_isTrue 11 = .ok (.iconst 1, 1) := by decide +kernel
theorem dX11_isTrue_12 : decode cX11_isTrue 12 = .ok (.goto 4, 3) := by decide +kernel
theorem dX11_isTrue_15 : decode cX11_isTrue 15 = .ok (.iconst 0, 1) := by decide +kernel
theorem dX11_isTrue_16 : decode cX11_isTrue 16 = .ok (.ireturn, 1) := by decide +kernel
theorem dX11_unlike_0 : decode cX11_unlike 0 = .ok (.iconst 0, 1) := by decide +kernel
theorem dX11_unlike_1 : decode cX11_unlike 1 = .ok (.istore_n 2, 1) := by decide +kernel
theorem dX11_unlike_2 : decode cX11_unlike 2 = .ok (.iconst 0, 1) := by decide +kernel
theorem dX11_unlike_3 : decode cX11_unlike 3 = .ok (.istore_n 3, 1) := by decide +kernel
theorem dX11_unlike_4 : decode cX11_unlike 4 = .ok (.iload_n 3, 1) := by decide +kernel
theorem dX11_unlike_5 : decode cX11_unlike 5 = .ok (.aload_n 0, 1) := by decide +kernel
theorem dX11_unlike_6 : decode cX11_unlike 6 = .ok (.getfield 20, 3) := by decide +kernel
theorem dX11_unlike_9 : decode cX11_unlike 9 = .ok (.if_icmp .ge 121, 3) := by decide +kernel
theorem dX11_unlike_12 : decode cX11_unlike 12 = .ok (.aload_n 0, 1) := by decide +kernel
theorem dX11_unlike_13 : decode cX11_unlike 13 = .ok (.iload_n 3, 1) := by decide +kernel
theorem dX11_unlike_14 : decode cX11_unlike 14 = .ok (.invokevirtual 359, 3) := by decide +kernel
theorem dX11_unlike_17 : decode cX11_unlike 17 = .ok (.ifCond .eq 107, 3) := by decide +kernel
theorem dX11_unlike_20 : decode cX11_unlike 20 = .ok (.iload_n 3, 1) := by decide +kernel
theorem dX11_unlike_21 : decode cX11_unlike 21 = .ok (.aload_n 0, 1) := by decide +kernel
theorem dX11_unlike_22 : decode cX11_unlike 22 = .ok (.getfield 39, 3) := by decide +kernel
theorem dX11_unlike_25 : decode cX11_unlike 25 = .ok (.if_icmp .ne 10, 3) := by decide +kernel
theorem dX11_unlike_28 : decode cX11_unlike 28 = .ok (.iload_n 1, 1) := by decide +kernel
theorem dX11_unlike_29 : decode cX11_unlike 29 = .ok (.ifCond .ne 6, 3) := by decide +kernel
theorem dX11_unlike_32 : decode cX11_unlike 32 = .ok (.goto 92, 3) := by decide +kernel
theorem dX11_unlike_35 : decode cX11_unlike 35 = .ok (.iconst 1, 1) := by decide +kernel
theorem dX11_unlike_36 : decode cX11_unlike 36 = .ok (.istore 4, 2) := by decide +kernel
theorem dX11_unlike_38 : decode cX11_unlike 38 = .ok (.iconst 0, 1) := by decide +kernel
theorem dX11_unlike_39 : decode cX11_unlike 39 = .ok (.istore 5, 2) := by decide +kernel
theorem dX11_unlike_41 : decode cX11_unlike 41 = .ok (.iload 5, 2) := by decide +kernel
theorem dX11_unlike_43 : decode cX11_unlike 43 = .ok (.iload_n 3, 1) := by decide +kernel
theorem dX11_unlike_44 : decode cX11_unlike 44 = .ok (.if_icmp .ge 67, 3) := by decide +kernel
theorem dX11_unlike_47 : decode cX11_unlike 47 = .ok (.iload 4, 2) := by decide +kernel
theorem dX11_unlike_49 : decode cX11_unlike 49 = .ok (.aload_n 0, 1) := by decide +kernel
theorem dX11_unlike_50 : decode cX11_unlike 50 = .ok (.iload 5, 2) := by decide +kernel
theorem dX11_unlike_52 : decode cX11_unlike 52 = .ok (.invokevirtual 359, 3) := by decide +kernel
theorem dX11_unlike_55 : decode cX11_unlike 55 = .ok (.ifCond .eq 42, 3) := by decide +kernel
theorem dX11_unlike_58 : decode cX11_unlike 58 = .ok (.iload 5, 2) := by decide +kernel
theorem dX11_unlike_60 : decode cX11_unlike 60 = .ok (.aload_n 0, 1) := by decide +kernel
theorem dX11_unlike_61 : decode cX11_unlike 61 = .ok (.getfield 39, 3) := by decide +kernel
theorem dX11_unlike_64 : decode cX11_unlike 64 = .ok (.if_icmp .ne 7, 3) := by decide +kernel
theorem dX11_unlike_67 : decode cX11_unlike 67 = .ok (.iload_n 1, 1) := by decide +kernel
theorem dX11_unlike_68 : decode cX11_unlike 68 = .ok (.ifCond .eq 29, 3) := by decide +kernel
theorem dX11_unlike_71 : decode cX11_unlike 71 = .ok (.aload_n 0, 1) := by decide +kernel
theorem dX11_unlike_72 : decode cX11_unlike 72 = .ok (.iload 5, 2) := by decide +kernel
theorem dX11_unlike_74 : decode cX11_unlike 74 = .ok (.aload_n 0, 1) := by decide +kernel
theorem dX11_unlike_75 : decode cX11_unlike 75 = .ok (.getfield 23, 3) := by decide +kernel
theorem dX11_unlike_78 : decode cX11_unlike 78 = .ok (.iconst 1, 1) := by decide +kernel
theorem dX11_unlike_79 : decode cX11_unlike 79 = .ok (.iadd, 1) := by decide +kernel
theorem dX11_unlike_80 : decode cX11_unlike 80 = .ok (.invokevirtual 362, 3) := by decide +kernel
theorem dX11_unlike_83 : decode cX11_unlike 83 = .ok (.aload_n 0, 1) := by decide +kernel
theorem dX11_unlike_84 : decode cX11_unlike 84 = .ok (.iload_n 3, 1) := by decide +kernel
theorem dX11_unlike_85 : decode cX11_unlike 85 = .ok (.aload_n 0, 1) := by decide +kernel
theorem dX11_unlike_86 : decode cX11_unlike 86 = .ok (.getfield 23, 3) := by decide +kernel
theorem dX11_unlike_89 : decode cX11_unlike 89 = .ok (.iconst 1, 1) := by decide +kernel
theorem dX11_unlike_90 : decode cX11_unlike 90 = .ok (.iadd, 1) := by decide +kernel
theorem dX11_unlike_91 : decode cX11_unlike 91 = .ok (.invokevirtual 362, 3) := by decide +kernel
theorem dX11_unlike_94 : decode cX11_unlike 94 = .ok (.if_icmp .eq 7, 3) := by decide +kernel
theorem dX11_unlike_97 : decode cX11_unlike 97 = .ok (.iconst 1, 1) := by decide +kernel
theorem dX11_unlike_98 : decode cX11_unlike 98 = .ok (.goto 4, 3) := by decide +kernel
theorem dX11_unlike_101 : decode cX11_unlike 101 = .ok (.iconst 0, 1) := by decide +kernel
theorem dX11_unlike_102 : decode cX11_unlike 102 = .ok (.iand, 1) := by decide +kernel
theorem dX11_unlike_103 : decode cX11_unlike 103 = .ok (.istore 4, 2) := by decide +kernel
theorem dX11_unlike_105 : decode cX11_unlike 105 = .ok (.iinc 5 1, 3) := by decide +kernel
theorem dX11_unlike_108 : decode cX11_unlike 108 = .ok (.goto (-67), 3) := by decide +kernel
theorem dX11_unlike_111 : decode cX11_unlike 111 = .ok (.iload_n 2, 1) := by decide +kernel
theorem dX11_unlike_112 : decode cX11_unlike 112 = .ok (.iload 4, 2) := by decide +kernel
theorem dX11_unlike_114 : decode cX11_unlike 114 = .ok (.ifCond .eq 7, 3) := by decide +kernel
theorem dX11_unlike_117 : decode cX11_unlike 117 = .ok (.iconst 1, 1) := by decide +kernel
theorem dX11_unlike_118 : decode cX11_unlike 118 = .ok (.goto 4, 3) := by decide +kernel
theorem dX11_unlike_121 : decode cX11_unlike 121 = .ok (.iconst 0, 1) := by decide +kernel
theorem dX11_unlike_122 : decode cX11_unlike 122 = .ok (.iadd, 1) := by decide +kernel
theorem dX11_unlike_123 : decode cX11_unlike 123 = .ok (.istore_n 2, 1) := by decide +kernel
theorem dX11_unlike_124 : decode cX11_unlike 124 = .ok (.iinc 3 1, 3) := by decide +kernel
theorem dX11_unlike_127 : decode cX11_unlike 127 = .ok (.goto (-123), 3) := by decide +kernel
theorem dX11_unlike_130 : decode cX11_unlike 130 = .ok (.iload_n 2, 1) := by decide +kernel
theorem dX11_unlike_131 : decode cX11_unlike 131 = .ok (.ireturn, 1) := by decide +kernel
theorem dX11_run_0 : decode cX11_run 0 = .ok (.aload_n 0, 1) := by decide +kernel
theorem dX11_run_1 : decode cX11_run 1 = .ok (.iconst 0, 1) := by decide +kernel
theorem dX11_run_2 : decode cX11_run 2 = .ok (.putfield 149, 3) := by decide +kernel
theorem dX11_run_5 : decode cX11_run 5 = .ok (.aload_n 0, 1) := by decide +kernel
theorem dX11_run_6 : decode cX11_run 6 = .ok (.aload_n 0, 1) := by decide +kernel
theorem dX11_run_7 : decode cX11_run 7 = .ok (.iload_n 1, 1) := by decide +kernel
theorem dX11_run_8 : decode cX11_run 8 = .ok (.invokevirtual 179, 3) := by decide +kernel
theorem dX11_run_11 : decode cX11_run 11 = .ok (.ifCond .ne 7, 3) := by decide +kernel
theorem dX11_run_14 : decode cX11_run 14 = .ok (.iconst 1, 1) := by decide +kernel
theorem dX11_run_15 : decode cX11_run 15 = .ok (.goto 4, 3) := by decide +kernel
theorem dX11_run_18 : decode cX11_run 18 = .ok (.iconst 0, 1) := by decide +kernel
theorem dX11_run_19 : decode cX11_run 19 = .ok (.iconst 1, 1) := by decide +kernel
theorem dX11_run_20 : decode cX11_run 20 = .ok (.iconst 0, 1) := by decide +kernel
theorem dX11_run_21 : decode cX11_run 21 = .ok (.invokevirtual 166, 3) := by decide +kernel
theorem dX11_run_24 : decode cX11_run 24 = .ok (.ifCond .eq 5, 3) := by decide +kernel
theorem dX11_run_27 : decode cX11_run 27 = .ok (.iconst 0, 1) := by decide +kernel
theorem dX11_run_28 : decode cX11_run 28 = .ok (.ireturn, 1) := by decide +kernel
theorem dX11_run_29 : decode cX11_run 29 = .ok (.aload_n 0, 1) := by decide +kernel
theorem dX11_run_30 : decode cX11_run 30 = .ok (.iload_n 1, 1) := by decide +kernel
theorem dX11_run_31 : decode cX11_run 31 = .ok (.invokevirtual 365, 3) := by decide +kernel
theorem dX11_run_34 : decode cX11_run 34 = .ok (.aload_n 0, 1) := by decide +kernel
theorem dX11_run_35 : decode cX11_run 35 = .ok (.iconst 1, 1) := by decide +kernel
theorem dX11_run_36 : decode cX11_run 36 = .ok (.invokevirtual 368, 3) := by decide +kernel
theorem dX11_run_39 : decode cX11_run 39 = .ok (.ireturn, 1) := by decide +kernel
theorem dX11_lieCount_0 : decode cX11_lieCount 0 = .ok (.iconst 0, 1) := by decide +kernel
theorem dX11_lieCount_1 : decode cX11_lieCount 1 = .ok (.istore_n 1, 1) := by decide +kernel
theorem dX11_lieCount_2 : decode cX11_lieCount 2 = .ok (.iconst 0, 1) := by decide +kernel
theorem dX11_lieCount_3 : decode cX11_lieCount 3 = .ok (.istore_n 2, 1) := by decide +kernel
theorem dX11_lieCount_4 : decode cX11_lieCount 4 = .ok (.iload_n 2, 1) := by decide +kernel
theorem dX11_lieCount_5 : decode cX11_lieCount 5 = .ok (.aload_n 0, 1) := by decide +kernel
theorem dX11_lieCount_6 : decode cX11_lieCount 6 = .ok (.getfield 20, 3) := by decide +kernel
theorem dX11_lieCount_9 : decode cX11_lieCount 9 = .ok (.if_icmp .ge 32, 3) := by decide +kernel
theorem dX11_lieCount_12 : decode cX11_lieCount 12 = .ok (.iload_n 1, 1) := by decide +kernel
theorem dX11_lieCount_13 : decode cX11_lieCount 13 = .ok (.aload_n 0, 1) := by decide +kernel
theorem dX11_lieCount_14 : decode cX11_lieCount 14 = .ok (.iload_n 2, 1) := by decide +kernel
theorem dX11_lieCount_15 : decode cX11_lieCount 15 = .ok (.invokevirtual 295, 3) := by decide +kernel
theorem dX11_lieCount_18 : decode cX11_lieCount 18 = .ok (.ifCond .eq 14, 3) := by decide +kernel
theorem dX11_lieCount_21 : decode cX11_lieCount 21 = .ok (.aload_n 0, 1) := by decide +kernel
theorem dX11_lieCount_22 : decode cX11_lieCount 22 = .ok (.getfield 31, 3) := by decide +kernel
theorem dX11_lieCount_25 : decode cX11_lieCount 25 = .ok (.iconst 0, 1) := by decide +kernel
theorem dX11_lieCount_26 : decode cX11_lieCount 26 = .ok (.aaload, 1) := by decide +kernel
theorem dX11_lieCount_27 : decode cX11_lieCount 27 = .ok (.iload_n 2, 1) := by decide +kernel
theorem dX11_lieCount_28 : decode cX11_lieCount 28 = .ok (.iaload, 1) := by decide +kernel
theorem dX11_lieCount_29 : decode cX11_lieCount 29 = .ok (.goto 4, 3) := by decide +kernel
theorem dX11_lieCount_32 : decode cX11_lieCount 32 = .ok (.iconst 0, 1) := by decide +kernel
theorem dX11_lieCount_33 : decode cX11_lieCount 33 = .ok (.iadd, 1) := by decide +kernel
theorem dX11_lieCount_34 : decode cX11_lieCount 34 = .ok (.istore_n 1, 1) := by decide +kernel
theorem dX11_lieCount_35 : decode cX11_lieCount 35 = .ok (.iinc 2 1, 3) := by decide +kernel
theorem dX11_lieCount_38 : decode cX11_lieCount 38 = .ok (.goto (-34), 3) := by decide +kernel
theorem dX11_lieCount_41 : decode cX11_lieCount 41 = .ok (.iload_n 1, 1) := by decide +kernel
theorem dX11_lieCount_42 : decode cX11_lieCount 42 = .ok (.ireturn, 1) := by decide +kernel
theorem dX11_liarBits_0 : decode cX11_liarBits 0 = .ok (.iconst 0, 1) := by decide +kernel
theorem dX11_liarBits_1 : decode cX11_liarBits 1 = .ok (.istore_n 1, 1) := by decide +kernel
theorem dX11_liarBits_2 : decode cX11_liarBits 2 = .ok (.iconst 0, 1) := by decide +kernel
theorem dX11_liarBits_3 : decode cX11_liarBits 3 = .ok (.istore_n 2, 1) := by decide +kernel
theorem dX11_liarBits_4 : decode cX11_liarBits 4 = .ok (.iload_n 2, 1) := by decide +kernel
theorem dX11_liarBits_5 : decode cX11_liarBits 5 = .ok (.aload_n 0, 1) := by decide +kernel
theorem dX11_liarBits_6 : decode cX11_liarBits 6 = .ok (.getfield 20, 3) := by decide +kernel
theorem dX11_liarBits_9 : decode cX11_liarBits 9 = .ok (.if_icmp .ge 27, 3) := by decide +kernel
theorem dX11_liarBits_12 : decode cX11_liarBits 12 = .ok (.iload_n 1, 1) := by decide +kernel
theorem dX11_liarBits_13 : decode cX11_liarBits 13 = .ok (.aload_n 0, 1) := by decide +kernel
theorem dX11_liarBits_14 : decode cX11_liarBits 14 = .ok (.iload_n 2, 1) := by decide +kernel
theorem dX11_liarBits_15 : decode cX11_liarBits 15 = .ok (.invokevirtual 295, 3) := by decide +kernel
theorem dX11_liarBits_18 : decode cX11_liarBits 18 = .ok (.ifCond .eq 9, 3) := by decide +kernel
theorem dX11_liarBits_21 : decode cX11_liarBits 21 = .ok (.iconst 1, 1) := by decide +kernel
theorem dX11_liarBits_22 : decode cX11_liarBits 22 = .ok (.iload_n 2, 1) := by decide +kernel
theorem dX11_liarBits_23 : decode cX11_liarBits 23 = .ok (.ishl, 1) := by decide +kernel
theorem dX11_liarBits_24 : decode cX11_liarBits 24 = .ok (.goto 4, 3) := by decide +kernel
theorem dX11_liarBits_27 : decode cX11_liarBits 27 = .ok (.iconst 0, 1) := by decide +kernel
theorem dX11_liarBits_28 : decode cX11_liarBits 28 = .ok (.ior, 1) := by decide +kernel
theorem dX11_liarBits_29 : decode cX11_liarBits 29 = .ok (.istore_n 1, 1) := by decide +kernel
theorem dX11_liarBits_30 : decode cX11_liarBits 30 = .ok (.iinc 2 1, 3) := by decide +kernel
theorem dX11_liarBits_33 : decode cX11_liarBits 33 = .ok (.goto (-29), 3) := by decide +kernel
theorem dX11_liarBits_36 : decode cX11_liarBits 36 = .ok (.iload_n 1, 1) := by decide +kernel
theorem dX11_liarBits_37 : decode cX11_liarBits 37 = .ok (.ireturn, 1) := by decide +kernel
theorem dX11_told_0 : decode cX11_told 0 = .ok (.aload_n 0, 1) := by decide +kernel
theorem dX11_told_1 : decode cX11_told 1 = .ok (.iconst 0, 1) := by decide +kernel
theorem dX11_told_2 : decode cX11_told 2 = .ok (.putfield 149, 3) := by decide +kernel
theorem dX11_told_5 : decode cX11_told 5 = .ok (.aload_n 0, 1) := by decide +kernel
theorem dX11_told_6 : decode cX11_told 6 = .ok (.iload_n 1, 1) := by decide +kernel
theorem dX11_told_7 : decode cX11_told 7 = .ok (.iconst 0, 1) := by decide +kernel
theorem dX11_told_8 : decode cX11_told 8 = .ok (.bipush 9, 2) := by decide +kernel
theorem dX11_told_10 : decode cX11_told 10 = .ok (.invokestatic 162, 3) := by decide +kernel
theorem dX11_told_13 : decode cX11_told 13 = .ok (.ifCond .ne 7, 3) := by decide +kernel
theorem dX11_told_16 : decode cX11_told 16 = .ok (.iconst 1, 1) := by decide +kernel
theorem dX11_told_17 : decode cX11_told 17 = .ok (.goto 4, 3) := by decide +kernel
theorem dX11_told_20 : decode cX11_told 20 = .ok (.iconst 0, 1) := by decide +kernel
theorem dX11_told_21 : decode cX11_told 21 = .ok (.iconst 1, 1) := by decide +kernel
theorem dX11_told_22 : decode cX11_told 22 = .ok (.iconst 1, 1) := by decide +kernel
theorem dX11_told_23 : decode cX11_told 23 = .ok (.invokevirtual 166, 3) := by decide +kernel
theorem dX11_told_26 : decode cX11_told 26 = .ok (.ifCond .eq 5, 3) := by decide +kernel
theorem dX11_told_29 : decode cX11_told 29 = .ok (.iconst 0, 1) := by decide +kernel
theorem dX11_told_30 : decode cX11_told 30 = .ok (.ireturn, 1) := by decide +kernel
theorem dX11_told_31 : decode cX11_told 31 = .ok (.iload_n 1, 1) := by decide +kernel
theorem dX11_told_32 : decode cX11_told 32 = .ok (.tableswitch 99 0 8 #[52, 57, 62, 69, 74, 79, 84, 89, 94], 52) := by decide +kernel
theorem dX11_told_84 : decode cX11_told 84 = .ok (.aload_n 0, 1) := by decide +kernel
theorem dX11_told_85 : decode cX11_told 85 = .ok (.getfield 20, 3) := by decide +kernel
theorem dX11_told_88 : decode cX11_told 88 = .ok (.ireturn, 1) := by decide +kernel
theorem dX11_told_89 : decode cX11_told 89 = .ok (.aload_n 0, 1) := by decide +kernel
theorem dX11_told_90 : decode cX11_told 90 = .ok (.getfield 23, 3) := by decide +kernel
theorem dX11_told_93 : decode cX11_told 93 = .ok (.ireturn, 1) := by decide +kernel
theorem dX11_told_94 : decode cX11_told 94 = .ok (.aload_n 0, 1) := by decide +kernel
theorem dX11_told_95 : decode cX11_told 95 = .ok (.getfield 23, 3) := by decide +kernel
theorem dX11_told_98 : decode cX11_told 98 = .ok (.iconst 1, 1) := by decide +kernel
theorem dX11_told_99 : decode cX11_told 99 = .ok (.iadd, 1) := by decide +kernel
theorem dX11_told_100 : decode cX11_told 100 = .ok (.ireturn, 1) := by decide +kernel
theorem dX11_told_101 : decode cX11_told 101 = .ok (.aload_n 0, 1) := by decide +kernel
theorem dX11_told_102 : decode cX11_told 102 = .ok (.invokevirtual 372, 3) := by decide +kernel
theorem dX11_told_105 : decode cX11_told 105 = .ok (.ireturn, 1) := by decide +kernel
theorem dX11_told_106 : decode cX11_told 106 = .ok (.aload_n 0, 1) := by decide +kernel
theorem dX11_told_107 : decode cX11_told 107 = .ok (.getfield 39, 3) := by decide +kernel
theorem dX11_told_110 : decode cX11_told 110 = .ok (.ireturn, 1) := by decide +kernel
theorem dX11_told_111 : decode cX11_told 111 = .ok (.aload_n 0, 1) := by decide +kernel
theorem dX11_told_112 : decode cX11_told 112 = .ok (.getfield 173, 3) := by decide +kernel
theorem dX11_told_115 : decode cX11_told 115 = .ok (.ireturn, 1) := by decide +kernel
theorem dX11_told_116 : decode cX11_told 116 = .ok (.aload_n 0, 1) := by decide +kernel
theorem dX11_told_117 : decode cX11_told 117 = .ok (.getfield 176, 3) := by decide +kernel
theorem dX11_told_120 : decode cX11_told 120 = .ok (.ireturn, 1) := by decide +kernel
theorem dX11_told_121 : decode cX11_told 121 = .ok (.aload_n 0, 1) := by decide +kernel
theorem dX11_told_122 : decode cX11_told 122 = .ok (.invokevirtual 375, 3) := by decide +kernel
theorem dX11_told_125 : decode cX11_told 125 = .ok (.ireturn, 1) := by decide +kernel
theorem dX11_told_126 : decode cX11_told 126 = .ok (.aload_n 0, 1) := by decide +kernel
theorem dX11_told_127 : decode cX11_told 127 = .ok (.getfield 189, 3) := by decide +kernel
theorem dX11_told_130 : decode cX11_told 130 = .ok (.ireturn, 1) := by decide +kernel
theorem dX11_told_131 : decode cX11_told 131 = .ok (.aload_n 0, 1) := by decide +kernel
theorem dX11_told_132 : decode cX11_told 132 = .ok (.getfield 170, 3) := by decide +kernel
theorem dX11_told_135 : decode cX11_told 135 = .ok (.ireturn, 1) := by decide +kernel
theorem dX11_ones_0 : decode cX11_ones 0 = .ok (.iconst 0, 1) := by decide +kernel
theorem dX11_ones_1 : decode cX11_ones 1 = .ok (.istore_n 1, 1) := by decide +kernel
theorem dX11_ones_2 : decode cX11_ones 2 = .ok (.iload_n 0, 1) := by decide +kernel
theorem dX11_ones_3 : decode cX11_ones 3 = .ok (.istore_n 2, 1) := by decide +kernel
theorem dX11_ones_4 : decode cX11_ones 4 = .ok (.iload_n 2, 1) := by decide +kernel
theorem dX11_ones_5 : decode cX11_ones 5 = .ok (.ifCond .le 16, 3) := by decide +kernel
theorem dX11_ones_8 : decode cX11_ones 8 = .ok (.iload_n 1, 1) := by decide +kernel
theorem dX11_ones_9 : decode cX11_ones 9 = .ok (.iload_n 2, 1) := by decide +kernel
theorem dX11_ones_10 : decode cX11_ones 10 = .ok (.iconst 1, 1) := by decide +kernel
theorem dX11_ones_11 : decode cX11_ones 11 = .ok (.iand, 1) := by decide +kernel
theorem dX11_ones_12 : decode cX11_ones 12 = .ok (.iadd, 1) := by decide +kernel
theorem dX11_ones_13 : decode cX11_ones 13 = .ok (.istore_n 1, 1) := by decide +kernel
theorem dX11_ones_14 : decode cX11_ones 14 = .ok (.iload_n 2, 1) := by decide +kernel
theorem dX11_ones_15 : decode cX11_ones 15 = .ok (.iconst 1, 1) := by decide +kernel
theorem dX11_ones_16 : decode cX11_ones 16 = .ok (.ishr, 1) := by decide +kernel
theorem dX11_ones_17 : decode cX11_ones 17 = .ok (.istore_n 2, 1) := by decide +kernel
theorem dX11_ones_18 : decode cX11_ones 18 = .ok (.goto (-14), 3) := by decide +kernel
theorem dX11_ones_21 : decode cX11_ones 21 = .ok (.iload_n 1, 1) := by decide +kernel
theorem dX11_ones_22 : decode cX11_ones 22 = .ok (.ireturn, 1) := by decide +kernel
theorem dX11_stop_0 : decode cX11_stop 0 = .ok (.iload_n 1, 1) := by decide +kernel
theorem dX11_stop_1 : decode cX11_stop 1 = .ok (.aload_n 0, 1) := by decide +kernel
theorem dX11_stop_2 : decode cX11_stop 2 = .ok (.getfield 39, 3) := by decide +kernel
theorem dX11_stop_5 : decode cX11_stop 5 = .ok (.if_icmp .ne 5, 3) := by decide +kernel
theorem dX11_stop_8 : decode cX11_stop 8 = .ok (.iconst 1, 1) := by decide +kernel
theorem dX11_stop_9 : decode cX11_stop 9 = .ok (.ireturn, 1) := by decide +kernel
theorem dX11_stop_10 : decode cX11_stop 10 = .ok (.iconst 1, 1) := by decide +kernel
theorem dX11_stop_11 : decode cX11_stop 11 = .ok (.istore_n 2, 1) := by decide +kernel
theorem dX11_stop_12 : decode cX11_stop 12 = .ok (.iload_n 2, 1) := by decide +kernel
theorem dX11_stop_13 : decode cX11_stop 13 = .ok (.aload_n 0, 1) := by decide +kernel
theorem dX11_stop_14 : decode cX11_stop 14 = .ok (.getfield 23, 3) := by decide +kernel
theorem dX11_stop_17 : decode cX11_stop 17 = .ok (.iconst 1, 1) := by decide +kernel
theorem dX11_stop_18 : decode cX11_stop 18 = .ok (.iadd, 1) := by decide +kernel
theorem dX11_stop_19 : decode cX11_stop 19 = .ok (.if_icmp .ge 26, 3) := by decide +kernel
theorem dX11_stop_22 : decode cX11_stop 22 = .ok (.iload_n 2, 1) := by decide +kernel
theorem dX11_stop_23 : decode cX11_stop 23 = .ok (.iconst 2, 1) := by decide +kernel
theorem dX11_stop_24 : decode cX11_stop 24 = .ok (.aload_n 0, 1) := by decide +kernel
theorem dX11_stop_25 : decode cX11_stop 25 = .ok (.getfield 50, 3) := by decide +kernel
theorem dX11_stop_28 : decode cX11_stop 28 = .ok (.iload_n 1, 1) := by decide +kernel
theorem dX11_stop_29 : decode cX11_stop 29 = .ok (.aaload, 1) := by decide +kernel
theorem dX11_stop_30 : decode cX11_stop 30 = .ok (.iload_n 2, 1) := by decide +kernel
theorem dX11_stop_31 : decode cX11_stop 31 = .ok (.iaload, 1) := by decide +kernel
theorem dX11_stop_32 : decode cX11_stop 32 = .ok (.invokestatic 378, 3) := by decide +kernel
theorem dX11_stop_35 : decode cX11_stop 35 = .ok (.iadd, 1) := by decide +kernel
theorem dX11_stop_36 : decode cX11_stop 36 = .ok (.if_icmp .ge 9, 3) := by decide +kernel
theorem dX11_stop_39 : decode cX11_stop 39 = .ok (.iinc 2 1, 3) := by decide +kernel
theorem dX11_stop_42 : decode cX11_stop 42 = .ok (.goto (-30), 3) := by decide +kernel
theorem dX11_stop_45 : decode cX11_stop 45 = .ok (.iload_n 2, 1) := by decide +kernel
theorem dX11_stop_46 : decode cX11_stop 46 = .ok (.ireturn, 1) := by decide +kernel
theorem dX11_missed_0 : decode cX11_missed 0 = .ok (.iconst 0, 1) := by decide +kernel
theorem dX11_missed_1 : decode cX11_missed 1 = .ok (.istore_n 2, 1) := by decide +kernel
theorem dX11_missed_2 : decode cX11_missed 2 = .ok (.iconst 0, 1) := by decide +kernel
theorem dX11_missed_3 : decode cX11_missed 3 = .ok (.istore_n 3, 1) := by decide +kernel
theorem dX11_missed_4 : decode cX11_missed 4 = .ok (.iload_n 3, 1) := by decide +kernel
theorem dX11_missed_5 : decode cX11_missed 5 = .ok (.bipush 57, 2) := by decide +kernel
theorem dX11_missed_7 : decode cX11_missed 7 = .ok (.if_icmp .ge 37, 3) := by decide +kernel
theorem dX11_missed_10 : decode cX11_missed 10 = .ok (.iload_n 2, 1) := by decide +kernel
theorem dX11_missed_11 : decode cX11_missed 11 = .ok (.aload_n 0, 1) := by decide +kernel
theorem dX11_missed_12 : decode cX11_missed 12 = .ok (.iload_n 1, 1) := by decide +kernel
theorem dX11_missed_13 : decode cX11_missed 13 = .ok (.iload_n 3, 1) := by decide +kernel
theorem dX11_missed_14 : decode cX11_missed 14 = .ok (.invokevirtual 337, 3) := by decide +kernel
theorem dX11_missed_17 : decode cX11_missed 17 = .ok (.ifCond .eq 18, 3) := by decide +kernel
theorem dX11_missed_20 : decode cX11_missed 20 = .ok (.aload_n 0, 1) := by decide +kernel
theorem dX11_missed_21 : decode cX11_missed 21 = .ok (.getfield 47, 3) := by decide +kernel
theorem dX11_missed_24 : decode cX11_missed 24 = .ok (.iload_n 1, 1) := by decide +kernel
theorem dX11_missed_25 : decode cX11_missed 25 = .ok (.aaload, 1) := by decide +kernel
theorem dX11_missed_26 : decode cX11_missed 26 = .ok (.iload_n 3, 1) := by decide +kernel
theorem dX11_missed_27 : decode cX11_missed 27 = .ok (.baload, 1) := by decide +kernel
theorem dX11_missed_28 : decode cX11_missed 28 = .ok (.ifCond .eq 7, 3) := by decide +kernel
theorem dX11_missed_31 : decode cX11_missed 31 = .ok (.iconst 1, 1) := by decide +kernel
theorem dX11_missed_32 : decode cX11_missed 32 = .ok (.goto 4, 3) := by decide +kernel
theorem dX11_missed_35 : decode cX11_missed 35 = .ok (.iconst 0, 1) := by decide +kernel
theorem dX11_missed_36 : decode cX11_missed 36 = .ok (.iadd, 1) := by decide +kernel
theorem dX11_missed_37 : decode cX11_missed 37 = .ok (.istore_n 2, 1) := by decide +kernel
theorem dX11_missed_38 : decode cX11_missed 38 = .ok (.iinc 3 1, 3) := by decide +kernel
theorem dX11_missed_41 : decode cX11_missed 41 = .ok (.goto (-37), 3) := by decide +kernel
theorem dX11_missed_44 : decode cX11_missed 44 = .ok (.iload_n 2, 1) := by decide +kernel
theorem dX11_missed_45 : decode cX11_missed 45 = .ok (.ireturn, 1) := by decide +kernel
theorem dX11_member_0 : decode cX11_member 0 = .ok (.aload_n 0, 1) := by decide +kernel
theorem dX11_member_1 : decode cX11_member 1 = .ok (.iconst 0, 1) := by decide +kernel
theorem dX11_member_2 : decode cX11_member 2 = .ok (.putfield 149, 3) := by decide +kernel
theorem dX11_member_5 : decode cX11_member 5 = .ok (.aload_n 0, 1) := by decide +kernel
theorem dX11_member_6 : decode cX11_member 6 = .ok (.aload_n 0, 1) := by decide +kernel
theorem dX11_member_7 : decode cX11_member 7 = .ok (.iload_n 1, 1) := by decide +kernel
theorem dX11_member_8 : decode cX11_member 8 = .ok (.invokevirtual 179, 3) := by decide +kernel
theorem dX11_member_11 : decode cX11_member 11 = .ok (.ifCond .ne 7, 3) := by decide +kernel
theorem dX11_member_14 : decode cX11_member 14 = .ok (.iconst 1, 1) := by decide +kernel
theorem dX11_member_15 : decode cX11_member 15 = .ok (.goto 4, 3) := by decide +kernel
theorem dX11_member_18 : decode cX11_member 18 = .ok (.iconst 0, 1) := by decide +kernel
theorem dX11_member_19 : decode cX11_member 19 = .ok (.iconst 1, 1) := by decide +kernel
theorem dX11_member_20 : decode cX11_member 20 = .ok (.iconst 0, 1) := by decide +kernel
theorem dX11_member_21 : decode cX11_member 21 = .ok (.invokevirtual 166, 3) := by decide +kernel
theorem dX11_member_24 : decode cX11_member 24 = .ok (.ifCond .ne 27, 3) := by decide +kernel
theorem dX11_member_27 : decode cX11_member 27 = .ok (.aload_n 0, 1) := by decide +kernel
theorem dX11_member_28 : decode cX11_member 28 = .ok (.iload_n 2, 1) := by decide +kernel
theorem dX11_member_29 : decode cX11_member 29 = .ok (.iconst 0, 1) := by decide +kernel
theorem dX11_member_30 : decode cX11_member 30 = .ok (.bipush 7, 2) := by decide +kernel
theorem dX11_member_32 : decode cX11_member 32 = .ok (.invokestatic 162, 3) := by decide +kernel
theorem dX11_member_35 : decode cX11_member 35 = .ok (.ifCond .ne 7, 3) := by decide +kernel
theorem dX11_member_38 : decode cX11_member 38 = .ok (.iconst 1, 1) := by decide +kernel
theorem dX11_member_39 : decode cX11_member 39 = .ok (.goto 4, 3) := by decide +kernel
theorem dX11_member_42 : decode cX11_member 42 = .ok (.iconst 0, 1) := by decide +kernel
theorem dX11_member_43 : decode cX11_member 43 = .ok (.iconst 2, 1) := by decide +kernel
theorem dX11_member_44 : decode cX11_member 44 = .ok (.iconst 1, 1) := by decide +kernel
theorem dX11_member_45 : decode cX11_member 45 = .ok (.invokevirtual 166, 3) := by decide +kernel
theorem dX11_member_48 : decode cX11_member 48 = .ok (.ifCond .eq 5, 3) := by decide +kernel
theorem dX11_member_51 : decode cX11_member 51 = .ok (.iconst 0, 1) := by decide +kernel
theorem dX11_member_52 : decode cX11_member 52 = .ok (.ireturn, 1) := by decide +kernel
theorem dX11_member_53 : decode cX11_member 53 = .ok (.iload_n 2, 1) := by decide +kernel
theorem dX11_member_54 : decode cX11_member 54 = .ok (.ifCond .ne 10, 3) := by decide +kernel
theorem dX11_member_57 : decode cX11_member 57 = .ok (.aload_n 0, 1) := by decide +kernel
theorem dX11_member_58 : decode cX11_member 58 = .ok (.getfield 26, 3) := by decide +kernel
theorem dX11_member_61 : decode cX11_member 61 = .ok (.iload_n 1, 1) := by decide +kernel
theorem dX11_member_62 : decode cX11_member 62 = .ok (.iaload, 1) := by decide +kernel
theorem dX11_member_63 : decode cX11_member 63 = .ok (.ireturn, 1) := by decide +kernel
theorem dX11_member_64 : decode cX11_member 64 = .ok (.iload_n 2, 1) := by decide +kernel
theorem dX11_member_65 : decode cX11_member 65 = .ok (.iconst 1, 1) := by decide +kernel
theorem dX11_member_66 : decode cX11_member 66 = .ok (.if_icmp .ne 17, 3) := by decide +kernel
theorem dX11_member_69 : decode cX11_member 69 = .ok (.aload_n 0, 1) := by decide +kernel
theorem dX11_member_70 : decode cX11_member 70 = .ok (.iload_n 1, 1) := by decide +kernel
theorem dX11_member_71 : decode cX11_member 71 = .ok (.invokevirtual 295, 3) := by decide +kernel
theorem dX11_member_74 : decode cX11_member 74 = .ok (.ifCond .eq 7, 3) := by decide +kernel
theorem dX11_member_77 : decode cX11_member 77 = .ok (.iconst 1, 1) := by decide +kernel
theorem dX11_member_78 : decode cX11_member 78 = .ok (.goto 4, 3) := by decide +kernel
theorem dX11_member_81 : decode cX11_member 81 = .ok (.iconst 0, 1) := by decide +kernel
theorem dX11_member_82 : decode cX11_member 82 = .ok (.ireturn, 1) := by decide +kernel
theorem dX11_member_83 : decode cX11_member 83 = .ok (.aload_n 0, 1) := by decide +kernel
theorem dX11_member_84 : decode cX11_member 84 = .ok (.getfield 39, 3) := by decide +kernel
theorem dX11_member_87 : decode cX11_member 87 = .ok (.iconst (-1), 1) := by decide +kernel
theorem dX11_member_88 : decode cX11_member 88 = .ok (.if_icmp .ne 5, 3) := by decide +kernel
theorem dX11_member_91 : decode cX11_member 91 = .ok (.iconst 0, 1) := by decide +kernel
theorem dX11_member_92 : decode cX11_member 92 = .ok (.ireturn, 1) := by decide +kernel
theorem dX11_member_93 : decode cX11_member 93 = .ok (.iload_n 2, 1) := by decide +kernel
theorem dX11_member_94 : decode cX11_member 94 = .ok (.tableswitch 95 2 6 #[34, 46, 72, 78, 89], 34) := by decide +kernel
theorem dX11_member_128 : decode cX11_member 128 = .ok (.aload_n 0, 1) := by decide +kernel
theorem dX11_member_129 : decode cX11_member 129 = .ok (.iload_n 1, 1) := by decide +kernel
theorem dX11_member_130 : decode cX11_member 130 = .ok (.aload_n 0, 1) := by decide +kernel
theorem dX11_member_131 : decode cX11_member 131 = .ok (.getfield 23, 3) := by decide +kernel
theorem dX11_member_134 : decode cX11_member 134 = .ok (.iconst 1, 1) := by decide +kernel
theorem dX11_member_135 : decode cX11_member 135 = .ok (.iadd, 1) := by decide +kernel
theorem dX11_member_136 : decode cX11_member 136 = .ok (.invokevirtual 362, 3) := by decide +kernel
theorem dX11_member_139 : decode cX11_member 139 = .ok (.ireturn, 1) := by decide +kernel
theorem dX11_member_140 : decode cX11_member 140 = .ok (.iload_n 1, 1) := by decide +kernel
theorem dX11_member_141 : decode cX11_member 141 = .ok (.aload_n 0, 1) := by decide +kernel
theorem dX11_member_142 : decode cX11_member 142 = .ok (.getfield 39, 3) := by decide +kernel
theorem dX11_member_145 : decode cX11_member 145 = .ok (.if_icmp .ne 7, 3) := by decide +kernel
theorem dX11_member_148 : decode cX11_member 148 = .ok (.iconst 0, 1) := by decide +kernel
theorem dX11_member_149 : decode cX11_member 149 = .ok (.goto 16, 3) := by decide +kernel
theorem dX11_member_152 : decode cX11_member 152 = .ok (.aload_n 0, 1) := by decide +kernel
theorem dX11_member_153 : decode cX11_member 153 = .ok (.getfield 50, 3) := by decide +kernel
theorem dX11_member_156 : decode cX11_member 156 = .ok (.iload_n 1, 1) := by decide +kernel
theorem dX11_member_157 : decode cX11_member 157 = .ok (.aaload, 1) := by decide +kernel
theorem dX11_member_158 : decode cX11_member 158 = .ok (.aload_n 0, 1) := by decide +kernel
theorem dX11_member_159 : decode cX11_member 159 = .ok (.getfield 23, 3) := by decide +kernel
theorem dX11_member_162 : decode cX11_member 162 = .ok (.iconst 1, 1) := by decide +kernel
theorem dX11_member_163 : decode cX11_member 163 = .ok (.iadd, 1) := by decide +kernel
theorem dX11_member_164 : decode cX11_member 164 = .ok (.iaload, 1) := by decide +kernel
theorem dX11_member_165 : decode cX11_member 165 = .ok (.ireturn, 1) := by decide +kernel
theorem dX11_member_166 : decode cX11_member 166 = .ok (.aload_n 0, 1) := by decide +kernel
theorem dX11_member_167 : decode cX11_member 167 = .ok (.iload_n 1, 1) := by decide +kernel
theorem dX11_member_168 : decode cX11_member 168 = .ok (.invokevirtual 381, 3) := by decide +kernel
theorem dX11_member_171 : decode cX11_member 171 = .ok (.ireturn, 1) := by decide +kernel
theorem dX11_member_172 : decode cX11_member 172 = .ok (.aload_n 0, 1) := by decide +kernel
theorem dX11_member_173 : decode cX11_member 173 = .ok (.iload_n 1, 1) := by decide +kernel
theorem dX11_member_174 : decode cX11_member 174 = .ok (.aload_n 0, 1) := by decide +kernel
theorem dX11_member_175 : decode cX11_member 175 = .ok (.iload_n 1, 1) := by decide +kernel
theorem dX11_member_176 : decode cX11_member 176 = .ok (.invokevirtual 381, 3) := by decide +kernel
theorem dX11_member_179 : decode cX11_member 179 = .ok (.invokevirtual 362, 3) := by decide +kernel
theorem dX11_member_182 : decode cX11_member 182 = .ok (.ireturn, 1) := by decide +kernel
theorem dX11_member_183 : decode cX11_member 183 = .ok (.aload_n 0, 1) := by decide +kernel
theorem dX11_member_184 : decode cX11_member 184 = .ok (.iload_n 1, 1) := by decide +kernel
theorem dX11_member_185 : decode cX11_member 185 = .ok (.invokevirtual 384, 3) := by decide +kernel
theorem dX11_member_188 : decode cX11_member 188 = .ok (.ireturn, 1) := by decide +kernel
theorem dX11_member_189 : decode cX11_member 189 = .ok (.aload_n 0, 1) := by decide +kernel
theorem dX11_member_190 : decode cX11_member 190 = .ok (.getfield 53, 3) := by decide +kernel
theorem dX11_member_193 : decode cX11_member 193 = .ok (.iload_n 1, 1) := by decide +kernel
theorem dX11_member_194 : decode cX11_member 194 = .ok (.iaload, 1) := by decide +kernel
theorem dX11_member_195 : decode cX11_member 195 = .ok (.ireturn, 1) := by decide +kernel
theorem dX11_isTold_0 : decode cX11_isTold 0 = .ok (.aload_n 0, 1) := by decide +kernel
theorem dX11_isTold_1 : decode cX11_isTold 1 = .ok (.getfield 39, 3) := by decide +kernel
theorem dX11_isTold_4 : decode cX11_isTold 4 = .ok (.iconst (-1), 1) := by decide +kernel
theorem dX11_isTold_5 : decode cX11_isTold 5 = .ok (.if_icmp .eq 31, 3) := by decide +kernel
theorem dX11_isTold_8 : decode cX11_isTold 8 = .ok (.iload_n 1, 1) := by decide +kernel
theorem dX11_isTold_9 : decode cX11_isTold 9 = .ok (.aload_n 0, 1) := by decide +kernel
theorem dX11_isTold_10 : decode cX11_isTold 10 = .ok (.getfield 39, 3) := by decide +kernel
theorem dX11_isTold_13 : decode cX11_isTold 13 = .ok (.if_icmp .ne 23, 3) := by decide +kernel
theorem dX11_isTold_16 : decode cX11_isTold 16 = .ok (.iload_n 2, 1) := by decide +kernel
theorem dX11_isTold_17 : decode cX11_isTold 17 = .ok (.iconst (-1), 1) := by decide +kernel
theorem dX11_isTold_18 : decode cX11_isTold 18 = .ok (.if_icmp .lt 18, 3) := by decide +kernel
theorem dX11_isTold_21 : decode cX11_isTold 21 = .ok (.iload_n 3, 1) := by decide +kernel
theorem dX11_isTold_22 : decode cX11_isTold 22 = .ok (.iconst (-1), 1) := by decide +kernel
theorem dX11_isTold_23 : decode cX11_isTold 23 = .ok (.if_icmp .lt 13, 3) := by decide +kernel
theorem dX11_isTold_26 : decode cX11_isTold 26 = .ok (.iload_n 2, 1) := by decide +kernel
theorem dX11_isTold_27 : decode cX11_isTold 27 = .ok (.iconst (-1), 1) := by decide +kernel
theorem dX11_isTold_28 : decode cX11_isTold 28 = .ok (.if_icmp .ne 10, 3) := by decide +kernel
theorem dX11_isTold_31 : decode cX11_isTold 31 = .ok (.iload_n 3, 1) := by decide +kernel
theorem dX11_isTold_32 : decode cX11_isTold 32 = .ok (.iconst (-1), 1) := by decide +kernel
theorem dX11_isTold_33 : decode cX11_isTold 33 = .ok (.if_icmp .eq 5, 3) := by decide +kernel
theorem dX11_isTold_36 : decode cX11_isTold 36 = .ok (.iconst 0, 1) := by decide +kernel
theorem dX11_isTold_37 : decode cX11_isTold 37 = .ok (.ireturn, 1) := by decide +kernel
theorem dX11_isTold_38 : decode cX11_isTold 38 = .ok (.iload_n 2, 1) := by decide +kernel
theorem dX11_isTold_39 : decode cX11_isTold 39 = .ok (.aload_n 0, 1) := by decide +kernel
theorem dX11_isTold_40 : decode cX11_isTold 40 = .ok (.getfield 20, 3) := by decide +kernel
theorem dX11_isTold_43 : decode cX11_isTold 43 = .ok (.if_icmp .ge 11, 3) := by decide +kernel
theorem dX11_isTold_46 : decode cX11_isTold 46 = .ok (.iload_n 3, 1) := by decide +kernel
theorem dX11_isTold_47 : decode cX11_isTold 47 = .ok (.aload_n 0, 1) := by decide +kernel
theorem dX11_isTold_48 : decode cX11_isTold 48 = .ok (.getfield 20, 3) := by decide +kernel
theorem dX11_isTold_51 : decode cX11_isTold 51 = .ok (.if_icmp .lt 5, 3) := by decide +kernel
theorem dX11_isTold_54 : decode cX11_isTold 54 = .ok (.iconst 0, 1) := by decide +kernel
theorem dX11_isTold_55 : decode cX11_isTold 55 = .ok (.ireturn, 1) := by decide +kernel
theorem dX11_isTold_56 : decode cX11_isTold 56 = .ok (.iload_n 2, 1) := by decide +kernel
theorem dX11_isTold_57 : decode cX11_isTold 57 = .ok (.iload_n 3, 1) := by decide +kernel
theorem dX11_isTold_58 : decode cX11_isTold 58 = .ok (.invokestatic 387, 3) := by decide +kernel
theorem dX11_isTold_61 : decode cX11_isTold 61 = .ok (.istore 4, 2) := by decide +kernel
theorem dX11_isTold_63 : decode cX11_isTold 63 = .ok (.aload_n 0, 1) := by decide +kernel
theorem dX11_isTold_64 : decode cX11_isTold 64 = .ok (.iload 4, 2) := by decide +kernel
theorem dX11_isTold_66 : decode cX11_isTold 66 = .ok (.invokevirtual 324, 3) := by decide +kernel
theorem dX11_isTold_69 : decode cX11_isTold 69 = .ok (.ifCond .eq 21, 3) := by decide +kernel
theorem dX11_isTold_72 : decode cX11_isTold 72 = .ok (.iload 4, 2) := by decide +kernel
theorem dX11_isTold_74 : decode cX11_isTold 74 = .ok (.invokestatic 321, 3) := by decide +kernel
theorem dX11_isTold_77 : decode cX11_isTold 77 = .ok (.aload_n 0, 1) := by decide +kernel
theorem dX11_isTold_78 : decode cX11_isTold 78 = .ok (.getfield 23, 3) := by decide +kernel
theorem dX11_isTold_81 : decode cX11_isTold 81 = .ok (.iconst 1, 1) := by decide +kernel
theorem dX11_isTold_82 : decode cX11_isTold 82 = .ok (.iadd, 1) := by decide +kernel
theorem dX11_isTold_83 : decode cX11_isTold 83 = .ok (.if_icmp .gt 7, 3) := by decide +kernel
theorem dX11_isTold_86 : decode cX11_isTold 86 = .ok (.iconst 1, 1) := by decide +kernel
theorem dX11_isTold_87 : decode cX11_isTold 87 = .ok (.goto 4, 3) := by decide +kernel
theorem dX11_isTold_90 : decode cX11_isTold 90 = .ok (.iconst 0, 1) := by decide +kernel
theorem dX11_isTold_91 : decode cX11_isTold 91 = .ok (.ireturn, 1) := by decide +kernel
theorem dX11_heard_0 : decode cX11_heard 0 = .ok (.aload_n 0, 1) := by decide +kernel
theorem dX11_heard_1 : decode cX11_heard 1 = .ok (.iconst 0, 1) := by decide +kernel
theorem dX11_heard_2 : decode cX11_heard 2 = .ok (.putfield 149, 3) := by decide +kernel
theorem dX11_heard_5 : decode cX11_heard 5 = .ok (.aload_n 0, 1) := by decide +kernel
theorem dX11_heard_6 : decode cX11_heard 6 = .ok (.iload_n 1, 1) := by decide +kernel
theorem dX11_heard_7 : decode cX11_heard 7 = .ok (.invokevirtual 179, 3) := by decide +kernel
theorem dX11_heard_10 : decode cX11_heard 10 = .ok (.ifCond .eq 32, 3) := by decide +kernel
theorem dX11_heard_13 : decode cX11_heard 13 = .ok (.aload_n 0, 1) := by decide +kernel
theorem dX11_heard_14 : decode cX11_heard 14 = .ok (.iload_n 2, 1) := by decide +kernel
theorem dX11_heard_15 : decode cX11_heard 15 = .ok (.iload_n 3, 1) := by decide +kernel
theorem dX11_heard_16 : decode cX11_heard 16 = .ok (.iload 4, 2) := by decide +kernel
theorem dX11_heard_18 : decode cX11_heard 18 = .ok (.invokevirtual 390, 3) := by decide +kernel
theorem dX11_heard_21 : decode cX11_heard 21 = .ok (.ifCond .eq 21, 3) := by decide +kernel
theorem dX11_heard_24 : decode cX11_heard 24 = .ok (.aload_n 0, 1) := by decide +kernel
theorem dX11_heard_25 : decode cX11_heard 25 = .ok (.iload_n 1, 1) := by decide +kernel
theorem dX11_heard_26 : decode cX11_heard 26 = .ok (.iload_n 3, 1) := by decide +kernel
theorem dX11_heard_27 : decode cX11_heard 27 = .ok (.iload 4, 2) := by decide +kernel
theorem dX11_heard_29 : decode cX11_heard 29 = .ok (.invokestatic 387, 3) := by decide +kernel
theorem dX11_heard_32 : decode cX11_heard 32 = .ok (.invokevirtual 337, 3) := by decide +kernel
theorem dX11_heard_35 : decode cX11_heard 35 = .ok (.ifCond .eq 7, 3) := by decide +kernel
theorem dX11_heard_38 : decode cX11_heard 38 = .ok (.iconst 1, 1) := by decide +kernel
theorem dX11_heard_39 : decode cX11_heard 39 = .ok (.goto 4, 3) := by decide +kernel
theorem dX11_heard_42 : decode cX11_heard 42 = .ok (.iconst 0, 1) := by decide +kernel
theorem dX11_heard_43 : decode cX11_heard 43 = .ok (.istore 6, 2) := by decide +kernel
theorem dX11_heard_45 : decode cX11_heard 45 = .ok (.aload_n 0, 1) := by decide +kernel
theorem dX11_heard_46 : decode cX11_heard 46 = .ok (.iload 6, 2) := by decide +kernel
theorem dX11_heard_48 : decode cX11_heard 48 = .ok (.ifCond .ne 7, 3) := by decide +kernel
theorem dX11_heard_51 : decode cX11_heard 51 = .ok (.iconst 1, 1) := by decide +kernel
theorem dX11_heard_52 : decode cX11_heard 52 = .ok (.goto 4, 3) := by decide +kernel
theorem dX11_heard_55 : decode cX11_heard 55 = .ok (.iconst 0, 1) := by decide +kernel
theorem dX11_heard_56 : decode cX11_heard 56 = .ok (.iconst 1, 1) := by decide +kernel
theorem dX11_heard_57 : decode cX11_heard 57 = .ok (.iconst 0, 1) := by decide +kernel
theorem dX11_heard_58 : decode cX11_heard 58 = .ok (.invokevirtual 166, 3) := by decide +kernel
theorem dX11_heard_61 : decode cX11_heard 61 = .ok (.ifCond .ne 27, 3) := by decide +kernel
theorem dX11_heard_64 : decode cX11_heard 64 = .ok (.aload_n 0, 1) := by decide +kernel
theorem dX11_heard_65 : decode cX11_heard 65 = .ok (.iload 5, 2) := by decide +kernel
theorem dX11_heard_67 : decode cX11_heard 67 = .ok (.iconst 0, 1) := by decide +kernel
theorem dX11_heard_68 : decode cX11_heard 68 = .ok (.iconst 2, 1) := by decide +kernel
theorem dX11_heard_69 : decode cX11_heard 69 = .ok (.invokestatic 162, 3) := by decide +kernel
theorem dX11_heard_72 : decode cX11_heard 72 = .ok (.ifCond .ne 7, 3) := by decide +kernel
theorem dX11_heard_75 : decode cX11_heard 75 = .ok (.iconst 1, 1) := by decide +kernel
theorem dX11_heard_76 : decode cX11_heard 76 = .ok (.goto 4, 3) := by decide +kernel
theorem dX11_heard_79 : decode cX11_heard 79 = .ok (.iconst 0, 1) := by decide +kernel
theorem dX11_heard_80 : decode cX11_heard 80 = .ok (.iconst 2, 1) := by decide +kernel
theorem dX11_heard_81 : decode cX11_heard 81 = .ok (.iconst 1, 1) := by decide +kernel
theorem dX11_heard_82 : decode cX11_heard 82 = .ok (.invokevirtual 166, 3) := by decide +kernel
theorem dX11_heard_85 : decode cX11_heard 85 = .ok (.ifCond .eq 5, 3) := by decide +kernel
theorem dX11_heard_88 : decode cX11_heard 88 = .ok (.iconst 0, 1) := by decide +kernel
theorem dX11_heard_89 : decode cX11_heard 89 = .ok (.ireturn, 1) := by decide +kernel
theorem dX11_heard_90 : decode cX11_heard 90 = .ok (.iload_n 3, 1) := by decide +kernel
theorem dX11_heard_91 : decode cX11_heard 91 = .ok (.iload 4, 2) := by decide +kernel
theorem dX11_heard_93 : decode cX11_heard 93 = .ok (.invokestatic 387, 3) := by decide +kernel
theorem dX11_heard_96 : decode cX11_heard 96 = .ok (.istore 7, 2) := by decide +kernel
theorem dX11_heard_98 : decode cX11_heard 98 = .ok (.iload 5, 2) := by decide +kernel
theorem dX11_heard_100 : decode cX11_heard 100 = .ok (.ifCond .ne 15, 3) := by decide +kernel
theorem dX11_heard_103 : decode cX11_heard 103 = .ok (.aload_n 0, 1) := by decide +kernel
theorem dX11_heard_104 : decode cX11_heard 104 = .ok (.getfield 42, 3) := by decide +kernel
theorem dX11_heard_107 : decode cX11_heard 107 = .ok (.iload_n 1, 1) := by decide +kernel
theorem dX11_heard_108 : decode cX11_heard 108 = .ok (.aaload, 1) := by decide +kernel
theorem dX11_heard_109 : decode cX11_heard 109 = .ok (.iload 7, 2) := by decide +kernel
theorem dX11_heard_111 : decode cX11_heard 111 = .ok (.iaload, 1) := by decide +kernel
theorem dX11_heard_112 : decode cX11_heard 112 = .ok (.goto 42, 3) := by decide +kernel
theorem dX11_heard_115 : decode cX11_heard 115 = .ok (.iload 5, 2) := by decide +kernel
theorem dX11_heard_117 : decode cX11_heard 117 = .ok (.iconst 1, 1) := by decide +kernel
theorem dX11_heard_118 : decode cX11_heard 118 = .ok (.if_icmp .ne 23, 3) := by decide +kernel
theorem dX11_heard_121 : decode cX11_heard 121 = .ok (.aload_n 0, 1) := by decide +kernel
theorem dX11_heard_122 : decode cX11_heard 122 = .ok (.getfield 47, 3) := by decide +kernel
theorem dX11_heard_125 : decode cX11_heard 125 = .ok (.iload_n 1, 1) := by decide +kernel
theorem dX11_heard_126 : decode cX11_heard 126 = .ok (.aaload, 1) := by decide +kernel
theorem dX11_heard_127 : decode cX11_heard 127 = .ok (.iload 7, 2) := by decide +kernel
theorem dX11_heard_129 : decode cX11_heard 129 = .ok (.baload, 1) := by decide +kernel
theorem dX11_heard_130 : decode cX11_heard 130 = .ok (.ifCond .eq 7, 3) := by decide +kernel
theorem dX11_heard_133 : decode cX11_heard 133 = .ok (.iconst 1, 1) := by decide +kernel
theorem dX11_heard_134 : decode cX11_heard 134 = .ok (.goto 20, 3) := by decide +kernel
theorem dX11_heard_137 : decode cX11_heard 137 = .ok (.iconst 0, 1) := by decide +kernel
theorem dX11_heard_138 : decode cX11_heard 138 = .ok (.goto 16, 3) := by decide +kernel
theorem dX11_heard_141 : decode cX11_heard 141 = .ok (.aload_n 0, 1) := by decide +kernel
theorem dX11_heard_142 : decode cX11_heard 142 = .ok (.iload_n 1, 1) := by decide +kernel
theorem dX11_heard_143 : decode cX11_heard 143 = .ok (.iload 7, 2) := by decide +kernel
theorem dX11_heard_145 : decode cX11_heard 145 = .ok (.aload_n 0, 1) := by decide +kernel
theorem dX11_heard_146 : decode cX11_heard 146 = .ok (.getfield 23, 3) := by decide +kernel
theorem dX11_heard_149 : decode cX11_heard 149 = .ok (.iconst 1, 1) := by decide +kernel
theorem dX11_heard_150 : decode cX11_heard 150 = .ok (.iadd, 1) := by decide +kernel
theorem dX11_heard_151 : decode cX11_heard 151 = .ok (.invokevirtual 355, 3) := by decide +kernel
theorem dX11_heard_154 : decode cX11_heard 154 = .ok (.ireturn, 1) := by decide +kernel
theorem dX11_cut_0 : decode cX11_cut 0 = .ok (.aload_n 0, 1) := by decide +kernel
theorem dX11_cut_1 : decode cX11_cut 1 = .ok (.iconst 0, 1) := by decide +kernel
theorem dX11_cut_2 : decode cX11_cut 2 = .ok (.putfield 149, 3) := by decide +kernel
theorem dX11_cut_5 : decode cX11_cut 5 = .ok (.aload_n 0, 1) := by decide +kernel
theorem dX11_cut_6 : decode cX11_cut 6 = .ok (.aload_n 0, 1) := by decide +kernel
theorem dX11_cut_7 : decode cX11_cut 7 = .ok (.iload_n 1, 1) := by decide +kernel
theorem dX11_cut_8 : decode cX11_cut 8 = .ok (.invokevirtual 179, 3) := by decide +kernel
theorem dX11_cut_11 : decode cX11_cut 11 = .ok (.ifCond .ne 7, 3) := by decide +kernel
theorem dX11_cut_14 : decode cX11_cut 14 = .ok (.iconst 1, 1) := by decide +kernel
theorem dX11_cut_15 : decode cX11_cut 15 = .ok (.goto 4, 3) := by decide +kernel
theorem dX11_cut_18 : decode cX11_cut 18 = .ok (.iconst 0, 1) := by decide +kernel
theorem dX11_cut_19 : decode cX11_cut 19 = .ok (.iconst 1, 1) := by decide +kernel
theorem dX11_cut_20 : decode cX11_cut 20 = .ok (.iconst 0, 1) := by decide +kernel
theorem dX11_cut_21 : decode cX11_cut 21 = .ok (.invokevirtual 166, 3) := by decide +kernel
theorem dX11_cut_24 : decode cX11_cut 24 = .ok (.ifCond .ne 31, 3) := by decide +kernel
theorem dX11_cut_27 : decode cX11_cut 27 = .ok (.aload_n 0, 1) := by decide +kernel
theorem dX11_cut_28 : decode cX11_cut 28 = .ok (.iload_n 2, 1) := by decide +kernel
theorem dX11_cut_29 : decode cX11_cut 29 = .ok (.iconst 1, 1) := by decide +kernel
theorem dX11_cut_30 : decode cX11_cut 30 = .ok (.aload_n 0, 1) := by decide +kernel
theorem dX11_cut_31 : decode cX11_cut 31 = .ok (.getfield 23, 3) := by decide +kernel
theorem dX11_cut_34 : decode cX11_cut 34 = .ok (.iconst 1, 1) := by decide +kernel
theorem dX11_cut_35 : decode cX11_cut 35 = .ok (.iadd, 1) := by decide +kernel
theorem dX11_cut_36 : decode cX11_cut 36 = .ok (.invokestatic 162, 3) := by decide +kernel
theorem dX11_cut_39 : decode cX11_cut 39 = .ok (.ifCond .ne 7, 3) := by decide +kernel
theorem dX11_cut_42 : decode cX11_cut 42 = .ok (.iconst 1, 1) := by decide +kernel
theorem dX11_cut_43 : decode cX11_cut 43 = .ok (.goto 4, 3) := by decide +kernel
theorem dX11_cut_46 : decode cX11_cut 46 = .ok (.iconst 0, 1) := by decide +kernel
theorem dX11_cut_47 : decode cX11_cut 47 = .ok (.iconst 2, 1) := by decide +kernel
theorem dX11_cut_48 : decode cX11_cut 48 = .ok (.iconst 1, 1) := by decide +kernel
theorem dX11_cut_49 : decode cX11_cut 49 = .ok (.invokevirtual 166, 3) := by decide +kernel
theorem dX11_cut_52 : decode cX11_cut 52 = .ok (.ifCond .eq 5, 3) := by decide +kernel
theorem dX11_cut_55 : decode cX11_cut 55 = .ok (.iconst 0, 1) := by decide +kernel
theorem dX11_cut_56 : decode cX11_cut 56 = .ok (.ireturn, 1) := by decide +kernel
theorem dX11_cut_57 : decode cX11_cut 57 = .ok (.aload_n 0, 1) := by decide +kernel
theorem dX11_cut_58 : decode cX11_cut 58 = .ok (.getfield 39, 3) := by decide +kernel
theorem dX11_cut_61 : decode cX11_cut 61 = .ok (.iconst (-1), 1) := by decide +kernel
theorem dX11_cut_62 : decode cX11_cut 62 = .ok (.if_icmp .ne 7, 3) := by decide +kernel
theorem dX11_cut_65 : decode cX11_cut 65 = .ok (.iconst 0, 1) := by decide +kernel
theorem dX11_cut_66 : decode cX11_cut 66 = .ok (.goto 9, 3) := by decide +kernel
theorem dX11_cut_69 : decode cX11_cut 69 = .ok (.aload_n 0, 1) := by decide +kernel
theorem dX11_cut_70 : decode cX11_cut 70 = .ok (.iload_n 1, 1) := by decide +kernel
theorem dX11_cut_71 : decode cX11_cut 71 = .ok (.iload_n 2, 1) := by decide +kernel
theorem dX11_cut_72 : decode cX11_cut 72 = .ok (.invokevirtual 362, 3) := by decide +kernel
theorem dX11_cut_75 : decode cX11_cut 75 = .ok (.ireturn, 1) := by decide +kernel
theorem dX11_isCommon_0 : decode cX11_isCommon 0 = .ok (.iconst (-1), 1) := by decide +kernel
theorem dX11_isCommon_1 : decode cX11_isCommon 1 = .ok (.istore_n 2, 1) := by decide +kernel
theorem dX11_isCommon_2 : decode cX11_isCommon 2 = .ok (.iconst 0, 1) := by decide +kernel
theorem dX11_isCommon_3 : decode cX11_isCommon 3 = .ok (.istore_n 3, 1) := by decide +kernel
theorem dX11_isCommon_4 : decode cX11_isCommon 4 = .ok (.iload_n 3, 1) := by decide +kernel
theorem dX11_isCommon_5 : decode cX11_isCommon 5 = .ok (.aload_n 0, 1) := by decide +kernel
theorem dX11_isCommon_6 : decode cX11_isCommon 6 = .ok (.getfield 20, 3) := by decide +kernel
theorem dX11_isCommon_9 : decode cX11_isCommon 9 = .ok (.if_icmp .ge 74, 3) := by decide +kernel
theorem dX11_isCommon_12 : decode cX11_isCommon 12 = .ok (.aload_n 0, 1) := by decide +kernel
theorem dX11_isCommon_13 : decode cX11_isCommon 13 = .ok (.iload_n 3, 1) := by decide +kernel
theorem dX11_isCommon_14 : decode cX11_isCommon 14 = .ok (.invokevirtual 359, 3) := by decide +kernel
theorem dX11_isCommon_17 : decode cX11_isCommon 17 = .ok (.ifCond .eq 60, 3) := by decide +kernel
theorem dX11_isCommon_20 : decode cX11_isCommon 20 = .ok (.aload_n 0, 1) := by decide +kernel
theorem dX11_isCommon_21 : decode cX11_isCommon 21 = .ok (.iload_n 1, 1) := by decide +kernel
theorem dX11_isCommon_22 : decode cX11_isCommon 22 = .ok (.iload_n 3, 1) := by decide +kernel
theorem dX11_isCommon_23 : decode cX11_isCommon 23 = .ok (.invokevirtual 327, 3) := by decide +kernel
theorem dX11_isCommon_26 : decode cX11_isCommon 26 = .ok (.ifCond .eq 6, 3) := by decide +kernel
theorem dX11_isCommon_29 : decode cX11_isCommon 29 = .ok (.goto 48, 3) := by decide +kernel
theorem dX11_isCommon_32 : decode cX11_isCommon 32 = .ok (.iload_n 2, 1) := by decide +kernel
theorem dX11_isCommon_33 : decode cX11_isCommon 33 = .ok (.iconst (-1), 1) := by decide +kernel
theorem dX11_isCommon_34 : decode cX11_isCommon 34 = .ok (.if_icmp .eq 32, 3) := by decide +kernel
theorem dX11_isCommon_37 : decode cX11_isCommon 37 = .ok (.aload_n 0, 1) := by decide +kernel
theorem dX11_isCommon_38 : decode cX11_isCommon 38 = .ok (.iload_n 3, 1) := by decide +kernel
theorem dX11_isCommon_39 : decode cX11_isCommon 39 = .ok (.iload_n 1, 1) := by decide +kernel
theorem dX11_isCommon_40 : decode cX11_isCommon 40 = .ok (.aload_n 0, 1) := by decide +kernel
theorem dX11_isCommon_41 : decode cX11_isCommon 41 = .ok (.getfield 23, 3) := by decide +kernel
theorem dX11_isCommon_44 : decode cX11_isCommon 44 = .ok (.iconst 1, 1) := by decide +kernel
theorem dX11_isCommon_45 : decode cX11_isCommon 45 = .ok (.iadd, 1) := by decide +kernel
theorem dX11_isCommon_46 : decode cX11_isCommon 46 = .ok (.invokevirtual 355, 3) := by decide +kernel
theorem dX11_isCommon_49 : decode cX11_isCommon 49 = .ok (.aload_n 0, 1) := by decide +kernel
theorem dX11_isCommon_50 : decode cX11_isCommon 50 = .ok (.iload_n 2, 1) := by decide +kernel
theorem dX11_isCommon_51 : decode cX11_isCommon 51 = .ok (.iload_n 1, 1) := by decide +kernel
theorem dX11_isCommon_52 : decode cX11_isCommon 52 = .ok (.aload_n 0, 1) := by decide +kernel
theorem dX11_isCommon_53 : decode cX11_isCommon 53 = .ok (.getfield 23, 3) := by decide +kernel
theorem dX11_isCommon_56 : decode cX11_isCommon 56 = .ok (.iconst 1, 1) := by decide +kernel
theorem dX11_isCommon_57 : decode cX11_isCommon 57 = .ok (.iadd, 1) := by decide +kernel
theorem dX11_isCommon_58 : decode cX11_isCommon 58 = .ok (.invokevirtual 355, 3) := by decide +kernel
theorem dX11_isCommon_61 : decode cX11_isCommon 61 = .ok (.if_icmp .eq 5, 3) := by decide +kernel
theorem dX11_isCommon_64 : decode cX11_isCommon 64 = .ok (.iconst 0, 1) := by decide +kernel
theorem dX11_isCommon_65 : decode cX11_isCommon 65 = .ok (.ireturn, 1) := by decide +kernel
theorem dX11_isCommon_66 : decode cX11_isCommon 66 = .ok (.iload_n 2, 1) := by decide +kernel
theorem dX11_isCommon_67 : decode cX11_isCommon 67 = .ok (.iconst (-1), 1) := by decide +kernel
theorem dX11_isCommon_68 : decode cX11_isCommon 68 = .ok (.if_icmp .ne 7, 3) := by decide +kernel
theorem dX11_isCommon_71 : decode cX11_isCommon 71 = .ok (.iload_n 3, 1) := by decide +kernel
theorem dX11_isCommon_72 : decode cX11_isCommon 72 = .ok (.goto 4, 3) := by decide +kernel
theorem dX11_isCommon_75 : decode cX11_isCommon 75 = .ok (.iload_n 2, 1) := by decide +kernel
theorem dX11_isCommon_76 : decode cX11_isCommon 76 = .ok (.istore_n 2, 1) := by decide +kernel
theorem dX11_isCommon_77 : decode cX11_isCommon 77 = .ok (.iinc 3 1, 3) := by decide +kernel
theorem dX11_isCommon_80 : decode cX11_isCommon 80 = .ok (.goto (-76), 3) := by decide +kernel
theorem dX11_isCommon_83 : decode cX11_isCommon 83 = .ok (.iconst 1, 1) := by decide +kernel
theorem dX11_isCommon_84 : decode cX11_isCommon 84 = .ok (.ireturn, 1) := by decide +kernel
theorem dX11_common_0 : decode cX11_common 0 = .ok (.aload_n 0, 1) := by decide +kernel
theorem dX11_common_1 : decode cX11_common 1 = .ok (.iconst 0, 1) := by decide +kernel
theorem dX11_common_2 : decode cX11_common 2 = .ok (.putfield 149, 3) := by decide +kernel
theorem dX11_common_5 : decode cX11_common 5 = .ok (.aload_n 0, 1) := by decide +kernel
theorem dX11_common_6 : decode cX11_common 6 = .ok (.aload_n 0, 1) := by decide +kernel
theorem dX11_common_7 : decode cX11_common 7 = .ok (.iload_n 1, 1) := by decide +kernel
theorem dX11_common_8 : decode cX11_common 8 = .ok (.iload_n 2, 1) := by decide +kernel
theorem dX11_common_9 : decode cX11_common 9 = .ok (.iload_n 3, 1) := by decide +kernel
theorem dX11_common_10 : decode cX11_common 10 = .ok (.invokevirtual 390, 3) := by decide +kernel
theorem dX11_common_13 : decode cX11_common 13 = .ok (.ifCond .ne 7, 3) := by decide +kernel
theorem dX11_common_16 : decode cX11_common 16 = .ok (.iconst 1, 1) := by decide +kernel
theorem dX11_common_17 : decode cX11_common 17 = .ok (.goto 4, 3) := by decide +kernel
theorem dX11_common_20 : decode cX11_common 20 = .ok (.iconst 0, 1) := by decide +kernel
theorem dX11_common_21 : decode cX11_common 21 = .ok (.iconst 1, 1) := by decide +kernel
theorem dX11_common_22 : decode cX11_common 22 = .ok (.iconst 0, 1) := by decide +kernel
theorem dX11_common_23 : decode cX11_common 23 = .ok (.invokevirtual 166, 3) := by decide +kernel
theorem dX11_common_26 : decode cX11_common 26 = .ok (.ifCond .eq 5, 3) := by decide +kernel
theorem dX11_common_29 : decode cX11_common 29 = .ok (.iconst 0, 1) := by decide +kernel
theorem dX11_common_30 : decode cX11_common 30 = .ok (.ireturn, 1) := by decide +kernel
theorem dX11_common_31 : decode cX11_common 31 = .ok (.aload_n 0, 1) := by decide +kernel
theorem dX11_common_32 : decode cX11_common 32 = .ok (.iload_n 2, 1) := by decide +kernel
theorem dX11_common_33 : decode cX11_common 33 = .ok (.iload_n 3, 1) := by decide +kernel
theorem dX11_common_34 : decode cX11_common 34 = .ok (.invokestatic 387, 3) := by decide +kernel
theorem dX11_common_37 : decode cX11_common 37 = .ok (.invokevirtual 393, 3) := by decide +kernel
theorem dX11_common_40 : decode cX11_common 40 = .ok (.ireturn, 1) := by decide +kernel
theorem dX11_commons_0 : decode cX11_commons 0 = .ok (.aload_n 0, 1) := by decide +kernel
theorem dX11_commons_1 : decode cX11_commons 1 = .ok (.iconst 0, 1) := by decide +kernel
theorem dX11_commons_2 : decode cX11_commons 2 = .ok (.putfield 149, 3) := by decide +kernel
theorem dX11_commons_5 : decode cX11_commons 5 = .ok (.aload_n 0, 1) := by decide +kernel
theorem dX11_commons_6 : decode cX11_commons 6 = .ok (.iload_n 1, 1) := by decide +kernel
theorem dX11_commons_7 : decode cX11_commons 7 = .ok (.iconst 1, 1) := by decide +kernel
theorem dX11_commons_8 : decode cX11_commons 8 = .ok (.aload_n 0, 1) := by decide +kernel
theorem dX11_commons_9 : decode cX11_commons 9 = .ok (.getfield 23, 3) := by decide +kernel
theorem dX11_commons_12 : decode cX11_commons 12 = .ok (.iconst 1, 1) := by decide +kernel
theorem dX11_commons_13 : decode cX11_commons 13 = .ok (.iadd, 1) := by decide +kernel
theorem dX11_commons_14 : decode cX11_commons 14 = .ok (.invokestatic 162, 3) := by decide +kernel
theorem dX11_commons_17 : decode cX11_commons 17 = .ok (.ifCond .ne 7, 3) := by decide +kernel
theorem dX11_commons_20 : decode cX11_commons 20 = .ok (.iconst 1, 1) := by decide +kernel
theorem dX11_commons_21 : decode cX11_commons 21 = .ok (.goto 4, 3) := by decide +kernel
theorem dX11_commons_24 : decode cX11_commons 24 = .ok (.iconst 0, 1) := by decide +kernel
theorem dX11_commons_25 : decode cX11_commons 25 = .ok (.iconst 1, 1) := by decide +kernel
theorem dX11_commons_26 : decode cX11_commons 26 = .ok (.iconst 1, 1) := by decide +kernel
theorem dX11_commons_27 : decode cX11_commons 27 = .ok (.invokevirtual 166, 3) := by decide +kernel
theorem dX11_commons_30 : decode cX11_commons 30 = .ok (.ifCond .eq 5, 3) := by decide +kernel
theorem dX11_commons_33 : decode cX11_commons 33 = .ok (.iconst 0, 1) := by decide +kernel
theorem dX11_commons_34 : decode cX11_commons 34 = .ok (.ireturn, 1) := by decide +kernel
theorem dX11_commons_35 : decode cX11_commons 35 = .ok (.iconst 0, 1) := by decide +kernel
theorem dX11_commons_36 : decode cX11_commons 36 = .ok (.istore_n 2, 1) := by decide +kernel
theorem dX11_commons_37 : decode cX11_commons 37 = .ok (.iconst 0, 1) := by decide +kernel
theorem dX11_commons_38 : decode cX11_commons 38 = .ok (.istore_n 3, 1) := by decide +kernel
theorem dX11_commons_39 : decode cX11_commons 39 = .ok (.iload_n 3, 1) := by decide +kernel
theorem dX11_commons_40 : decode cX11_commons 40 = .ok (.bipush 57, 2) := by decide +kernel
theorem dX11_commons_42 : decode cX11_commons 42 = .ok (.if_icmp .ge 49, 3) := by decide +kernel
theorem dX11_commons_45 : decode cX11_commons 45 = .ok (.aload_n 0, 1) := by decide +kernel
theorem dX11_commons_46 : decode cX11_commons 46 = .ok (.getfield 39, 3) := by decide +kernel
theorem dX11_commons_49 : decode cX11_commons 49 = .ok (.iconst (-1), 1) := by decide +kernel
theorem dX11_commons_50 : decode cX11_commons 50 = .ok (.if_icmp .eq 41, 3) := by decide +kernel
theorem dX11_commons_53 : decode cX11_commons 53 = .ok (.iload_n 2, 1) := by decide +kernel
theorem dX11_commons_54 : decode cX11_commons 54 = .ok (.iload_n 3, 1) := by decide +kernel
theorem dX11_commons_55 : decode cX11_commons 55 = .ok (.invokestatic 321, 3) := by decide +kernel
theorem dX11_commons_58 : decode cX11_commons 58 = .ok (.iload_n 1, 1) := by decide +kernel
theorem dX11_commons_59 : decode cX11_commons 59 = .ok (.if_icmp .ne 23, 3) := by decide +kernel
theorem dX11_commons_62 : decode cX11_commons 62 = .ok (.aload_n 0, 1) := by decide +kernel
theorem dX11_commons_63 : decode cX11_commons 63 = .ok (.iload_n 3, 1) := by decide +kernel
theorem dX11_commons_64 : decode cX11_commons 64 = .ok (.invokevirtual 324, 3) := by decide +kernel
theorem dX11_commons_67 : decode cX11_commons 67 = .ok (.ifCond .eq 15, 3) := by decide +kernel
theorem dX11_commons_70 : decode cX11_commons 70 = .ok (.aload_n 0, 1) := by decide +kernel
theorem dX11_commons_71 : decode cX11_commons 71 = .ok (.iload_n 3, 1) := by decide +kernel
theorem dX11_commons_72 : decode cX11_commons 72 = .ok (.invokevirtual 393, 3) := by decide +kernel
theorem dX11_commons_75 : decode cX11_commons 75 = .ok (.ifCond .eq 7, 3) := by decide +kernel
theorem dX11_commons_78 : decode cX11_commons 78 = .ok (.iconst 1, 1) := by decide +kernel
theorem dX11_commons_79 : decode cX11_commons 79 = .ok (.goto 4, 3) := by decide +kernel
theorem dX11_commons_82 : decode cX11_commons 82 = .ok (.iconst 0, 1) := by decide +kernel
theorem dX11_commons_83 : decode cX11_commons 83 = .ok (.iadd, 1) := by decide +kernel
theorem dX11_commons_84 : decode cX11_commons 84 = .ok (.istore_n 2, 1) := by decide +kernel
theorem dX11_commons_85 : decode cX11_commons 85 = .ok (.iinc 3 1, 3) := by decide +kernel
theorem dX11_commons_88 : decode cX11_commons 88 = .ok (.goto (-49), 3) := by decide +kernel
theorem dX11_commons_91 : decode cX11_commons 91 = .ok (.iload_n 2, 1) := by decide +kernel
theorem dX11_commons_92 : decode cX11_commons 92 = .ok (.ireturn, 1) := by decide +kernel
theorem dX11_covered_0 : decode cX11_covered 0 = .ok (.aload_n 0, 1) := by decide +kernel
theorem dX11_covered_1 : decode cX11_covered 1 = .ok (.iconst 0, 1) := by decide +kernel
theorem dX11_covered_2 : decode cX11_covered 2 = .ok (.putfield 149, 3) := by decide +kernel
theorem dX11_covered_5 : decode cX11_covered 5 = .ok (.aload_n 0, 1) := by decide +kernel
theorem dX11_covered_6 : decode cX11_covered 6 = .ok (.getfield 39, 3) := by decide +kernel
theorem dX11_covered_9 : decode cX11_covered 9 = .ok (.iconst (-1), 1) := by decide +kernel
theorem dX11_covered_10 : decode cX11_covered 10 = .ok (.if_icmp .ne 5, 3) := by decide +kernel
theorem dX11_covered_13 : decode cX11_covered 13 = .ok (.iconst 0, 1) := by decide +kernel
theorem dX11_covered_14 : decode cX11_covered 14 = .ok (.ireturn, 1) := by decide +kernel
theorem dX11_covered_15 : decode cX11_covered 15 = .ok (.iconst 0, 1) := by decide +kernel
theorem dX11_covered_16 : decode cX11_covered 16 = .ok (.istore_n 1, 1) := by decide +kernel
theorem dX11_covered_17 : decode cX11_covered 17 = .ok (.iload_n 1, 1) := by decide +kernel
theorem dX11_covered_18 : decode cX11_covered 18 = .ok (.bipush 57, 2) := by decide +kernel
theorem dX11_covered_20 : decode cX11_covered 20 = .ok (.if_icmp .ge 82, 3) := by decide +kernel
theorem dX11_covered_23 : decode cX11_covered 23 = .ok (.aload_n 0, 1) := by decide +kernel
theorem dX11_covered_24 : decode cX11_covered 24 = .ok (.iload_n 1, 1) := by decide +kernel
theorem dX11_covered_25 : decode cX11_covered 25 = .ok (.invokevirtual 324, 3) := by decide +kernel
theorem dX11_covered_28 : decode cX11_covered 28 = .ok (.ifCond .eq 68, 3) := by decide +kernel
theorem dX11_covered_31 : decode cX11_covered 31 = .ok (.iload_n 1, 1) := by decide +kernel
theorem dX11_covered_32 : decode cX11_covered 32 = .ok (.invokestatic 321, 3) := by decide +kernel
theorem dX11_covered_35 : decode cX11_covered 35 = .ok (.aload_n 0, 1) := by decide +kernel
theorem dX11_covered_36 : decode cX11_covered 36 = .ok (.getfield 23, 3) := by decide +kernel
theorem dX11_covered_39 : decode cX11_covered 39 = .ok (.iconst 1, 1) := by decide +kernel
theorem dX11_covered_40 : decode cX11_covered 40 = .ok (.iadd, 1) := by decide +kernel
theorem dX11_covered_41 : decode cX11_covered 41 = .ok (.if_icmp .eq 6, 3) := by decide +kernel
theorem dX11_covered_44 : decode cX11_covered 44 = .ok (.goto 52, 3) := by decide +kernel
theorem dX11_covered_47 : decode cX11_covered 47 = .ok (.aload_n 0, 1) := by decide +kernel
theorem dX11_covered_48 : decode cX11_covered 48 = .ok (.iconst 0, 1) := by decide +kernel
theorem dX11_covered_49 : decode cX11_covered 49 = .ok (.invokevirtual 393, 3) := by decide +kernel
theorem dX11_covered_52 : decode cX11_covered 52 = .ok (.ifCond .ne 32, 3) := by decide +kernel
theorem dX11_covered_55 : decode cX11_covered 55 = .ok (.aload_n 0, 1) := by decide +kernel
theorem dX11_covered_56 : decode cX11_covered 56 = .ok (.iload_n 1, 1) := by decide +kernel
theorem dX11_covered_57 : decode cX11_covered 57 = .ok (.invokevirtual 393, 3) := by decide +kernel
theorem dX11_covered_60 : decode cX11_covered 60 = .ok (.ifCond .ne 24, 3) := by decide +kernel
theorem dX11_covered_63 : decode cX11_covered 63 = .ok (.iload_n 1, 1) := by decide +kernel
theorem dX11_covered_64 : decode cX11_covered 64 = .ok (.invokestatic 321, 3) := by decide +kernel
theorem dX11_covered_67 : decode cX11_covered 67 = .ok (.iconst 3, 1) := by decide +kernel
theorem dX11_covered_68 : decode cX11_covered 68 = .ok (.if_icmp .ne 20, 3) := by decide +kernel
theorem dX11_covered_71 : decode cX11_covered 71 = .ok (.aload_n 0, 1) := by decide +kernel
theorem dX11_covered_72 : decode cX11_covered 72 = .ok (.iconst 1, 1) := by decide +kernel
theorem dX11_covered_73 : decode cX11_covered 73 = .ok (.iload_n 1, 1) := by decide +kernel
theorem dX11_covered_74 : decode cX11_covered 74 = .ok (.invokestatic 301, 3) := by decide +kernel
theorem dX11_covered_77 : decode cX11_covered 77 = .ok (.iadd, 1) := by decide +kernel
theorem dX11_covered_78 : decode cX11_covered 78 = .ok (.invokevirtual 393, 3) := by decide +kernel
theorem dX11_covered_81 : decode cX11_covered 81 = .ok (.ifCond .eq 7, 3) := by decide +kernel
theorem dX11_covered_84 : decode cX11_covered 84 = .ok (.iconst 1, 1) := by decide +kernel
theorem dX11_covered_85 : decode cX11_covered 85 = .ok (.goto 4, 3) := by decide +kernel
theorem dX11_covered_88 : decode cX11_covered 88 = .ok (.iconst 0, 1) := by decide +kernel
theorem dX11_covered_89 : decode cX11_covered 89 = .ok (.istore_n 2, 1) := by decide +kernel
theorem dX11_covered_90 : decode cX11_covered 90 = .ok (.iload_n 2, 1) := by decide +kernel
theorem dX11_covered_91 : decode cX11_covered 91 = .ok (.ifCond .ne 5, 3) := by decide +kernel
theorem dX11_covered_94 : decode cX11_covered 94 = .ok (.iconst 0, 1) := by decide +kernel
theorem dX11_covered_95 : decode cX11_covered 95 = .ok (.ireturn, 1) := by decide +kernel
theorem dX11_covered_96 : decode cX11_covered 96 = .ok (.iinc 1 1, 3) := by decide +kernel
theorem dX11_covered_99 : decode cX11_covered 99 = .ok (.goto (-82), 3) := by decide +kernel
theorem dX11_covered_102 : decode cX11_covered 102 = .ok (.iconst 1, 1) := by decide +kernel
theorem dX11_covered_103 : decode cX11_covered 103 = .ok (.ireturn, 1) := by decide +kernel
theorem dX11_isAgreed_0 : decode cX11_isAgreed 0 = .ok (.iconst (-1), 1) := by decide +kernel
theorem dX11_isAgreed_1 : decode cX11_isAgreed 1 = .ok (.istore_n 2, 1) := by decide +kernel
theorem dX11_isAgreed_2 : decode cX11_isAgreed 2 = .ok (.iconst 0, 1) := by decide +kernel
theorem dX11_isAgreed_3 : decode cX11_isAgreed 3 = .ok (.istore_n 3, 1) := by decide +kernel
theorem dX11_isAgreed_4 : decode cX11_isAgreed 4 = .ok (.iload_n 3, 1) := by decide +kernel
theorem dX11_isAgreed_5 : decode cX11_isAgreed 5 = .ok (.aload_n 0, 1) := by decide +kernel
theorem dX11_isAgreed_6 : decode cX11_isAgreed 6 = .ok (.getfield 20, 3) := by decide +kernel
theorem dX11_isAgreed_9 : decode cX11_isAgreed 9 = .ok (.if_icmp .ge 97, 3) := by decide +kernel
theorem dX11_isAgreed_12 : decode cX11_isAgreed 12 = .ok (.aload_n 0, 1) := by decide +kernel
theorem dX11_isAgreed_13 : decode cX11_isAgreed 13 = .ok (.iload_n 3, 1) := by decide +kernel
theorem dX11_isAgreed_14 : decode cX11_isAgreed 14 = .ok (.invokevirtual 359, 3) := by decide +kernel
theorem dX11_isAgreed_17 : decode cX11_isAgreed 17 = .ok (.ifCond .eq 83, 3) := by decide +kernel
theorem dX11_isAgreed_20 : decode cX11_isAgreed 20 = .ok (.iload_n 1, 1) := by decide +kernel
theorem dX11_isAgreed_21 : decode cX11_isAgreed 21 = .ok (.iconst 1, 1) := by decide +kernel
theorem dX11_isAgreed_22 : decode cX11_isAgreed 22 = .ok (.if_icmp .ne 14, 3) := by decide +kernel
theorem dX11_isAgreed_25 : decode cX11_isAgreed 25 = .ok (.iload_n 3, 1) := by decide +kernel
theorem dX11_isAgreed_26 : decode cX11_isAgreed 26 = .ok (.aload_n 0, 1) := by decide +kernel
theorem dX11_isAgreed_27 : decode cX11_isAgreed 27 = .ok (.getfield 39, 3) := by decide +kernel
theorem dX11_isAgreed_30 : decode cX11_isAgreed 30 = .ok (.if_icmp .ne 6, 3) := by decide +kernel
theorem dX11_isAgreed_33 : decode cX11_isAgreed 33 = .ok (.goto 67, 3) := by decide +kernel
theorem dX11_isAgreed_36 : decode cX11_isAgreed 36 = .ok (.aload_n 0, 1) := by decide +kernel
theorem dX11_isAgreed_37 : decode cX11_isAgreed 37 = .ok (.iload_n 3, 1) := by decide +kernel
theorem dX11_isAgreed_38 : decode cX11_isAgreed 38 = .ok (.aload_n 0, 1) := by decide +kernel
theorem dX11_isAgreed_39 : decode cX11_isAgreed 39 = .ok (.getfield 23, 3) := by decide +kernel
theorem dX11_isAgreed_42 : decode cX11_isAgreed 42 = .ok (.iconst 1, 1) := by decide +kernel
theorem dX11_isAgreed_43 : decode cX11_isAgreed 43 = .ok (.iadd, 1) := by decide +kernel
theorem dX11_isAgreed_44 : decode cX11_isAgreed 44 = .ok (.invokevirtual 362, 3) := by decide +kernel
theorem dX11_isAgreed_47 : decode cX11_isAgreed 47 = .ok (.istore 4, 2) := by decide +kernel
theorem dX11_isAgreed_49 : decode cX11_isAgreed 49 = .ok (.iload_n 1, 1) := by decide +kernel
theorem dX11_isAgreed_50 : decode cX11_isAgreed 50 = .ok (.iconst 1, 1) := by decide +kernel
theorem dX11_isAgreed_51 : decode cX11_isAgreed 51 = .ok (.if_icmp .ne 15, 3) := by decide +kernel
theorem dX11_isAgreed_54 : decode cX11_isAgreed 54 = .ok (.iload 4, 2) := by decide +kernel
theorem dX11_isAgreed_56 : decode cX11_isAgreed 56 = .ok (.aload_n 0, 1) := by decide +kernel
theorem dX11_isAgreed_57 : decode cX11_isAgreed 57 = .ok (.getfield 310, 3) := by decide +kernel
theorem dX11_isAgreed_60 : decode cX11_isAgreed 60 = .ok (.if_icmp .eq 29, 3) := by decide +kernel
theorem dX11_isAgreed_63 : decode cX11_isAgreed 63 = .ok (.goto 24, 3) := by decide +kernel
theorem dX11_isAgreed_66 : decode cX11_isAgreed 66 = .ok (.iload_n 2, 1) := by decide +kernel
theorem dX11_isAgreed_67 : decode cX11_isAgreed 67 = .ok (.iconst (-1), 1) := by decide +kernel
theorem dX11_isAgreed_68 : decode cX11_isAgreed 68 = .ok (.if_icmp .eq 21, 3) := by decide +kernel
theorem dX11_isAgreed_71 : decode cX11_isAgreed 71 = .ok (.iload 4, 2) := by decide +kernel
theorem dX11_isAgreed_73 : decode cX11_isAgreed 73 = .ok (.aload_n 0, 1) := by decide +kernel
theorem dX11_isAgreed_74 : decode cX11_isAgreed 74 = .ok (.iload_n 2, 1) := by decide +kernel
theorem dX11_isAgreed_75 : decode cX11_isAgreed 75 = .ok (.aload_n 0, 1) := by decide +kernel
theorem dX11_isAgreed_76 : decode cX11_isAgreed 76 = .ok (.getfield 23, 3) := by decide +kernel
theorem dX11_isAgreed_79 : decode cX11_isAgreed 79 = .ok (.iconst 1, 1) := by decide +kernel
theorem dX11_isAgreed_80 : decode cX11_isAgreed 80 = .ok (.iadd, 1) := by decide +kernel
theorem dX11_isAgreed_81 : decode cX11_isAgreed 81 = .ok (.invokevirtual 362, 3) := by decide +kernel
theorem dX11_isAgreed_84 : decode cX11_isAgreed 84 = .ok (.if_icmp .eq 5, 3) := by decide +kernel
theorem dX11_isAgreed_87 : decode cX11_isAgreed 87 = .ok (.iconst 0, 1) := by decide +kernel
theorem dX11_isAgreed_88 : decode cX11_isAgreed 88 = .ok (.ireturn, 1) := by decide +kernel
theorem dX11_isAgreed_89 : decode cX11_isAgreed 89 = .ok (.iload_n 2, 1) := by decide +kernel
theorem dX11_isAgreed_90 : decode cX11_isAgreed 90 = .ok (.iconst (-1), 1) := by decide +kernel
theorem dX11_isAgreed_91 : decode cX11_isAgreed 91 = .ok (.if_icmp .ne 7, 3) := by decide +kernel
theorem dX11_isAgreed_94 : decode cX11_isAgreed 94 = .ok (.iload_n 3, 1) := by decide +kernel
theorem dX11_isAgreed_95 : decode cX11_isAgreed 95 = .ok (.goto 4, 3) := by decide +kernel
theorem dX11_isAgreed_98 : decode cX11_isAgreed 98 = .ok (.iload_n 2, 1) := by decide +kernel
theorem dX11_isAgreed_99 : decode cX11_isAgreed 99 = .ok (.istore_n 2, 1) := by decide +kernel
theorem dX11_isAgreed_100 : decode cX11_isAgreed 100 = .ok (.iinc 3 1, 3) := by decide +kernel
theorem dX11_isAgreed_103 : decode cX11_isAgreed 103 = .ok (.goto (-99), 3) := by decide +kernel
theorem dX11_isAgreed_106 : decode cX11_isAgreed 106 = .ok (.iconst 1, 1) := by decide +kernel
theorem dX11_isAgreed_107 : decode cX11_isAgreed 107 = .ok (.ireturn, 1) := by decide +kernel
theorem dX11_agreed_0 : decode cX11_agreed 0 = .ok (.aload_n 0, 1) := by decide +kernel
theorem dX11_agreed_1 : decode cX11_agreed 1 = .ok (.iconst 0, 1) := by decide +kernel
theorem dX11_agreed_2 : decode cX11_agreed 2 = .ok (.putfield 149, 3) := by decide +kernel
theorem dX11_agreed_5 : decode cX11_agreed 5 = .ok (.aload_n 0, 1) := by decide +kernel
theorem dX11_agreed_6 : decode cX11_agreed 6 = .ok (.iload_n 1, 1) := by decide +kernel
theorem dX11_agreed_7 : decode cX11_agreed 7 = .ok (.iconst 0, 1) := by decide +kernel
theorem dX11_agreed_8 : decode cX11_agreed 8 = .ok (.iconst 1, 1) := by decide +kernel
theorem dX11_agreed_9 : decode cX11_agreed 9 = .ok (.invokestatic 162, 3) := by decide +kernel
theorem dX11_agreed_12 : decode cX11_agreed 12 = .ok (.ifCond .ne 7, 3) := by decide +kernel
theorem dX11_agreed_15 : decode cX11_agreed 15 = .ok (.iconst 1, 1) := by decide +kernel
theorem dX11_agreed_16 : decode cX11_agreed 16 = .ok (.goto 4, 3) := by decide +kernel
theorem dX11_agreed_19 : decode cX11_agreed 19 = .ok (.iconst 0, 1) := by decide +kernel
theorem dX11_agreed_20 : decode cX11_agreed 20 = .ok (.iconst 1, 1) := by decide +kernel
theorem dX11_agreed_21 : decode cX11_agreed 21 = .ok (.iconst 1, 1) := by decide +kernel
theorem dX11_agreed_22 : decode cX11_agreed 22 = .ok (.invokevirtual 166, 3) := by decide +kernel
theorem dX11_agreed_25 : decode cX11_agreed 25 = .ok (.ifCond .eq 5, 3) := by decide +kernel
theorem dX11_agreed_28 : decode cX11_agreed 28 = .ok (.iconst 0, 1) := by decide +kernel
theorem dX11_agreed_29 : decode cX11_agreed 29 = .ok (.ireturn, 1) := by decide +kernel
theorem dX11_agreed_30 : decode cX11_agreed 30 = .ok (.aload_n 0, 1) := by decide +kernel
theorem dX11_agreed_31 : decode cX11_agreed 31 = .ok (.getfield 39, 3) := by decide +kernel
theorem dX11_agreed_34 : decode cX11_agreed 34 = .ok (.iconst (-1), 1) := by decide +kernel
theorem dX11_agreed_35 : decode cX11_agreed 35 = .ok (.if_icmp .eq 31, 3) := by decide +kernel
theorem dX11_agreed_38 : decode cX11_agreed 38 = .ok (.iload_n 1, 1) := by decide +kernel
theorem dX11_agreed_39 : decode cX11_agreed 39 = .ok (.iconst 1, 1) := by decide +kernel
theorem dX11_agreed_40 : decode cX11_agreed 40 = .ok (.if_icmp .ne 14, 3) := by decide +kernel
theorem dX11_agreed_43 : decode cX11_agreed 43 = .ok (.aload_n 0, 1) := by decide +kernel
theorem dX11_agreed_44 : decode cX11_agreed 44 = .ok (.aload_n 0, 1) := by decide +kernel
theorem dX11_agreed_45 : decode cX11_agreed 45 = .ok (.getfield 39, 3) := by decide +kernel
theorem dX11_agreed_48 : decode cX11_agreed 48 = .ok (.invokevirtual 359, 3) := by decide +kernel
theorem dX11_agreed_51 : decode cX11_agreed 51 = .ok (.ifCond .eq 11, 3) := by decide +kernel
theorem dX11_agreed_54 : decode cX11_agreed 54 = .ok (.aload_n 0, 1) := by decide +kernel
theorem dX11_agreed_55 : decode cX11_agreed 55 = .ok (.iload_n 1, 1) := by decide +kernel
theorem dX11_agreed_56 : decode cX11_agreed 56 = .ok (.invokevirtual 396, 3) := by decide +kernel
theorem dX11_agreed_59 : decode cX11_agreed 59 = .ok (.ifCond .eq 7, 3) := by decide +kernel
theorem dX11_agreed_62 : decode cX11_agreed 62 = .ok (.iconst 1, 1) := by decide +kernel
theorem dX11_agreed_63 : decode cX11_agreed 63 = .ok (.goto 4, 3) := by decide +kernel
theorem dX11_agreed_66 : decode cX11_agreed 66 = .ok (.iconst 0, 1) := by decide +kernel
theorem dX11_agreed_67 : decode cX11_agreed 67 = .ok (.ireturn, 1) := by decide +kernel
theorem dX11_lays_0 : decode cX11_lays 0 = .ok (.iconst 0, 1) := by decide +kernel
theorem dX11_lays_1 : decode cX11_lays 1 = .ok (.istore_n 3, 1) := by decide +kernel
theorem dX11_lays_2 : decode cX11_lays 2 = .ok (.iload_n 3, 1) := by decide +kernel
theorem dX11_lays_3 : decode cX11_lays 3 = .ok (.aload_n 1, 1) := by decide +kernel
theorem dX11_lays_4 : decode cX11_lays 4 = .ok (.arraylength, 1) := by decide +kernel
theorem dX11_lays_5 : decode cX11_lays 5 = .ok (.if_icmp .ge 50, 3) := by decide +kernel
theorem dX11_lays_8 : decode cX11_lays 8 = .ok (.iload_n 2, 1) := by decide +kernel
theorem dX11_lays_9 : decode cX11_lays 9 = .ok (.ifCond .eq 18, 3) := by decide +kernel
theorem dX11_lays_12 : decode cX11_lays 12 = .ok (.aload_n 1, 1) := by decide +kernel
theorem dX11_lays_13 : decode cX11_lays 13 = .ok (.iload_n 3, 1) := by decide +kernel
theorem dX11_lays_14 : decode cX11_lays 14 = .ok (.aload_n 0, 1) := by decide +kernel
theorem dX11_lays_15 : decode cX11_lays 15 = .ok (.getfield 56, 3) := by decide +kernel
theorem dX11_lays_18 : decode cX11_lays 18 = .ok (.aload_n 0, 1) := by decide +kernel
theorem dX11_lays_19 : decode cX11_lays 19 = .ok (.getfield 399, 3) := by decide +kernel
theorem dX11_lays_22 : decode cX11_lays 22 = .ok (.iaload, 1) := by decide +kernel
theorem dX11_lays_23 : decode cX11_lays 23 = .ok (.iastore, 1) := by decide +kernel
theorem dX11_lays_24 : decode cX11_lays 24 = .ok (.goto 15, 3) := by decide +kernel
theorem dX11_lays_27 : decode cX11_lays 27 = .ok (.aload_n 0, 1) := by decide +kernel
theorem dX11_lays_28 : decode cX11_lays 28 = .ok (.getfield 56, 3) := by decide +kernel
theorem dX11_lays_31 : decode cX11_lays 31 = .ok (.aload_n 0, 1) := by decide +kernel
theorem dX11_lays_32 : decode cX11_lays 32 = .ok (.getfield 399, 3) := by decide +kernel
theorem dX11_lays_35 : decode cX11_lays 35 = .ok (.aload_n 1, 1) := by decide +kernel
theorem dX11_lays_36 : decode cX11_lays 36 = .ok (.iload_n 3, 1) := by decide +kernel
theorem dX11_lays_37 : decode cX11_lays 37 = .ok (.iaload, 1) := by decide +kernel
theorem dX11_lays_38 : decode cX11_lays 38 = .ok (.iastore, 1) := by decide +kernel
theorem dX11_lays_39 : decode cX11_lays 39 = .ok (.aload_n 0, 1) := by decide +kernel
theorem dX11_lays_40 : decode cX11_lays 40 = .ok (.dup, 1) := by decide +kernel
theorem dX11_lays_41 : decode cX11_lays 41 = .ok (.getfield 399, 3) := by decide +kernel
theorem dX11_lays_44 : decode cX11_lays 44 = .ok (.iconst 1, 1) := by decide +kernel
theorem dX11_lays_45 : decode cX11_lays 45 = .ok (.iadd, 1) := by decide +kernel
theorem dX11_lays_46 : decode cX11_lays 46 = .ok (.putfield 399, 3) := by decide +kernel
theorem dX11_lays_49 : decode cX11_lays 49 = .ok (.iinc 3 1, 3) := by decide +kernel
theorem dX11_lays_52 : decode cX11_lays 52 = .ok (.goto (-50), 3) := by decide +kernel
theorem dX11_lays_55 : decode cX11_lays 55 = .ok (.return_, 1) := by decide +kernel
theorem dX11_laysAll_0 : decode cX11_laysAll 0 = .ok (.bipush 6, 2) := by decide +kernel
theorem dX11_laysAll_2 : decode cX11_laysAll 2 = .ok (.newarray .int, 2) := by decide +kernel
theorem dX11_laysAll_4 : decode cX11_laysAll 4 = .ok (.dup, 1) := by decide +kernel
theorem dX11_laysAll_5 : decode cX11_laysAll 5 = .ok (.iconst 0, 1) := by decide +kernel
theorem dX11_laysAll_6 : decode cX11_laysAll 6 = .ok (.aload_n 0, 1) := by decide +kernel
theorem dX11_laysAll_7 : decode cX11_laysAll 7 = .ok (.getfield 39, 3) := by decide +kernel
theorem dX11_laysAll_10 : decode cX11_laysAll 10 = .ok (.iastore, 1) := by decide +kernel
theorem dX11_laysAll_11 : decode cX11_laysAll 11 = .ok (.dup, 1) := by decide +kernel
theorem dX11_laysAll_12 : decode cX11_laysAll 12 = .ok (.iconst 1, 1) := by decide +kernel
theorem dX11_laysAll_13 : decode cX11_laysAll 13 = .ok (.aload_n 0, 1) := by decide +kernel
theorem dX11_laysAll_14 : decode cX11_laysAll 14 = .ok (.getfield 173, 3) := by decide +kernel
theorem dX11_laysAll_17 : decode cX11_laysAll 17 = .ok (.iastore, 1) := by decide +kernel
theorem dX11_laysAll_18 : decode cX11_laysAll 18 = .ok (.dup, 1) := by decide +kernel
theorem dX11_laysAll_19 : decode cX11_laysAll 19 = .ok (.iconst 2, 1) := by decide +kernel
theorem dX11_laysAll_20 : decode cX11_laysAll 20 = .ok (.aload_n 0, 1) := by decide +kernel
theorem dX11_laysAll_21 : decode cX11_laysAll 21 = .ok (.getfield 176, 3) := by decide +kernel
theorem dX11_laysAll_24 : decode cX11_laysAll 24 = .ok (.iastore, 1) := by decide +kernel
theorem dX11_laysAll_25 : decode cX11_laysAll 25 = .ok (.dup, 1) := by decide +kernel
theorem dX11_laysAll_26 : decode cX11_laysAll 26 = .ok (.iconst 3, 1) := by decide +kernel
theorem dX11_laysAll_27 : decode cX11_laysAll 27 = .ok (.aload_n 0, 1) := by decide +kernel
theorem dX11_laysAll_28 : decode cX11_laysAll 28 = .ok (.getfield 307, 3) := by decide +kernel
theorem dX11_laysAll_31 : decode cX11_laysAll 31 = .ok (.iastore, 1) := by decide +kernel
theorem dX11_laysAll_32 : decode cX11_laysAll 32 = .ok (.dup, 1) := by decide +kernel
theorem dX11_laysAll_33 : decode cX11_laysAll 33 = .ok (.iconst 4, 1) := by decide +kernel
theorem dX11_laysAll_34 : decode cX11_laysAll 34 = .ok (.aload_n 0, 1) := by decide +kernel
theorem dX11_laysAll_35 : decode cX11_laysAll 35 = .ok (.getfield 343, 3) := by decide +kernel
theorem dX11_laysAll_38 : decode cX11_laysAll 38 = .ok (.iastore, 1) := by decide +kernel
theorem dX11_laysAll_39 : decode cX11_laysAll 39 = .ok (.dup, 1) := by decide +kernel
theorem dX11_laysAll_40 : decode cX11_laysAll 40 = .ok (.iconst 5, 1) := by decide +kernel
theorem dX11_laysAll_41 : decode cX11_laysAll 41 = .ok (.aload_n 0, 1) := by decide +kernel
theorem dX11_laysAll_42 : decode cX11_laysAll 42 = .ok (.getfield 310, 3) := by decide +kernel
theorem dX11_laysAll_45 : decode cX11_laysAll 45 = .ok (.iastore, 1) := by decide +kernel
theorem dX11_laysAll_46 : decode cX11_laysAll 46 = .ok (.astore_n 2, 1) := by decide +kernel
theorem dX11_laysAll_47 : decode cX11_laysAll 47 = .ok (.aload_n 0, 1) := by decide +kernel
theorem dX11_laysAll_48 : decode cX11_laysAll 48 = .ok (.iconst 0, 1) := by decide +kernel
theorem dX11_laysAll_49 : decode cX11_laysAll 49 = .ok (.putfield 399, 3) := by decide +kernel
theorem dX11_laysAll_52 : decode cX11_laysAll 52 = .ok (.iconst 0, 1) := by decide +kernel
theorem dX11_laysAll_53 : decode cX11_laysAll 53 = .ok (.istore_n 3, 1) := by decide +kernel
theorem dX11_laysAll_54 : decode cX11_laysAll 54 = .ok (.iload_n 3, 1) := by decide +kernel
theorem dX11_laysAll_55 : decode cX11_laysAll 55 = .ok (.bipush 6, 2) := by decide +kernel
theorem dX11_laysAll_57 : decode cX11_laysAll 57 = .ok (.if_icmp .ge 18, 3) := by decide +kernel
theorem dX11_laysAll_60 : decode cX11_laysAll 60 = .ok (.aload_n 0, 1) := by decide +kernel
theorem dX11_laysAll_61 : decode cX11_laysAll 61 = .ok (.getfield 59, 3) := by decide +kernel
theorem dX11_laysAll_64 : decode cX11_laysAll 64 = .ok (.iload_n 3, 1) := by decide +kernel
theorem dX11_laysAll_65 : decode cX11_laysAll 65 = .ok (.aload_n 2, 1) := by decide +kernel
theorem dX11_laysAll_66 : decode cX11_laysAll 66 = .ok (.iload_n 3, 1) := by decide +kernel
theorem dX11_laysAll_67 : decode cX11_laysAll 67 = .ok (.iaload, 1) := by decide +kernel
theorem dX11_laysAll_68 : decode cX11_laysAll 68 = .ok (.iastore, 1) := by decide +kernel
theorem dX11_laysAll_69 : decode cX11_laysAll 69 = .ok (.iinc 3 1, 3) := by decide +kernel
theorem dX11_laysAll_72 : decode cX11_laysAll 72 = .ok (.goto (-18), 3) := by decide +kernel
theorem dX11_laysAll_75 : decode cX11_laysAll 75 = .ok (.aload_n 0, 1) := by decide +kernel
theorem dX11_laysAll_76 : decode cX11_laysAll 76 = .ok (.aload_n 0, 1) := by decide +kernel
theorem dX11_laysAll_77 : decode cX11_laysAll 77 = .ok (.getfield 59, 3) := by decide +kernel
theorem dX11_laysAll_80 : decode cX11_laysAll 80 = .ok (.iload_n 1, 1) := by decide +kernel
theorem dX11_laysAll_81 : decode cX11_laysAll 81 = .ok (.invokevirtual 402, 3) := by decide +kernel
theorem dX11_laysAll_84 : decode cX11_laysAll 84 = .ok (.aload_n 0, 1) := by decide +kernel
theorem dX11_laysAll_85 : decode cX11_laysAll 85 = .ok (.aload_n 0, 1) := by decide +kernel
theorem dX11_laysAll_86 : decode cX11_laysAll 86 = .ok (.getfield 59, 3) := by decide +kernel
theorem dX11_laysAll_89 : decode cX11_laysAll 89 = .ok (.iconst 0, 1) := by decide +kernel
theorem dX11_laysAll_90 : decode cX11_laysAll 90 = .ok (.iaload, 1) := by decide +kernel
theorem dX11_laysAll_91 : decode cX11_laysAll 91 = .ok (.putfield 39, 3) := by decide +kernel
theorem dX11_laysAll_94 : decode cX11_laysAll 94 = .ok (.aload_n 0, 1) := by decide +kernel
theorem dX11_laysAll_95 : decode cX11_laysAll 95 = .ok (.aload_n 0, 1) := by decide +kernel
theorem dX11_laysAll_96 : decode cX11_laysAll 96 = .ok (.getfield 59, 3) := by decide +kernel
theorem dX11_laysAll_99 : decode cX11_laysAll 99 = .ok (.iconst 1, 1) := by decide +kernel
theorem dX11_laysAll_100 : decode cX11_laysAll 100 = .ok (.iaload, 1) := by decide +kernel
theorem dX11_laysAll_101 : decode cX11_laysAll 101 = .ok (.putfield 173, 3) := by decide +kernel
theorem dX11_laysAll_104 : decode cX11_laysAll 104 = .ok (.aload_n 0, 1) := by decide +kernel
theorem dX11_laysAll_105 : decode cX11_laysAll 105 = .ok (.aload_n 0, 1) := by decide +kernel
theorem dX11_laysAll_106 : decode cX11_laysAll 106 = .ok (.getfield 59, 3) := by decide +kernel
theorem dX11_laysAll_109 : decode cX11_laysAll 109 = .ok (.iconst 2, 1) := by decide +kernel
theorem dX11_laysAll_110 : decode cX11_laysAll 110 = .ok (.iaload, 1) := by decide +kernel
theorem dX11_laysAll_111 : decode cX11_laysAll 111 = .ok (.putfield 176, 3) := by decide +kernel
theorem dX11_laysAll_114 : decode cX11_laysAll 114 = .ok (.aload_n 0, 1) := by decide +kernel
theorem dX11_laysAll_115 : decode cX11_laysAll 115 = .ok (.aload_n 0, 1) := by decide +kernel
theorem dX11_laysAll_116 : decode cX11_laysAll 116 = .ok (.getfield 59, 3) := by decide +kernel
theorem dX11_laysAll_119 : decode cX11_laysAll 119 = .ok (.iconst 3, 1) := by decide +kernel
theorem dX11_laysAll_120 : decode cX11_laysAll 120 = .ok (.iaload, 1) := by decide +kernel
theorem dX11_laysAll_121 : decode cX11_laysAll 121 = .ok (.putfield 307, 3) := by decide +kernel
theorem dX11_laysAll_124 : decode cX11_laysAll 124 = .ok (.aload_n 0, 1) := by decide +kernel
theorem dX11_laysAll_125 : decode cX11_laysAll 125 = .ok (.aload_n 0, 1) := by decide +kernel
theorem dX11_laysAll_126 : decode cX11_laysAll 126 = .ok (.getfield 59, 3) := by decide +kernel
theorem dX11_laysAll_129 : decode cX11_laysAll 129 = .ok (.iconst 4, 1) := by decide +kernel
theorem dX11_laysAll_130 : decode cX11_laysAll 130 = .ok (.iaload, 1) := by decide +kernel
theorem dX11_laysAll_131 : decode cX11_laysAll 131 = .ok (.putfield 343, 3) := by decide +kernel
theorem dX11_laysAll_134 : decode cX11_laysAll 134 = .ok (.aload_n 0, 1) := by decide +kernel
theorem dX11_laysAll_135 : decode cX11_laysAll 135 = .ok (.aload_n 0, 1) := by decide +kernel
theorem dX11_laysAll_136 : decode cX11_laysAll 136 = .ok (.getfield 59, 3) := by decide +kernel
theorem dX11_laysAll_139 : decode cX11_laysAll 139 = .ok (.iconst 5, 1) := by decide +kernel
theorem dX11_laysAll_140 : decode cX11_laysAll 140 = .ok (.iaload, 1) := by decide +kernel
theorem dX11_laysAll_141 : decode cX11_laysAll 141 = .ok (.putfield 310, 3) := by decide +kernel
theorem dX11_laysAll_144 : decode cX11_laysAll 144 = .ok (.aload_n 0, 1) := by decide +kernel
theorem dX11_laysAll_145 : decode cX11_laysAll 145 = .ok (.aload_n 0, 1) := by decide +kernel
theorem dX11_laysAll_146 : decode cX11_laysAll 146 = .ok (.getfield 53, 3) := by decide +kernel
theorem dX11_laysAll_149 : decode cX11_laysAll 149 = .ok (.iload_n 1, 1) := by decide +kernel
theorem dX11_laysAll_150 : decode cX11_laysAll 150 = .ok (.invokevirtual 402, 3) := by decide +kernel
theorem dX11_laysAll_153 : decode cX11_laysAll 153 = .ok (.iconst 0, 1) := by decide +kernel
theorem dX11_laysAll_154 : decode cX11_laysAll 154 = .ok (.istore_n 3, 1) := by decide +kernel
theorem dX11_laysAll_155 : decode cX11_laysAll 155 = .ok (.iload_n 3, 1) := by decide +kernel
theorem dX11_laysAll_156 : decode cX11_laysAll 156 = .ok (.bipush 7, 2) := by decide +kernel
theorem dX11_laysAll_158 : decode cX11_laysAll 158 = .ok (.if_icmp .ge 117, 3) := by decide +kernel
theorem dX11_laysAll_161 : decode cX11_laysAll 161 = .ok (.aload_n 0, 1) := by decide +kernel
theorem dX11_laysAll_162 : decode cX11_laysAll 162 = .ok (.aload_n 0, 1) := by decide +kernel
theorem dX11_laysAll_163 : decode cX11_laysAll 163 = .ok (.getfield 42, 3) := by decide +kernel
theorem dX11_laysAll_166 : decode cX11_laysAll 166 = .ok (.iload_n 3, 1) := by decide +kernel
theorem dX11_laysAll_167 : decode cX11_laysAll 167 = .ok (.aaload, 1) := by decide +kernel
theorem dX11_laysAll_168 : decode cX11_laysAll 168 = .ok (.iload_n 1, 1) := by decide +kernel
theorem dX11_laysAll_169 : decode cX11_laysAll 169 = .ok (.invokevirtual 402, 3) := by decide +kernel
theorem dX11_laysAll_172 : decode cX11_laysAll 172 = .ok (.aload_n 0, 1) := by decide +kernel
theorem dX11_laysAll_173 : decode cX11_laysAll 173 = .ok (.aload_n 0, 1) := by decide +kernel
theorem dX11_laysAll_174 : decode cX11_laysAll 174 = .ok (.getfield 50, 3) := by decide +kernel
theorem dX11_laysAll_177 : decode cX11_laysAll 177 = .ok (.iload_n 3, 1) := by decide +kernel
theorem dX11_laysAll_178 : decode cX11_laysAll 178 = .ok (.aaload, 1) := by decide +kernel
theorem dX11_laysAll_179 : decode cX11_laysAll 179 = .ok (.iload_n 1, 1) := by decide +kernel
theorem dX11_laysAll_180 : decode cX11_laysAll 180 = .ok (.invokevirtual 402, 3) := by decide +kernel
theorem dX11_laysAll_183 : decode cX11_laysAll 183 = .ok (.iconst 0, 1) := by decide +kernel
theorem dX11_laysAll_184 : decode cX11_laysAll 184 = .ok (.istore 4, 2) := by decide +kernel
theorem dX11_laysAll_186 : decode cX11_laysAll 186 = .ok (.iload 4, 2) := by decide +kernel
theorem dX11_laysAll_188 : decode cX11_laysAll 188 = .ok (.bipush 57, 2) := by decide +kernel
theorem dX11_laysAll_190 : decode cX11_laysAll 190 = .ok (.if_icmp .ge 79, 3) := by decide +kernel
theorem dX11_laysAll_193 : decode cX11_laysAll 193 = .ok (.iload_n 1, 1) := by decide +kernel
theorem dX11_laysAll_194 : decode cX11_laysAll 194 = .ok (.ifCond .eq 33, 3) := by decide +kernel
theorem dX11_laysAll_197 : decode cX11_laysAll 197 = .ok (.aload_n 0, 1) := by decide +kernel
theorem dX11_laysAll_198 : decode cX11_laysAll 198 = .ok (.getfield 47, 3) := by decide +kernel
theorem dX11_laysAll_201 : decode cX11_laysAll 201 = .ok (.iload_n 3, 1) := by decide +kernel
theorem dX11_laysAll_202 : decode cX11_laysAll 202 = .ok (.aaload, 1) := by decide +kernel
theorem dX11_laysAll_203 : decode cX11_laysAll 203 = .ok (.iload 4, 2) := by decide +kernel
theorem dX11_laysAll_205 : decode cX11_laysAll 205 = .ok (.aload_n 0, 1) := by decide +kernel
theorem dX11_laysAll_206 : decode cX11_laysAll 206 = .ok (.getfield 56, 3) := by decide +kernel
theorem dX11_laysAll_209 : decode cX11_laysAll 209 = .ok (.aload_n 0, 1) := by decide +kernel
theorem dX11_laysAll_210 : decode cX11_laysAll 210 = .ok (.getfield 399, 3) := by decide +kernel
theorem dX11_laysAll_213 : decode cX11_laysAll 213 = .ok (.iaload, 1) := by decide +kernel
theorem dX11_laysAll_214 : decode cX11_laysAll 214 = .ok (.iconst 1, 1) := by decide +kernel
theorem dX11_laysAll_215 : decode cX11_laysAll 215 = .ok (.if_icmp .ne 7, 3) := by decide +kernel
theorem dX11_laysAll_218 : decode cX11_laysAll 218 = .ok (.iconst 1, 1) := by decide +kernel
theorem dX11_laysAll_219 : decode cX11_laysAll 219 = .ok (.goto 4, 3) := by decide +kernel
theorem dX11_laysAll_222 : decode cX11_laysAll 222 = .ok (.iconst 0, 1) := by decide +kernel
theorem dX11_laysAll_223 : decode cX11_laysAll 223 = .ok (.bastore, 1) := by decide +kernel
theorem dX11_laysAll_224 : decode cX11_laysAll 224 = .ok (.goto 29, 3) := by decide +kernel
theorem dX11_laysAll_227 : decode cX11_laysAll 227 = .ok (.aload_n 0, 1) := by decide +kernel
theorem dX11_laysAll_228 : decode cX11_laysAll 228 = .ok (.getfield 56, 3) := by decide +kernel
theorem dX11_laysAll_231 : decode cX11_laysAll 231 = .ok (.aload_n 0, 1) := by decide +kernel
theorem dX11_laysAll_232 : decode cX11_laysAll 232 = .ok (.getfield 399, 3) := by decide +kernel
theorem dX11_laysAll_235 : decode cX11_laysAll 235 = .ok (.aload_n 0, 1) := by decide +kernel
theorem dX11_laysAll_236 : decode cX11_laysAll 236 = .ok (.getfield 47, 3) := by decide +kernel
theorem dX11_laysAll_239 : decode cX11_laysAll 239 = .ok (.iload_n 3, 1) := by decide +kernel
theorem dX11_laysAll_240 : decode cX11_laysAll 240 = .ok (.aaload, 1) := by decide +kernel
theorem dX11_laysAll_241 : decode cX11_laysAll 241 = .ok (.iload 4, 2) := by decide +kernel
theorem dX11_laysAll_243 : decode cX11_laysAll 243 = .ok (.baload, 1) := by decide +kernel
theorem dX11_laysAll_244 : decode cX11_laysAll 244 = .ok (.ifCond .eq 7, 3) := by decide +kernel
theorem dX11_laysAll_247 : decode cX11_laysAll 247 = .ok (.iconst 1, 1) := by decide +kernel
theorem dX11_laysAll_248 : decode cX11_laysAll 248 = .ok (.goto 4, 3) := by decide +kernel
theorem dX11_laysAll_251 : decode cX11_laysAll 251 = .ok (.iconst 0, 1) := by decide +kernel
theorem dX11_laysAll_252 : decode cX11_laysAll 252 = .ok (.iastore, 1) := by decide +kernel
theorem dX11_laysAll_253 : decode cX11_laysAll 253 = .ok (.aload_n 0, 1) := by decide +kernel
theorem dX11_laysAll_254 : decode cX11_laysAll 254 = .ok (.dup, 1) := by decide +kernel
theorem dX11_laysAll_255 : decode cX11_laysAll 255 = .ok (.getfield 399, 3) := by decide +kernel
theorem dX11_laysAll_258 : decode cX11_laysAll 258 = .ok (.iconst 1, 1) := by decide +kernel
theorem dX11_laysAll_259 : decode cX11_laysAll 259 = .ok (.iadd, 1) := by decide +kernel
theorem dX11_laysAll_260 : decode cX11_laysAll 260 = .ok (.putfield 399, 3) := by decide +kernel
theorem dX11_laysAll_263 : decode cX11_laysAll 263 = .ok (.iinc 4 1, 3) := by decide +kernel
theorem dX11_laysAll_266 : decode cX11_laysAll 266 = .ok (.goto (-80), 3) := by decide +kernel
theorem dX11_laysAll_269 : decode cX11_laysAll 269 = .ok (.iinc 3 1, 3) := by decide +kernel
theorem dX11_laysAll_272 : decode cX11_laysAll 272 = .ok (.goto (-117), 3) := by decide +kernel
theorem dX11_laysAll_275 : decode cX11_laysAll 275 = .ok (.return_, 1) := by decide +kernel
theorem dX11_orderOf_0 : decode cX11_orderOf 0 = .ok (.aload_n 0, 1) := by decide +kernel
theorem dX11_orderOf_1 : decode cX11_orderOf 1 = .ok (.iconst 0, 1) := by decide +kernel
theorem dX11_orderOf_2 : decode cX11_orderOf 2 = .ok (.invokevirtual 406, 3) := by decide +kernel
theorem dX11_orderOf_5 : decode cX11_orderOf 5 = .ok (.aload_n 0, 1) := by decide +kernel
theorem dX11_orderOf_6 : decode cX11_orderOf 6 = .ok (.iload_n 2, 1) := by decide +kernel
theorem dX11_orderOf_7 : decode cX11_orderOf 7 = .ok (.invokevirtual 365, 3) := by decide +kernel
theorem dX11_orderOf_10 : decode cX11_orderOf 10 = .ok (.aload_n 0, 1) := by decide +kernel
theorem dX11_orderOf_11 : decode cX11_orderOf 11 = .ok (.iload_n 1, 1) := by decide +kernel
theorem dX11_orderOf_12 : decode cX11_orderOf 12 = .ok (.aload_n 0, 1) := by decide +kernel
theorem dX11_orderOf_13 : decode cX11_orderOf 13 = .ok (.getfield 23, 3) := by decide +kernel
theorem dX11_orderOf_16 : decode cX11_orderOf 16 = .ok (.iconst 1, 1) := by decide +kernel
theorem dX11_orderOf_17 : decode cX11_orderOf 17 = .ok (.iadd, 1) := by decide +kernel
theorem dX11_orderOf_18 : decode cX11_orderOf 18 = .ok (.invokevirtual 362, 3) := by decide +kernel
theorem dX11_orderOf_21 : decode cX11_orderOf 21 = .ok (.istore_n 3, 1) := by decide +kernel
theorem dX11_orderOf_22 : decode cX11_orderOf 22 = .ok (.aload_n 0, 1) := by decide +kernel
theorem dX11_orderOf_23 : decode cX11_orderOf 23 = .ok (.iconst 1, 1) := by decide +kernel
theorem dX11_orderOf_24 : decode cX11_orderOf 24 = .ok (.invokevirtual 406, 3) := by decide +kernel
theorem dX11_orderOf_27 : decode cX11_orderOf 27 = .ok (.iload_n 3, 1) := by decide +kernel
theorem dX11_orderOf_28 : decode cX11_orderOf 28 = .ok (.ireturn, 1) := by decide +kernel
theorem dX11_order_0 : decode cX11_order 0 = .ok (.aload_n 0, 1) := by decide +kernel
theorem dX11_order_1 : decode cX11_order 1 = .ok (.iconst 0, 1) := by decide +kernel
theorem dX11_order_2 : decode cX11_order 2 = .ok (.putfield 149, 3) := by decide +kernel
theorem dX11_order_5 : decode cX11_order 5 = .ok (.aload_n 0, 1) := by decide +kernel
theorem dX11_order_6 : decode cX11_order 6 = .ok (.aload_n 0, 1) := by decide +kernel
theorem dX11_order_7 : decode cX11_order 7 = .ok (.iload_n 1, 1) := by decide +kernel
theorem dX11_order_8 : decode cX11_order 8 = .ok (.invokevirtual 179, 3) := by decide +kernel
theorem dX11_order_11 : decode cX11_order 11 = .ok (.ifCond .eq 11, 3) := by decide +kernel
theorem dX11_order_14 : decode cX11_order 14 = .ok (.aload_n 0, 1) := by decide +kernel
theorem dX11_order_15 : decode cX11_order 15 = .ok (.iload_n 2, 1) := by decide +kernel
theorem dX11_order_16 : decode cX11_order 16 = .ok (.invokevirtual 179, 3) := by decide +kernel
theorem dX11_order_19 : decode cX11_order 19 = .ok (.ifCond .ne 7, 3) := by decide +kernel
theorem dX11_order_22 : decode cX11_order 22 = .ok (.iconst 1, 1) := by decide +kernel
theorem dX11_order_23 : decode cX11_order 23 = .ok (.goto 4, 3) := by decide +kernel
theorem dX11_order_26 : decode cX11_order 26 = .ok (.iconst 0, 1) := by decide +kernel
theorem dX11_order_27 : decode cX11_order 27 = .ok (.iconst 1, 1) := by decide +kernel
theorem dX11_order_28 : decode cX11_order 28 = .ok (.iconst 0, 1) := by decide +kernel
theorem dX11_order_29 : decode cX11_order 29 = .ok (.invokevirtual 166, 3) := by decide +kernel
theorem dX11_order_32 : decode cX11_order 32 = .ok (.ifCond .eq 5, 3) := by decide +kernel
theorem dX11_order_35 : decode cX11_order 35 = .ok (.iconst 0, 1) := by decide +kernel
theorem dX11_order_36 : decode cX11_order 36 = .ok (.ireturn, 1) := by decide +kernel
theorem dX11_order_37 : decode cX11_order 37 = .ok (.aload_n 0, 1) := by decide +kernel
theorem dX11_order_38 : decode cX11_order 38 = .ok (.iload_n 1, 1) := by decide +kernel
theorem dX11_order_39 : decode cX11_order 39 = .ok (.iload_n 2, 1) := by decide +kernel
theorem dX11_order_40 : decode cX11_order 40 = .ok (.invokevirtual 410, 3) := by decide +kernel
theorem dX11_order_43 : decode cX11_order 43 = .ok (.ireturn, 1) := by decide +kernel
theorem dX11_most_0 : decode cX11_most 0 = .ok (.aload_n 0, 1) := by decide +kernel
theorem dX11_most_1 : decode cX11_most 1 = .ok (.iconst 0, 1) := by decide +kernel
theorem dX11_most_2 : decode cX11_most 2 = .ok (.putfield 149, 3) := by decide +kernel
theorem dX11_most_5 : decode cX11_most 5 = .ok (.aload_n 0, 1) := by decide +kernel
theorem dX11_most_6 : decode cX11_most 6 = .ok (.aload_n 0, 1) := by decide +kernel
theorem dX11_most_7 : decode cX11_most 7 = .ok (.iload_n 1, 1) := by decide +kernel
theorem dX11_most_8 : decode cX11_most 8 = .ok (.invokevirtual 179, 3) := by decide +kernel
theorem dX11_most_11 : decode cX11_most 11 = .ok (.ifCond .ne 7, 3) := by decide +kernel
theorem dX11_most_14 : decode cX11_most 14 = .ok (.iconst 1, 1) := by decide +kernel
theorem dX11_most_15 : decode cX11_most 15 = .ok (.goto 4, 3) := by decide +kernel
theorem dX11_most_18 : decode cX11_most 18 = .ok (.iconst 0, 1) := by decide +kernel
theorem dX11_most_19 : decode cX11_most 19 = .ok (.iconst 1, 1) := by decide +kernel
theorem dX11_most_20 : decode cX11_most 20 = .ok (.iconst 0, 1) := by decide +kernel
theorem dX11_most_21 : decode cX11_most 21 = .ok (.invokevirtual 166, 3) := by decide +kernel
theorem dX11_most_24 : decode cX11_most 24 = .ok (.ifCond .ne 26, 3) := by decide +kernel
theorem dX11_most_27 : decode cX11_most 27 = .ok (.aload_n 0, 1) := by decide +kernel
theorem dX11_most_28 : decode cX11_most 28 = .ok (.iload_n 2, 1) := by decide +kernel
theorem dX11_most_29 : decode cX11_most 29 = .ok (.iconst 0, 1) := by decide +kernel
theorem dX11_most_30 : decode cX11_most 30 = .ok (.iconst 1, 1) := by decide +kernel
theorem dX11_most_31 : decode cX11_most 31 = .ok (.invokestatic 162, 3) := by decide +kernel
theorem dX11_most_34 : decode cX11_most 34 = .ok (.ifCond .ne 7, 3) := by decide +kernel
theorem dX11_most_37 : decode cX11_most 37 = .ok (.iconst 1, 1) := by decide +kernel
theorem dX11_most_38 : decode cX11_most 38 = .ok (.goto 4, 3) := by decide +kernel
theorem dX11_most_41 : decode cX11_most 41 = .ok (.iconst 0, 1) := by decide +kernel
theorem dX11_most_42 : decode cX11_most 42 = .ok (.iconst 2, 1) := by decide +kernel
theorem dX11_most_43 : decode cX11_most 43 = .ok (.iconst 1, 1) := by decide +kernel
theorem dX11_most_44 : decode cX11_most 44 = .ok (.invokevirtual 166, 3) := by decide +kernel
theorem dX11_most_47 : decode cX11_most 47 = .ok (.ifCond .eq 5, 3) := by decide +kernel
theorem dX11_most_50 : decode cX11_most 50 = .ok (.iconst 0, 1) := by decide +kernel
theorem dX11_most_51 : decode cX11_most 51 = .ok (.ireturn, 1) := by decide +kernel
theorem dX11_most_52 : decode cX11_most 52 = .ok (.iconst 0, 1) := by decide +kernel
theorem dX11_most_53 : decode cX11_most 53 = .ok (.istore_n 3, 1) := by decide +kernel
theorem dX11_most_54 : decode cX11_most 54 = .ok (.iload_n 3, 1) := by decide +kernel
theorem dX11_most_55 : decode cX11_most 55 = .ok (.aload_n 0, 1) := by decide +kernel
theorem dX11_most_56 : decode cX11_most 56 = .ok (.getfield 20, 3) := by decide +kernel
theorem dX11_most_59 : decode cX11_most 59 = .ok (.if_icmp .ge 21, 3) := by decide +kernel
theorem dX11_most_62 : decode cX11_most 62 = .ok (.aload_n 0, 1) := by decide +kernel
theorem dX11_most_63 : decode cX11_most 63 = .ok (.getfield 62, 3) := by decide +kernel
theorem dX11_most_66 : decode cX11_most 66 = .ok (.iload_n 3, 1) := by decide +kernel
theorem dX11_most_67 : decode cX11_most 67 = .ok (.aload_n 0, 1) := by decide +kernel
theorem dX11_most_68 : decode cX11_most 68 = .ok (.iload_n 1, 1) := by decide +kernel
theorem dX11_most_69 : decode cX11_most 69 = .ok (.iload_n 3, 1) := by decide +kernel
theorem dX11_most_70 : decode cX11_most 70 = .ok (.invokevirtual 410, 3) := by decide +kernel
theorem dX11_most_73 : decode cX11_most 73 = .ok (.iastore, 1) := by decide +kernel
theorem dX11_most_74 : decode cX11_most 74 = .ok (.iinc 3 1, 3) := by decide +kernel
theorem dX11_most_77 : decode cX11_most 77 = .ok (.goto (-23), 3) := by decide +kernel
theorem dX11_most_80 : decode cX11_most 80 = .ok (.iconst 0, 1) := by decide +kernel
theorem dX11_most_81 : decode cX11_most 81 = .ok (.istore_n 3, 1) := by decide +kernel
theorem dX11_most_82 : decode cX11_most 82 = .ok (.iconst 0, 1) := by decide +kernel
theorem dX11_most_83 : decode cX11_most 83 = .ok (.istore 4, 2) := by decide +kernel
theorem dX11_most_85 : decode cX11_most 85 = .ok (.iconst 0, 1) := by decide +kernel
theorem dX11_most_86 : decode cX11_most 86 = .ok (.istore 5, 2) := by decide +kernel
theorem dX11_most_88 : decode cX11_most 88 = .ok (.iload 5, 2) := by decide +kernel
theorem dX11_most_90 : decode cX11_most 90 = .ok (.aload_n 0, 1) := by decide +kernel
theorem dX11_most_91 : decode cX11_most 91 = .ok (.getfield 20, 3) := by decide +kernel
theorem dX11_most_94 : decode cX11_most 94 = .ok (.if_icmp .ge 79, 3) := by decide +kernel
theorem dX11_most_97 : decode cX11_most 97 = .ok (.iconst 0, 1) := by decide +kernel
theorem dX11_most_98 : decode cX11_most 98 = .ok (.istore 6, 2) := by decide +kernel
theorem dX11_most_100 : decode cX11_most 100 = .ok (.iconst 0, 1) := by decide +kernel
theorem dX11_most_101 : decode cX11_most 101 = .ok (.istore 7, 2) := by decide +kernel
theorem dX11_most_103 : decode cX11_most 103 = .ok (.iload 7, 2) := by decide +kernel
theorem dX11_most_105 : decode cX11_most 105 = .ok (.aload_n 0, 1) := by decide +kernel
theorem dX11_most_106 : decode cX11_most 106 = .ok (.getfield 20, 3) := by decide +kernel
theorem dX11_most_109 : decode cX11_most 109 = .ok (.if_icmp .ge 36, 3) := by decide +kernel
theorem dX11_most_112 : decode cX11_most 112 = .ok (.iload 6, 2) := by decide +kernel
theorem dX11_most_114 : decode cX11_most 114 = .ok (.aload_n 0, 1) := by decide +kernel
theorem dX11_most_115 : decode cX11_most 115 = .ok (.getfield 62, 3) := by decide +kernel
theorem dX11_most_118 : decode cX11_most 118 = .ok (.iload 7, 2) := by decide +kernel
theorem dX11_most_120 : decode cX11_most 120 = .ok (.iaload, 1) := by decide +kernel
theorem dX11_most_121 : decode cX11_most 121 = .ok (.aload_n 0, 1) := by decide +kernel
theorem dX11_most_122 : decode cX11_most 122 = .ok (.getfield 62, 3) := by decide +kernel
theorem dX11_most_125 : decode cX11_most 125 = .ok (.iload 5, 2) := by decide +kernel
theorem dX11_most_127 : decode cX11_most 127 = .ok (.iaload, 1) := by decide +kernel
theorem dX11_most_128 : decode cX11_most 128 = .ok (.if_icmp .ne 7, 3) := by decide +kernel
theorem dX11_most_131 : decode cX11_most 131 = .ok (.iconst 1, 1) := by decide +kernel
theorem dX11_most_132 : decode cX11_most 132 = .ok (.goto 4, 3) := by decide +kernel
theorem dX11_most_135 : decode cX11_most 135 = .ok (.iconst 0, 1) := by decide +kernel
theorem dX11_most_136 : decode cX11_most 136 = .ok (.iadd, 1) := by decide +kernel
theorem dX11_most_137 : decode cX11_most 137 = .ok (.istore 6, 2) := by decide +kernel
theorem dX11_most_139 : decode cX11_most 139 = .ok (.iinc 7 1, 3) := by decide +kernel
theorem dX11_most_142 : decode cX11_most 142 = .ok (.goto (-39), 3) := by decide +kernel
theorem dX11_most_145 : decode cX11_most 145 = .ok (.iload 6, 2) := by decide +kernel
theorem dX11_most_147 : decode cX11_most 147 = .ok (.iload 4, 2) := by decide +kernel
theorem dX11_most_149 : decode cX11_most 149 = .ok (.if_icmp .gt 6, 3) := by decide +kernel
theorem dX11_most_152 : decode cX11_most 152 = .ok (.goto 15, 3) := by decide +kernel
theorem dX11_most_155 : decode cX11_most 155 = .ok (.aload_n 0, 1) := by decide +kernel
theorem dX11_most_156 : decode cX11_most 156 = .ok (.getfield 62, 3) := by decide +kernel
theorem dX11_most_159 : decode cX11_most 159 = .ok (.iload 5, 2) := by decide +kernel
theorem dX11_most_161 : decode cX11_most 161 = .ok (.iaload, 1) := by decide +kernel
theorem dX11_most_162 : decode cX11_most 162 = .ok (.istore_n 3, 1) := by decide +kernel
theorem dX11_most_163 : decode cX11_most 163 = .ok (.iload 6, 2) := by decide +kernel
theorem dX11_most_165 : decode cX11_most 165 = .ok (.istore 4, 2) := by decide +kernel
theorem dX11_most_167 : decode cX11_most 167 = .ok (.iinc 5 1, 3) := by decide +kernel
theorem dX11_most_170 : decode cX11_most 170 = .ok (.goto (-82), 3) := by decide +kernel
theorem dX11_most_173 : decode cX11_most 173 = .ok (.iload_n 2, 1) := by decide +kernel
theorem dX11_most_174 : decode cX11_most 174 = .ok (.ifCond .ne 7, 3) := by decide +kernel
theorem dX11_most_177 : decode cX11_most 177 = .ok (.iload_n 3, 1) := by decide +kernel
theorem dX11_most_178 : decode cX11_most 178 = .ok (.goto 5, 3) := by decide +kernel
theorem dX11_most_181 : decode cX11_most 181 = .ok (.iload 4, 2) := by decide +kernel
theorem dX11_most_183 : decode cX11_most 183 = .ok (.ireturn, 1) := by decide +kernel
theorem dX11_agreeing_0 : decode cX11_agreeing 0 = .ok (.aload_n 0, 1) := by decide +kernel
theorem dX11_agreeing_1 : decode cX11_agreeing 1 = .ok (.iconst 0, 1) := by decide +kernel
theorem dX11_agreeing_2 : decode cX11_agreeing 2 = .ok (.putfield 149, 3) := by decide +kernel
theorem dX11_agreeing_5 : decode cX11_agreeing 5 = .ok (.iconst 0, 1) := by decide +kernel
theorem dX11_agreeing_6 : decode cX11_agreeing 6 = .ok (.istore_n 1, 1) := by decide +kernel
theorem dX11_agreeing_7 : decode cX11_agreeing 7 = .ok (.iconst 0, 1) := by decide +kernel
theorem dX11_agreeing_8 : decode cX11_agreeing 8 = .ok (.istore_n 2, 1) := by decide +kernel
theorem dX11_agreeing_9 : decode cX11_agreeing 9 = .ok (.iload_n 2, 1) := by decide +kernel
theorem dX11_agreeing_10 : decode cX11_agreeing 10 = .ok (.aload_n 0, 1) := by decide +kernel
theorem dX11_agreeing_11 : decode cX11_agreeing 11 = .ok (.getfield 20, 3) := by decide +kernel
theorem dX11_agreeing_14 : decode cX11_agreeing 14 = .ok (.if_icmp .ge 40, 3) := by decide +kernel
theorem dX11_agreeing_17 : decode cX11_agreeing 17 = .ok (.aload_n 0, 1) := by decide +kernel
theorem dX11_agreeing_18 : decode cX11_agreeing 18 = .ok (.iconst 0, 1) := by decide +kernel
theorem dX11_agreeing_19 : decode cX11_agreeing 19 = .ok (.invokevirtual 406, 3) := by decide +kernel
theorem dX11_agreeing_22 : decode cX11_agreeing 22 = .ok (.aload_n 0, 1) := by decide +kernel
theorem dX11_agreeing_23 : decode cX11_agreeing 23 = .ok (.iload_n 2, 1) := by decide +kernel
theorem dX11_agreeing_24 : decode cX11_agreeing 24 = .ok (.invokevirtual 365, 3) := by decide +kernel
theorem dX11_agreeing_27 : decode cX11_agreeing 27 = .ok (.iload_n 1, 1) := by decide +kernel
theorem dX11_agreeing_28 : decode cX11_agreeing 28 = .ok (.aload_n 0, 1) := by decide +kernel
theorem dX11_agreeing_29 : decode cX11_agreeing 29 = .ok (.iconst 0, 1) := by decide +kernel
theorem dX11_agreeing_30 : decode cX11_agreeing 30 = .ok (.invokevirtual 396, 3) := by decide +kernel
theorem dX11_agreeing_33 : decode cX11_agreeing 33 = .ok (.ifCond .eq 7, 3) := by decide +kernel
theorem dX11_agreeing_36 : decode cX11_agreeing 36 = .ok (.iconst 1, 1) := by decide +kernel
theorem dX11_agreeing_37 : decode cX11_agreeing 37 = .ok (.goto 4, 3) := by decide +kernel
theorem dX11_agreeing_40 : decode cX11_agreeing 40 = .ok (.iconst 0, 1) := by decide +kernel
theorem dX11_agreeing_41 : decode cX11_agreeing 41 = .ok (.iadd, 1) := by decide +kernel
theorem dX11_agreeing_42 : decode cX11_agreeing 42 = .ok (.istore_n 1, 1) := by decide +kernel
theorem dX11_agreeing_43 : decode cX11_agreeing 43 = .ok (.aload_n 0, 1) := by decide +kernel
theorem dX11_agreeing_44 : decode cX11_agreeing 44 = .ok (.iconst 1, 1) := by decide +kernel
theorem dX11_agreeing_45 : decode cX11_agreeing 45 = .ok (.invokevirtual 406, 3) := by decide +kernel
theorem dX11_agreeing_48 : decode cX11_agreeing 48 = .ok (.iinc 2 1, 3) := by decide +kernel
theorem dX11_agreeing_51 : decode cX11_agreeing 51 = .ok (.goto (-42), 3) := by decide +kernel
theorem dX11_agreeing_54 : decode cX11_agreeing 54 = .ok (.iload_n 1, 1) := by decide +kernel
theorem dX11_agreeing_55 : decode cX11_agreeing 55 = .ok (.ireturn, 1) := by decide +kernel
theorem dX11_takesIt_0 : decode cX11_takesIt 0 = .ok (.iconst 0, 1) := by decide +kernel
theorem dX11_takesIt_1 : decode cX11_takesIt 1 = .ok (.istore 6, 2) := by decide +kernel
theorem dX11_takesIt_3 : decode cX11_takesIt 3 = .ok (.iload 6, 2) := by decide +kernel
theorem dX11_takesIt_5 : decode cX11_takesIt 5 = .ok (.aload_n 0, 1) := by decide +kernel
theorem dX11_takesIt_6 : decode cX11_takesIt 6 = .ok (.getfield 65, 3) := by decide +kernel
theorem dX11_takesIt_9 : decode cX11_takesIt 9 = .ok (.iload_n 1, 1) := by decide +kernel
theorem dX11_takesIt_10 : decode cX11_takesIt 10 = .ok (.iaload, 1) := by decide +kernel
theorem dX11_takesIt_11 : decode cX11_takesIt 11 = .ok (.if_icmp .ge 23, 3) := by decide +kernel
theorem dX11_takesIt_14 : decode cX11_takesIt 14 = .ok (.aload_n 0, 1) := by decide +kernel
theorem dX11_takesIt_15 : decode cX11_takesIt 15 = .ok (.getfield 74, 3) := by decide +kernel
theorem dX11_takesIt_18 : decode cX11_takesIt 18 = .ok (.iload_n 1, 1) := by decide +kernel
theorem dX11_takesIt_19 : decode cX11_takesIt 19 = .ok (.aaload, 1) := by decide +kernel
theorem dX11_takesIt_20 : decode cX11_takesIt 20 = .ok (.iload 6, 2) := by decide +kernel
theorem dX11_takesIt_22 : decode cX11_takesIt 22 = .ok (.iaload, 1) := by decide +kernel
theorem dX11_takesIt_23 : decode cX11_takesIt 23 = .ok (.iload_n 2, 1) := by decide +kernel
theorem dX11_takesIt_24 : decode cX11_takesIt 24 = .ok (.if_icmp .ne 4, 3) := by decide +kernel
theorem dX11_takesIt_27 : decode cX11_takesIt 27 = .ok (.return_, 1) := by decide +kernel
theorem dX11_takesIt_28 : decode cX11_takesIt 28 = .ok (.iinc 6 1, 3) := by decide +kernel
theorem dX11_takesIt_31 : decode cX11_takesIt 31 = .ok (.goto (-28), 3) := by decide +kernel
theorem dX11_takesIt_34 : decode cX11_takesIt 34 = .ok (.aload_n 0, 1) := by decide +kernel
theorem dX11_takesIt_35 : decode cX11_takesIt 35 = .ok (.getfield 65, 3) := by decide +kernel
theorem dX11_takesIt_38 : decode cX11_takesIt 38 = .ok (.iload_n 1, 1) := by decide +kernel
theorem dX11_takesIt_39 : decode cX11_takesIt 39 = .ok (.iaload, 1) := by decide +kernel
theorem dX11_takesIt_40 : decode cX11_takesIt 40 = .ok (.istore 6, 2) := by decide +kernel
theorem dX11_takesIt_42 : decode cX11_takesIt 42 = .ok (.aload_n 0, 1) := by decide +kernel
theorem dX11_takesIt_43 : decode cX11_takesIt 43 = .ok (.getfield 74, 3) := by decide +kernel
theorem dX11_takesIt_46 : decode cX11_takesIt 46 = .ok (.iload_n 1, 1) := by decide +kernel
theorem dX11_takesIt_47 : decode cX11_takesIt 47 = .ok (.aaload, 1) := by decide +kernel
theorem dX11_takesIt_48 : decode cX11_takesIt 48 = .ok (.iload 6, 2) := by decide +kernel
theorem dX11_takesIt_50 : decode cX11_takesIt 50 = .ok (.iload_n 2, 1) := by decide +kernel
theorem dX11_takesIt_51 : decode cX11_takesIt 51 = .ok (.iastore, 1) := by decide +kernel
theorem dX11_takesIt_52 : decode cX11_takesIt 52 = .ok (.aload_n 0, 1) := by decide +kernel
theorem dX11_takesIt_53 : decode cX11_takesIt 53 = .ok (.getfield 77, 3) := by decide +kernel
theorem dX11_takesIt_56 : decode cX11_takesIt 56 = .ok (.iload_n 1, 1) := by decide +kernel
theorem dX11_takesIt_57 : decode cX11_takesIt 57 = .ok (.aaload, 1) := by decide +kernel
theorem dX11_takesIt_58 : decode cX11_takesIt 58 = .ok (.iload 6, 2) := by decide +kernel
theorem dX11_takesIt_60 : decode cX11_takesIt 60 = .ok (.iload_n 3, 1) := by decide +kernel
theorem dX11_takesIt_61 : decode cX11_takesIt 61 = .ok (.iastore, 1) := by decide +kernel
theorem dX11_takesIt_62 : decode cX11_takesIt 62 = .ok (.aload_n 0, 1) := by decide +kernel
theorem dX11_takesIt_63 : decode cX11_takesIt 63 = .ok (.getfield 80, 3) := by decide +kernel
theorem dX11_takesIt_66 : decode cX11_takesIt 66 = .ok (.iload_n 1, 1) := by decide +kernel
theorem dX11_takesIt_67 : decode cX11_takesIt 67 = .ok (.aaload, 1) := by decide +kernel
theorem dX11_takesIt_68 : decode cX11_takesIt 68 = .ok (.iload 6, 2) := by decide +kernel
theorem dX11_takesIt_70 : decode cX11_takesIt 70 = .ok (.iload 4, 2) := by decide +kernel
theorem dX11_takesIt_72 : decode cX11_takesIt 72 = .ok (.iastore, 1) := by decide +kernel
theorem dX11_takesIt_73 : decode cX11_takesIt 73 = .ok (.aload_n 0, 1) := by decide +kernel
theorem dX11_takesIt_74 : decode cX11_takesIt 74 = .ok (.getfield 83, 3) := by decide +kernel
theorem dX11_takesIt_77 : decode cX11_takesIt 77 = .ok (.iload_n 1, 1) := by decide +kernel
theorem dX11_takesIt_78 : decode cX11_takesIt 78 = .ok (.aaload, 1) := by decide +kernel
theorem dX11_takesIt_79 : decode cX11_takesIt 79 = .ok (.iload 6, 2) := by decide +kernel
theorem dX11_takesIt_81 : decode cX11_takesIt 81 = .ok (.iload 5, 2) := by decide +kernel
theorem dX11_takesIt_83 : decode cX11_takesIt 83 = .ok (.iastore, 1) := by decide +kernel
theorem dX11_takesIt_84 : decode cX11_takesIt 84 = .ok (.aload_n 0, 1) := by decide +kernel
theorem dX11_takesIt_85 : decode cX11_takesIt 85 = .ok (.getfield 65, 3) := by decide +kernel
theorem dX11_takesIt_88 : decode cX11_takesIt 88 = .ok (.iload_n 1, 1) := by decide +kernel
theorem dX11_takesIt_89 : decode cX11_takesIt 89 = .ok (.dup2, 1) := by decide +kernel
theorem dX11_takesIt_90 : decode cX11_takesIt 90 = .ok (.iaload, 1) := by decide +kernel
theorem dX11_takesIt_91 : decode cX11_takesIt 91 = .ok (.iconst 1, 1) := by decide +kernel
theorem dX11_takesIt_92 : decode cX11_takesIt 92 = .ok (.iadd, 1) := by decide +kernel
theorem dX11_takesIt_93 : decode cX11_takesIt 93 = .ok (.iastore, 1) := by decide +kernel
theorem dX11_takesIt_94 : decode cX11_takesIt 94 = .ok (.aload_n 0, 1) := by decide +kernel
theorem dX11_takesIt_95 : decode cX11_takesIt 95 = .ok (.getfield 71, 3) := by decide +kernel
theorem dX11_takesIt_98 : decode cX11_takesIt 98 = .ok (.iload_n 1, 1) := by decide +kernel
theorem dX11_takesIt_99 : decode cX11_takesIt 99 = .ok (.iload 5, 2) := by decide +kernel
theorem dX11_takesIt_101 : decode cX11_takesIt 101 = .ok (.iastore, 1) := by decide +kernel
theorem dX11_takesIt_102 : decode cX11_takesIt 102 = .ok (.return_, 1) := by decide +kernel
theorem dX11_writes_0 : decode cX11_writes 0 = .ok (.aload_n 0, 1) := by decide +kernel
theorem dX11_writes_1 : decode cX11_writes 1 = .ok (.iload_n 1, 1) := by decide +kernel
theorem dX11_writes_2 : decode cX11_writes 2 = .ok (.iload_n 2, 1) := by decide +kernel
theorem dX11_writes_3 : decode cX11_writes 3 = .ok (.iload_n 3, 1) := by decide +kernel
theorem dX11_writes_4 : decode cX11_writes 4 = .ok (.iload 4, 2) := by decide +kernel
theorem dX11_writes_6 : decode cX11_writes 6 = .ok (.iload 5, 2) := by decide +kernel
theorem dX11_writes_8 : decode cX11_writes 8 = .ok (.invokevirtual 313, 3) := by decide +kernel
theorem dX11_writes_11 : decode cX11_writes 11 = .ok (.istore 7, 2) := by decide +kernel
theorem dX11_writes_13 : decode cX11_writes 13 = .ok (.iload 7, 2) := by decide +kernel
theorem dX11_writes_15 : decode cX11_writes 15 = .ok (.ifCond .ne 4, 3) := by decide +kernel
theorem dX11_writes_18 : decode cX11_writes 18 = .ok (.return_, 1) := by decide +kernel
theorem dX11_writes_19 : decode cX11_writes 19 = .ok (.aload_n 0, 1) := by decide +kernel
theorem dX11_writes_20 : decode cX11_writes 20 = .ok (.dup, 1) := by decide +kernel
theorem dX11_writes_21 : decode cX11_writes 21 = .ok (.getfield 413, 3) := by decide +kernel
theorem dX11_writes_24 : decode cX11_writes 24 = .ok (.iconst 1, 1) := by decide +kernel
theorem dX11_writes_25 : decode cX11_writes 25 = .ok (.iadd, 1) := by decide +kernel
theorem dX11_writes_26 : decode cX11_writes 26 = .ok (.putfield 413, 3) := by decide +kernel
theorem dX11_writes_29 : decode cX11_writes 29 = .ok (.aload_n 0, 1) := by decide +kernel
theorem dX11_writes_30 : decode cX11_writes 30 = .ok (.getfield 68, 3) := by decide +kernel
theorem dX11_writes_33 : decode cX11_writes 33 = .ok (.iload_n 1, 1) := by decide +kernel
theorem dX11_writes_34 : decode cX11_writes 34 = .ok (.dup2, 1) := by decide +kernel
theorem dX11_writes_35 : decode cX11_writes 35 = .ok (.iaload, 1) := by decide +kernel
theorem dX11_writes_36 : decode cX11_writes 36 = .ok (.iconst 1, 1) := by decide +kernel
theorem dX11_writes_37 : decode cX11_writes 37 = .ok (.iadd, 1) := by decide +kernel
theorem dX11_writes_38 : decode cX11_writes 38 = .ok (.iastore, 1) := by decide +kernel
theorem dX11_writes_39 : decode cX11_writes 39 = .ok (.iload 7, 2) := by decide +kernel
theorem dX11_writes_41 : decode cX11_writes 41 = .ok (.iconst 1, 1) := by decide +kernel
theorem dX11_writes_42 : decode cX11_writes 42 = .ok (.if_icmp .ne 16, 3) := by decide +kernel
theorem dX11_writes_45 : decode cX11_writes 45 = .ok (.aload_n 0, 1) := by decide +kernel
theorem dX11_writes_46 : decode cX11_writes 46 = .ok (.dup, 1) := by decide +kernel
theorem dX11_writes_47 : decode cX11_writes 47 = .ok (.getfield 416, 3) := by decide +kernel
theorem dX11_writes_50 : decode cX11_writes 50 = .ok (.iconst 1, 1) := by decide +kernel
theorem dX11_writes_51 : decode cX11_writes 51 = .ok (.iadd, 1) := by decide +kernel
theorem dX11_writes_52 : decode cX11_writes 52 = .ok (.putfield 416, 3) := by decide +kernel
theorem dX11_writes_55 : decode cX11_writes 55 = .ok (.goto 47, 3) := by decide +kernel
theorem dX11_writes_58 : decode cX11_writes 58 = .ok (.iload_n 3, 1) := by decide +kernel
theorem dX11_writes_59 : decode cX11_writes 59 = .ok (.iconst 1, 1) := by decide +kernel
theorem dX11_writes_60 : decode cX11_writes 60 = .ok (.if_icmp .le 25, 3) := by decide +kernel
theorem dX11_writes_63 : decode cX11_writes 63 = .ok (.aload_n 0, 1) := by decide +kernel
theorem dX11_writes_64 : decode cX11_writes 64 = .ok (.getfield 298, 3) := by decide +kernel
theorem dX11_writes_67 : decode cX11_writes 67 = .ok (.iload 5, 2) := by decide +kernel
theorem dX11_writes_69 : decode cX11_writes 69 = .ok (.if_icmp .eq 16, 3) := by decide +kernel
theorem dX11_writes_72 : decode cX11_writes 72 = .ok (.aload_n 0, 1) := by decide +kernel
theorem dX11_writes_73 : decode cX11_writes 73 = .ok (.dup, 1) := by decide +kernel
theorem dX11_writes_74 : decode cX11_writes 74 = .ok (.getfield 419, 3) := by decide +kernel
theorem dX11_writes_77 : decode cX11_writes 77 = .ok (.iconst 1, 1) := by decide +kernel
theorem dX11_writes_78 : decode cX11_writes 78 = .ok (.iadd, 1) := by decide +kernel
theorem dX11_writes_79 : decode cX11_writes 79 = .ok (.putfield 419, 3) := by decide +kernel
theorem dX11_writes_82 : decode cX11_writes 82 = .ok (.goto 20, 3) := by decide +kernel
theorem dX11_writes_85 : decode cX11_writes 85 = .ok (.aload_n 0, 1) := by decide +kernel
theorem dX11_writes_86 : decode cX11_writes 86 = .ok (.iload_n 2, 1) := by decide +kernel
theorem dX11_writes_87 : decode cX11_writes 87 = .ok (.aload_n 0, 1) := by decide +kernel
theorem dX11_writes_88 : decode cX11_writes 88 = .ok (.getfield 298, 3) := by decide +kernel
theorem dX11_writes_91 : decode cX11_writes 91 = .ok (.iload 6, 2) := by decide +kernel
theorem dX11_writes_93 : decode cX11_writes 93 = .ok (.iconst 1, 1) := by decide +kernel
theorem dX11_writes_94 : decode cX11_writes 94 = .ok (.iload_n 1, 1) := by decide +kernel
theorem dX11_writes_95 : decode cX11_writes 95 = .ok (.ishl, 1) := by decide +kernel
theorem dX11_writes_96 : decode cX11_writes 96 = .ok (.ior, 1) := by decide +kernel
theorem dX11_writes_97 : decode cX11_writes 97 = .ok (.iload_n 1, 1) := by decide +kernel
theorem dX11_writes_98 : decode cX11_writes 98 = .ok (.iload_n 3, 1) := by decide +kernel
theorem dX11_writes_99 : decode cX11_writes 99 = .ok (.invokevirtual 422, 3) := by decide +kernel
theorem dX11_writes_102 : decode cX11_writes 102 = .ok (.return_, 1) := by decide +kernel
theorem dX11_signs_0 : decode cX11_signs 0 = .ok (.aload_n 0, 1) := by decide +kernel
theorem dX11_signs_1 : decode cX11_signs 1 = .ok (.iload_n 1, 1) := by decide +kernel
theorem dX11_signs_2 : decode cX11_signs 2 = .ok (.putfield 425, 3) := by decide +kernel
theorem dX11_signs_5 : decode cX11_signs 5 = .ok (.aload_n 0, 1) := by decide +kernel
theorem dX11_signs_6 : decode cX11_signs 6 = .ok (.iconst 0, 1) := by decide +kernel
theorem dX11_signs_7 : decode cX11_signs 7 = .ok (.putfield 413, 3) := by decide +kernel
theorem dX11_signs_10 : decode cX11_signs 10 = .ok (.aload_n 0, 1) := by decide +kernel
theorem dX11_signs_11 : decode cX11_signs 11 = .ok (.iconst 0, 1) := by decide +kernel
theorem dX11_signs_12 : decode cX11_signs 12 = .ok (.putfield 419, 3) := by decide +kernel
theorem dX11_signs_15 : decode cX11_signs 15 = .ok (.aload_n 0, 1) := by decide +kernel
theorem dX11_signs_16 : decode cX11_signs 16 = .ok (.iconst 0, 1) := by decide +kernel
theorem dX11_signs_17 : decode cX11_signs 17 = .ok (.putfield 416, 3) := by decide +kernel
theorem dX11_signs_20 : decode cX11_signs 20 = .ok (.iconst 0, 1) := by decide +kernel
theorem dX11_signs_21 : decode cX11_signs 21 = .ok (.istore_n 2, 1) := by decide +kernel
theorem dX11_signs_22 : decode cX11_signs 22 = .ok (.iload_n 2, 1) := by decide +kernel
theorem dX11_signs_23 : decode cX11_signs 23 = .ok (.bipush 7, 2) := by decide +kernel
theorem dX11_signs_25 : decode cX11_signs 25 = .ok (.if_icmp .ge 30, 3) := by decide +kernel
theorem dX11_signs_28 : decode cX11_signs 28 = .ok (.aload_n 0, 1) := by decide +kernel
theorem dX11_signs_29 : decode cX11_signs 29 = .ok (.getfield 65, 3) := by decide +kernel
theorem dX11_signs_32 : decode cX11_signs 32 = .ok (.iload_n 2, 1) := by decide +kernel
theorem dX11_signs_33 : decode cX11_signs 33 = .ok (.iconst 0, 1) := by decide +kernel
theorem dX11_signs_34 : decode cX11_signs 34 = .ok (.iastore, 1) := by decide +kernel
theorem dX11_signs_35 : decode cX11_signs 35 = .ok (.aload_n 0, 1) := by decide +kernel
theorem dX11_signs_36 : decode cX11_signs 36 = .ok (.getfield 68, 3) := by decide +kernel
theorem dX11_signs_39 : decode cX11_signs 39 = .ok (.iload_n 2, 1) := by decide +kernel
theorem dX11_signs_40 : decode cX11_signs 40 = .ok (.iconst 0, 1) := by decide +kernel
theorem dX11_signs_41 : decode cX11_signs 41 = .ok (.iastore, 1) := by decide +kernel
theorem dX11_signs_42 : decode cX11_signs 42 = .ok (.aload_n 0, 1) := by decide +kernel
theorem dX11_signs_43 : decode cX11_signs 43 = .ok (.getfield 71, 3) := by decide +kernel
theorem dX11_signs_46 : decode cX11_signs 46 = .ok (.iload_n 2, 1) := by decide +kernel
theorem dX11_signs_47 : decode cX11_signs 47 = .ok (.iconst 0, 1) := by decide +kernel
theorem dX11_signs_48 : decode cX11_signs 48 = .ok (.iastore, 1) := by decide +kernel
theorem dX11_signs_49 : decode cX11_signs 49 = .ok (.iinc 2 1, 3) := by decide +kernel
theorem dX11_signs_52 : decode cX11_signs 52 = .ok (.goto (-30), 3) := by decide +kernel
theorem dX11_signs_55 : decode cX11_signs 55 = .ok (.iconst 0, 1) := by decide +kernel
theorem dX11_signs_56 : decode cX11_signs 56 = .ok (.istore_n 2, 1) := by decide +kernel
theorem dX11_signs_57 : decode cX11_signs 57 = .ok (.iload_n 2, 1) := by decide +kernel
theorem dX11_signs_58 : decode cX11_signs 58 = .ok (.aload_n 0, 1) := by decide +kernel
theorem dX11_signs_59 : decode cX11_signs 59 = .ok (.getfield 20, 3) := by decide +kernel
theorem dX11_signs_62 : decode cX11_signs 62 = .ok (.if_icmp .ge 29, 3) := by decide +kernel
theorem dX11_signs_65 : decode cX11_signs 65 = .ok (.iload_n 2, 1) := by decide +kernel
theorem dX11_signs_66 : decode cX11_signs 66 = .ok (.iload_n 1, 1) := by decide +kernel
theorem dX11_signs_67 : decode cX11_signs 67 = .ok (.if_icmp .eq 18, 3) := by decide +kernel
theorem dX11_signs_70 : decode cX11_signs 70 = .ok (.aload_n 0, 1) := by decide +kernel
theorem dX11_signs_71 : decode cX11_signs 71 = .ok (.iload_n 1, 1) := by decide +kernel
theorem dX11_signs_72 : decode cX11_signs 72 = .ok (.iload_n 2, 1) := by decide +kernel
theorem dX11_signs_73 : decode cX11_signs 73 = .ok (.iconst 1, 1) := by decide +kernel
theorem dX11_signs_74 : decode cX11_signs 74 = .ok (.iload_n 1, 1) := by decide +kernel
theorem dX11_signs_75 : decode cX11_signs 75 = .ok (.aload_n 0, 1) := by decide +kernel
theorem dX11_signs_76 : decode cX11_signs 76 = .ok (.getfield 26, 3) := by decide +kernel
theorem dX11_signs_79 : decode cX11_signs 79 = .ok (.iload_n 1, 1) := by decide +kernel
theorem dX11_signs_80 : decode cX11_signs 80 = .ok (.iaload, 1) := by decide +kernel
theorem dX11_signs_81 : decode cX11_signs 81 = .ok (.iconst 0, 1) := by decide +kernel
theorem dX11_signs_82 : decode cX11_signs 82 = .ok (.invokevirtual 428, 3) := by decide +kernel
theorem dX11_signs_85 : decode cX11_signs 85 = .ok (.iinc 2 1, 3) := by decide +kernel
theorem dX11_signs_88 : decode cX11_signs 88 = .ok (.goto (-31), 3) := by decide +kernel
theorem dX11_signs_91 : decode cX11_signs 91 = .ok (.iconst 2, 1) := by decide +kernel
theorem dX11_signs_92 : decode cX11_signs 92 = .ok (.istore_n 2, 1) := by decide +kernel
theorem dX11_signs_93 : decode cX11_signs 93 = .ok (.iload_n 2, 1) := by decide +kernel
theorem dX11_signs_94 : decode cX11_signs 94 = .ok (.aload_n 0, 1) := by decide +kernel
theorem dX11_signs_95 : decode cX11_signs 95 = .ok (.getfield 23, 3) := by decide +kernel
theorem dX11_signs_98 : decode cX11_signs 98 = .ok (.iconst 1, 1) := by decide +kernel
theorem dX11_signs_99 : decode cX11_signs 99 = .ok (.iadd, 1) := by decide +kernel
theorem dX11_signs_100 : decode cX11_signs 100 = .ok (.if_icmp .gt 139, 3) := by decide +kernel
theorem dX11_signs_103 : decode cX11_signs 103 = .ok (.iconst 0, 1) := by decide +kernel
theorem dX11_signs_104 : decode cX11_signs 104 = .ok (.istore_n 3, 1) := by decide +kernel
theorem dX11_signs_105 : decode cX11_signs 105 = .ok (.iload_n 3, 1) := by decide +kernel
theorem dX11_signs_106 : decode cX11_signs 106 = .ok (.aload_n 0, 1) := by decide +kernel
theorem dX11_signs_107 : decode cX11_signs 107 = .ok (.getfield 20, 3) := by decide +kernel
theorem dX11_signs_110 : decode cX11_signs 110 = .ok (.if_icmp .ge 123, 3) := by decide +kernel
theorem dX11_signs_113 : decode cX11_signs 113 = .ok (.iconst 0, 1) := by decide +kernel
theorem dX11_signs_114 : decode cX11_signs 114 = .ok (.istore 4, 2) := by decide +kernel
theorem dX11_signs_116 : decode cX11_signs 116 = .ok (.iload 4, 2) := by decide +kernel
theorem dX11_signs_118 : decode cX11_signs 118 = .ok (.aload_n 0, 1) := by decide +kernel
theorem dX11_signs_119 : decode cX11_signs 119 = .ok (.getfield 65, 3) := by decide +kernel
theorem dX11_signs_122 : decode cX11_signs 122 = .ok (.iload_n 3, 1) := by decide +kernel
theorem dX11_signs_123 : decode cX11_signs 123 = .ok (.iaload, 1) := by decide +kernel
theorem dX11_signs_124 : decode cX11_signs 124 = .ok (.if_icmp .ge 103, 3) := by decide +kernel
theorem dX11_signs_127 : decode cX11_signs 127 = .ok (.aload_n 0, 1) := by decide +kernel
theorem dX11_signs_128 : decode cX11_signs 128 = .ok (.getfield 83, 3) := by decide +kernel
theorem dX11_signs_131 : decode cX11_signs 131 = .ok (.iload_n 3, 1) := by decide +kernel
theorem dX11_signs_132 : decode cX11_signs 132 = .ok (.aaload, 1) := by decide +kernel
theorem dX11_signs_133 : decode cX11_signs 133 = .ok (.iload 4, 2) := by decide +kernel
theorem dX11_signs_135 : decode cX11_signs 135 = .ok (.iaload, 1) := by decide +kernel
theorem dX11_signs_136 : decode cX11_signs 136 = .ok (.iload_n 2, 1) := by decide +kernel
theorem dX11_signs_137 : decode cX11_signs 137 = .ok (.iconst 1, 1) := by decide +kernel
theorem dX11_signs_138 : decode cX11_signs 138 = .ok (.isub, 1) := by decide +kernel
theorem dX11_signs_139 : decode cX11_signs 139 = .ok (.if_icmp .eq 6, 3) := by decide +kernel
theorem dX11_signs_142 : decode cX11_signs 142 = .ok (.goto 79, 3) := by decide +kernel
theorem dX11_signs_145 : decode cX11_signs 145 = .ok (.iconst 0, 1) := by decide +kernel
theorem dX11_signs_146 : decode cX11_signs 146 = .ok (.istore 5, 2) := by decide +kernel
theorem dX11_signs_148 : decode cX11_signs 148 = .ok (.iload 5, 2) := by decide +kernel
theorem dX11_signs_150 : decode cX11_signs 150 = .ok (.aload_n 0, 1) := by decide +kernel
theorem dX11_signs_151 : decode cX11_signs 151 = .ok (.getfield 20, 3) := by decide +kernel
theorem dX11_signs_154 : decode cX11_signs 154 = .ok (.if_icmp .ge 67, 3) := by decide +kernel
theorem dX11_signs_157 : decode cX11_signs 157 = .ok (.iload 5, 2) := by decide +kernel
theorem dX11_signs_159 : decode cX11_signs 159 = .ok (.iload_n 3, 1) := by decide +kernel
theorem dX11_signs_160 : decode cX11_signs 160 = .ok (.if_icmp .eq 55, 3) := by decide +kernel
theorem dX11_signs_163 : decode cX11_signs 163 = .ok (.aload_n 0, 1) := by decide +kernel
theorem dX11_signs_164 : decode cX11_signs 164 = .ok (.getfield 77, 3) := by decide +kernel
theorem dX11_signs_167 : decode cX11_signs 167 = .ok (.iload_n 3, 1) := by decide +kernel
theorem dX11_signs_168 : decode cX11_signs 168 = .ok (.aaload, 1) := by decide +kernel
theorem dX11_signs_169 : decode cX11_signs 169 = .ok (.iload 4, 2) := by decide +kernel
theorem dX11_signs_171 : decode cX11_signs 171 = .ok (.iaload, 1) := by decide +kernel
theorem dX11_signs_172 : decode cX11_signs 172 = .ok (.iload 5, 2) := by decide +kernel
theorem dX11_signs_174 : decode cX11_signs 174 = .ok (.ishr, 1) := by decide +kernel
theorem dX11_signs_175 : decode cX11_signs 175 = .ok (.iconst 1, 1) := by decide +kernel
theorem dX11_signs_176 : decode cX11_signs 176 = .ok (.iand, 1) := by decide +kernel
theorem dX11_signs_177 : decode cX11_signs 177 = .ok (.ifCond .ne 38, 3) := by decide +kernel
theorem dX11_signs_180 : decode cX11_signs 180 = .ok (.aload_n 0, 1) := by decide +kernel
theorem dX11_signs_181 : decode cX11_signs 181 = .ok (.iload_n 3, 1) := by decide +kernel
theorem dX11_signs_182 : decode cX11_signs 182 = .ok (.iload 5, 2) := by decide +kernel
theorem dX11_signs_184 : decode cX11_signs 184 = .ok (.iload_n 2, 1) := by decide +kernel
theorem dX11_signs_185 : decode cX11_signs 185 = .ok (.aload_n 0, 1) := by decide +kernel
theorem dX11_signs_186 : decode cX11_signs 186 = .ok (.getfield 80, 3) := by decide +kernel
theorem dX11_signs_189 : decode cX11_signs 189 = .ok (.iload_n 3, 1) := by decide +kernel
theorem dX11_signs_190 : decode cX11_signs 190 = .ok (.aaload, 1) := by decide +kernel
theorem dX11_signs_191 : decode cX11_signs 191 = .ok (.iload 4, 2) := by decide +kernel
theorem dX11_signs_193 : decode cX11_signs 193 = .ok (.iaload, 1) := by decide +kernel
theorem dX11_signs_194 : decode cX11_signs 194 = .ok (.aload_n 0, 1) := by decide +kernel
theorem dX11_signs_195 : decode cX11_signs 195 = .ok (.getfield 74, 3) := by decide +kernel
theorem dX11_signs_198 : decode cX11_signs 198 = .ok (.iload_n 3, 1) := by decide +kernel
theorem dX11_signs_199 : decode cX11_signs 199 = .ok (.aaload, 1) := by decide +kernel
theorem dX11_signs_200 : decode cX11_signs 200 = .ok (.iload 4, 2) := by decide +kernel
theorem dX11_signs_202 : decode cX11_signs 202 = .ok (.iaload, 1) := by decide +kernel
theorem dX11_signs_203 : decode cX11_signs 203 = .ok (.aload_n 0, 1) := by decide +kernel
theorem dX11_signs_204 : decode cX11_signs 204 = .ok (.getfield 77, 3) := by decide +kernel
theorem dX11_signs_207 : decode cX11_signs 207 = .ok (.iload_n 3, 1) := by decide +kernel
theorem dX11_signs_208 : decode cX11_signs 208 = .ok (.aaload, 1) := by decide +kernel
theorem dX11_signs_209 : decode cX11_signs 209 = .ok (.iload 4, 2) := by decide +kernel
theorem dX11_signs_211 : decode cX11_signs 211 = .ok (.iaload, 1) := by decide +kernel
theorem dX11_signs_212 : decode cX11_signs 212 = .ok (.invokevirtual 428, 3) := by decide +kernel
theorem dX11_signs_215 : decode cX11_signs 215 = .ok (.iinc 5 1, 3) := by decide +kernel
theorem dX11_signs_218 : decode cX11_signs 218 = .ok (.goto (-70), 3) := by decide +kernel
theorem dX11_signs_221 : decode cX11_signs 221 = .ok (.iinc 4 1, 3) := by decide +kernel
theorem dX11_signs_224 : decode cX11_signs 224 = .ok (.goto (-108), 3) := by decide +kernel
theorem dX11_signs_227 : decode cX11_signs 227 = .ok (.iinc 3 1, 3) := by decide +kernel
theorem dX11_signs_230 : decode cX11_signs 230 = .ok (.goto (-125), 3) := by decide +kernel
theorem dX11_signs_233 : decode cX11_signs 233 = .ok (.iinc 2 1, 3) := by decide +kernel
theorem dX11_signs_236 : decode cX11_signs 236 = .ok (.goto (-143), 3) := by decide +kernel
theorem dX11_signs_239 : decode cX11_signs 239 = .ok (.return_, 1) := by decide +kernel
theorem dX11_signedBy_0 : decode cX11_signedBy 0 = .ok (.iload_n 1, 1) := by decide +kernel
theorem dX11_signedBy_1 : decode cX11_signedBy 1 = .ok (.aload_n 0, 1) := by decide +kernel
theorem dX11_signedBy_2 : decode cX11_signedBy 2 = .ok (.getfield 425, 3) := by decide +kernel
theorem dX11_signedBy_5 : decode cX11_signedBy 5 = .ok (.if_icmp .ne 12, 3) := by decide +kernel
theorem dX11_signedBy_8 : decode cX11_signedBy 8 = .ok (.aload_n 0, 1) := by decide +kernel
theorem dX11_signedBy_9 : decode cX11_signedBy 9 = .ok (.getfield 26, 3) := by decide +kernel
theorem dX11_signedBy_12 : decode cX11_signedBy 12 = .ok (.iload_n 1, 1) := by decide +kernel
theorem dX11_signedBy_13 : decode cX11_signedBy 13 = .ok (.iaload, 1) := by decide +kernel
theorem dX11_signedBy_14 : decode cX11_signedBy 14 = .ok (.goto 28, 3) := by decide +kernel
theorem dX11_signedBy_17 : decode cX11_signedBy 17 = .ok (.aload_n 0, 1) := by decide +kernel
theorem dX11_signedBy_18 : decode cX11_signedBy 18 = .ok (.getfield 65, 3) := by decide +kernel
theorem dX11_signedBy_21 : decode cX11_signedBy 21 = .ok (.iload_n 1, 1) := by decide +kernel
theorem dX11_signedBy_22 : decode cX11_signedBy 22 = .ok (.iaload, 1) := by decide +kernel
theorem dX11_signedBy_23 : decode cX11_signedBy 23 = .ok (.iconst 1, 1) := by decide +kernel
theorem dX11_signedBy_24 : decode cX11_signedBy 24 = .ok (.if_icmp .ne 14, 3) := by decide +kernel
theorem dX11_signedBy_27 : decode cX11_signedBy 27 = .ok (.aload_n 0, 1) := by decide +kernel
theorem dX11_signedBy_28 : decode cX11_signedBy 28 = .ok (.getfield 74, 3) := by decide +kernel
theorem dX11_signedBy_31 : decode cX11_signedBy 31 = .ok (.iload_n 1, 1) := by decide +kernel
theorem dX11_signedBy_32 : decode cX11_signedBy 32 = .ok (.aaload, 1) := by decide +kernel
theorem dX11_signedBy_33 : decode cX11_signedBy 33 = .ok (.iconst 0, 1) := by decide +kernel
theorem dX11_signedBy_34 : decode cX11_signedBy 34 = .ok (.iaload, 1) := by decide +kernel
theorem dX11_signedBy_35 : decode cX11_signedBy 35 = .ok (.goto 7, 3) := by decide +kernel
theorem dX11_signedBy_38 : decode cX11_signedBy 38 = .ok (.aload_n 0, 1) := by decide +kernel
theorem dX11_signedBy_39 : decode cX11_signedBy 39 = .ok (.getfield 170, 3) := by decide +kernel
theorem dX11_signedBy_42 : decode cX11_signedBy 42 = .ok (.ireturn, 1) := by decide +kernel
theorem dX11_unlikeSigned_0 : decode cX11_unlikeSigned 0 = .ok (.iconst 0, 1) := by decide +kernel
theorem dX11_unlikeSigned_1 : decode cX11_unlikeSigned 1 = .ok (.istore_n 1, 1) := by decide +kernel
theorem dX11_unlikeSigned_2 : decode cX11_unlikeSigned 2 = .ok (.iconst 0, 1) := by decide +kernel
theorem dX11_unlikeSigned_3 : decode cX11_unlikeSigned 3 = .ok (.istore_n 2, 1) := by decide +kernel
theorem dX11_unlikeSigned_4 : decode cX11_unlikeSigned 4 = .ok (.iload_n 2, 1) := by decide +kernel
theorem dX11_unlikeSigned_5 : decode cX11_unlikeSigned 5 = .ok (.aload_n 0, 1) := by decide +kernel
theorem dX11_unlikeSigned_6 : decode cX11_unlikeSigned 6 = .ok (.getfield 20, 3) := by decide +kernel
theorem dX11_unlikeSigned_9 : decode cX11_unlikeSigned 9 = .ok (.if_icmp .ge 80, 3) := by decide +kernel
theorem dX11_unlikeSigned_12 : decode cX11_unlikeSigned 12 = .ok (.aload_n 0, 1) := by decide +kernel
theorem dX11_unlikeSigned_13 : decode cX11_unlikeSigned 13 = .ok (.iload_n 2, 1) := by decide +kernel
theorem dX11_unlikeSigned_14 : decode cX11_unlikeSigned 14 = .ok (.invokevirtual 295, 3) := by decide +kernel
theorem dX11_unlikeSigned_17 : decode cX11_unlikeSigned 17 = .ok (.ifCond .eq 6, 3) := by decide +kernel
theorem dX11_unlikeSigned_20 : decode cX11_unlikeSigned 20 = .ok (.goto 63, 3) := by decide +kernel
theorem dX11_unlikeSigned_23 : decode cX11_unlikeSigned 23 = .ok (.iconst 1, 1) := by decide +kernel
theorem dX11_unlikeSigned_24 : decode cX11_unlikeSigned 24 = .ok (.istore_n 3, 1) := by decide +kernel
theorem dX11_unlikeSigned_25 : decode cX11_unlikeSigned 25 = .ok (.iconst 0, 1) := by decide +kernel
theorem dX11_unlikeSigned_26 : decode cX11_unlikeSigned 26 = .ok (.istore 4, 2) := by decide +kernel
theorem dX11_unlikeSigned_28 : decode cX11_unlikeSigned 28 = .ok (.iload 4, 2) := by decide +kernel
theorem dX11_unlikeSigned_30 : decode cX11_unlikeSigned 30 = .ok (.iload_n 2, 1) := by decide +kernel
theorem dX11_unlikeSigned_31 : decode cX11_unlikeSigned 31 = .ok (.if_icmp .ge 40, 3) := by decide +kernel
theorem dX11_unlikeSigned_34 : decode cX11_unlikeSigned 34 = .ok (.iload_n 3, 1) := by decide +kernel
theorem dX11_unlikeSigned_35 : decode cX11_unlikeSigned 35 = .ok (.aload_n 0, 1) := by decide +kernel
theorem dX11_unlikeSigned_36 : decode cX11_unlikeSigned 36 = .ok (.iload 4, 2) := by decide +kernel
theorem dX11_unlikeSigned_38 : decode cX11_unlikeSigned 38 = .ok (.invokevirtual 295, 3) := by decide +kernel
theorem dX11_unlikeSigned_41 : decode cX11_unlikeSigned 41 = .ok (.ifCond .ne 17, 3) := by decide +kernel
theorem dX11_unlikeSigned_44 : decode cX11_unlikeSigned 44 = .ok (.aload_n 0, 1) := by decide +kernel
theorem dX11_unlikeSigned_45 : decode cX11_unlikeSigned 45 = .ok (.iload 4, 2) := by decide +kernel
theorem dX11_unlikeSigned_47 : decode cX11_unlikeSigned 47 = .ok (.invokevirtual 432, 3) := by decide +kernel
theorem dX11_unlikeSigned_50 : decode cX11_unlikeSigned 50 = .ok (.aload_n 0, 1) := by decide +kernel
theorem dX11_unlikeSigned_51 : decode cX11_unlikeSigned 51 = .ok (.iload_n 2, 1) := by decide +kernel
theorem dX11_unlikeSigned_52 : decode cX11_unlikeSigned 52 = .ok (.invokevirtual 432, 3) := by decide +kernel
theorem dX11_unlikeSigned_55 : decode cX11_unlikeSigned 55 = .ok (.if_icmp .eq 7, 3) := by decide +kernel
theorem dX11_unlikeSigned_58 : decode cX11_unlikeSigned 58 = .ok (.iconst 1, 1) := by decide +kernel
theorem dX11_unlikeSigned_59 : decode cX11_unlikeSigned 59 = .ok (.goto 4, 3) := by decide +kernel
theorem dX11_unlikeSigned_62 : decode cX11_unlikeSigned 62 = .ok (.iconst 0, 1) := by decide +kernel
theorem dX11_unlikeSigned_63 : decode cX11_unlikeSigned 63 = .ok (.iand, 1) := by decide +kernel
theorem dX11_unlikeSigned_64 : decode cX11_unlikeSigned 64 = .ok (.istore_n 3, 1) := by decide +kernel
theorem dX11_unlikeSigned_65 : decode cX11_unlikeSigned 65 = .ok (.iinc 4 1, 3) := by decide +kernel
theorem dX11_unlikeSigned_68 : decode cX11_unlikeSigned 68 = .ok (.goto (-40), 3) := by decide +kernel
theorem dX11_unlikeSigned_71 : decode cX11_unlikeSigned 71 = .ok (.iload_n 1, 1) := by decide +kernel
theorem dX11_unlikeSigned_72 : decode cX11_unlikeSigned 72 = .ok (.iload_n 3, 1) := by decide +kernel
theorem dX11_unlikeSigned_73 : decode cX11_unlikeSigned 73 = .ok (.ifCond .eq 7, 3) := by decide +kernel
theorem dX11_unlikeSigned_76 : decode cX11_unlikeSigned 76 = .ok (.iconst 1, 1) := by decide +kernel
theorem dX11_unlikeSigned_77 : decode cX11_unlikeSigned 77 = .ok (.goto 4, 3) := by decide +kernel
theorem dX11_unlikeSigned_80 : decode cX11_unlikeSigned 80 = .ok (.iconst 0, 1) := by decide +kernel
theorem dX11_unlikeSigned_81 : decode cX11_unlikeSigned 81 = .ok (.iadd, 1) := by decide +kernel
theorem dX11_unlikeSigned_82 : decode cX11_unlikeSigned 82 = .ok (.istore_n 1, 1) := by decide +kernel
theorem dX11_unlikeSigned_83 : decode cX11_unlikeSigned 83 = .ok (.iinc 2 1, 3) := by decide +kernel
theorem dX11_unlikeSigned_86 : decode cX11_unlikeSigned 86 = .ok (.goto (-82), 3) := by decide +kernel
theorem dX11_unlikeSigned_89 : decode cX11_unlikeSigned 89 = .ok (.iload_n 1, 1) := by decide +kernel
theorem dX11_unlikeSigned_90 : decode cX11_unlikeSigned 90 = .ok (.ireturn, 1) := by decide +kernel
theorem dX11_signed_0 : decode cX11_signed 0 = .ok (.aload_n 0, 1) := by decide +kernel
theorem dX11_signed_1 : decode cX11_signed 1 = .ok (.iconst 0, 1) := by decide +kernel
theorem dX11_signed_2 : decode cX11_signed 2 = .ok (.putfield 149, 3) := by decide +kernel
theorem dX11_signed_5 : decode cX11_signed 5 = .ok (.aload_n 0, 1) := by decide +kernel
theorem dX11_signed_6 : decode cX11_signed 6 = .ok (.aload_n 0, 1) := by decide +kernel
theorem dX11_signed_7 : decode cX11_signed 7 = .ok (.iload_n 1, 1) := by decide +kernel
theorem dX11_signed_8 : decode cX11_signed 8 = .ok (.invokevirtual 179, 3) := by decide +kernel
theorem dX11_signed_11 : decode cX11_signed 11 = .ok (.ifCond .ne 7, 3) := by decide +kernel
theorem dX11_signed_14 : decode cX11_signed 14 = .ok (.iconst 1, 1) := by decide +kernel
theorem dX11_signed_15 : decode cX11_signed 15 = .ok (.goto 4, 3) := by decide +kernel
theorem dX11_signed_18 : decode cX11_signed 18 = .ok (.iconst 0, 1) := by decide +kernel
theorem dX11_signed_19 : decode cX11_signed 19 = .ok (.iconst 1, 1) := by decide +kernel
theorem dX11_signed_20 : decode cX11_signed 20 = .ok (.iconst 0, 1) := by decide +kernel
theorem dX11_signed_21 : decode cX11_signed 21 = .ok (.invokevirtual 166, 3) := by decide +kernel
theorem dX11_signed_24 : decode cX11_signed 24 = .ok (.ifCond .ne 26, 3) := by decide +kernel
theorem dX11_signed_27 : decode cX11_signed 27 = .ok (.aload_n 0, 1) := by decide +kernel
theorem dX11_signed_28 : decode cX11_signed 28 = .ok (.iload_n 2, 1) := by decide +kernel
theorem dX11_signed_29 : decode cX11_signed 29 = .ok (.iconst 0, 1) := by decide +kernel
theorem dX11_signed_30 : decode cX11_signed 30 = .ok (.iconst 3, 1) := by decide +kernel
theorem dX11_signed_31 : decode cX11_signed 31 = .ok (.invokestatic 162, 3) := by decide +kernel
theorem dX11_signed_34 : decode cX11_signed 34 = .ok (.ifCond .ne 7, 3) := by decide +kernel
theorem dX11_signed_37 : decode cX11_signed 37 = .ok (.iconst 1, 1) := by decide +kernel
theorem dX11_signed_38 : decode cX11_signed 38 = .ok (.goto 4, 3) := by decide +kernel
theorem dX11_signed_41 : decode cX11_signed 41 = .ok (.iconst 0, 1) := by decide +kernel
theorem dX11_signed_42 : decode cX11_signed 42 = .ok (.iconst 2, 1) := by decide +kernel
theorem dX11_signed_43 : decode cX11_signed 43 = .ok (.iconst 1, 1) := by decide +kernel
theorem dX11_signed_44 : decode cX11_signed 44 = .ok (.invokevirtual 166, 3) := by decide +kernel
theorem dX11_signed_47 : decode cX11_signed 47 = .ok (.ifCond .eq 5, 3) := by decide +kernel
theorem dX11_signed_50 : decode cX11_signed 50 = .ok (.iconst 0, 1) := by decide +kernel
theorem dX11_signed_51 : decode cX11_signed 51 = .ok (.ireturn, 1) := by decide +kernel
theorem dX11_signed_52 : decode cX11_signed 52 = .ok (.aload_n 0, 1) := by decide +kernel
theorem dX11_signed_53 : decode cX11_signed 53 = .ok (.iload_n 1, 1) := by decide +kernel
theorem dX11_signed_54 : decode cX11_signed 54 = .ok (.invokevirtual 435, 3) := by decide +kernel
theorem dX11_signed_57 : decode cX11_signed 57 = .ok (.iload_n 2, 1) := by decide +kernel
theorem dX11_signed_58 : decode cX11_signed 58 = .ok (.ifCond .ne 10, 3) := by decide +kernel
theorem dX11_signed_61 : decode cX11_signed 61 = .ok (.aload_n 0, 1) := by decide +kernel
theorem dX11_signed_62 : decode cX11_signed 62 = .ok (.invokevirtual 438, 3) := by decide +kernel
theorem dX11_signed_65 : decode cX11_signed 65 = .ok (.goto 31, 3) := by decide +kernel
theorem dX11_signed_68 : decode cX11_signed 68 = .ok (.iload_n 2, 1) := by decide +kernel
theorem dX11_signed_69 : decode cX11_signed 69 = .ok (.iconst 1, 1) := by decide +kernel
theorem dX11_signed_70 : decode cX11_signed 70 = .ok (.if_icmp .ne 10, 3) := by decide +kernel
theorem dX11_signed_73 : decode cX11_signed 73 = .ok (.aload_n 0, 1) := by decide +kernel
theorem dX11_signed_74 : decode cX11_signed 74 = .ok (.getfield 413, 3) := by decide +kernel
theorem dX11_signed_77 : decode cX11_signed 77 = .ok (.goto 19, 3) := by decide +kernel
theorem dX11_signed_80 : decode cX11_signed 80 = .ok (.iload_n 2, 1) := by decide +kernel
theorem dX11_signed_81 : decode cX11_signed 81 = .ok (.iconst 2, 1) := by decide +kernel
theorem dX11_signed_82 : decode cX11_signed 82 = .ok (.if_icmp .ne 10, 3) := by decide +kernel
theorem dX11_signed_85 : decode cX11_signed 85 = .ok (.aload_n 0, 1) := by decide +kernel
theorem dX11_signed_86 : decode cX11_signed 86 = .ok (.getfield 419, 3) := by decide +kernel
theorem dX11_signed_89 : decode cX11_signed 89 = .ok (.goto 7, 3) := by decide +kernel
theorem dX11_signed_92 : decode cX11_signed 92 = .ok (.aload_n 0, 1) := by decide +kernel
theorem dX11_signed_93 : decode cX11_signed 93 = .ok (.getfield 416, 3) := by decide +kernel
theorem dX11_signed_96 : decode cX11_signed 96 = .ok (.ireturn, 1) := by decide +kernel
theorem dX11_signedOf_0 : decode cX11_signedOf 0 = .ok (.aload_n 0, 1) := by decide +kernel
theorem dX11_signedOf_1 : decode cX11_signedOf 1 = .ok (.iconst 0, 1) := by decide +kernel
theorem dX11_signedOf_2 : decode cX11_signedOf 2 = .ok (.putfield 149, 3) := by decide +kernel
theorem dX11_signedOf_5 : decode cX11_signedOf 5 = .ok (.aload_n 0, 1) := by decide +kernel
theorem dX11_signedOf_6 : decode cX11_signedOf 6 = .ok (.aload_n 0, 1) := by decide +kernel
theorem dX11_signedOf_7 : decode cX11_signedOf 7 = .ok (.iload_n 1, 1) := by decide +kernel
theorem dX11_signedOf_8 : decode cX11_signedOf 8 = .ok (.invokevirtual 179, 3) := by decide +kernel
theorem dX11_signedOf_11 : decode cX11_signedOf 11 = .ok (.ifCond .eq 11, 3) := by decide +kernel
theorem dX11_signedOf_14 : decode cX11_signedOf 14 = .ok (.aload_n 0, 1) := by decide +kernel
theorem dX11_signedOf_15 : decode cX11_signedOf 15 = .ok (.iload_n 2, 1) := by decide +kernel
theorem dX11_signedOf_16 : decode cX11_signedOf 16 = .ok (.invokevirtual 179, 3) := by decide +kernel
theorem dX11_signedOf_19 : decode cX11_signedOf 19 = .ok (.ifCond .ne 7, 3) := by decide +kernel
theorem dX11_signedOf_22 : decode cX11_signedOf 22 = .ok (.iconst 1, 1) := by decide +kernel
theorem dX11_signedOf_23 : decode cX11_signedOf 23 = .ok (.goto 4, 3) := by decide +kernel
theorem dX11_signedOf_26 : decode cX11_signedOf 26 = .ok (.iconst 0, 1) := by decide +kernel
theorem dX11_signedOf_27 : decode cX11_signedOf 27 = .ok (.iconst 1, 1) := by decide +kernel
theorem dX11_signedOf_28 : decode cX11_signedOf 28 = .ok (.iconst 0, 1) := by decide +kernel
theorem dX11_signedOf_29 : decode cX11_signedOf 29 = .ok (.invokevirtual 166, 3) := by decide +kernel
theorem dX11_signedOf_32 : decode cX11_signedOf 32 = .ok (.ifCond .ne 26, 3) := by decide +kernel
theorem dX11_signedOf_35 : decode cX11_signedOf 35 = .ok (.aload_n 0, 1) := by decide +kernel
theorem dX11_signedOf_36 : decode cX11_signedOf 36 = .ok (.iload_n 3, 1) := by decide +kernel
theorem dX11_signedOf_37 : decode cX11_signedOf 37 = .ok (.iconst 0, 1) := by decide +kernel
theorem dX11_signedOf_38 : decode cX11_signedOf 38 = .ok (.iconst 3, 1) := by decide +kernel
theorem dX11_signedOf_39 : decode cX11_signedOf 39 = .ok (.invokestatic 162, 3) := by decide +kernel
theorem dX11_signedOf_42 : decode cX11_signedOf 42 = .ok (.ifCond .ne 7, 3) := by decide +kernel
theorem dX11_signedOf_45 : decode cX11_signedOf 45 = .ok (.iconst 1, 1) := by decide +kernel
theorem dX11_signedOf_46 : decode cX11_signedOf 46 = .ok (.goto 4, 3) := by decide +kernel
theorem dX11_signedOf_49 : decode cX11_signedOf 49 = .ok (.iconst 0, 1) := by decide +kernel
theorem dX11_signedOf_50 : decode cX11_signedOf 50 = .ok (.iconst 2, 1) := by decide +kernel
theorem dX11_signedOf_51 : decode cX11_signedOf 51 = .ok (.iconst 1, 1) := by decide +kernel
theorem dX11_signedOf_52 : decode cX11_signedOf 52 = .ok (.invokevirtual 166, 3) := by decide +kernel
theorem dX11_signedOf_55 : decode cX11_signedOf 55 = .ok (.ifCond .eq 5, 3) := by decide +kernel
theorem dX11_signedOf_58 : decode cX11_signedOf 58 = .ok (.iconst 0, 1) := by decide +kernel
theorem dX11_signedOf_59 : decode cX11_signedOf 59 = .ok (.ireturn, 1) := by decide +kernel
theorem dX11_signedOf_60 : decode cX11_signedOf 60 = .ok (.aload_n 0, 1) := by decide +kernel
theorem dX11_signedOf_61 : decode cX11_signedOf 61 = .ok (.iload_n 1, 1) := by decide +kernel
theorem dX11_signedOf_62 : decode cX11_signedOf 62 = .ok (.invokevirtual 435, 3) := by decide +kernel
theorem dX11_signedOf_65 : decode cX11_signedOf 65 = .ok (.iload_n 3, 1) := by decide +kernel
theorem dX11_signedOf_66 : decode cX11_signedOf 66 = .ok (.ifCond .ne 11, 3) := by decide +kernel
theorem dX11_signedOf_69 : decode cX11_signedOf 69 = .ok (.aload_n 0, 1) := by decide +kernel
theorem dX11_signedOf_70 : decode cX11_signedOf 70 = .ok (.iload_n 2, 1) := by decide +kernel
theorem dX11_signedOf_71 : decode cX11_signedOf 71 = .ok (.invokevirtual 432, 3) := by decide +kernel
theorem dX11_signedOf_74 : decode cX11_signedOf 74 = .ok (.goto 37, 3) := by decide +kernel
theorem dX11_signedOf_77 : decode cX11_signedOf 77 = .ok (.iload_n 3, 1) := by decide +kernel
theorem dX11_signedOf_78 : decode cX11_signedOf 78 = .ok (.iconst 1, 1) := by decide +kernel
theorem dX11_signedOf_79 : decode cX11_signedOf 79 = .ok (.if_icmp .ne 12, 3) := by decide +kernel
theorem dX11_signedOf_82 : decode cX11_signedOf 82 = .ok (.aload_n 0, 1) := by decide +kernel
theorem dX11_signedOf_83 : decode cX11_signedOf 83 = .ok (.getfield 65, 3) := by decide +kernel
theorem dX11_signedOf_86 : decode cX11_signedOf 86 = .ok (.iload_n 2, 1) := by decide +kernel
theorem dX11_signedOf_87 : decode cX11_signedOf 87 = .ok (.iaload, 1) := by decide +kernel
theorem dX11_signedOf_88 : decode cX11_signedOf 88 = .ok (.goto 23, 3) := by decide +kernel
theorem dX11_signedOf_91 : decode cX11_signedOf 91 = .ok (.iload_n 3, 1) := by decide +kernel
theorem dX11_signedOf_92 : decode cX11_signedOf 92 = .ok (.iconst 2, 1) := by decide +kernel
theorem dX11_signedOf_93 : decode cX11_signedOf 93 = .ok (.if_icmp .ne 12, 3) := by decide +kernel
theorem dX11_signedOf_96 : decode cX11_signedOf 96 = .ok (.aload_n 0, 1) := by decide +kernel
theorem dX11_signedOf_97 : decode cX11_signedOf 97 = .ok (.getfield 68, 3) := by decide +kernel
theorem dX11_signedOf_100 : decode cX11_signedOf 100 = .ok (.iload_n 2, 1) := by decide +kernel
theorem dX11_signedOf_101 : decode cX11_signedOf 101 = .ok (.iaload, 1) := by decide +kernel
theorem dX11_signedOf_102 : decode cX11_signedOf 102 = .ok (.goto 9, 3) := by decide +kernel
theorem dX11_signedOf_105 : decode cX11_signedOf 105 = .ok (.aload_n 0, 1) := by decide +kernel
theorem dX11_signedOf_106 : decode cX11_signedOf 106 = .ok (.getfield 71, 3) := by decide +kernel
theorem dX11_signedOf_109 : decode cX11_signedOf 109 = .ok (.iload_n 2, 1) := by decide +kernel
theorem dX11_signedOf_110 : decode cX11_signedOf 110 = .ok (.iaload, 1) := by decide +kernel
theorem dX11_signedOf_111 : decode cX11_signedOf 111 = .ok (.ireturn, 1) := by decide +kernel
theorem dX11_taken_0 : decode cX11_taken 0 = .ok (.aload_n 0, 1) := by decide +kernel
theorem dX11_taken_1 : decode cX11_taken 1 = .ok (.iconst 0, 1) := by decide +kernel
theorem dX11_taken_2 : decode cX11_taken 2 = .ok (.putfield 149, 3) := by decide +kernel
theorem dX11_taken_5 : decode cX11_taken 5 = .ok (.aload_n 0, 1) := by decide +kernel
theorem dX11_taken_6 : decode cX11_taken 6 = .ok (.iload_n 1, 1) := by decide +kernel
theorem dX11_taken_7 : decode cX11_taken 7 = .ok (.invokevirtual 179, 3) := by decide +kernel
theorem dX11_taken_10 : decode cX11_taken 10 = .ok (.ifCond .eq 15, 3) := by decide +kernel
theorem dX11_taken_13 : decode cX11_taken 13 = .ok (.aload_n 0, 1) := by decide +kernel
theorem dX11_taken_14 : decode cX11_taken 14 = .ok (.iload_n 2, 1) := by decide +kernel
theorem dX11_taken_15 : decode cX11_taken 15 = .ok (.invokevirtual 179, 3) := by decide +kernel
theorem dX11_taken_18 : decode cX11_taken 18 = .ok (.ifCond .eq 7, 3) := by decide +kernel
theorem dX11_taken_21 : decode cX11_taken 21 = .ok (.iconst 1, 1) := by decide +kernel
theorem dX11_taken_22 : decode cX11_taken 22 = .ok (.goto 4, 3) := by decide +kernel
theorem dX11_taken_25 : decode cX11_taken 25 = .ok (.iconst 0, 1) := by decide +kernel
theorem dX11_taken_26 : decode cX11_taken 26 = .ok (.istore 5, 2) := by decide +kernel
theorem dX11_taken_28 : decode cX11_taken 28 = .ok (.iload 5, 2) := by decide +kernel
theorem dX11_taken_30 : decode cX11_taken 30 = .ok (.ifCond .eq 8, 3) := by decide +kernel
theorem dX11_taken_33 : decode cX11_taken 33 = .ok (.aload_n 0, 1) := by decide +kernel
theorem dX11_taken_34 : decode cX11_taken 34 = .ok (.iload_n 1, 1) := by decide +kernel
theorem dX11_taken_35 : decode cX11_taken 35 = .ok (.invokevirtual 435, 3) := by decide +kernel
theorem dX11_taken_38 : decode cX11_taken 38 = .ok (.aload_n 0, 1) := by decide +kernel
theorem dX11_taken_39 : decode cX11_taken 39 = .ok (.iload 5, 2) := by decide +kernel
theorem dX11_taken_41 : decode cX11_taken 41 = .ok (.ifCond .eq 19, 3) := by decide +kernel
theorem dX11_taken_44 : decode cX11_taken 44 = .ok (.iload_n 3, 1) := by decide +kernel
theorem dX11_taken_45 : decode cX11_taken 45 = .ok (.iconst 0, 1) := by decide +kernel
theorem dX11_taken_46 : decode cX11_taken 46 = .ok (.aload_n 0, 1) := by decide +kernel
theorem dX11_taken_47 : decode cX11_taken 47 = .ok (.getfield 65, 3) := by decide +kernel
theorem dX11_taken_50 : decode cX11_taken 50 = .ok (.iload_n 2, 1) := by decide +kernel
theorem dX11_taken_51 : decode cX11_taken 51 = .ok (.iaload, 1) := by decide +kernel
theorem dX11_taken_52 : decode cX11_taken 52 = .ok (.iconst 1, 1) := by decide +kernel
theorem dX11_taken_53 : decode cX11_taken 53 = .ok (.isub, 1) := by decide +kernel
theorem dX11_taken_54 : decode cX11_taken 54 = .ok (.invokestatic 162, 3) := by decide +kernel
theorem dX11_taken_57 : decode cX11_taken 57 = .ok (.ifCond .ne 7, 3) := by decide +kernel
theorem dX11_taken_60 : decode cX11_taken 60 = .ok (.iconst 1, 1) := by decide +kernel
theorem dX11_taken_61 : decode cX11_taken 61 = .ok (.goto 4, 3) := by decide +kernel
theorem dX11_taken_64 : decode cX11_taken 64 = .ok (.iconst 0, 1) := by decide +kernel
theorem dX11_taken_65 : decode cX11_taken 65 = .ok (.iconst 1, 1) := by decide +kernel
theorem dX11_taken_66 : decode cX11_taken 66 = .ok (.iconst 0, 1) := by decide +kernel
theorem dX11_taken_67 : decode cX11_taken 67 = .ok (.invokevirtual 166, 3) := by decide +kernel
theorem dX11_taken_70 : decode cX11_taken 70 = .ok (.ifCond .ne 27, 3) := by decide +kernel
theorem dX11_taken_73 : decode cX11_taken 73 = .ok (.aload_n 0, 1) := by decide +kernel
theorem dX11_taken_74 : decode cX11_taken 74 = .ok (.iload 4, 2) := by decide +kernel
theorem dX11_taken_76 : decode cX11_taken 76 = .ok (.iconst 0, 1) := by decide +kernel
theorem dX11_taken_77 : decode cX11_taken 77 = .ok (.iconst 1, 1) := by decide +kernel
theorem dX11_taken_78 : decode cX11_taken 78 = .ok (.invokestatic 162, 3) := by decide +kernel
theorem dX11_taken_81 : decode cX11_taken 81 = .ok (.ifCond .ne 7, 3) := by decide +kernel
theorem dX11_taken_84 : decode cX11_taken 84 = .ok (.iconst 1, 1) := by decide +kernel
theorem dX11_taken_85 : decode cX11_taken 85 = .ok (.goto 4, 3) := by decide +kernel
theorem dX11_taken_88 : decode cX11_taken 88 = .ok (.iconst 0, 1) := by decide +kernel
theorem dX11_taken_89 : decode cX11_taken 89 = .ok (.iconst 2, 1) := by decide +kernel
theorem dX11_taken_90 : decode cX11_taken 90 = .ok (.iconst 1, 1) := by decide +kernel
theorem dX11_taken_91 : decode cX11_taken 91 = .ok (.invokevirtual 166, 3) := by decide +kernel
theorem dX11_taken_94 : decode cX11_taken 94 = .ok (.ifCond .eq 5, 3) := by decide +kernel
theorem dX11_taken_97 : decode cX11_taken 97 = .ok (.iconst 0, 1) := by decide +kernel
theorem dX11_taken_98 : decode cX11_taken 98 = .ok (.ireturn, 1) := by decide +kernel
theorem dX11_taken_99 : decode cX11_taken 99 = .ok (.iload 4, 2) := by decide +kernel
theorem dX11_taken_101 : decode cX11_taken 101 = .ok (.ifCond .ne 14, 3) := by decide +kernel
theorem dX11_taken_104 : decode cX11_taken 104 = .ok (.aload_n 0, 1) := by decide +kernel
theorem dX11_taken_105 : decode cX11_taken 105 = .ok (.getfield 74, 3) := by decide +kernel
theorem dX11_taken_108 : decode cX11_taken 108 = .ok (.iload_n 2, 1) := by decide +kernel
theorem dX11_taken_109 : decode cX11_taken 109 = .ok (.aaload, 1) := by decide +kernel
theorem dX11_taken_110 : decode cX11_taken 110 = .ok (.iload_n 3, 1) := by decide +kernel
theorem dX11_taken_111 : decode cX11_taken 111 = .ok (.iaload, 1) := by decide +kernel
theorem dX11_taken_112 : decode cX11_taken 112 = .ok (.goto 11, 3) := by decide +kernel
theorem dX11_taken_115 : decode cX11_taken 115 = .ok (.aload_n 0, 1) := by decide +kernel
theorem dX11_taken_116 : decode cX11_taken 116 = .ok (.getfield 77, 3) := by decide +kernel
theorem dX11_taken_119 : decode cX11_taken 119 = .ok (.iload_n 2, 1) := by decide +kernel
theorem dX11_taken_120 : decode cX11_taken 120 = .ok (.aaload, 1) := by decide +kernel
theorem dX11_taken_121 : decode cX11_taken 121 = .ok (.iload_n 3, 1) := by decide +kernel
theorem dX11_taken_122 : decode cX11_taken 122 = .ok (.iaload, 1) := by decide +kernel
theorem dX11_taken_123 : decode cX11_taken 123 = .ok (.ireturn, 1) := by decide +kernel
theorem dX11_gains_0 : decode cX11_gains 0 = .ok (.aload_n 0, 1) := by decide +kernel
theorem dX11_gains_1 : decode cX11_gains 1 = .ok (.iconst 0, 1) := by decide +kernel
theorem dX11_gains_2 : decode cX11_gains 2 = .ok (.putfield 149, 3) := by decide +kernel
theorem dX11_gains_5 : decode cX11_gains 5 = .ok (.iconst 0, 1) := by decide +kernel
theorem dX11_gains_6 : decode cX11_gains 6 = .ok (.istore_n 1, 1) := by decide +kernel
theorem dX11_gains_7 : decode cX11_gains 7 = .ok (.iconst 0, 1) := by decide +kernel
theorem dX11_gains_8 : decode cX11_gains 8 = .ok (.istore_n 2, 1) := by decide +kernel
theorem dX11_gains_9 : decode cX11_gains 9 = .ok (.iload_n 2, 1) := by decide +kernel
theorem dX11_gains_10 : decode cX11_gains 10 = .ok (.aload_n 0, 1) := by decide +kernel
theorem dX11_gains_11 : decode cX11_gains 11 = .ok (.getfield 20, 3) := by decide +kernel
theorem dX11_gains_14 : decode cX11_gains 14 = .ok (.if_icmp .ge 55, 3) := by decide +kernel
theorem dX11_gains_17 : decode cX11_gains 17 = .ok (.aload_n 0, 1) := by decide +kernel
theorem dX11_gains_18 : decode cX11_gains 18 = .ok (.iconst 0, 1) := by decide +kernel
theorem dX11_gains_19 : decode cX11_gains 19 = .ok (.invokevirtual 406, 3) := by decide +kernel
theorem dX11_gains_22 : decode cX11_gains 22 = .ok (.aload_n 0, 1) := by decide +kernel
theorem dX11_gains_23 : decode cX11_gains 23 = .ok (.iload_n 2, 1) := by decide +kernel
theorem dX11_gains_24 : decode cX11_gains 24 = .ok (.invokevirtual 365, 3) := by decide +kernel
theorem dX11_gains_27 : decode cX11_gains 27 = .ok (.aload_n 0, 1) := by decide +kernel
theorem dX11_gains_28 : decode cX11_gains 28 = .ok (.iconst 0, 1) := by decide +kernel
theorem dX11_gains_29 : decode cX11_gains 29 = .ok (.invokevirtual 396, 3) := by decide +kernel
theorem dX11_gains_32 : decode cX11_gains 32 = .ok (.istore_n 3, 1) := by decide +kernel
theorem dX11_gains_33 : decode cX11_gains 33 = .ok (.aload_n 0, 1) := by decide +kernel
theorem dX11_gains_34 : decode cX11_gains 34 = .ok (.iconst 1, 1) := by decide +kernel
theorem dX11_gains_35 : decode cX11_gains 35 = .ok (.invokevirtual 406, 3) := by decide +kernel
theorem dX11_gains_38 : decode cX11_gains 38 = .ok (.aload_n 0, 1) := by decide +kernel
theorem dX11_gains_39 : decode cX11_gains 39 = .ok (.iload_n 2, 1) := by decide +kernel
theorem dX11_gains_40 : decode cX11_gains 40 = .ok (.invokevirtual 435, 3) := by decide +kernel
theorem dX11_gains_43 : decode cX11_gains 43 = .ok (.iload_n 1, 1) := by decide +kernel
theorem dX11_gains_44 : decode cX11_gains 44 = .ok (.iload_n 3, 1) := by decide +kernel
theorem dX11_gains_45 : decode cX11_gains 45 = .ok (.ifCond .ne 15, 3) := by decide +kernel
theorem dX11_gains_48 : decode cX11_gains 48 = .ok (.aload_n 0, 1) := by decide +kernel
theorem dX11_gains_49 : decode cX11_gains 49 = .ok (.invokevirtual 438, 3) := by decide +kernel
theorem dX11_gains_52 : decode cX11_gains 52 = .ok (.iconst 2, 1) := by decide +kernel
theorem dX11_gains_53 : decode cX11_gains 53 = .ok (.if_icmp .ge 7, 3) := by decide +kernel
theorem dX11_gains_56 : decode cX11_gains 56 = .ok (.iconst 1, 1) := by decide +kernel
theorem dX11_gains_57 : decode cX11_gains 57 = .ok (.goto 4, 3) := by decide +kernel
theorem dX11_gains_60 : decode cX11_gains 60 = .ok (.iconst 0, 1) := by decide +kernel
theorem dX11_gains_61 : decode cX11_gains 61 = .ok (.iadd, 1) := by decide +kernel
theorem dX11_gains_62 : decode cX11_gains 62 = .ok (.istore_n 1, 1) := by decide +kernel
theorem dX11_gains_63 : decode cX11_gains 63 = .ok (.iinc 2 1, 3) := by decide +kernel
theorem dX11_gains_66 : decode cX11_gains 66 = .ok (.goto (-57), 3) := by decide +kernel
theorem dX11_gains_69 : decode cX11_gains 69 = .ok (.iload_n 1, 1) := by decide +kernel
theorem dX11_gains_70 : decode cX11_gains 70 = .ok (.ireturn, 1) := by decide +kernel
theorem dX11_cried_0 : decode cX11_cried 0 = .ok (.aload_n 0, 1) := by decide +kernel
theorem dX11_cried_1 : decode cX11_cried 1 = .ok (.iload_n 1, 1) := by decide +kernel
theorem dX11_cried_2 : decode cX11_cried 2 = .ok (.iload_n 2, 1) := by decide +kernel
theorem dX11_cried_3 : decode cX11_cried 3 = .ok (.iload_n 3, 1) := by decide +kernel
theorem dX11_cried_4 : decode cX11_cried 4 = .ok (.iload_n 1, 1) := by decide +kernel
theorem dX11_cried_5 : decode cX11_cried 5 = .ok (.iload 4, 2) := by decide +kernel
theorem dX11_cried_7 : decode cX11_cried 7 = .ok (.invokevirtual 313, 3) := by decide +kernel
theorem dX11_cried_10 : decode cX11_cried 10 = .ok (.istore 5, 2) := by decide +kernel
theorem dX11_cried_12 : decode cX11_cried 12 = .ok (.aload_n 0, 1) := by decide +kernel
theorem dX11_cried_13 : decode cX11_cried 13 = .ok (.dup, 1) := by decide +kernel
theorem dX11_cried_14 : decode cX11_cried 14 = .ok (.getfield 441, 3) := by decide +kernel
theorem dX11_cried_17 : decode cX11_cried 17 = .ok (.iload 5, 2) := by decide +kernel
theorem dX11_cried_19 : decode cX11_cried 19 = .ok (.ifCond .ne 7, 3) := by decide +kernel
theorem dX11_cried_22 : decode cX11_cried 22 = .ok (.iconst 0, 1) := by decide +kernel
theorem dX11_cried_23 : decode cX11_cried 23 = .ok (.goto 4, 3) := by decide +kernel
theorem dX11_cried_26 : decode cX11_cried 26 = .ok (.iconst 1, 1) := by decide +kernel
theorem dX11_cried_27 : decode cX11_cried 27 = .ok (.iadd, 1) := by decide +kernel
theorem dX11_cried_28 : decode cX11_cried 28 = .ok (.putfield 441, 3) := by decide +kernel
theorem dX11_cried_31 : decode cX11_cried 31 = .ok (.aload_n 0, 1) := by decide +kernel
theorem dX11_cried_32 : decode cX11_cried 32 = .ok (.dup, 1) := by decide +kernel
theorem dX11_cried_33 : decode cX11_cried 33 = .ok (.getfield 444, 3) := by decide +kernel
theorem dX11_cried_36 : decode cX11_cried 36 = .ok (.iload 5, 2) := by decide +kernel
theorem dX11_cried_38 : decode cX11_cried 38 = .ok (.iconst 1, 1) := by decide +kernel
theorem dX11_cried_39 : decode cX11_cried 39 = .ok (.if_icmp .ne 7, 3) := by decide +kernel
theorem dX11_cried_42 : decode cX11_cried 42 = .ok (.iconst 1, 1) := by decide +kernel
theorem dX11_cried_43 : decode cX11_cried 43 = .ok (.goto 4, 3) := by decide +kernel
theorem dX11_cried_46 : decode cX11_cried 46 = .ok (.iconst 0, 1) := by decide +kernel
theorem dX11_cried_47 : decode cX11_cried 47 = .ok (.iadd, 1) := by decide +kernel
theorem dX11_cried_48 : decode cX11_cried 48 = .ok (.putfield 444, 3) := by decide +kernel
theorem dX11_cried_51 : decode cX11_cried 51 = .ok (.iload 5, 2) := by decide +kernel
theorem dX11_cried_53 : decode cX11_cried 53 = .ok (.iconst 2, 1) := by decide +kernel
theorem dX11_cried_54 : decode cX11_cried 54 = .ok (.if_icmp .ne 10, 3) := by decide +kernel
theorem dX11_cried_57 : decode cX11_cried 57 = .ok (.aload_n 0, 1) := by decide +kernel
theorem dX11_cried_58 : decode cX11_cried 58 = .ok (.getfield 298, 3) := by decide +kernel
theorem dX11_cried_61 : decode cX11_cried 61 = .ok (.goto 7, 3) := by decide +kernel
theorem dX11_cried_64 : decode cX11_cried 64 = .ok (.aload_n 0, 1) := by decide +kernel
theorem dX11_cried_65 : decode cX11_cried 65 = .ok (.getfield 170, 3) := by decide +kernel
theorem dX11_cried_68 : decode cX11_cried 68 = .ok (.ireturn, 1) := by decide +kernel
theorem dX11_crowns_0 : decode cX11_crowns 0 = .ok (.aload_n 0, 1) := by decide +kernel
theorem dX11_crowns_1 : decode cX11_crowns 1 = .ok (.iconst 0, 1) := by decide +kernel
theorem dX11_crowns_2 : decode cX11_crowns 2 = .ok (.putfield 441, 3) := by decide +kernel
theorem dX11_crowns_5 : decode cX11_crowns 5 = .ok (.aload_n 0, 1) := by decide +kernel
theorem dX11_crowns_6 : decode cX11_crowns 6 = .ok (.iconst 0, 1) := by decide +kernel
theorem dX11_crowns_7 : decode cX11_crowns 7 = .ok (.putfield 444, 3) := by decide +kernel
theorem dX11_crowns_10 : decode cX11_crowns 10 = .ok (.iconst 0, 1) := by decide +kernel
theorem dX11_crowns_11 : decode cX11_crowns 11 = .ok (.istore_n 1, 1) := by decide +kernel
theorem dX11_crowns_12 : decode cX11_crowns 12 = .ok (.iload_n 1, 1) := by decide +kernel
theorem dX11_crowns_13 : decode cX11_crowns 13 = .ok (.aload_n 0, 1) := by decide +kernel
theorem dX11_crowns_14 : decode cX11_crowns 14 = .ok (.getfield 20, 3) := by decide +kernel
theorem dX11_crowns_17 : decode cX11_crowns 17 = .ok (.if_icmp .ge 21, 3) := by decide +kernel
theorem dX11_crowns_20 : decode cX11_crowns 20 = .ok (.aload_n 0, 1) := by decide +kernel
theorem dX11_crowns_21 : decode cX11_crowns 21 = .ok (.getfield 86, 3) := by decide +kernel
theorem dX11_crowns_24 : decode cX11_crowns 24 = .ok (.iload_n 1, 1) := by decide +kernel
theorem dX11_crowns_25 : decode cX11_crowns 25 = .ok (.aload_n 0, 1) := by decide +kernel
theorem dX11_crowns_26 : decode cX11_crowns 26 = .ok (.getfield 26, 3) := by decide +kernel
theorem dX11_crowns_29 : decode cX11_crowns 29 = .ok (.iload_n 1, 1) := by decide +kernel
theorem dX11_crowns_30 : decode cX11_crowns 30 = .ok (.iaload, 1) := by decide +kernel
theorem dX11_crowns_31 : decode cX11_crowns 31 = .ok (.iastore, 1) := by decide +kernel
theorem dX11_crowns_32 : decode cX11_crowns 32 = .ok (.iinc 1 1, 3) := by decide +kernel
theorem dX11_crowns_35 : decode cX11_crowns 35 = .ok (.goto (-23), 3) := by decide +kernel
theorem dX11_crowns_38 : decode cX11_crowns 38 = .ok (.return_, 1) := by decide +kernel
theorem dX11_phase_0 : decode cX11_phase 0 = .ok (.iconst 0, 1) := by decide +kernel
theorem dX11_phase_1 : decode cX11_phase 1 = .ok (.istore_n 2, 1) := by decide +kernel
theorem dX11_phase_2 : decode cX11_phase 2 = .ok (.iload_n 2, 1) := by decide +kernel
theorem dX11_phase_3 : decode cX11_phase 3 = .ok (.aload_n 0, 1) := by decide +kernel
theorem dX11_phase_4 : decode cX11_phase 4 = .ok (.getfield 20, 3) := by decide +kernel
theorem dX11_phase_7 : decode cX11_phase 7 = .ok (.if_icmp .ge 162, 3) := by decide +kernel
theorem dX11_phase_10 : decode cX11_phase 10 = .ok (.iconst 0, 1) := by decide +kernel
theorem dX11_phase_11 : decode cX11_phase 11 = .ok (.istore_n 3, 1) := by decide +kernel
theorem dX11_phase_12 : decode cX11_phase 12 = .ok (.iload_n 3, 1) := by decide +kernel
theorem dX11_phase_13 : decode cX11_phase 13 = .ok (.aload_n 0, 1) := by decide +kernel
theorem dX11_phase_14 : decode cX11_phase 14 = .ok (.getfield 20, 3) := by decide +kernel
theorem dX11_phase_17 : decode cX11_phase 17 = .ok (.if_icmp .ge 42, 3) := by decide +kernel
theorem dX11_phase_20 : decode cX11_phase 20 = .ok (.aload_n 0, 1) := by decide +kernel
theorem dX11_phase_21 : decode cX11_phase 21 = .ok (.getfield 98, 3) := by decide +kernel
theorem dX11_phase_24 : decode cX11_phase 24 = .ok (.iload_n 3, 1) := by decide +kernel
theorem dX11_phase_25 : decode cX11_phase 25 = .ok (.iload_n 3, 1) := by decide +kernel
theorem dX11_phase_26 : decode cX11_phase 26 = .ok (.iload_n 2, 1) := by decide +kernel
theorem dX11_phase_27 : decode cX11_phase 27 = .ok (.if_icmp .ne 12, 3) := by decide +kernel
theorem dX11_phase_30 : decode cX11_phase 30 = .ok (.aload_n 0, 1) := by decide +kernel
theorem dX11_phase_31 : decode cX11_phase 31 = .ok (.getfield 86, 3) := by decide +kernel
theorem dX11_phase_34 : decode cX11_phase 34 = .ok (.iload_n 2, 1) := by decide +kernel
theorem dX11_phase_35 : decode cX11_phase 35 = .ok (.iaload, 1) := by decide +kernel
theorem dX11_phase_36 : decode cX11_phase 36 = .ok (.goto 16, 3) := by decide +kernel
theorem dX11_phase_39 : decode cX11_phase 39 = .ok (.aload_n 0, 1) := by decide +kernel
theorem dX11_phase_40 : decode cX11_phase 40 = .ok (.iload_n 3, 1) := by decide +kernel
theorem dX11_phase_41 : decode cX11_phase 41 = .ok (.iload_n 2, 1) := by decide +kernel
theorem dX11_phase_42 : decode cX11_phase 42 = .ok (.iconst 1, 1) := by decide +kernel
theorem dX11_phase_43 : decode cX11_phase 43 = .ok (.aload_n 0, 1) := by decide +kernel
theorem dX11_phase_44 : decode cX11_phase 44 = .ok (.getfield 86, 3) := by decide +kernel
theorem dX11_phase_47 : decode cX11_phase 47 = .ok (.iload_n 3, 1) := by decide +kernel
theorem dX11_phase_48 : decode cX11_phase 48 = .ok (.iaload, 1) := by decide +kernel
theorem dX11_phase_49 : decode cX11_phase 49 = .ok (.invokevirtual 447, 3) := by decide +kernel
theorem dX11_phase_52 : decode cX11_phase 52 = .ok (.iastore, 1) := by decide +kernel
theorem dX11_phase_53 : decode cX11_phase 53 = .ok (.iinc 3 1, 3) := by decide +kernel
theorem dX11_phase_56 : decode cX11_phase 56 = .ok (.goto (-44), 3) := by decide +kernel
theorem dX11_phase_59 : decode cX11_phase 59 = .ok (.aload_n 0, 1) := by decide +kernel
theorem dX11_phase_60 : decode cX11_phase 60 = .ok (.getfield 95, 3) := by decide +kernel
theorem dX11_phase_63 : decode cX11_phase 63 = .ok (.iload_n 2, 1) := by decide +kernel
theorem dX11_phase_64 : decode cX11_phase 64 = .ok (.iconst 0, 1) := by decide +kernel
theorem dX11_phase_65 : decode cX11_phase 65 = .ok (.iastore, 1) := by decide +kernel
theorem dX11_phase_66 : decode cX11_phase 66 = .ok (.iconst 0, 1) := by decide +kernel
theorem dX11_phase_67 : decode cX11_phase 67 = .ok (.istore_n 3, 1) := by decide +kernel
theorem dX11_phase_68 : decode cX11_phase 68 = .ok (.iload_n 3, 1) := by decide +kernel
theorem dX11_phase_69 : decode cX11_phase 69 = .ok (.aload_n 0, 1) := by decide +kernel
theorem dX11_phase_70 : decode cX11_phase 70 = .ok (.getfield 20, 3) := by decide +kernel
theorem dX11_phase_73 : decode cX11_phase 73 = .ok (.if_icmp .ge 90, 3) := by decide +kernel
theorem dX11_phase_76 : decode cX11_phase 76 = .ok (.iconst 0, 1) := by decide +kernel
theorem dX11_phase_77 : decode cX11_phase 77 = .ok (.istore 4, 2) := by decide +kernel
theorem dX11_phase_79 : decode cX11_phase 79 = .ok (.iconst 0, 1) := by decide +kernel
theorem dX11_phase_80 : decode cX11_phase 80 = .ok (.istore 5, 2) := by decide +kernel
theorem dX11_phase_82 : decode cX11_phase 82 = .ok (.iload 5, 2) := by decide +kernel
theorem dX11_phase_84 : decode cX11_phase 84 = .ok (.aload_n 0, 1) := by decide +kernel
theorem dX11_phase_85 : decode cX11_phase 85 = .ok (.getfield 20, 3) := by decide +kernel
theorem dX11_phase_88 : decode cX11_phase 88 = .ok (.if_icmp .ge 35, 3) := by decide +kernel
theorem dX11_phase_91 : decode cX11_phase 91 = .ok (.iload 4, 2) := by decide +kernel
theorem dX11_phase_93 : decode cX11_phase 93 = .ok (.aload_n 0, 1) := by decide +kernel
theorem dX11_phase_94 : decode cX11_phase 94 = .ok (.getfield 98, 3) := by decide +kernel
theorem dX11_phase_97 : decode cX11_phase 97 = .ok (.iload 5, 2) := by decide +kernel
theorem dX11_phase_99 : decode cX11_phase 99 = .ok (.iaload, 1) := by decide +kernel
theorem dX11_phase_100 : decode cX11_phase 100 = .ok (.aload_n 0, 1) := by decide +kernel
theorem dX11_phase_101 : decode cX11_phase 101 = .ok (.getfield 98, 3) := by decide +kernel
theorem dX11_phase_104 : decode cX11_phase 104 = .ok (.iload_n 3, 1) := by decide +kernel
theorem dX11_phase_105 : decode cX11_phase 105 = .ok (.iaload, 1) := by decide +kernel
theorem dX11_phase_106 : decode cX11_phase 106 = .ok (.if_icmp .ne 7, 3) := by decide +kernel
theorem dX11_phase_109 : decode cX11_phase 109 = .ok (.iconst 1, 1) := by decide +kernel
theorem dX11_phase_110 : decode cX11_phase 110 = .ok (.goto 4, 3) := by decide +kernel
theorem dX11_phase_113 : decode cX11_phase 113 = .ok (.iconst 0, 1) := by decide +kernel
theorem dX11_phase_114 : decode cX11_phase 114 = .ok (.iadd, 1) := by decide +kernel
theorem dX11_phase_115 : decode cX11_phase 115 = .ok (.istore 4, 2) := by decide +kernel
theorem dX11_phase_117 : decode cX11_phase 117 = .ok (.iinc 5 1, 3) := by decide +kernel
theorem dX11_phase_120 : decode cX11_phase 120 = .ok (.goto (-38), 3) := by decide +kernel
theorem dX11_phase_123 : decode cX11_phase 123 = .ok (.iload 4, 2) := by decide +kernel
theorem dX11_phase_125 : decode cX11_phase 125 = .ok (.aload_n 0, 1) := by decide +kernel
theorem dX11_phase_126 : decode cX11_phase 126 = .ok (.getfield 95, 3) := by decide +kernel
theorem dX11_phase_129 : decode cX11_phase 129 = .ok (.iload_n 2, 1) := by decide +kernel
theorem dX11_phase_130 : decode cX11_phase 130 = .ok (.iaload, 1) := by decide +kernel
theorem dX11_phase_131 : decode cX11_phase 131 = .ok (.if_icmp .gt 6, 3) := by decide +kernel
theorem dX11_phase_134 : decode cX11_phase 134 = .ok (.goto 23, 3) := by decide +kernel
theorem dX11_phase_137 : decode cX11_phase 137 = .ok (.aload_n 0, 1) := by decide +kernel
theorem dX11_phase_138 : decode cX11_phase 138 = .ok (.getfield 95, 3) := by decide +kernel
theorem dX11_phase_141 : decode cX11_phase 141 = .ok (.iload_n 2, 1) := by decide +kernel
theorem dX11_phase_142 : decode cX11_phase 142 = .ok (.iload 4, 2) := by decide +kernel
theorem dX11_phase_144 : decode cX11_phase 144 = .ok (.iastore, 1) := by decide +kernel
theorem dX11_phase_145 : decode cX11_phase 145 = .ok (.aload_n 0, 1) := by decide +kernel
theorem dX11_phase_146 : decode cX11_phase 146 = .ok (.getfield 92, 3) := by decide +kernel
theorem dX11_phase_149 : decode cX11_phase 149 = .ok (.iload_n 2, 1) := by decide +kernel
theorem dX11_phase_150 : decode cX11_phase 150 = .ok (.aload_n 0, 1) := by decide +kernel
theorem dX11_phase_151 : decode cX11_phase 151 = .ok (.getfield 98, 3) := by decide +kernel
theorem dX11_phase_154 : decode cX11_phase 154 = .ok (.iload_n 3, 1) := by decide +kernel
theorem dX11_phase_155 : decode cX11_phase 155 = .ok (.iaload, 1) := by decide +kernel
theorem dX11_phase_156 : decode cX11_phase 156 = .ok (.iastore, 1) := by decide +kernel
theorem dX11_phase_157 : decode cX11_phase 157 = .ok (.iinc 3 1, 3) := by decide +kernel
theorem dX11_phase_160 : decode cX11_phase 160 = .ok (.goto (-92), 3) := by decide +kernel
theorem dX11_phase_163 : decode cX11_phase 163 = .ok (.iinc 2 1, 3) := by decide +kernel
theorem dX11_phase_166 : decode cX11_phase 166 = .ok (.goto (-164), 3) := by decide +kernel
theorem dX11_phase_169 : decode cX11_phase 169 = .ok (.iconst 0, 1) := by decide +kernel
theorem dX11_phase_170 : decode cX11_phase 170 = .ok (.istore_n 2, 1) := by decide +kernel
theorem dX11_phase_171 : decode cX11_phase 171 = .ok (.iload_n 2, 1) := by decide +kernel
theorem dX11_phase_172 : decode cX11_phase 172 = .ok (.aload_n 0, 1) := by decide +kernel
theorem dX11_phase_173 : decode cX11_phase 173 = .ok (.getfield 20, 3) := by decide +kernel
theorem dX11_phase_176 : decode cX11_phase 176 = .ok (.if_icmp .ge 73, 3) := by decide +kernel
theorem dX11_phase_179 : decode cX11_phase 179 = .ok (.iload_n 2, 1) := by decide +kernel
theorem dX11_phase_180 : decode cX11_phase 180 = .ok (.iload_n 1, 1) := by decide +kernel
theorem dX11_phase_181 : decode cX11_phase 181 = .ok (.if_icmp .ne 12, 3) := by decide +kernel
theorem dX11_phase_184 : decode cX11_phase 184 = .ok (.aload_n 0, 1) := by decide +kernel
theorem dX11_phase_185 : decode cX11_phase 185 = .ok (.getfield 92, 3) := by decide +kernel
theorem dX11_phase_188 : decode cX11_phase 188 = .ok (.iload_n 1, 1) := by decide +kernel
theorem dX11_phase_189 : decode cX11_phase 189 = .ok (.iaload, 1) := by decide +kernel
theorem dX11_phase_190 : decode cX11_phase 190 = .ok (.goto 16, 3) := by decide +kernel
theorem dX11_phase_193 : decode cX11_phase 193 = .ok (.aload_n 0, 1) := by decide +kernel
theorem dX11_phase_194 : decode cX11_phase 194 = .ok (.iload_n 1, 1) := by decide +kernel
theorem dX11_phase_195 : decode cX11_phase 195 = .ok (.iload_n 2, 1) := by decide +kernel
theorem dX11_phase_196 : decode cX11_phase 196 = .ok (.iconst 2, 1) := by decide +kernel
theorem dX11_phase_197 : decode cX11_phase 197 = .ok (.aload_n 0, 1) := by decide +kernel
theorem dX11_phase_198 : decode cX11_phase 198 = .ok (.getfield 92, 3) := by decide +kernel
theorem dX11_phase_201 : decode cX11_phase 201 = .ok (.iload_n 1, 1) := by decide +kernel
theorem dX11_phase_202 : decode cX11_phase 202 = .ok (.iaload, 1) := by decide +kernel
theorem dX11_phase_203 : decode cX11_phase 203 = .ok (.invokevirtual 447, 3) := by decide +kernel
theorem dX11_phase_206 : decode cX11_phase 206 = .ok (.istore_n 3, 1) := by decide +kernel
theorem dX11_phase_207 : decode cX11_phase 207 = .ok (.aload_n 0, 1) := by decide +kernel
theorem dX11_phase_208 : decode cX11_phase 208 = .ok (.getfield 89, 3) := by decide +kernel
theorem dX11_phase_211 : decode cX11_phase 211 = .ok (.iload_n 2, 1) := by decide +kernel
theorem dX11_phase_212 : decode cX11_phase 212 = .ok (.aload_n 0, 1) := by decide +kernel
theorem dX11_phase_213 : decode cX11_phase 213 = .ok (.getfield 95, 3) := by decide +kernel
theorem dX11_phase_216 : decode cX11_phase 216 = .ok (.iload_n 2, 1) := by decide +kernel
theorem dX11_phase_217 : decode cX11_phase 217 = .ok (.iaload, 1) := by decide +kernel
theorem dX11_phase_218 : decode cX11_phase 218 = .ok (.aload_n 0, 1) := by decide +kernel
theorem dX11_phase_219 : decode cX11_phase 219 = .ok (.getfield 20, 3) := by decide +kernel
theorem dX11_phase_222 : decode cX11_phase 222 = .ok (.iconst 2, 1) := by decide +kernel
theorem dX11_phase_223 : decode cX11_phase 223 = .ok (.idiv, 1) := by decide +kernel
theorem dX11_phase_224 : decode cX11_phase 224 = .ok (.aload_n 0, 1) := by decide +kernel
theorem dX11_phase_225 : decode cX11_phase 225 = .ok (.getfield 23, 3) := by decide +kernel
theorem dX11_phase_228 : decode cX11_phase 228 = .ok (.iadd, 1) := by decide +kernel
theorem dX11_phase_229 : decode cX11_phase 229 = .ok (.if_icmp .le 12, 3) := by decide +kernel
theorem dX11_phase_232 : decode cX11_phase 232 = .ok (.aload_n 0, 1) := by decide +kernel
theorem dX11_phase_233 : decode cX11_phase 233 = .ok (.getfield 92, 3) := by decide +kernel
theorem dX11_phase_236 : decode cX11_phase 236 = .ok (.iload_n 2, 1) := by decide +kernel
theorem dX11_phase_237 : decode cX11_phase 237 = .ok (.iaload, 1) := by decide +kernel
theorem dX11_phase_238 : decode cX11_phase 238 = .ok (.goto 4, 3) := by decide +kernel
theorem dX11_phase_241 : decode cX11_phase 241 = .ok (.iload_n 3, 1) := by decide +kernel
theorem dX11_phase_242 : decode cX11_phase 242 = .ok (.iastore, 1) := by decide +kernel
theorem dX11_phase_243 : decode cX11_phase 243 = .ok (.iinc 2 1, 3) := by decide +kernel
theorem dX11_phase_246 : decode cX11_phase 246 = .ok (.goto (-75), 3) := by decide +kernel
theorem dX11_phase_249 : decode cX11_phase 249 = .ok (.iconst 0, 1) := by decide +kernel
theorem dX11_phase_250 : decode cX11_phase 250 = .ok (.istore_n 2, 1) := by decide +kernel
theorem dX11_phase_251 : decode cX11_phase 251 = .ok (.iload_n 2, 1) := by decide +kernel
theorem dX11_phase_252 : decode cX11_phase 252 = .ok (.aload_n 0, 1) := by decide +kernel
theorem dX11_phase_253 : decode cX11_phase 253 = .ok (.getfield 20, 3) := by decide +kernel
theorem dX11_phase_256 : decode cX11_phase 256 = .ok (.if_icmp .ge 21, 3) := by decide +kernel
theorem dX11_phase_259 : decode cX11_phase 259 = .ok (.aload_n 0, 1) := by decide +kernel
theorem dX11_phase_260 : decode cX11_phase 260 = .ok (.getfield 86, 3) := by decide +kernel
theorem dX11_phase_263 : decode cX11_phase 263 = .ok (.iload_n 2, 1) := by decide +kernel
theorem dX11_phase_264 : decode cX11_phase 264 = .ok (.aload_n 0, 1) := by decide +kernel
theorem dX11_phase_265 : decode cX11_phase 265 = .ok (.getfield 89, 3) := by decide +kernel
theorem dX11_phase_268 : decode cX11_phase 268 = .ok (.iload_n 2, 1) := by decide +kernel
theorem dX11_phase_269 : decode cX11_phase 269 = .ok (.iaload, 1) := by decide +kernel
theorem dX11_phase_270 : decode cX11_phase 270 = .ok (.iastore, 1) := by decide +kernel
theorem dX11_phase_271 : decode cX11_phase 271 = .ok (.iinc 2 1, 3) := by decide +kernel
theorem dX11_phase_274 : decode cX11_phase 274 = .ok (.goto (-23), 3) := by decide +kernel
theorem dX11_phase_277 : decode cX11_phase 277 = .ok (.return_, 1) := by decide +kernel
theorem dX11_unlikeOf_0 : decode cX11_unlikeOf 0 = .ok (.iconst 0, 1) := by decide +kernel
theorem dX11_unlikeOf_1 : decode cX11_unlikeOf 1 = .ok (.istore_n 2, 1) := by decide +kernel
theorem dX11_unlikeOf_2 : decode cX11_unlikeOf 2 = .ok (.iconst 0, 1) := by decide +kernel
theorem dX11_unlikeOf_3 : decode cX11_unlikeOf 3 = .ok (.istore_n 3, 1) := by decide +kernel
theorem dX11_unlikeOf_4 : decode cX11_unlikeOf 4 = .ok (.iload_n 3, 1) := by decide +kernel
theorem dX11_unlikeOf_5 : decode cX11_unlikeOf 5 = .ok (.aload_n 0, 1) := by decide +kernel
theorem dX11_unlikeOf_6 : decode cX11_unlikeOf 6 = .ok (.getfield 20, 3) := by decide +kernel
theorem dX11_unlikeOf_9 : decode cX11_unlikeOf 9 = .ok (.if_icmp .ge 80, 3) := by decide +kernel
theorem dX11_unlikeOf_12 : decode cX11_unlikeOf 12 = .ok (.aload_n 0, 1) := by decide +kernel
theorem dX11_unlikeOf_13 : decode cX11_unlikeOf 13 = .ok (.iload_n 3, 1) := by decide +kernel
theorem dX11_unlikeOf_14 : decode cX11_unlikeOf 14 = .ok (.invokevirtual 295, 3) := by decide +kernel
theorem dX11_unlikeOf_17 : decode cX11_unlikeOf 17 = .ok (.ifCond .eq 6, 3) := by decide +kernel
theorem dX11_unlikeOf_20 : decode cX11_unlikeOf 20 = .ok (.goto 63, 3) := by decide +kernel
theorem dX11_unlikeOf_23 : decode cX11_unlikeOf 23 = .ok (.iconst 1, 1) := by decide +kernel
theorem dX11_unlikeOf_24 : decode cX11_unlikeOf 24 = .ok (.istore 4, 2) := by decide +kernel
theorem dX11_unlikeOf_26 : decode cX11_unlikeOf 26 = .ok (.iconst 0, 1) := by decide +kernel
theorem dX11_unlikeOf_27 : decode cX11_unlikeOf 27 = .ok (.istore 5, 2) := by decide +kernel
theorem dX11_unlikeOf_29 : decode cX11_unlikeOf 29 = .ok (.iload 5, 2) := by decide +kernel
theorem dX11_unlikeOf_31 : decode cX11_unlikeOf 31 = .ok (.iload_n 3, 1) := by decide +kernel
theorem dX11_unlikeOf_32 : decode cX11_unlikeOf 32 = .ok (.if_icmp .ge 38, 3) := by decide +kernel
theorem dX11_unlikeOf_35 : decode cX11_unlikeOf 35 = .ok (.iload 4, 2) := by decide +kernel
theorem dX11_unlikeOf_37 : decode cX11_unlikeOf 37 = .ok (.aload_n 0, 1) := by decide +kernel
theorem dX11_unlikeOf_38 : decode cX11_unlikeOf 38 = .ok (.iload 5, 2) := by decide +kernel
theorem dX11_unlikeOf_40 : decode cX11_unlikeOf 40 = .ok (.invokevirtual 295, 3) := by decide +kernel
theorem dX11_unlikeOf_43 : decode cX11_unlikeOf 43 = .ok (.ifCond .ne 13, 3) := by decide +kernel
theorem dX11_unlikeOf_46 : decode cX11_unlikeOf 46 = .ok (.aload_n 1, 1) := by decide +kernel
theorem dX11_unlikeOf_47 : decode cX11_unlikeOf 47 = .ok (.iload 5, 2) := by decide +kernel
theorem dX11_unlikeOf_49 : decode cX11_unlikeOf 49 = .ok (.iaload, 1) := by decide +kernel
theorem dX11_unlikeOf_50 : decode cX11_unlikeOf 50 = .ok (.aload_n 1, 1) := by decide +kernel
theorem dX11_unlikeOf_51 : decode cX11_unlikeOf 51 = .ok (.iload_n 3, 1) := by decide +kernel
theorem dX11_unlikeOf_52 : decode cX11_unlikeOf 52 = .ok (.iaload, 1) := by decide +kernel
theorem dX11_unlikeOf_53 : decode cX11_unlikeOf 53 = .ok (.if_icmp .eq 7, 3) := by decide +kernel
theorem dX11_unlikeOf_56 : decode cX11_unlikeOf 56 = .ok (.iconst 1, 1) := by decide +kernel
theorem dX11_unlikeOf_57 : decode cX11_unlikeOf 57 = .ok (.goto 4, 3) := by decide +kernel
theorem dX11_unlikeOf_60 : decode cX11_unlikeOf 60 = .ok (.iconst 0, 1) := by decide +kernel
theorem dX11_unlikeOf_61 : decode cX11_unlikeOf 61 = .ok (.iand, 1) := by decide +kernel
theorem dX11_unlikeOf_62 : decode cX11_unlikeOf 62 = .ok (.istore 4, 2) := by decide +kernel
theorem dX11_unlikeOf_64 : decode cX11_unlikeOf 64 = .ok (.iinc 5 1, 3) := by decide +kernel
theorem dX11_unlikeOf_67 : decode cX11_unlikeOf 67 = .ok (.goto (-38), 3) := by decide +kernel
theorem dX11_unlikeOf_70 : decode cX11_unlikeOf 70 = .ok (.iload_n 2, 1) := by decide +kernel
theorem dX11_unlikeOf_71 : decode cX11_unlikeOf 71 = .ok (.iload 4, 2) := by decide +kernel
theorem dX11_unlikeOf_73 : decode cX11_unlikeOf 73 = .ok (.ifCond .eq 7, 3) := by decide +kernel
theorem dX11_unlikeOf_76 : decode cX11_unlikeOf 76 = .ok (.iconst 1, 1) := by decide +kernel
theorem dX11_unlikeOf_77 : decode cX11_unlikeOf 77 = .ok (.goto 4, 3) := by decide +kernel
theorem dX11_unlikeOf_80 : decode cX11_unlikeOf 80 = .ok (.iconst 0, 1) := by decide +kernel
theorem dX11_unlikeOf_81 : decode cX11_unlikeOf 81 = .ok (.iadd, 1) := by decide +kernel
theorem dX11_unlikeOf_82 : decode cX11_unlikeOf 82 = .ok (.istore_n 2, 1) := by decide +kernel
theorem dX11_unlikeOf_83 : decode cX11_unlikeOf 83 = .ok (.iinc 3 1, 3) := by decide +kernel
theorem dX11_unlikeOf_86 : decode cX11_unlikeOf 86 = .ok (.goto (-82), 3) := by decide +kernel
theorem dX11_unlikeOf_89 : decode cX11_unlikeOf 89 = .ok (.iload_n 2, 1) := by decide +kernel
theorem dX11_unlikeOf_90 : decode cX11_unlikeOf 90 = .ok (.ireturn, 1) := by decide +kernel
theorem dX11_king_0 : decode cX11_king 0 = .ok (.aload_n 0, 1) := by decide +kernel
theorem dX11_king_1 : decode cX11_king 1 = .ok (.iconst 0, 1) := by decide +kernel
theorem dX11_king_2 : decode cX11_king 2 = .ok (.putfield 149, 3) := by decide +kernel
theorem dX11_king_5 : decode cX11_king 5 = .ok (.aload_n 0, 1) := by decide +kernel
theorem dX11_king_6 : decode cX11_king 6 = .ok (.aload_n 0, 1) := by decide +kernel
theorem dX11_king_7 : decode cX11_king 7 = .ok (.iload_n 1, 1) := by decide +kernel
theorem dX11_king_8 : decode cX11_king 8 = .ok (.invokevirtual 179, 3) := by decide +kernel
theorem dX11_king_11 : decode cX11_king 11 = .ok (.ifCond .ne 7, 3) := by decide +kernel
theorem dX11_king_14 : decode cX11_king 14 = .ok (.iconst 1, 1) := by decide +kernel
theorem dX11_king_15 : decode cX11_king 15 = .ok (.goto 4, 3) := by decide +kernel
theorem dX11_king_18 : decode cX11_king 18 = .ok (.iconst 0, 1) := by decide +kernel
theorem dX11_king_19 : decode cX11_king 19 = .ok (.iconst 1, 1) := by decide +kernel
theorem dX11_king_20 : decode cX11_king 20 = .ok (.iconst 0, 1) := by decide +kernel
theorem dX11_king_21 : decode cX11_king 21 = .ok (.invokevirtual 166, 3) := by decide +kernel
theorem dX11_king_24 : decode cX11_king 24 = .ok (.ifCond .ne 31, 3) := by decide +kernel
theorem dX11_king_27 : decode cX11_king 27 = .ok (.aload_n 0, 1) := by decide +kernel
theorem dX11_king_28 : decode cX11_king 28 = .ok (.iload_n 2, 1) := by decide +kernel
theorem dX11_king_29 : decode cX11_king 29 = .ok (.iconst 0, 1) := by decide +kernel
theorem dX11_king_30 : decode cX11_king 30 = .ok (.aload_n 0, 1) := by decide +kernel
theorem dX11_king_31 : decode cX11_king 31 = .ok (.getfield 23, 3) := by decide +kernel
theorem dX11_king_34 : decode cX11_king 34 = .ok (.iconst 1, 1) := by decide +kernel
theorem dX11_king_35 : decode cX11_king 35 = .ok (.iadd, 1) := by decide +kernel
theorem dX11_king_36 : decode cX11_king 36 = .ok (.invokestatic 162, 3) := by decide +kernel
theorem dX11_king_39 : decode cX11_king 39 = .ok (.ifCond .ne 7, 3) := by decide +kernel
theorem dX11_king_42 : decode cX11_king 42 = .ok (.iconst 1, 1) := by decide +kernel
theorem dX11_king_43 : decode cX11_king 43 = .ok (.goto 4, 3) := by decide +kernel
theorem dX11_king_46 : decode cX11_king 46 = .ok (.iconst 0, 1) := by decide +kernel
theorem dX11_king_47 : decode cX11_king 47 = .ok (.iconst 2, 1) := by decide +kernel
theorem dX11_king_48 : decode cX11_king 48 = .ok (.iconst 1, 1) := by decide +kernel
theorem dX11_king_49 : decode cX11_king 49 = .ok (.invokevirtual 166, 3) := by decide +kernel
theorem dX11_king_52 : decode cX11_king 52 = .ok (.ifCond .eq 5, 3) := by decide +kernel
theorem dX11_king_55 : decode cX11_king 55 = .ok (.iconst 0, 1) := by decide +kernel
theorem dX11_king_56 : decode cX11_king 56 = .ok (.ireturn, 1) := by decide +kernel
theorem dX11_king_57 : decode cX11_king 57 = .ok (.aload_n 0, 1) := by decide +kernel
theorem dX11_king_58 : decode cX11_king 58 = .ok (.invokevirtual 451, 3) := by decide +kernel
theorem dX11_king_61 : decode cX11_king 61 = .ok (.iconst 0, 1) := by decide +kernel
theorem dX11_king_62 : decode cX11_king 62 = .ok (.istore_n 3, 1) := by decide +kernel
theorem dX11_king_63 : decode cX11_king 63 = .ok (.iload_n 3, 1) := by decide +kernel
theorem dX11_king_64 : decode cX11_king 64 = .ok (.iload_n 2, 1) := by decide +kernel
theorem dX11_king_65 : decode cX11_king 65 = .ok (.if_icmp .ge 14, 3) := by decide +kernel
theorem dX11_king_68 : decode cX11_king 68 = .ok (.aload_n 0, 1) := by decide +kernel
theorem dX11_king_69 : decode cX11_king 69 = .ok (.iload_n 3, 1) := by decide +kernel
theorem dX11_king_70 : decode cX11_king 70 = .ok (.invokevirtual 454, 3) := by decide +kernel
theorem dX11_king_73 : decode cX11_king 73 = .ok (.iinc 3 1, 3) := by decide +kernel
theorem dX11_king_76 : decode cX11_king 76 = .ok (.goto (-13), 3) := by decide +kernel
theorem dX11_king_79 : decode cX11_king 79 = .ok (.aload_n 0, 1) := by decide +kernel
theorem dX11_king_80 : decode cX11_king 80 = .ok (.getfield 86, 3) := by decide +kernel
theorem dX11_king_83 : decode cX11_king 83 = .ok (.iload_n 1, 1) := by decide +kernel
theorem dX11_king_84 : decode cX11_king 84 = .ok (.iaload, 1) := by decide +kernel
theorem dX11_king_85 : decode cX11_king 85 = .ok (.ireturn, 1) := by decide +kernel
theorem dX11_kings_0 : decode cX11_kings 0 = .ok (.aload_n 0, 1) := by decide +kernel
theorem dX11_kings_1 : decode cX11_kings 1 = .ok (.iconst 0, 1) := by decide +kernel
theorem dX11_kings_2 : decode cX11_kings 2 = .ok (.putfield 149, 3) := by decide +kernel
theorem dX11_kings_5 : decode cX11_kings 5 = .ok (.aload_n 0, 1) := by decide +kernel
theorem dX11_kings_6 : decode cX11_kings 6 = .ok (.iload_n 1, 1) := by decide +kernel
theorem dX11_kings_7 : decode cX11_kings 7 = .ok (.iconst 0, 1) := by decide +kernel
theorem dX11_kings_8 : decode cX11_kings 8 = .ok (.iconst 3, 1) := by decide +kernel
theorem dX11_kings_9 : decode cX11_kings 9 = .ok (.invokestatic 162, 3) := by decide +kernel
theorem dX11_kings_12 : decode cX11_kings 12 = .ok (.ifCond .ne 7, 3) := by decide +kernel
theorem dX11_kings_15 : decode cX11_kings 15 = .ok (.iconst 1, 1) := by decide +kernel
theorem dX11_kings_16 : decode cX11_kings 16 = .ok (.goto 4, 3) := by decide +kernel
theorem dX11_kings_19 : decode cX11_kings 19 = .ok (.iconst 0, 1) := by decide +kernel
theorem dX11_kings_20 : decode cX11_kings 20 = .ok (.iconst 1, 1) := by decide +kernel
theorem dX11_kings_21 : decode cX11_kings 21 = .ok (.iconst 1, 1) := by decide +kernel
theorem dX11_kings_22 : decode cX11_kings 22 = .ok (.invokevirtual 166, 3) := by decide +kernel
theorem dX11_kings_25 : decode cX11_kings 25 = .ok (.ifCond .eq 5, 3) := by decide +kernel
theorem dX11_kings_28 : decode cX11_kings 28 = .ok (.iconst 0, 1) := by decide +kernel
theorem dX11_kings_29 : decode cX11_kings 29 = .ok (.ireturn, 1) := by decide +kernel
theorem dX11_kings_30 : decode cX11_kings 30 = .ok (.aload_n 0, 1) := by decide +kernel
theorem dX11_kings_31 : decode cX11_kings 31 = .ok (.invokevirtual 451, 3) := by decide +kernel
theorem dX11_kings_34 : decode cX11_kings 34 = .ok (.aload_n 0, 1) := by decide +kernel
theorem dX11_kings_35 : decode cX11_kings 35 = .ok (.aload_n 0, 1) := by decide +kernel
theorem dX11_kings_36 : decode cX11_kings 36 = .ok (.getfield 86, 3) := by decide +kernel
theorem dX11_kings_39 : decode cX11_kings 39 = .ok (.invokevirtual 457, 3) := by decide +kernel
theorem dX11_kings_42 : decode cX11_kings 42 = .ok (.iconst 2, 1) := by decide +kernel
theorem dX11_kings_43 : decode cX11_kings 43 = .ok (.if_icmp .ge 7, 3) := by decide +kernel
theorem dX11_kings_46 : decode cX11_kings 46 = .ok (.iconst 0, 1) := by decide +kernel
theorem dX11_kings_47 : decode cX11_kings 47 = .ok (.goto 4, 3) := by decide +kernel
theorem dX11_kings_50 : decode cX11_kings 50 = .ok (.iconst (-1), 1) := by decide +kernel
theorem dX11_kings_51 : decode cX11_kings 51 = .ok (.istore_n 2, 1) := by decide +kernel
theorem dX11_kings_52 : decode cX11_kings 52 = .ok (.iconst 0, 1) := by decide +kernel
theorem dX11_kings_53 : decode cX11_kings 53 = .ok (.istore_n 3, 1) := by decide +kernel
theorem dX11_kings_54 : decode cX11_kings 54 = .ok (.iload_n 3, 1) := by decide +kernel
theorem dX11_kings_55 : decode cX11_kings 55 = .ok (.aload_n 0, 1) := by decide +kernel
theorem dX11_kings_56 : decode cX11_kings 56 = .ok (.getfield 23, 3) := by decide +kernel
theorem dX11_kings_59 : decode cX11_kings 59 = .ok (.if_icmp .gt 55, 3) := by decide +kernel
theorem dX11_kings_62 : decode cX11_kings 62 = .ok (.aload_n 0, 1) := by decide +kernel
theorem dX11_kings_63 : decode cX11_kings 63 = .ok (.iload_n 3, 1) := by decide +kernel
theorem dX11_kings_64 : decode cX11_kings 64 = .ok (.invokevirtual 454, 3) := by decide +kernel
theorem dX11_kings_67 : decode cX11_kings 67 = .ok (.aload_n 0, 1) := by decide +kernel
theorem dX11_kings_68 : decode cX11_kings 68 = .ok (.aload_n 0, 1) := by decide +kernel
theorem dX11_kings_69 : decode cX11_kings 69 = .ok (.getfield 86, 3) := by decide +kernel
theorem dX11_kings_72 : decode cX11_kings 72 = .ok (.invokevirtual 457, 3) := by decide +kernel
theorem dX11_kings_75 : decode cX11_kings 75 = .ok (.iconst 2, 1) := by decide +kernel
theorem dX11_kings_76 : decode cX11_kings 76 = .ok (.if_icmp .ge 7, 3) := by decide +kernel
theorem dX11_kings_79 : decode cX11_kings 79 = .ok (.iconst 1, 1) := by decide +kernel
theorem dX11_kings_80 : decode cX11_kings 80 = .ok (.goto 4, 3) := by decide +kernel
theorem dX11_kings_83 : decode cX11_kings 83 = .ok (.iconst 0, 1) := by decide +kernel
theorem dX11_kings_84 : decode cX11_kings 84 = .ok (.istore 4, 2) := by decide +kernel
theorem dX11_kings_86 : decode cX11_kings 86 = .ok (.iload 4, 2) := by decide +kernel
theorem dX11_kings_88 : decode cX11_kings 88 = .ok (.ifCond .ne 7, 3) := by decide +kernel
theorem dX11_kings_91 : decode cX11_kings 91 = .ok (.iconst (-1), 1) := by decide +kernel
theorem dX11_kings_92 : decode cX11_kings 92 = .ok (.goto 15, 3) := by decide +kernel
theorem dX11_kings_95 : decode cX11_kings 95 = .ok (.iload_n 2, 1) := by decide +kernel
theorem dX11_kings_96 : decode cX11_kings 96 = .ok (.iconst (-1), 1) := by decide +kernel
theorem dX11_kings_97 : decode cX11_kings 97 = .ok (.if_icmp .ne 9, 3) := by decide +kernel
theorem dX11_kings_100 : decode cX11_kings 100 = .ok (.iload_n 3, 1) := by decide +kernel
theorem dX11_kings_101 : decode cX11_kings 101 = .ok (.iconst 1, 1) := by decide +kernel
theorem dX11_kings_102 : decode cX11_kings 102 = .ok (.iadd, 1) := by decide +kernel
theorem dX11_kings_103 : decode cX11_kings 103 = .ok (.goto 4, 3) := by decide +kernel
theorem dX11_kings_106 : decode cX11_kings 106 = .ok (.iload_n 2, 1) := by decide +kernel
theorem dX11_kings_107 : decode cX11_kings 107 = .ok (.istore_n 2, 1) := by decide +kernel
theorem dX11_kings_108 : decode cX11_kings 108 = .ok (.iinc 3 1, 3) := by decide +kernel
theorem dX11_kings_111 : decode cX11_kings 111 = .ok (.goto (-57), 3) := by decide +kernel
theorem dX11_kings_114 : decode cX11_kings 114 = .ok (.iload_n 1, 1) := by decide +kernel
theorem dX11_kings_115 : decode cX11_kings 115 = .ok (.ifCond .ne 14, 3) := by decide +kernel
theorem dX11_kings_118 : decode cX11_kings 118 = .ok (.aload_n 0, 1) := by decide +kernel
theorem dX11_kings_119 : decode cX11_kings 119 = .ok (.aload_n 0, 1) := by decide +kernel
theorem dX11_kings_120 : decode cX11_kings 120 = .ok (.getfield 86, 3) := by decide +kernel
theorem dX11_kings_123 : decode cX11_kings 123 = .ok (.invokevirtual 457, 3) := by decide +kernel
theorem dX11_kings_126 : decode cX11_kings 126 = .ok (.goto 28, 3) := by decide +kernel
theorem dX11_kings_129 : decode cX11_kings 129 = .ok (.iload_n 1, 1) := by decide +kernel
theorem dX11_kings_130 : decode cX11_kings 130 = .ok (.iconst 1, 1) := by decide +kernel
theorem dX11_kings_131 : decode cX11_kings 131 = .ok (.if_icmp .ne 7, 3) := by decide +kernel
theorem dX11_kings_134 : decode cX11_kings 134 = .ok (.iload_n 2, 1) := by decide +kernel
theorem dX11_kings_135 : decode cX11_kings 135 = .ok (.goto 19, 3) := by decide +kernel
theorem dX11_kings_138 : decode cX11_kings 138 = .ok (.iload_n 1, 1) := by decide +kernel
theorem dX11_kings_139 : decode cX11_kings 139 = .ok (.iconst 2, 1) := by decide +kernel
theorem dX11_kings_140 : decode cX11_kings 140 = .ok (.if_icmp .ne 10, 3) := by decide +kernel
theorem dX11_kings_143 : decode cX11_kings 143 = .ok (.aload_n 0, 1) := by decide +kernel
theorem dX11_kings_144 : decode cX11_kings 144 = .ok (.getfield 441, 3) := by decide +kernel
theorem dX11_kings_147 : decode cX11_kings 147 = .ok (.goto 7, 3) := by decide +kernel
theorem dX11_kings_150 : decode cX11_kings 150 = .ok (.aload_n 0, 1) := by decide +kernel
theorem dX11_kings_151 : decode cX11_kings 151 = .ok (.getfield 444, 3) := by decide +kernel
theorem dX11_kings_154 : decode cX11_kings 154 = .ok (.ireturn, 1) := by decide +kernel
theorem dX11_calls_0 : decode cX11_calls 0 = .ok (.iconst 0, 1) := by decide +kernel
theorem dX11_calls_1 : decode cX11_calls 1 = .ok (.istore 5, 2) := by decide +kernel
theorem dX11_calls_3 : decode cX11_calls 3 = .ok (.iload 5, 2) := by decide +kernel
theorem dX11_calls_5 : decode cX11_calls 5 = .ok (.aload_n 0, 1) := by decide +kernel
theorem dX11_calls_6 : decode cX11_calls 6 = .ok (.getfield 20, 3) := by decide +kernel
theorem dX11_calls_9 : decode cX11_calls 9 = .ok (.if_icmp .ge 159, 3) := by decide +kernel
theorem dX11_calls_12 : decode cX11_calls 12 = .ok (.aload_n 0, 1) := by decide +kernel
theorem dX11_calls_13 : decode cX11_calls 13 = .ok (.getfield 125, 3) := by decide +kernel
theorem dX11_calls_16 : decode cX11_calls 16 = .ok (.iload 5, 2) := by decide +kernel
theorem dX11_calls_18 : decode cX11_calls 18 = .ok (.baload, 1) := by decide +kernel
theorem dX11_calls_19 : decode cX11_calls 19 = .ok (.ifCond .ne 6, 3) := by decide +kernel
theorem dX11_calls_22 : decode cX11_calls 22 = .ok (.goto 140, 3) := by decide +kernel
theorem dX11_calls_25 : decode cX11_calls 25 = .ok (.iconst 0, 1) := by decide +kernel
theorem dX11_calls_26 : decode cX11_calls 26 = .ok (.istore 6, 2) := by decide +kernel
theorem dX11_calls_28 : decode cX11_calls 28 = .ok (.iload 6, 2) := by decide +kernel
theorem dX11_calls_30 : decode cX11_calls 30 = .ok (.aload_n 0, 1) := by decide +kernel
theorem dX11_calls_31 : decode cX11_calls 31 = .ok (.getfield 20, 3) := by decide +kernel
theorem dX11_calls_34 : decode cX11_calls 34 = .ok (.if_icmp .ge 128, 3) := by decide +kernel
theorem dX11_calls_37 : decode cX11_calls 37 = .ok (.iconst 2, 1) := by decide +kernel
theorem dX11_calls_38 : decode cX11_calls 38 = .ok (.istore 7, 2) := by decide +kernel
theorem dX11_calls_40 : decode cX11_calls 40 = .ok (.aload_n 0, 1) := by decide +kernel
theorem dX11_calls_41 : decode cX11_calls 41 = .ok (.aload_n 0, 1) := by decide +kernel
theorem dX11_calls_42 : decode cX11_calls 42 = .ok (.getfield 116, 3) := by decide +kernel
theorem dX11_calls_45 : decode cX11_calls 45 = .ok (.iload 5, 2) := by decide +kernel
theorem dX11_calls_47 : decode cX11_calls 47 = .ok (.iaload, 1) := by decide +kernel
theorem dX11_calls_48 : decode cX11_calls 48 = .ok (.putfield 298, 3) := by decide +kernel
theorem dX11_calls_51 : decode cX11_calls 51 = .ok (.iload 6, 2) := by decide +kernel
theorem dX11_calls_53 : decode cX11_calls 53 = .ok (.iload 5, 2) := by decide +kernel
theorem dX11_calls_55 : decode cX11_calls 55 = .ok (.if_icmp .eq 61, 3) := by decide +kernel
theorem dX11_calls_58 : decode cX11_calls 58 = .ok (.aload_n 0, 1) := by decide +kernel
theorem dX11_calls_59 : decode cX11_calls 59 = .ok (.iload 5, 2) := by decide +kernel
theorem dX11_calls_61 : decode cX11_calls 61 = .ok (.iload 6, 2) := by decide +kernel
theorem dX11_calls_63 : decode cX11_calls 63 = .ok (.iload_n 1, 1) := by decide +kernel
theorem dX11_calls_64 : decode cX11_calls 64 = .ok (.iload_n 2, 1) := by decide +kernel
theorem dX11_calls_65 : decode cX11_calls 65 = .ok (.aload_n 0, 1) := by decide +kernel
theorem dX11_calls_66 : decode cX11_calls 66 = .ok (.getfield 116, 3) := by decide +kernel
theorem dX11_calls_69 : decode cX11_calls 69 = .ok (.iload 5, 2) := by decide +kernel
theorem dX11_calls_71 : decode cX11_calls 71 = .ok (.iaload, 1) := by decide +kernel
theorem dX11_calls_72 : decode cX11_calls 72 = .ok (.invokevirtual 313, 3) := by decide +kernel
theorem dX11_calls_75 : decode cX11_calls 75 = .ok (.istore 7, 2) := by decide +kernel
theorem dX11_calls_77 : decode cX11_calls 77 = .ok (.aload_n 0, 1) := by decide +kernel
theorem dX11_calls_78 : decode cX11_calls 78 = .ok (.dup, 1) := by decide +kernel
theorem dX11_calls_79 : decode cX11_calls 79 = .ok (.getfield 441, 3) := by decide +kernel
theorem dX11_calls_82 : decode cX11_calls 82 = .ok (.iload 7, 2) := by decide +kernel
theorem dX11_calls_84 : decode cX11_calls 84 = .ok (.ifCond .ne 7, 3) := by decide +kernel
theorem dX11_calls_87 : decode cX11_calls 87 = .ok (.iconst 0, 1) := by decide +kernel
theorem dX11_calls_88 : decode cX11_calls 88 = .ok (.goto 4, 3) := by decide +kernel
theorem dX11_calls_91 : decode cX11_calls 91 = .ok (.iconst 1, 1) := by decide +kernel
theorem dX11_calls_92 : decode cX11_calls 92 = .ok (.iadd, 1) := by decide +kernel
theorem dX11_calls_93 : decode cX11_calls 93 = .ok (.putfield 441, 3) := by decide +kernel
theorem dX11_calls_96 : decode cX11_calls 96 = .ok (.aload_n 0, 1) := by decide +kernel
theorem dX11_calls_97 : decode cX11_calls 97 = .ok (.dup, 1) := by decide +kernel
theorem dX11_calls_98 : decode cX11_calls 98 = .ok (.getfield 444, 3) := by decide +kernel
theorem dX11_calls_101 : decode cX11_calls 101 = .ok (.iload 7, 2) := by decide +kernel
theorem dX11_calls_103 : decode cX11_calls 103 = .ok (.iconst 1, 1) := by decide +kernel
theorem dX11_calls_104 : decode cX11_calls 104 = .ok (.if_icmp .ne 7, 3) := by decide +kernel
theorem dX11_calls_107 : decode cX11_calls 107 = .ok (.iconst 1, 1) := by decide +kernel
theorem dX11_calls_108 : decode cX11_calls 108 = .ok (.goto 4, 3) := by decide +kernel
theorem dX11_calls_111 : decode cX11_calls 111 = .ok (.iconst 0, 1) := by decide +kernel
theorem dX11_calls_112 : decode cX11_calls 112 = .ok (.iadd, 1) := by decide +kernel
theorem dX11_calls_113 : decode cX11_calls 113 = .ok (.putfield 444, 3) := by decide +kernel
theorem dX11_calls_116 : decode cX11_calls 116 = .ok (.aload_n 3, 1) := by decide +kernel
theorem dX11_calls_117 : decode cX11_calls 117 = .ok (.iload 6, 2) := by decide +kernel
theorem dX11_calls_119 : decode cX11_calls 119 = .ok (.aaload, 1) := by decide +kernel
theorem dX11_calls_120 : decode cX11_calls 120 = .ok (.iload 5, 2) := by decide +kernel
theorem dX11_calls_122 : decode cX11_calls 122 = .ok (.iload 7, 2) := by decide +kernel
theorem dX11_calls_124 : decode cX11_calls 124 = .ok (.iconst 2, 1) := by decide +kernel
theorem dX11_calls_125 : decode cX11_calls 125 = .ok (.if_icmp .ne 10, 3) := by decide +kernel
theorem dX11_calls_128 : decode cX11_calls 128 = .ok (.aload_n 0, 1) := by decide +kernel
theorem dX11_calls_129 : decode cX11_calls 129 = .ok (.getfield 298, 3) := by decide +kernel
theorem dX11_calls_132 : decode cX11_calls 132 = .ok (.goto 4, 3) := by decide +kernel
theorem dX11_calls_135 : decode cX11_calls 135 = .ok (.iconst 0, 1) := by decide +kernel
theorem dX11_calls_136 : decode cX11_calls 136 = .ok (.iastore, 1) := by decide +kernel
theorem dX11_calls_137 : decode cX11_calls 137 = .ok (.aload 4, 2) := by decide +kernel
theorem dX11_calls_139 : decode cX11_calls 139 = .ok (.iload 6, 2) := by decide +kernel
theorem dX11_calls_141 : decode cX11_calls 141 = .ok (.aaload, 1) := by decide +kernel
theorem dX11_calls_142 : decode cX11_calls 142 = .ok (.iload 5, 2) := by decide +kernel
theorem dX11_calls_144 : decode cX11_calls 144 = .ok (.iload 7, 2) := by decide +kernel
theorem dX11_calls_146 : decode cX11_calls 146 = .ok (.iconst 2, 1) := by decide +kernel
theorem dX11_calls_147 : decode cX11_calls 147 = .ok (.if_icmp .ne 7, 3) := by decide +kernel
theorem dX11_calls_150 : decode cX11_calls 150 = .ok (.iconst 1, 1) := by decide +kernel
theorem dX11_calls_151 : decode cX11_calls 151 = .ok (.goto 4, 3) := by decide +kernel
theorem dX11_calls_154 : decode cX11_calls 154 = .ok (.iconst 0, 1) := by decide +kernel
theorem dX11_calls_155 : decode cX11_calls 155 = .ok (.bastore, 1) := by decide +kernel
theorem dX11_calls_156 : decode cX11_calls 156 = .ok (.iinc 6 1, 3) := by decide +kernel
theorem dX11_calls_159 : decode cX11_calls 159 = .ok (.goto (-131), 3) := by decide +kernel
theorem dX11_calls_162 : decode cX11_calls 162 = .ok (.iinc 5 1, 3) := by decide +kernel
theorem dX11_calls_165 : decode cX11_calls 165 = .ok (.goto (-162), 3) := by decide +kernel
theorem dX11_calls_168 : decode cX11_calls 168 = .ok (.return_, 1) := by decide +kernel
theorem dX11_hasMore_0 : decode cX11_hasMore 0 = .ok (.iconst 0, 1) := by decide +kernel
theorem dX11_hasMore_1 : decode cX11_hasMore 1 = .ok (.istore 4, 2) := by decide +kernel
theorem dX11_hasMore_3 : decode cX11_hasMore 3 = .ok (.iload 4, 2) := by decide +kernel
theorem dX11_hasMore_5 : decode cX11_hasMore 5 = .ok (.aload_n 0, 1) := by decide +kernel
theorem dX11_hasMore_6 : decode cX11_hasMore 6 = .ok (.getfield 20, 3) := by decide +kernel
theorem dX11_hasMore_9 : decode cX11_hasMore 9 = .ok (.if_icmp .ge 84, 3) := by decide +kernel
theorem dX11_hasMore_12 : decode cX11_hasMore 12 = .ok (.iconst 0, 1) := by decide +kernel
theorem dX11_hasMore_13 : decode cX11_hasMore 13 = .ok (.istore 5, 2) := by decide +kernel
theorem dX11_hasMore_15 : decode cX11_hasMore 15 = .ok (.iconst 0, 1) := by decide +kernel
theorem dX11_hasMore_16 : decode cX11_hasMore 16 = .ok (.istore 6, 2) := by decide +kernel
theorem dX11_hasMore_18 : decode cX11_hasMore 18 = .ok (.iload 6, 2) := by decide +kernel
theorem dX11_hasMore_20 : decode cX11_hasMore 20 = .ok (.aload_n 0, 1) := by decide +kernel
theorem dX11_hasMore_21 : decode cX11_hasMore 21 = .ok (.getfield 20, 3) := by decide +kernel
theorem dX11_hasMore_24 : decode cX11_hasMore 24 = .ok (.if_icmp .ge 44, 3) := by decide +kernel
theorem dX11_hasMore_27 : decode cX11_hasMore 27 = .ok (.iload 5, 2) := by decide +kernel
theorem dX11_hasMore_29 : decode cX11_hasMore 29 = .ok (.aload_n 2, 1) := by decide +kernel
theorem dX11_hasMore_30 : decode cX11_hasMore 30 = .ok (.iload 4, 2) := by decide +kernel
theorem dX11_hasMore_32 : decode cX11_hasMore 32 = .ok (.baload, 1) := by decide +kernel
theorem dX11_hasMore_33 : decode cX11_hasMore 33 = .ok (.ifCond .eq 25, 3) := by decide +kernel
theorem dX11_hasMore_36 : decode cX11_hasMore 36 = .ok (.aload_n 2, 1) := by decide +kernel
theorem dX11_hasMore_37 : decode cX11_hasMore 37 = .ok (.iload 6, 2) := by decide +kernel
theorem dX11_hasMore_39 : decode cX11_hasMore 39 = .ok (.baload, 1) := by decide +kernel
theorem dX11_hasMore_40 : decode cX11_hasMore 40 = .ok (.ifCond .eq 18, 3) := by decide +kernel
theorem dX11_hasMore_43 : decode cX11_hasMore 43 = .ok (.aload_n 1, 1) := by decide +kernel
theorem dX11_hasMore_44 : decode cX11_hasMore 44 = .ok (.iload 6, 2) := by decide +kernel
theorem dX11_hasMore_46 : decode cX11_hasMore 46 = .ok (.iaload, 1) := by decide +kernel
theorem dX11_hasMore_47 : decode cX11_hasMore 47 = .ok (.aload_n 1, 1) := by decide +kernel
theorem dX11_hasMore_48 : decode cX11_hasMore 48 = .ok (.iload 4, 2) := by decide +kernel
theorem dX11_hasMore_50 : decode cX11_hasMore 50 = .ok (.iaload, 1) := by decide +kernel
theorem dX11_hasMore_51 : decode cX11_hasMore 51 = .ok (.if_icmp .ne 7, 3) := by decide +kernel
theorem dX11_hasMore_54 : decode cX11_hasMore 54 = .ok (.iconst 1, 1) := by decide +kernel
theorem dX11_hasMore_55 : decode cX11_hasMore 55 = .ok (.goto 4, 3) := by decide +kernel
theorem dX11_hasMore_58 : decode cX11_hasMore 58 = .ok (.iconst 0, 1) := by decide +kernel
theorem dX11_hasMore_59 : decode cX11_hasMore 59 = .ok (.iadd, 1) := by decide +kernel
theorem dX11_hasMore_60 : decode cX11_hasMore 60 = .ok (.istore 5, 2) := by decide +kernel
theorem dX11_hasMore_62 : decode cX11_hasMore 62 = .ok (.iinc 6 1, 3) := by decide +kernel
theorem dX11_hasMore_65 : decode cX11_hasMore 65 = .ok (.goto (-47), 3) := by decide +kernel
theorem dX11_hasMore_68 : decode cX11_hasMore 68 = .ok (.iload 5, 2) := by decide +kernel
theorem dX11_hasMore_70 : decode cX11_hasMore 70 = .ok (.iload_n 3, 1) := by decide +kernel
theorem dX11_hasMore_71 : decode cX11_hasMore 71 = .ok (.if_icmp .gt 6, 3) := by decide +kernel
theorem dX11_hasMore_74 : decode cX11_hasMore 74 = .ok (.goto 13, 3) := by decide +kernel
theorem dX11_hasMore_77 : decode cX11_hasMore 77 = .ok (.aload_n 0, 1) := by decide +kernel
theorem dX11_hasMore_78 : decode cX11_hasMore 78 = .ok (.aload_n 1, 1) := by decide +kernel
theorem dX11_hasMore_79 : decode cX11_hasMore 79 = .ok (.iload 4, 2) := by decide +kernel
theorem dX11_hasMore_81 : decode cX11_hasMore 81 = .ok (.iaload, 1) := by decide +kernel
theorem dX11_hasMore_82 : decode cX11_hasMore 82 = .ok (.putfield 461, 3) := by decide +kernel
theorem dX11_hasMore_85 : decode cX11_hasMore 85 = .ok (.iconst 1, 1) := by decide +kernel
theorem dX11_hasMore_86 : decode cX11_hasMore 86 = .ok (.ireturn, 1) := by decide +kernel
theorem dX11_hasMore_87 : decode cX11_hasMore 87 = .ok (.iinc 4 1, 3) := by decide +kernel
theorem dX11_hasMore_90 : decode cX11_hasMore 90 = .ok (.goto (-87), 3) := by decide +kernel
theorem dX11_hasMore_93 : decode cX11_hasMore 93 = .ok (.iconst 0, 1) := by decide +kernel
theorem dX11_hasMore_94 : decode cX11_hasMore 94 = .ok (.ireturn, 1) := by decide +kernel
theorem dX11_goesRound_0 : decode cX11_goesRound 0 = .ok (.aload_n 0, 1) := by decide +kernel
theorem dX11_goesRound_1 : decode cX11_goesRound 1 = .ok (.iconst 0, 1) := by decide +kernel
theorem dX11_goesRound_2 : decode cX11_goesRound 2 = .ok (.putfield 441, 3) := by decide +kernel
theorem dX11_goesRound_5 : decode cX11_goesRound 5 = .ok (.aload_n 0, 1) := by decide +kernel
theorem dX11_goesRound_6 : decode cX11_goesRound 6 = .ok (.iconst 0, 1) := by decide +kernel
theorem dX11_goesRound_7 : decode cX11_goesRound 7 = .ok (.putfield 444, 3) := by decide +kernel
theorem dX11_goesRound_10 : decode cX11_goesRound 10 = .ok (.iconst 0, 1) := by decide +kernel
theorem dX11_goesRound_11 : decode cX11_goesRound 11 = .ok (.istore_n 2, 1) := by decide +kernel
theorem dX11_goesRound_12 : decode cX11_goesRound 12 = .ok (.iload_n 2, 1) := by decide +kernel
theorem dX11_goesRound_13 : decode cX11_goesRound 13 = .ok (.aload_n 0, 1) := by decide +kernel
theorem dX11_goesRound_14 : decode cX11_goesRound 14 = .ok (.getfield 20, 3) := by decide +kernel
theorem dX11_goesRound_17 : decode cX11_goesRound 17 = .ok (.if_icmp .ge 92, 3) := by decide +kernel
theorem dX11_goesRound_20 : decode cX11_goesRound 20 = .ok (.aload_n 0, 1) := by decide +kernel
theorem dX11_goesRound_21 : decode cX11_goesRound 21 = .ok (.getfield 125, 3) := by decide +kernel
theorem dX11_goesRound_24 : decode cX11_goesRound 24 = .ok (.iload_n 2, 1) := by decide +kernel
theorem dX11_goesRound_25 : decode cX11_goesRound 25 = .ok (.iload_n 2, 1) := by decide +kernel
theorem dX11_goesRound_26 : decode cX11_goesRound 26 = .ok (.iload_n 1, 1) := by decide +kernel
theorem dX11_goesRound_27 : decode cX11_goesRound 27 = .ok (.if_icmp .ne 7, 3) := by decide +kernel
theorem dX11_goesRound_30 : decode cX11_goesRound 30 = .ok (.iconst 1, 1) := by decide +kernel
theorem dX11_goesRound_31 : decode cX11_goesRound 31 = .ok (.goto 4, 3) := by decide +kernel
theorem dX11_goesRound_34 : decode cX11_goesRound 34 = .ok (.iconst 0, 1) := by decide +kernel
theorem dX11_goesRound_35 : decode cX11_goesRound 35 = .ok (.bastore, 1) := by decide +kernel
theorem dX11_goesRound_36 : decode cX11_goesRound 36 = .ok (.aload_n 0, 1) := by decide +kernel
theorem dX11_goesRound_37 : decode cX11_goesRound 37 = .ok (.getfield 116, 3) := by decide +kernel
theorem dX11_goesRound_40 : decode cX11_goesRound 40 = .ok (.iload_n 2, 1) := by decide +kernel
theorem dX11_goesRound_41 : decode cX11_goesRound 41 = .ok (.aload_n 0, 1) := by decide +kernel
theorem dX11_goesRound_42 : decode cX11_goesRound 42 = .ok (.getfield 26, 3) := by decide +kernel
theorem dX11_goesRound_45 : decode cX11_goesRound 45 = .ok (.iload_n 2, 1) := by decide +kernel
theorem dX11_goesRound_46 : decode cX11_goesRound 46 = .ok (.iaload, 1) := by decide +kernel
theorem dX11_goesRound_47 : decode cX11_goesRound 47 = .ok (.iastore, 1) := by decide +kernel
theorem dX11_goesRound_48 : decode cX11_goesRound 48 = .ok (.aload_n 0, 1) := by decide +kernel
theorem dX11_goesRound_49 : decode cX11_goesRound 49 = .ok (.getfield 113, 3) := by decide +kernel
theorem dX11_goesRound_52 : decode cX11_goesRound 52 = .ok (.iload_n 2, 1) := by decide +kernel
theorem dX11_goesRound_53 : decode cX11_goesRound 53 = .ok (.iconst 0, 1) := by decide +kernel
theorem dX11_goesRound_54 : decode cX11_goesRound 54 = .ok (.iastore, 1) := by decide +kernel
theorem dX11_goesRound_55 : decode cX11_goesRound 55 = .ok (.aload_n 0, 1) := by decide +kernel
theorem dX11_goesRound_56 : decode cX11_goesRound 56 = .ok (.getfield 119, 3) := by decide +kernel
theorem dX11_goesRound_59 : decode cX11_goesRound 59 = .ok (.iload_n 2, 1) := by decide +kernel
theorem dX11_goesRound_60 : decode cX11_goesRound 60 = .ok (.iconst 0, 1) := by decide +kernel
theorem dX11_goesRound_61 : decode cX11_goesRound 61 = .ok (.iastore, 1) := by decide +kernel
theorem dX11_goesRound_62 : decode cX11_goesRound 62 = .ok (.aload_n 0, 1) := by decide +kernel
theorem dX11_goesRound_63 : decode cX11_goesRound 63 = .ok (.getfield 122, 3) := by decide +kernel
theorem dX11_goesRound_66 : decode cX11_goesRound 66 = .ok (.iload_n 2, 1) := by decide +kernel
theorem dX11_goesRound_67 : decode cX11_goesRound 67 = .ok (.iconst 0, 1) := by decide +kernel
theorem dX11_goesRound_68 : decode cX11_goesRound 68 = .ok (.iastore, 1) := by decide +kernel
theorem dX11_goesRound_69 : decode cX11_goesRound 69 = .ok (.iconst 0, 1) := by decide +kernel
theorem dX11_goesRound_70 : decode cX11_goesRound 70 = .ok (.istore_n 3, 1) := by decide +kernel
theorem dX11_goesRound_71 : decode cX11_goesRound 71 = .ok (.iload_n 3, 1) := by decide +kernel
theorem dX11_goesRound_72 : decode cX11_goesRound 72 = .ok (.aload_n 0, 1) := by decide +kernel
theorem dX11_goesRound_73 : decode cX11_goesRound 73 = .ok (.getfield 20, 3) := by decide +kernel
theorem dX11_goesRound_76 : decode cX11_goesRound 76 = .ok (.if_icmp .ge 27, 3) := by decide +kernel
theorem dX11_goesRound_79 : decode cX11_goesRound 79 = .ok (.aload_n 0, 1) := by decide +kernel
theorem dX11_goesRound_80 : decode cX11_goesRound 80 = .ok (.getfield 107, 3) := by decide +kernel
theorem dX11_goesRound_83 : decode cX11_goesRound 83 = .ok (.iload_n 2, 1) := by decide +kernel
theorem dX11_goesRound_84 : decode cX11_goesRound 84 = .ok (.aaload, 1) := by decide +kernel
theorem dX11_goesRound_85 : decode cX11_goesRound 85 = .ok (.iload_n 3, 1) := by decide +kernel
theorem dX11_goesRound_86 : decode cX11_goesRound 86 = .ok (.iconst 0, 1) := by decide +kernel
theorem dX11_goesRound_87 : decode cX11_goesRound 87 = .ok (.bastore, 1) := by decide +kernel
theorem dX11_goesRound_88 : decode cX11_goesRound 88 = .ok (.aload_n 0, 1) := by decide +kernel
theorem dX11_goesRound_89 : decode cX11_goesRound 89 = .ok (.getfield 110, 3) := by decide +kernel
theorem dX11_goesRound_92 : decode cX11_goesRound 92 = .ok (.iload_n 2, 1) := by decide +kernel
theorem dX11_goesRound_93 : decode cX11_goesRound 93 = .ok (.aaload, 1) := by decide +kernel
theorem dX11_goesRound_94 : decode cX11_goesRound 94 = .ok (.iload_n 3, 1) := by decide +kernel
theorem dX11_goesRound_95 : decode cX11_goesRound 95 = .ok (.iconst 0, 1) := by decide +kernel
theorem dX11_goesRound_96 : decode cX11_goesRound 96 = .ok (.bastore, 1) := by decide +kernel
theorem dX11_goesRound_97 : decode cX11_goesRound 97 = .ok (.iinc 3 1, 3) := by decide +kernel
theorem dX11_goesRound_100 : decode cX11_goesRound 100 = .ok (.goto (-29), 3) := by decide +kernel
theorem dX11_goesRound_103 : decode cX11_goesRound 103 = .ok (.iinc 2 1, 3) := by decide +kernel
theorem dX11_goesRound_106 : decode cX11_goesRound 106 = .ok (.goto (-94), 3) := by decide +kernel
theorem dX11_goesRound_109 : decode cX11_goesRound 109 = .ok (.aload_n 0, 1) := by decide +kernel
theorem dX11_goesRound_110 : decode cX11_goesRound 110 = .ok (.iconst 1, 1) := by decide +kernel
theorem dX11_goesRound_111 : decode cX11_goesRound 111 = .ok (.iload_n 1, 1) := by decide +kernel
theorem dX11_goesRound_112 : decode cX11_goesRound 112 = .ok (.aload_n 0, 1) := by decide +kernel
theorem dX11_goesRound_113 : decode cX11_goesRound 113 = .ok (.getfield 101, 3) := by decide +kernel
theorem dX11_goesRound_116 : decode cX11_goesRound 116 = .ok (.aload_n 0, 1) := by decide +kernel
theorem dX11_goesRound_117 : decode cX11_goesRound 117 = .ok (.getfield 107, 3) := by decide +kernel
theorem dX11_goesRound_120 : decode cX11_goesRound 120 = .ok (.invokevirtual 464, 3) := by decide +kernel
theorem dX11_goesRound_123 : decode cX11_goesRound 123 = .ok (.iconst 0, 1) := by decide +kernel
theorem dX11_goesRound_124 : decode cX11_goesRound 124 = .ok (.istore_n 2, 1) := by decide +kernel
theorem dX11_goesRound_125 : decode cX11_goesRound 125 = .ok (.iload_n 2, 1) := by decide +kernel
theorem dX11_goesRound_126 : decode cX11_goesRound 126 = .ok (.aload_n 0, 1) := by decide +kernel
theorem dX11_goesRound_127 : decode cX11_goesRound 127 = .ok (.getfield 20, 3) := by decide +kernel
theorem dX11_goesRound_130 : decode cX11_goesRound 130 = .ok (.if_icmp .ge 46, 3) := by decide +kernel
theorem dX11_goesRound_133 : decode cX11_goesRound 133 = .ok (.aload_n 0, 1) := by decide +kernel
theorem dX11_goesRound_134 : decode cX11_goesRound 134 = .ok (.getfield 125, 3) := by decide +kernel
theorem dX11_goesRound_137 : decode cX11_goesRound 137 = .ok (.iload_n 2, 1) := by decide +kernel
theorem dX11_goesRound_138 : decode cX11_goesRound 138 = .ok (.aload_n 0, 1) := by decide +kernel
theorem dX11_goesRound_139 : decode cX11_goesRound 139 = .ok (.getfield 107, 3) := by decide +kernel
theorem dX11_goesRound_142 : decode cX11_goesRound 142 = .ok (.iload_n 2, 1) := by decide +kernel
theorem dX11_goesRound_143 : decode cX11_goesRound 143 = .ok (.aaload, 1) := by decide +kernel
theorem dX11_goesRound_144 : decode cX11_goesRound 144 = .ok (.iload_n 1, 1) := by decide +kernel
theorem dX11_goesRound_145 : decode cX11_goesRound 145 = .ok (.baload, 1) := by decide +kernel
theorem dX11_goesRound_146 : decode cX11_goesRound 146 = .ok (.bastore, 1) := by decide +kernel
theorem dX11_goesRound_147 : decode cX11_goesRound 147 = .ok (.aload_n 0, 1) := by decide +kernel
theorem dX11_goesRound_148 : decode cX11_goesRound 148 = .ok (.getfield 116, 3) := by decide +kernel
theorem dX11_goesRound_151 : decode cX11_goesRound 151 = .ok (.iload_n 2, 1) := by decide +kernel
theorem dX11_goesRound_152 : decode cX11_goesRound 152 = .ok (.aload_n 0, 1) := by decide +kernel
theorem dX11_goesRound_153 : decode cX11_goesRound 153 = .ok (.getfield 101, 3) := by decide +kernel
theorem dX11_goesRound_156 : decode cX11_goesRound 156 = .ok (.iload_n 2, 1) := by decide +kernel
theorem dX11_goesRound_157 : decode cX11_goesRound 157 = .ok (.aaload, 1) := by decide +kernel
theorem dX11_goesRound_158 : decode cX11_goesRound 158 = .ok (.iload_n 1, 1) := by decide +kernel
theorem dX11_goesRound_159 : decode cX11_goesRound 159 = .ok (.iaload, 1) := by decide +kernel
theorem dX11_goesRound_160 : decode cX11_goesRound 160 = .ok (.iastore, 1) := by decide +kernel
theorem dX11_goesRound_161 : decode cX11_goesRound 161 = .ok (.aload_n 0, 1) := by decide +kernel
theorem dX11_goesRound_162 : decode cX11_goesRound 162 = .ok (.getfield 107, 3) := by decide +kernel
theorem dX11_goesRound_165 : decode cX11_goesRound 165 = .ok (.iload_n 2, 1) := by decide +kernel
theorem dX11_goesRound_166 : decode cX11_goesRound 166 = .ok (.aaload, 1) := by decide +kernel
theorem dX11_goesRound_167 : decode cX11_goesRound 167 = .ok (.iload_n 1, 1) := by decide +kernel
theorem dX11_goesRound_168 : decode cX11_goesRound 168 = .ok (.iconst 0, 1) := by decide +kernel
theorem dX11_goesRound_169 : decode cX11_goesRound 169 = .ok (.bastore, 1) := by decide +kernel
theorem dX11_goesRound_170 : decode cX11_goesRound 170 = .ok (.iinc 2 1, 3) := by decide +kernel
theorem dX11_goesRound_173 : decode cX11_goesRound 173 = .ok (.goto (-48), 3) := by decide +kernel
theorem dX11_goesRound_176 : decode cX11_goesRound 176 = .ok (.aload_n 0, 1) := by decide +kernel
theorem dX11_goesRound_177 : decode cX11_goesRound 177 = .ok (.iconst 2, 1) := by decide +kernel
theorem dX11_goesRound_178 : decode cX11_goesRound 178 = .ok (.iload_n 1, 1) := by decide +kernel
theorem dX11_goesRound_179 : decode cX11_goesRound 179 = .ok (.aload_n 0, 1) := by decide +kernel
theorem dX11_goesRound_180 : decode cX11_goesRound 180 = .ok (.getfield 101, 3) := by decide +kernel
theorem dX11_goesRound_183 : decode cX11_goesRound 183 = .ok (.aload_n 0, 1) := by decide +kernel
theorem dX11_goesRound_184 : decode cX11_goesRound 184 = .ok (.getfield 107, 3) := by decide +kernel
theorem dX11_goesRound_187 : decode cX11_goesRound 187 = .ok (.invokevirtual 464, 3) := by decide +kernel
theorem dX11_goesRound_190 : decode cX11_goesRound 190 = .ok (.iconst 3, 1) := by decide +kernel
theorem dX11_goesRound_191 : decode cX11_goesRound 191 = .ok (.istore_n 2, 1) := by decide +kernel
theorem dX11_goesRound_192 : decode cX11_goesRound 192 = .ok (.iload_n 2, 1) := by decide +kernel
theorem dX11_goesRound_193 : decode cX11_goesRound 193 = .ok (.bipush 6, 2) := by decide +kernel
theorem dX11_goesRound_195 : decode cX11_goesRound 195 = .ok (.if_icmp .gt 211, 3) := by decide +kernel
theorem dX11_goesRound_198 : decode cX11_goesRound 198 = .ok (.iconst 0, 1) := by decide +kernel
theorem dX11_goesRound_199 : decode cX11_goesRound 199 = .ok (.istore_n 3, 1) := by decide +kernel
theorem dX11_goesRound_200 : decode cX11_goesRound 200 = .ok (.iload_n 3, 1) := by decide +kernel
theorem dX11_goesRound_201 : decode cX11_goesRound 201 = .ok (.aload_n 0, 1) := by decide +kernel
theorem dX11_goesRound_202 : decode cX11_goesRound 202 = .ok (.getfield 20, 3) := by decide +kernel
theorem dX11_goesRound_205 : decode cX11_goesRound 205 = .ok (.if_icmp .ge 111, 3) := by decide +kernel
theorem dX11_goesRound_208 : decode cX11_goesRound 208 = .ok (.aload_n 0, 1) := by decide +kernel
theorem dX11_goesRound_209 : decode cX11_goesRound 209 = .ok (.getfield 125, 3) := by decide +kernel
theorem dX11_goesRound_212 : decode cX11_goesRound 212 = .ok (.iload_n 3, 1) := by decide +kernel
theorem dX11_goesRound_213 : decode cX11_goesRound 213 = .ok (.aload_n 0, 1) := by decide +kernel
theorem dX11_goesRound_214 : decode cX11_goesRound 214 = .ok (.getfield 113, 3) := by decide +kernel
theorem dX11_goesRound_217 : decode cX11_goesRound 217 = .ok (.iload_n 3, 1) := by decide +kernel
theorem dX11_goesRound_218 : decode cX11_goesRound 218 = .ok (.iaload, 1) := by decide +kernel
theorem dX11_goesRound_219 : decode cX11_goesRound 219 = .ok (.ifCond .ne 60, 3) := by decide +kernel
theorem dX11_goesRound_222 : decode cX11_goesRound 222 = .ok (.aload_n 0, 1) := by decide +kernel
theorem dX11_goesRound_223 : decode cX11_goesRound 223 = .ok (.aload_n 0, 1) := by decide +kernel
theorem dX11_goesRound_224 : decode cX11_goesRound 224 = .ok (.getfield 101, 3) := by decide +kernel
theorem dX11_goesRound_227 : decode cX11_goesRound 227 = .ok (.iload_n 3, 1) := by decide +kernel
theorem dX11_goesRound_228 : decode cX11_goesRound 228 = .ok (.aaload, 1) := by decide +kernel
theorem dX11_goesRound_229 : decode cX11_goesRound 229 = .ok (.aload_n 0, 1) := by decide +kernel
theorem dX11_goesRound_230 : decode cX11_goesRound 230 = .ok (.getfield 107, 3) := by decide +kernel
theorem dX11_goesRound_233 : decode cX11_goesRound 233 = .ok (.iload_n 3, 1) := by decide +kernel
theorem dX11_goesRound_234 : decode cX11_goesRound 234 = .ok (.aaload, 1) := by decide +kernel
theorem dX11_goesRound_235 : decode cX11_goesRound 235 = .ok (.aload_n 0, 1) := by decide +kernel
theorem dX11_goesRound_236 : decode cX11_goesRound 236 = .ok (.getfield 20, 3) := by decide +kernel
theorem dX11_goesRound_239 : decode cX11_goesRound 239 = .ok (.aload_n 0, 1) := by decide +kernel
theorem dX11_goesRound_240 : decode cX11_goesRound 240 = .ok (.getfield 23, 3) := by decide +kernel
theorem dX11_goesRound_243 : decode cX11_goesRound 243 = .ok (.iadd, 1) := by decide +kernel
theorem dX11_goesRound_244 : decode cX11_goesRound 244 = .ok (.iconst 2, 1) := by decide +kernel
theorem dX11_goesRound_245 : decode cX11_goesRound 245 = .ok (.idiv, 1) := by decide +kernel
theorem dX11_goesRound_246 : decode cX11_goesRound 246 = .ok (.invokevirtual 468, 3) := by decide +kernel
theorem dX11_goesRound_249 : decode cX11_goesRound 249 = .ok (.ifCond .ne 26, 3) := by decide +kernel
theorem dX11_goesRound_252 : decode cX11_goesRound 252 = .ok (.aload_n 0, 1) := by decide +kernel
theorem dX11_goesRound_253 : decode cX11_goesRound 253 = .ok (.aload_n 0, 1) := by decide +kernel
theorem dX11_goesRound_254 : decode cX11_goesRound 254 = .ok (.getfield 104, 3) := by decide +kernel
theorem dX11_goesRound_257 : decode cX11_goesRound 257 = .ok (.iload_n 3, 1) := by decide +kernel
theorem dX11_goesRound_258 : decode cX11_goesRound 258 = .ok (.aaload, 1) := by decide +kernel
theorem dX11_goesRound_259 : decode cX11_goesRound 259 = .ok (.aload_n 0, 1) := by decide +kernel
theorem dX11_goesRound_260 : decode cX11_goesRound 260 = .ok (.getfield 110, 3) := by decide +kernel
theorem dX11_goesRound_263 : decode cX11_goesRound 263 = .ok (.iload_n 3, 1) := by decide +kernel
theorem dX11_goesRound_264 : decode cX11_goesRound 264 = .ok (.aaload, 1) := by decide +kernel
theorem dX11_goesRound_265 : decode cX11_goesRound 265 = .ok (.aload_n 0, 1) := by decide +kernel
theorem dX11_goesRound_266 : decode cX11_goesRound 266 = .ok (.getfield 23, 3) := by decide +kernel
theorem dX11_goesRound_269 : decode cX11_goesRound 269 = .ok (.invokevirtual 468, 3) := by decide +kernel
theorem dX11_goesRound_272 : decode cX11_goesRound 272 = .ok (.ifCond .eq 7, 3) := by decide +kernel
theorem dX11_goesRound_275 : decode cX11_goesRound 275 = .ok (.iconst 1, 1) := by decide +kernel
theorem dX11_goesRound_276 : decode cX11_goesRound 276 = .ok (.goto 4, 3) := by decide +kernel
theorem dX11_goesRound_279 : decode cX11_goesRound 279 = .ok (.iconst 0, 1) := by decide +kernel
theorem dX11_goesRound_280 : decode cX11_goesRound 280 = .ok (.bastore, 1) := by decide +kernel
theorem dX11_goesRound_281 : decode cX11_goesRound 281 = .ok (.aload_n 0, 1) := by decide +kernel
theorem dX11_goesRound_282 : decode cX11_goesRound 282 = .ok (.getfield 125, 3) := by decide +kernel
theorem dX11_goesRound_285 : decode cX11_goesRound 285 = .ok (.iload_n 3, 1) := by decide +kernel
theorem dX11_goesRound_286 : decode cX11_goesRound 286 = .ok (.baload, 1) := by decide +kernel
theorem dX11_goesRound_287 : decode cX11_goesRound 287 = .ok (.ifCond .ne 6, 3) := by decide +kernel
theorem dX11_goesRound_290 : decode cX11_goesRound 290 = .ok (.goto 20, 3) := by decide +kernel
theorem dX11_goesRound_293 : decode cX11_goesRound 293 = .ok (.aload_n 0, 1) := by decide +kernel
theorem dX11_goesRound_294 : decode cX11_goesRound 294 = .ok (.getfield 116, 3) := by decide +kernel
theorem dX11_goesRound_297 : decode cX11_goesRound 297 = .ok (.iload_n 3, 1) := by decide +kernel
theorem dX11_goesRound_298 : decode cX11_goesRound 298 = .ok (.aload_n 0, 1) := by decide +kernel
theorem dX11_goesRound_299 : decode cX11_goesRound 299 = .ok (.getfield 461, 3) := by decide +kernel
theorem dX11_goesRound_302 : decode cX11_goesRound 302 = .ok (.iastore, 1) := by decide +kernel
theorem dX11_goesRound_303 : decode cX11_goesRound 303 = .ok (.aload_n 0, 1) := by decide +kernel
theorem dX11_goesRound_304 : decode cX11_goesRound 304 = .ok (.getfield 113, 3) := by decide +kernel
theorem dX11_goesRound_307 : decode cX11_goesRound 307 = .ok (.iload_n 3, 1) := by decide +kernel
theorem dX11_goesRound_308 : decode cX11_goesRound 308 = .ok (.iload_n 2, 1) := by decide +kernel
theorem dX11_goesRound_309 : decode cX11_goesRound 309 = .ok (.iastore, 1) := by decide +kernel
theorem dX11_goesRound_310 : decode cX11_goesRound 310 = .ok (.iinc 3 1, 3) := by decide +kernel
theorem dX11_goesRound_313 : decode cX11_goesRound 313 = .ok (.goto (-113), 3) := by decide +kernel
theorem dX11_goesRound_316 : decode cX11_goesRound 316 = .ok (.aload_n 0, 1) := by decide +kernel
theorem dX11_goesRound_317 : decode cX11_goesRound 317 = .ok (.iconst 3, 1) := by decide +kernel
theorem dX11_goesRound_318 : decode cX11_goesRound 318 = .ok (.iload_n 1, 1) := by decide +kernel
theorem dX11_goesRound_319 : decode cX11_goesRound 319 = .ok (.aload_n 0, 1) := by decide +kernel
theorem dX11_goesRound_320 : decode cX11_goesRound 320 = .ok (.getfield 104, 3) := by decide +kernel
theorem dX11_goesRound_323 : decode cX11_goesRound 323 = .ok (.aload_n 0, 1) := by decide +kernel
theorem dX11_goesRound_324 : decode cX11_goesRound 324 = .ok (.getfield 110, 3) := by decide +kernel
theorem dX11_goesRound_327 : decode cX11_goesRound 327 = .ok (.invokevirtual 464, 3) := by decide +kernel
theorem dX11_goesRound_330 : decode cX11_goesRound 330 = .ok (.iconst 0, 1) := by decide +kernel
theorem dX11_goesRound_331 : decode cX11_goesRound 331 = .ok (.istore_n 3, 1) := by decide +kernel
theorem dX11_goesRound_332 : decode cX11_goesRound 332 = .ok (.iload_n 3, 1) := by decide +kernel
theorem dX11_goesRound_333 : decode cX11_goesRound 333 = .ok (.aload_n 0, 1) := by decide +kernel
theorem dX11_goesRound_334 : decode cX11_goesRound 334 = .ok (.getfield 20, 3) := by decide +kernel
theorem dX11_goesRound_337 : decode cX11_goesRound 337 = .ok (.if_icmp .ge 63, 3) := by decide +kernel
theorem dX11_goesRound_340 : decode cX11_goesRound 340 = .ok (.aload_n 0, 1) := by decide +kernel
theorem dX11_goesRound_341 : decode cX11_goesRound 341 = .ok (.getfield 122, 3) := by decide +kernel
theorem dX11_goesRound_344 : decode cX11_goesRound 344 = .ok (.iload_n 3, 1) := by decide +kernel
theorem dX11_goesRound_345 : decode cX11_goesRound 345 = .ok (.iaload, 1) := by decide +kernel
theorem dX11_goesRound_346 : decode cX11_goesRound 346 = .ok (.ifCond .gt 48, 3) := by decide +kernel
theorem dX11_goesRound_349 : decode cX11_goesRound 349 = .ok (.aload_n 0, 1) := by decide +kernel
theorem dX11_goesRound_350 : decode cX11_goesRound 350 = .ok (.aload_n 0, 1) := by decide +kernel
theorem dX11_goesRound_351 : decode cX11_goesRound 351 = .ok (.getfield 104, 3) := by decide +kernel
theorem dX11_goesRound_354 : decode cX11_goesRound 354 = .ok (.iload_n 3, 1) := by decide +kernel
theorem dX11_goesRound_355 : decode cX11_goesRound 355 = .ok (.aaload, 1) := by decide +kernel
theorem dX11_goesRound_356 : decode cX11_goesRound 356 = .ok (.aload_n 0, 1) := by decide +kernel
theorem dX11_goesRound_357 : decode cX11_goesRound 357 = .ok (.getfield 110, 3) := by decide +kernel
theorem dX11_goesRound_360 : decode cX11_goesRound 360 = .ok (.iload_n 3, 1) := by decide +kernel
theorem dX11_goesRound_361 : decode cX11_goesRound 361 = .ok (.aaload, 1) := by decide +kernel
theorem dX11_goesRound_362 : decode cX11_goesRound 362 = .ok (.iconst 2, 1) := by decide +kernel
theorem dX11_goesRound_363 : decode cX11_goesRound 363 = .ok (.aload_n 0, 1) := by decide +kernel
theorem dX11_goesRound_364 : decode cX11_goesRound 364 = .ok (.getfield 23, 3) := by decide +kernel
theorem dX11_goesRound_367 : decode cX11_goesRound 367 = .ok (.imul, 1) := by decide +kernel
theorem dX11_goesRound_368 : decode cX11_goesRound 368 = .ok (.invokevirtual 468, 3) := by decide +kernel
theorem dX11_goesRound_371 : decode cX11_goesRound 371 = .ok (.ifCond .ne 6, 3) := by decide +kernel
theorem dX11_goesRound_374 : decode cX11_goesRound 374 = .ok (.goto 20, 3) := by decide +kernel
theorem dX11_goesRound_377 : decode cX11_goesRound 377 = .ok (.aload_n 0, 1) := by decide +kernel
theorem dX11_goesRound_378 : decode cX11_goesRound 378 = .ok (.getfield 119, 3) := by decide +kernel
theorem dX11_goesRound_381 : decode cX11_goesRound 381 = .ok (.iload_n 3, 1) := by decide +kernel
theorem dX11_goesRound_382 : decode cX11_goesRound 382 = .ok (.aload_n 0, 1) := by decide +kernel
theorem dX11_goesRound_383 : decode cX11_goesRound 383 = .ok (.getfield 461, 3) := by decide +kernel
theorem dX11_goesRound_386 : decode cX11_goesRound 386 = .ok (.iastore, 1) := by decide +kernel
theorem dX11_goesRound_387 : decode cX11_goesRound 387 = .ok (.aload_n 0, 1) := by decide +kernel
theorem dX11_goesRound_388 : decode cX11_goesRound 388 = .ok (.getfield 122, 3) := by decide +kernel
theorem dX11_goesRound_391 : decode cX11_goesRound 391 = .ok (.iload_n 3, 1) := by decide +kernel
theorem dX11_goesRound_392 : decode cX11_goesRound 392 = .ok (.iload_n 2, 1) := by decide +kernel
theorem dX11_goesRound_393 : decode cX11_goesRound 393 = .ok (.iastore, 1) := by decide +kernel
theorem dX11_goesRound_394 : decode cX11_goesRound 394 = .ok (.iinc 3 1, 3) := by decide +kernel
theorem dX11_goesRound_397 : decode cX11_goesRound 397 = .ok (.goto (-65), 3) := by decide +kernel
theorem dX11_goesRound_400 : decode cX11_goesRound 400 = .ok (.iinc 2 1, 3) := by decide +kernel
theorem dX11_goesRound_403 : decode cX11_goesRound 403 = .ok (.goto (-211), 3) := by decide +kernel
theorem dX11_goesRound_406 : decode cX11_goesRound 406 = .ok (.return_, 1) := by decide +kernel
theorem dX11_acceptedOf_0 : decode cX11_acceptedOf 0 = .ok (.iconst 0, 1) := by decide +kernel
theorem dX11_acceptedOf_1 : decode cX11_acceptedOf 1 = .ok (.istore_n 2, 1) := by decide +kernel
theorem dX11_acceptedOf_2 : decode cX11_acceptedOf 2 = .ok (.iconst 0, 1) := by decide +kernel
theorem dX11_acceptedOf_3 : decode cX11_acceptedOf 3 = .ok (.istore_n 3, 1) := by decide +kernel
theorem dX11_acceptedOf_4 : decode cX11_acceptedOf 4 = .ok (.iconst 0, 1) := by decide +kernel
theorem dX11_acceptedOf_5 : decode cX11_acceptedOf 5 = .ok (.istore 4, 2) := by decide +kernel
theorem dX11_acceptedOf_7 : decode cX11_acceptedOf 7 = .ok (.iconst 0, 1) := by decide +kernel
theorem dX11_acceptedOf_8 : decode cX11_acceptedOf 8 = .ok (.istore 5, 2) := by decide +kernel
theorem dX11_acceptedOf_10 : decode cX11_acceptedOf 10 = .ok (.iload 5, 2) := by decide +kernel
theorem dX11_acceptedOf_12 : decode cX11_acceptedOf 12 = .ok (.aload_n 0, 1) := by decide +kernel
theorem dX11_acceptedOf_13 : decode cX11_acceptedOf 13 = .ok (.getfield 20, 3) := by decide +kernel
theorem dX11_acceptedOf_16 : decode cX11_acceptedOf 16 = .ok (.if_icmp .ge 138, 3) := by decide +kernel
theorem dX11_acceptedOf_19 : decode cX11_acceptedOf 19 = .ok (.aload_n 0, 1) := by decide +kernel
theorem dX11_acceptedOf_20 : decode cX11_acceptedOf 20 = .ok (.iload 5, 2) := by decide +kernel
theorem dX11_acceptedOf_22 : decode cX11_acceptedOf 22 = .ok (.invokevirtual 295, 3) := by decide +kernel
theorem dX11_acceptedOf_25 : decode cX11_acceptedOf 25 = .ok (.ifCond .ne 123, 3) := by decide +kernel
theorem dX11_acceptedOf_28 : decode cX11_acceptedOf 28 = .ok (.aload_n 0, 1) := by decide +kernel
theorem dX11_acceptedOf_29 : decode cX11_acceptedOf 29 = .ok (.getfield 122, 3) := by decide +kernel
theorem dX11_acceptedOf_32 : decode cX11_acceptedOf 32 = .ok (.iload 5, 2) := by decide +kernel
theorem dX11_acceptedOf_34 : decode cX11_acceptedOf 34 = .ok (.iaload, 1) := by decide +kernel
theorem dX11_acceptedOf_35 : decode cX11_acceptedOf 35 = .ok (.ifCond .ne 6, 3) := by decide +kernel
theorem dX11_acceptedOf_38 : decode cX11_acceptedOf 38 = .ok (.goto 110, 3) := by decide +kernel
theorem dX11_acceptedOf_41 : decode cX11_acceptedOf 41 = .ok (.iconst 1, 1) := by decide +kernel
theorem dX11_acceptedOf_42 : decode cX11_acceptedOf 42 = .ok (.istore 6, 2) := by decide +kernel
theorem dX11_acceptedOf_44 : decode cX11_acceptedOf 44 = .ok (.iconst 0, 1) := by decide +kernel
theorem dX11_acceptedOf_45 : decode cX11_acceptedOf 45 = .ok (.istore 7, 2) := by decide +kernel
theorem dX11_acceptedOf_47 : decode cX11_acceptedOf 47 = .ok (.iload 7, 2) := by decide +kernel
theorem dX11_acceptedOf_49 : decode cX11_acceptedOf 49 = .ok (.iload 5, 2) := by decide +kernel
theorem dX11_acceptedOf_51 : decode cX11_acceptedOf 51 = .ok (.if_icmp .ge 55, 3) := by decide +kernel
theorem dX11_acceptedOf_54 : decode cX11_acceptedOf 54 = .ok (.iload 6, 2) := by decide +kernel
theorem dX11_acceptedOf_56 : decode cX11_acceptedOf 56 = .ok (.aload_n 0, 1) := by decide +kernel
theorem dX11_acceptedOf_57 : decode cX11_acceptedOf 57 = .ok (.iload 7, 2) := by decide +kernel
theorem dX11_acceptedOf_59 : decode cX11_acceptedOf 59 = .ok (.invokevirtual 295, 3) := by decide +kernel
theorem dX11_acceptedOf_62 : decode cX11_acceptedOf 62 = .ok (.ifCond .ne 30, 3) := by decide +kernel
theorem dX11_acceptedOf_65 : decode cX11_acceptedOf 65 = .ok (.aload_n 0, 1) := by decide +kernel
theorem dX11_acceptedOf_66 : decode cX11_acceptedOf 66 = .ok (.getfield 122, 3) := by decide +kernel
theorem dX11_acceptedOf_69 : decode cX11_acceptedOf 69 = .ok (.iload 7, 2) := by decide +kernel
theorem dX11_acceptedOf_71 : decode cX11_acceptedOf 71 = .ok (.iaload, 1) := by decide +kernel
theorem dX11_acceptedOf_72 : decode cX11_acceptedOf 72 = .ok (.ifCond .eq 20, 3) := by decide +kernel
theorem dX11_acceptedOf_75 : decode cX11_acceptedOf 75 = .ok (.aload_n 0, 1) := by decide +kernel
theorem dX11_acceptedOf_76 : decode cX11_acceptedOf 76 = .ok (.getfield 119, 3) := by decide +kernel
theorem dX11_acceptedOf_79 : decode cX11_acceptedOf 79 = .ok (.iload 7, 2) := by decide +kernel
theorem dX11_acceptedOf_81 : decode cX11_acceptedOf 81 = .ok (.iaload, 1) := by decide +kernel
theorem dX11_acceptedOf_82 : decode cX11_acceptedOf 82 = .ok (.aload_n 0, 1) := by decide +kernel
theorem dX11_acceptedOf_83 : decode cX11_acceptedOf 83 = .ok (.getfield 119, 3) := by decide +kernel
theorem dX11_acceptedOf_86 : decode cX11_acceptedOf 86 = .ok (.iload 5, 2) := by decide +kernel
theorem dX11_acceptedOf_88 : decode cX11_acceptedOf 88 = .ok (.iaload, 1) := by decide +kernel
theorem dX11_acceptedOf_89 : decode cX11_acceptedOf 89 = .ok (.if_icmp .eq 7, 3) := by decide +kernel
theorem dX11_acceptedOf_92 : decode cX11_acceptedOf 92 = .ok (.iconst 1, 1) := by decide +kernel
theorem dX11_acceptedOf_93 : decode cX11_acceptedOf 93 = .ok (.goto 4, 3) := by decide +kernel
theorem dX11_acceptedOf_96 : decode cX11_acceptedOf 96 = .ok (.iconst 0, 1) := by decide +kernel
theorem dX11_acceptedOf_97 : decode cX11_acceptedOf 97 = .ok (.iand, 1) := by decide +kernel
theorem dX11_acceptedOf_98 : decode cX11_acceptedOf 98 = .ok (.istore 6, 2) := by decide +kernel
theorem dX11_acceptedOf_100 : decode cX11_acceptedOf 100 = .ok (.iinc 7 1, 3) := by decide +kernel
theorem dX11_acceptedOf_103 : decode cX11_acceptedOf 103 = .ok (.goto (-56), 3) := by decide +kernel
theorem dX11_acceptedOf_106 : decode cX11_acceptedOf 106 = .ok (.iload_n 2, 1) := by decide +kernel
theorem dX11_acceptedOf_107 : decode cX11_acceptedOf 107 = .ok (.iload 6, 2) := by decide +kernel
theorem dX11_acceptedOf_109 : decode cX11_acceptedOf 109 = .ok (.ifCond .eq 7, 3) := by decide +kernel
theorem dX11_acceptedOf_112 : decode cX11_acceptedOf 112 = .ok (.iconst 1, 1) := by decide +kernel
theorem dX11_acceptedOf_113 : decode cX11_acceptedOf 113 = .ok (.goto 4, 3) := by decide +kernel
theorem dX11_acceptedOf_116 : decode cX11_acceptedOf 116 = .ok (.iconst 0, 1) := by decide +kernel
theorem dX11_acceptedOf_117 : decode cX11_acceptedOf 117 = .ok (.iadd, 1) := by decide +kernel
theorem dX11_acceptedOf_118 : decode cX11_acceptedOf 118 = .ok (.istore_n 2, 1) := by decide +kernel
theorem dX11_acceptedOf_119 : decode cX11_acceptedOf 119 = .ok (.iinc 3 1, 3) := by decide +kernel
theorem dX11_acceptedOf_122 : decode cX11_acceptedOf 122 = .ok (.aload_n 0, 1) := by decide +kernel
theorem dX11_acceptedOf_123 : decode cX11_acceptedOf 123 = .ok (.getfield 122, 3) := by decide +kernel
theorem dX11_acceptedOf_126 : decode cX11_acceptedOf 126 = .ok (.iload 5, 2) := by decide +kernel
theorem dX11_acceptedOf_128 : decode cX11_acceptedOf 128 = .ok (.iaload, 1) := by decide +kernel
theorem dX11_acceptedOf_129 : decode cX11_acceptedOf 129 = .ok (.iload 4, 2) := by decide +kernel
theorem dX11_acceptedOf_131 : decode cX11_acceptedOf 131 = .ok (.if_icmp .le 13, 3) := by decide +kernel
theorem dX11_acceptedOf_134 : decode cX11_acceptedOf 134 = .ok (.aload_n 0, 1) := by decide +kernel
theorem dX11_acceptedOf_135 : decode cX11_acceptedOf 135 = .ok (.getfield 122, 3) := by decide +kernel
theorem dX11_acceptedOf_138 : decode cX11_acceptedOf 138 = .ok (.iload 5, 2) := by decide +kernel
theorem dX11_acceptedOf_140 : decode cX11_acceptedOf 140 = .ok (.iaload, 1) := by decide +kernel
theorem dX11_acceptedOf_141 : decode cX11_acceptedOf 141 = .ok (.goto 5, 3) := by decide +kernel
theorem dX11_acceptedOf_144 : decode cX11_acceptedOf 144 = .ok (.iload 4, 2) := by decide +kernel
theorem dX11_acceptedOf_146 : decode cX11_acceptedOf 146 = .ok (.istore 4, 2) := by decide +kernel
theorem dX11_acceptedOf_148 : decode cX11_acceptedOf 148 = .ok (.iinc 5 1, 3) := by decide +kernel
theorem dX11_acceptedOf_151 : decode cX11_acceptedOf 151 = .ok (.goto (-141), 3) := by decide +kernel
theorem dX11_acceptedOf_154 : decode cX11_acceptedOf 154 = .ok (.iload_n 1, 1) := by decide +kernel
theorem dX11_acceptedOf_155 : decode cX11_acceptedOf 155 = .ok (.ifCond .ne 7, 3) := by decide +kernel
theorem dX11_acceptedOf_158 : decode cX11_acceptedOf 158 = .ok (.iload_n 2, 1) := by decide +kernel
theorem dX11_acceptedOf_159 : decode cX11_acceptedOf 159 = .ok (.goto 14, 3) := by decide +kernel
theorem dX11_acceptedOf_162 : decode cX11_acceptedOf 162 = .ok (.iload_n 1, 1) := by decide +kernel
theorem dX11_acceptedOf_163 : decode cX11_acceptedOf 163 = .ok (.iconst 1, 1) := by decide +kernel
theorem dX11_acceptedOf_164 : decode cX11_acceptedOf 164 = .ok (.if_icmp .ne 7, 3) := by decide +kernel
theorem dX11_acceptedOf_167 : decode cX11_acceptedOf 167 = .ok (.iload_n 3, 1) := by decide +kernel
theorem dX11_acceptedOf_168 : decode cX11_acceptedOf 168 = .ok (.goto 5, 3) := by decide +kernel
theorem dX11_acceptedOf_171 : decode cX11_acceptedOf 171 = .ok (.iload 4, 2) := by decide +kernel
theorem dX11_acceptedOf_173 : decode cX11_acceptedOf 173 = .ok (.ireturn, 1) := by decide +kernel
theorem dX11_echoes_0 : decode cX11_echoes 0 = .ok (.aload_n 0, 1) := by decide +kernel
theorem dX11_echoes_1 : decode cX11_echoes 1 = .ok (.iconst 0, 1) := by decide +kernel
theorem dX11_echoes_2 : decode cX11_echoes 2 = .ok (.putfield 149, 3) := by decide +kernel
theorem dX11_echoes_5 : decode cX11_echoes 5 = .ok (.aload_n 0, 1) := by decide +kernel
theorem dX11_echoes_6 : decode cX11_echoes 6 = .ok (.aload_n 0, 1) := by decide +kernel
theorem dX11_echoes_7 : decode cX11_echoes 7 = .ok (.iload_n 1, 1) := by decide +kernel
theorem dX11_echoes_8 : decode cX11_echoes 8 = .ok (.invokevirtual 179, 3) := by decide +kernel
theorem dX11_echoes_11 : decode cX11_echoes 11 = .ok (.ifCond .ne 7, 3) := by decide +kernel
theorem dX11_echoes_14 : decode cX11_echoes 14 = .ok (.iconst 1, 1) := by decide +kernel
theorem dX11_echoes_15 : decode cX11_echoes 15 = .ok (.goto 4, 3) := by decide +kernel
theorem dX11_echoes_18 : decode cX11_echoes 18 = .ok (.iconst 0, 1) := by decide +kernel
theorem dX11_echoes_19 : decode cX11_echoes 19 = .ok (.iconst 1, 1) := by decide +kernel
theorem dX11_echoes_20 : decode cX11_echoes 20 = .ok (.iconst 0, 1) := by decide +kernel
theorem dX11_echoes_21 : decode cX11_echoes 21 = .ok (.invokevirtual 166, 3) := by decide +kernel
theorem dX11_echoes_24 : decode cX11_echoes 24 = .ok (.ifCond .ne 26, 3) := by decide +kernel
theorem dX11_echoes_27 : decode cX11_echoes 27 = .ok (.aload_n 0, 1) := by decide +kernel
theorem dX11_echoes_28 : decode cX11_echoes 28 = .ok (.iload_n 2, 1) := by decide +kernel
theorem dX11_echoes_29 : decode cX11_echoes 29 = .ok (.iconst 0, 1) := by decide +kernel
theorem dX11_echoes_30 : decode cX11_echoes 30 = .ok (.iconst 4, 1) := by decide +kernel
theorem dX11_echoes_31 : decode cX11_echoes 31 = .ok (.invokestatic 162, 3) := by decide +kernel
theorem dX11_echoes_34 : decode cX11_echoes 34 = .ok (.ifCond .ne 7, 3) := by decide +kernel
theorem dX11_echoes_37 : decode cX11_echoes 37 = .ok (.iconst 1, 1) := by decide +kernel
theorem dX11_echoes_38 : decode cX11_echoes 38 = .ok (.goto 4, 3) := by decide +kernel
theorem dX11_echoes_41 : decode cX11_echoes 41 = .ok (.iconst 0, 1) := by decide +kernel
theorem dX11_echoes_42 : decode cX11_echoes 42 = .ok (.iconst 2, 1) := by decide +kernel
theorem dX11_echoes_43 : decode cX11_echoes 43 = .ok (.iconst 1, 1) := by decide +kernel
theorem dX11_echoes_44 : decode cX11_echoes 44 = .ok (.invokevirtual 166, 3) := by decide +kernel
theorem dX11_echoes_47 : decode cX11_echoes 47 = .ok (.ifCond .eq 5, 3) := by decide +kernel
theorem dX11_echoes_50 : decode cX11_echoes 50 = .ok (.iconst 0, 1) := by decide +kernel
theorem dX11_echoes_51 : decode cX11_echoes 51 = .ok (.ireturn, 1) := by decide +kernel
theorem dX11_echoes_52 : decode cX11_echoes 52 = .ok (.aload_n 0, 1) := by decide +kernel
theorem dX11_echoes_53 : decode cX11_echoes 53 = .ok (.iload_n 1, 1) := by decide +kernel
theorem dX11_echoes_54 : decode cX11_echoes 54 = .ok (.invokevirtual 472, 3) := by decide +kernel
theorem dX11_echoes_57 : decode cX11_echoes 57 = .ok (.iload_n 2, 1) := by decide +kernel
theorem dX11_echoes_58 : decode cX11_echoes 58 = .ok (.iconst 3, 1) := by decide +kernel
theorem dX11_echoes_59 : decode cX11_echoes 59 = .ok (.if_icmp .ge 11, 3) := by decide +kernel
theorem dX11_echoes_62 : decode cX11_echoes 62 = .ok (.aload_n 0, 1) := by decide +kernel
theorem dX11_echoes_63 : decode cX11_echoes 63 = .ok (.iload_n 2, 1) := by decide +kernel
theorem dX11_echoes_64 : decode cX11_echoes 64 = .ok (.invokevirtual 475, 3) := by decide +kernel
theorem dX11_echoes_67 : decode cX11_echoes 67 = .ok (.goto 19, 3) := by decide +kernel
theorem dX11_echoes_70 : decode cX11_echoes 70 = .ok (.iload_n 2, 1) := by decide +kernel
theorem dX11_echoes_71 : decode cX11_echoes 71 = .ok (.iconst 3, 1) := by decide +kernel
theorem dX11_echoes_72 : decode cX11_echoes 72 = .ok (.if_icmp .ne 10, 3) := by decide +kernel
theorem dX11_echoes_75 : decode cX11_echoes 75 = .ok (.aload_n 0, 1) := by decide +kernel
theorem dX11_echoes_76 : decode cX11_echoes 76 = .ok (.getfield 441, 3) := by decide +kernel
theorem dX11_echoes_79 : decode cX11_echoes 79 = .ok (.goto 7, 3) := by decide +kernel
theorem dX11_echoes_82 : decode cX11_echoes 82 = .ok (.aload_n 0, 1) := by decide +kernel
theorem dX11_echoes_83 : decode cX11_echoes 83 = .ok (.getfield 444, 3) := by decide +kernel
theorem dX11_echoes_86 : decode cX11_echoes 86 = .ok (.ireturn, 1) := by decide +kernel
theorem dX11_heardBy_0 : decode cX11_heardBy 0 = .ok (.iconst 0, 1) := by decide +kernel
theorem dX11_heardBy_1 : decode cX11_heardBy 1 = .ok (.istore_n 2, 1) := by decide +kernel
theorem dX11_heardBy_2 : decode cX11_heardBy 2 = .ok (.iconst 0, 1) := by decide +kernel
theorem dX11_heardBy_3 : decode cX11_heardBy 3 = .ok (.istore_n 3, 1) := by decide +kernel
theorem dX11_heardBy_4 : decode cX11_heardBy 4 = .ok (.iload_n 3, 1) := by decide +kernel
theorem dX11_heardBy_5 : decode cX11_heardBy 5 = .ok (.aload_n 0, 1) := by decide +kernel
theorem dX11_heardBy_6 : decode cX11_heardBy 6 = .ok (.getfield 20, 3) := by decide +kernel
theorem dX11_heardBy_9 : decode cX11_heardBy 9 = .ok (.if_icmp .ge 23, 3) := by decide +kernel
theorem dX11_heardBy_12 : decode cX11_heardBy 12 = .ok (.iload_n 2, 1) := by decide +kernel
theorem dX11_heardBy_13 : decode cX11_heardBy 13 = .ok (.aload_n 1, 1) := by decide +kernel
theorem dX11_heardBy_14 : decode cX11_heardBy 14 = .ok (.iload_n 3, 1) := by decide +kernel
theorem dX11_heardBy_15 : decode cX11_heardBy 15 = .ok (.baload, 1) := by decide +kernel
theorem dX11_heardBy_16 : decode cX11_heardBy 16 = .ok (.ifCond .eq 7, 3) := by decide +kernel
theorem dX11_heardBy_19 : decode cX11_heardBy 19 = .ok (.iconst 1, 1) := by decide +kernel
theorem dX11_heardBy_20 : decode cX11_heardBy 20 = .ok (.goto 4, 3) := by decide +kernel
theorem dX11_heardBy_23 : decode cX11_heardBy 23 = .ok (.iconst 0, 1) := by decide +kernel
theorem dX11_heardBy_24 : decode cX11_heardBy 24 = .ok (.iadd, 1) := by decide +kernel
theorem dX11_heardBy_25 : decode cX11_heardBy 25 = .ok (.istore_n 2, 1) := by decide +kernel
theorem dX11_heardBy_26 : decode cX11_heardBy 26 = .ok (.iinc 3 1, 3) := by decide +kernel
theorem dX11_heardBy_29 : decode cX11_heardBy 29 = .ok (.goto (-25), 3) := by decide +kernel
theorem dX11_heardBy_32 : decode cX11_heardBy 32 = .ok (.iload_n 2, 1) := by decide +kernel
theorem dX11_heardBy_33 : decode cX11_heardBy 33 = .ok (.ireturn, 1) := by decide +kernel
theorem dX11_echoesOf_0 : decode cX11_echoesOf 0 = .ok (.aload_n 0, 1) := by decide +kernel
theorem dX11_echoesOf_1 : decode cX11_echoesOf 1 = .ok (.iconst 0, 1) := by decide +kernel
theorem dX11_echoesOf_2 : decode cX11_echoesOf 2 = .ok (.putfield 149, 3) := by decide +kernel
theorem dX11_echoesOf_5 : decode cX11_echoesOf 5 = .ok (.aload_n 0, 1) := by decide +kernel
theorem dX11_echoesOf_6 : decode cX11_echoesOf 6 = .ok (.aload_n 0, 1) := by decide +kernel
theorem dX11_echoesOf_7 : decode cX11_echoesOf 7 = .ok (.iload_n 1, 1) := by decide +kernel
theorem dX11_echoesOf_8 : decode cX11_echoesOf 8 = .ok (.invokevirtual 179, 3) := by decide +kernel
theorem dX11_echoesOf_11 : decode cX11_echoesOf 11 = .ok (.ifCond .eq 11, 3) := by decide +kernel
theorem dX11_echoesOf_14 : decode cX11_echoesOf 14 = .ok (.aload_n 0, 1) := by decide +kernel
theorem dX11_echoesOf_15 : decode cX11_echoesOf 15 = .ok (.iload_n 2, 1) := by decide +kernel
theorem dX11_echoesOf_16 : decode cX11_echoesOf 16 = .ok (.invokevirtual 179, 3) := by decide +kernel
theorem dX11_echoesOf_19 : decode cX11_echoesOf 19 = .ok (.ifCond .ne 7, 3) := by decide +kernel
theorem dX11_echoesOf_22 : decode cX11_echoesOf 22 = .ok (.iconst 1, 1) := by decide +kernel
theorem dX11_echoesOf_23 : decode cX11_echoesOf 23 = .ok (.goto 4, 3) := by decide +kernel
theorem dX11_echoesOf_26 : decode cX11_echoesOf 26 = .ok (.iconst 0, 1) := by decide +kernel
theorem dX11_echoesOf_27 : decode cX11_echoesOf 27 = .ok (.iconst 1, 1) := by decide +kernel
theorem dX11_echoesOf_28 : decode cX11_echoesOf 28 = .ok (.iconst 0, 1) := by decide +kernel
theorem dX11_echoesOf_29 : decode cX11_echoesOf 29 = .ok (.invokevirtual 166, 3) := by decide +kernel
theorem dX11_echoesOf_32 : decode cX11_echoesOf 32 = .ok (.ifCond .ne 26, 3) := by decide +kernel
theorem dX11_echoesOf_35 : decode cX11_echoesOf 35 = .ok (.aload_n 0, 1) := by decide +kernel
theorem dX11_echoesOf_36 : decode cX11_echoesOf 36 = .ok (.iload_n 3, 1) := by decide +kernel
theorem dX11_echoesOf_37 : decode cX11_echoesOf 37 = .ok (.iconst 0, 1) := by decide +kernel
theorem dX11_echoesOf_38 : decode cX11_echoesOf 38 = .ok (.iconst 4, 1) := by decide +kernel
theorem dX11_echoesOf_39 : decode cX11_echoesOf 39 = .ok (.invokestatic 162, 3) := by decide +kernel
theorem dX11_echoesOf_42 : decode cX11_echoesOf 42 = .ok (.ifCond .ne 7, 3) := by decide +kernel
theorem dX11_echoesOf_45 : decode cX11_echoesOf 45 = .ok (.iconst 1, 1) := by decide +kernel
theorem dX11_echoesOf_46 : decode cX11_echoesOf 46 = .ok (.goto 4, 3) := by decide +kernel
theorem dX11_echoesOf_49 : decode cX11_echoesOf 49 = .ok (.iconst 0, 1) := by decide +kernel
theorem dX11_echoesOf_50 : decode cX11_echoesOf 50 = .ok (.iconst 2, 1) := by decide +kernel
theorem dX11_echoesOf_51 : decode cX11_echoesOf 51 = .ok (.iconst 1, 1) := by decide +kernel
theorem dX11_echoesOf_52 : decode cX11_echoesOf 52 = .ok (.invokevirtual 166, 3) := by decide +kernel
theorem dX11_echoesOf_55 : decode cX11_echoesOf 55 = .ok (.ifCond .eq 5, 3) := by decide +kernel
theorem dX11_echoesOf_58 : decode cX11_echoesOf 58 = .ok (.iconst 0, 1) := by decide +kernel
theorem dX11_echoesOf_59 : decode cX11_echoesOf 59 = .ok (.ireturn, 1) := by decide +kernel
theorem dX11_echoesOf_60 : decode cX11_echoesOf 60 = .ok (.aload_n 0, 1) := by decide +kernel
theorem dX11_echoesOf_61 : decode cX11_echoesOf 61 = .ok (.iload_n 1, 1) := by decide +kernel
theorem dX11_echoesOf_62 : decode cX11_echoesOf 62 = .ok (.invokevirtual 472, 3) := by decide +kernel
theorem dX11_echoesOf_65 : decode cX11_echoesOf 65 = .ok (.iload_n 3, 1) := by decide +kernel
theorem dX11_echoesOf_66 : decode cX11_echoesOf 66 = .ok (.tableswitch 62 0 3 #[30, 37, 44, 51], 30) := by decide +kernel
theorem dX11_echoesOf_96 : decode cX11_echoesOf 96 = .ok (.aload_n 0, 1) := by decide +kernel
theorem dX11_echoesOf_97 : decode cX11_echoesOf 97 = .ok (.getfield 119, 3) := by decide +kernel
theorem dX11_echoesOf_100 : decode cX11_echoesOf 100 = .ok (.iload_n 2, 1) := by decide +kernel
theorem dX11_echoesOf_101 : decode cX11_echoesOf 101 = .ok (.iaload, 1) := by decide +kernel
theorem dX11_echoesOf_102 : decode cX11_echoesOf 102 = .ok (.ireturn, 1) := by decide +kernel
theorem dX11_echoesOf_103 : decode cX11_echoesOf 103 = .ok (.aload_n 0, 1) := by decide +kernel
theorem dX11_echoesOf_104 : decode cX11_echoesOf 104 = .ok (.getfield 122, 3) := by decide +kernel
theorem dX11_echoesOf_107 : decode cX11_echoesOf 107 = .ok (.iload_n 2, 1) := by decide +kernel
theorem dX11_echoesOf_108 : decode cX11_echoesOf 108 = .ok (.iaload, 1) := by decide +kernel
theorem dX11_echoesOf_109 : decode cX11_echoesOf 109 = .ok (.ireturn, 1) := by decide +kernel
theorem dX11_echoesOf_110 : decode cX11_echoesOf 110 = .ok (.aload_n 0, 1) := by decide +kernel
theorem dX11_echoesOf_111 : decode cX11_echoesOf 111 = .ok (.getfield 113, 3) := by decide +kernel
theorem dX11_echoesOf_114 : decode cX11_echoesOf 114 = .ok (.iload_n 2, 1) := by decide +kernel
theorem dX11_echoesOf_115 : decode cX11_echoesOf 115 = .ok (.iaload, 1) := by decide +kernel
theorem dX11_echoesOf_116 : decode cX11_echoesOf 116 = .ok (.ireturn, 1) := by decide +kernel
theorem dX11_echoesOf_117 : decode cX11_echoesOf 117 = .ok (.aload_n 0, 1) := by decide +kernel
theorem dX11_echoesOf_118 : decode cX11_echoesOf 118 = .ok (.aload_n 0, 1) := by decide +kernel
theorem dX11_echoesOf_119 : decode cX11_echoesOf 119 = .ok (.getfield 107, 3) := by decide +kernel
theorem dX11_echoesOf_122 : decode cX11_echoesOf 122 = .ok (.iload_n 2, 1) := by decide +kernel
theorem dX11_echoesOf_123 : decode cX11_echoesOf 123 = .ok (.aaload, 1) := by decide +kernel
theorem dX11_echoesOf_124 : decode cX11_echoesOf 124 = .ok (.invokevirtual 478, 3) := by decide +kernel
theorem dX11_echoesOf_127 : decode cX11_echoesOf 127 = .ok (.ireturn, 1) := by decide +kernel
theorem dX11_echoesOf_128 : decode cX11_echoesOf 128 = .ok (.aload_n 0, 1) := by decide +kernel
theorem dX11_echoesOf_129 : decode cX11_echoesOf 129 = .ok (.aload_n 0, 1) := by decide +kernel
theorem dX11_echoesOf_130 : decode cX11_echoesOf 130 = .ok (.getfield 110, 3) := by decide +kernel
theorem dX11_echoesOf_133 : decode cX11_echoesOf 133 = .ok (.iload_n 2, 1) := by decide +kernel
theorem dX11_echoesOf_134 : decode cX11_echoesOf 134 = .ok (.aaload, 1) := by decide +kernel
theorem dX11_echoesOf_135 : decode cX11_echoesOf 135 = .ok (.invokevirtual 478, 3) := by decide +kernel
theorem dX11_echoesOf_138 : decode cX11_echoesOf 138 = .ok (.ireturn, 1) := by decide +kernel
theorem dX11_messagesOf_0 : decode cX11_messagesOf 0 = .ok (.iconst 1, 1) := by decide +kernel
theorem dX11_messagesOf_1 : decode cX11_messagesOf 1 = .ok (.istore_n 2, 1) := by decide +kernel
theorem dX11_messagesOf_2 : decode cX11_messagesOf 2 = .ok (.iload_n 0, 1) := by decide +kernel
theorem dX11_messagesOf_3 : decode cX11_messagesOf 3 = .ok (.iconst 1, 1) := by decide +kernel
theorem dX11_messagesOf_4 : decode cX11_messagesOf 4 = .ok (.isub, 1) := by decide +kernel
theorem dX11_messagesOf_5 : decode cX11_messagesOf 5 = .ok (.istore_n 3, 1) := by decide +kernel
theorem dX11_messagesOf_6 : decode cX11_messagesOf 6 = .ok (.iconst 2, 1) := by decide +kernel
theorem dX11_messagesOf_7 : decode cX11_messagesOf 7 = .ok (.istore 4, 2) := by decide +kernel
theorem dX11_messagesOf_9 : decode cX11_messagesOf 9 = .ok (.iload 4, 2) := by decide +kernel
theorem dX11_messagesOf_11 : decode cX11_messagesOf 11 = .ok (.iload_n 1, 1) := by decide +kernel
theorem dX11_messagesOf_12 : decode cX11_messagesOf 12 = .ok (.if_icmp .gt 34, 3) := by decide +kernel
theorem dX11_messagesOf_15 : decode cX11_messagesOf 15 = .ok (.iload_n 3, 1) := by decide +kernel
theorem dX11_messagesOf_16 : decode cX11_messagesOf 16 = .ok (.iload_n 2, 1) := by decide +kernel
theorem dX11_messagesOf_17 : decode cX11_messagesOf 17 = .ok (.iload_n 0, 1) := by decide +kernel
theorem dX11_messagesOf_18 : decode cX11_messagesOf 18 = .ok (.iload 4, 2) := by decide +kernel
theorem dX11_messagesOf_20 : decode cX11_messagesOf 20 = .ok (.isub, 1) := by decide +kernel
theorem dX11_messagesOf_21 : decode cX11_messagesOf 21 = .ok (.iconst 1, 1) := by decide +kernel
theorem dX11_messagesOf_22 : decode cX11_messagesOf 22 = .ok (.iadd, 1) := by decide +kernel
theorem dX11_messagesOf_23 : decode cX11_messagesOf 23 = .ok (.imul, 1) := by decide +kernel
theorem dX11_messagesOf_24 : decode cX11_messagesOf 24 = .ok (.iload_n 0, 1) := by decide +kernel
theorem dX11_messagesOf_25 : decode cX11_messagesOf 25 = .ok (.iload 4, 2) := by decide +kernel
theorem dX11_messagesOf_27 : decode cX11_messagesOf 27 = .ok (.isub, 1) := by decide +kernel
theorem dX11_messagesOf_28 : decode cX11_messagesOf 28 = .ok (.imul, 1) := by decide +kernel
theorem dX11_messagesOf_29 : decode cX11_messagesOf 29 = .ok (.iadd, 1) := by decide +kernel
theorem dX11_messagesOf_30 : decode cX11_messagesOf 30 = .ok (.istore_n 3, 1) := by decide +kernel
theorem dX11_messagesOf_31 : decode cX11_messagesOf 31 = .ok (.iload_n 2, 1) := by decide +kernel
theorem dX11_messagesOf_32 : decode cX11_messagesOf 32 = .ok (.iload_n 0, 1) := by decide +kernel
theorem dX11_messagesOf_33 : decode cX11_messagesOf 33 = .ok (.iload 4, 2) := by decide +kernel
theorem dX11_messagesOf_35 : decode cX11_messagesOf 35 = .ok (.isub, 1) := by decide +kernel
theorem dX11_messagesOf_36 : decode cX11_messagesOf 36 = .ok (.iconst 1, 1) := by decide +kernel
theorem dX11_messagesOf_37 : decode cX11_messagesOf 37 = .ok (.iadd, 1) := by decide +kernel
theorem dX11_messagesOf_38 : decode cX11_messagesOf 38 = .ok (.imul, 1) := by decide +kernel
theorem dX11_messagesOf_39 : decode cX11_messagesOf 39 = .ok (.istore_n 2, 1) := by decide +kernel
theorem dX11_messagesOf_40 : decode cX11_messagesOf 40 = .ok (.iinc 4 1, 3) := by decide +kernel
theorem dX11_messagesOf_43 : decode cX11_messagesOf 43 = .ok (.goto (-34), 3) := by decide +kernel
theorem dX11_messagesOf_46 : decode cX11_messagesOf 46 = .ok (.iload_n 3, 1) := by decide +kernel
theorem dX11_messagesOf_47 : decode cX11_messagesOf 47 = .ok (.ireturn, 1) := by decide +kernel
theorem dX11_messages_0 : decode cX11_messages 0 = .ok (.aload_n 0, 1) := by decide +kernel
theorem dX11_messages_1 : decode cX11_messages 1 = .ok (.iconst 0, 1) := by decide +kernel
theorem dX11_messages_2 : decode cX11_messages 2 = .ok (.putfield 149, 3) := by decide +kernel
theorem dX11_messages_5 : decode cX11_messages 5 = .ok (.aload_n 0, 1) := by decide +kernel
theorem dX11_messages_6 : decode cX11_messages 6 = .ok (.iload_n 1, 1) := by decide +kernel
theorem dX11_messages_7 : decode cX11_messages 7 = .ok (.iconst 3, 1) := by decide +kernel
theorem dX11_messages_8 : decode cX11_messages 8 = .ok (.bipush 7, 2) := by decide +kernel
theorem dX11_messages_10 : decode cX11_messages 10 = .ok (.invokestatic 162, 3) := by decide +kernel
theorem dX11_messages_13 : decode cX11_messages 13 = .ok (.ifCond .eq 12, 3) := by decide +kernel
theorem dX11_messages_16 : decode cX11_messages 16 = .ok (.iload_n 2, 1) := by decide +kernel
theorem dX11_messages_17 : decode cX11_messages 17 = .ok (.iconst 1, 1) := by decide +kernel
theorem dX11_messages_18 : decode cX11_messages 18 = .ok (.iconst 3, 1) := by decide +kernel
theorem dX11_messages_19 : decode cX11_messages 19 = .ok (.invokestatic 162, 3) := by decide +kernel
theorem dX11_messages_22 : decode cX11_messages 22 = .ok (.ifCond .ne 7, 3) := by decide +kernel
theorem dX11_messages_25 : decode cX11_messages 25 = .ok (.iconst 1, 1) := by decide +kernel
theorem dX11_messages_26 : decode cX11_messages 26 = .ok (.goto 4, 3) := by decide +kernel
theorem dX11_messages_29 : decode cX11_messages 29 = .ok (.iconst 0, 1) := by decide +kernel
theorem dX11_messages_30 : decode cX11_messages 30 = .ok (.iconst 1, 1) := by decide +kernel
theorem dX11_messages_31 : decode cX11_messages 31 = .ok (.iconst 1, 1) := by decide +kernel
theorem dX11_messages_32 : decode cX11_messages 32 = .ok (.invokevirtual 166, 3) := by decide +kernel
theorem dX11_messages_35 : decode cX11_messages 35 = .ok (.ifCond .eq 5, 3) := by decide +kernel
theorem dX11_messages_38 : decode cX11_messages 38 = .ok (.iconst 0, 1) := by decide +kernel
theorem dX11_messages_39 : decode cX11_messages 39 = .ok (.ireturn, 1) := by decide +kernel
theorem dX11_messages_40 : decode cX11_messages 40 = .ok (.iload_n 1, 1) := by decide +kernel
theorem dX11_messages_41 : decode cX11_messages 41 = .ok (.iload_n 2, 1) := by decide +kernel
theorem dX11_messages_42 : decode cX11_messages 42 = .ok (.invokestatic 482, 3) := by decide +kernel
theorem dX11_messages_45 : decode cX11_messages 45 = .ok (.ireturn, 1) := by decide +kernel
theorem dX11_fewest_0 : decode cX11_fewest 0 = .ok (.aload_n 0, 1) := by decide +kernel
theorem dX11_fewest_1 : decode cX11_fewest 1 = .ok (.iconst 0, 1) := by decide +kernel
theorem dX11_fewest_2 : decode cX11_fewest 2 = .ok (.putfield 149, 3) := by decide +kernel
theorem dX11_fewest_5 : decode cX11_fewest 5 = .ok (.aload_n 0, 1) := by decide +kernel
theorem dX11_fewest_6 : decode cX11_fewest 6 = .ok (.iload_n 1, 1) := by decide +kernel
theorem dX11_fewest_7 : decode cX11_fewest 7 = .ok (.iconst 0, 1) := by decide +kernel
theorem dX11_fewest_8 : decode cX11_fewest 8 = .ok (.iconst 2, 1) := by decide +kernel
theorem dX11_fewest_9 : decode cX11_fewest 9 = .ok (.invokestatic 162, 3) := by decide +kernel
theorem dX11_fewest_12 : decode cX11_fewest 12 = .ok (.ifCond .eq 12, 3) := by decide +kernel
theorem dX11_fewest_15 : decode cX11_fewest 15 = .ok (.iload_n 2, 1) := by decide +kernel
theorem dX11_fewest_16 : decode cX11_fewest 16 = .ok (.iconst 0, 1) := by decide +kernel
theorem dX11_fewest_17 : decode cX11_fewest 17 = .ok (.iconst 1, 1) := by decide +kernel
theorem dX11_fewest_18 : decode cX11_fewest 18 = .ok (.invokestatic 162, 3) := by decide +kernel
theorem dX11_fewest_21 : decode cX11_fewest 21 = .ok (.ifCond .ne 7, 3) := by decide +kernel
theorem dX11_fewest_24 : decode cX11_fewest 24 = .ok (.iconst 1, 1) := by decide +kernel
theorem dX11_fewest_25 : decode cX11_fewest 25 = .ok (.goto 4, 3) := by decide +kernel
theorem dX11_fewest_28 : decode cX11_fewest 28 = .ok (.iconst 0, 1) := by decide +kernel
theorem dX11_fewest_29 : decode cX11_fewest 29 = .ok (.iconst 1, 1) := by decide +kernel
theorem dX11_fewest_30 : decode cX11_fewest 30 = .ok (.iconst 1, 1) := by decide +kernel
theorem dX11_fewest_31 : decode cX11_fewest 31 = .ok (.invokevirtual 166, 3) := by decide +kernel
theorem dX11_fewest_34 : decode cX11_fewest 34 = .ok (.ifCond .eq 5, 3) := by decide +kernel
theorem dX11_fewest_37 : decode cX11_fewest 37 = .ok (.iconst 0, 1) := by decide +kernel
theorem dX11_fewest_38 : decode cX11_fewest 38 = .ok (.ireturn, 1) := by decide +kernel
theorem dX11_fewest_39 : decode cX11_fewest 39 = .ok (.iload_n 1, 1) := by decide +kernel
theorem dX11_fewest_40 : decode cX11_fewest 40 = .ok (.ifCond .ne 7, 3) := by decide +kernel
theorem dX11_fewest_43 : decode cX11_fewest 43 = .ok (.iconst 3, 1) := by decide +kernel
theorem dX11_fewest_44 : decode cX11_fewest 44 = .ok (.goto 8, 3) := by decide +kernel
theorem dX11_fewest_47 : decode cX11_fewest 47 = .ok (.iconst 3, 1) := by decide +kernel
theorem dX11_fewest_48 : decode cX11_fewest 48 = .ok (.iload_n 1, 1) := by decide +kernel
theorem dX11_fewest_49 : decode cX11_fewest 49 = .ok (.imul, 1) := by decide +kernel
theorem dX11_fewest_50 : decode cX11_fewest 50 = .ok (.iconst 1, 1) := by decide +kernel
theorem dX11_fewest_51 : decode cX11_fewest 51 = .ok (.iadd, 1) := by decide +kernel
theorem dX11_fewest_52 : decode cX11_fewest 52 = .ok (.istore_n 3, 1) := by decide +kernel
theorem dX11_fewest_53 : decode cX11_fewest 53 = .ok (.iload_n 2, 1) := by decide +kernel
theorem dX11_fewest_54 : decode cX11_fewest 54 = .ok (.ifCond .ne 7, 3) := by decide +kernel
theorem dX11_fewest_57 : decode cX11_fewest 57 = .ok (.iload_n 3, 1) := by decide +kernel
theorem dX11_fewest_58 : decode cX11_fewest 58 = .ok (.goto 10, 3) := by decide +kernel
theorem dX11_fewest_61 : decode cX11_fewest 61 = .ok (.iload_n 3, 1) := by decide +kernel
theorem dX11_fewest_62 : decode cX11_fewest 62 = .ok (.iload_n 1, 1) := by decide +kernel
theorem dX11_fewest_63 : decode cX11_fewest 63 = .ok (.iconst 1, 1) := by decide +kernel
theorem dX11_fewest_64 : decode cX11_fewest 64 = .ok (.iadd, 1) := by decide +kernel
theorem dX11_fewest_65 : decode cX11_fewest 65 = .ok (.invokestatic 482, 3) := by decide +kernel
theorem dX11_fewest_68 : decode cX11_fewest 68 = .ok (.ireturn, 1) := by decide +kernel
theorem dX11_sorts_0 : decode cX11_sorts 0 = .ok (.iconst 1, 1) := by decide +kernel
theorem dX11_sorts_1 : decode cX11_sorts 1 = .ok (.istore_n 1, 1) := by decide +kernel
theorem dX11_sorts_2 : decode cX11_sorts 2 = .ok (.iload_n 1, 1) := by decide +kernel
theorem dX11_sorts_3 : decode cX11_sorts 3 = .ok (.aload_n 0, 1) := by decide +kernel
theorem dX11_sorts_4 : decode cX11_sorts 4 = .ok (.getfield 20, 3) := by decide +kernel
theorem dX11_sorts_7 : decode cX11_sorts 7 = .ok (.if_icmp .ge 62, 3) := by decide +kernel
theorem dX11_sorts_10 : decode cX11_sorts 10 = .ok (.aload_n 0, 1) := by decide +kernel
theorem dX11_sorts_11 : decode cX11_sorts 11 = .ok (.getfield 136, 3) := by decide +kernel
theorem dX11_sorts_14 : decode cX11_sorts 14 = .ok (.iload_n 1, 1) := by decide +kernel
theorem dX11_sorts_15 : decode cX11_sorts 15 = .ok (.faload, 1) := by decide +kernel
theorem dX11_sorts_16 : decode cX11_sorts 16 = .ok (.fstore_n 2, 1) := by decide +kernel
theorem dX11_sorts_17 : decode cX11_sorts 17 = .ok (.iload_n 1, 1) := by decide +kernel
theorem dX11_sorts_18 : decode cX11_sorts 18 = .ok (.istore_n 3, 1) := by decide +kernel
theorem dX11_sorts_19 : decode cX11_sorts 19 = .ok (.iload_n 3, 1) := by decide +kernel
theorem dX11_sorts_20 : decode cX11_sorts 20 = .ok (.ifCond .le 36, 3) := by decide +kernel
theorem dX11_sorts_23 : decode cX11_sorts 23 = .ok (.aload_n 0, 1) := by decide +kernel
theorem dX11_sorts_24 : decode cX11_sorts 24 = .ok (.getfield 136, 3) := by decide +kernel
theorem dX11_sorts_27 : decode cX11_sorts 27 = .ok (.iload_n 3, 1) := by decide +kernel
theorem dX11_sorts_28 : decode cX11_sorts 28 = .ok (.iconst 1, 1) := by decide +kernel
theorem dX11_sorts_29 : decode cX11_sorts 29 = .ok (.isub, 1) := by decide +kernel
theorem dX11_sorts_30 : decode cX11_sorts 30 = .ok (.faload, 1) := by decide +kernel
theorem dX11_sorts_31 : decode cX11_sorts 31 = .ok (.fload_n 2, 1) := by decide +kernel
theorem dX11_sorts_32 : decode cX11_sorts 32 = .ok (.fcmp .l, 1) := by decide +kernel
theorem dX11_sorts_33 : decode cX11_sorts 33 = .ok (.ifCond .le 23, 3) := by decide +kernel
theorem dX11_sorts_36 : decode cX11_sorts 36 = .ok (.aload_n 0, 1) := by decide +kernel
theorem dX11_sorts_37 : decode cX11_sorts 37 = .ok (.getfield 136, 3) := by decide +kernel
theorem dX11_sorts_40 : decode cX11_sorts 40 = .ok (.iload_n 3, 1) := by decide +kernel
theorem dX11_sorts_41 : decode cX11_sorts 41 = .ok (.aload_n 0, 1) := by decide +kernel
theorem dX11_sorts_42 : decode cX11_sorts 42 = .ok (.getfield 136, 3) := by decide +kernel
theorem dX11_sorts_45 : decode cX11_sorts 45 = .ok (.iload_n 3, 1) := by decide +kernel
theorem dX11_sorts_46 : decode cX11_sorts 46 = .ok (.iconst 1, 1) := by decide +kernel
theorem dX11_sorts_47 : decode cX11_sorts 47 = .ok (.isub, 1) := by decide +kernel
theorem dX11_sorts_48 : decode cX11_sorts 48 = .ok (.faload, 1) := by decide +kernel
theorem dX11_sorts_49 : decode cX11_sorts 49 = .ok (.fastore, 1) := by decide +kernel
theorem dX11_sorts_50 : decode cX11_sorts 50 = .ok (.iinc 3 (-1), 3) := by decide +kernel
theorem dX11_sorts_53 : decode cX11_sorts 53 = .ok (.goto (-34), 3) := by decide +kernel
theorem dX11_sorts_56 : decode cX11_sorts 56 = .ok (.aload_n 0, 1) := by decide +kernel
theorem dX11_sorts_57 : decode cX11_sorts 57 = .ok (.getfield 136, 3) := by decide +kernel
theorem dX11_sorts_60 : decode cX11_sorts 60 = .ok (.iload_n 3, 1) := by decide +kernel
theorem dX11_sorts_61 : decode cX11_sorts 61 = .ok (.fload_n 2, 1) := by decide +kernel
theorem dX11_sorts_62 : decode cX11_sorts 62 = .ok (.fastore, 1) := by decide +kernel
theorem dX11_sorts_63 : decode cX11_sorts 63 = .ok (.iinc 1 1, 3) := by decide +kernel
theorem dX11_sorts_66 : decode cX11_sorts 66 = .ok (.goto (-64), 3) := by decide +kernel
theorem dX11_sorts_69 : decode cX11_sorts 69 = .ok (.return_, 1) := by decide +kernel
theorem dX11_stepOf_0 : decode cX11_stepOf 0 = .ok (.iconst 0, 1) := by decide +kernel
theorem dX11_stepOf_1 : decode cX11_stepOf 1 = .ok (.istore_n 3, 1) := by decide +kernel
theorem dX11_stepOf_2 : decode cX11_stepOf 2 = .ok (.iload_n 3, 1) := by decide +kernel
theorem dX11_stepOf_3 : decode cX11_stepOf 3 = .ok (.aload_n 0, 1) := by decide +kernel
theorem dX11_stepOf_4 : decode cX11_stepOf 4 = .ok (.getfield 20, 3) := by decide +kernel
theorem dX11_stepOf_7 : decode cX11_stepOf 7 = .ok (.if_icmp .ge 65, 3) := by decide +kernel
theorem dX11_stepOf_10 : decode cX11_stepOf 10 = .ok (.iload_n 3, 1) := by decide +kernel
theorem dX11_stepOf_11 : decode cX11_stepOf 11 = .ok (.iload_n 1, 1) := by decide +kernel
theorem dX11_stepOf_12 : decode cX11_stepOf 12 = .ok (.if_icmp .ne 7, 3) := by decide +kernel
theorem dX11_stepOf_15 : decode cX11_stepOf 15 = .ok (.iconst 0, 1) := by decide +kernel
theorem dX11_stepOf_16 : decode cX11_stepOf 16 = .ok (.goto 20, 3) := by decide +kernel
theorem dX11_stepOf_19 : decode cX11_stepOf 19 = .ok (.aload_n 0, 1) := by decide +kernel
theorem dX11_stepOf_20 : decode cX11_stepOf 20 = .ok (.iload_n 3, 1) := by decide +kernel
theorem dX11_stepOf_21 : decode cX11_stepOf 21 = .ok (.iload_n 1, 1) := by decide +kernel
theorem dX11_stepOf_22 : decode cX11_stepOf 22 = .ok (.iconst 1, 1) := by decide +kernel
theorem dX11_stepOf_23 : decode cX11_stepOf 23 = .ok (.iload_n 3, 1) := by decide +kernel
theorem dX11_stepOf_24 : decode cX11_stepOf 24 = .ok (.aload_n 0, 1) := by decide +kernel
theorem dX11_stepOf_25 : decode cX11_stepOf 25 = .ok (.getfield 129, 3) := by decide +kernel
theorem dX11_stepOf_28 : decode cX11_stepOf 28 = .ok (.iload_n 3, 1) := by decide +kernel
theorem dX11_stepOf_29 : decode cX11_stepOf 29 = .ok (.faload, 1) := by decide +kernel
theorem dX11_stepOf_30 : decode cX11_stepOf 30 = .ok (.invokestatic 152, 3) := by decide +kernel
theorem dX11_stepOf_33 : decode cX11_stepOf 33 = .ok (.invokevirtual 313, 3) := by decide +kernel
theorem dX11_stepOf_36 : decode cX11_stepOf 36 = .ok (.istore 4, 2) := by decide +kernel
theorem dX11_stepOf_38 : decode cX11_stepOf 38 = .ok (.aload_n 0, 1) := by decide +kernel
theorem dX11_stepOf_39 : decode cX11_stepOf 39 = .ok (.getfield 136, 3) := by decide +kernel
theorem dX11_stepOf_42 : decode cX11_stepOf 42 = .ok (.iload_n 3, 1) := by decide +kernel
theorem dX11_stepOf_43 : decode cX11_stepOf 43 = .ok (.iload 4, 2) := by decide +kernel
theorem dX11_stepOf_45 : decode cX11_stepOf 45 = .ok (.iconst 2, 1) := by decide +kernel
theorem dX11_stepOf_46 : decode cX11_stepOf 46 = .ok (.if_icmp .ne 13, 3) := by decide +kernel
theorem dX11_stepOf_49 : decode cX11_stepOf 49 = .ok (.aload_n 0, 1) := by decide +kernel
theorem dX11_stepOf_50 : decode cX11_stepOf 50 = .ok (.getfield 298, 3) := by decide +kernel
theorem dX11_stepOf_53 : decode cX11_stepOf 53 = .ok (.invokestatic 485, 3) := by decide +kernel
theorem dX11_stepOf_56 : decode cX11_stepOf 56 = .ok (.goto 9, 3) := by decide +kernel
theorem dX11_stepOf_59 : decode cX11_stepOf 59 = .ok (.aload_n 0, 1) := by decide +kernel
theorem dX11_stepOf_60 : decode cX11_stepOf 60 = .ok (.getfield 129, 3) := by decide +kernel
theorem dX11_stepOf_63 : decode cX11_stepOf 63 = .ok (.iload_n 1, 1) := by decide +kernel
theorem dX11_stepOf_64 : decode cX11_stepOf 64 = .ok (.faload, 1) := by decide +kernel
theorem dX11_stepOf_65 : decode cX11_stepOf 65 = .ok (.fastore, 1) := by decide +kernel
theorem dX11_stepOf_66 : decode cX11_stepOf 66 = .ok (.iinc 3 1, 3) := by decide +kernel
theorem dX11_stepOf_69 : decode cX11_stepOf 69 = .ok (.goto (-67), 3) := by decide +kernel
theorem dX11_stepOf_72 : decode cX11_stepOf 72 = .ok (.aload_n 0, 1) := by decide +kernel
theorem dX11_stepOf_73 : decode cX11_stepOf 73 = .ok (.invokevirtual 488, 3) := by decide +kernel
theorem dX11_stepOf_76 : decode cX11_stepOf 76 = .ok (.aload_n 0, 1) := by decide +kernel
theorem dX11_stepOf_77 : decode cX11_stepOf 77 = .ok (.getfield 20, 3) := by decide +kernel
theorem dX11_stepOf_80 : decode cX11_stepOf 80 = .ok (.iconst 2, 1) := by decide +kernel
theorem dX11_stepOf_81 : decode cX11_stepOf 81 = .ok (.aload_n 0, 1) := by decide +kernel
theorem dX11_stepOf_82 : decode cX11_stepOf 82 = .ok (.getfield 23, 3) := by decide +kernel
theorem dX11_stepOf_85 : decode cX11_stepOf 85 = .ok (.imul, 1) := by decide +kernel
theorem dX11_stepOf_86 : decode cX11_stepOf 86 = .ok (.isub, 1) := by decide +kernel
theorem dX11_stepOf_87 : decode cX11_stepOf 87 = .ok (.istore_n 3, 1) := by decide +kernel
theorem dX11_stepOf_88 : decode cX11_stepOf 88 = .ok (.iload_n 3, 1) := by decide +kernel
theorem dX11_stepOf_89 : decode cX11_stepOf 89 = .ok (.iconst 1, 1) := by decide +kernel
theorem dX11_stepOf_90 : decode cX11_stepOf 90 = .ok (.if_icmp .ge 10, 3) := by decide +kernel
theorem dX11_stepOf_93 : decode cX11_stepOf 93 = .ok (.aload_n 0, 1) := by decide +kernel
theorem dX11_stepOf_94 : decode cX11_stepOf 94 = .ok (.getfield 129, 3) := by decide +kernel
theorem dX11_stepOf_97 : decode cX11_stepOf 97 = .ok (.iload_n 1, 1) := by decide +kernel
theorem dX11_stepOf_98 : decode cX11_stepOf 98 = .ok (.faload, 1) := by decide +kernel
theorem dX11_stepOf_99 : decode cX11_stepOf 99 = .ok (.freturn, 1) := by decide +kernel
theorem dX11_stepOf_100 : decode cX11_stepOf 100 = .ok (.iload_n 2, 1) := by decide +kernel
theorem dX11_stepOf_101 : decode cX11_stepOf 101 = .ok (.iconst 1, 1) := by decide +kernel
theorem dX11_stepOf_102 : decode cX11_stepOf 102 = .ok (.if_icmp .ne 32, 3) := by decide +kernel
theorem dX11_stepOf_105 : decode cX11_stepOf 105 = .ok (.aload_n 0, 1) := by decide +kernel
theorem dX11_stepOf_106 : decode cX11_stepOf 106 = .ok (.getfield 136, 3) := by decide +kernel
theorem dX11_stepOf_109 : decode cX11_stepOf 109 = .ok (.aload_n 0, 1) := by decide +kernel
theorem dX11_stepOf_110 : decode cX11_stepOf 110 = .ok (.getfield 23, 3) := by decide +kernel
theorem dX11_stepOf_113 : decode cX11_stepOf 113 = .ok (.faload, 1) := by decide +kernel
theorem dX11_stepOf_114 : decode cX11_stepOf 114 = .ok (.aload_n 0, 1) := by decide +kernel
theorem dX11_stepOf_115 : decode cX11_stepOf 115 = .ok (.getfield 136, 3) := by decide +kernel
theorem dX11_stepOf_118 : decode cX11_stepOf 118 = .ok (.aload_n 0, 1) := by decide +kernel
theorem dX11_stepOf_119 : decode cX11_stepOf 119 = .ok (.getfield 20, 3) := by decide +kernel
theorem dX11_stepOf_122 : decode cX11_stepOf 122 = .ok (.iconst 1, 1) := by decide +kernel
theorem dX11_stepOf_123 : decode cX11_stepOf 123 = .ok (.isub, 1) := by decide +kernel
theorem dX11_stepOf_124 : decode cX11_stepOf 124 = .ok (.aload_n 0, 1) := by decide +kernel
theorem dX11_stepOf_125 : decode cX11_stepOf 125 = .ok (.getfield 23, 3) := by decide +kernel
theorem dX11_stepOf_128 : decode cX11_stepOf 128 = .ok (.isub, 1) := by decide +kernel
theorem dX11_stepOf_129 : decode cX11_stepOf 129 = .ok (.faload, 1) := by decide +kernel
theorem dX11_stepOf_130 : decode cX11_stepOf 130 = .ok (.fadd, 1) := by decide +kernel
theorem dX11_stepOf_131 : decode cX11_stepOf 131 = .ok (.fconst 2, 1) := by decide +kernel
theorem dX11_stepOf_132 : decode cX11_stepOf 132 = .ok (.fdiv, 1) := by decide +kernel
theorem dX11_stepOf_133 : decode cX11_stepOf 133 = .ok (.freturn, 1) := by decide +kernel
theorem dX11_stepOf_134 : decode cX11_stepOf 134 = .ok (.aload_n 0, 1) := by decide +kernel
theorem dX11_stepOf_135 : decode cX11_stepOf 135 = .ok (.getfield 136, 3) := by decide +kernel
theorem dX11_stepOf_138 : decode cX11_stepOf 138 = .ok (.aload_n 0, 1) := by decide +kernel
theorem dX11_stepOf_139 : decode cX11_stepOf 139 = .ok (.getfield 23, 3) := by decide +kernel
theorem dX11_stepOf_142 : decode cX11_stepOf 142 = .ok (.faload, 1) := by decide +kernel
theorem dX11_stepOf_143 : decode cX11_stepOf 143 = .ok (.fstore 4, 2) := by decide +kernel
theorem dX11_stepOf_145 : decode cX11_stepOf 145 = .ok (.aload_n 0, 1) := by decide +kernel
theorem dX11_stepOf_146 : decode cX11_stepOf 146 = .ok (.getfield 23, 3) := by decide +kernel
theorem dX11_stepOf_149 : decode cX11_stepOf 149 = .ok (.iconst 1, 1) := by decide +kernel
theorem dX11_stepOf_150 : decode cX11_stepOf 150 = .ok (.iadd, 1) := by decide +kernel
theorem dX11_stepOf_151 : decode cX11_stepOf 151 = .ok (.istore 5, 2) := by decide +kernel
theorem dX11_stepOf_153 : decode cX11_stepOf 153 = .ok (.iload 5, 2) := by decide +kernel
theorem dX11_stepOf_155 : decode cX11_stepOf 155 = .ok (.aload_n 0, 1) := by decide +kernel
theorem dX11_stepOf_156 : decode cX11_stepOf 156 = .ok (.getfield 20, 3) := by decide +kernel
theorem dX11_stepOf_159 : decode cX11_stepOf 159 = .ok (.aload_n 0, 1) := by decide +kernel
theorem dX11_stepOf_160 : decode cX11_stepOf 160 = .ok (.getfield 23, 3) := by decide +kernel
theorem dX11_stepOf_163 : decode cX11_stepOf 163 = .ok (.isub, 1) := by decide +kernel
theorem dX11_stepOf_164 : decode cX11_stepOf 164 = .ok (.if_icmp .ge 21, 3) := by decide +kernel
theorem dX11_stepOf_167 : decode cX11_stepOf 167 = .ok (.fload 4, 2) := by decide +kernel
theorem dX11_stepOf_169 : decode cX11_stepOf 169 = .ok (.aload_n 0, 1) := by decide +kernel
theorem dX11_stepOf_170 : decode cX11_stepOf 170 = .ok (.getfield 136, 3) := by decide +kernel
theorem dX11_stepOf_173 : decode cX11_stepOf 173 = .ok (.iload 5, 2) := by decide +kernel
theorem dX11_stepOf_175 : decode cX11_stepOf 175 = .ok (.faload, 1) := by decide +kernel
theorem dX11_stepOf_176 : decode cX11_stepOf 176 = .ok (.fadd, 1) := by decide +kernel
theorem dX11_stepOf_177 : decode cX11_stepOf 177 = .ok (.fstore 4, 2) := by decide +kernel
theorem dX11_stepOf_179 : decode cX11_stepOf 179 = .ok (.iinc 5 1, 3) := by decide +kernel
theorem dX11_stepOf_182 : decode cX11_stepOf 182 = .ok (.goto (-29), 3) := by decide +kernel
theorem dX11_stepOf_185 : decode cX11_stepOf 185 = .ok (.fload 4, 2) := by decide +kernel
theorem dX11_stepOf_187 : decode cX11_stepOf 187 = .ok (.iload_n 3, 1) := by decide +kernel
theorem dX11_stepOf_188 : decode cX11_stepOf 188 = .ok (.i2f, 1) := by decide +kernel
theorem dX11_stepOf_189 : decode cX11_stepOf 189 = .ok (.fdiv, 1) := by decide +kernel
theorem dX11_stepOf_190 : decode cX11_stepOf 190 = .ok (.freturn, 1) := by decide +kernel
theorem dX11_beginsNearer_0 : decode cX11_beginsNearer 0 = .ok (.iconst 0, 1) := by decide +kernel
theorem dX11_beginsNearer_1 : decode cX11_beginsNearer 1 = .ok (.istore_n 1, 1) := by decide +kernel
theorem dX11_beginsNearer_2 : decode cX11_beginsNearer 2 = .ok (.iload_n 1, 1) := by decide +kernel
theorem dX11_beginsNearer_3 : decode cX11_beginsNearer 3 = .ok (.aload_n 0, 1) := by decide +kernel
theorem dX11_beginsNearer_4 : decode cX11_beginsNearer 4 = .ok (.getfield 20, 3) := by decide +kernel
theorem dX11_beginsNearer_7 : decode cX11_beginsNearer 7 = .ok (.if_icmp .ge 24, 3) := by decide +kernel
theorem dX11_beginsNearer_10 : decode cX11_beginsNearer 10 = .ok (.aload_n 0, 1) := by decide +kernel
theorem dX11_beginsNearer_11 : decode cX11_beginsNearer 11 = .ok (.getfield 129, 3) := by decide +kernel
theorem dX11_beginsNearer_14 : decode cX11_beginsNearer 14 = .ok (.iload_n 1, 1) := by decide +kernel
theorem dX11_beginsNearer_15 : decode cX11_beginsNearer 15 = .ok (.aload_n 0, 1) := by decide +kernel
theorem dX11_beginsNearer_16 : decode cX11_beginsNearer 16 = .ok (.getfield 26, 3) := by decide +kernel
theorem dX11_beginsNearer_19 : decode cX11_beginsNearer 19 = .ok (.iload_n 1, 1) := by decide +kernel
theorem dX11_beginsNearer_20 : decode cX11_beginsNearer 20 = .ok (.iaload, 1) := by decide +kernel
theorem dX11_beginsNearer_21 : decode cX11_beginsNearer 21 = .ok (.invokestatic 485, 3) := by decide +kernel
theorem dX11_beginsNearer_24 : decode cX11_beginsNearer 24 = .ok (.fastore, 1) := by decide +kernel
theorem dX11_beginsNearer_25 : decode cX11_beginsNearer 25 = .ok (.iinc 1 1, 3) := by decide +kernel
theorem dX11_beginsNearer_28 : decode cX11_beginsNearer 28 = .ok (.goto (-26), 3) := by decide +kernel
theorem dX11_beginsNearer_31 : decode cX11_beginsNearer 31 = .ok (.return_, 1) := by decide +kernel
theorem dX11_stepsOn_0 : decode cX11_stepsOn 0 = .ok (.iconst 0, 1) := by decide +kernel
theorem dX11_stepsOn_1 : decode cX11_stepsOn 1 = .ok (.istore_n 2, 1) := by decide +kernel
theorem dX11_stepsOn_2 : decode cX11_stepsOn 2 = .ok (.iload_n 2, 1) := by decide +kernel
theorem dX11_stepsOn_3 : decode cX11_stepsOn 3 = .ok (.aload_n 0, 1) := by decide +kernel
theorem dX11_stepsOn_4 : decode cX11_stepsOn 4 = .ok (.getfield 20, 3) := by decide +kernel
theorem dX11_stepsOn_7 : decode cX11_stepsOn 7 = .ok (.if_icmp .ge 38, 3) := by decide +kernel
theorem dX11_stepsOn_10 : decode cX11_stepsOn 10 = .ok (.aload_n 0, 1) := by decide +kernel
theorem dX11_stepsOn_11 : decode cX11_stepsOn 11 = .ok (.getfield 133, 3) := by decide +kernel
theorem dX11_stepsOn_14 : decode cX11_stepsOn 14 = .ok (.iload_n 2, 1) := by decide +kernel
theorem dX11_stepsOn_15 : decode cX11_stepsOn 15 = .ok (.aload_n 0, 1) := by decide +kernel
theorem dX11_stepsOn_16 : decode cX11_stepsOn 16 = .ok (.iload_n 2, 1) := by decide +kernel
theorem dX11_stepsOn_17 : decode cX11_stepsOn 17 = .ok (.invokevirtual 295, 3) := by decide +kernel
theorem dX11_stepsOn_20 : decode cX11_stepsOn 20 = .ok (.ifCond .eq 12, 3) := by decide +kernel
theorem dX11_stepsOn_23 : decode cX11_stepsOn 23 = .ok (.aload_n 0, 1) := by decide +kernel
theorem dX11_stepsOn_24 : decode cX11_stepsOn 24 = .ok (.getfield 129, 3) := by decide +kernel
theorem dX11_stepsOn_27 : decode cX11_stepsOn 27 = .ok (.iload_n 2, 1) := by decide +kernel
theorem dX11_stepsOn_28 : decode cX11_stepsOn 28 = .ok (.faload, 1) := by decide +kernel
theorem dX11_stepsOn_29 : decode cX11_stepsOn 29 = .ok (.goto 9, 3) := by decide +kernel
theorem dX11_stepsOn_32 : decode cX11_stepsOn 32 = .ok (.aload_n 0, 1) := by decide +kernel
theorem dX11_stepsOn_33 : decode cX11_stepsOn 33 = .ok (.iload_n 2, 1) := by decide +kernel
theorem dX11_stepsOn_34 : decode cX11_stepsOn 34 = .ok (.iload_n 1, 1) := by decide +kernel
theorem dX11_stepsOn_35 : decode cX11_stepsOn 35 = .ok (.invokevirtual 491, 3) := by decide +kernel
theorem dX11_stepsOn_38 : decode cX11_stepsOn 38 = .ok (.fastore, 1) := by decide +kernel
theorem dX11_stepsOn_39 : decode cX11_stepsOn 39 = .ok (.iinc 2 1, 3) := by decide +kernel
theorem dX11_stepsOn_42 : decode cX11_stepsOn 42 = .ok (.goto (-40), 3) := by decide +kernel
theorem dX11_stepsOn_45 : decode cX11_stepsOn 45 = .ok (.iconst 0, 1) := by decide +kernel
theorem dX11_stepsOn_46 : decode cX11_stepsOn 46 = .ok (.istore_n 2, 1) := by decide +kernel
theorem dX11_stepsOn_47 : decode cX11_stepsOn 47 = .ok (.iload_n 2, 1) := by decide +kernel
theorem dX11_stepsOn_48 : decode cX11_stepsOn 48 = .ok (.aload_n 0, 1) := by decide +kernel
theorem dX11_stepsOn_49 : decode cX11_stepsOn 49 = .ok (.getfield 20, 3) := by decide +kernel
theorem dX11_stepsOn_52 : decode cX11_stepsOn 52 = .ok (.if_icmp .ge 21, 3) := by decide +kernel
theorem dX11_stepsOn_55 : decode cX11_stepsOn 55 = .ok (.aload_n 0, 1) := by decide +kernel
theorem dX11_stepsOn_56 : decode cX11_stepsOn 56 = .ok (.getfield 129, 3) := by decide +kernel
theorem dX11_stepsOn_59 : decode cX11_stepsOn 59 = .ok (.iload_n 2, 1) := by decide +kernel
theorem dX11_stepsOn_60 : decode cX11_stepsOn 60 = .ok (.aload_n 0, 1) := by decide +kernel
theorem dX11_stepsOn_61 : decode cX11_stepsOn 61 = .ok (.getfield 133, 3) := by decide +kernel
theorem dX11_stepsOn_64 : decode cX11_stepsOn 64 = .ok (.iload_n 2, 1) := by decide +kernel
theorem dX11_stepsOn_65 : decode cX11_stepsOn 65 = .ok (.faload, 1) := by decide +kernel
theorem dX11_stepsOn_66 : decode cX11_stepsOn 66 = .ok (.fastore, 1) := by decide +kernel
theorem dX11_stepsOn_67 : decode cX11_stepsOn 67 = .ok (.iinc 2 1, 3) := by decide +kernel
theorem dX11_stepsOn_70 : decode cX11_stepsOn 70 = .ok (.goto (-23), 3) := by decide +kernel
theorem dX11_stepsOn_73 : decode cX11_stepsOn 73 = .ok (.return_, 1) := by decide +kernel
theorem dX11_goes_0 : decode cX11_goes 0 = .ok (.aload_n 0, 1) := by decide +kernel
theorem dX11_goes_1 : decode cX11_goes 1 = .ok (.invokevirtual 495, 3) := by decide +kernel
theorem dX11_goes_4 : decode cX11_goes 4 = .ok (.iconst 0, 1) := by decide +kernel
theorem dX11_goes_5 : decode cX11_goes 5 = .ok (.istore_n 3, 1) := by decide +kernel
theorem dX11_goes_6 : decode cX11_goes 6 = .ok (.iload_n 3, 1) := by decide +kernel
theorem dX11_goes_7 : decode cX11_goes 7 = .ok (.iload_n 1, 1) := by decide +kernel
theorem dX11_goes_8 : decode cX11_goes 8 = .ok (.if_icmp .ge 14, 3) := by decide +kernel
theorem dX11_goes_11 : decode cX11_goes 11 = .ok (.aload_n 0, 1) := by decide +kernel
theorem dX11_goes_12 : decode cX11_goes 12 = .ok (.iload_n 2, 1) := by decide +kernel
theorem dX11_goes_13 : decode cX11_goes 13 = .ok (.invokevirtual 498, 3) := by decide +kernel
theorem dX11_goes_16 : decode cX11_goes 16 = .ok (.iinc 3 1, 3) := by decide +kernel
theorem dX11_goes_19 : decode cX11_goes 19 = .ok (.goto (-13), 3) := by decide +kernel
theorem dX11_goes_22 : decode cX11_goes 22 = .ok (.return_, 1) := by decide +kernel
theorem dX11_spreadNow_0 : decode cX11_spreadNow 0 = .ok (.iconst 0, 1) := by decide +kernel
theorem dX11_spreadNow_1 : decode cX11_spreadNow 1 = .ok (.istore_n 1, 1) := by decide +kernel
theorem dX11_spreadNow_2 : decode cX11_spreadNow 2 = .ok (.fconst 0, 1) := by decide +kernel
theorem dX11_spreadNow_3 : decode cX11_spreadNow 3 = .ok (.fstore_n 2, 1) := by decide +kernel
theorem dX11_spreadNow_4 : decode cX11_spreadNow 4 = .ok (.fconst 0, 1) := by decide +kernel
theorem dX11_spreadNow_5 : decode cX11_spreadNow 5 = .ok (.fstore_n 3, 1) := by decide +kernel
theorem dX11_spreadNow_6 : decode cX11_spreadNow 6 = .ok (.iconst 0, 1) := by decide +kernel
theorem dX11_spreadNow_7 : decode cX11_spreadNow 7 = .ok (.istore 4, 2) := by decide +kernel
theorem dX11_spreadNow_9 : decode cX11_spreadNow 9 = .ok (.iload 4, 2) := by decide +kernel
theorem dX11_spreadNow_11 : decode cX11_spreadNow 11 = .ok (.aload_n 0, 1) := by decide +kernel
theorem dX11_spreadNow_12 : decode cX11_spreadNow 12 = .ok (.getfield 20, 3) := by decide +kernel
theorem dX11_spreadNow_15 : decode cX11_spreadNow 15 = .ok (.if_icmp .ge 79, 3) := by decide +kernel
theorem dX11_spreadNow_18 : decode cX11_spreadNow 18 = .ok (.aload_n 0, 1) := by decide +kernel
theorem dX11_spreadNow_19 : decode cX11_spreadNow 19 = .ok (.iload 4, 2) := by decide +kernel
theorem dX11_spreadNow_21 : decode cX11_spreadNow 21 = .ok (.invokevirtual 295, 3) := by decide +kernel
theorem dX11_spreadNow_24 : decode cX11_spreadNow 24 = .ok (.ifCond .eq 6, 3) := by decide +kernel
theorem dX11_spreadNow_27 : decode cX11_spreadNow 27 = .ok (.goto 61, 3) := by decide +kernel
theorem dX11_spreadNow_30 : decode cX11_spreadNow 30 = .ok (.iload_n 1, 1) := by decide +kernel
theorem dX11_spreadNow_31 : decode cX11_spreadNow 31 = .ok (.ifCond .eq 19, 3) := by decide +kernel
theorem dX11_spreadNow_34 : decode cX11_spreadNow 34 = .ok (.fload_n 2, 1) := by decide +kernel
theorem dX11_spreadNow_35 : decode cX11_spreadNow 35 = .ok (.aload_n 0, 1) := by decide +kernel
theorem dX11_spreadNow_36 : decode cX11_spreadNow 36 = .ok (.getfield 129, 3) := by decide +kernel
theorem dX11_spreadNow_39 : decode cX11_spreadNow 39 = .ok (.iload 4, 2) := by decide +kernel
theorem dX11_spreadNow_41 : decode cX11_spreadNow 41 = .ok (.faload, 1) := by decide +kernel
theorem dX11_spreadNow_42 : decode cX11_spreadNow 42 = .ok (.fcmp .g, 1) := by decide +kernel
theorem dX11_spreadNow_43 : decode cX11_spreadNow 43 = .ok (.ifCond .ge 7, 3) := by decide +kernel
theorem dX11_spreadNow_46 : decode cX11_spreadNow 46 = .ok (.fload_n 2, 1) := by decide +kernel
theorem dX11_spreadNow_47 : decode cX11_spreadNow 47 = .ok (.goto 10, 3) := by decide +kernel
theorem dX11_spreadNow_50 : decode cX11_spreadNow 50 = .ok (.aload_n 0, 1) := by decide +kernel
theorem dX11_spreadNow_51 : decode cX11_spreadNow 51 = .ok (.getfield 129, 3) := by decide +kernel
theorem dX11_spreadNow_54 : decode cX11_spreadNow 54 = .ok (.iload 4, 2) := by decide +kernel
theorem dX11_spreadNow_56 : decode cX11_spreadNow 56 = .ok (.faload, 1) := by decide +kernel
theorem dX11_spreadNow_57 : decode cX11_spreadNow 57 = .ok (.fstore_n 2, 1) := by decide +kernel
theorem dX11_spreadNow_58 : decode cX11_spreadNow 58 = .ok (.iload_n 1, 1) := by decide +kernel
theorem dX11_spreadNow_59 : decode cX11_spreadNow 59 = .ok (.ifCond .eq 19, 3) := by decide +kernel
theorem dX11_spreadNow_62 : decode cX11_spreadNow 62 = .ok (.fload_n 3, 1) := by decide +kernel
theorem dX11_spreadNow_63 : decode cX11_spreadNow 63 = .ok (.aload_n 0, 1) := by decide +kernel
theorem dX11_spreadNow_64 : decode cX11_spreadNow 64 = .ok (.getfield 129, 3) := by decide +kernel
theorem dX11_spreadNow_67 : decode cX11_spreadNow 67 = .ok (.iload 4, 2) := by decide +kernel
theorem dX11_spreadNow_69 : decode cX11_spreadNow 69 = .ok (.faload, 1) := by decide +kernel
theorem dX11_spreadNow_70 : decode cX11_spreadNow 70 = .ok (.fcmp .l, 1) := by decide +kernel
theorem dX11_spreadNow_71 : decode cX11_spreadNow 71 = .ok (.ifCond .le 7, 3) := by decide +kernel
theorem dX11_spreadNow_74 : decode cX11_spreadNow 74 = .ok (.fload_n 3, 1) := by decide +kernel
theorem dX11_spreadNow_75 : decode cX11_spreadNow 75 = .ok (.goto 10, 3) := by decide +kernel
theorem dX11_spreadNow_78 : decode cX11_spreadNow 78 = .ok (.aload_n 0, 1) := by decide +kernel
theorem dX11_spreadNow_79 : decode cX11_spreadNow 79 = .ok (.getfield 129, 3) := by decide +kernel
theorem dX11_spreadNow_82 : decode cX11_spreadNow 82 = .ok (.iload 4, 2) := by decide +kernel
theorem dX11_spreadNow_84 : decode cX11_spreadNow 84 = .ok (.faload, 1) := by decide +kernel
theorem dX11_spreadNow_85 : decode cX11_spreadNow 85 = .ok (.fstore_n 3, 1) := by decide +kernel
theorem dX11_spreadNow_86 : decode cX11_spreadNow 86 = .ok (.iconst 1, 1) := by decide +kernel
theorem dX11_spreadNow_87 : decode cX11_spreadNow 87 = .ok (.istore_n 1, 1) := by decide +kernel
theorem dX11_spreadNow_88 : decode cX11_spreadNow 88 = .ok (.iinc 4 1, 3) := by decide +kernel
theorem dX11_spreadNow_91 : decode cX11_spreadNow 91 = .ok (.goto (-82), 3) := by decide +kernel
theorem dX11_spreadNow_94 : decode cX11_spreadNow 94 = .ok (.fload_n 3, 1) := by decide +kernel
theorem dX11_spreadNow_95 : decode cX11_spreadNow 95 = .ok (.fload_n 2, 1) := by decide +kernel
theorem dX11_spreadNow_96 : decode cX11_spreadNow 96 = .ok (.fsub, 1) := by decide +kernel
theorem dX11_spreadNow_97 : decode cX11_spreadNow 97 = .ok (.freturn, 1) := by decide +kernel
theorem dX11_nearer_0 : decode cX11_nearer 0 = .ok (.aload_n 0, 1) := by decide +kernel
theorem dX11_nearer_1 : decode cX11_nearer 1 = .ok (.iconst 0, 1) := by decide +kernel
theorem dX11_nearer_2 : decode cX11_nearer 2 = .ok (.putfield 149, 3) := by decide +kernel
theorem dX11_nearer_5 : decode cX11_nearer 5 = .ok (.aload_n 0, 1) := by decide +kernel
theorem dX11_nearer_6 : decode cX11_nearer 6 = .ok (.aload_n 0, 1) := by decide +kernel
theorem dX11_nearer_7 : decode cX11_nearer 7 = .ok (.iload_n 3, 1) := by decide +kernel
theorem dX11_nearer_8 : decode cX11_nearer 8 = .ok (.invokevirtual 179, 3) := by decide +kernel
theorem dX11_nearer_11 : decode cX11_nearer 11 = .ok (.ifCond .ne 7, 3) := by decide +kernel
theorem dX11_nearer_14 : decode cX11_nearer 14 = .ok (.iconst 1, 1) := by decide +kernel
theorem dX11_nearer_15 : decode cX11_nearer 15 = .ok (.goto 4, 3) := by decide +kernel
theorem dX11_nearer_18 : decode cX11_nearer 18 = .ok (.iconst 0, 1) := by decide +kernel
theorem dX11_nearer_19 : decode cX11_nearer 19 = .ok (.iconst 1, 1) := by decide +kernel
theorem dX11_nearer_20 : decode cX11_nearer 20 = .ok (.iconst 0, 1) := by decide +kernel
theorem dX11_nearer_21 : decode cX11_nearer 21 = .ok (.invokevirtual 166, 3) := by decide +kernel
theorem dX11_nearer_24 : decode cX11_nearer 24 = .ok (.ifCond .ne 36, 3) := by decide +kernel
theorem dX11_nearer_27 : decode cX11_nearer 27 = .ok (.aload_n 0, 1) := by decide +kernel
theorem dX11_nearer_28 : decode cX11_nearer 28 = .ok (.iload_n 1, 1) := by decide +kernel
theorem dX11_nearer_29 : decode cX11_nearer 29 = .ok (.iconst 0, 1) := by decide +kernel
theorem dX11_nearer_30 : decode cX11_nearer 30 = .ok (.bipush 60, 2) := by decide +kernel
theorem dX11_nearer_32 : decode cX11_nearer 32 = .ok (.invokestatic 162, 3) := by decide +kernel
theorem dX11_nearer_35 : decode cX11_nearer 35 = .ok (.ifCond .eq 12, 3) := by decide +kernel
theorem dX11_nearer_38 : decode cX11_nearer 38 = .ok (.iload_n 2, 1) := by decide +kernel
theorem dX11_nearer_39 : decode cX11_nearer 39 = .ok (.iconst 0, 1) := by decide +kernel
theorem dX11_nearer_40 : decode cX11_nearer 40 = .ok (.iconst 1, 1) := by decide +kernel
theorem dX11_nearer_41 : decode cX11_nearer 41 = .ok (.invokestatic 162, 3) := by decide +kernel
theorem dX11_nearer_44 : decode cX11_nearer 44 = .ok (.ifCond .ne 7, 3) := by decide +kernel
theorem dX11_nearer_47 : decode cX11_nearer 47 = .ok (.iconst 1, 1) := by decide +kernel
theorem dX11_nearer_48 : decode cX11_nearer 48 = .ok (.goto 4, 3) := by decide +kernel
theorem dX11_nearer_51 : decode cX11_nearer 51 = .ok (.iconst 0, 1) := by decide +kernel
theorem dX11_nearer_52 : decode cX11_nearer 52 = .ok (.iconst 2, 1) := by decide +kernel
theorem dX11_nearer_53 : decode cX11_nearer 53 = .ok (.iconst 1, 1) := by decide +kernel
theorem dX11_nearer_54 : decode cX11_nearer 54 = .ok (.invokevirtual 166, 3) := by decide +kernel
theorem dX11_nearer_57 : decode cX11_nearer 57 = .ok (.ifCond .eq 5, 3) := by decide +kernel
theorem dX11_nearer_60 : decode cX11_nearer 60 = .ok (.iconst 0, 1) := by decide +kernel
theorem dX11_nearer_61 : decode cX11_nearer 61 = .ok (.ireturn, 1) := by decide +kernel
theorem dX11_nearer_62 : decode cX11_nearer 62 = .ok (.aload_n 0, 1) := by decide +kernel
theorem dX11_nearer_63 : decode cX11_nearer 63 = .ok (.iload_n 1, 1) := by decide +kernel
theorem dX11_nearer_64 : decode cX11_nearer 64 = .ok (.iload_n 2, 1) := by decide +kernel
theorem dX11_nearer_65 : decode cX11_nearer 65 = .ok (.invokevirtual 501, 3) := by decide +kernel
theorem dX11_nearer_68 : decode cX11_nearer 68 = .ok (.aload_n 0, 1) := by decide +kernel
theorem dX11_nearer_69 : decode cX11_nearer 69 = .ok (.getfield 129, 3) := by decide +kernel
theorem dX11_nearer_72 : decode cX11_nearer 72 = .ok (.iload_n 3, 1) := by decide +kernel
theorem dX11_nearer_73 : decode cX11_nearer 73 = .ok (.faload, 1) := by decide +kernel
theorem dX11_nearer_74 : decode cX11_nearer 74 = .ok (.invokestatic 152, 3) := by decide +kernel
theorem dX11_nearer_77 : decode cX11_nearer 77 = .ok (.ireturn, 1) := by decide +kernel
theorem dX11_spread_0 : decode cX11_spread 0 = .ok (.aload_n 0, 1) := by decide +kernel
theorem dX11_spread_1 : decode cX11_spread 1 = .ok (.iconst 0, 1) := by decide +kernel
theorem dX11_spread_2 : decode cX11_spread 2 = .ok (.putfield 149, 3) := by decide +kernel
theorem dX11_spread_5 : decode cX11_spread 5 = .ok (.aload_n 0, 1) := by decide +kernel
theorem dX11_spread_6 : decode cX11_spread 6 = .ok (.iload_n 1, 1) := by decide +kernel
theorem dX11_spread_7 : decode cX11_spread 7 = .ok (.iconst 0, 1) := by decide +kernel
theorem dX11_spread_8 : decode cX11_spread 8 = .ok (.bipush 60, 2) := by decide +kernel
theorem dX11_spread_10 : decode cX11_spread 10 = .ok (.invokestatic 162, 3) := by decide +kernel
theorem dX11_spread_13 : decode cX11_spread 13 = .ok (.ifCond .eq 12, 3) := by decide +kernel
theorem dX11_spread_16 : decode cX11_spread 16 = .ok (.iload_n 2, 1) := by decide +kernel
theorem dX11_spread_17 : decode cX11_spread 17 = .ok (.iconst 0, 1) := by decide +kernel
theorem dX11_spread_18 : decode cX11_spread 18 = .ok (.iconst 1, 1) := by decide +kernel
theorem dX11_spread_19 : decode cX11_spread 19 = .ok (.invokestatic 162, 3) := by decide +kernel
theorem dX11_spread_22 : decode cX11_spread 22 = .ok (.ifCond .ne 7, 3) := by decide +kernel
theorem dX11_spread_25 : decode cX11_spread 25 = .ok (.iconst 1, 1) := by decide +kernel
theorem dX11_spread_26 : decode cX11_spread 26 = .ok (.goto 4, 3) := by decide +kernel
theorem dX11_spread_29 : decode cX11_spread 29 = .ok (.iconst 0, 1) := by decide +kernel
theorem dX11_spread_30 : decode cX11_spread 30 = .ok (.iconst 1, 1) := by decide +kernel
theorem dX11_spread_31 : decode cX11_spread 31 = .ok (.iconst 1, 1) := by decide +kernel
theorem dX11_spread_32 : decode cX11_spread 32 = .ok (.invokevirtual 166, 3) := by decide +kernel
theorem dX11_spread_35 : decode cX11_spread 35 = .ok (.ifCond .eq 5, 3) := by decide +kernel
theorem dX11_spread_38 : decode cX11_spread 38 = .ok (.iconst 0, 1) := by decide +kernel
theorem dX11_spread_39 : decode cX11_spread 39 = .ok (.ireturn, 1) := by decide +kernel
theorem dX11_spread_40 : decode cX11_spread 40 = .ok (.aload_n 0, 1) := by decide +kernel
theorem dX11_spread_41 : decode cX11_spread 41 = .ok (.iload_n 1, 1) := by decide +kernel
theorem dX11_spread_42 : decode cX11_spread 42 = .ok (.iload_n 2, 1) := by decide +kernel
theorem dX11_spread_43 : decode cX11_spread 43 = .ok (.invokevirtual 501, 3) := by decide +kernel
theorem dX11_spread_46 : decode cX11_spread 46 = .ok (.aload_n 0, 1) := by decide +kernel
theorem dX11_spread_47 : decode cX11_spread 47 = .ok (.invokevirtual 504, 3) := by decide +kernel
theorem dX11_spread_50 : decode cX11_spread 50 = .ok (.invokestatic 152, 3) := by decide +kernel
theorem dX11_spread_53 : decode cX11_spread 53 = .ok (.ireturn, 1) := by decide +kernel
theorem dX11_steps_0 : decode cX11_steps 0 = .ok (.aload_n 0, 1) := by decide +kernel
theorem dX11_steps_1 : decode cX11_steps 1 = .ok (.iconst 0, 1) := by decide +kernel
theorem dX11_steps_2 : decode cX11_steps 2 = .ok (.putfield 149, 3) := by decide +kernel
theorem dX11_steps_5 : decode cX11_steps 5 = .ok (.aload_n 0, 1) := by decide +kernel
theorem dX11_steps_6 : decode cX11_steps 6 = .ok (.iload_n 1, 1) := by decide +kernel
theorem dX11_steps_7 : decode cX11_steps 7 = .ok (.iconst 0, 1) := by decide +kernel
theorem dX11_steps_8 : decode cX11_steps 8 = .ok (.ldc 184, 2) := by decide +kernel
theorem dX11_steps_10 : decode cX11_steps 10 = .ok (.invokestatic 162, 3) := by decide +kernel
theorem dX11_steps_13 : decode cX11_steps 13 = .ok (.ifCond .eq 23, 3) := by decide +kernel
theorem dX11_steps_16 : decode cX11_steps 16 = .ok (.iload_n 2, 1) := by decide +kernel
theorem dX11_steps_17 : decode cX11_steps 17 = .ok (.iconst 1, 1) := by decide +kernel
theorem dX11_steps_18 : decode cX11_steps 18 = .ok (.sipush 999, 3) := by decide +kernel
theorem dX11_steps_21 : decode cX11_steps 21 = .ok (.invokestatic 162, 3) := by decide +kernel
theorem dX11_steps_24 : decode cX11_steps 24 = .ok (.ifCond .eq 12, 3) := by decide +kernel
theorem dX11_steps_27 : decode cX11_steps 27 = .ok (.iload_n 3, 1) := by decide +kernel
theorem dX11_steps_28 : decode cX11_steps 28 = .ok (.iconst 0, 1) := by decide +kernel
theorem dX11_steps_29 : decode cX11_steps 29 = .ok (.iconst 1, 1) := by decide +kernel
theorem dX11_steps_30 : decode cX11_steps 30 = .ok (.invokestatic 162, 3) := by decide +kernel
theorem dX11_steps_33 : decode cX11_steps 33 = .ok (.ifCond .ne 7, 3) := by decide +kernel
theorem dX11_steps_36 : decode cX11_steps 36 = .ok (.iconst 1, 1) := by decide +kernel
theorem dX11_steps_37 : decode cX11_steps 37 = .ok (.goto 4, 3) := by decide +kernel
theorem dX11_steps_40 : decode cX11_steps 40 = .ok (.iconst 0, 1) := by decide +kernel
theorem dX11_steps_41 : decode cX11_steps 41 = .ok (.iconst 1, 1) := by decide +kernel
theorem dX11_steps_42 : decode cX11_steps 42 = .ok (.iconst 1, 1) := by decide +kernel
theorem dX11_steps_43 : decode cX11_steps 43 = .ok (.invokevirtual 166, 3) := by decide +kernel
theorem dX11_steps_46 : decode cX11_steps 46 = .ok (.ifCond .eq 5, 3) := by decide +kernel
theorem dX11_steps_49 : decode cX11_steps 49 = .ok (.iconst 0, 1) := by decide +kernel
theorem dX11_steps_50 : decode cX11_steps 50 = .ok (.ireturn, 1) := by decide +kernel
theorem dX11_steps_51 : decode cX11_steps 51 = .ok (.aload_n 0, 1) := by decide +kernel
theorem dX11_steps_52 : decode cX11_steps 52 = .ok (.invokevirtual 495, 3) := by decide +kernel
theorem dX11_steps_55 : decode cX11_steps 55 = .ok (.iconst 0, 1) := by decide +kernel
theorem dX11_steps_56 : decode cX11_steps 56 = .ok (.istore 4, 2) := by decide +kernel
theorem dX11_steps_58 : decode cX11_steps 58 = .ok (.iload 4, 2) := by decide +kernel
theorem dX11_steps_60 : decode cX11_steps 60 = .ok (.bipush 60, 2) := by decide +kernel
theorem dX11_steps_62 : decode cX11_steps 62 = .ok (.if_icmp .gt 30, 3) := by decide +kernel
theorem dX11_steps_65 : decode cX11_steps 65 = .ok (.aload_n 0, 1) := by decide +kernel
theorem dX11_steps_66 : decode cX11_steps 66 = .ok (.invokevirtual 504, 3) := by decide +kernel
theorem dX11_steps_69 : decode cX11_steps 69 = .ok (.iload_n 1, 1) := by decide +kernel
theorem dX11_steps_70 : decode cX11_steps 70 = .ok (.i2f, 1) := by decide +kernel
theorem dX11_steps_71 : decode cX11_steps 71 = .ok (.iload_n 2, 1) := by decide +kernel
theorem dX11_steps_72 : decode cX11_steps 72 = .ok (.i2f, 1) := by decide +kernel
theorem dX11_steps_73 : decode cX11_steps 73 = .ok (.fdiv, 1) := by decide +kernel
theorem dX11_steps_74 : decode cX11_steps 74 = .ok (.fcmp .g, 1) := by decide +kernel
theorem dX11_steps_75 : decode cX11_steps 75 = .ok (.ifCond .gt 6, 3) := by decide +kernel
theorem dX11_steps_78 : decode cX11_steps 78 = .ok (.iload 4, 2) := by decide +kernel
theorem dX11_steps_80 : decode cX11_steps 80 = .ok (.ireturn, 1) := by decide +kernel
theorem dX11_steps_81 : decode cX11_steps 81 = .ok (.aload_n 0, 1) := by decide +kernel
theorem dX11_steps_82 : decode cX11_steps 82 = .ok (.iload_n 3, 1) := by decide +kernel
theorem dX11_steps_83 : decode cX11_steps 83 = .ok (.invokevirtual 498, 3) := by decide +kernel
theorem dX11_steps_86 : decode cX11_steps 86 = .ok (.iinc 4 1, 3) := by decide +kernel
theorem dX11_steps_89 : decode cX11_steps 89 = .ok (.goto (-31), 3) := by decide +kernel
theorem dX11_steps_92 : decode cX11_steps 92 = .ok (.iconst (-1), 1) := by decide +kernel
theorem dX11_steps_93 : decode cX11_steps 93 = .ok (.ireturn, 1) := by decide +kernel
theorem dX11_total_0 : decode cX11_total 0 = .ok (.aload_n 0, 1) := by decide +kernel
theorem dX11_total_1 : decode cX11_total 1 = .ok (.iconst 0, 1) := by decide +kernel
theorem dX11_total_2 : decode cX11_total 2 = .ok (.putfield 149, 3) := by decide +kernel
theorem dX11_total_5 : decode cX11_total 5 = .ok (.aload_n 0, 1) := by decide +kernel
theorem dX11_total_6 : decode cX11_total 6 = .ok (.iload_n 1, 1) := by decide +kernel
theorem dX11_total_7 : decode cX11_total 7 = .ok (.iconst 0, 1) := by decide +kernel
theorem dX11_total_8 : decode cX11_total 8 = .ok (.bipush 60, 2) := by decide +kernel
theorem dX11_total_10 : decode cX11_total 10 = .ok (.invokestatic 162, 3) := by decide +kernel
theorem dX11_total_13 : decode cX11_total 13 = .ok (.ifCond .eq 12, 3) := by decide +kernel
theorem dX11_total_16 : decode cX11_total 16 = .ok (.iload_n 2, 1) := by decide +kernel
theorem dX11_total_17 : decode cX11_total 17 = .ok (.iconst 0, 1) := by decide +kernel
theorem dX11_total_18 : decode cX11_total 18 = .ok (.iconst 1, 1) := by decide +kernel
theorem dX11_total_19 : decode cX11_total 19 = .ok (.invokestatic 162, 3) := by decide +kernel
theorem dX11_total_22 : decode cX11_total 22 = .ok (.ifCond .ne 7, 3) := by decide +kernel
theorem dX11_total_25 : decode cX11_total 25 = .ok (.iconst 1, 1) := by decide +kernel
theorem dX11_total_26 : decode cX11_total 26 = .ok (.goto 4, 3) := by decide +kernel
theorem dX11_total_29 : decode cX11_total 29 = .ok (.iconst 0, 1) := by decide +kernel
theorem dX11_total_30 : decode cX11_total 30 = .ok (.iconst 1, 1) := by decide +kernel
theorem dX11_total_31 : decode cX11_total 31 = .ok (.iconst 1, 1) := by decide +kernel
theorem dX11_total_32 : decode cX11_total 32 = .ok (.invokevirtual 166, 3) := by decide +kernel
theorem dX11_total_35 : decode cX11_total 35 = .ok (.ifCond .eq 5, 3) := by decide +kernel
theorem dX11_total_38 : decode cX11_total 38 = .ok (.lconst 0, 1) := by decide +kernel
theorem dX11_total_39 : decode cX11_total 39 = .ok (.lreturn, 1) := by decide +kernel
theorem dX11_total_40 : decode cX11_total 40 = .ok (.aload_n 0, 1) := by decide +kernel
theorem dX11_total_41 : decode cX11_total 41 = .ok (.iload_n 1, 1) := by decide +kernel
theorem dX11_total_42 : decode cX11_total 42 = .ok (.iload_n 2, 1) := by decide +kernel
theorem dX11_total_43 : decode cX11_total 43 = .ok (.invokevirtual 501, 3) := by decide +kernel
theorem dX11_total_46 : decode cX11_total 46 = .ok (.dconst 0, 1) := by decide +kernel
theorem dX11_total_47 : decode cX11_total 47 = .ok (.dstore_n 3, 1) := by decide +kernel
theorem dX11_total_48 : decode cX11_total 48 = .ok (.iconst 0, 1) := by decide +kernel
theorem dX11_total_49 : decode cX11_total 49 = .ok (.istore 5, 2) := by decide +kernel
theorem dX11_total_51 : decode cX11_total 51 = .ok (.iload 5, 2) := by decide +kernel
theorem dX11_total_53 : decode cX11_total 53 = .ok (.aload_n 0, 1) := by decide +kernel
theorem dX11_total_54 : decode cX11_total 54 = .ok (.getfield 20, 3) := by decide +kernel
theorem dX11_total_57 : decode cX11_total 57 = .ok (.if_icmp .ge 33, 3) := by decide +kernel
theorem dX11_total_60 : decode cX11_total 60 = .ok (.dload_n 3, 1) := by decide +kernel
theorem dX11_total_61 : decode cX11_total 61 = .ok (.aload_n 0, 1) := by decide +kernel
theorem dX11_total_62 : decode cX11_total 62 = .ok (.iload 5, 2) := by decide +kernel
theorem dX11_total_64 : decode cX11_total 64 = .ok (.invokevirtual 295, 3) := by decide +kernel
theorem dX11_total_67 : decode cX11_total 67 = .ok (.ifCond .eq 7, 3) := by decide +kernel
theorem dX11_total_70 : decode cX11_total 70 = .ok (.dconst 0, 1) := by decide +kernel
theorem dX11_total_71 : decode cX11_total 71 = .ok (.goto 11, 3) := by decide +kernel
theorem dX11_total_74 : decode cX11_total 74 = .ok (.aload_n 0, 1) := by decide +kernel
theorem dX11_total_75 : decode cX11_total 75 = .ok (.getfield 129, 3) := by decide +kernel
theorem dX11_total_78 : decode cX11_total 78 = .ok (.iload 5, 2) := by decide +kernel
theorem dX11_total_80 : decode cX11_total 80 = .ok (.faload, 1) := by decide +kernel
theorem dX11_total_81 : decode cX11_total 81 = .ok (.f2d, 1) := by decide +kernel
theorem dX11_total_82 : decode cX11_total 82 = .ok (.dadd, 1) := by decide +kernel
theorem dX11_total_83 : decode cX11_total 83 = .ok (.dstore_n 3, 1) := by decide +kernel
theorem dX11_total_84 : decode cX11_total 84 = .ok (.iinc 5 1, 3) := by decide +kernel
theorem dX11_total_87 : decode cX11_total 87 = .ok (.goto (-36), 3) := by decide +kernel
theorem dX11_total_90 : decode cX11_total 90 = .ok (.dload_n 3, 1) := by decide +kernel
theorem dX11_total_91 : decode cX11_total 91 = .ok (.invokestatic 508, 3) := by decide +kernel
theorem dX11_total_94 : decode cX11_total 94 = .ok (.lreturn, 1) := by decide +kernel
theorem dX11_messagesBy_0 : decode cX11_messagesBy 0 = .ok (.iload_n 2, 1) := by decide +kernel
theorem dX11_messagesBy_1 : decode cX11_messagesBy 1 = .ok (.ifCond .ne 9, 3) := by decide +kernel
theorem dX11_messagesBy_4 : decode cX11_messagesBy 4 = .ok (.iload_n 0, 1) := by decide +kernel
theorem dX11_messagesBy_5 : decode cX11_messagesBy 5 = .ok (.iconst 1, 1) := by decide +kernel
theorem dX11_messagesBy_6 : decode cX11_messagesBy 6 = .ok (.isub, 1) := by decide +kernel
theorem dX11_messagesBy_7 : decode cX11_messagesBy 7 = .ok (.goto 15, 3) := by decide +kernel
theorem dX11_messagesBy_10 : decode cX11_messagesBy 10 = .ok (.iload_n 1, 1) := by decide +kernel
theorem dX11_messagesBy_11 : decode cX11_messagesBy 11 = .ok (.iconst 2, 1) := by decide +kernel
theorem dX11_messagesBy_12 : decode cX11_messagesBy 12 = .ok (.if_icmp .ne 9, 3) := by decide +kernel
theorem dX11_messagesBy_15 : decode cX11_messagesBy 15 = .ok (.iload_n 0, 1) := by decide +kernel
theorem dX11_messagesBy_16 : decode cX11_messagesBy 16 = .ok (.iconst 2, 1) := by decide +kernel
theorem dX11_messagesBy_17 : decode cX11_messagesBy 17 = .ok (.isub, 1) := by decide +kernel
theorem dX11_messagesBy_18 : decode cX11_messagesBy 18 = .ok (.goto 4, 3) := by decide +kernel
theorem dX11_messagesBy_21 : decode cX11_messagesBy 21 = .ok (.iconst 0, 1) := by decide +kernel
theorem dX11_messagesBy_22 : decode cX11_messagesBy 22 = .ok (.ireturn, 1) := by decide +kernel
theorem dX11_power_0 : decode cX11_power 0 = .ok (.iconst 1, 1) := by decide +kernel
theorem dX11_power_1 : decode cX11_power 1 = .ok (.istore_n 1, 1) := by decide +kernel
theorem dX11_power_2 : decode cX11_power 2 = .ok (.iconst 0, 1) := by decide +kernel
theorem dX11_power_3 : decode cX11_power 3 = .ok (.istore_n 2, 1) := by decide +kernel
theorem dX11_power_4 : decode cX11_power 4 = .ok (.iload_n 2, 1) := by decide +kernel
theorem dX11_power_5 : decode cX11_power 5 = .ok (.iload_n 0, 1) := by decide +kernel
theorem dX11_power_6 : decode cX11_power 6 = .ok (.if_icmp .ge 13, 3) := by decide +kernel
theorem dX11_power_9 : decode cX11_power 9 = .ok (.iload_n 1, 1) := by decide +kernel
theorem dX11_power_10 : decode cX11_power 10 = .ok (.iconst 3, 1) := by decide +kernel
theorem dX11_power_11 : decode cX11_power 11 = .ok (.imul, 1) := by decide +kernel
theorem dX11_power_12 : decode cX11_power 12 = .ok (.istore_n 1, 1) := by decide +kernel
theorem dX11_power_13 : decode cX11_power 13 = .ok (.iinc 2 1, 3) := by decide +kernel
theorem dX11_power_16 : decode cX11_power 16 = .ok (.goto (-12), 3) := by decide +kernel
theorem dX11_power_19 : decode cX11_power 19 = .ok (.iload_n 1, 1) := by decide +kernel
theorem dX11_power_20 : decode cX11_power 20 = .ok (.ireturn, 1) := by decide +kernel
theorem dX11_toldBy_0 : decode cX11_toldBy 0 = .ok (.iload_n 0, 1) := by decide +kernel
theorem dX11_toldBy_1 : decode cX11_toldBy 1 = .ok (.iload_n 1, 1) := by decide +kernel
theorem dX11_toldBy_2 : decode cX11_toldBy 2 = .ok (.iconst 1, 1) := by decide +kernel
theorem dX11_toldBy_3 : decode cX11_toldBy 3 = .ok (.isub, 1) := by decide +kernel
theorem dX11_toldBy_4 : decode cX11_toldBy 4 = .ok (.iload_n 2, 1) := by decide +kernel
theorem dX11_toldBy_5 : decode cX11_toldBy 5 = .ok (.isub, 1) := by decide +kernel
theorem dX11_toldBy_6 : decode cX11_toldBy 6 = .ok (.invokestatic 514, 3) := by decide +kernel
theorem dX11_toldBy_9 : decode cX11_toldBy 9 = .ok (.idiv, 1) := by decide +kernel
theorem dX11_toldBy_10 : decode cX11_toldBy 10 = .ok (.iconst 3, 1) := by decide +kernel
theorem dX11_toldBy_11 : decode cX11_toldBy 11 = .ok (.irem, 1) := by decide +kernel
theorem dX11_toldBy_12 : decode cX11_toldBy 12 = .ok (.iconst 1, 1) := by decide +kernel
theorem dX11_toldBy_13 : decode cX11_toldBy 13 = .ok (.if_icmp .ne 7, 3) := by decide +kernel
theorem dX11_toldBy_16 : decode cX11_toldBy 16 = .ok (.iconst 1, 1) := by decide +kernel
theorem dX11_toldBy_17 : decode cX11_toldBy 17 = .ok (.goto 4, 3) := by decide +kernel
theorem dX11_toldBy_20 : decode cX11_toldBy 20 = .ok (.iconst 0, 1) := by decide +kernel
theorem dX11_toldBy_21 : decode cX11_toldBy 21 = .ok (.ireturn, 1) := by decide +kernel
theorem dX11_tries_0 : decode cX11_tries 0 = .ok (.iload_n 1, 1) := by decide +kernel
theorem dX11_tries_1 : decode cX11_tries 1 = .ok (.iload_n 2, 1) := by decide +kernel
theorem dX11_tries_2 : decode cX11_tries 2 = .ok (.iload_n 3, 1) := by decide +kernel
theorem dX11_tries_3 : decode cX11_tries 3 = .ok (.invokestatic 517, 3) := by decide +kernel
theorem dX11_tries_6 : decode cX11_tries 6 = .ok (.istore 5, 2) := by decide +kernel
theorem dX11_tries_8 : decode cX11_tries 8 = .ok (.aload_n 0, 1) := by decide +kernel
theorem dX11_tries_9 : decode cX11_tries 9 = .ok (.getfield 139, 3) := by decide +kernel
theorem dX11_tries_12 : decode cX11_tries 12 = .ok (.iconst 0, 1) := by decide +kernel
theorem dX11_tries_13 : decode cX11_tries 13 = .ok (.iconst 1, 1) := by decide +kernel
theorem dX11_tries_14 : decode cX11_tries 14 = .ok (.iastore, 1) := by decide +kernel
theorem dX11_tries_15 : decode cX11_tries 15 = .ok (.iconst 1, 1) := by decide +kernel
theorem dX11_tries_16 : decode cX11_tries 16 = .ok (.istore 6, 2) := by decide +kernel
theorem dX11_tries_18 : decode cX11_tries 18 = .ok (.iload 6, 2) := by decide +kernel
theorem dX11_tries_20 : decode cX11_tries 20 = .ok (.iload_n 1, 1) := by decide +kernel
theorem dX11_tries_21 : decode cX11_tries 21 = .ok (.if_icmp .ge 35, 3) := by decide +kernel
theorem dX11_tries_24 : decode cX11_tries 24 = .ok (.aload_n 0, 1) := by decide +kernel
theorem dX11_tries_25 : decode cX11_tries 25 = .ok (.getfield 142, 3) := by decide +kernel
theorem dX11_tries_28 : decode cX11_tries 28 = .ok (.iload 6, 2) := by decide +kernel
theorem dX11_tries_30 : decode cX11_tries 30 = .ok (.iload_n 3, 1) := by decide +kernel
theorem dX11_tries_31 : decode cX11_tries 31 = .ok (.ifCond .ne 17, 3) := by decide +kernel
theorem dX11_tries_34 : decode cX11_tries 34 = .ok (.iload 4, 2) := by decide +kernel
theorem dX11_tries_36 : decode cX11_tries 36 = .ok (.iload 5, 2) := by decide +kernel
theorem dX11_tries_38 : decode cX11_tries 38 = .ok (.iload 6, 2) := by decide +kernel
theorem dX11_tries_40 : decode cX11_tries 40 = .ok (.iconst 1, 1) := by decide +kernel
theorem dX11_tries_41 : decode cX11_tries 41 = .ok (.isub, 1) := by decide +kernel
theorem dX11_tries_42 : decode cX11_tries 42 = .ok (.invokestatic 520, 3) := by decide +kernel
theorem dX11_tries_45 : decode cX11_tries 45 = .ok (.goto 4, 3) := by decide +kernel
theorem dX11_tries_48 : decode cX11_tries 48 = .ok (.iconst 1, 1) := by decide +kernel
theorem dX11_tries_49 : decode cX11_tries 49 = .ok (.iastore, 1) := by decide +kernel
theorem dX11_tries_50 : decode cX11_tries 50 = .ok (.iinc 6 1, 3) := by decide +kernel
theorem dX11_tries_53 : decode cX11_tries 53 = .ok (.goto (-35), 3) := by decide +kernel
theorem dX11_tries_56 : decode cX11_tries 56 = .ok (.iconst 1, 1) := by decide +kernel
theorem dX11_tries_57 : decode cX11_tries 57 = .ok (.istore 6, 2) := by decide +kernel
theorem dX11_tries_59 : decode cX11_tries 59 = .ok (.iload 6, 2) := by decide +kernel
theorem dX11_tries_61 : decode cX11_tries 61 = .ok (.iload_n 1, 1) := by decide +kernel
theorem dX11_tries_62 : decode cX11_tries 62 = .ok (.if_icmp .ge 118, 3) := by decide +kernel
theorem dX11_tries_65 : decode cX11_tries 65 = .ok (.iconst 0, 1) := by decide +kernel
theorem dX11_tries_66 : decode cX11_tries 66 = .ok (.istore 7, 2) := by decide +kernel
theorem dX11_tries_68 : decode cX11_tries 68 = .ok (.iconst 0, 1) := by decide +kernel
theorem dX11_tries_69 : decode cX11_tries 69 = .ok (.istore 8, 2) := by decide +kernel
theorem dX11_tries_71 : decode cX11_tries 71 = .ok (.iconst 1, 1) := by decide +kernel
theorem dX11_tries_72 : decode cX11_tries 72 = .ok (.istore 9, 2) := by decide +kernel
theorem dX11_tries_74 : decode cX11_tries 74 = .ok (.iload 9, 2) := by decide +kernel
theorem dX11_tries_76 : decode cX11_tries 76 = .ok (.iload_n 1, 1) := by decide +kernel
theorem dX11_tries_77 : decode cX11_tries 77 = .ok (.if_icmp .ge 60, 3) := by decide +kernel
theorem dX11_tries_80 : decode cX11_tries 80 = .ok (.iload 7, 2) := by decide +kernel
theorem dX11_tries_82 : decode cX11_tries 82 = .ok (.iload 9, 2) := by decide +kernel
theorem dX11_tries_84 : decode cX11_tries 84 = .ok (.iload_n 3, 1) := by decide +kernel
theorem dX11_tries_85 : decode cX11_tries 85 = .ok (.if_icmp .ne 36, 3) := by decide +kernel
theorem dX11_tries_88 : decode cX11_tries 88 = .ok (.iload 6, 2) := by decide +kernel
theorem dX11_tries_90 : decode cX11_tries 90 = .ok (.iload_n 3, 1) := by decide +kernel
theorem dX11_tries_91 : decode cX11_tries 91 = .ok (.if_icmp .eq 30, 3) := by decide +kernel
theorem dX11_tries_94 : decode cX11_tries 94 = .ok (.iload 4, 2) := by decide +kernel
theorem dX11_tries_96 : decode cX11_tries 96 = .ok (.iload 5, 2) := by decide +kernel
theorem dX11_tries_98 : decode cX11_tries 98 = .ok (.iload 6, 2) := by decide +kernel
theorem dX11_tries_100 : decode cX11_tries 100 = .ok (.iload_n 3, 1) := by decide +kernel
theorem dX11_tries_101 : decode cX11_tries 101 = .ok (.if_icmp .ge 10, 3) := by decide +kernel
theorem dX11_tries_104 : decode cX11_tries 104 = .ok (.iload 6, 2) := by decide +kernel
theorem dX11_tries_106 : decode cX11_tries 106 = .ok (.iconst 1, 1) := by decide +kernel
theorem dX11_tries_107 : decode cX11_tries 107 = .ok (.isub, 1) := by decide +kernel
theorem dX11_tries_108 : decode cX11_tries 108 = .ok (.goto 7, 3) := by decide +kernel
theorem dX11_tries_111 : decode cX11_tries 111 = .ok (.iload 6, 2) := by decide +kernel
theorem dX11_tries_113 : decode cX11_tries 113 = .ok (.iconst 2, 1) := by decide +kernel
theorem dX11_tries_114 : decode cX11_tries 114 = .ok (.isub, 1) := by decide +kernel
theorem dX11_tries_115 : decode cX11_tries 115 = .ok (.invokestatic 520, 3) := by decide +kernel
theorem dX11_tries_118 : decode cX11_tries 118 = .ok (.goto 10, 3) := by decide +kernel
theorem dX11_tries_121 : decode cX11_tries 121 = .ok (.aload_n 0, 1) := by decide +kernel
theorem dX11_tries_122 : decode cX11_tries 122 = .ok (.getfield 142, 3) := by decide +kernel
theorem dX11_tries_125 : decode cX11_tries 125 = .ok (.iload 9, 2) := by decide +kernel
theorem dX11_tries_127 : decode cX11_tries 127 = .ok (.iaload, 1) := by decide +kernel
theorem dX11_tries_128 : decode cX11_tries 128 = .ok (.iadd, 1) := by decide +kernel
theorem dX11_tries_129 : decode cX11_tries 129 = .ok (.istore 7, 2) := by decide +kernel
theorem dX11_tries_131 : decode cX11_tries 131 = .ok (.iinc 9 1, 3) := by decide +kernel
theorem dX11_tries_134 : decode cX11_tries 134 = .ok (.goto (-60), 3) := by decide +kernel
theorem dX11_tries_137 : decode cX11_tries 137 = .ok (.aload_n 0, 1) := by decide +kernel
theorem dX11_tries_138 : decode cX11_tries 138 = .ok (.getfield 139, 3) := by decide +kernel
theorem dX11_tries_141 : decode cX11_tries 141 = .ok (.iload 6, 2) := by decide +kernel
theorem dX11_tries_143 : decode cX11_tries 143 = .ok (.iload_n 2, 1) := by decide +kernel
theorem dX11_tries_144 : decode cX11_tries 144 = .ok (.iconst 1, 1) := by decide +kernel
theorem dX11_tries_145 : decode cX11_tries 145 = .ok (.if_icmp .ne 13, 3) := by decide +kernel
theorem dX11_tries_148 : decode cX11_tries 148 = .ok (.aload_n 0, 1) := by decide +kernel
theorem dX11_tries_149 : decode cX11_tries 149 = .ok (.getfield 142, 3) := by decide +kernel
theorem dX11_tries_152 : decode cX11_tries 152 = .ok (.iload 6, 2) := by decide +kernel
theorem dX11_tries_154 : decode cX11_tries 154 = .ok (.iaload, 1) := by decide +kernel
theorem dX11_tries_155 : decode cX11_tries 155 = .ok (.goto 18, 3) := by decide +kernel
theorem dX11_tries_158 : decode cX11_tries 158 = .ok (.iconst 2, 1) := by decide +kernel
theorem dX11_tries_159 : decode cX11_tries 159 = .ok (.iload 7, 2) := by decide +kernel
theorem dX11_tries_161 : decode cX11_tries 161 = .ok (.imul, 1) := by decide +kernel
theorem dX11_tries_162 : decode cX11_tries 162 = .ok (.iload_n 1, 1) := by decide +kernel
theorem dX11_tries_163 : decode cX11_tries 163 = .ok (.iconst 1, 1) := by decide +kernel
theorem dX11_tries_164 : decode cX11_tries 164 = .ok (.isub, 1) := by decide +kernel
theorem dX11_tries_165 : decode cX11_tries 165 = .ok (.if_icmp .le 7, 3) := by decide +kernel
theorem dX11_tries_168 : decode cX11_tries 168 = .ok (.iconst 1, 1) := by decide +kernel
theorem dX11_tries_169 : decode cX11_tries 169 = .ok (.goto 4, 3) := by decide +kernel
theorem dX11_tries_172 : decode cX11_tries 172 = .ok (.iconst 0, 1) := by decide +kernel
theorem dX11_tries_173 : decode cX11_tries 173 = .ok (.iastore, 1) := by decide +kernel
theorem dX11_tries_174 : decode cX11_tries 174 = .ok (.iinc 6 1, 3) := by decide +kernel
theorem dX11_tries_177 : decode cX11_tries 177 = .ok (.goto (-118), 3) := by decide +kernel
theorem dX11_tries_180 : decode cX11_tries 180 = .ok (.return_, 1) := by decide +kernel
theorem dX11_isBroken_0 : decode cX11_isBroken 0 = .ok (.iconst 1, 1) := by decide +kernel
theorem dX11_isBroken_1 : decode cX11_isBroken 1 = .ok (.istore_n 3, 1) := by decide +kernel
theorem dX11_isBroken_2 : decode cX11_isBroken 2 = .ok (.iload_n 3, 1) := by decide +kernel
theorem dX11_isBroken_3 : decode cX11_isBroken 3 = .ok (.iload_n 1, 1) := by decide +kernel
theorem dX11_isBroken_4 : decode cX11_isBroken 4 = .ok (.if_icmp .ge 72, 3) := by decide +kernel
theorem dX11_isBroken_7 : decode cX11_isBroken 7 = .ok (.iload_n 3, 1) := by decide +kernel
theorem dX11_isBroken_8 : decode cX11_isBroken 8 = .ok (.iload_n 2, 1) := by decide +kernel
theorem dX11_isBroken_9 : decode cX11_isBroken 9 = .ok (.if_icmp .ne 6, 3) := by decide +kernel
theorem dX11_isBroken_12 : decode cX11_isBroken 12 = .ok (.goto 58, 3) := by decide +kernel
theorem dX11_isBroken_15 : decode cX11_isBroken 15 = .ok (.iload_n 2, 1) := by decide +kernel
theorem dX11_isBroken_16 : decode cX11_isBroken 16 = .ok (.ifCond .eq 15, 3) := by decide +kernel
theorem dX11_isBroken_19 : decode cX11_isBroken 19 = .ok (.aload_n 0, 1) := by decide +kernel
theorem dX11_isBroken_20 : decode cX11_isBroken 20 = .ok (.getfield 139, 3) := by decide +kernel
theorem dX11_isBroken_23 : decode cX11_isBroken 23 = .ok (.iload_n 3, 1) := by decide +kernel
theorem dX11_isBroken_24 : decode cX11_isBroken 24 = .ok (.iaload, 1) := by decide +kernel
theorem dX11_isBroken_25 : decode cX11_isBroken 25 = .ok (.iconst 1, 1) := by decide +kernel
theorem dX11_isBroken_26 : decode cX11_isBroken 26 = .ok (.if_icmp .eq 5, 3) := by decide +kernel
theorem dX11_isBroken_29 : decode cX11_isBroken 29 = .ok (.iconst 1, 1) := by decide +kernel
theorem dX11_isBroken_30 : decode cX11_isBroken 30 = .ok (.ireturn, 1) := by decide +kernel
theorem dX11_isBroken_31 : decode cX11_isBroken 31 = .ok (.iconst 1, 1) := by decide +kernel
theorem dX11_isBroken_32 : decode cX11_isBroken 32 = .ok (.istore 4, 2) := by decide +kernel
theorem dX11_isBroken_34 : decode cX11_isBroken 34 = .ok (.iload 4, 2) := by decide +kernel
theorem dX11_isBroken_36 : decode cX11_isBroken 36 = .ok (.iload_n 3, 1) := by decide +kernel
theorem dX11_isBroken_37 : decode cX11_isBroken 37 = .ok (.if_icmp .ge 33, 3) := by decide +kernel
theorem dX11_isBroken_40 : decode cX11_isBroken 40 = .ok (.iload 4, 2) := by decide +kernel
theorem dX11_isBroken_42 : decode cX11_isBroken 42 = .ok (.iload_n 2, 1) := by decide +kernel
theorem dX11_isBroken_43 : decode cX11_isBroken 43 = .ok (.if_icmp .eq 21, 3) := by decide +kernel
theorem dX11_isBroken_46 : decode cX11_isBroken 46 = .ok (.aload_n 0, 1) := by decide +kernel
theorem dX11_isBroken_47 : decode cX11_isBroken 47 = .ok (.getfield 139, 3) := by decide +kernel
theorem dX11_isBroken_50 : decode cX11_isBroken 50 = .ok (.iload 4, 2) := by decide +kernel
theorem dX11_isBroken_52 : decode cX11_isBroken 52 = .ok (.iaload, 1) := by decide +kernel
theorem dX11_isBroken_53 : decode cX11_isBroken 53 = .ok (.aload_n 0, 1) := by decide +kernel
theorem dX11_isBroken_54 : decode cX11_isBroken 54 = .ok (.getfield 139, 3) := by decide +kernel
theorem dX11_isBroken_57 : decode cX11_isBroken 57 = .ok (.iload_n 3, 1) := by decide +kernel
theorem dX11_isBroken_58 : decode cX11_isBroken 58 = .ok (.iaload, 1) := by decide +kernel
theorem dX11_isBroken_59 : decode cX11_isBroken 59 = .ok (.if_icmp .eq 5, 3) := by decide +kernel
theorem dX11_isBroken_62 : decode cX11_isBroken 62 = .ok (.iconst 1, 1) := by decide +kernel
theorem dX11_isBroken_63 : decode cX11_isBroken 63 = .ok (.ireturn, 1) := by decide +kernel
theorem dX11_isBroken_64 : decode cX11_isBroken 64 = .ok (.iinc 4 1, 3) := by decide +kernel
theorem dX11_isBroken_67 : decode cX11_isBroken 67 = .ok (.goto (-33), 3) := by decide +kernel
theorem dX11_isBroken_70 : decode cX11_isBroken 70 = .ok (.iinc 3 1, 3) := by decide +kernel
theorem dX11_isBroken_73 : decode cX11_isBroken 73 = .ok (.goto (-71), 3) := by decide +kernel
theorem dX11_isBroken_76 : decode cX11_isBroken 76 = .ok (.iconst 0, 1) := by decide +kernel
theorem dX11_isBroken_77 : decode cX11_isBroken 77 = .ok (.ireturn, 1) := by decide +kernel
theorem dX11_kinds_0 : decode cX11_kinds 0 = .ok (.iconst 0, 1) := by decide +kernel
theorem dX11_kinds_1 : decode cX11_kinds 1 = .ok (.istore_n 3, 1) := by decide +kernel
theorem dX11_kinds_2 : decode cX11_kinds 2 = .ok (.iconst 0, 1) := by decide +kernel
theorem dX11_kinds_3 : decode cX11_kinds 3 = .ok (.istore 4, 2) := by decide +kernel
theorem dX11_kinds_5 : decode cX11_kinds 5 = .ok (.iconst 0, 1) := by decide +kernel
theorem dX11_kinds_6 : decode cX11_kinds 6 = .ok (.istore 5, 2) := by decide +kernel
theorem dX11_kinds_8 : decode cX11_kinds 8 = .ok (.iload 5, 2) := by decide +kernel
theorem dX11_kinds_10 : decode cX11_kinds 10 = .ok (.iload_n 1, 1) := by decide +kernel
theorem dX11_kinds_11 : decode cX11_kinds 11 = .ok (.if_icmp .ge 60, 3) := by decide +kernel
theorem dX11_kinds_14 : decode cX11_kinds 14 = .ok (.iload_n 3, 1) := by decide +kernel
theorem dX11_kinds_15 : decode cX11_kinds 15 = .ok (.iload 5, 2) := by decide +kernel
theorem dX11_kinds_17 : decode cX11_kinds 17 = .ok (.iload_n 2, 1) := by decide +kernel
theorem dX11_kinds_18 : decode cX11_kinds 18 = .ok (.if_icmp .eq 17, 3) := by decide +kernel
theorem dX11_kinds_21 : decode cX11_kinds 21 = .ok (.aload_n 0, 1) := by decide +kernel
theorem dX11_kinds_22 : decode cX11_kinds 22 = .ok (.getfield 139, 3) := by decide +kernel
theorem dX11_kinds_25 : decode cX11_kinds 25 = .ok (.iload 5, 2) := by decide +kernel
theorem dX11_kinds_27 : decode cX11_kinds 27 = .ok (.iaload, 1) := by decide +kernel
theorem dX11_kinds_28 : decode cX11_kinds 28 = .ok (.ifCond .ne 7, 3) := by decide +kernel
theorem dX11_kinds_31 : decode cX11_kinds 31 = .ok (.iconst 1, 1) := by decide +kernel
theorem dX11_kinds_32 : decode cX11_kinds 32 = .ok (.goto 4, 3) := by decide +kernel
theorem dX11_kinds_35 : decode cX11_kinds 35 = .ok (.iconst 0, 1) := by decide +kernel
theorem dX11_kinds_36 : decode cX11_kinds 36 = .ok (.ior, 1) := by decide +kernel
theorem dX11_kinds_37 : decode cX11_kinds 37 = .ok (.istore_n 3, 1) := by decide +kernel
theorem dX11_kinds_38 : decode cX11_kinds 38 = .ok (.iload 4, 2) := by decide +kernel
theorem dX11_kinds_40 : decode cX11_kinds 40 = .ok (.iload 5, 2) := by decide +kernel
theorem dX11_kinds_42 : decode cX11_kinds 42 = .ok (.iload_n 2, 1) := by decide +kernel
theorem dX11_kinds_43 : decode cX11_kinds 43 = .ok (.if_icmp .eq 18, 3) := by decide +kernel
theorem dX11_kinds_46 : decode cX11_kinds 46 = .ok (.aload_n 0, 1) := by decide +kernel
theorem dX11_kinds_47 : decode cX11_kinds 47 = .ok (.getfield 139, 3) := by decide +kernel
theorem dX11_kinds_50 : decode cX11_kinds 50 = .ok (.iload 5, 2) := by decide +kernel
theorem dX11_kinds_52 : decode cX11_kinds 52 = .ok (.iaload, 1) := by decide +kernel
theorem dX11_kinds_53 : decode cX11_kinds 53 = .ok (.iconst 1, 1) := by decide +kernel
theorem dX11_kinds_54 : decode cX11_kinds 54 = .ok (.if_icmp .ne 7, 3) := by decide +kernel
theorem dX11_kinds_57 : decode cX11_kinds 57 = .ok (.iconst 1, 1) := by decide +kernel
theorem dX11_kinds_58 : decode cX11_kinds 58 = .ok (.goto 4, 3) := by decide +kernel
theorem dX11_kinds_61 : decode cX11_kinds 61 = .ok (.iconst 0, 1) := by decide +kernel
theorem dX11_kinds_62 : decode cX11_kinds 62 = .ok (.ior, 1) := by decide +kernel
theorem dX11_kinds_63 : decode cX11_kinds 63 = .ok (.istore 4, 2) := by decide +kernel
theorem dX11_kinds_65 : decode cX11_kinds 65 = .ok (.iinc 5 1, 3) := by decide +kernel
theorem dX11_kinds_68 : decode cX11_kinds 68 = .ok (.goto (-60), 3) := by decide +kernel
theorem dX11_kinds_71 : decode cX11_kinds 71 = .ok (.iload_n 3, 1) := by decide +kernel
theorem dX11_kinds_72 : decode cX11_kinds 72 = .ok (.ifCond .eq 7, 3) := by decide +kernel
theorem dX11_kinds_75 : decode cX11_kinds 75 = .ok (.iconst 1, 1) := by decide +kernel
theorem dX11_kinds_76 : decode cX11_kinds 76 = .ok (.goto 4, 3) := by decide +kernel
theorem dX11_kinds_79 : decode cX11_kinds 79 = .ok (.iconst 0, 1) := by decide +kernel
theorem dX11_kinds_80 : decode cX11_kinds 80 = .ok (.iload 4, 2) := by decide +kernel
theorem dX11_kinds_82 : decode cX11_kinds 82 = .ok (.ifCond .eq 7, 3) := by decide +kernel
theorem dX11_kinds_85 : decode cX11_kinds 85 = .ok (.iconst 1, 1) := by decide +kernel
theorem dX11_kinds_86 : decode cX11_kinds 86 = .ok (.goto 4, 3) := by decide +kernel
theorem dX11_kinds_89 : decode cX11_kinds 89 = .ok (.iconst 0, 1) := by decide +kernel
theorem dX11_kinds_90 : decode cX11_kinds 90 = .ok (.iadd, 1) := by decide +kernel
theorem dX11_kinds_91 : decode cX11_kinds 91 = .ok (.ireturn, 1) := by decide +kernel
theorem dX11_attacks_0 : decode cX11_attacks 0 = .ok (.aload_n 0, 1) := by decide +kernel
theorem dX11_attacks_1 : decode cX11_attacks 1 = .ok (.iconst 0, 1) := by decide +kernel
theorem dX11_attacks_2 : decode cX11_attacks 2 = .ok (.putfield 149, 3) := by decide +kernel
theorem dX11_attacks_5 : decode cX11_attacks 5 = .ok (.aload_n 0, 1) := by decide +kernel
theorem dX11_attacks_6 : decode cX11_attacks 6 = .ok (.iload_n 1, 1) := by decide +kernel
theorem dX11_attacks_7 : decode cX11_attacks 7 = .ok (.iconst 3, 1) := by decide +kernel
theorem dX11_attacks_8 : decode cX11_attacks 8 = .ok (.iconst 4, 1) := by decide +kernel
theorem dX11_attacks_9 : decode cX11_attacks 9 = .ok (.invokestatic 162, 3) := by decide +kernel
theorem dX11_attacks_12 : decode cX11_attacks 12 = .ok (.ifCond .eq 18, 3) := by decide +kernel
theorem dX11_attacks_15 : decode cX11_attacks 15 = .ok (.iload_n 3, 1) := by decide +kernel
theorem dX11_attacks_16 : decode cX11_attacks 16 = .ok (.iconst 0, 1) := by decide +kernel
theorem dX11_attacks_17 : decode cX11_attacks 17 = .ok (.iload_n 1, 1) := by decide +kernel
theorem dX11_attacks_18 : decode cX11_attacks 18 = .ok (.iconst 1, 1) := by decide +kernel
theorem dX11_attacks_19 : decode cX11_attacks 19 = .ok (.isub, 1) := by decide +kernel
theorem dX11_attacks_20 : decode cX11_attacks 20 = .ok (.invokestatic 162, 3) := by decide +kernel
theorem dX11_attacks_23 : decode cX11_attacks 23 = .ok (.ifCond .ne 7, 3) := by decide +kernel
theorem dX11_attacks_26 : decode cX11_attacks 26 = .ok (.iconst 1, 1) := by decide +kernel
theorem dX11_attacks_27 : decode cX11_attacks 27 = .ok (.goto 4, 3) := by decide +kernel
theorem dX11_attacks_30 : decode cX11_attacks 30 = .ok (.iconst 0, 1) := by decide +kernel
theorem dX11_attacks_31 : decode cX11_attacks 31 = .ok (.iconst 1, 1) := by decide +kernel
theorem dX11_attacks_32 : decode cX11_attacks 32 = .ok (.iconst 0, 1) := by decide +kernel
theorem dX11_attacks_33 : decode cX11_attacks 33 = .ok (.invokevirtual 166, 3) := by decide +kernel
theorem dX11_attacks_36 : decode cX11_attacks 36 = .ok (.ifCond .ne 45, 3) := by decide +kernel
theorem dX11_attacks_39 : decode cX11_attacks 39 = .ok (.aload_n 0, 1) := by decide +kernel
theorem dX11_attacks_40 : decode cX11_attacks 40 = .ok (.iload_n 1, 1) := by decide +kernel
theorem dX11_attacks_41 : decode cX11_attacks 41 = .ok (.iconst 3, 1) := by decide +kernel
theorem dX11_attacks_42 : decode cX11_attacks 42 = .ok (.iconst 4, 1) := by decide +kernel
theorem dX11_attacks_43 : decode cX11_attacks 43 = .ok (.invokestatic 162, 3) := by decide +kernel
theorem dX11_attacks_46 : decode cX11_attacks 46 = .ok (.ifCond .eq 22, 3) := by decide +kernel
theorem dX11_attacks_49 : decode cX11_attacks 49 = .ok (.iload_n 2, 1) := by decide +kernel
theorem dX11_attacks_50 : decode cX11_attacks 50 = .ok (.iconst 1, 1) := by decide +kernel
theorem dX11_attacks_51 : decode cX11_attacks 51 = .ok (.iconst 2, 1) := by decide +kernel
theorem dX11_attacks_52 : decode cX11_attacks 52 = .ok (.invokestatic 162, 3) := by decide +kernel
theorem dX11_attacks_55 : decode cX11_attacks 55 = .ok (.ifCond .eq 13, 3) := by decide +kernel
theorem dX11_attacks_58 : decode cX11_attacks 58 = .ok (.iload 4, 2) := by decide +kernel
theorem dX11_attacks_60 : decode cX11_attacks 60 = .ok (.iconst 0, 1) := by decide +kernel
theorem dX11_attacks_61 : decode cX11_attacks 61 = .ok (.iconst 3, 1) := by decide +kernel
theorem dX11_attacks_62 : decode cX11_attacks 62 = .ok (.invokestatic 162, 3) := by decide +kernel
theorem dX11_attacks_65 : decode cX11_attacks 65 = .ok (.ifCond .ne 7, 3) := by decide +kernel
theorem dX11_attacks_68 : decode cX11_attacks 68 = .ok (.iconst 1, 1) := by decide +kernel
theorem dX11_attacks_69 : decode cX11_attacks 69 = .ok (.goto 4, 3) := by decide +kernel
theorem dX11_attacks_72 : decode cX11_attacks 72 = .ok (.iconst 0, 1) := by decide +kernel
theorem dX11_attacks_73 : decode cX11_attacks 73 = .ok (.iconst 2, 1) := by decide +kernel
theorem dX11_attacks_74 : decode cX11_attacks 74 = .ok (.iconst 1, 1) := by decide +kernel
theorem dX11_attacks_75 : decode cX11_attacks 75 = .ok (.invokevirtual 166, 3) := by decide +kernel
theorem dX11_attacks_78 : decode cX11_attacks 78 = .ok (.ifCond .eq 5, 3) := by decide +kernel
theorem dX11_attacks_81 : decode cX11_attacks 81 = .ok (.iconst 0, 1) := by decide +kernel
theorem dX11_attacks_82 : decode cX11_attacks 82 = .ok (.ireturn, 1) := by decide +kernel
theorem dX11_attacks_83 : decode cX11_attacks 83 = .ok (.iload_n 1, 1) := by decide +kernel
theorem dX11_attacks_84 : decode cX11_attacks 84 = .ok (.iload_n 2, 1) := by decide +kernel
theorem dX11_attacks_85 : decode cX11_attacks 85 = .ok (.iload_n 3, 1) := by decide +kernel
theorem dX11_attacks_86 : decode cX11_attacks 86 = .ok (.invokestatic 517, 3) := by decide +kernel
theorem dX11_attacks_89 : decode cX11_attacks 89 = .ok (.invokestatic 514, 3) := by decide +kernel
theorem dX11_attacks_92 : decode cX11_attacks 92 = .ok (.istore 5, 2) := by decide +kernel
theorem dX11_attacks_94 : decode cX11_attacks 94 = .ok (.iconst 0, 1) := by decide +kernel
theorem dX11_attacks_95 : decode cX11_attacks 95 = .ok (.istore 6, 2) := by decide +kernel
theorem dX11_attacks_97 : decode cX11_attacks 97 = .ok (.iconst (-1), 1) := by decide +kernel
theorem dX11_attacks_98 : decode cX11_attacks 98 = .ok (.istore 7, 2) := by decide +kernel
theorem dX11_attacks_100 : decode cX11_attacks 100 = .ok (.iconst 0, 1) := by decide +kernel
theorem dX11_attacks_101 : decode cX11_attacks 101 = .ok (.istore 8, 2) := by decide +kernel
theorem dX11_attacks_103 : decode cX11_attacks 103 = .ok (.iconst 0, 1) := by decide +kernel
theorem dX11_attacks_104 : decode cX11_attacks 104 = .ok (.istore 9, 2) := by decide +kernel
theorem dX11_attacks_106 : decode cX11_attacks 106 = .ok (.iload 9, 2) := by decide +kernel
theorem dX11_attacks_108 : decode cX11_attacks 108 = .ok (.iload 5, 2) := by decide +kernel
theorem dX11_attacks_110 : decode cX11_attacks 110 = .ok (.if_icmp .ge 54, 3) := by decide +kernel
theorem dX11_attacks_113 : decode cX11_attacks 113 = .ok (.aload_n 0, 1) := by decide +kernel
theorem dX11_attacks_114 : decode cX11_attacks 114 = .ok (.iload_n 1, 1) := by decide +kernel
theorem dX11_attacks_115 : decode cX11_attacks 115 = .ok (.iload_n 2, 1) := by decide +kernel
theorem dX11_attacks_116 : decode cX11_attacks 116 = .ok (.iload_n 3, 1) := by decide +kernel
theorem dX11_attacks_117 : decode cX11_attacks 117 = .ok (.iload 9, 2) := by decide +kernel
theorem dX11_attacks_119 : decode cX11_attacks 119 = .ok (.invokevirtual 523, 3) := by decide +kernel
theorem dX11_attacks_122 : decode cX11_attacks 122 = .ok (.aload_n 0, 1) := by decide +kernel
theorem dX11_attacks_123 : decode cX11_attacks 123 = .ok (.iload_n 1, 1) := by decide +kernel
theorem dX11_attacks_124 : decode cX11_attacks 124 = .ok (.iload_n 3, 1) := by decide +kernel
theorem dX11_attacks_125 : decode cX11_attacks 125 = .ok (.invokevirtual 527, 3) := by decide +kernel
theorem dX11_attacks_128 : decode cX11_attacks 128 = .ok (.ifCond .ne 6, 3) := by decide +kernel
theorem dX11_attacks_131 : decode cX11_attacks 131 = .ok (.goto 27, 3) := by decide +kernel
theorem dX11_attacks_134 : decode cX11_attacks 134 = .ok (.iinc 6 1, 3) := by decide +kernel
theorem dX11_attacks_137 : decode cX11_attacks 137 = .ok (.iload 7, 2) := by decide +kernel
theorem dX11_attacks_139 : decode cX11_attacks 139 = .ok (.iconst (-1), 1) := by decide +kernel
theorem dX11_attacks_140 : decode cX11_attacks 140 = .ok (.if_icmp .eq 6, 3) := by decide +kernel
theorem dX11_attacks_143 : decode cX11_attacks 143 = .ok (.goto 15, 3) := by decide +kernel
theorem dX11_attacks_146 : decode cX11_attacks 146 = .ok (.iload 9, 2) := by decide +kernel
theorem dX11_attacks_148 : decode cX11_attacks 148 = .ok (.istore 7, 2) := by decide +kernel
theorem dX11_attacks_150 : decode cX11_attacks 150 = .ok (.aload_n 0, 1) := by decide +kernel
theorem dX11_attacks_151 : decode cX11_attacks 151 = .ok (.iload_n 1, 1) := by decide +kernel
theorem dX11_attacks_152 : decode cX11_attacks 152 = .ok (.iload_n 3, 1) := by decide +kernel
theorem dX11_attacks_153 : decode cX11_attacks 153 = .ok (.invokevirtual 530, 3) := by decide +kernel
theorem dX11_attacks_156 : decode cX11_attacks 156 = .ok (.istore 8, 2) := by decide +kernel
theorem dX11_attacks_158 : decode cX11_attacks 158 = .ok (.iinc 9 1, 3) := by decide +kernel
theorem dX11_attacks_161 : decode cX11_attacks 161 = .ok (.goto (-55), 3) := by decide +kernel
theorem dX11_attacks_164 : decode cX11_attacks 164 = .ok (.iload 4, 2) := by decide +kernel
theorem dX11_attacks_166 : decode cX11_attacks 166 = .ok (.ifCond .ne 8, 3) := by decide +kernel
theorem dX11_attacks_169 : decode cX11_attacks 169 = .ok (.iload 5, 2) := by decide +kernel
theorem dX11_attacks_171 : decode cX11_attacks 171 = .ok (.goto 27, 3) := by decide +kernel
theorem dX11_attacks_174 : decode cX11_attacks 174 = .ok (.iload 4, 2) := by decide +kernel
theorem dX11_attacks_176 : decode cX11_attacks 176 = .ok (.iconst 1, 1) := by decide +kernel
theorem dX11_attacks_177 : decode cX11_attacks 177 = .ok (.if_icmp .ne 8, 3) := by decide +kernel
theorem dX11_attacks_180 : decode cX11_attacks 180 = .ok (.iload 6, 2) := by decide +kernel
theorem dX11_attacks_182 : decode cX11_attacks 182 = .ok (.goto 16, 3) := by decide +kernel
theorem dX11_attacks_185 : decode cX11_attacks 185 = .ok (.iload 4, 2) := by decide +kernel
theorem dX11_attacks_187 : decode cX11_attacks 187 = .ok (.iconst 2, 1) := by decide +kernel
theorem dX11_attacks_188 : decode cX11_attacks 188 = .ok (.if_icmp .ne 8, 3) := by decide +kernel
theorem dX11_attacks_191 : decode cX11_attacks 191 = .ok (.iload 7, 2) := by decide +kernel
theorem dX11_attacks_193 : decode cX11_attacks 193 = .ok (.goto 5, 3) := by decide +kernel
theorem dX11_attacks_196 : decode cX11_attacks 196 = .ok (.iload 8, 2) := by decide +kernel
theorem dX11_attacks_198 : decode cX11_attacks 198 = .ok (.ireturn, 1) := by decide +kernel
theorem dX11_breaks_0 : decode cX11_breaks 0 = .ok (.aload_n 0, 1) := by decide +kernel
theorem dX11_breaks_1 : decode cX11_breaks 1 = .ok (.iconst 0, 1) := by decide +kernel
theorem dX11_breaks_2 : decode cX11_breaks 2 = .ok (.putfield 149, 3) := by decide +kernel
theorem dX11_breaks_5 : decode cX11_breaks 5 = .ok (.aload_n 0, 1) := by decide +kernel
theorem dX11_breaks_6 : decode cX11_breaks 6 = .ok (.iload_n 1, 1) := by decide +kernel
theorem dX11_breaks_7 : decode cX11_breaks 7 = .ok (.iconst 3, 1) := by decide +kernel
theorem dX11_breaks_8 : decode cX11_breaks 8 = .ok (.iconst 4, 1) := by decide +kernel
theorem dX11_breaks_9 : decode cX11_breaks 9 = .ok (.invokestatic 162, 3) := by decide +kernel
theorem dX11_breaks_12 : decode cX11_breaks 12 = .ok (.ifCond .eq 18, 3) := by decide +kernel
theorem dX11_breaks_15 : decode cX11_breaks 15 = .ok (.iload_n 3, 1) := by decide +kernel
theorem dX11_breaks_16 : decode cX11_breaks 16 = .ok (.iconst 0, 1) := by decide +kernel
theorem dX11_breaks_17 : decode cX11_breaks 17 = .ok (.iload_n 1, 1) := by decide +kernel
theorem dX11_breaks_18 : decode cX11_breaks 18 = .ok (.iconst 1, 1) := by decide +kernel
theorem dX11_breaks_19 : decode cX11_breaks 19 = .ok (.isub, 1) := by decide +kernel
theorem dX11_breaks_20 : decode cX11_breaks 20 = .ok (.invokestatic 162, 3) := by decide +kernel
theorem dX11_breaks_23 : decode cX11_breaks 23 = .ok (.ifCond .ne 7, 3) := by decide +kernel
theorem dX11_breaks_26 : decode cX11_breaks 26 = .ok (.iconst 1, 1) := by decide +kernel
theorem dX11_breaks_27 : decode cX11_breaks 27 = .ok (.goto 4, 3) := by decide +kernel
theorem dX11_breaks_30 : decode cX11_breaks 30 = .ok (.iconst 0, 1) := by decide +kernel
theorem dX11_breaks_31 : decode cX11_breaks 31 = .ok (.iconst 1, 1) := by decide +kernel
theorem dX11_breaks_32 : decode cX11_breaks 32 = .ok (.iconst 0, 1) := by decide +kernel
theorem dX11_breaks_33 : decode cX11_breaks 33 = .ok (.invokevirtual 166, 3) := by decide +kernel
theorem dX11_breaks_36 : decode cX11_breaks 36 = .ok (.ifCond .ne 35, 3) := by decide +kernel
theorem dX11_breaks_39 : decode cX11_breaks 39 = .ok (.aload_n 0, 1) := by decide +kernel
theorem dX11_breaks_40 : decode cX11_breaks 40 = .ok (.iload_n 1, 1) := by decide +kernel
theorem dX11_breaks_41 : decode cX11_breaks 41 = .ok (.iconst 3, 1) := by decide +kernel
theorem dX11_breaks_42 : decode cX11_breaks 42 = .ok (.iconst 4, 1) := by decide +kernel
theorem dX11_breaks_43 : decode cX11_breaks 43 = .ok (.invokestatic 162, 3) := by decide +kernel
theorem dX11_breaks_46 : decode cX11_breaks 46 = .ok (.ifCond .eq 12, 3) := by decide +kernel
theorem dX11_breaks_49 : decode cX11_breaks 49 = .ok (.iload_n 2, 1) := by decide +kernel
theorem dX11_breaks_50 : decode cX11_breaks 50 = .ok (.iconst 1, 1) := by decide +kernel
theorem dX11_breaks_51 : decode cX11_breaks 51 = .ok (.iconst 2, 1) := by decide +kernel
theorem dX11_breaks_52 : decode cX11_breaks 52 = .ok (.invokestatic 162, 3) := by decide +kernel
theorem dX11_breaks_55 : decode cX11_breaks 55 = .ok (.ifCond .ne 7, 3) := by decide +kernel
theorem dX11_breaks_58 : decode cX11_breaks 58 = .ok (.iconst 1, 1) := by decide +kernel
theorem dX11_breaks_59 : decode cX11_breaks 59 = .ok (.goto 4, 3) := by decide +kernel
theorem dX11_breaks_62 : decode cX11_breaks 62 = .ok (.iconst 0, 1) := by decide +kernel
theorem dX11_breaks_63 : decode cX11_breaks 63 = .ok (.iconst 2, 1) := by decide +kernel
theorem dX11_breaks_64 : decode cX11_breaks 64 = .ok (.iconst 1, 1) := by decide +kernel
theorem dX11_breaks_65 : decode cX11_breaks 65 = .ok (.invokevirtual 166, 3) := by decide +kernel
theorem dX11_breaks_68 : decode cX11_breaks 68 = .ok (.ifCond .eq 5, 3) := by decide +kernel
theorem dX11_breaks_71 : decode cX11_breaks 71 = .ok (.iconst 0, 1) := by decide +kernel
theorem dX11_breaks_72 : decode cX11_breaks 72 = .ok (.ireturn, 1) := by decide +kernel
theorem dX11_breaks_73 : decode cX11_breaks 73 = .ok (.aload_n 0, 1) := by decide +kernel
theorem dX11_breaks_74 : decode cX11_breaks 74 = .ok (.iload 4, 2) := by decide +kernel
theorem dX11_breaks_76 : decode cX11_breaks 76 = .ok (.iconst 0, 1) := by decide +kernel
theorem dX11_breaks_77 : decode cX11_breaks 77 = .ok (.iload_n 1, 1) := by decide +kernel
theorem dX11_breaks_78 : decode cX11_breaks 78 = .ok (.iload_n 2, 1) := by decide +kernel
theorem dX11_breaks_79 : decode cX11_breaks 79 = .ok (.iload_n 3, 1) := by decide +kernel
theorem dX11_breaks_80 : decode cX11_breaks 80 = .ok (.invokestatic 517, 3) := by decide +kernel
theorem dX11_breaks_83 : decode cX11_breaks 83 = .ok (.invokestatic 514, 3) := by decide +kernel
theorem dX11_breaks_86 : decode cX11_breaks 86 = .ok (.iconst 1, 1) := by decide +kernel
theorem dX11_breaks_87 : decode cX11_breaks 87 = .ok (.isub, 1) := by decide +kernel
theorem dX11_breaks_88 : decode cX11_breaks 88 = .ok (.invokestatic 162, 3) := by decide +kernel
theorem dX11_breaks_91 : decode cX11_breaks 91 = .ok (.ifCond .ne 7, 3) := by decide +kernel
theorem dX11_breaks_94 : decode cX11_breaks 94 = .ok (.iconst 1, 1) := by decide +kernel
theorem dX11_breaks_95 : decode cX11_breaks 95 = .ok (.goto 4, 3) := by decide +kernel
theorem dX11_breaks_98 : decode cX11_breaks 98 = .ok (.iconst 0, 1) := by decide +kernel
theorem dX11_breaks_99 : decode cX11_breaks 99 = .ok (.iconst 2, 1) := by decide +kernel
theorem dX11_breaks_100 : decode cX11_breaks 100 = .ok (.iconst 1, 1) := by decide +kernel
theorem dX11_breaks_101 : decode cX11_breaks 101 = .ok (.invokevirtual 166, 3) := by decide +kernel
theorem dX11_breaks_104 : decode cX11_breaks 104 = .ok (.ifCond .eq 5, 3) := by decide +kernel
theorem dX11_breaks_107 : decode cX11_breaks 107 = .ok (.iconst 0, 1) := by decide +kernel
theorem dX11_breaks_108 : decode cX11_breaks 108 = .ok (.ireturn, 1) := by decide +kernel
theorem dX11_breaks_109 : decode cX11_breaks 109 = .ok (.aload_n 0, 1) := by decide +kernel
theorem dX11_breaks_110 : decode cX11_breaks 110 = .ok (.iload_n 1, 1) := by decide +kernel
theorem dX11_breaks_111 : decode cX11_breaks 111 = .ok (.iload_n 2, 1) := by decide +kernel
theorem dX11_breaks_112 : decode cX11_breaks 112 = .ok (.iload_n 3, 1) := by decide +kernel
theorem dX11_breaks_113 : decode cX11_breaks 113 = .ok (.iload 4, 2) := by decide +kernel
theorem dX11_breaks_115 : decode cX11_breaks 115 = .ok (.invokevirtual 523, 3) := by decide +kernel
theorem dX11_breaks_118 : decode cX11_breaks 118 = .ok (.aload_n 0, 1) := by decide +kernel
theorem dX11_breaks_119 : decode cX11_breaks 119 = .ok (.iload_n 1, 1) := by decide +kernel
theorem dX11_breaks_120 : decode cX11_breaks 120 = .ok (.iload_n 3, 1) := by decide +kernel
theorem dX11_breaks_121 : decode cX11_breaks 121 = .ok (.invokevirtual 527, 3) := by decide +kernel
theorem dX11_breaks_124 : decode cX11_breaks 124 = .ok (.ireturn, 1) := by decide +kernel
theorem dX11_status_0 : decode cX11_status 0 = .ok (.aload_n 0, 1) := by decide +kernel
theorem dX11_status_1 : decode cX11_status 1 = .ok (.iconst 0, 1) := by decide +kernel
theorem dX11_status_2 : decode cX11_status 2 = .ok (.putfield 149, 3) := by decide +kernel
theorem dX11_status_5 : decode cX11_status 5 = .ok (.iload_n 1, 1) := by decide +kernel
theorem dX11_status_6 : decode cX11_status 6 = .ok (.iconst 0, 1) := by decide +kernel
theorem dX11_status_7 : decode cX11_status 7 = .ok (.iconst 1, 1) := by decide +kernel
theorem dX11_status_8 : decode cX11_status 8 = .ok (.invokestatic 162, 3) := by decide +kernel
theorem dX11_status_11 : decode cX11_status 11 = .ok (.ifCond .eq 12, 3) := by decide +kernel
theorem dX11_status_14 : decode cX11_status 14 = .ok (.aload_n 0, 1) := by decide +kernel
theorem dX11_status_15 : decode cX11_status 15 = .ok (.getfield 7, 3) := by decide +kernel
theorem dX11_status_18 : decode cX11_status 18 = .ok (.iload_n 1, 1) := by decide +kernel
theorem dX11_status_19 : decode cX11_status 19 = .ok (.iaload, 1) := by decide +kernel
theorem dX11_status_20 : decode cX11_status 20 = .ok (.goto 4, 3) := by decide +kernel
theorem dX11_status_23 : decode cX11_status 23 = .ok (.iconst (-1), 1) := by decide +kernel
theorem dX11_status_24 : decode cX11_status 24 = .ok (.ireturn, 1) := by decide +kernel
