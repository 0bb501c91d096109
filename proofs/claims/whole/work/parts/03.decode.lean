theorem dX12_init_0 : decode cX12_init 0 = .ok (.aload_n 0, 1) := by decide +kernel
theorem dX12_init_1 : decode cX12_init 1 = .ok (.invokespecial 1, 3) := by decide +kernel
theorem dX12_init_4 : decode cX12_init 4 = .ok (.aload_n 0, 1) := by decide +kernel
theorem dX12_init_5 : decode cX12_init 5 = .ok (.sipush 1620, 3) := by decide +kernel
theorem dX12_init_8 : decode cX12_init 8 = .ok (.newarray .byte, 2) := by decide +kernel
theorem dX12_init_10 : decode cX12_init 10 = .ok (.putfield 7, 3) := by decide +kernel
theorem dX12_init_13 : decode cX12_init 13 = .ok (.aload_n 0, 1) := by decide +kernel
theorem dX12_init_14 : decode cX12_init 14 = .ok (.sipush 1600, 3) := by decide +kernel
theorem dX12_init_17 : decode cX12_init 17 = .ok (.newarray .byte, 2) := by decide +kernel
theorem dX12_init_19 : decode cX12_init 19 = .ok (.putfield 13, 3) := by decide +kernel
theorem dX12_init_22 : decode cX12_init 22 = .ok (.aload_n 0, 1) := by decide +kernel
theorem dX12_init_23 : decode cX12_init 23 = .ok (.iconst (-1), 1) := by decide +kernel
theorem dX12_init_24 : decode cX12_init 24 = .ok (.putfield 16, 3) := by decide +kernel
theorem dX12_init_27 : decode cX12_init 27 = .ok (.aload_n 0, 1) := by decide +kernel
theorem dX12_init_28 : decode cX12_init 28 = .ok (.iconst 2, 1) := by decide +kernel
theorem dX12_init_29 : decode cX12_init 29 = .ok (.newarray .int, 2) := by decide +kernel
theorem dX12_init_31 : decode cX12_init 31 = .ok (.putfield 20, 3) := by decide +kernel
theorem dX12_init_34 : decode cX12_init 34 = .ok (.aload_n 0, 1) := by decide +kernel
theorem dX12_init_35 : decode cX12_init 35 = .ok (.iconst 2, 1) := by decide +kernel
theorem dX12_init_36 : decode cX12_init 36 = .ok (.newarray .int, 2) := by decide +kernel
theorem dX12_init_38 : decode cX12_init 38 = .ok (.putfield 24, 3) := by decide +kernel
theorem dX12_init_41 : decode cX12_init 41 = .ok (.aload_n 0, 1) := by decide +kernel
theorem dX12_init_42 : decode cX12_init 42 = .ok (.iconst 2, 1) := by decide +kernel
theorem dX12_init_43 : decode cX12_init 43 = .ok (.newarray .int, 2) := by decide +kernel
theorem dX12_init_45 : decode cX12_init 45 = .ok (.putfield 27, 3) := by decide +kernel
theorem dX12_init_48 : decode cX12_init 48 = .ok (.aload_n 0, 1) := by decide +kernel
theorem dX12_init_49 : decode cX12_init 49 = .ok (.iconst 3, 1) := by decide +kernel
theorem dX12_init_50 : decode cX12_init 50 = .ok (.newarray .int, 2) := by decide +kernel
theorem dX12_init_52 : decode cX12_init 52 = .ok (.putfield 30, 3) := by decide +kernel
theorem dX12_init_55 : decode cX12_init 55 = .ok (.aload_n 0, 1) := by decide +kernel
theorem dX12_init_56 : decode cX12_init 56 = .ok (.iconst 2, 1) := by decide +kernel
theorem dX12_init_57 : decode cX12_init 57 = .ok (.newarray .int, 2) := by decide +kernel
theorem dX12_init_59 : decode cX12_init 59 = .ok (.putfield 33, 3) := by decide +kernel
theorem dX12_init_62 : decode cX12_init 62 = .ok (.aload_n 0, 1) := by decide +kernel
theorem dX12_init_63 : decode cX12_init 63 = .ok (.bipush 16, 2) := by decide +kernel
theorem dX12_init_65 : decode cX12_init 65 = .ok (.newarray .int, 2) := by decide +kernel
theorem dX12_init_67 : decode cX12_init 67 = .ok (.putfield 36, 3) := by decide +kernel
theorem dX12_init_70 : decode cX12_init 70 = .ok (.aload_n 0, 1) := by decide +kernel
theorem dX12_init_71 : decode cX12_init 71 = .ok (.bipush 12, 2) := by decide +kernel
theorem dX12_init_73 : decode cX12_init 73 = .ok (.newarray .int, 2) := by decide +kernel
theorem dX12_init_75 : decode cX12_init 75 = .ok (.putfield 39, 3) := by decide +kernel
theorem dX12_init_78 : decode cX12_init 78 = .ok (.aload_n 0, 1) := by decide +kernel
theorem dX12_init_79 : decode cX12_init 79 = .ok (.bipush 12, 2) := by decide +kernel
theorem dX12_init_81 : decode cX12_init 81 = .ok (.newarray .int, 2) := by decide +kernel
theorem dX12_init_83 : decode cX12_init 83 = .ok (.putfield 42, 3) := by decide +kernel
theorem dX12_init_86 : decode cX12_init 86 = .ok (.aload_n 0, 1) := by decide +kernel
theorem dX12_init_87 : decode cX12_init 87 = .ok (.iconst 2, 1) := by decide +kernel
theorem dX12_init_88 : decode cX12_init 88 = .ok (.newarray .boolean, 2) := by decide +kernel
theorem dX12_init_90 : decode cX12_init 90 = .ok (.putfield 45, 3) := by decide +kernel
theorem dX12_init_93 : decode cX12_init 93 = .ok (.aload_n 0, 1) := by decide +kernel
theorem dX12_init_94 : decode cX12_init 94 = .ok (.iconst 2, 1) := by decide +kernel
theorem dX12_init_95 : decode cX12_init 95 = .ok (.newarray .boolean, 2) := by decide +kernel
theorem dX12_init_97 : decode cX12_init 97 = .ok (.putfield 49, 3) := by decide +kernel
theorem dX12_init_100 : decode cX12_init 100 = .ok (.aload_n 0, 1) := by decide +kernel
theorem dX12_init_101 : decode cX12_init 101 = .ok (.bipush 16, 2) := by decide +kernel
theorem dX12_init_103 : decode cX12_init 103 = .ok (.newarray .boolean, 2) := by decide +kernel
theorem dX12_init_105 : decode cX12_init 105 = .ok (.putfield 52, 3) := by decide +kernel
theorem dX12_init_108 : decode cX12_init 108 = .ok (.aload_n 0, 1) := by decide +kernel
theorem dX12_init_109 : decode cX12_init 109 = .ok (.bipush 16, 2) := by decide +kernel
theorem dX12_init_111 : decode cX12_init 111 = .ok (.newarray .long, 2) := by decide +kernel
theorem dX12_init_113 : decode cX12_init 113 = .ok (.putfield 55, 3) := by decide +kernel
theorem dX12_init_116 : decode cX12_init 116 = .ok (.aload_n 0, 1) := by decide +kernel
theorem dX12_init_117 : decode cX12_init 117 = .ok (.sipush 2100, 3) := by decide +kernel
theorem dX12_init_120 : decode cX12_init 120 = .ok (.newarray .int, 2) := by decide +kernel
theorem dX12_init_122 : decode cX12_init 122 = .ok (.putfield 59, 3) := by decide +kernel
theorem dX12_init_125 : decode cX12_init 125 = .ok (.aload_n 0, 1) := by decide +kernel
theorem dX12_init_126 : decode cX12_init 126 = .ok (.sipush 2100, 3) := by decide +kernel
theorem dX12_init_129 : decode cX12_init 129 = .ok (.newarray .int, 2) := by decide +kernel
theorem dX12_init_131 : decode cX12_init 131 = .ok (.putfield 62, 3) := by decide +kernel
theorem dX12_init_134 : decode cX12_init 134 = .ok (.aload_n 0, 1) := by decide +kernel
theorem dX12_init_135 : decode cX12_init 135 = .ok (.bipush 90, 2) := by decide +kernel
theorem dX12_init_137 : decode cX12_init 137 = .ok (.newarray .int, 2) := by decide +kernel
theorem dX12_init_139 : decode cX12_init 139 = .ok (.putfield 65, 3) := by decide +kernel
theorem dX12_init_142 : decode cX12_init 142 = .ok (.aload_n 0, 1) := by decide +kernel
theorem dX12_init_143 : decode cX12_init 143 = .ok (.bipush 90, 2) := by decide +kernel
theorem dX12_init_145 : decode cX12_init 145 = .ok (.newarray .int, 2) := by decide +kernel
theorem dX12_init_147 : decode cX12_init 147 = .ok (.putfield 68, 3) := by decide +kernel
theorem dX12_init_150 : decode cX12_init 150 = .ok (.aload_n 0, 1) := by decide +kernel
theorem dX12_init_151 : decode cX12_init 151 = .ok (.bipush 90, 2) := by decide +kernel
theorem dX12_init_153 : decode cX12_init 153 = .ok (.newarray .int, 2) := by decide +kernel
theorem dX12_init_155 : decode cX12_init 155 = .ok (.putfield 71, 3) := by decide +kernel
theorem dX12_init_158 : decode cX12_init 158 = .ok (.aload_n 0, 1) := by decide +kernel
theorem dX12_init_159 : decode cX12_init 159 = .ok (.sipush 256, 3) := by decide +kernel
theorem dX12_init_162 : decode cX12_init 162 = .ok (.newarray .boolean, 2) := by decide +kernel
theorem dX12_init_164 : decode cX12_init 164 = .ok (.putfield 74, 3) := by decide +kernel
theorem dX12_init_167 : decode cX12_init 167 = .ok (.aload_n 0, 1) := by decide +kernel
theorem dX12_init_168 : decode cX12_init 168 = .ok (.sipush 2048, 3) := by decide +kernel
theorem dX12_init_171 : decode cX12_init 171 = .ok (.newarray .boolean, 2) := by decide +kernel
theorem dX12_init_173 : decode cX12_init 173 = .ok (.putfield 77, 3) := by decide +kernel
theorem dX12_init_176 : decode cX12_init 176 = .ok (.aload_n 0, 1) := by decide +kernel
theorem dX12_init_177 : decode cX12_init 177 = .ok (.bipush 8, 2) := by decide +kernel
theorem dX12_init_179 : decode cX12_init 179 = .ok (.newarray .int, 2) := by decide +kernel
theorem dX12_init_181 : decode cX12_init 181 = .ok (.putfield 80, 3) := by decide +kernel
theorem dX12_init_184 : decode cX12_init 184 = .ok (.aload_n 0, 1) := by decide +kernel
theorem dX12_init_185 : decode cX12_init 185 = .ok (.sipush 12288, 3) := by decide +kernel
theorem dX12_init_188 : decode cX12_init 188 = .ok (.newarray .int, 2) := by decide +kernel
theorem dX12_init_190 : decode cX12_init 190 = .ok (.putfield 83, 3) := by decide +kernel
theorem dX12_init_193 : decode cX12_init 193 = .ok (.aload_n 0, 1) := by decide +kernel
theorem dX12_init_194 : decode cX12_init 194 = .ok (.sipush 256, 3) := by decide +kernel
theorem dX12_init_197 : decode cX12_init 197 = .ok (.newarray .int, 2) := by decide +kernel
theorem dX12_init_199 : decode cX12_init 199 = .ok (.putfield 86, 3) := by decide +kernel
theorem dX12_init_202 : decode cX12_init 202 = .ok (.aload_n 0, 1) := by decide +kernel
theorem dX12_init_203 : decode cX12_init 203 = .ok (.sipush 256, 3) := by decide +kernel
theorem dX12_init_206 : decode cX12_init 206 = .ok (.newarray .int, 2) := by decide +kernel
theorem dX12_init_208 : decode cX12_init 208 = .ok (.putfield 89, 3) := by decide +kernel
theorem dX12_init_211 : decode cX12_init 211 = .ok (.aload_n 0, 1) := by decide +kernel
theorem dX12_init_212 : decode cX12_init 212 = .ok (.sipush 256, 3) := by decide +kernel
theorem dX12_init_215 : decode cX12_init 215 = .ok (.newarray .int, 2) := by decide +kernel
theorem dX12_init_217 : decode cX12_init 217 = .ok (.putfield 92, 3) := by decide +kernel
theorem dX12_init_220 : decode cX12_init 220 = .ok (.aload_n 0, 1) := by decide +kernel
theorem dX12_init_221 : decode cX12_init 221 = .ok (.sipush 256, 3) := by decide +kernel
theorem dX12_init_224 : decode cX12_init 224 = .ok (.newarray .boolean, 2) := by decide +kernel
theorem dX12_init_226 : decode cX12_init 226 = .ok (.putfield 95, 3) := by decide +kernel
theorem dX12_init_229 : decode cX12_init 229 = .ok (.aload_n 0, 1) := by decide +kernel
theorem dX12_init_230 : decode cX12_init 230 = .ok (.sipush 256, 3) := by decide +kernel
theorem dX12_init_233 : decode cX12_init 233 = .ok (.newarray .int, 2) := by decide +kernel
theorem dX12_init_235 : decode cX12_init 235 = .ok (.putfield 98, 3) := by decide +kernel
theorem dX12_init_238 : decode cX12_init 238 = .ok (.aload_n 0, 1) := by decide +kernel
theorem dX12_init_239 : decode cX12_init 239 = .ok (.bipush 20, 2) := by decide +kernel
theorem dX12_init_241 : decode cX12_init 241 = .ok (.newarray .int, 2) := by decide +kernel
theorem dX12_init_243 : decode cX12_init 243 = .ok (.putfield 101, 3) := by decide +kernel
theorem dX12_init_246 : decode cX12_init 246 = .ok (.aload_n 0, 1) := by decide +kernel
theorem dX12_init_247 : decode cX12_init 247 = .ok (.bipush 20, 2) := by decide +kernel
theorem dX12_init_249 : decode cX12_init 249 = .ok (.newarray .int, 2) := by decide +kernel
theorem dX12_init_251 : decode cX12_init 251 = .ok (.putfield 104, 3) := by decide +kernel
theorem dX12_init_254 : decode cX12_init 254 = .ok (.aload_n 0, 1) := by decide +kernel
theorem dX12_init_255 : decode cX12_init 255 = .ok (.bipush 20, 2) := by decide +kernel
theorem dX12_init_257 : decode cX12_init 257 = .ok (.newarray .int, 2) := by decide +kernel
theorem dX12_init_259 : decode cX12_init 259 = .ok (.putfield 107, 3) := by decide +kernel
theorem dX12_init_262 : decode cX12_init 262 = .ok (.aload_n 0, 1) := by decide +kernel
theorem dX12_init_263 : decode cX12_init 263 = .ok (.bipush 20, 2) := by decide +kernel
theorem dX12_init_265 : decode cX12_init 265 = .ok (.newarray .int, 2) := by decide +kernel
theorem dX12_init_267 : decode cX12_init 267 = .ok (.putfield 110, 3) := by decide +kernel
theorem dX12_init_270 : decode cX12_init 270 = .ok (.aload_n 0, 1) := by decide +kernel
theorem dX12_init_271 : decode cX12_init 271 = .ok (.bipush 64, 2) := by decide +kernel
theorem dX12_init_273 : decode cX12_init 273 = .ok (.newarray .int, 2) := by decide +kernel
theorem dX12_init_275 : decode cX12_init 275 = .ok (.putfield 113, 3) := by decide +kernel
theorem dX12_init_278 : decode cX12_init 278 = .ok (.aload_n 0, 1) := by decide +kernel
theorem dX12_init_279 : decode cX12_init 279 = .ok (.bipush 64, 2) := by decide +kernel
theorem dX12_init_281 : decode cX12_init 281 = .ok (.newarray .int, 2) := by decide +kernel
theorem dX12_init_283 : decode cX12_init 283 = .ok (.putfield 116, 3) := by decide +kernel
theorem dX12_init_286 : decode cX12_init 286 = .ok (.aload_n 0, 1) := by decide +kernel
theorem dX12_init_287 : decode cX12_init 287 = .ok (.bipush 64, 2) := by decide +kernel
theorem dX12_init_289 : decode cX12_init 289 = .ok (.newarray .int, 2) := by decide +kernel
theorem dX12_init_291 : decode cX12_init 291 = .ok (.putfield 119, 3) := by decide +kernel
theorem dX12_init_294 : decode cX12_init 294 = .ok (.aload_n 0, 1) := by decide +kernel
theorem dX12_init_295 : decode cX12_init 295 = .ok (.bipush 64, 2) := by decide +kernel
theorem dX12_init_297 : decode cX12_init 297 = .ok (.newarray .int, 2) := by decide +kernel
theorem dX12_init_299 : decode cX12_init 299 = .ok (.putfield 122, 3) := by decide +kernel
theorem dX12_init_302 : decode cX12_init 302 = .ok (.aload_n 0, 1) := by decide +kernel
theorem dX12_init_303 : decode cX12_init 303 = .ok (.bipush 20, 2) := by decide +kernel
theorem dX12_init_305 : decode cX12_init 305 = .ok (.newarray .boolean, 2) := by decide +kernel
theorem dX12_init_307 : decode cX12_init 307 = .ok (.putfield 125, 3) := by decide +kernel
theorem dX12_init_310 : decode cX12_init 310 = .ok (.aload_n 0, 1) := by decide +kernel
theorem dX12_init_311 : decode cX12_init 311 = .ok (.bipush 64, 2) := by decide +kernel
theorem dX12_init_313 : decode cX12_init 313 = .ok (.newarray .boolean, 2) := by decide +kernel
theorem dX12_init_315 : decode cX12_init 315 = .ok (.putfield 128, 3) := by decide +kernel
theorem dX12_init_318 : decode cX12_init 318 = .ok (.aload_n 0, 1) := by decide +kernel
theorem dX12_init_319 : decode cX12_init 319 = .ok (.iconst 4, 1) := by decide +kernel
theorem dX12_init_320 : decode cX12_init 320 = .ok (.newarray .int, 2) := by decide +kernel
theorem dX12_init_322 : decode cX12_init 322 = .ok (.putfield 131, 3) := by decide +kernel
theorem dX12_init_325 : decode cX12_init 325 = .ok (.aload_n 0, 1) := by decide +kernel
theorem dX12_init_326 : decode cX12_init 326 = .ok (.iconst 4, 1) := by decide +kernel
theorem dX12_init_327 : decode cX12_init 327 = .ok (.newarray .int, 2) := by decide +kernel
theorem dX12_init_329 : decode cX12_init 329 = .ok (.putfield 134, 3) := by decide +kernel
theorem dX12_init_332 : decode cX12_init 332 = .ok (.aload_n 0, 1) := by decide +kernel
theorem dX12_init_333 : decode cX12_init 333 = .ok (.iconst 4, 1) := by decide +kernel
theorem dX12_init_334 : decode cX12_init 334 = .ok (.newarray .int, 2) := by decide +kernel
theorem dX12_init_336 : decode cX12_init 336 = .ok (.putfield 137, 3) := by decide +kernel
theorem dX12_init_339 : decode cX12_init 339 = .ok (.aload_n 0, 1) := by decide +kernel
theorem dX12_init_340 : decode cX12_init 340 = .ok (.bipush 32, 2) := by decide +kernel
theorem dX12_init_342 : decode cX12_init 342 = .ok (.newarray .int, 2) := by decide +kernel
theorem dX12_init_344 : decode cX12_init 344 = .ok (.putfield 140, 3) := by decide +kernel
theorem dX12_init_347 : decode cX12_init 347 = .ok (.aload_n 0, 1) := by decide +kernel
theorem dX12_init_348 : decode cX12_init 348 = .ok (.sipush 1024, 3) := by decide +kernel
theorem dX12_init_351 : decode cX12_init 351 = .ok (.newarray .boolean, 2) := by decide +kernel
theorem dX12_init_353 : decode cX12_init 353 = .ok (.putfield 143, 3) := by decide +kernel
theorem dX12_init_356 : decode cX12_init 356 = .ok (.aload_n 0, 1) := by decide +kernel
theorem dX12_init_357 : decode cX12_init 357 = .ok (.sipush 8192, 3) := by decide +kernel
theorem dX12_init_360 : decode cX12_init 360 = .ok (.newarray .boolean, 2) := by decide +kernel
theorem dX12_init_362 : decode cX12_init 362 = .ok (.putfield 146, 3) := by decide +kernel
theorem dX12_init_365 : decode cX12_init 365 = .ok (.aload_n 0, 1) := by decide +kernel
theorem dX12_init_366 : decode cX12_init 366 = .ok (.invokevirtual 149, 3) := by decide +kernel
theorem dX12_init_369 : decode cX12_init 369 = .ok (.aload_n 0, 1) := by decide +kernel
theorem dX12_init_370 : decode cX12_init 370 = .ok (.invokevirtual 152, 3) := by decide +kernel
theorem dX12_init_373 : decode cX12_init 373 = .ok (.iconst 0, 1) := by decide +kernel
theorem dX12_init_374 : decode cX12_init 374 = .ok (.istore_n 1, 1) := by decide +kernel
theorem dX12_init_375 : decode cX12_init 375 = .ok (.iload_n 1, 1) := by decide +kernel
theorem dX12_init_376 : decode cX12_init 376 = .ok (.iconst 4, 1) := by decide +kernel
theorem dX12_init_377 : decode cX12_init 377 = .ok (.if_icmp .ge 16, 3) := by decide +kernel
theorem dX12_init_380 : decode cX12_init 380 = .ok (.aload_n 0, 1) := by decide +kernel
theorem dX12_init_381 : decode cX12_init 381 = .ok (.getfield 131, 3) := by decide +kernel
theorem dX12_init_384 : decode cX12_init 384 = .ok (.iload_n 1, 1) := by decide +kernel
theorem dX12_init_385 : decode cX12_init 385 = .ok (.iconst (-1), 1) := by decide +kernel
theorem dX12_init_386 : decode cX12_init 386 = .ok (.iastore, 1) := by decide +kernel
theorem dX12_init_387 : decode cX12_init 387 = .ok (.iinc 1 1, 3) := by decide +kernel
theorem dX12_init_390 : decode cX12_init 390 = .ok (.goto (-15), 3) := by decide +kernel
theorem dX12_init_393 : decode cX12_init 393 = .ok (.return_, 1) := by decide +kernel
theorem dX12_sign_0 : decode cX12_sign 0 = .ok (.iload_n 1, 1) := by decide +kernel
theorem dX12_sign_1 : decode cX12_sign 1 = .ok (.aload_n 0, 1) := by decide +kernel
theorem dX12_sign_2 : decode cX12_sign 2 = .ok (.getfield 155, 3) := by decide +kernel
theorem dX12_sign_5 : decode cX12_sign 5 = .ok (.if_icmp .ge 16, 3) := by decide +kernel
theorem dX12_sign_8 : decode cX12_sign 8 = .ok (.aload_n 0, 1) := by decide +kernel
theorem dX12_sign_9 : decode cX12_sign 9 = .ok (.getfield 13, 3) := by decide +kernel
theorem dX12_sign_12 : decode cX12_sign 12 = .ok (.iload_n 1, 1) := by decide +kernel
theorem dX12_sign_13 : decode cX12_sign 13 = .ok (.baload, 1) := by decide +kernel
theorem dX12_sign_14 : decode cX12_sign 14 = .ok (.sipush 255, 3) := by decide +kernel
theorem dX12_sign_17 : decode cX12_sign 17 = .ok (.iand, 1) := by decide +kernel
theorem dX12_sign_18 : decode cX12_sign 18 = .ok (.goto 4, 3) := by decide +kernel
theorem dX12_sign_21 : decode cX12_sign 21 = .ok (.iconst 0, 1) := by decide +kernel
theorem dX12_sign_22 : decode cX12_sign 22 = .ok (.ireturn, 1) := by decide +kernel
theorem dX12_isLetter_0 : decode cX12_isLetter 0 = .ok (.iload_n 0, 1) := by decide +kernel
theorem dX12_isLetter_1 : decode cX12_isLetter 1 = .ok (.bipush 97, 2) := by decide +kernel
theorem dX12_isLetter_3 : decode cX12_isLetter 3 = .ok (.if_icmp .lt 13, 3) := by decide +kernel
theorem dX12_isLetter_6 : decode cX12_isLetter 6 = .ok (.iload_n 0, 1) := by decide +kernel
theorem dX12_isLetter_7 : decode cX12_isLetter 7 = .ok (.bipush 122, 2) := by decide +kernel
theorem dX12_isLetter_9 : decode cX12_isLetter 9 = .ok (.if_icmp .gt 7, 3) := by decide +kernel
theorem dX12_isLetter_12 : decode cX12_isLetter 12 = .ok (.iconst 1, 1) := by decide +kernel
theorem dX12_isLetter_13 : decode cX12_isLetter 13 = .ok (.goto 4, 3) := by decide +kernel
theorem dX12_isLetter_16 : decode cX12_isLetter 16 = .ok (.iconst 0, 1) := by decide +kernel
theorem dX12_isLetter_17 : decode cX12_isLetter 17 = .ok (.ireturn, 1) := by decide +kernel
theorem dX12_isDigit_0 : decode cX12_isDigit 0 = .ok (.iload_n 0, 1) := by decide +kernel
theorem dX12_isDigit_1 : decode cX12_isDigit 1 = .ok (.bipush 48, 2) := by decide +kernel
theorem dX12_isDigit_3 : decode cX12_isDigit 3 = .ok (.if_icmp .lt 13, 3) := by decide +kernel
theorem dX12_isDigit_6 : decode cX12_isDigit 6 = .ok (.iload_n 0, 1) := by decide +kernel
theorem dX12_isDigit_7 : decode cX12_isDigit 7 = .ok (.bipush 57, 2) := by decide +kernel
theorem dX12_isDigit_9 : decode cX12_isDigit 9 = .ok (.if_icmp .gt 7, 3) := by decide +kernel
theorem dX12_isDigit_12 : decode cX12_isDigit 12 = .ok (.iconst 1, 1) := by decide +kernel
theorem dX12_isDigit_13 : decode cX12_isDigit 13 = .ok (.goto 4, 3) := by decide +kernel
theorem dX12_isDigit_16 : decode cX12_isDigit 16 = .ok (.iconst 0, 1) := by decide +kernel
theorem dX12_isDigit_17 : decode cX12_isDigit 17 = .ok (.ireturn, 1) := by decide +kernel
theorem dX12_fails_0 : decode cX12_fails 0 = .ok (.aload_n 0, 1) := by decide +kernel
theorem dX12_fails_1 : decode cX12_fails 1 = .ok (.getfield 158, 3) := by decide +kernel
theorem dX12_fails_4 : decode cX12_fails 4 = .ok (.ifCond .le 4, 3) := by decide +kernel
theorem dX12_fails_7 : decode cX12_fails 7 = .ok (.return_, 1) := by decide +kernel
theorem dX12_fails_8 : decode cX12_fails 8 = .ok (.aload_n 0, 1) := by decide +kernel
theorem dX12_fails_9 : decode cX12_fails 9 = .ok (.iload_n 1, 1) := by decide +kernel
theorem dX12_fails_10 : decode cX12_fails 10 = .ok (.putfield 158, 3) := by decide +kernel
theorem dX12_fails_13 : decode cX12_fails 13 = .ok (.aload_n 0, 1) := by decide +kernel
theorem dX12_fails_14 : decode cX12_fails 14 = .ok (.iload_n 2, 1) := by decide +kernel
theorem dX12_fails_15 : decode cX12_fails 15 = .ok (.putfield 16, 3) := by decide +kernel
theorem dX12_fails_18 : decode cX12_fails 18 = .ok (.return_, 1) := by decide +kernel
theorem dX12_isGood_0 : decode cX12_isGood 0 = .ok (.aload_n 0, 1) := by decide +kernel
theorem dX12_isGood_1 : decode cX12_isGood 1 = .ok (.getfield 158, 3) := by decide +kernel
theorem dX12_isGood_4 : decode cX12_isGood 4 = .ok (.ifCond .ne 7, 3) := by decide +kernel
theorem dX12_isGood_7 : decode cX12_isGood 7 = .ok (.iconst 1, 1) := by decide +kernel
theorem dX12_isGood_8 : decode cX12_isGood 8 = .ok (.goto 4, 3) := by decide +kernel
theorem dX12_isGood_11 : decode cX12_isGood 11 = .ok (.iconst 0, 1) := by decide +kernel
theorem dX12_isGood_12 : decode cX12_isGood 12 = .ok (.ireturn, 1) := by decide +kernel
theorem dX12_isKept_0 : decode cX12_isKept 0 = .ok (.lload_n 0, 1) := by decide +kernel
theorem dX12_isKept_1 : decode cX12_isKept 1 = .ok (.ldc2_w 161, 3) := by decide +kernel
theorem dX12_isKept_4 : decode cX12_isKept 4 = .ok (.lcmp, 1) := by decide +kernel
theorem dX12_isKept_5 : decode cX12_isKept 5 = .ok (.ifCond .eq 67, 3) := by decide +kernel
theorem dX12_isKept_8 : decode cX12_isKept 8 = .ok (.lload_n 0, 1) := by decide +kernel
theorem dX12_isKept_9 : decode cX12_isKept 9 = .ok (.ldc2_w 163, 3) := by decide +kernel
theorem dX12_isKept_12 : decode cX12_isKept 12 = .ok (.lcmp, 1) := by decide +kernel
theorem dX12_isKept_13 : decode cX12_isKept 13 = .ok (.ifCond .eq 59, 3) := by decide +kernel
theorem dX12_isKept_16 : decode cX12_isKept 16 = .ok (.lload_n 0, 1) := by decide +kernel
theorem dX12_isKept_17 : decode cX12_isKept 17 = .ok (.ldc2_w 165, 3) := by decide +kernel
theorem dX12_isKept_20 : decode cX12_isKept 20 = .ok (.lcmp, 1) := by decide +kernel
theorem dX12_isKept_21 : decode cX12_isKept 21 = .ok (.ifCond .eq 51, 3) := by decide +kernel
theorem dX12_isKept_24 : decode cX12_isKept 24 = .ok (.lload_n 0, 1) := by decide +kernel
theorem dX12_isKept_25 : decode cX12_isKept 25 = .ok (.ldc2_w 167, 3) := by decide +kernel
theorem dX12_isKept_28 : decode cX12_isKept 28 = .ok (.lcmp, 1) := by decide +kernel
theorem dX12_isKept_29 : decode cX12_isKept 29 = .ok (.ifCond .eq 43, 3) := by decide +kernel
theorem dX12_isKept_32 : decode cX12_isKept 32 = .ok (.lload_n 0, 1) := by decide +kernel
theorem dX12_isKept_33 : decode cX12_isKept 33 = .ok (.ldc2_w 169, 3) := by decide +kernel
theorem dX12_isKept_36 : decode cX12_isKept 36 = .ok (.lcmp, 1) := by decide +kernel
theorem dX12_isKept_37 : decode cX12_isKept 37 = .ok (.ifCond .eq 35, 3) := by decide +kernel
theorem dX12_isKept_40 : decode cX12_isKept 40 = .ok (.lload_n 0, 1) := by decide +kernel
theorem dX12_isKept_41 : decode cX12_isKept 41 = .ok (.ldc2_w 171, 3) := by decide +kernel
theorem dX12_isKept_44 : decode cX12_isKept 44 = .ok (.lcmp, 1) := by decide +kernel
theorem dX12_isKept_45 : decode cX12_isKept 45 = .ok (.ifCond .eq 27, 3) := by decide +kernel
theorem dX12_isKept_48 : decode cX12_isKept 48 = .ok (.lload_n 0, 1) := by decide +kernel
theorem dX12_isKept_49 : decode cX12_isKept 49 = .ok (.ldc2_w 173, 3) := by decide +kernel
theorem dX12_isKept_52 : decode cX12_isKept 52 = .ok (.lcmp, 1) := by decide +kernel
theorem dX12_isKept_53 : decode cX12_isKept 53 = .ok (.ifCond .eq 19, 3) := by decide +kernel
theorem dX12_isKept_56 : decode cX12_isKept 56 = .ok (.lload_n 0, 1) := by decide +kernel
theorem dX12_isKept_57 : decode cX12_isKept 57 = .ok (.ldc2_w 175, 3) := by decide +kernel
theorem dX12_isKept_60 : decode cX12_isKept 60 = .ok (.lcmp, 1) := by decide +kernel
theorem dX12_isKept_61 : decode cX12_isKept 61 = .ok (.ifCond .eq 11, 3) := by decide +kernel
theorem dX12_isKept_64 : decode cX12_isKept 64 = .ok (.lload_n 0, 1) := by decide +kernel
theorem dX12_isKept_65 : decode cX12_isKept 65 = .ok (.ldc2_w 177, 3) := by decide +kernel
theorem dX12_isKept_68 : decode cX12_isKept 68 = .ok (.lcmp, 1) := by decide +kernel
theorem dX12_isKept_69 : decode cX12_isKept 69 = .ok (.ifCond .ne 7, 3) := by decide +kernel
theorem dX12_isKept_72 : decode cX12_isKept 72 = .ok (.iconst 1, 1) := by decide +kernel
theorem dX12_isKept_73 : decode cX12_isKept 73 = .ok (.goto 4, 3) := by decide +kernel
theorem dX12_isKept_76 : decode cX12_isKept 76 = .ok (.iconst 0, 1) := by decide +kernel
theorem dX12_isKept_77 : decode cX12_isKept 77 = .ok (.istore_n 2, 1) := by decide +kernel
theorem dX12_isKept_78 : decode cX12_isKept 78 = .ok (.iload_n 2, 1) := by decide +kernel
theorem dX12_isKept_79 : decode cX12_isKept 79 = .ok (.ifCond .ne 67, 3) := by decide +kernel
theorem dX12_isKept_82 : decode cX12_isKept 82 = .ok (.lload_n 0, 1) := by decide +kernel
theorem dX12_isKept_83 : decode cX12_isKept 83 = .ok (.ldc2_w 179, 3) := by decide +kernel
theorem dX12_isKept_86 : decode cX12_isKept 86 = .ok (.lcmp, 1) := by decide +kernel
theorem dX12_isKept_87 : decode cX12_isKept 87 = .ok (.ifCond .eq 59, 3) := by decide +kernel
theorem dX12_isKept_90 : decode cX12_isKept 90 = .ok (.lload_n 0, 1) := by decide +kernel
theorem dX12_isKept_91 : decode cX12_isKept 91 = .ok (.ldc2_w 181, 3) := by decide +kernel
theorem dX12_isKept_94 : decode cX12_isKept 94 = .ok (.lcmp, 1) := by decide +kernel
theorem dX12_isKept_95 : decode cX12_isKept 95 = .ok (.ifCond .eq 51, 3) := by decide +kernel
theorem dX12_isKept_98 : decode cX12_isKept 98 = .ok (.lload_n 0, 1) := by decide +kernel
theorem dX12_isKept_99 : decode cX12_isKept 99 = .ok (.ldc2_w 183, 3) := by decide +kernel
theorem dX12_isKept_102 : decode cX12_isKept 102 = .ok (.lcmp, 1) := by decide +kernel
theorem dX12_isKept_103 : decode cX12_isKept 103 = .ok (.ifCond .eq 43, 3) := by decide +kernel
theorem dX12_isKept_106 : decode cX12_isKept 106 = .ok (.lload_n 0, 1) := by decide +kernel
theorem dX12_isKept_107 : decode cX12_isKept 107 = .ok (.ldc2_w 185, 3) := by decide +kernel
theorem dX12_isKept_110 : decode cX12_isKept 110 = .ok (.lcmp, 1) := by decide +kernel
theorem dX12_isKept_111 : decode cX12_isKept 111 = .ok (.ifCond .eq 35, 3) := by decide +kernel
theorem dX12_isKept_114 : decode cX12_isKept 114 = .ok (.lload_n 0, 1) := by decide +kernel
theorem dX12_isKept_115 : decode cX12_isKept 115 = .ok (.ldc2_w 187, 3) := by decide +kernel
theorem dX12_isKept_118 : decode cX12_isKept 118 = .ok (.lcmp, 1) := by decide +kernel
theorem dX12_isKept_119 : decode cX12_isKept 119 = .ok (.ifCond .eq 27, 3) := by decide +kernel
theorem dX12_isKept_122 : decode cX12_isKept 122 = .ok (.lload_n 0, 1) := by decide +kernel
theorem dX12_isKept_123 : decode cX12_isKept 123 = .ok (.ldc2_w 189, 3) := by decide +kernel
theorem dX12_isKept_126 : decode cX12_isKept 126 = .ok (.lcmp, 1) := by decide +kernel
theorem dX12_isKept_127 : decode cX12_isKept 127 = .ok (.ifCond .eq 19, 3) := by decide +kernel
theorem dX12_isKept_130 : decode cX12_isKept 130 = .ok (.lload_n 0, 1) := by decide +kernel
theorem dX12_isKept_131 : decode cX12_isKept 131 = .ok (.ldc2_w 191, 3) := by decide +kernel
theorem dX12_isKept_134 : decode cX12_isKept 134 = .ok (.lcmp, 1) := by decide +kernel
theorem dX12_isKept_135 : decode cX12_isKept 135 = .ok (.ifCond .eq 11, 3) := by decide +kernel
theorem dX12_isKept_138 : decode cX12_isKept 138 = .ok (.lload_n 0, 1) := by decide +kernel
theorem dX12_isKept_139 : decode cX12_isKept 139 = .ok (.ldc2_w 193, 3) := by decide +kernel
theorem dX12_isKept_142 : decode cX12_isKept 142 = .ok (.lcmp, 1) := by decide +kernel
theorem dX12_isKept_143 : decode cX12_isKept 143 = .ok (.ifCond .ne 7, 3) := by decide +kernel
theorem dX12_isKept_146 : decode cX12_isKept 146 = .ok (.iconst 1, 1) := by decide +kernel
theorem dX12_isKept_147 : decode cX12_isKept 147 = .ok (.goto 4, 3) := by decide +kernel
theorem dX12_isKept_150 : decode cX12_isKept 150 = .ok (.iconst 0, 1) := by decide +kernel
theorem dX12_isKept_151 : decode cX12_isKept 151 = .ok (.ireturn, 1) := by decide +kernel
theorem dX12_isSign_0 : decode cX12_isSign 0 = .ok (.iload_n 0, 1) := by decide +kernel
theorem dX12_isSign_1 : decode cX12_isSign 1 = .ok (.bipush 59, 2) := by decide +kernel
theorem dX12_isSign_3 : decode cX12_isSign 3 = .ok (.if_icmp .eq 57, 3) := by decide +kernel
theorem dX12_isSign_6 : decode cX12_isSign 6 = .ok (.iload_n 0, 1) := by decide +kernel
theorem dX12_isSign_7 : decode cX12_isSign 7 = .ok (.bipush 40, 2) := by decide +kernel
theorem dX12_isSign_9 : decode cX12_isSign 9 = .ok (.if_icmp .eq 51, 3) := by decide +kernel
theorem dX12_isSign_12 : decode cX12_isSign 12 = .ok (.iload_n 0, 1) := by decide +kernel
theorem dX12_isSign_13 : decode cX12_isSign 13 = .ok (.bipush 41, 2) := by decide +kernel
theorem dX12_isSign_15 : decode cX12_isSign 15 = .ok (.if_icmp .eq 45, 3) := by decide +kernel
theorem dX12_isSign_18 : decode cX12_isSign 18 = .ok (.iload_n 0, 1) := by decide +kernel
theorem dX12_isSign_19 : decode cX12_isSign 19 = .ok (.bipush 60, 2) := by decide +kernel
theorem dX12_isSign_21 : decode cX12_isSign 21 = .ok (.if_icmp .eq 39, 3) := by decide +kernel
theorem dX12_isSign_24 : decode cX12_isSign 24 = .ok (.iload_n 0, 1) := by decide +kernel
theorem dX12_isSign_25 : decode cX12_isSign 25 = .ok (.bipush 62, 2) := by decide +kernel
theorem dX12_isSign_27 : decode cX12_isSign 27 = .ok (.if_icmp .eq 33, 3) := by decide +kernel
theorem dX12_isSign_30 : decode cX12_isSign 30 = .ok (.iload_n 0, 1) := by decide +kernel
theorem dX12_isSign_31 : decode cX12_isSign 31 = .ok (.bipush 61, 2) := by decide +kernel
theorem dX12_isSign_33 : decode cX12_isSign 33 = .ok (.if_icmp .eq 27, 3) := by decide +kernel
theorem dX12_isSign_36 : decode cX12_isSign 36 = .ok (.iload_n 0, 1) := by decide +kernel
theorem dX12_isSign_37 : decode cX12_isSign 37 = .ok (.bipush 43, 2) := by decide +kernel
theorem dX12_isSign_39 : decode cX12_isSign 39 = .ok (.if_icmp .eq 21, 3) := by decide +kernel
theorem dX12_isSign_42 : decode cX12_isSign 42 = .ok (.iload_n 0, 1) := by decide +kernel
theorem dX12_isSign_43 : decode cX12_isSign 43 = .ok (.bipush 45, 2) := by decide +kernel
theorem dX12_isSign_45 : decode cX12_isSign 45 = .ok (.if_icmp .eq 15, 3) := by decide +kernel
theorem dX12_isSign_48 : decode cX12_isSign 48 = .ok (.iload_n 0, 1) := by decide +kernel
theorem dX12_isSign_49 : decode cX12_isSign 49 = .ok (.bipush 42, 2) := by decide +kernel
theorem dX12_isSign_51 : decode cX12_isSign 51 = .ok (.if_icmp .eq 9, 3) := by decide +kernel
theorem dX12_isSign_54 : decode cX12_isSign 54 = .ok (.iload_n 0, 1) := by decide +kernel
theorem dX12_isSign_55 : decode cX12_isSign 55 = .ok (.bipush 47, 2) := by decide +kernel
theorem dX12_isSign_57 : decode cX12_isSign 57 = .ok (.if_icmp .ne 7, 3) := by decide +kernel
theorem dX12_isSign_60 : decode cX12_isSign 60 = .ok (.iconst 1, 1) := by decide +kernel
theorem dX12_isSign_61 : decode cX12_isSign 61 = .ok (.goto 4, 3) := by decide +kernel
theorem dX12_isSign_64 : decode cX12_isSign 64 = .ok (.iconst 0, 1) := by decide +kernel
theorem dX12_isSign_65 : decode cX12_isSign 65 = .ok (.ireturn, 1) := by decide +kernel
theorem dX12_goOn_0 : decode cX12_goOn 0 = .ok (.aload_n 0, 1) := by decide +kernel
theorem dX12_goOn_1 : decode cX12_goOn 1 = .ok (.aload_n 0, 1) := by decide +kernel
theorem dX12_goOn_2 : decode cX12_goOn 2 = .ok (.getfield 195, 3) := by decide +kernel
theorem dX12_goOn_5 : decode cX12_goOn 5 = .ok (.putfield 198, 3) := by decide +kernel
theorem dX12_goOn_8 : decode cX12_goOn 8 = .ok (.aload_n 0, 1) := by decide +kernel
theorem dX12_goOn_9 : decode cX12_goOn 9 = .ok (.getfield 198, 3) := by decide +kernel
theorem dX12_goOn_12 : decode cX12_goOn 12 = .ok (.aload_n 0, 1) := by decide +kernel
theorem dX12_goOn_13 : decode cX12_goOn 13 = .ok (.getfield 155, 3) := by decide +kernel
theorem dX12_goOn_16 : decode cX12_goOn 16 = .ok (.if_icmp .ge 42, 3) := by decide +kernel
theorem dX12_goOn_19 : decode cX12_goOn 19 = .ok (.aload_n 0, 1) := by decide +kernel
theorem dX12_goOn_20 : decode cX12_goOn 20 = .ok (.aload_n 0, 1) := by decide +kernel
theorem dX12_goOn_21 : decode cX12_goOn 21 = .ok (.getfield 198, 3) := by decide +kernel
theorem dX12_goOn_24 : decode cX12_goOn 24 = .ok (.invokevirtual 201, 3) := by decide +kernel
theorem dX12_goOn_27 : decode cX12_goOn 27 = .ok (.bipush 32, 2) := by decide +kernel
theorem dX12_goOn_29 : decode cX12_goOn 29 = .ok (.if_icmp .eq 16, 3) := by decide +kernel
theorem dX12_goOn_32 : decode cX12_goOn 32 = .ok (.aload_n 0, 1) := by decide +kernel
theorem dX12_goOn_33 : decode cX12_goOn 33 = .ok (.aload_n 0, 1) := by decide +kernel
theorem dX12_goOn_34 : decode cX12_goOn 34 = .ok (.getfield 198, 3) := by decide +kernel
theorem dX12_goOn_37 : decode cX12_goOn 37 = .ok (.invokevirtual 201, 3) := by decide +kernel
theorem dX12_goOn_40 : decode cX12_goOn 40 = .ok (.bipush 10, 2) := by decide +kernel
theorem dX12_goOn_42 : decode cX12_goOn 42 = .ok (.if_icmp .ne 16, 3) := by decide +kernel
theorem dX12_goOn_45 : decode cX12_goOn 45 = .ok (.aload_n 0, 1) := by decide +kernel
theorem dX12_goOn_46 : decode cX12_goOn 46 = .ok (.dup, 1) := by decide +kernel
theorem dX12_goOn_47 : decode cX12_goOn 47 = .ok (.getfield 198, 3) := by decide +kernel
theorem dX12_goOn_50 : decode cX12_goOn 50 = .ok (.iconst 1, 1) := by decide +kernel
theorem dX12_goOn_51 : decode cX12_goOn 51 = .ok (.iadd, 1) := by decide +kernel
theorem dX12_goOn_52 : decode cX12_goOn 52 = .ok (.putfield 198, 3) := by decide +kernel
theorem dX12_goOn_55 : decode cX12_goOn 55 = .ok (.goto (-47), 3) := by decide +kernel
theorem dX12_goOn_58 : decode cX12_goOn 58 = .ok (.aload_n 0, 1) := by decide +kernel
theorem dX12_goOn_59 : decode cX12_goOn 59 = .ok (.aload_n 0, 1) := by decide +kernel
theorem dX12_goOn_60 : decode cX12_goOn 60 = .ok (.getfield 198, 3) := by decide +kernel
theorem dX12_goOn_63 : decode cX12_goOn 63 = .ok (.invokevirtual 201, 3) := by decide +kernel
theorem dX12_goOn_66 : decode cX12_goOn 66 = .ok (.istore_n 1, 1) := by decide +kernel
theorem dX12_goOn_67 : decode cX12_goOn 67 = .ok (.aload_n 0, 1) := by decide +kernel
theorem dX12_goOn_68 : decode cX12_goOn 68 = .ok (.aload_n 0, 1) := by decide +kernel
theorem dX12_goOn_69 : decode cX12_goOn 69 = .ok (.getfield 198, 3) := by decide +kernel
theorem dX12_goOn_72 : decode cX12_goOn 72 = .ok (.iconst 1, 1) := by decide +kernel
theorem dX12_goOn_73 : decode cX12_goOn 73 = .ok (.iadd, 1) := by decide +kernel
theorem dX12_goOn_74 : decode cX12_goOn 74 = .ok (.putfield 195, 3) := by decide +kernel
theorem dX12_goOn_77 : decode cX12_goOn 77 = .ok (.aload_n 0, 1) := by decide +kernel
theorem dX12_goOn_78 : decode cX12_goOn 78 = .ok (.getfield 198, 3) := by decide +kernel
theorem dX12_goOn_81 : decode cX12_goOn 81 = .ok (.aload_n 0, 1) := by decide +kernel
theorem dX12_goOn_82 : decode cX12_goOn 82 = .ok (.getfield 155, 3) := by decide +kernel
theorem dX12_goOn_85 : decode cX12_goOn 85 = .ok (.if_icmp .lt 27, 3) := by decide +kernel
theorem dX12_goOn_88 : decode cX12_goOn 88 = .ok (.aload_n 0, 1) := by decide +kernel
theorem dX12_goOn_89 : decode cX12_goOn 89 = .ok (.iconst 0, 1) := by decide +kernel
theorem dX12_goOn_90 : decode cX12_goOn 90 = .ok (.putfield 205, 3) := by decide +kernel
theorem dX12_goOn_93 : decode cX12_goOn 93 = .ok (.aload_n 0, 1) := by decide +kernel
theorem dX12_goOn_94 : decode cX12_goOn 94 = .ok (.aload_n 0, 1) := by decide +kernel
theorem dX12_goOn_95 : decode cX12_goOn 95 = .ok (.getfield 155, 3) := by decide +kernel
theorem dX12_goOn_98 : decode cX12_goOn 98 = .ok (.putfield 198, 3) := by decide +kernel
theorem dX12_goOn_101 : decode cX12_goOn 101 = .ok (.aload_n 0, 1) := by decide +kernel
theorem dX12_goOn_102 : decode cX12_goOn 102 = .ok (.aload_n 0, 1) := by decide +kernel
theorem dX12_goOn_103 : decode cX12_goOn 103 = .ok (.getfield 155, 3) := by decide +kernel
theorem dX12_goOn_106 : decode cX12_goOn 106 = .ok (.putfield 195, 3) := by decide +kernel
theorem dX12_goOn_109 : decode cX12_goOn 109 = .ok (.goto 268, 3) := by decide +kernel
theorem dX12_goOn_112 : decode cX12_goOn 112 = .ok (.iload_n 1, 1) := by decide +kernel
theorem dX12_goOn_113 : decode cX12_goOn 113 = .ok (.invokestatic 208, 3) := by decide +kernel
theorem dX12_goOn_116 : decode cX12_goOn 116 = .ok (.ifCond .eq 123, 3) := by decide +kernel
theorem dX12_goOn_119 : decode cX12_goOn 119 = .ok (.aload_n 0, 1) := by decide +kernel
theorem dX12_goOn_120 : decode cX12_goOn 120 = .ok (.aload_n 0, 1) := by decide +kernel
theorem dX12_goOn_121 : decode cX12_goOn 121 = .ok (.getfield 195, 3) := by decide +kernel
theorem dX12_goOn_124 : decode cX12_goOn 124 = .ok (.invokevirtual 201, 3) := by decide +kernel
theorem dX12_goOn_127 : decode cX12_goOn 127 = .ok (.invokestatic 208, 3) := by decide +kernel
theorem dX12_goOn_130 : decode cX12_goOn 130 = .ok (.ifCond .eq 16, 3) := by decide +kernel
theorem dX12_goOn_133 : decode cX12_goOn 133 = .ok (.aload_n 0, 1) := by decide +kernel
theorem dX12_goOn_134 : decode cX12_goOn 134 = .ok (.dup, 1) := by decide +kernel
theorem dX12_goOn_135 : decode cX12_goOn 135 = .ok (.getfield 195, 3) := by decide +kernel
theorem dX12_goOn_138 : decode cX12_goOn 138 = .ok (.iconst 1, 1) := by decide +kernel
theorem dX12_goOn_139 : decode cX12_goOn 139 = .ok (.iadd, 1) := by decide +kernel
theorem dX12_goOn_140 : decode cX12_goOn 140 = .ok (.putfield 195, 3) := by decide +kernel
theorem dX12_goOn_143 : decode cX12_goOn 143 = .ok (.goto (-24), 3) := by decide +kernel
theorem dX12_goOn_146 : decode cX12_goOn 146 = .ok (.aload_n 0, 1) := by decide +kernel
theorem dX12_goOn_147 : decode cX12_goOn 147 = .ok (.lconst 0, 1) := by decide +kernel
theorem dX12_goOn_148 : decode cX12_goOn 148 = .ok (.putfield 212, 3) := by decide +kernel
theorem dX12_goOn_151 : decode cX12_goOn 151 = .ok (.aload_n 0, 1) := by decide +kernel
theorem dX12_goOn_152 : decode cX12_goOn 152 = .ok (.getfield 198, 3) := by decide +kernel
theorem dX12_goOn_155 : decode cX12_goOn 155 = .ok (.istore_n 2, 1) := by decide +kernel
theorem dX12_goOn_156 : decode cX12_goOn 156 = .ok (.iload_n 2, 1) := by decide +kernel
theorem dX12_goOn_157 : decode cX12_goOn 157 = .ok (.aload_n 0, 1) := by decide +kernel
theorem dX12_goOn_158 : decode cX12_goOn 158 = .ok (.getfield 195, 3) := by decide +kernel
theorem dX12_goOn_161 : decode cX12_goOn 161 = .ok (.if_icmp .ge 38, 3) := by decide +kernel
theorem dX12_goOn_164 : decode cX12_goOn 164 = .ok (.iload_n 2, 1) := by decide +kernel
theorem dX12_goOn_165 : decode cX12_goOn 165 = .ok (.aload_n 0, 1) := by decide +kernel
theorem dX12_goOn_166 : decode cX12_goOn 166 = .ok (.getfield 198, 3) := by decide +kernel
theorem dX12_goOn_169 : decode cX12_goOn 169 = .ok (.bipush 8, 2) := by decide +kernel
theorem dX12_goOn_171 : decode cX12_goOn 171 = .ok (.iadd, 1) := by decide +kernel
theorem dX12_goOn_172 : decode cX12_goOn 172 = .ok (.if_icmp .ge 27, 3) := by decide +kernel
theorem dX12_goOn_175 : decode cX12_goOn 175 = .ok (.aload_n 0, 1) := by decide +kernel
theorem dX12_goOn_176 : decode cX12_goOn 176 = .ok (.aload_n 0, 1) := by decide +kernel
theorem dX12_goOn_177 : decode cX12_goOn 177 = .ok (.getfield 212, 3) := by decide +kernel
theorem dX12_goOn_180 : decode cX12_goOn 180 = .ok (.bipush 8, 2) := by decide +kernel
theorem dX12_goOn_182 : decode cX12_goOn 182 = .ok (.lshl, 1) := by decide +kernel
theorem dX12_goOn_183 : decode cX12_goOn 183 = .ok (.aload_n 0, 1) := by decide +kernel
theorem dX12_goOn_184 : decode cX12_goOn 184 = .ok (.iload_n 2, 1) := by decide +kernel
theorem dX12_goOn_185 : decode cX12_goOn 185 = .ok (.invokevirtual 201, 3) := by decide +kernel
theorem dX12_goOn_188 : decode cX12_goOn 188 = .ok (.i2l, 1) := by decide +kernel
theorem dX12_goOn_189 : decode cX12_goOn 189 = .ok (.lor, 1) := by decide +kernel
theorem dX12_goOn_190 : decode cX12_goOn 190 = .ok (.putfield 212, 3) := by decide +kernel
theorem dX12_goOn_193 : decode cX12_goOn 193 = .ok (.iinc 2 1, 3) := by decide +kernel
theorem dX12_goOn_196 : decode cX12_goOn 196 = .ok (.goto (-40), 3) := by decide +kernel
theorem dX12_goOn_199 : decode cX12_goOn 199 = .ok (.aload_n 0, 1) := by decide +kernel
theorem dX12_goOn_200 : decode cX12_goOn 200 = .ok (.aload_n 0, 1) := by decide +kernel
theorem dX12_goOn_201 : decode cX12_goOn 201 = .ok (.getfield 195, 3) := by decide +kernel
theorem dX12_goOn_204 : decode cX12_goOn 204 = .ok (.aload_n 0, 1) := by decide +kernel
theorem dX12_goOn_205 : decode cX12_goOn 205 = .ok (.getfield 198, 3) := by decide +kernel
theorem dX12_goOn_208 : decode cX12_goOn 208 = .ok (.isub, 1) := by decide +kernel
theorem dX12_goOn_209 : decode cX12_goOn 209 = .ok (.bipush 8, 2) := by decide +kernel
theorem dX12_goOn_211 : decode cX12_goOn 211 = .ok (.if_icmp .le 7, 3) := by decide +kernel
theorem dX12_goOn_214 : decode cX12_goOn 214 = .ok (.iconst 1, 1) := by decide +kernel
theorem dX12_goOn_215 : decode cX12_goOn 215 = .ok (.goto 18, 3) := by decide +kernel
theorem dX12_goOn_218 : decode cX12_goOn 218 = .ok (.aload_n 0, 1) := by decide +kernel
theorem dX12_goOn_219 : decode cX12_goOn 219 = .ok (.getfield 212, 3) := by decide +kernel
theorem dX12_goOn_222 : decode cX12_goOn 222 = .ok (.invokestatic 216, 3) := by decide +kernel
theorem dX12_goOn_225 : decode cX12_goOn 225 = .ok (.ifCond .eq 7, 3) := by decide +kernel
theorem dX12_goOn_228 : decode cX12_goOn 228 = .ok (.iconst 3, 1) := by decide +kernel
theorem dX12_goOn_229 : decode cX12_goOn 229 = .ok (.goto 4, 3) := by decide +kernel
theorem dX12_goOn_232 : decode cX12_goOn 232 = .ok (.iconst 2, 1) := by decide +kernel
theorem dX12_goOn_233 : decode cX12_goOn 233 = .ok (.putfield 205, 3) := by decide +kernel
theorem dX12_goOn_236 : decode cX12_goOn 236 = .ok (.goto 141, 3) := by decide +kernel
theorem dX12_goOn_239 : decode cX12_goOn 239 = .ok (.iload_n 1, 1) := by decide +kernel
theorem dX12_goOn_240 : decode cX12_goOn 240 = .ok (.invokestatic 220, 3) := by decide +kernel
theorem dX12_goOn_243 : decode cX12_goOn 243 = .ok (.ifCond .eq 118, 3) := by decide +kernel
theorem dX12_goOn_246 : decode cX12_goOn 246 = .ok (.aload_n 0, 1) := by decide +kernel
theorem dX12_goOn_247 : decode cX12_goOn 247 = .ok (.iconst 0, 1) := by decide +kernel
theorem dX12_goOn_248 : decode cX12_goOn 248 = .ok (.putfield 223, 3) := by decide +kernel
theorem dX12_goOn_251 : decode cX12_goOn 251 = .ok (.aload_n 0, 1) := by decide +kernel
theorem dX12_goOn_252 : decode cX12_goOn 252 = .ok (.aload_n 0, 1) := by decide +kernel
theorem dX12_goOn_253 : decode cX12_goOn 253 = .ok (.getfield 198, 3) := by decide +kernel
theorem dX12_goOn_256 : decode cX12_goOn 256 = .ok (.putfield 195, 3) := by decide +kernel
theorem dX12_goOn_259 : decode cX12_goOn 259 = .ok (.aload_n 0, 1) := by decide +kernel
theorem dX12_goOn_260 : decode cX12_goOn 260 = .ok (.aload_n 0, 1) := by decide +kernel
theorem dX12_goOn_261 : decode cX12_goOn 261 = .ok (.getfield 195, 3) := by decide +kernel
theorem dX12_goOn_264 : decode cX12_goOn 264 = .ok (.invokevirtual 201, 3) := by decide +kernel
theorem dX12_goOn_267 : decode cX12_goOn 267 = .ok (.invokestatic 220, 3) := by decide +kernel
theorem dX12_goOn_270 : decode cX12_goOn 270 = .ok (.ifCond .eq 52, 3) := by decide +kernel
theorem dX12_goOn_273 : decode cX12_goOn 273 = .ok (.aload_n 0, 1) := by decide +kernel
theorem dX12_goOn_274 : decode cX12_goOn 274 = .ok (.getfield 195, 3) := by decide +kernel
theorem dX12_goOn_277 : decode cX12_goOn 277 = .ok (.aload_n 0, 1) := by decide +kernel
theorem dX12_goOn_278 : decode cX12_goOn 278 = .ok (.getfield 198, 3) := by decide +kernel
theorem dX12_goOn_281 : decode cX12_goOn 281 = .ok (.isub, 1) := by decide +kernel
theorem dX12_goOn_282 : decode cX12_goOn 282 = .ok (.iconst 4, 1) := by decide +kernel
theorem dX12_goOn_283 : decode cX12_goOn 283 = .ok (.if_icmp .ge 26, 3) := by decide +kernel
theorem dX12_goOn_286 : decode cX12_goOn 286 = .ok (.aload_n 0, 1) := by decide +kernel
theorem dX12_goOn_287 : decode cX12_goOn 287 = .ok (.bipush 10, 2) := by decide +kernel
theorem dX12_goOn_289 : decode cX12_goOn 289 = .ok (.aload_n 0, 1) := by decide +kernel
theorem dX12_goOn_290 : decode cX12_goOn 290 = .ok (.getfield 223, 3) := by decide +kernel
theorem dX12_goOn_293 : decode cX12_goOn 293 = .ok (.imul, 1) := by decide +kernel
theorem dX12_goOn_294 : decode cX12_goOn 294 = .ok (.aload_n 0, 1) := by decide +kernel
theorem dX12_goOn_295 : decode cX12_goOn 295 = .ok (.aload_n 0, 1) := by decide +kernel
theorem dX12_goOn_296 : decode cX12_goOn 296 = .ok (.getfield 195, 3) := by decide +kernel
theorem dX12_goOn_299 : decode cX12_goOn 299 = .ok (.invokevirtual 201, 3) := by decide +kernel
theorem dX12_goOn_302 : decode cX12_goOn 302 = .ok (.iadd, 1) := by decide +kernel
theorem dX12_goOn_303 : decode cX12_goOn 303 = .ok (.bipush 48, 2) := by decide +kernel
theorem dX12_goOn_305 : decode cX12_goOn 305 = .ok (.isub, 1) := by decide +kernel
theorem dX12_goOn_306 : decode cX12_goOn 306 = .ok (.putfield 223, 3) := by decide +kernel
theorem dX12_goOn_309 : decode cX12_goOn 309 = .ok (.aload_n 0, 1) := by decide +kernel
theorem dX12_goOn_310 : decode cX12_goOn 310 = .ok (.dup, 1) := by decide +kernel
theorem dX12_goOn_311 : decode cX12_goOn 311 = .ok (.getfield 195, 3) := by decide +kernel
theorem dX12_goOn_314 : decode cX12_goOn 314 = .ok (.iconst 1, 1) := by decide +kernel
theorem dX12_goOn_315 : decode cX12_goOn 315 = .ok (.iadd, 1) := by decide +kernel
theorem dX12_goOn_316 : decode cX12_goOn 316 = .ok (.putfield 195, 3) := by decide +kernel
theorem dX12_goOn_319 : decode cX12_goOn 319 = .ok (.goto (-60), 3) := by decide +kernel
theorem dX12_goOn_322 : decode cX12_goOn 322 = .ok (.aload_n 0, 1) := by decide +kernel
theorem dX12_goOn_323 : decode cX12_goOn 323 = .ok (.aload_n 0, 1) := by decide +kernel
theorem dX12_goOn_324 : decode cX12_goOn 324 = .ok (.getfield 195, 3) := by decide +kernel
theorem dX12_goOn_327 : decode cX12_goOn 327 = .ok (.aload_n 0, 1) := by decide +kernel
theorem dX12_goOn_328 : decode cX12_goOn 328 = .ok (.getfield 198, 3) := by decide +kernel
theorem dX12_goOn_331 : decode cX12_goOn 331 = .ok (.isub, 1) := by decide +kernel
theorem dX12_goOn_332 : decode cX12_goOn 332 = .ok (.iconst 4, 1) := by decide +kernel
theorem dX12_goOn_333 : decode cX12_goOn 333 = .ok (.if_icmp .gt 17, 3) := by decide +kernel
theorem dX12_goOn_336 : decode cX12_goOn 336 = .ok (.aload_n 0, 1) := by decide +kernel
theorem dX12_goOn_337 : decode cX12_goOn 337 = .ok (.aload_n 0, 1) := by decide +kernel
theorem dX12_goOn_338 : decode cX12_goOn 338 = .ok (.getfield 195, 3) := by decide +kernel
theorem dX12_goOn_341 : decode cX12_goOn 341 = .ok (.invokevirtual 201, 3) := by decide +kernel
theorem dX12_goOn_344 : decode cX12_goOn 344 = .ok (.invokestatic 208, 3) := by decide +kernel
theorem dX12_goOn_347 : decode cX12_goOn 347 = .ok (.ifCond .eq 7, 3) := by decide +kernel
theorem dX12_goOn_350 : decode cX12_goOn 350 = .ok (.iconst 1, 1) := by decide +kernel
theorem dX12_goOn_351 : decode cX12_goOn 351 = .ok (.goto 4, 3) := by decide +kernel
theorem dX12_goOn_354 : decode cX12_goOn 354 = .ok (.iconst 4, 1) := by decide +kernel
theorem dX12_goOn_355 : decode cX12_goOn 355 = .ok (.putfield 205, 3) := by decide +kernel
theorem dX12_goOn_358 : decode cX12_goOn 358 = .ok (.goto 19, 3) := by decide +kernel
theorem dX12_goOn_361 : decode cX12_goOn 361 = .ok (.aload_n 0, 1) := by decide +kernel
theorem dX12_goOn_362 : decode cX12_goOn 362 = .ok (.iload_n 1, 1) := by decide +kernel
theorem dX12_goOn_363 : decode cX12_goOn 363 = .ok (.invokestatic 226, 3) := by decide +kernel
theorem dX12_goOn_366 : decode cX12_goOn 366 = .ok (.ifCond .eq 7, 3) := by decide +kernel
theorem dX12_goOn_369 : decode cX12_goOn 369 = .ok (.iconst 5, 1) := by decide +kernel
theorem dX12_goOn_370 : decode cX12_goOn 370 = .ok (.goto 4, 3) := by decide +kernel
theorem dX12_goOn_373 : decode cX12_goOn 373 = .ok (.iconst 1, 1) := by decide +kernel
theorem dX12_goOn_374 : decode cX12_goOn 374 = .ok (.putfield 205, 3) := by decide +kernel
theorem dX12_goOn_377 : decode cX12_goOn 377 = .ok (.return_, 1) := by decide +kernel
theorem dX12_stands_0 : decode cX12_stands 0 = .ok (.aload_n 0, 1) := by decide +kernel
theorem dX12_stands_1 : decode cX12_stands 1 = .ok (.getfield 205, 3) := by decide +kernel
theorem dX12_stands_4 : decode cX12_stands 4 = .ok (.iconst 5, 1) := by decide +kernel
theorem dX12_stands_5 : decode cX12_stands 5 = .ok (.if_icmp .ne 19, 3) := by decide +kernel
theorem dX12_stands_8 : decode cX12_stands 8 = .ok (.aload_n 0, 1) := by decide +kernel
theorem dX12_stands_9 : decode cX12_stands 9 = .ok (.aload_n 0, 1) := by decide +kernel
theorem dX12_stands_10 : decode cX12_stands 10 = .ok (.getfield 198, 3) := by decide +kernel
theorem dX12_stands_13 : decode cX12_stands 13 = .ok (.invokevirtual 201, 3) := by decide +kernel
theorem dX12_stands_16 : decode cX12_stands 16 = .ok (.iload_n 1, 1) := by decide +kernel
theorem dX12_stands_17 : decode cX12_stands 17 = .ok (.if_icmp .ne 7, 3) := by decide +kernel
theorem dX12_stands_20 : decode cX12_stands 20 = .ok (.iconst 1, 1) := by decide +kernel
theorem dX12_stands_21 : decode cX12_stands 21 = .ok (.goto 4, 3) := by decide +kernel
theorem dX12_stands_24 : decode cX12_stands 24 = .ok (.iconst 0, 1) := by decide +kernel
theorem dX12_stands_25 : decode cX12_stands 25 = .ok (.ireturn, 1) := by decide +kernel
theorem dX12_isWord_0 : decode cX12_isWord 0 = .ok (.aload_n 0, 1) := by decide +kernel
theorem dX12_isWord_1 : decode cX12_isWord 1 = .ok (.getfield 205, 3) := by decide +kernel
theorem dX12_isWord_4 : decode cX12_isWord 4 = .ok (.iconst 3, 1) := by decide +kernel
theorem dX12_isWord_5 : decode cX12_isWord 5 = .ok (.if_icmp .ne 16, 3) := by decide +kernel
theorem dX12_isWord_8 : decode cX12_isWord 8 = .ok (.aload_n 0, 1) := by decide +kernel
theorem dX12_isWord_9 : decode cX12_isWord 9 = .ok (.getfield 212, 3) := by decide +kernel
theorem dX12_isWord_12 : decode cX12_isWord 12 = .ok (.lload_n 1, 1) := by decide +kernel
theorem dX12_isWord_13 : decode cX12_isWord 13 = .ok (.lcmp, 1) := by decide +kernel
theorem dX12_isWord_14 : decode cX12_isWord 14 = .ok (.ifCond .ne 7, 3) := by decide +kernel
theorem dX12_isWord_17 : decode cX12_isWord 17 = .ok (.iconst 1, 1) := by decide +kernel
theorem dX12_isWord_18 : decode cX12_isWord 18 = .ok (.goto 4, 3) := by decide +kernel
theorem dX12_isWord_21 : decode cX12_isWord 21 = .ok (.iconst 0, 1) := by decide +kernel
theorem dX12_isWord_22 : decode cX12_isWord 22 = .ok (.ireturn, 1) := by decide +kernel
theorem dX12_misplaced_0 : decode cX12_misplaced 0 = .ok (.aload_n 0, 1) := by decide +kernel
theorem dX12_misplaced_1 : decode cX12_misplaced 1 = .ok (.aload_n 0, 1) := by decide +kernel
theorem dX12_misplaced_2 : decode cX12_misplaced 2 = .ok (.getfield 205, 3) := by decide +kernel
theorem dX12_misplaced_5 : decode cX12_misplaced 5 = .ok (.iconst 1, 1) := by decide +kernel
theorem dX12_misplaced_6 : decode cX12_misplaced 6 = .ok (.if_icmp .ne 7, 3) := by decide +kernel
theorem dX12_misplaced_9 : decode cX12_misplaced 9 = .ok (.iconst 1, 1) := by decide +kernel
theorem dX12_misplaced_10 : decode cX12_misplaced 10 = .ok (.goto 4, 3) := by decide +kernel
theorem dX12_misplaced_13 : decode cX12_misplaced 13 = .ok (.iconst 2, 1) := by decide +kernel
theorem dX12_misplaced_14 : decode cX12_misplaced 14 = .ok (.aload_n 0, 1) := by decide +kernel
theorem dX12_misplaced_15 : decode cX12_misplaced 15 = .ok (.getfield 198, 3) := by decide +kernel
theorem dX12_misplaced_18 : decode cX12_misplaced 18 = .ok (.invokevirtual 229, 3) := by decide +kernel
theorem dX12_misplaced_21 : decode cX12_misplaced 21 = .ok (.return_, 1) := by decide +kernel
theorem dX12_must_0 : decode cX12_must 0 = .ok (.aload_n 0, 1) := by decide +kernel
theorem dX12_must_1 : decode cX12_must 1 = .ok (.invokevirtual 233, 3) := by decide +kernel
theorem dX12_must_4 : decode cX12_must 4 = .ok (.ifCond .ne 4, 3) := by decide +kernel
theorem dX12_must_7 : decode cX12_must 7 = .ok (.return_, 1) := by decide +kernel
theorem dX12_must_8 : decode cX12_must 8 = .ok (.iload_n 1, 1) := by decide +kernel
theorem dX12_must_9 : decode cX12_must 9 = .ok (.ifCond .eq 10, 3) := by decide +kernel
theorem dX12_must_12 : decode cX12_must 12 = .ok (.aload_n 0, 1) := by decide +kernel
theorem dX12_must_13 : decode cX12_must 13 = .ok (.invokevirtual 237, 3) := by decide +kernel
theorem dX12_must_16 : decode cX12_must 16 = .ok (.goto 7, 3) := by decide +kernel
theorem dX12_must_19 : decode cX12_must 19 = .ok (.aload_n 0, 1) := by decide +kernel
theorem dX12_must_20 : decode cX12_must 20 = .ok (.invokevirtual 240, 3) := by decide +kernel
theorem dX12_must_23 : decode cX12_must 23 = .ok (.return_, 1) := by decide +kernel
theorem dX12_clearBank_0 : decode cX12_clearBank 0 = .ok (.aload_n 0, 1) := by decide +kernel
theorem dX12_clearBank_1 : decode cX12_clearBank 1 = .ok (.getfield 20, 3) := by decide +kernel
theorem dX12_clearBank_4 : decode cX12_clearBank 4 = .ok (.aload_n 0, 1) := by decide +kernel
theorem dX12_clearBank_5 : decode cX12_clearBank 5 = .ok (.getfield 243, 3) := by decide +kernel
theorem dX12_clearBank_8 : decode cX12_clearBank 8 = .ok (.iconst 0, 1) := by decide +kernel
theorem dX12_clearBank_9 : decode cX12_clearBank 9 = .ok (.iastore, 1) := by decide +kernel
theorem dX12_clearBank_10 : decode cX12_clearBank 10 = .ok (.aload_n 0, 1) := by decide +kernel
theorem dX12_clearBank_11 : decode cX12_clearBank 11 = .ok (.getfield 24, 3) := by decide +kernel
theorem dX12_clearBank_14 : decode cX12_clearBank 14 = .ok (.aload_n 0, 1) := by decide +kernel
theorem dX12_clearBank_15 : decode cX12_clearBank 15 = .ok (.getfield 243, 3) := by decide +kernel
theorem dX12_clearBank_18 : decode cX12_clearBank 18 = .ok (.iconst 0, 1) := by decide +kernel
theorem dX12_clearBank_19 : decode cX12_clearBank 19 = .ok (.iastore, 1) := by decide +kernel
theorem dX12_clearBank_20 : decode cX12_clearBank 20 = .ok (.aload_n 0, 1) := by decide +kernel
theorem dX12_clearBank_21 : decode cX12_clearBank 21 = .ok (.getfield 27, 3) := by decide +kernel
theorem dX12_clearBank_24 : decode cX12_clearBank 24 = .ok (.aload_n 0, 1) := by decide +kernel
theorem dX12_clearBank_25 : decode cX12_clearBank 25 = .ok (.getfield 243, 3) := by decide +kernel
theorem dX12_clearBank_28 : decode cX12_clearBank 28 = .ok (.iconst 0, 1) := by decide +kernel
theorem dX12_clearBank_29 : decode cX12_clearBank 29 = .ok (.iastore, 1) := by decide +kernel
theorem dX12_clearBank_30 : decode cX12_clearBank 30 = .ok (.aload_n 0, 1) := by decide +kernel
theorem dX12_clearBank_31 : decode cX12_clearBank 31 = .ok (.getfield 30, 3) := by decide +kernel
theorem dX12_clearBank_34 : decode cX12_clearBank 34 = .ok (.aload_n 0, 1) := by decide +kernel
theorem dX12_clearBank_35 : decode cX12_clearBank 35 = .ok (.getfield 243, 3) := by decide +kernel
theorem dX12_clearBank_38 : decode cX12_clearBank 38 = .ok (.iconst 0, 1) := by decide +kernel
theorem dX12_clearBank_39 : decode cX12_clearBank 39 = .ok (.iastore, 1) := by decide +kernel
theorem dX12_clearBank_40 : decode cX12_clearBank 40 = .ok (.aload_n 0, 1) := by decide +kernel
theorem dX12_clearBank_41 : decode cX12_clearBank 41 = .ok (.getfield 33, 3) := by decide +kernel
theorem dX12_clearBank_44 : decode cX12_clearBank 44 = .ok (.aload_n 0, 1) := by decide +kernel
theorem dX12_clearBank_45 : decode cX12_clearBank 45 = .ok (.getfield 243, 3) := by decide +kernel
theorem dX12_clearBank_48 : decode cX12_clearBank 48 = .ok (.iconst 0, 1) := by decide +kernel
theorem dX12_clearBank_49 : decode cX12_clearBank 49 = .ok (.iastore, 1) := by decide +kernel
theorem dX12_clearBank_50 : decode cX12_clearBank 50 = .ok (.aload_n 0, 1) := by decide +kernel
theorem dX12_clearBank_51 : decode cX12_clearBank 51 = .ok (.getfield 45, 3) := by decide +kernel
theorem dX12_clearBank_54 : decode cX12_clearBank 54 = .ok (.aload_n 0, 1) := by decide +kernel
theorem dX12_clearBank_55 : decode cX12_clearBank 55 = .ok (.getfield 243, 3) := by decide +kernel
theorem dX12_clearBank_58 : decode cX12_clearBank 58 = .ok (.iconst 0, 1) := by decide +kernel
theorem dX12_clearBank_59 : decode cX12_clearBank 59 = .ok (.bastore, 1) := by decide +kernel
theorem dX12_clearBank_60 : decode cX12_clearBank 60 = .ok (.aload_n 0, 1) := by decide +kernel
theorem dX12_clearBank_61 : decode cX12_clearBank 61 = .ok (.getfield 49, 3) := by decide +kernel
theorem dX12_clearBank_64 : decode cX12_clearBank 64 = .ok (.aload_n 0, 1) := by decide +kernel
theorem dX12_clearBank_65 : decode cX12_clearBank 65 = .ok (.getfield 243, 3) := by decide +kernel
theorem dX12_clearBank_68 : decode cX12_clearBank 68 = .ok (.iconst 0, 1) := by decide +kernel
theorem dX12_clearBank_69 : decode cX12_clearBank 69 = .ok (.bastore, 1) := by decide +kernel
theorem dX12_clearBank_70 : decode cX12_clearBank 70 = .ok (.aload_n 0, 1) := by decide +kernel
theorem dX12_clearBank_71 : decode cX12_clearBank 71 = .ok (.sipush 700, 3) := by decide +kernel
theorem dX12_clearBank_74 : decode cX12_clearBank 74 = .ok (.aload_n 0, 1) := by decide +kernel
theorem dX12_clearBank_75 : decode cX12_clearBank 75 = .ok (.getfield 243, 3) := by decide +kernel
theorem dX12_clearBank_78 : decode cX12_clearBank 78 = .ok (.imul, 1) := by decide +kernel
theorem dX12_clearBank_79 : decode cX12_clearBank 79 = .ok (.putfield 246, 3) := by decide +kernel
theorem dX12_clearBank_82 : decode cX12_clearBank 82 = .ok (.aload_n 0, 1) := by decide +kernel
theorem dX12_clearBank_83 : decode cX12_clearBank 83 = .ok (.aload_n 0, 1) := by decide +kernel
theorem dX12_clearBank_84 : decode cX12_clearBank 84 = .ok (.getfield 243, 3) := by decide +kernel
theorem dX12_clearBank_87 : decode cX12_clearBank 87 = .ok (.putfield 249, 3) := by decide +kernel
theorem dX12_clearBank_90 : decode cX12_clearBank 90 = .ok (.aload_n 0, 1) := by decide +kernel
theorem dX12_clearBank_91 : decode cX12_clearBank 91 = .ok (.bipush 60, 2) := by decide +kernel
theorem dX12_clearBank_93 : decode cX12_clearBank 93 = .ok (.putfield 252, 3) := by decide +kernel
theorem dX12_clearBank_96 : decode cX12_clearBank 96 = .ok (.return_, 1) := by decide +kernel
theorem dX12_beginText_0 : decode cX12_beginText 0 = .ok (.aload_n 0, 1) := by decide +kernel
theorem dX12_beginText_1 : decode cX12_beginText 1 = .ok (.iconst 0, 1) := by decide +kernel
theorem dX12_beginText_2 : decode cX12_beginText 2 = .ok (.putfield 158, 3) := by decide +kernel
theorem dX12_beginText_5 : decode cX12_beginText 5 = .ok (.aload_n 0, 1) := by decide +kernel
theorem dX12_beginText_6 : decode cX12_beginText 6 = .ok (.iconst (-1), 1) := by decide +kernel
theorem dX12_beginText_7 : decode cX12_beginText 7 = .ok (.putfield 16, 3) := by decide +kernel
theorem dX12_beginText_10 : decode cX12_beginText 10 = .ok (.aload_n 0, 1) := by decide +kernel
theorem dX12_beginText_11 : decode cX12_beginText 11 = .ok (.aload_n 0, 1) := by decide +kernel
theorem dX12_beginText_12 : decode cX12_beginText 12 = .ok (.getfield 255, 3) := by decide +kernel
theorem dX12_beginText_15 : decode cX12_beginText 15 = .ok (.putfield 155, 3) := by decide +kernel
theorem dX12_beginText_18 : decode cX12_beginText 18 = .ok (.iconst 0, 1) := by decide +kernel
theorem dX12_beginText_19 : decode cX12_beginText 19 = .ok (.istore_n 1, 1) := by decide +kernel
theorem dX12_beginText_20 : decode cX12_beginText 20 = .ok (.iload_n 1, 1) := by decide +kernel
theorem dX12_beginText_21 : decode cX12_beginText 21 = .ok (.aload_n 0, 1) := by decide +kernel
theorem dX12_beginText_22 : decode cX12_beginText 22 = .ok (.getfield 155, 3) := by decide +kernel
theorem dX12_beginText_25 : decode cX12_beginText 25 = .ok (.if_icmp .ge 21, 3) := by decide +kernel
theorem dX12_beginText_28 : decode cX12_beginText 28 = .ok (.aload_n 0, 1) := by decide +kernel
theorem dX12_beginText_29 : decode cX12_beginText 29 = .ok (.getfield 13, 3) := by decide +kernel
theorem dX12_beginText_32 : decode cX12_beginText 32 = .ok (.iload_n 1, 1) := by decide +kernel
theorem dX12_beginText_33 : decode cX12_beginText 33 = .ok (.aload_n 0, 1) := by decide +kernel
theorem dX12_beginText_34 : decode cX12_beginText 34 = .ok (.getfield 7, 3) := by decide +kernel
theorem dX12_beginText_37 : decode cX12_beginText 37 = .ok (.iload_n 1, 1) := by decide +kernel
theorem dX12_beginText_38 : decode cX12_beginText 38 = .ok (.baload, 1) := by decide +kernel
theorem dX12_beginText_39 : decode cX12_beginText 39 = .ok (.bastore, 1) := by decide +kernel
theorem dX12_beginText_40 : decode cX12_beginText 40 = .ok (.iinc 1 1, 3) := by decide +kernel
theorem dX12_beginText_43 : decode cX12_beginText 43 = .ok (.goto (-23), 3) := by decide +kernel
theorem dX12_beginText_46 : decode cX12_beginText 46 = .ok (.aload_n 0, 1) := by decide +kernel
theorem dX12_beginText_47 : decode cX12_beginText 47 = .ok (.iconst 0, 1) := by decide +kernel
theorem dX12_beginText_48 : decode cX12_beginText 48 = .ok (.putfield 255, 3) := by decide +kernel
theorem dX12_beginText_51 : decode cX12_beginText 51 = .ok (.aload_n 0, 1) := by decide +kernel
theorem dX12_beginText_52 : decode cX12_beginText 52 = .ok (.iconst 0, 1) := by decide +kernel
theorem dX12_beginText_53 : decode cX12_beginText 53 = .ok (.putfield 195, 3) := by decide +kernel
theorem dX12_beginText_56 : decode cX12_beginText 56 = .ok (.return_, 1) := by decide +kernel
theorem dX12_island_0 : decode cX12_island 0 = .ok (.aload_n 0, 1) := by decide +kernel
theorem dX12_island_1 : decode cX12_island 1 = .ok (.invokevirtual 258, 3) := by decide +kernel
theorem dX12_island_4 : decode cX12_island 4 = .ok (.aload_n 0, 1) := by decide +kernel
theorem dX12_island_5 : decode cX12_island 5 = .ok (.iconst 1, 1) := by decide +kernel
theorem dX12_island_6 : decode cX12_island 6 = .ok (.aload_n 0, 1) := by decide +kernel
theorem dX12_island_7 : decode cX12_island 7 = .ok (.getfield 261, 3) := by decide +kernel
theorem dX12_island_10 : decode cX12_island 10 = .ok (.isub, 1) := by decide +kernel
theorem dX12_island_11 : decode cX12_island 11 = .ok (.putfield 243, 3) := by decide +kernel
theorem dX12_island_14 : decode cX12_island 14 = .ok (.aload_n 0, 1) := by decide +kernel
theorem dX12_island_15 : decode cX12_island 15 = .ok (.invokevirtual 149, 3) := by decide +kernel
theorem dX12_island_18 : decode cX12_island 18 = .ok (.aload_n 0, 1) := by decide +kernel
theorem dX12_island_19 : decode cX12_island 19 = .ok (.invokevirtual 237, 3) := by decide +kernel
theorem dX12_island_22 : decode cX12_island 22 = .ok (.aload_n 0, 1) := by decide +kernel
theorem dX12_island_23 : decode cX12_island 23 = .ok (.invokevirtual 233, 3) := by decide +kernel
theorem dX12_island_26 : decode cX12_island 26 = .ok (.ifCond .eq 17, 3) := by decide +kernel
theorem dX12_island_29 : decode cX12_island 29 = .ok (.aload_n 0, 1) := by decide +kernel
theorem dX12_island_30 : decode cX12_island 30 = .ok (.getfield 205, 3) := by decide +kernel
theorem dX12_island_33 : decode cX12_island 33 = .ok (.ifCond .eq 10, 3) := by decide +kernel
theorem dX12_island_36 : decode cX12_island 36 = .ok (.aload_n 0, 1) := by decide +kernel
theorem dX12_island_37 : decode cX12_island 37 = .ok (.invokevirtual 264, 3) := by decide +kernel
theorem dX12_island_40 : decode cX12_island 40 = .ok (.goto (-18), 3) := by decide +kernel
theorem dX12_island_43 : decode cX12_island 43 = .ok (.aload_n 0, 1) := by decide +kernel
theorem dX12_island_44 : decode cX12_island 44 = .ok (.invokevirtual 233, 3) := by decide +kernel
theorem dX12_island_47 : decode cX12_island 47 = .ok (.ifCond .ne 5, 3) := by decide +kernel
theorem dX12_island_50 : decode cX12_island 50 = .ok (.iconst (-1), 1) := by decide +kernel
theorem dX12_island_51 : decode cX12_island 51 = .ok (.ireturn, 1) := by decide +kernel
theorem dX12_island_52 : decode cX12_island 52 = .ok (.aload_n 0, 1) := by decide +kernel
theorem dX12_island_53 : decode cX12_island 53 = .ok (.aload_n 0, 1) := by decide +kernel
theorem dX12_island_54 : decode cX12_island 54 = .ok (.getfield 243, 3) := by decide +kernel
theorem dX12_island_57 : decode cX12_island 57 = .ok (.putfield 261, 3) := by decide +kernel
theorem dX12_island_60 : decode cX12_island 60 = .ok (.aload_n 0, 1) := by decide +kernel
theorem dX12_island_61 : decode cX12_island 61 = .ok (.iconst 0, 1) := by decide +kernel
theorem dX12_island_62 : decode cX12_island 62 = .ok (.putfield 267, 3) := by decide +kernel
theorem dX12_island_65 : decode cX12_island 65 = .ok (.iconst 0, 1) := by decide +kernel
theorem dX12_island_66 : decode cX12_island 66 = .ok (.istore_n 1, 1) := by decide +kernel
theorem dX12_island_67 : decode cX12_island 67 = .ok (.iload_n 1, 1) := by decide +kernel
theorem dX12_island_68 : decode cX12_island 68 = .ok (.iconst 4, 1) := by decide +kernel
theorem dX12_island_69 : decode cX12_island 69 = .ok (.if_icmp .ge 16, 3) := by decide +kernel
theorem dX12_island_72 : decode cX12_island 72 = .ok (.aload_n 0, 1) := by decide +kernel
theorem dX12_island_73 : decode cX12_island 73 = .ok (.getfield 131, 3) := by decide +kernel
theorem dX12_island_76 : decode cX12_island 76 = .ok (.iload_n 1, 1) := by decide +kernel
theorem dX12_island_77 : decode cX12_island 77 = .ok (.iconst (-1), 1) := by decide +kernel
theorem dX12_island_78 : decode cX12_island 78 = .ok (.iastore, 1) := by decide +kernel
theorem dX12_island_79 : decode cX12_island 79 = .ok (.iinc 1 1, 3) := by decide +kernel
theorem dX12_island_82 : decode cX12_island 82 = .ok (.goto (-15), 3) := by decide +kernel
theorem dX12_island_85 : decode cX12_island 85 = .ok (.aload_n 0, 1) := by decide +kernel
theorem dX12_island_86 : decode cX12_island 86 = .ok (.invokevirtual 152, 3) := by decide +kernel
theorem dX12_island_89 : decode cX12_island 89 = .ok (.aload_n 0, 1) := by decide +kernel
theorem dX12_island_90 : decode cX12_island 90 = .ok (.getfield 20, 3) := by decide +kernel
theorem dX12_island_93 : decode cX12_island 93 = .ok (.aload_n 0, 1) := by decide +kernel
theorem dX12_island_94 : decode cX12_island 94 = .ok (.getfield 261, 3) := by decide +kernel
theorem dX12_island_97 : decode cX12_island 97 = .ok (.iaload, 1) := by decide +kernel
theorem dX12_island_98 : decode cX12_island 98 = .ok (.ireturn, 1) := by decide +kernel
theorem dX12_isBehind_0 : decode cX12_isBehind 0 = .ok (.aload_n 0, 1) := by decide +kernel
theorem dX12_isBehind_1 : decode cX12_isBehind 1 = .ok (.getfield 24, 3) := by decide +kernel
theorem dX12_isBehind_4 : decode cX12_isBehind 4 = .ok (.aload_n 0, 1) := by decide +kernel
theorem dX12_isBehind_5 : decode cX12_isBehind 5 = .ok (.getfield 243, 3) := by decide +kernel
theorem dX12_isBehind_8 : decode cX12_isBehind 8 = .ok (.iaload, 1) := by decide +kernel
theorem dX12_isBehind_9 : decode cX12_isBehind 9 = .ok (.ifCond .gt 27, 3) := by decide +kernel
theorem dX12_isBehind_12 : decode cX12_isBehind 12 = .ok (.aload_n 0, 1) := by decide +kernel
theorem dX12_isBehind_13 : decode cX12_isBehind 13 = .ok (.getfield 49, 3) := by decide +kernel
theorem dX12_isBehind_16 : decode cX12_isBehind 16 = .ok (.aload_n 0, 1) := by decide +kernel
theorem dX12_isBehind_17 : decode cX12_isBehind 17 = .ok (.getfield 243, 3) := by decide +kernel
theorem dX12_isBehind_20 : decode cX12_isBehind 20 = .ok (.baload, 1) := by decide +kernel
theorem dX12_isBehind_21 : decode cX12_isBehind 21 = .ok (.ifCond .ne 15, 3) := by decide +kernel
theorem dX12_isBehind_24 : decode cX12_isBehind 24 = .ok (.aload_n 0, 1) := by decide +kernel
theorem dX12_isBehind_25 : decode cX12_isBehind 25 = .ok (.getfield 27, 3) := by decide +kernel
theorem dX12_isBehind_28 : decode cX12_isBehind 28 = .ok (.aload_n 0, 1) := by decide +kernel
theorem dX12_isBehind_29 : decode cX12_isBehind 29 = .ok (.getfield 243, 3) := by decide +kernel
theorem dX12_isBehind_32 : decode cX12_isBehind 32 = .ok (.iaload, 1) := by decide +kernel
theorem dX12_isBehind_33 : decode cX12_isBehind 33 = .ok (.ifCond .le 7, 3) := by decide +kernel
theorem dX12_isBehind_36 : decode cX12_isBehind 36 = .ok (.iconst 1, 1) := by decide +kernel
theorem dX12_isBehind_37 : decode cX12_isBehind 37 = .ok (.goto 4, 3) := by decide +kernel
theorem dX12_isBehind_40 : decode cX12_isBehind 40 = .ok (.iconst 0, 1) := by decide +kernel
theorem dX12_isBehind_41 : decode cX12_isBehind 41 = .ok (.ireturn, 1) := by decide +kernel
theorem dX12_isFull_0 : decode cX12_isFull 0 = .ok (.aload_n 0, 1) := by decide +kernel
theorem dX12_isFull_1 : decode cX12_isFull 1 = .ok (.ldc2_w 161, 3) := by decide +kernel
theorem dX12_isFull_4 : decode cX12_isFull 4 = .ok (.invokevirtual 270, 3) := by decide +kernel
theorem dX12_isFull_7 : decode cX12_isFull 7 = .ok (.ifCond .eq 30, 3) := by decide +kernel
theorem dX12_isFull_10 : decode cX12_isFull 10 = .ok (.aload_n 0, 1) := by decide +kernel
theorem dX12_isFull_11 : decode cX12_isFull 11 = .ok (.getfield 20, 3) := by decide +kernel
theorem dX12_isFull_14 : decode cX12_isFull 14 = .ok (.aload_n 0, 1) := by decide +kernel
theorem dX12_isFull_15 : decode cX12_isFull 15 = .ok (.getfield 243, 3) := by decide +kernel
theorem dX12_isFull_18 : decode cX12_isFull 18 = .ok (.iaload, 1) := by decide +kernel
theorem dX12_isFull_19 : decode cX12_isFull 19 = .ok (.bipush 8, 2) := by decide +kernel
theorem dX12_isFull_21 : decode cX12_isFull 21 = .ok (.if_icmp .eq 10, 3) := by decide +kernel
theorem dX12_isFull_24 : decode cX12_isFull 24 = .ok (.aload_n 0, 1) := by decide +kernel
theorem dX12_isFull_25 : decode cX12_isFull 25 = .ok (.invokevirtual 273, 3) := by decide +kernel
theorem dX12_isFull_28 : decode cX12_isFull 28 = .ok (.ifCond .eq 7, 3) := by decide +kernel
theorem dX12_isFull_31 : decode cX12_isFull 31 = .ok (.iconst 1, 1) := by decide +kernel
theorem dX12_isFull_32 : decode cX12_isFull 32 = .ok (.goto 4, 3) := by decide +kernel
theorem dX12_isFull_35 : decode cX12_isFull 35 = .ok (.iconst 0, 1) := by decide +kernel
theorem dX12_isFull_36 : decode cX12_isFull 36 = .ok (.ireturn, 1) := by decide +kernel
theorem dX12_isFull_37 : decode cX12_isFull 37 = .ok (.aload_n 0, 1) := by decide +kernel
theorem dX12_isFull_38 : decode cX12_isFull 38 = .ok (.ldc2_w 169, 3) := by decide +kernel
theorem dX12_isFull_41 : decode cX12_isFull 41 = .ok (.invokevirtual 270, 3) := by decide +kernel
theorem dX12_isFull_44 : decode cX12_isFull 44 = .ok (.ifCond .eq 23, 3) := by decide +kernel
theorem dX12_isFull_47 : decode cX12_isFull 47 = .ok (.aload_n 0, 1) := by decide +kernel
theorem dX12_isFull_48 : decode cX12_isFull 48 = .ok (.getfield 24, 3) := by decide +kernel
theorem dX12_isFull_51 : decode cX12_isFull 51 = .ok (.aload_n 0, 1) := by decide +kernel
theorem dX12_isFull_52 : decode cX12_isFull 52 = .ok (.getfield 243, 3) := by decide +kernel
theorem dX12_isFull_55 : decode cX12_isFull 55 = .ok (.iaload, 1) := by decide +kernel
theorem dX12_isFull_56 : decode cX12_isFull 56 = .ok (.bipush 30, 2) := by decide +kernel
theorem dX12_isFull_58 : decode cX12_isFull 58 = .ok (.if_icmp .ne 7, 3) := by decide +kernel
theorem dX12_isFull_61 : decode cX12_isFull 61 = .ok (.iconst 1, 1) := by decide +kernel
theorem dX12_isFull_62 : decode cX12_isFull 62 = .ok (.goto 4, 3) := by decide +kernel
theorem dX12_isFull_65 : decode cX12_isFull 65 = .ok (.iconst 0, 1) := by decide +kernel
theorem dX12_isFull_66 : decode cX12_isFull 66 = .ok (.ireturn, 1) := by decide +kernel
theorem dX12_isFull_67 : decode cX12_isFull 67 = .ok (.aload_n 0, 1) := by decide +kernel
theorem dX12_isFull_68 : decode cX12_isFull 68 = .ok (.ldc2_w 171, 3) := by decide +kernel
theorem dX12_isFull_71 : decode cX12_isFull 71 = .ok (.invokevirtual 270, 3) := by decide +kernel
theorem dX12_isFull_74 : decode cX12_isFull 74 = .ok (.ifCond .eq 13, 3) := by decide +kernel
theorem dX12_isFull_77 : decode cX12_isFull 77 = .ok (.aload_n 0, 1) := by decide +kernel
theorem dX12_isFull_78 : decode cX12_isFull 78 = .ok (.getfield 49, 3) := by decide +kernel
theorem dX12_isFull_81 : decode cX12_isFull 81 = .ok (.aload_n 0, 1) := by decide +kernel
theorem dX12_isFull_82 : decode cX12_isFull 82 = .ok (.getfield 243, 3) := by decide +kernel
theorem dX12_isFull_85 : decode cX12_isFull 85 = .ok (.baload, 1) := by decide +kernel
theorem dX12_isFull_86 : decode cX12_isFull 86 = .ok (.ireturn, 1) := by decide +kernel
theorem dX12_isFull_87 : decode cX12_isFull 87 = .ok (.aload_n 0, 1) := by decide +kernel
theorem dX12_isFull_88 : decode cX12_isFull 88 = .ok (.ldc2_w 177, 3) := by decide +kernel
theorem dX12_isFull_91 : decode cX12_isFull 91 = .ok (.invokevirtual 270, 3) := by decide +kernel
theorem dX12_isFull_94 : decode cX12_isFull 94 = .ok (.ifCond .eq 17, 3) := by decide +kernel
theorem dX12_isFull_97 : decode cX12_isFull 97 = .ok (.aload_n 0, 1) := by decide +kernel
theorem dX12_isFull_98 : decode cX12_isFull 98 = .ok (.getfield 27, 3) := by decide +kernel
theorem dX12_isFull_101 : decode cX12_isFull 101 = .ok (.aload_n 0, 1) := by decide +kernel
theorem dX12_isFull_102 : decode cX12_isFull 102 = .ok (.getfield 243, 3) := by decide +kernel
theorem dX12_isFull_105 : decode cX12_isFull 105 = .ok (.iaload, 1) := by decide +kernel
theorem dX12_isFull_106 : decode cX12_isFull 106 = .ok (.bipush 6, 2) := by decide +kernel
theorem dX12_isFull_108 : decode cX12_isFull 108 = .ok (.if_icmp .ne 7, 3) := by decide +kernel
theorem dX12_isFull_111 : decode cX12_isFull 111 = .ok (.iconst 1, 1) := by decide +kernel
theorem dX12_isFull_112 : decode cX12_isFull 112 = .ok (.goto 4, 3) := by decide +kernel
theorem dX12_isFull_115 : decode cX12_isFull 115 = .ok (.iconst 0, 1) := by decide +kernel
theorem dX12_isFull_116 : decode cX12_isFull 116 = .ok (.ireturn, 1) := by decide +kernel
theorem dX12_readLine_0 : decode cX12_readLine 0 = .ok (.aload_n 0, 1) := by decide +kernel
theorem dX12_readLine_1 : decode cX12_readLine 1 = .ok (.getfield 212, 3) := by decide +kernel
theorem dX12_readLine_4 : decode cX12_readLine 4 = .ok (.lstore_n 1, 1) := by decide +kernel
theorem dX12_readLine_5 : decode cX12_readLine 5 = .ok (.aload_n 0, 1) := by decide +kernel
theorem dX12_readLine_6 : decode cX12_readLine 6 = .ok (.getfield 205, 3) := by decide +kernel
theorem dX12_readLine_9 : decode cX12_readLine 9 = .ok (.iconst 3, 1) := by decide +kernel
theorem dX12_readLine_10 : decode cX12_readLine 10 = .ok (.if_icmp .ne 10, 3) := by decide +kernel
theorem dX12_readLine_13 : decode cX12_readLine 13 = .ok (.aload_n 0, 1) := by decide +kernel
theorem dX12_readLine_14 : decode cX12_readLine 14 = .ok (.invokevirtual 276, 3) := by decide +kernel
theorem dX12_readLine_17 : decode cX12_readLine 17 = .ok (.ifCond .eq 7, 3) := by decide +kernel
theorem dX12_readLine_20 : decode cX12_readLine 20 = .ok (.aload_n 0, 1) := by decide +kernel
theorem dX12_readLine_21 : decode cX12_readLine 21 = .ok (.invokevirtual 240, 3) := by decide +kernel
theorem dX12_readLine_24 : decode cX12_readLine 24 = .ok (.aload_n 0, 1) := by decide +kernel
theorem dX12_readLine_25 : decode cX12_readLine 25 = .ok (.invokevirtual 233, 3) := by decide +kernel
theorem dX12_readLine_28 : decode cX12_readLine 28 = .ok (.ifCond .ne 4, 3) := by decide +kernel
theorem dX12_readLine_31 : decode cX12_readLine 31 = .ok (.return_, 1) := by decide +kernel
theorem dX12_readLine_32 : decode cX12_readLine 32 = .ok (.aload_n 0, 1) := by decide +kernel
theorem dX12_readLine_33 : decode cX12_readLine 33 = .ok (.invokevirtual 237, 3) := by decide +kernel
theorem dX12_readLine_36 : decode cX12_readLine 36 = .ok (.lload_n 1, 1) := by decide +kernel
theorem dX12_readLine_37 : decode cX12_readLine 37 = .ok (.ldc2_w 161, 3) := by decide +kernel
theorem dX12_readLine_40 : decode cX12_readLine 40 = .ok (.lcmp, 1) := by decide +kernel
theorem dX12_readLine_41 : decode cX12_readLine 41 = .ok (.ifCond .ne 7, 3) := by decide +kernel
theorem dX12_readLine_44 : decode cX12_readLine 44 = .ok (.aload_n 0, 1) := by decide +kernel
theorem dX12_readLine_45 : decode cX12_readLine 45 = .ok (.invokevirtual 279, 3) := by decide +kernel
theorem dX12_readLine_48 : decode cX12_readLine 48 = .ok (.lload_n 1, 1) := by decide +kernel
theorem dX12_readLine_49 : decode cX12_readLine 49 = .ok (.ldc2_w 169, 3) := by decide +kernel
theorem dX12_readLine_52 : decode cX12_readLine 52 = .ok (.lcmp, 1) := by decide +kernel
theorem dX12_readLine_53 : decode cX12_readLine 53 = .ok (.ifCond .ne 7, 3) := by decide +kernel
theorem dX12_readLine_56 : decode cX12_readLine 56 = .ok (.aload_n 0, 1) := by decide +kernel
theorem dX12_readLine_57 : decode cX12_readLine 57 = .ok (.invokevirtual 282, 3) := by decide +kernel
theorem dX12_readLine_60 : decode cX12_readLine 60 = .ok (.lload_n 1, 1) := by decide +kernel
theorem dX12_readLine_61 : decode cX12_readLine 61 = .ok (.ldc2_w 171, 3) := by decide +kernel
theorem dX12_readLine_64 : decode cX12_readLine 64 = .ok (.lcmp, 1) := by decide +kernel
theorem dX12_readLine_65 : decode cX12_readLine 65 = .ok (.ifCond .ne 7, 3) := by decide +kernel
theorem dX12_readLine_68 : decode cX12_readLine 68 = .ok (.aload_n 0, 1) := by decide +kernel
theorem dX12_readLine_69 : decode cX12_readLine 69 = .ok (.invokevirtual 285, 3) := by decide +kernel
theorem dX12_readLine_72 : decode cX12_readLine 72 = .ok (.lload_n 1, 1) := by decide +kernel
theorem dX12_readLine_73 : decode cX12_readLine 73 = .ok (.ldc2_w 177, 3) := by decide +kernel
theorem dX12_readLine_76 : decode cX12_readLine 76 = .ok (.lcmp, 1) := by decide +kernel
theorem dX12_readLine_77 : decode cX12_readLine 77 = .ok (.ifCond .ne 7, 3) := by decide +kernel
theorem dX12_readLine_80 : decode cX12_readLine 80 = .ok (.aload_n 0, 1) := by decide +kernel
theorem dX12_readLine_81 : decode cX12_readLine 81 = .ok (.invokevirtual 288, 3) := by decide +kernel
theorem dX12_readLine_84 : decode cX12_readLine 84 = .ok (.aload_n 0, 1) := by decide +kernel
theorem dX12_readLine_85 : decode cX12_readLine 85 = .ok (.aload_n 0, 1) := by decide +kernel
theorem dX12_readLine_86 : decode cX12_readLine 86 = .ok (.bipush 59, 2) := by decide +kernel
theorem dX12_readLine_88 : decode cX12_readLine 88 = .ok (.invokevirtual 291, 3) := by decide +kernel
theorem dX12_readLine_91 : decode cX12_readLine 91 = .ok (.invokevirtual 294, 3) := by decide +kernel
theorem dX12_readLine_94 : decode cX12_readLine 94 = .ok (.return_, 1) := by decide +kernel
theorem dX12_here_0 : decode cX12_here 0 = .ok (.iconst 0, 1) := by decide +kernel
theorem dX12_here_1 : decode cX12_here 1 = .ok (.istore_n 1, 1) := by decide +kernel
theorem dX12_here_2 : decode cX12_here 2 = .ok (.iload_n 1, 1) := by decide +kernel
theorem dX12_here_3 : decode cX12_here 3 = .ok (.aload_n 0, 1) := by decide +kernel
theorem dX12_here_4 : decode cX12_here 4 = .ok (.getfield 20, 3) := by decide +kernel
theorem dX12_here_7 : decode cX12_here 7 = .ok (.aload_n 0, 1) := by decide +kernel
theorem dX12_here_8 : decode cX12_here 8 = .ok (.getfield 243, 3) := by decide +kernel
theorem dX12_here_11 : decode cX12_here 11 = .ok (.iaload, 1) := by decide +kernel
theorem dX12_here_12 : decode cX12_here 12 = .ok (.if_icmp .ge 41, 3) := by decide +kernel
theorem dX12_here_15 : decode cX12_here 15 = .ok (.aload_n 0, 1) := by decide +kernel
theorem dX12_here_16 : decode cX12_here 16 = .ok (.getfield 205, 3) := by decide +kernel
theorem dX12_here_19 : decode cX12_here 19 = .ok (.iconst 2, 1) := by decide +kernel
theorem dX12_here_20 : decode cX12_here 20 = .ok (.if_icmp .ne 27, 3) := by decide +kernel
theorem dX12_here_23 : decode cX12_here 23 = .ok (.aload_n 0, 1) := by decide +kernel
theorem dX12_here_24 : decode cX12_here 24 = .ok (.getfield 55, 3) := by decide +kernel
theorem dX12_here_27 : decode cX12_here 27 = .ok (.bipush 8, 2) := by decide +kernel
theorem dX12_here_29 : decode cX12_here 29 = .ok (.aload_n 0, 1) := by decide +kernel
theorem dX12_here_30 : decode cX12_here 30 = .ok (.getfield 243, 3) := by decide +kernel
theorem dX12_here_33 : decode cX12_here 33 = .ok (.imul, 1) := by decide +kernel
theorem dX12_here_34 : decode cX12_here 34 = .ok (.iload_n 1, 1) := by decide +kernel
theorem dX12_here_35 : decode cX12_here 35 = .ok (.iadd, 1) := by decide +kernel
theorem dX12_here_36 : decode cX12_here 36 = .ok (.laload, 1) := by decide +kernel
theorem dX12_here_37 : decode cX12_here 37 = .ok (.aload_n 0, 1) := by decide +kernel
theorem dX12_here_38 : decode cX12_here 38 = .ok (.getfield 212, 3) := by decide +kernel
theorem dX12_here_41 : decode cX12_here 41 = .ok (.lcmp, 1) := by decide +kernel
theorem dX12_here_42 : decode cX12_here 42 = .ok (.ifCond .ne 5, 3) := by decide +kernel
theorem dX12_here_45 : decode cX12_here 45 = .ok (.iload_n 1, 1) := by decide +kernel
theorem dX12_here_46 : decode cX12_here 46 = .ok (.ireturn, 1) := by decide +kernel
theorem dX12_here_47 : decode cX12_here 47 = .ok (.iinc 1 1, 3) := by decide +kernel
theorem dX12_here_50 : decode cX12_here 50 = .ok (.goto (-48), 3) := by decide +kernel
theorem dX12_here_53 : decode cX12_here 53 = .ok (.iconst (-1), 1) := by decide +kernel
theorem dX12_here_54 : decode cX12_here 54 = .ok (.ireturn, 1) := by decide +kernel
theorem dX12_known_0 : decode cX12_known 0 = .ok (.aload_n 0, 1) := by decide +kernel
theorem dX12_known_1 : decode cX12_known 1 = .ok (.invokevirtual 233, 3) := by decide +kernel
theorem dX12_known_4 : decode cX12_known 4 = .ok (.ifCond .ne 5, 3) := by decide +kernel
theorem dX12_known_7 : decode cX12_known 7 = .ok (.iconst 0, 1) := by decide +kernel
theorem dX12_known_8 : decode cX12_known 8 = .ok (.ireturn, 1) := by decide +kernel
theorem dX12_known_9 : decode cX12_known 9 = .ok (.aload_n 0, 1) := by decide +kernel
theorem dX12_known_10 : decode cX12_known 10 = .ok (.getfield 205, 3) := by decide +kernel
theorem dX12_known_13 : decode cX12_known 13 = .ok (.iconst 2, 1) := by decide +kernel
theorem dX12_known_14 : decode cX12_known 14 = .ok (.if_icmp .eq 10, 3) := by decide +kernel
theorem dX12_known_17 : decode cX12_known 17 = .ok (.aload_n 0, 1) := by decide +kernel
theorem dX12_known_18 : decode cX12_known 18 = .ok (.invokevirtual 240, 3) := by decide +kernel
theorem dX12_known_21 : decode cX12_known 21 = .ok (.goto 16, 3) := by decide +kernel
theorem dX12_known_24 : decode cX12_known 24 = .ok (.iload_n 1, 1) := by decide +kernel
theorem dX12_known_25 : decode cX12_known 25 = .ok (.ifCond .ge 12, 3) := by decide +kernel
theorem dX12_known_28 : decode cX12_known 28 = .ok (.aload_n 0, 1) := by decide +kernel
theorem dX12_known_29 : decode cX12_known 29 = .ok (.iconst 4, 1) := by decide +kernel
theorem dX12_known_30 : decode cX12_known 30 = .ok (.aload_n 0, 1) := by decide +kernel
theorem dX12_known_31 : decode cX12_known 31 = .ok (.getfield 198, 3) := by decide +kernel
theorem dX12_known_34 : decode cX12_known 34 = .ok (.invokevirtual 229, 3) := by decide +kernel
theorem dX12_known_37 : decode cX12_known 37 = .ok (.aload_n 0, 1) := by decide +kernel
theorem dX12_known_38 : decode cX12_known 38 = .ok (.invokevirtual 233, 3) := by decide +kernel
theorem dX12_known_41 : decode cX12_known 41 = .ok (.ifCond .eq 7, 3) := by decide +kernel
theorem dX12_known_44 : decode cX12_known 44 = .ok (.aload_n 0, 1) := by decide +kernel
theorem dX12_known_45 : decode cX12_known 45 = .ok (.invokevirtual 237, 3) := by decide +kernel
theorem dX12_known_48 : decode cX12_known 48 = .ok (.iload_n 1, 1) := by decide +kernel
theorem dX12_known_49 : decode cX12_known 49 = .ok (.ifCond .ge 7, 3) := by decide +kernel
theorem dX12_known_52 : decode cX12_known 52 = .ok (.iconst 0, 1) := by decide +kernel
theorem dX12_known_53 : decode cX12_known 53 = .ok (.goto 4, 3) := by decide +kernel
theorem dX12_known_56 : decode cX12_known 56 = .ok (.iload_n 1, 1) := by decide +kernel
theorem dX12_known_57 : decode cX12_known 57 = .ok (.ireturn, 1) := by decide +kernel
theorem dX12_flag_0 : decode cX12_flag 0 = .ok (.aload_n 0, 1) := by decide +kernel
theorem dX12_flag_1 : decode cX12_flag 1 = .ok (.invokevirtual 233, 3) := by decide +kernel
theorem dX12_flag_4 : decode cX12_flag 4 = .ok (.ifCond .eq 15, 3) := by decide +kernel
theorem dX12_flag_7 : decode cX12_flag 7 = .ok (.aload_n 0, 1) := by decide +kernel
theorem dX12_flag_8 : decode cX12_flag 8 = .ok (.lload_n 1, 1) := by decide +kernel
theorem dX12_flag_9 : decode cX12_flag 9 = .ok (.invokevirtual 270, 3) := by decide +kernel
theorem dX12_flag_12 : decode cX12_flag 12 = .ok (.ifCond .eq 7, 3) := by decide +kernel
theorem dX12_flag_15 : decode cX12_flag 15 = .ok (.iconst 1, 1) := by decide +kernel
theorem dX12_flag_16 : decode cX12_flag 16 = .ok (.goto 4, 3) := by decide +kernel
theorem dX12_flag_19 : decode cX12_flag 19 = .ok (.iconst 0, 1) := by decide +kernel
theorem dX12_flag_20 : decode cX12_flag 20 = .ok (.istore_n 3, 1) := by decide +kernel
theorem dX12_flag_21 : decode cX12_flag 21 = .ok (.iload_n 3, 1) := by decide +kernel
theorem dX12_flag_22 : decode cX12_flag 22 = .ok (.ifCond .eq 7, 3) := by decide +kernel
theorem dX12_flag_25 : decode cX12_flag 25 = .ok (.aload_n 0, 1) := by decide +kernel
theorem dX12_flag_26 : decode cX12_flag 26 = .ok (.invokevirtual 237, 3) := by decide +kernel
theorem dX12_flag_29 : decode cX12_flag 29 = .ok (.iload_n 3, 1) := by decide +kernel
theorem dX12_flag_30 : decode cX12_flag 30 = .ok (.ireturn, 1) := by decide +kernel
theorem dX12_readOne_0 : decode cX12_readOne 0 = .ok (.bipush 8, 2) := by decide +kernel
theorem dX12_readOne_2 : decode cX12_readOne 2 = .ok (.aload_n 0, 1) := by decide +kernel
theorem dX12_readOne_3 : decode cX12_readOne 3 = .ok (.getfield 243, 3) := by decide +kernel
theorem dX12_readOne_6 : decode cX12_readOne 6 = .ok (.imul, 1) := by decide +kernel
theorem dX12_readOne_7 : decode cX12_readOne 7 = .ok (.aload_n 0, 1) := by decide +kernel
theorem dX12_readOne_8 : decode cX12_readOne 8 = .ok (.getfield 20, 3) := by decide +kernel
theorem dX12_readOne_11 : decode cX12_readOne 11 = .ok (.aload_n 0, 1) := by decide +kernel
theorem dX12_readOne_12 : decode cX12_readOne 12 = .ok (.getfield 243, 3) := by decide +kernel
theorem dX12_readOne_15 : decode cX12_readOne 15 = .ok (.iaload, 1) := by decide +kernel
theorem dX12_readOne_16 : decode cX12_readOne 16 = .ok (.iadd, 1) := by decide +kernel
theorem dX12_readOne_17 : decode cX12_readOne 17 = .ok (.istore_n 1, 1) := by decide +kernel
theorem dX12_readOne_18 : decode cX12_readOne 18 = .ok (.aload_n 0, 1) := by decide +kernel
theorem dX12_readOne_19 : decode cX12_readOne 19 = .ok (.getfield 205, 3) := by decide +kernel
theorem dX12_readOne_22 : decode cX12_readOne 22 = .ok (.iconst 2, 1) := by decide +kernel
theorem dX12_readOne_23 : decode cX12_readOne 23 = .ok (.if_icmp .eq 10, 3) := by decide +kernel
theorem dX12_readOne_26 : decode cX12_readOne 26 = .ok (.aload_n 0, 1) := by decide +kernel
theorem dX12_readOne_27 : decode cX12_readOne 27 = .ok (.invokevirtual 240, 3) := by decide +kernel
theorem dX12_readOne_30 : decode cX12_readOne 30 = .ok (.goto 19, 3) := by decide +kernel
theorem dX12_readOne_33 : decode cX12_readOne 33 = .ok (.aload_n 0, 1) := by decide +kernel
theorem dX12_readOne_34 : decode cX12_readOne 34 = .ok (.invokevirtual 298, 3) := by decide +kernel
theorem dX12_readOne_37 : decode cX12_readOne 37 = .ok (.ifCond .lt 12, 3) := by decide +kernel
theorem dX12_readOne_40 : decode cX12_readOne 40 = .ok (.aload_n 0, 1) := by decide +kernel
theorem dX12_readOne_41 : decode cX12_readOne 41 = .ok (.iconst 3, 1) := by decide +kernel
theorem dX12_readOne_42 : decode cX12_readOne 42 = .ok (.aload_n 0, 1) := by decide +kernel
theorem dX12_readOne_43 : decode cX12_readOne 43 = .ok (.getfield 198, 3) := by decide +kernel
theorem dX12_readOne_46 : decode cX12_readOne 46 = .ok (.invokevirtual 229, 3) := by decide +kernel
theorem dX12_readOne_49 : decode cX12_readOne 49 = .ok (.aload_n 0, 1) := by decide +kernel
theorem dX12_readOne_50 : decode cX12_readOne 50 = .ok (.invokevirtual 233, 3) := by decide +kernel
theorem dX12_readOne_53 : decode cX12_readOne 53 = .ok (.ifCond .ne 4, 3) := by decide +kernel
theorem dX12_readOne_56 : decode cX12_readOne 56 = .ok (.return_, 1) := by decide +kernel
theorem dX12_readOne_57 : decode cX12_readOne 57 = .ok (.aload_n 0, 1) := by decide +kernel
theorem dX12_readOne_58 : decode cX12_readOne 58 = .ok (.getfield 55, 3) := by decide +kernel
theorem dX12_readOne_61 : decode cX12_readOne 61 = .ok (.iload_n 1, 1) := by decide +kernel
theorem dX12_readOne_62 : decode cX12_readOne 62 = .ok (.aload_n 0, 1) := by decide +kernel
theorem dX12_readOne_63 : decode cX12_readOne 63 = .ok (.getfield 212, 3) := by decide +kernel
theorem dX12_readOne_66 : decode cX12_readOne 66 = .ok (.lastore, 1) := by decide +kernel
theorem dX12_readOne_67 : decode cX12_readOne 67 = .ok (.aload_n 0, 1) := by decide +kernel
theorem dX12_readOne_68 : decode cX12_readOne 68 = .ok (.invokevirtual 237, 3) := by decide +kernel
theorem dX12_readOne_71 : decode cX12_readOne 71 = .ok (.aload_n 0, 1) := by decide +kernel
theorem dX12_readOne_72 : decode cX12_readOne 72 = .ok (.ldc2_w 163, 3) := by decide +kernel
theorem dX12_readOne_75 : decode cX12_readOne 75 = .ok (.invokevirtual 302, 3) := by decide +kernel
theorem dX12_readOne_78 : decode cX12_readOne 78 = .ok (.ifCond .eq 26, 3) := by decide +kernel
theorem dX12_readOne_81 : decode cX12_readOne 81 = .ok (.aload_n 0, 1) := by decide +kernel
theorem dX12_readOne_82 : decode cX12_readOne 82 = .ok (.getfield 33, 3) := by decide +kernel
theorem dX12_readOne_85 : decode cX12_readOne 85 = .ok (.aload_n 0, 1) := by decide +kernel
theorem dX12_readOne_86 : decode cX12_readOne 86 = .ok (.getfield 243, 3) := by decide +kernel
theorem dX12_readOne_89 : decode cX12_readOne 89 = .ok (.dup2, 1) := by decide +kernel
theorem dX12_readOne_90 : decode cX12_readOne 90 = .ok (.iaload, 1) := by decide +kernel
theorem dX12_readOne_91 : decode cX12_readOne 91 = .ok (.iconst 1, 1) := by decide +kernel
theorem dX12_readOne_92 : decode cX12_readOne 92 = .ok (.aload_n 0, 1) := by decide +kernel
theorem dX12_readOne_93 : decode cX12_readOne 93 = .ok (.getfield 20, 3) := by decide +kernel
theorem dX12_readOne_96 : decode cX12_readOne 96 = .ok (.aload_n 0, 1) := by decide +kernel
theorem dX12_readOne_97 : decode cX12_readOne 97 = .ok (.getfield 243, 3) := by decide +kernel
theorem dX12_readOne_100 : decode cX12_readOne 100 = .ok (.iaload, 1) := by decide +kernel
theorem dX12_readOne_101 : decode cX12_readOne 101 = .ok (.ishl, 1) := by decide +kernel
theorem dX12_readOne_102 : decode cX12_readOne 102 = .ok (.ior, 1) := by decide +kernel
theorem dX12_readOne_103 : decode cX12_readOne 103 = .ok (.iastore, 1) := by decide +kernel
theorem dX12_readOne_104 : decode cX12_readOne 104 = .ok (.aload_n 0, 1) := by decide +kernel
theorem dX12_readOne_105 : decode cX12_readOne 105 = .ok (.getfield 36, 3) := by decide +kernel
theorem dX12_readOne_108 : decode cX12_readOne 108 = .ok (.iload_n 1, 1) := by decide +kernel
theorem dX12_readOne_109 : decode cX12_readOne 109 = .ok (.aload_n 0, 1) := by decide +kernel
theorem dX12_readOne_110 : decode cX12_readOne 110 = .ok (.ldc2_w 165, 3) := by decide +kernel
theorem dX12_readOne_113 : decode cX12_readOne 113 = .ok (.invokevirtual 302, 3) := by decide +kernel
theorem dX12_readOne_116 : decode cX12_readOne 116 = .ok (.ifCond .eq 9, 3) := by decide +kernel
theorem dX12_readOne_119 : decode cX12_readOne 119 = .ok (.sipush 255, 3) := by decide +kernel
theorem dX12_readOne_122 : decode cX12_readOne 122 = .ok (.goto 20, 3) := by decide +kernel
theorem dX12_readOne_125 : decode cX12_readOne 125 = .ok (.sipush 255, 3) := by decide +kernel
theorem dX12_readOne_128 : decode cX12_readOne 128 = .ok (.iconst 1, 1) := by decide +kernel
theorem dX12_readOne_129 : decode cX12_readOne 129 = .ok (.aload_n 0, 1) := by decide +kernel
theorem dX12_readOne_130 : decode cX12_readOne 130 = .ok (.getfield 20, 3) := by decide +kernel
theorem dX12_readOne_133 : decode cX12_readOne 133 = .ok (.aload_n 0, 1) := by decide +kernel
theorem dX12_readOne_134 : decode cX12_readOne 134 = .ok (.getfield 243, 3) := by decide +kernel
theorem dX12_readOne_137 : decode cX12_readOne 137 = .ok (.iaload, 1) := by decide +kernel
theorem dX12_readOne_138 : decode cX12_readOne 138 = .ok (.ishl, 1) := by decide +kernel
theorem dX12_readOne_139 : decode cX12_readOne 139 = .ok (.iconst (-1), 1) := by decide +kernel
theorem dX12_readOne_140 : decode cX12_readOne 140 = .ok (.ixor, 1) := by decide +kernel
theorem dX12_readOne_141 : decode cX12_readOne 141 = .ok (.iand, 1) := by decide +kernel
theorem dX12_readOne_142 : decode cX12_readOne 142 = .ok (.iastore, 1) := by decide +kernel
theorem dX12_readOne_143 : decode cX12_readOne 143 = .ok (.aload_n 0, 1) := by decide +kernel
theorem dX12_readOne_144 : decode cX12_readOne 144 = .ok (.getfield 52, 3) := by decide +kernel
theorem dX12_readOne_147 : decode cX12_readOne 147 = .ok (.iload_n 1, 1) := by decide +kernel
theorem dX12_readOne_148 : decode cX12_readOne 148 = .ok (.aload_n 0, 1) := by decide +kernel
theorem dX12_readOne_149 : decode cX12_readOne 149 = .ok (.ldc2_w 167, 3) := by decide +kernel
theorem dX12_readOne_152 : decode cX12_readOne 152 = .ok (.invokevirtual 302, 3) := by decide +kernel
theorem dX12_readOne_155 : decode cX12_readOne 155 = .ok (.bastore, 1) := by decide +kernel
theorem dX12_readOne_156 : decode cX12_readOne 156 = .ok (.aload_n 0, 1) := by decide +kernel
theorem dX12_readOne_157 : decode cX12_readOne 157 = .ok (.getfield 20, 3) := by decide +kernel
theorem dX12_readOne_160 : decode cX12_readOne 160 = .ok (.aload_n 0, 1) := by decide +kernel
theorem dX12_readOne_161 : decode cX12_readOne 161 = .ok (.getfield 243, 3) := by decide +kernel
theorem dX12_readOne_164 : decode cX12_readOne 164 = .ok (.dup2, 1) := by decide +kernel
theorem dX12_readOne_165 : decode cX12_readOne 165 = .ok (.iaload, 1) := by decide +kernel
theorem dX12_readOne_166 : decode cX12_readOne 166 = .ok (.iconst 1, 1) := by decide +kernel
theorem dX12_readOne_167 : decode cX12_readOne 167 = .ok (.iadd, 1) := by decide +kernel
theorem dX12_readOne_168 : decode cX12_readOne 168 = .ok (.iastore, 1) := by decide +kernel
theorem dX12_readOne_169 : decode cX12_readOne 169 = .ok (.return_, 1) := by decide +kernel
theorem dX12_readBlind_0 : decode cX12_readBlind 0 = .ok (.aload_n 0, 1) := by decide +kernel
theorem dX12_readBlind_1 : decode cX12_readBlind 1 = .ok (.aload_n 0, 1) := by decide +kernel
theorem dX12_readBlind_2 : decode cX12_readBlind 2 = .ok (.invokevirtual 298, 3) := by decide +kernel
theorem dX12_readBlind_5 : decode cX12_readBlind 5 = .ok (.invokevirtual 305, 3) := by decide +kernel
theorem dX12_readBlind_8 : decode cX12_readBlind 8 = .ok (.istore_n 1, 1) := by decide +kernel
theorem dX12_readBlind_9 : decode cX12_readBlind 9 = .ok (.aload_n 0, 1) := by decide +kernel
theorem dX12_readBlind_10 : decode cX12_readBlind 10 = .ok (.invokevirtual 298, 3) := by decide +kernel
theorem dX12_readBlind_13 : decode cX12_readBlind 13 = .ok (.istore_n 2, 1) := by decide +kernel
theorem dX12_readBlind_14 : decode cX12_readBlind 14 = .ok (.aload_n 0, 1) := by decide +kernel
theorem dX12_readBlind_15 : decode cX12_readBlind 15 = .ok (.invokevirtual 233, 3) := by decide +kernel
theorem dX12_readBlind_18 : decode cX12_readBlind 18 = .ok (.ifCond .eq 42, 3) := by decide +kernel
theorem dX12_readBlind_21 : decode cX12_readBlind 21 = .ok (.iload_n 2, 1) := by decide +kernel
theorem dX12_readBlind_22 : decode cX12_readBlind 22 = .ok (.ifCond .lt 38, 3) := by decide +kernel
theorem dX12_readBlind_25 : decode cX12_readBlind 25 = .ok (.iload_n 1, 1) := by decide +kernel
theorem dX12_readBlind_26 : decode cX12_readBlind 26 = .ok (.iload_n 2, 1) := by decide +kernel
theorem dX12_readBlind_27 : decode cX12_readBlind 27 = .ok (.if_icmp .eq 24, 3) := by decide +kernel
theorem dX12_readBlind_30 : decode cX12_readBlind 30 = .ok (.aload_n 0, 1) := by decide +kernel
theorem dX12_readBlind_31 : decode cX12_readBlind 31 = .ok (.getfield 36, 3) := by decide +kernel
theorem dX12_readBlind_34 : decode cX12_readBlind 34 = .ok (.bipush 8, 2) := by decide +kernel
theorem dX12_readBlind_36 : decode cX12_readBlind 36 = .ok (.aload_n 0, 1) := by decide +kernel
theorem dX12_readBlind_37 : decode cX12_readBlind 37 = .ok (.getfield 243, 3) := by decide +kernel
theorem dX12_readBlind_40 : decode cX12_readBlind 40 = .ok (.imul, 1) := by decide +kernel
theorem dX12_readBlind_41 : decode cX12_readBlind 41 = .ok (.iload_n 1, 1) := by decide +kernel
theorem dX12_readBlind_42 : decode cX12_readBlind 42 = .ok (.iadd, 1) := by decide +kernel
theorem dX12_readBlind_43 : decode cX12_readBlind 43 = .ok (.iaload, 1) := by decide +kernel
theorem dX12_readBlind_44 : decode cX12_readBlind 44 = .ok (.iload_n 2, 1) := by decide +kernel
theorem dX12_readBlind_45 : decode cX12_readBlind 45 = .ok (.ishr, 1) := by decide +kernel
theorem dX12_readBlind_46 : decode cX12_readBlind 46 = .ok (.iconst 1, 1) := by decide +kernel
theorem dX12_readBlind_47 : decode cX12_readBlind 47 = .ok (.iand, 1) := by decide +kernel
theorem dX12_readBlind_48 : decode cX12_readBlind 48 = .ok (.ifCond .ne 12, 3) := by decide +kernel
theorem dX12_readBlind_51 : decode cX12_readBlind 51 = .ok (.aload_n 0, 1) := by decide +kernel
theorem dX12_readBlind_52 : decode cX12_readBlind 52 = .ok (.iconst 3, 1) := by decide +kernel
theorem dX12_readBlind_53 : decode cX12_readBlind 53 = .ok (.aload_n 0, 1) := by decide +kernel
theorem dX12_readBlind_54 : decode cX12_readBlind 54 = .ok (.getfield 198, 3) := by decide +kernel
theorem dX12_readBlind_57 : decode cX12_readBlind 57 = .ok (.invokevirtual 229, 3) := by decide +kernel
theorem dX12_readBlind_60 : decode cX12_readBlind 60 = .ok (.aload_n 0, 1) := by decide +kernel
theorem dX12_readBlind_61 : decode cX12_readBlind 61 = .ok (.iload_n 2, 1) := by decide +kernel
theorem dX12_readBlind_62 : decode cX12_readBlind 62 = .ok (.invokevirtual 305, 3) := by decide +kernel
theorem dX12_readBlind_65 : decode cX12_readBlind 65 = .ok (.istore_n 2, 1) := by decide +kernel
theorem dX12_readBlind_66 : decode cX12_readBlind 66 = .ok (.aload_n 0, 1) := by decide +kernel
theorem dX12_readBlind_67 : decode cX12_readBlind 67 = .ok (.invokevirtual 233, 3) := by decide +kernel
theorem dX12_readBlind_70 : decode cX12_readBlind 70 = .ok (.ifCond .ne 4, 3) := by decide +kernel
theorem dX12_readBlind_73 : decode cX12_readBlind 73 = .ok (.return_, 1) := by decide +kernel
theorem dX12_readBlind_74 : decode cX12_readBlind 74 = .ok (.aload_n 0, 1) := by decide +kernel
theorem dX12_readBlind_75 : decode cX12_readBlind 75 = .ok (.getfield 36, 3) := by decide +kernel
theorem dX12_readBlind_78 : decode cX12_readBlind 78 = .ok (.bipush 8, 2) := by decide +kernel
theorem dX12_readBlind_80 : decode cX12_readBlind 80 = .ok (.aload_n 0, 1) := by decide +kernel
theorem dX12_readBlind_81 : decode cX12_readBlind 81 = .ok (.getfield 243, 3) := by decide +kernel
theorem dX12_readBlind_84 : decode cX12_readBlind 84 = .ok (.imul, 1) := by decide +kernel
theorem dX12_readBlind_85 : decode cX12_readBlind 85 = .ok (.iload_n 1, 1) := by decide +kernel
theorem dX12_readBlind_86 : decode cX12_readBlind 86 = .ok (.iadd, 1) := by decide +kernel
theorem dX12_readBlind_87 : decode cX12_readBlind 87 = .ok (.dup2, 1) := by decide +kernel
theorem dX12_readBlind_88 : decode cX12_readBlind 88 = .ok (.iaload, 1) := by decide +kernel
theorem dX12_readBlind_89 : decode cX12_readBlind 89 = .ok (.iconst 1, 1) := by decide +kernel
theorem dX12_readBlind_90 : decode cX12_readBlind 90 = .ok (.iload_n 2, 1) := by decide +kernel
theorem dX12_readBlind_91 : decode cX12_readBlind 91 = .ok (.ishl, 1) := by decide +kernel
theorem dX12_readBlind_92 : decode cX12_readBlind 92 = .ok (.iconst (-1), 1) := by decide +kernel
theorem dX12_readBlind_93 : decode cX12_readBlind 93 = .ok (.ixor, 1) := by decide +kernel
theorem dX12_readBlind_94 : decode cX12_readBlind 94 = .ok (.iand, 1) := by decide +kernel
theorem dX12_readBlind_95 : decode cX12_readBlind 95 = .ok (.iastore, 1) := by decide +kernel
theorem dX12_readBlind_96 : decode cX12_readBlind 96 = .ok (.aload_n 0, 1) := by decide +kernel
theorem dX12_readBlind_97 : decode cX12_readBlind 97 = .ok (.getfield 24, 3) := by decide +kernel
theorem dX12_readBlind_100 : decode cX12_readBlind 100 = .ok (.aload_n 0, 1) := by decide +kernel
theorem dX12_readBlind_101 : decode cX12_readBlind 101 = .ok (.getfield 243, 3) := by decide +kernel
theorem dX12_readBlind_104 : decode cX12_readBlind 104 = .ok (.dup2, 1) := by decide +kernel
theorem dX12_readBlind_105 : decode cX12_readBlind 105 = .ok (.iaload, 1) := by decide +kernel
theorem dX12_readBlind_106 : decode cX12_readBlind 106 = .ok (.iconst 1, 1) := by decide +kernel
theorem dX12_readBlind_107 : decode cX12_readBlind 107 = .ok (.iadd, 1) := by decide +kernel
theorem dX12_readBlind_108 : decode cX12_readBlind 108 = .ok (.iastore, 1) := by decide +kernel
theorem dX12_readBlind_109 : decode cX12_readBlind 109 = .ok (.return_, 1) := by decide +kernel
theorem dX12_readLaw_0 : decode cX12_readLaw 0 = .ok (.aload_n 0, 1) := by decide +kernel
theorem dX12_readLaw_1 : decode cX12_readLaw 1 = .ok (.getfield 45, 3) := by decide +kernel
theorem dX12_readLaw_4 : decode cX12_readLaw 4 = .ok (.aload_n 0, 1) := by decide +kernel
theorem dX12_readLaw_5 : decode cX12_readLaw 5 = .ok (.getfield 243, 3) := by decide +kernel
theorem dX12_readLaw_8 : decode cX12_readLaw 8 = .ok (.aload_n 0, 1) := by decide +kernel
theorem dX12_readLaw_9 : decode cX12_readLaw 9 = .ok (.ldc2_w 175, 3) := by decide +kernel
theorem dX12_readLaw_12 : decode cX12_readLaw 12 = .ok (.invokevirtual 270, 3) := by decide +kernel
theorem dX12_readLaw_15 : decode cX12_readLaw 15 = .ok (.bastore, 1) := by decide +kernel
theorem dX12_readLaw_16 : decode cX12_readLaw 16 = .ok (.aload_n 0, 1) := by decide +kernel
theorem dX12_readLaw_17 : decode cX12_readLaw 17 = .ok (.aload_n 0, 1) := by decide +kernel
theorem dX12_readLaw_18 : decode cX12_readLaw 18 = .ok (.ldc2_w 173, 3) := by decide +kernel
theorem dX12_readLaw_21 : decode cX12_readLaw 21 = .ok (.invokevirtual 270, 3) := by decide +kernel
theorem dX12_readLaw_24 : decode cX12_readLaw 24 = .ok (.ifCond .ne 13, 3) := by decide +kernel
theorem dX12_readLaw_27 : decode cX12_readLaw 27 = .ok (.aload_n 0, 1) := by decide +kernel
theorem dX12_readLaw_28 : decode cX12_readLaw 28 = .ok (.ldc2_w 175, 3) := by decide +kernel
theorem dX12_readLaw_31 : decode cX12_readLaw 31 = .ok (.invokevirtual 270, 3) := by decide +kernel
theorem dX12_readLaw_34 : decode cX12_readLaw 34 = .ok (.ifCond .eq 7, 3) := by decide +kernel
theorem dX12_readLaw_37 : decode cX12_readLaw 37 = .ok (.iconst 1, 1) := by decide +kernel
theorem dX12_readLaw_38 : decode cX12_readLaw 38 = .ok (.goto 4, 3) := by decide +kernel
theorem dX12_readLaw_41 : decode cX12_readLaw 41 = .ok (.iconst 0, 1) := by decide +kernel
theorem dX12_readLaw_42 : decode cX12_readLaw 42 = .ok (.invokevirtual 294, 3) := by decide +kernel
theorem dX12_readLaw_45 : decode cX12_readLaw 45 = .ok (.aload_n 0, 1) := by decide +kernel
theorem dX12_readLaw_46 : decode cX12_readLaw 46 = .ok (.getfield 49, 3) := by decide +kernel
theorem dX12_readLaw_49 : decode cX12_readLaw 49 = .ok (.aload_n 0, 1) := by decide +kernel
theorem dX12_readLaw_50 : decode cX12_readLaw 50 = .ok (.getfield 243, 3) := by decide +kernel
theorem dX12_readLaw_53 : decode cX12_readLaw 53 = .ok (.iconst 1, 1) := by decide +kernel
theorem dX12_readLaw_54 : decode cX12_readLaw 54 = .ok (.bastore, 1) := by decide +kernel
theorem dX12_readLaw_55 : decode cX12_readLaw 55 = .ok (.return_, 1) := by decide +kernel
theorem dX12_readSaying_0 : decode cX12_readSaying 0 = .ok (.bipush 6, 2) := by decide +kernel
theorem dX12_readSaying_2 : decode cX12_readSaying 2 = .ok (.aload_n 0, 1) := by decide +kernel
theorem dX12_readSaying_3 : decode cX12_readSaying 3 = .ok (.getfield 243, 3) := by decide +kernel
theorem dX12_readSaying_6 : decode cX12_readSaying 6 = .ok (.imul, 1) := by decide +kernel
theorem dX12_readSaying_7 : decode cX12_readSaying 7 = .ok (.aload_n 0, 1) := by decide +kernel
theorem dX12_readSaying_8 : decode cX12_readSaying 8 = .ok (.getfield 27, 3) := by decide +kernel
theorem dX12_readSaying_11 : decode cX12_readSaying 11 = .ok (.aload_n 0, 1) := by decide +kernel
theorem dX12_readSaying_12 : decode cX12_readSaying 12 = .ok (.getfield 243, 3) := by decide +kernel
theorem dX12_readSaying_15 : decode cX12_readSaying 15 = .ok (.iaload, 1) := by decide +kernel
theorem dX12_readSaying_16 : decode cX12_readSaying 16 = .ok (.iadd, 1) := by decide +kernel
theorem dX12_readSaying_17 : decode cX12_readSaying 17 = .ok (.istore_n 1, 1) := by decide +kernel
theorem dX12_readSaying_18 : decode cX12_readSaying 18 = .ok (.aload_n 0, 1) := by decide +kernel
theorem dX12_readSaying_19 : decode cX12_readSaying 19 = .ok (.getfield 39, 3) := by decide +kernel
theorem dX12_readSaying_22 : decode cX12_readSaying 22 = .ok (.iload_n 1, 1) := by decide +kernel
theorem dX12_readSaying_23 : decode cX12_readSaying 23 = .ok (.aload_n 0, 1) := by decide +kernel
theorem dX12_readSaying_24 : decode cX12_readSaying 24 = .ok (.getfield 246, 3) := by decide +kernel
theorem dX12_readSaying_27 : decode cX12_readSaying 27 = .ok (.iastore, 1) := by decide +kernel
theorem dX12_readSaying_28 : decode cX12_readSaying 28 = .ok (.aload_n 0, 1) := by decide +kernel
theorem dX12_readSaying_29 : decode cX12_readSaying 29 = .ok (.invokevirtual 308, 3) := by decide +kernel
theorem dX12_readSaying_32 : decode cX12_readSaying 32 = .ok (.aload_n 0, 1) := by decide +kernel
theorem dX12_readSaying_33 : decode cX12_readSaying 33 = .ok (.getfield 42, 3) := by decide +kernel
theorem dX12_readSaying_36 : decode cX12_readSaying 36 = .ok (.iload_n 1, 1) := by decide +kernel
theorem dX12_readSaying_37 : decode cX12_readSaying 37 = .ok (.aload_n 0, 1) := by decide +kernel
theorem dX12_readSaying_38 : decode cX12_readSaying 38 = .ok (.getfield 246, 3) := by decide +kernel
theorem dX12_readSaying_41 : decode cX12_readSaying 41 = .ok (.iastore, 1) := by decide +kernel
theorem dX12_readSaying_42 : decode cX12_readSaying 42 = .ok (.aload_n 0, 1) := by decide +kernel
theorem dX12_readSaying_43 : decode cX12_readSaying 43 = .ok (.getfield 27, 3) := by decide +kernel
theorem dX12_readSaying_46 : decode cX12_readSaying 46 = .ok (.aload_n 0, 1) := by decide +kernel
theorem dX12_readSaying_47 : decode cX12_readSaying 47 = .ok (.getfield 243, 3) := by decide +kernel
theorem dX12_readSaying_50 : decode cX12_readSaying 50 = .ok (.dup2, 1) := by decide +kernel
theorem dX12_readSaying_51 : decode cX12_readSaying 51 = .ok (.iaload, 1) := by decide +kernel
theorem dX12_readSaying_52 : decode cX12_readSaying 52 = .ok (.iconst 1, 1) := by decide +kernel
theorem dX12_readSaying_53 : decode cX12_readSaying 53 = .ok (.iadd, 1) := by decide +kernel
theorem dX12_readSaying_54 : decode cX12_readSaying 54 = .ok (.iastore, 1) := by decide +kernel
theorem dX12_readSaying_55 : decode cX12_readSaying 55 = .ok (.return_, 1) := by decide +kernel
theorem dX12_emit_0 : decode cX12_emit 0 = .ok (.aload_n 0, 1) := by decide +kernel
theorem dX12_emit_1 : decode cX12_emit 1 = .ok (.getfield 59, 3) := by decide +kernel
theorem dX12_emit_4 : decode cX12_emit 4 = .ok (.aload_n 0, 1) := by decide +kernel
theorem dX12_emit_5 : decode cX12_emit 5 = .ok (.getfield 246, 3) := by decide +kernel
theorem dX12_emit_8 : decode cX12_emit 8 = .ok (.iload_n 1, 1) := by decide +kernel
theorem dX12_emit_9 : decode cX12_emit 9 = .ok (.iastore, 1) := by decide +kernel
theorem dX12_emit_10 : decode cX12_emit 10 = .ok (.aload_n 0, 1) := by decide +kernel
theorem dX12_emit_11 : decode cX12_emit 11 = .ok (.getfield 62, 3) := by decide +kernel
theorem dX12_emit_14 : decode cX12_emit 14 = .ok (.aload_n 0, 1) := by decide +kernel
theorem dX12_emit_15 : decode cX12_emit 15 = .ok (.getfield 246, 3) := by decide +kernel
theorem dX12_emit_18 : decode cX12_emit 18 = .ok (.iload_n 2, 1) := by decide +kernel
theorem dX12_emit_19 : decode cX12_emit 19 = .ok (.iastore, 1) := by decide +kernel
theorem dX12_emit_20 : decode cX12_emit 20 = .ok (.aload_n 0, 1) := by decide +kernel
theorem dX12_emit_21 : decode cX12_emit 21 = .ok (.dup, 1) := by decide +kernel
theorem dX12_emit_22 : decode cX12_emit 22 = .ok (.getfield 246, 3) := by decide +kernel
theorem dX12_emit_25 : decode cX12_emit 25 = .ok (.iconst 1, 1) := by decide +kernel
theorem dX12_emit_26 : decode cX12_emit 26 = .ok (.iadd, 1) := by decide +kernel
theorem dX12_emit_27 : decode cX12_emit 27 = .ok (.putfield 246, 3) := by decide +kernel
theorem dX12_emit_30 : decode cX12_emit 30 = .ok (.return_, 1) := by decide +kernel
theorem dX12_pushE_0 : decode cX12_pushE 0 = .ok (.aload_n 0, 1) := by decide +kernel
theorem dX12_pushE_1 : decode cX12_pushE 1 = .ok (.getfield 65, 3) := by decide +kernel
theorem dX12_pushE_4 : decode cX12_pushE 4 = .ok (.aload_n 0, 1) := by decide +kernel
theorem dX12_pushE_5 : decode cX12_pushE 5 = .ok (.getfield 311, 3) := by decide +kernel
theorem dX12_pushE_8 : decode cX12_pushE 8 = .ok (.iload_n 1, 1) := by decide +kernel
theorem dX12_pushE_9 : decode cX12_pushE 9 = .ok (.iastore, 1) := by decide +kernel
theorem dX12_pushE_10 : decode cX12_pushE 10 = .ok (.aload_n 0, 1) := by decide +kernel
theorem dX12_pushE_11 : decode cX12_pushE 11 = .ok (.getfield 68, 3) := by decide +kernel
theorem dX12_pushE_14 : decode cX12_pushE 14 = .ok (.aload_n 0, 1) := by decide +kernel
theorem dX12_pushE_15 : decode cX12_pushE 15 = .ok (.getfield 311, 3) := by decide +kernel
theorem dX12_pushE_18 : decode cX12_pushE 18 = .ok (.iload_n 2, 1) := by decide +kernel
theorem dX12_pushE_19 : decode cX12_pushE 19 = .ok (.iastore, 1) := by decide +kernel
theorem dX12_pushE_20 : decode cX12_pushE 20 = .ok (.aload_n 0, 1) := by decide +kernel
theorem dX12_pushE_21 : decode cX12_pushE 21 = .ok (.getfield 71, 3) := by decide +kernel
theorem dX12_pushE_24 : decode cX12_pushE 24 = .ok (.aload_n 0, 1) := by decide +kernel
theorem dX12_pushE_25 : decode cX12_pushE 25 = .ok (.getfield 311, 3) := by decide +kernel
theorem dX12_pushE_28 : decode cX12_pushE 28 = .ok (.iload_n 3, 1) := by decide +kernel
theorem dX12_pushE_29 : decode cX12_pushE 29 = .ok (.iastore, 1) := by decide +kernel
theorem dX12_pushE_30 : decode cX12_pushE 30 = .ok (.aload_n 0, 1) := by decide +kernel
theorem dX12_pushE_31 : decode cX12_pushE 31 = .ok (.dup, 1) := by decide +kernel
theorem dX12_pushE_32 : decode cX12_pushE 32 = .ok (.getfield 311, 3) := by decide +kernel
theorem dX12_pushE_35 : decode cX12_pushE 35 = .ok (.iconst 1, 1) := by decide +kernel
theorem dX12_pushE_36 : decode cX12_pushE 36 = .ok (.iadd, 1) := by decide +kernel
theorem dX12_pushE_37 : decode cX12_pushE 37 = .ok (.putfield 311, 3) := by decide +kernel
theorem dX12_pushE_40 : decode cX12_pushE 40 = .ok (.return_, 1) := by decide +kernel
theorem dX12_f_0 : decode cX12_f 0 = .ok (.aload_n 0, 1) := by decide +kernel
theorem dX12_f_1 : decode cX12_f 1 = .ok (.iconst 0, 1) := by decide +kernel
theorem dX12_f_2 : decode cX12_f 2 = .ok (.putfield 311, 3) := by decide +kernel
theorem dX12_f_5 : decode cX12_f 5 = .ok (.aload_n 0, 1) := by decide +kernel
theorem dX12_f_6 : decode cX12_f 6 = .ok (.iconst 0, 1) := by decide +kernel
theorem dX12_f_7 : decode cX12_f 7 = .ok (.putfield 314, 3) := by decide +kernel
theorem dX12_f_10 : decode cX12_f 10 = .ok (.aload_n 0, 1) := by decide +kernel
theorem dX12_f_11 : decode cX12_f 11 = .ok (.bipush 8, 2) := by decide +kernel
theorem dX12_f_13 : decode cX12_f 13 = .ok (.iconst 0, 1) := by decide +kernel
theorem dX12_f_14 : decode cX12_f 14 = .ok (.iconst 0, 1) := by decide +kernel
theorem dX12_f_15 : decode cX12_f 15 = .ok (.invokevirtual 317, 3) := by decide +kernel
theorem dX12_f_18 : decode cX12_f 18 = .ok (.iconst 1, 1) := by decide +kernel
theorem dX12_f_19 : decode cX12_f 19 = .ok (.istore_n 1, 1) := by decide +kernel
theorem dX12_f_20 : decode cX12_f 20 = .ok (.aload_n 0, 1) := by decide +kernel
theorem dX12_f_21 : decode cX12_f 21 = .ok (.invokevirtual 233, 3) := by decide +kernel
theorem dX12_f_24 : decode cX12_f 24 = .ok (.ifCond .eq 29, 3) := by decide +kernel
theorem dX12_f_27 : decode cX12_f 27 = .ok (.aload_n 0, 1) := by decide +kernel
theorem dX12_f_28 : decode cX12_f 28 = .ok (.getfield 311, 3) := by decide +kernel
theorem dX12_f_31 : decode cX12_f 31 = .ok (.ifCond .le 22, 3) := by decide +kernel
theorem dX12_f_34 : decode cX12_f 34 = .ok (.iload_n 1, 1) := by decide +kernel
theorem dX12_f_35 : decode cX12_f 35 = .ok (.ifCond .eq 10, 3) := by decide +kernel
theorem dX12_f_38 : decode cX12_f 38 = .ok (.aload_n 0, 1) := by decide +kernel
theorem dX12_f_39 : decode cX12_f 39 = .ok (.invokevirtual 321, 3) := by decide +kernel
theorem dX12_f_42 : decode cX12_f 42 = .ok (.goto 7, 3) := by decide +kernel
theorem dX12_f_45 : decode cX12_f 45 = .ok (.aload_n 0, 1) := by decide +kernel
theorem dX12_f_46 : decode cX12_f 46 = .ok (.invokevirtual 324, 3) := by decide +kernel
theorem dX12_f_49 : decode cX12_f 49 = .ok (.istore_n 1, 1) := by decide +kernel
theorem dX12_f_50 : decode cX12_f 50 = .ok (.goto (-30), 3) := by decide +kernel
theorem dX12_f_53 : decode cX12_f 53 = .ok (.return_, 1) := by decide +kernel
theorem dX12_unitHere_0 : decode cX12_unitHere 0 = .ok (.aload_n 0, 1) := by decide +kernel
theorem dX12_unitHere_1 : decode cX12_unitHere 1 = .ok (.getfield 205, 3) := by decide +kernel
theorem dX12_unitHere_4 : decode cX12_unitHere 4 = .ok (.iconst 4, 1) := by decide +kernel
theorem dX12_unitHere_5 : decode cX12_unitHere 5 = .ok (.if_icmp .ne 6, 3) := by decide +kernel
theorem dX12_unitHere_8 : decode cX12_unitHere 8 = .ok (.bipush 110, 2) := by decide +kernel
theorem dX12_unitHere_10 : decode cX12_unitHere 10 = .ok (.ireturn, 1) := by decide +kernel
theorem dX12_unitHere_11 : decode cX12_unitHere 11 = .ok (.aload_n 0, 1) := by decide +kernel
theorem dX12_unitHere_12 : decode cX12_unitHere 12 = .ok (.bipush 40, 2) := by decide +kernel
theorem dX12_unitHere_14 : decode cX12_unitHere 14 = .ok (.invokevirtual 291, 3) := by decide +kernel
theorem dX12_unitHere_17 : decode cX12_unitHere 17 = .ok (.ifCond .eq 6, 3) := by decide +kernel
theorem dX12_unitHere_20 : decode cX12_unitHere 20 = .ok (.bipush 40, 2) := by decide +kernel
theorem dX12_unitHere_22 : decode cX12_unitHere 22 = .ok (.ireturn, 1) := by decide +kernel
theorem dX12_unitHere_23 : decode cX12_unitHere 23 = .ok (.aload_n 0, 1) := by decide +kernel
theorem dX12_unitHere_24 : decode cX12_unitHere 24 = .ok (.ldc2_w 179, 3) := by decide +kernel
theorem dX12_unitHere_27 : decode cX12_unitHere 27 = .ok (.invokevirtual 270, 3) := by decide +kernel
theorem dX12_unitHere_30 : decode cX12_unitHere 30 = .ok (.ifCond .eq 6, 3) := by decide +kernel
theorem dX12_unitHere_33 : decode cX12_unitHere 33 = .ok (.bipush 109, 2) := by decide +kernel
theorem dX12_unitHere_35 : decode cX12_unitHere 35 = .ok (.ireturn, 1) := by decide +kernel
theorem dX12_unitHere_36 : decode cX12_unitHere 36 = .ok (.aload_n 0, 1) := by decide +kernel
theorem dX12_unitHere_37 : decode cX12_unitHere 37 = .ok (.ldc2_w 173, 3) := by decide +kernel
theorem dX12_unitHere_40 : decode cX12_unitHere 40 = .ok (.invokevirtual 270, 3) := by decide +kernel
theorem dX12_unitHere_43 : decode cX12_unitHere 43 = .ok (.ifCond .eq 6, 3) := by decide +kernel
theorem dX12_unitHere_46 : decode cX12_unitHere 46 = .ok (.bipush 104, 2) := by decide +kernel
theorem dX12_unitHere_48 : decode cX12_unitHere 48 = .ok (.ireturn, 1) := by decide +kernel
theorem dX12_unitHere_49 : decode cX12_unitHere 49 = .ok (.aload_n 0, 1) := by decide +kernel
theorem dX12_unitHere_50 : decode cX12_unitHere 50 = .ok (.ldc2_w 181, 3) := by decide +kernel
theorem dX12_unitHere_53 : decode cX12_unitHere 53 = .ok (.invokevirtual 270, 3) := by decide +kernel
theorem dX12_unitHere_56 : decode cX12_unitHere 56 = .ok (.ifCond .eq 6, 3) := by decide +kernel
theorem dX12_unitHere_59 : decode cX12_unitHere 59 = .ok (.bipush 103, 2) := by decide +kernel
theorem dX12_unitHere_61 : decode cX12_unitHere 61 = .ok (.ireturn, 1) := by decide +kernel
theorem dX12_unitHere_62 : decode cX12_unitHere 62 = .ok (.aload_n 0, 1) := by decide +kernel
theorem dX12_unitHere_63 : decode cX12_unitHere 63 = .ok (.ldc2_w 183, 3) := by decide +kernel
theorem dX12_unitHere_66 : decode cX12_unitHere 66 = .ok (.invokevirtual 270, 3) := by decide +kernel
theorem dX12_unitHere_69 : decode cX12_unitHere 69 = .ok (.ifCond .eq 6, 3) := by decide +kernel
theorem dX12_unitHere_72 : decode cX12_unitHere 72 = .ok (.bipush 107, 2) := by decide +kernel
theorem dX12_unitHere_74 : decode cX12_unitHere 74 = .ok (.ireturn, 1) := by decide +kernel
theorem dX12_unitHere_75 : decode cX12_unitHere 75 = .ok (.aload_n 0, 1) := by decide +kernel
theorem dX12_unitHere_76 : decode cX12_unitHere 76 = .ok (.ldc2_w 185, 3) := by decide +kernel
theorem dX12_unitHere_79 : decode cX12_unitHere 79 = .ok (.invokevirtual 270, 3) := by decide +kernel
theorem dX12_unitHere_82 : decode cX12_unitHere 82 = .ok (.ifCond .eq 6, 3) := by decide +kernel
theorem dX12_unitHere_85 : decode cX12_unitHere 85 = .ok (.bipush 97, 2) := by decide +kernel
theorem dX12_unitHere_87 : decode cX12_unitHere 87 = .ok (.ireturn, 1) := by decide +kernel
theorem dX12_unitHere_88 : decode cX12_unitHere 88 = .ok (.aload_n 0, 1) := by decide +kernel
theorem dX12_unitHere_89 : decode cX12_unitHere 89 = .ok (.ldc2_w 187, 3) := by decide +kernel
theorem dX12_unitHere_92 : decode cX12_unitHere 92 = .ok (.invokevirtual 270, 3) := by decide +kernel
theorem dX12_unitHere_95 : decode cX12_unitHere 95 = .ok (.ifCond .eq 8, 3) := by decide +kernel
theorem dX12_unitHere_98 : decode cX12_unitHere 98 = .ok (.bipush 99, 2) := by decide +kernel
theorem dX12_unitHere_100 : decode cX12_unitHere 100 = .ok (.goto 4, 3) := by decide +kernel
theorem dX12_unitHere_103 : decode cX12_unitHere 103 = .ok (.iconst 0, 1) := by decide +kernel
theorem dX12_unitHere_104 : decode cX12_unitHere 104 = .ok (.ireturn, 1) := by decide +kernel
theorem dX12_unit_0 : decode cX12_unit 0 = .ok (.aload_n 0, 1) := by decide +kernel
theorem dX12_unit_1 : decode cX12_unit 1 = .ok (.getfield 65, 3) := by decide +kernel
theorem dX12_unit_4 : decode cX12_unit 4 = .ok (.aload_n 0, 1) := by decide +kernel
theorem dX12_unit_5 : decode cX12_unit 5 = .ok (.getfield 311, 3) := by decide +kernel
theorem dX12_unit_8 : decode cX12_unit 8 = .ok (.iconst 1, 1) := by decide +kernel
theorem dX12_unit_9 : decode cX12_unit 9 = .ok (.isub, 1) := by decide +kernel
theorem dX12_unit_10 : decode cX12_unit 10 = .ok (.iaload, 1) := by decide +kernel
theorem dX12_unit_11 : decode cX12_unit 11 = .ok (.iconst 3, 1) := by decide +kernel
theorem dX12_unit_12 : decode cX12_unit 12 = .ok (.if_icmp .le 19, 3) := by decide +kernel
theorem dX12_unit_15 : decode cX12_unit 15 = .ok (.aload_n 0, 1) := by decide +kernel
theorem dX12_unit_16 : decode cX12_unit 16 = .ok (.getfield 65, 3) := by decide +kernel
theorem dX12_unit_19 : decode cX12_unit 19 = .ok (.aload_n 0, 1) := by decide +kernel
theorem dX12_unit_20 : decode cX12_unit 20 = .ok (.getfield 311, 3) := by decide +kernel
theorem dX12_unit_23 : decode cX12_unit 23 = .ok (.iconst 1, 1) := by decide +kernel
theorem dX12_unit_24 : decode cX12_unit 24 = .ok (.isub, 1) := by decide +kernel
theorem dX12_unit_25 : decode cX12_unit 25 = .ok (.iaload, 1) := by decide +kernel
theorem dX12_unit_26 : decode cX12_unit 26 = .ok (.bipush 7, 2) := by decide +kernel
theorem dX12_unit_28 : decode cX12_unit 28 = .ok (.if_icmp .lt 7, 3) := by decide +kernel
theorem dX12_unit_31 : decode cX12_unit 31 = .ok (.iconst 1, 1) := by decide +kernel
theorem dX12_unit_32 : decode cX12_unit 32 = .ok (.goto 4, 3) := by decide +kernel
theorem dX12_unit_35 : decode cX12_unit 35 = .ok (.iconst 0, 1) := by decide +kernel
theorem dX12_unit_36 : decode cX12_unit 36 = .ok (.istore_n 1, 1) := by decide +kernel
theorem dX12_unit_37 : decode cX12_unit 37 = .ok (.iload_n 1, 1) := by decide +kernel
theorem dX12_unit_38 : decode cX12_unit 38 = .ok (.ifCond .eq 17, 3) := by decide +kernel
theorem dX12_unit_41 : decode cX12_unit 41 = .ok (.aload_n 0, 1) := by decide +kernel
theorem dX12_unit_42 : decode cX12_unit 42 = .ok (.ldc2_w 193, 3) := by decide +kernel
theorem dX12_unit_45 : decode cX12_unit 45 = .ok (.invokevirtual 270, 3) := by decide +kernel
theorem dX12_unit_48 : decode cX12_unit 48 = .ok (.ifCond .eq 7, 3) := by decide +kernel
theorem dX12_unit_51 : decode cX12_unit 51 = .ok (.iconst 1, 1) := by decide +kernel
theorem dX12_unit_52 : decode cX12_unit 52 = .ok (.goto 4, 3) := by decide +kernel
theorem dX12_unit_55 : decode cX12_unit 55 = .ok (.iconst 0, 1) := by decide +kernel
theorem dX12_unit_56 : decode cX12_unit 56 = .ok (.istore_n 2, 1) := by decide +kernel
theorem dX12_unit_57 : decode cX12_unit 57 = .ok (.aload_n 0, 1) := by decide +kernel
theorem dX12_unit_58 : decode cX12_unit 58 = .ok (.invokevirtual 327, 3) := by decide +kernel
theorem dX12_unit_61 : decode cX12_unit 61 = .ok (.istore_n 3, 1) := by decide +kernel
theorem dX12_unit_62 : decode cX12_unit 62 = .ok (.iload_n 3, 1) := by decide +kernel
theorem dX12_unit_63 : decode cX12_unit 63 = .ok (.bipush 40, 2) := by decide +kernel
theorem dX12_unit_65 : decode cX12_unit 65 = .ok (.if_icmp .eq 21, 3) := by decide +kernel
theorem dX12_unit_68 : decode cX12_unit 68 = .ok (.iload_n 3, 1) := by decide +kernel
theorem dX12_unit_69 : decode cX12_unit 69 = .ok (.bipush 107, 2) := by decide +kernel
theorem dX12_unit_71 : decode cX12_unit 71 = .ok (.if_icmp .eq 15, 3) := by decide +kernel
theorem dX12_unit_74 : decode cX12_unit 74 = .ok (.iload_n 3, 1) := by decide +kernel
theorem dX12_unit_75 : decode cX12_unit 75 = .ok (.bipush 97, 2) := by decide +kernel
theorem dX12_unit_77 : decode cX12_unit 77 = .ok (.if_icmp .eq 9, 3) := by decide +kernel
theorem dX12_unit_80 : decode cX12_unit 80 = .ok (.iload_n 3, 1) := by decide +kernel
theorem dX12_unit_81 : decode cX12_unit 81 = .ok (.bipush 99, 2) := by decide +kernel
theorem dX12_unit_83 : decode cX12_unit 83 = .ok (.if_icmp .ne 7, 3) := by decide +kernel
theorem dX12_unit_86 : decode cX12_unit 86 = .ok (.iconst 1, 1) := by decide +kernel
theorem dX12_unit_87 : decode cX12_unit 87 = .ok (.goto 4, 3) := by decide +kernel
theorem dX12_unit_90 : decode cX12_unit 90 = .ok (.iconst 0, 1) := by decide +kernel
theorem dX12_unit_91 : decode cX12_unit 91 = .ok (.istore 4, 2) := by decide +kernel
theorem dX12_unit_93 : decode cX12_unit 93 = .ok (.iload_n 2, 1) := by decide +kernel
theorem dX12_unit_94 : decode cX12_unit 94 = .ok (.ifCond .ne 23, 3) := by decide +kernel
theorem dX12_unit_97 : decode cX12_unit 97 = .ok (.iload_n 3, 1) := by decide +kernel
theorem dX12_unit_98 : decode cX12_unit 98 = .ok (.ifCond .eq 37, 3) := by decide +kernel
theorem dX12_unit_101 : decode cX12_unit 101 = .ok (.aload_n 0, 1) := by decide +kernel
theorem dX12_unit_102 : decode cX12_unit 102 = .ok (.getfield 30, 3) := by decide +kernel
theorem dX12_unit_105 : decode cX12_unit 105 = .ok (.aload_n 0, 1) := by decide +kernel
theorem dX12_unit_106 : decode cX12_unit 106 = .ok (.getfield 249, 3) := by decide +kernel
theorem dX12_unit_109 : decode cX12_unit 109 = .ok (.iaload, 1) := by decide +kernel
theorem dX12_unit_110 : decode cX12_unit 110 = .ok (.aload_n 0, 1) := by decide +kernel
theorem dX12_unit_111 : decode cX12_unit 111 = .ok (.getfield 252, 3) := by decide +kernel
theorem dX12_unit_114 : decode cX12_unit 114 = .ok (.if_icmp .eq 21, 3) := by decide +kernel
theorem dX12_unit_117 : decode cX12_unit 117 = .ok (.iload_n 2, 1) := by decide +kernel
theorem dX12_unit_118 : decode cX12_unit 118 = .ok (.ifCond .ne 8, 3) := by decide +kernel
theorem dX12_unit_121 : decode cX12_unit 121 = .ok (.iload 4, 2) := by decide +kernel
theorem dX12_unit_123 : decode cX12_unit 123 = .ok (.ifCond .eq 16, 3) := by decide +kernel
theorem dX12_unit_126 : decode cX12_unit 126 = .ok (.aload_n 0, 1) := by decide +kernel
theorem dX12_unit_127 : decode cX12_unit 127 = .ok (.getfield 314, 3) := by decide +kernel
theorem dX12_unit_130 : decode cX12_unit 130 = .ok (.bipush 7, 2) := by decide +kernel
theorem dX12_unit_132 : decode cX12_unit 132 = .ok (.if_icmp .ne 7, 3) := by decide +kernel
theorem dX12_unit_135 : decode cX12_unit 135 = .ok (.aload_n 0, 1) := by decide +kernel
theorem dX12_unit_136 : decode cX12_unit 136 = .ok (.invokevirtual 240, 3) := by decide +kernel
theorem dX12_unit_139 : decode cX12_unit 139 = .ok (.aload_n 0, 1) := by decide +kernel
theorem dX12_unit_140 : decode cX12_unit 140 = .ok (.invokevirtual 233, 3) := by decide +kernel
theorem dX12_unit_143 : decode cX12_unit 143 = .ok (.ifCond .ne 5, 3) := by decide +kernel
theorem dX12_unit_146 : decode cX12_unit 146 = .ok (.iconst 1, 1) := by decide +kernel
theorem dX12_unit_147 : decode cX12_unit 147 = .ok (.ireturn, 1) := by decide +kernel
theorem dX12_unit_148 : decode cX12_unit 148 = .ok (.aload_n 0, 1) := by decide +kernel
theorem dX12_unit_149 : decode cX12_unit 149 = .ok (.getfield 30, 3) := by decide +kernel
theorem dX12_unit_152 : decode cX12_unit 152 = .ok (.aload_n 0, 1) := by decide +kernel
theorem dX12_unit_153 : decode cX12_unit 153 = .ok (.getfield 249, 3) := by decide +kernel
theorem dX12_unit_156 : decode cX12_unit 156 = .ok (.dup2, 1) := by decide +kernel
theorem dX12_unit_157 : decode cX12_unit 157 = .ok (.iaload, 1) := by decide +kernel
theorem dX12_unit_158 : decode cX12_unit 158 = .ok (.iload_n 2, 1) := by decide +kernel
theorem dX12_unit_159 : decode cX12_unit 159 = .ok (.ifCond .eq 7, 3) := by decide +kernel
theorem dX12_unit_162 : decode cX12_unit 162 = .ok (.iconst 0, 1) := by decide +kernel
theorem dX12_unit_163 : decode cX12_unit 163 = .ok (.goto 4, 3) := by decide +kernel
theorem dX12_unit_166 : decode cX12_unit 166 = .ok (.iconst 1, 1) := by decide +kernel
theorem dX12_unit_167 : decode cX12_unit 167 = .ok (.iadd, 1) := by decide +kernel
theorem dX12_unit_168 : decode cX12_unit 168 = .ok (.iastore, 1) := by decide +kernel
theorem dX12_unit_169 : decode cX12_unit 169 = .ok (.iload_n 3, 1) := by decide +kernel
theorem dX12_unit_170 : decode cX12_unit 170 = .ok (.bipush 110, 2) := by decide +kernel
theorem dX12_unit_172 : decode cX12_unit 172 = .ok (.if_icmp .ne 10, 3) := by decide +kernel
theorem dX12_unit_175 : decode cX12_unit 175 = .ok (.aload_n 0, 1) := by decide +kernel
theorem dX12_unit_176 : decode cX12_unit 176 = .ok (.getfield 223, 3) := by decide +kernel
theorem dX12_unit_179 : decode cX12_unit 179 = .ok (.goto 4, 3) := by decide +kernel
theorem dX12_unit_182 : decode cX12_unit 182 = .ok (.iconst 0, 1) := by decide +kernel
theorem dX12_unit_183 : decode cX12_unit 183 = .ok (.istore 5, 2) := by decide +kernel
theorem dX12_unit_185 : decode cX12_unit 185 = .ok (.aload_n 0, 1) := by decide +kernel
theorem dX12_unit_186 : decode cX12_unit 186 = .ok (.invokevirtual 237, 3) := by decide +kernel
theorem dX12_unit_189 : decode cX12_unit 189 = .ok (.iload_n 2, 1) := by decide +kernel
theorem dX12_unit_190 : decode cX12_unit 190 = .ok (.ifCond .eq 23, 3) := by decide +kernel
theorem dX12_unit_193 : decode cX12_unit 193 = .ok (.aload_n 0, 1) := by decide +kernel
theorem dX12_unit_194 : decode cX12_unit 194 = .ok (.iconst 3, 1) := by decide +kernel
theorem dX12_unit_195 : decode cX12_unit 195 = .ok (.bipush 126, 2) := by decide +kernel
theorem dX12_unit_197 : decode cX12_unit 197 = .ok (.iconst 0, 1) := by decide +kernel
theorem dX12_unit_198 : decode cX12_unit 198 = .ok (.invokevirtual 317, 3) := by decide +kernel
theorem dX12_unit_201 : decode cX12_unit 201 = .ok (.aload_n 0, 1) := by decide +kernel
theorem dX12_unit_202 : decode cX12_unit 202 = .ok (.dup, 1) := by decide +kernel
theorem dX12_unit_203 : decode cX12_unit 203 = .ok (.getfield 314, 3) := by decide +kernel
theorem dX12_unit_206 : decode cX12_unit 206 = .ok (.iconst 1, 1) := by decide +kernel
theorem dX12_unit_207 : decode cX12_unit 207 = .ok (.iadd, 1) := by decide +kernel
theorem dX12_unit_208 : decode cX12_unit 208 = .ok (.putfield 314, 3) := by decide +kernel
theorem dX12_unit_211 : decode cX12_unit 211 = .ok (.iconst 1, 1) := by decide +kernel
theorem dX12_unit_212 : decode cX12_unit 212 = .ok (.ireturn, 1) := by decide +kernel
theorem dX12_unit_213 : decode cX12_unit 213 = .ok (.iload_n 3, 1) := by decide +kernel
theorem dX12_unit_214 : decode cX12_unit 214 = .ok (.bipush 104, 2) := by decide +kernel
theorem dX12_unit_216 : decode cX12_unit 216 = .ok (.if_icmp .eq 15, 3) := by decide +kernel
theorem dX12_unit_219 : decode cX12_unit 219 = .ok (.iload_n 3, 1) := by decide +kernel
theorem dX12_unit_220 : decode cX12_unit 220 = .ok (.bipush 103, 2) := by decide +kernel
theorem dX12_unit_222 : decode cX12_unit 222 = .ok (.if_icmp .eq 9, 3) := by decide +kernel
theorem dX12_unit_225 : decode cX12_unit 225 = .ok (.iload_n 3, 1) := by decide +kernel
theorem dX12_unit_226 : decode cX12_unit 226 = .ok (.bipush 107, 2) := by decide +kernel
theorem dX12_unit_228 : decode cX12_unit 228 = .ok (.if_icmp .ne 13, 3) := by decide +kernel
theorem dX12_unit_231 : decode cX12_unit 231 = .ok (.aload_n 0, 1) := by decide +kernel
theorem dX12_unit_232 : decode cX12_unit 232 = .ok (.aload_n 0, 1) := by decide +kernel
theorem dX12_unit_233 : decode cX12_unit 233 = .ok (.invokevirtual 298, 3) := by decide +kernel
theorem dX12_unit_236 : decode cX12_unit 236 = .ok (.invokevirtual 305, 3) := by decide +kernel
theorem dX12_unit_239 : decode cX12_unit 239 = .ok (.istore 5, 2) := by decide +kernel
theorem dX12_unit_241 : decode cX12_unit 241 = .ok (.iload 4, 2) := by decide +kernel
theorem dX12_unit_243 : decode cX12_unit 243 = .ok (.ifCond .ne 12, 3) := by decide +kernel
theorem dX12_unit_246 : decode cX12_unit 246 = .ok (.aload_n 0, 1) := by decide +kernel
theorem dX12_unit_247 : decode cX12_unit 247 = .ok (.iload_n 3, 1) := by decide +kernel
theorem dX12_unit_248 : decode cX12_unit 248 = .ok (.iload 5, 2) := by decide +kernel
theorem dX12_unit_250 : decode cX12_unit 250 = .ok (.invokevirtual 330, 3) := by decide +kernel
theorem dX12_unit_253 : decode cX12_unit 253 = .ok (.iconst 0, 1) := by decide +kernel
theorem dX12_unit_254 : decode cX12_unit 254 = .ok (.ireturn, 1) := by decide +kernel
theorem dX12_unit_255 : decode cX12_unit 255 = .ok (.iload_n 3, 1) := by decide +kernel
theorem dX12_unit_256 : decode cX12_unit 256 = .ok (.bipush 40, 2) := by decide +kernel
theorem dX12_unit_258 : decode cX12_unit 258 = .ok (.if_icmp .eq 13, 3) := by decide +kernel
theorem dX12_unit_261 : decode cX12_unit 261 = .ok (.aload_n 0, 1) := by decide +kernel
theorem dX12_unit_262 : decode cX12_unit 262 = .ok (.aload_n 0, 1) := by decide +kernel
theorem dX12_unit_263 : decode cX12_unit 263 = .ok (.bipush 40, 2) := by decide +kernel
theorem dX12_unit_265 : decode cX12_unit 265 = .ok (.invokevirtual 291, 3) := by decide +kernel
theorem dX12_unit_268 : decode cX12_unit 268 = .ok (.invokevirtual 294, 3) := by decide +kernel
theorem dX12_unit_271 : decode cX12_unit 271 = .ok (.aload_n 0, 1) := by decide +kernel
theorem dX12_unit_272 : decode cX12_unit 272 = .ok (.bipush 7, 2) := by decide +kernel
theorem dX12_unit_274 : decode cX12_unit 274 = .ok (.iload_n 3, 1) := by decide +kernel
theorem dX12_unit_275 : decode cX12_unit 275 = .ok (.iload 5, 2) := by decide +kernel
theorem dX12_unit_277 : decode cX12_unit 277 = .ok (.invokevirtual 317, 3) := by decide +kernel
theorem dX12_unit_280 : decode cX12_unit 280 = .ok (.aload_n 0, 1) := by decide +kernel
theorem dX12_unit_281 : decode cX12_unit 281 = .ok (.dup, 1) := by decide +kernel
theorem dX12_unit_282 : decode cX12_unit 282 = .ok (.getfield 314, 3) := by decide +kernel
theorem dX12_unit_285 : decode cX12_unit 285 = .ok (.iconst 1, 1) := by decide +kernel
theorem dX12_unit_286 : decode cX12_unit 286 = .ok (.iadd, 1) := by decide +kernel
theorem dX12_unit_287 : decode cX12_unit 287 = .ok (.putfield 314, 3) := by decide +kernel
theorem dX12_unit_290 : decode cX12_unit 290 = .ok (.iconst 1, 1) := by decide +kernel
theorem dX12_unit_291 : decode cX12_unit 291 = .ok (.ireturn, 1) := by decide +kernel
theorem dX12_rankHere_0 : decode cX12_rankHere 0 = .ok (.aload_n 0, 1) := by decide +kernel
theorem dX12_rankHere_1 : decode cX12_rankHere 1 = .ok (.ldc2_w 189, 3) := by decide +kernel
theorem dX12_rankHere_4 : decode cX12_rankHere 4 = .ok (.invokevirtual 270, 3) := by decide +kernel
theorem dX12_rankHere_7 : decode cX12_rankHere 7 = .ok (.ifCond .eq 5, 3) := by decide +kernel
theorem dX12_rankHere_10 : decode cX12_rankHere 10 = .ok (.iconst 2, 1) := by decide +kernel
theorem dX12_rankHere_11 : decode cX12_rankHere 11 = .ok (.ireturn, 1) := by decide +kernel
theorem dX12_rankHere_12 : decode cX12_rankHere 12 = .ok (.aload_n 0, 1) := by decide +kernel
theorem dX12_rankHere_13 : decode cX12_rankHere 13 = .ok (.ldc2_w 191, 3) := by decide +kernel
theorem dX12_rankHere_16 : decode cX12_rankHere 16 = .ok (.invokevirtual 270, 3) := by decide +kernel
theorem dX12_rankHere_19 : decode cX12_rankHere 19 = .ok (.ifCond .eq 5, 3) := by decide +kernel
theorem dX12_rankHere_22 : decode cX12_rankHere 22 = .ok (.iconst 1, 1) := by decide +kernel
theorem dX12_rankHere_23 : decode cX12_rankHere 23 = .ok (.ireturn, 1) := by decide +kernel
theorem dX12_rankHere_24 : decode cX12_rankHere 24 = .ok (.aload_n 0, 1) := by decide +kernel
theorem dX12_rankHere_25 : decode cX12_rankHere 25 = .ok (.bipush 60, 2) := by decide +kernel
theorem dX12_rankHere_27 : decode cX12_rankHere 27 = .ok (.invokevirtual 291, 3) := by decide +kernel
theorem dX12_rankHere_30 : decode cX12_rankHere 30 = .ok (.ifCond .ne 21, 3) := by decide +kernel
theorem dX12_rankHere_33 : decode cX12_rankHere 33 = .ok (.aload_n 0, 1) := by decide +kernel
theorem dX12_rankHere_34 : decode cX12_rankHere 34 = .ok (.bipush 62, 2) := by decide +kernel
theorem dX12_rankHere_36 : decode cX12_rankHere 36 = .ok (.invokevirtual 291, 3) := by decide +kernel
theorem dX12_rankHere_39 : decode cX12_rankHere 39 = .ok (.ifCond .ne 12, 3) := by decide +kernel
theorem dX12_rankHere_42 : decode cX12_rankHere 42 = .ok (.aload_n 0, 1) := by decide +kernel
theorem dX12_rankHere_43 : decode cX12_rankHere 43 = .ok (.bipush 61, 2) := by decide +kernel
theorem dX12_rankHere_45 : decode cX12_rankHere 45 = .ok (.invokevirtual 291, 3) := by decide +kernel
theorem dX12_rankHere_48 : decode cX12_rankHere 48 = .ok (.ifCond .eq 5, 3) := by decide +kernel
theorem dX12_rankHere_51 : decode cX12_rankHere 51 = .ok (.iconst 4, 1) := by decide +kernel
theorem dX12_rankHere_52 : decode cX12_rankHere 52 = .ok (.ireturn, 1) := by decide +kernel
theorem dX12_rankHere_53 : decode cX12_rankHere 53 = .ok (.aload_n 0, 1) := by decide +kernel
theorem dX12_rankHere_54 : decode cX12_rankHere 54 = .ok (.bipush 43, 2) := by decide +kernel
theorem dX12_rankHere_56 : decode cX12_rankHere 56 = .ok (.invokevirtual 291, 3) := by decide +kernel
theorem dX12_rankHere_59 : decode cX12_rankHere 59 = .ok (.ifCond .ne 12, 3) := by decide +kernel
theorem dX12_rankHere_62 : decode cX12_rankHere 62 = .ok (.aload_n 0, 1) := by decide +kernel
theorem dX12_rankHere_63 : decode cX12_rankHere 63 = .ok (.bipush 45, 2) := by decide +kernel
theorem dX12_rankHere_65 : decode cX12_rankHere 65 = .ok (.invokevirtual 291, 3) := by decide +kernel
theorem dX12_rankHere_68 : decode cX12_rankHere 68 = .ok (.ifCond .eq 5, 3) := by decide +kernel
theorem dX12_rankHere_71 : decode cX12_rankHere 71 = .ok (.iconst 5, 1) := by decide +kernel
theorem dX12_rankHere_72 : decode cX12_rankHere 72 = .ok (.ireturn, 1) := by decide +kernel
theorem dX12_rankHere_73 : decode cX12_rankHere 73 = .ok (.aload_n 0, 1) := by decide +kernel
theorem dX12_rankHere_74 : decode cX12_rankHere 74 = .ok (.bipush 42, 2) := by decide +kernel
theorem dX12_rankHere_76 : decode cX12_rankHere 76 = .ok (.invokevirtual 291, 3) := by decide +kernel
theorem dX12_rankHere_79 : decode cX12_rankHere 79 = .ok (.ifCond .ne 12, 3) := by decide +kernel
theorem dX12_rankHere_82 : decode cX12_rankHere 82 = .ok (.aload_n 0, 1) := by decide +kernel
theorem dX12_rankHere_83 : decode cX12_rankHere 83 = .ok (.bipush 47, 2) := by decide +kernel
theorem dX12_rankHere_85 : decode cX12_rankHere 85 = .ok (.invokevirtual 291, 3) := by decide +kernel
theorem dX12_rankHere_88 : decode cX12_rankHere 88 = .ok (.ifCond .eq 8, 3) := by decide +kernel
theorem dX12_rankHere_91 : decode cX12_rankHere 91 = .ok (.bipush 6, 2) := by decide +kernel
theorem dX12_rankHere_93 : decode cX12_rankHere 93 = .ok (.goto 4, 3) := by decide +kernel
theorem dX12_rankHere_96 : decode cX12_rankHere 96 = .ok (.iconst 0, 1) := by decide +kernel
theorem dX12_rankHere_97 : decode cX12_rankHere 97 = .ok (.ireturn, 1) := by decide +kernel
theorem dX12_isCompared_0 : decode cX12_isCompared 0 = .ok (.aload_n 0, 1) := by decide +kernel
theorem dX12_isCompared_1 : decode cX12_isCompared 1 = .ok (.getfield 311, 3) := by decide +kernel
theorem dX12_isCompared_4 : decode cX12_isCompared 4 = .ok (.iconst 1, 1) := by decide +kernel
theorem dX12_isCompared_5 : decode cX12_isCompared 5 = .ok (.isub, 1) := by decide +kernel
theorem dX12_isCompared_6 : decode cX12_isCompared 6 = .ok (.istore_n 1, 1) := by decide +kernel
theorem dX12_isCompared_7 : decode cX12_isCompared 7 = .ok (.aload_n 0, 1) := by decide +kernel
theorem dX12_isCompared_8 : decode cX12_isCompared 8 = .ok (.getfield 65, 3) := by decide +kernel
theorem dX12_isCompared_11 : decode cX12_isCompared 11 = .ok (.iload_n 1, 1) := by decide +kernel
theorem dX12_isCompared_12 : decode cX12_isCompared 12 = .ok (.iaload, 1) := by decide +kernel
theorem dX12_isCompared_13 : decode cX12_isCompared 13 = .ok (.iconst 5, 1) := by decide +kernel
theorem dX12_isCompared_14 : decode cX12_isCompared 14 = .ok (.if_icmp .eq 14, 3) := by decide +kernel
theorem dX12_isCompared_17 : decode cX12_isCompared 17 = .ok (.aload_n 0, 1) := by decide +kernel
theorem dX12_isCompared_18 : decode cX12_isCompared 18 = .ok (.getfield 65, 3) := by decide +kernel
theorem dX12_isCompared_21 : decode cX12_isCompared 21 = .ok (.iload_n 1, 1) := by decide +kernel
theorem dX12_isCompared_22 : decode cX12_isCompared 22 = .ok (.iaload, 1) := by decide +kernel
theorem dX12_isCompared_23 : decode cX12_isCompared 23 = .ok (.bipush 6, 2) := by decide +kernel
theorem dX12_isCompared_25 : decode cX12_isCompared 25 = .ok (.if_icmp .ne 9, 3) := by decide +kernel
theorem dX12_isCompared_28 : decode cX12_isCompared 28 = .ok (.iinc 1 (-1), 3) := by decide +kernel
theorem dX12_isCompared_31 : decode cX12_isCompared 31 = .ok (.goto (-24), 3) := by decide +kernel
theorem dX12_isCompared_34 : decode cX12_isCompared 34 = .ok (.aload_n 0, 1) := by decide +kernel
theorem dX12_isCompared_35 : decode cX12_isCompared 35 = .ok (.getfield 65, 3) := by decide +kernel
theorem dX12_isCompared_38 : decode cX12_isCompared 38 = .ok (.iload_n 1, 1) := by decide +kernel
theorem dX12_isCompared_39 : decode cX12_isCompared 39 = .ok (.iaload, 1) := by decide +kernel
theorem dX12_isCompared_40 : decode cX12_isCompared 40 = .ok (.iconst 4, 1) := by decide +kernel
theorem dX12_isCompared_41 : decode cX12_isCompared 41 = .ok (.if_icmp .ne 7, 3) := by decide +kernel
theorem dX12_isCompared_44 : decode cX12_isCompared 44 = .ok (.iconst 1, 1) := by decide +kernel
theorem dX12_isCompared_45 : decode cX12_isCompared 45 = .ok (.goto 4, 3) := by decide +kernel
theorem dX12_isCompared_48 : decode cX12_isCompared 48 = .ok (.iconst 0, 1) := by decide +kernel
theorem dX12_isCompared_49 : decode cX12_isCompared 49 = .ok (.ireturn, 1) := by decide +kernel
theorem dX12_behindUnit_0 : decode cX12_behindUnit 0 = .ok (.aload_n 0, 1) := by decide +kernel
theorem dX12_behindUnit_1 : decode cX12_behindUnit 1 = .ok (.invokevirtual 333, 3) := by decide +kernel
theorem dX12_behindUnit_4 : decode cX12_behindUnit 4 = .ok (.istore_n 1, 1) := by decide +kernel
theorem dX12_behindUnit_5 : decode cX12_behindUnit 5 = .ok (.iload_n 1, 1) := by decide +kernel
theorem dX12_behindUnit_6 : decode cX12_behindUnit 6 = .ok (.iconst 4, 1) := by decide +kernel
theorem dX12_behindUnit_7 : decode cX12_behindUnit 7 = .ok (.if_icmp .ne 16, 3) := by decide +kernel
theorem dX12_behindUnit_10 : decode cX12_behindUnit 10 = .ok (.aload_n 0, 1) := by decide +kernel
theorem dX12_behindUnit_11 : decode cX12_behindUnit 11 = .ok (.invokevirtual 336, 3) := by decide +kernel
theorem dX12_behindUnit_14 : decode cX12_behindUnit 14 = .ok (.ifCond .eq 9, 3) := by decide +kernel
theorem dX12_behindUnit_17 : decode cX12_behindUnit 17 = .ok (.aload_n 0, 1) := by decide +kernel
theorem dX12_behindUnit_18 : decode cX12_behindUnit 18 = .ok (.invokevirtual 240, 3) := by decide +kernel
theorem dX12_behindUnit_21 : decode cX12_behindUnit 21 = .ok (.iconst 1, 1) := by decide +kernel
theorem dX12_behindUnit_22 : decode cX12_behindUnit 22 = .ok (.ireturn, 1) := by decide +kernel
theorem dX12_behindUnit_23 : decode cX12_behindUnit 23 = .ok (.aload_n 0, 1) := by decide +kernel
theorem dX12_behindUnit_24 : decode cX12_behindUnit 24 = .ok (.getfield 65, 3) := by decide +kernel
theorem dX12_behindUnit_27 : decode cX12_behindUnit 27 = .ok (.aload_n 0, 1) := by decide +kernel
theorem dX12_behindUnit_28 : decode cX12_behindUnit 28 = .ok (.getfield 311, 3) := by decide +kernel
theorem dX12_behindUnit_31 : decode cX12_behindUnit 31 = .ok (.iconst 1, 1) := by decide +kernel
theorem dX12_behindUnit_32 : decode cX12_behindUnit 32 = .ok (.isub, 1) := by decide +kernel
theorem dX12_behindUnit_33 : decode cX12_behindUnit 33 = .ok (.iaload, 1) := by decide +kernel
theorem dX12_behindUnit_34 : decode cX12_behindUnit 34 = .ok (.bipush 6, 2) := by decide +kernel
theorem dX12_behindUnit_36 : decode cX12_behindUnit 36 = .ok (.if_icmp .gt 68, 3) := by decide +kernel
theorem dX12_behindUnit_39 : decode cX12_behindUnit 39 = .ok (.aload_n 0, 1) := by decide +kernel
theorem dX12_behindUnit_40 : decode cX12_behindUnit 40 = .ok (.getfield 65, 3) := by decide +kernel
theorem dX12_behindUnit_43 : decode cX12_behindUnit 43 = .ok (.aload_n 0, 1) := by decide +kernel
theorem dX12_behindUnit_44 : decode cX12_behindUnit 44 = .ok (.getfield 311, 3) := by decide +kernel
theorem dX12_behindUnit_47 : decode cX12_behindUnit 47 = .ok (.iconst 1, 1) := by decide +kernel
theorem dX12_behindUnit_48 : decode cX12_behindUnit 48 = .ok (.isub, 1) := by decide +kernel
theorem dX12_behindUnit_49 : decode cX12_behindUnit 49 = .ok (.iaload, 1) := by decide +kernel
theorem dX12_behindUnit_50 : decode cX12_behindUnit 50 = .ok (.iload_n 1, 1) := by decide +kernel
theorem dX12_behindUnit_51 : decode cX12_behindUnit 51 = .ok (.if_icmp .lt 53, 3) := by decide +kernel
theorem dX12_behindUnit_54 : decode cX12_behindUnit 54 = .ok (.aload_n 0, 1) := by decide +kernel
theorem dX12_behindUnit_55 : decode cX12_behindUnit 55 = .ok (.dup, 1) := by decide +kernel
theorem dX12_behindUnit_56 : decode cX12_behindUnit 56 = .ok (.getfield 311, 3) := by decide +kernel
theorem dX12_behindUnit_59 : decode cX12_behindUnit 59 = .ok (.iconst 1, 1) := by decide +kernel
theorem dX12_behindUnit_60 : decode cX12_behindUnit 60 = .ok (.isub, 1) := by decide +kernel
theorem dX12_behindUnit_61 : decode cX12_behindUnit 61 = .ok (.putfield 311, 3) := by decide +kernel
theorem dX12_behindUnit_64 : decode cX12_behindUnit 64 = .ok (.aload_n 0, 1) := by decide +kernel
theorem dX12_behindUnit_65 : decode cX12_behindUnit 65 = .ok (.getfield 65, 3) := by decide +kernel
theorem dX12_behindUnit_68 : decode cX12_behindUnit 68 = .ok (.aload_n 0, 1) := by decide +kernel
theorem dX12_behindUnit_69 : decode cX12_behindUnit 69 = .ok (.getfield 311, 3) := by decide +kernel
theorem dX12_behindUnit_72 : decode cX12_behindUnit 72 = .ok (.iaload, 1) := by decide +kernel
theorem dX12_behindUnit_73 : decode cX12_behindUnit 73 = .ok (.iconst 3, 1) := by decide +kernel
theorem dX12_behindUnit_74 : decode cX12_behindUnit 74 = .ok (.if_icmp .ne 13, 3) := by decide +kernel
theorem dX12_behindUnit_77 : decode cX12_behindUnit 77 = .ok (.aload_n 0, 1) := by decide +kernel
theorem dX12_behindUnit_78 : decode cX12_behindUnit 78 = .ok (.dup, 1) := by decide +kernel
theorem dX12_behindUnit_79 : decode cX12_behindUnit 79 = .ok (.getfield 314, 3) := by decide +kernel
theorem dX12_behindUnit_82 : decode cX12_behindUnit 82 = .ok (.iconst 1, 1) := by decide +kernel
theorem dX12_behindUnit_83 : decode cX12_behindUnit 83 = .ok (.isub, 1) := by decide +kernel
theorem dX12_behindUnit_84 : decode cX12_behindUnit 84 = .ok (.putfield 314, 3) := by decide +kernel
theorem dX12_behindUnit_87 : decode cX12_behindUnit 87 = .ok (.aload_n 0, 1) := by decide +kernel
theorem dX12_behindUnit_88 : decode cX12_behindUnit 88 = .ok (.aload_n 0, 1) := by decide +kernel
theorem dX12_behindUnit_89 : decode cX12_behindUnit 89 = .ok (.getfield 68, 3) := by decide +kernel
theorem dX12_behindUnit_92 : decode cX12_behindUnit 92 = .ok (.aload_n 0, 1) := by decide +kernel
theorem dX12_behindUnit_93 : decode cX12_behindUnit 93 = .ok (.getfield 311, 3) := by decide +kernel
theorem dX12_behindUnit_96 : decode cX12_behindUnit 96 = .ok (.iaload, 1) := by decide +kernel
theorem dX12_behindUnit_97 : decode cX12_behindUnit 97 = .ok (.iconst 0, 1) := by decide +kernel
theorem dX12_behindUnit_98 : decode cX12_behindUnit 98 = .ok (.invokevirtual 330, 3) := by decide +kernel
theorem dX12_behindUnit_101 : decode cX12_behindUnit 101 = .ok (.goto (-78), 3) := by decide +kernel
theorem dX12_behindUnit_104 : decode cX12_behindUnit 104 = .ok (.iload_n 1, 1) := by decide +kernel
theorem dX12_behindUnit_105 : decode cX12_behindUnit 105 = .ok (.ifCond .le 43, 3) := by decide +kernel
theorem dX12_behindUnit_108 : decode cX12_behindUnit 108 = .ok (.aload_n 0, 1) := by decide +kernel
theorem dX12_behindUnit_109 : decode cX12_behindUnit 109 = .ok (.iload_n 1, 1) := by decide +kernel
theorem dX12_behindUnit_110 : decode cX12_behindUnit 110 = .ok (.iload_n 1, 1) := by decide +kernel
theorem dX12_behindUnit_111 : decode cX12_behindUnit 111 = .ok (.iconst 2, 1) := by decide +kernel
theorem dX12_behindUnit_112 : decode cX12_behindUnit 112 = .ok (.if_icmp .ne 8, 3) := by decide +kernel
theorem dX12_behindUnit_115 : decode cX12_behindUnit 115 = .ok (.bipush 38, 2) := by decide +kernel
theorem dX12_behindUnit_117 : decode cX12_behindUnit 117 = .ok (.goto 21, 3) := by decide +kernel
theorem dX12_behindUnit_120 : decode cX12_behindUnit 120 = .ok (.iload_n 1, 1) := by decide +kernel
theorem dX12_behindUnit_121 : decode cX12_behindUnit 121 = .ok (.iconst 1, 1) := by decide +kernel
theorem dX12_behindUnit_122 : decode cX12_behindUnit 122 = .ok (.if_icmp .ne 8, 3) := by decide +kernel
theorem dX12_behindUnit_125 : decode cX12_behindUnit 125 = .ok (.bipush 124, 2) := by decide +kernel
theorem dX12_behindUnit_127 : decode cX12_behindUnit 127 = .ok (.goto 11, 3) := by decide +kernel
theorem dX12_behindUnit_130 : decode cX12_behindUnit 130 = .ok (.aload_n 0, 1) := by decide +kernel
theorem dX12_behindUnit_131 : decode cX12_behindUnit 131 = .ok (.aload_n 0, 1) := by decide +kernel
theorem dX12_behindUnit_132 : decode cX12_behindUnit 132 = .ok (.getfield 198, 3) := by decide +kernel
theorem dX12_behindUnit_135 : decode cX12_behindUnit 135 = .ok (.invokevirtual 201, 3) := by decide +kernel
theorem dX12_behindUnit_138 : decode cX12_behindUnit 138 = .ok (.iconst 0, 1) := by decide +kernel
theorem dX12_behindUnit_139 : decode cX12_behindUnit 139 = .ok (.invokevirtual 317, 3) := by decide +kernel
theorem dX12_behindUnit_142 : decode cX12_behindUnit 142 = .ok (.aload_n 0, 1) := by decide +kernel
theorem dX12_behindUnit_143 : decode cX12_behindUnit 143 = .ok (.invokevirtual 237, 3) := by decide +kernel
theorem dX12_behindUnit_146 : decode cX12_behindUnit 146 = .ok (.iconst 1, 1) := by decide +kernel
theorem dX12_behindUnit_147 : decode cX12_behindUnit 147 = .ok (.ireturn, 1) := by decide +kernel
theorem dX12_behindUnit_148 : decode cX12_behindUnit 148 = .ok (.aload_n 0, 1) := by decide +kernel
theorem dX12_behindUnit_149 : decode cX12_behindUnit 149 = .ok (.dup, 1) := by decide +kernel
theorem dX12_behindUnit_150 : decode cX12_behindUnit 150 = .ok (.getfield 311, 3) := by decide +kernel
theorem dX12_behindUnit_153 : decode cX12_behindUnit 153 = .ok (.iconst 1, 1) := by decide +kernel
theorem dX12_behindUnit_154 : decode cX12_behindUnit 154 = .ok (.isub, 1) := by decide +kernel
theorem dX12_behindUnit_155 : decode cX12_behindUnit 155 = .ok (.putfield 311, 3) := by decide +kernel
theorem dX12_behindUnit_158 : decode cX12_behindUnit 158 = .ok (.aload_n 0, 1) := by decide +kernel
theorem dX12_behindUnit_159 : decode cX12_behindUnit 159 = .ok (.getfield 65, 3) := by decide +kernel
theorem dX12_behindUnit_162 : decode cX12_behindUnit 162 = .ok (.aload_n 0, 1) := by decide +kernel
theorem dX12_behindUnit_163 : decode cX12_behindUnit 163 = .ok (.getfield 311, 3) := by decide +kernel
theorem dX12_behindUnit_166 : decode cX12_behindUnit 166 = .ok (.iaload, 1) := by decide +kernel
theorem dX12_behindUnit_167 : decode cX12_behindUnit 167 = .ok (.bipush 7, 2) := by decide +kernel
theorem dX12_behindUnit_169 : decode cX12_behindUnit 169 = .ok (.if_icmp .ne 59, 3) := by decide +kernel
theorem dX12_behindUnit_172 : decode cX12_behindUnit 172 = .ok (.aload_n 0, 1) := by decide +kernel
theorem dX12_behindUnit_173 : decode cX12_behindUnit 173 = .ok (.dup, 1) := by decide +kernel
theorem dX12_behindUnit_174 : decode cX12_behindUnit 174 = .ok (.getfield 314, 3) := by decide +kernel
theorem dX12_behindUnit_177 : decode cX12_behindUnit 177 = .ok (.iconst 1, 1) := by decide +kernel
theorem dX12_behindUnit_178 : decode cX12_behindUnit 178 = .ok (.isub, 1) := by decide +kernel
theorem dX12_behindUnit_179 : decode cX12_behindUnit 179 = .ok (.putfield 314, 3) := by decide +kernel
theorem dX12_behindUnit_182 : decode cX12_behindUnit 182 = .ok (.aload_n 0, 1) := by decide +kernel
theorem dX12_behindUnit_183 : decode cX12_behindUnit 183 = .ok (.aload_n 0, 1) := by decide +kernel
theorem dX12_behindUnit_184 : decode cX12_behindUnit 184 = .ok (.bipush 41, 2) := by decide +kernel
theorem dX12_behindUnit_186 : decode cX12_behindUnit 186 = .ok (.invokevirtual 291, 3) := by decide +kernel
theorem dX12_behindUnit_189 : decode cX12_behindUnit 189 = .ok (.invokevirtual 294, 3) := by decide +kernel
theorem dX12_behindUnit_192 : decode cX12_behindUnit 192 = .ok (.aload_n 0, 1) := by decide +kernel
theorem dX12_behindUnit_193 : decode cX12_behindUnit 193 = .ok (.getfield 68, 3) := by decide +kernel
theorem dX12_behindUnit_196 : decode cX12_behindUnit 196 = .ok (.aload_n 0, 1) := by decide +kernel
theorem dX12_behindUnit_197 : decode cX12_behindUnit 197 = .ok (.getfield 311, 3) := by decide +kernel
theorem dX12_behindUnit_200 : decode cX12_behindUnit 200 = .ok (.iaload, 1) := by decide +kernel
theorem dX12_behindUnit_201 : decode cX12_behindUnit 201 = .ok (.bipush 40, 2) := by decide +kernel
theorem dX12_behindUnit_203 : decode cX12_behindUnit 203 = .ok (.if_icmp .eq 25, 3) := by decide +kernel
theorem dX12_behindUnit_206 : decode cX12_behindUnit 206 = .ok (.aload_n 0, 1) := by decide +kernel
theorem dX12_behindUnit_207 : decode cX12_behindUnit 207 = .ok (.aload_n 0, 1) := by decide +kernel
theorem dX12_behindUnit_208 : decode cX12_behindUnit 208 = .ok (.getfield 68, 3) := by decide +kernel
theorem dX12_behindUnit_211 : decode cX12_behindUnit 211 = .ok (.aload_n 0, 1) := by decide +kernel
theorem dX12_behindUnit_212 : decode cX12_behindUnit 212 = .ok (.getfield 311, 3) := by decide +kernel
theorem dX12_behindUnit_215 : decode cX12_behindUnit 215 = .ok (.iaload, 1) := by decide +kernel
theorem dX12_behindUnit_216 : decode cX12_behindUnit 216 = .ok (.aload_n 0, 1) := by decide +kernel
theorem dX12_behindUnit_217 : decode cX12_behindUnit 217 = .ok (.getfield 71, 3) := by decide +kernel
theorem dX12_behindUnit_220 : decode cX12_behindUnit 220 = .ok (.aload_n 0, 1) := by decide +kernel
theorem dX12_behindUnit_221 : decode cX12_behindUnit 221 = .ok (.getfield 311, 3) := by decide +kernel
theorem dX12_behindUnit_224 : decode cX12_behindUnit 224 = .ok (.iaload, 1) := by decide +kernel
theorem dX12_behindUnit_225 : decode cX12_behindUnit 225 = .ok (.invokevirtual 330, 3) := by decide +kernel
theorem dX12_behindUnit_228 : decode cX12_behindUnit 228 = .ok (.iconst 0, 1) := by decide +kernel
theorem dX12_behindUnit_229 : decode cX12_behindUnit 229 = .ok (.ireturn, 1) := by decide +kernel
theorem dX12_readAlone_0 : decode cX12_readAlone 0 = .ok (.aload_n 0, 1) := by decide +kernel
theorem dX12_readAlone_1 : decode cX12_readAlone 1 = .ok (.invokevirtual 258, 3) := by decide +kernel
theorem dX12_readAlone_4 : decode cX12_readAlone 4 = .ok (.aload_n 0, 1) := by decide +kernel
theorem dX12_readAlone_5 : decode cX12_readAlone 5 = .ok (.aload_n 0, 1) := by decide +kernel
theorem dX12_readAlone_6 : decode cX12_readAlone 6 = .ok (.getfield 261, 3) := by decide +kernel
theorem dX12_readAlone_9 : decode cX12_readAlone 9 = .ok (.putfield 243, 3) := by decide +kernel
theorem dX12_readAlone_12 : decode cX12_readAlone 12 = .ok (.aload_n 0, 1) := by decide +kernel
theorem dX12_readAlone_13 : decode cX12_readAlone 13 = .ok (.iconst 2, 1) := by decide +kernel
theorem dX12_readAlone_14 : decode cX12_readAlone 14 = .ok (.putfield 249, 3) := by decide +kernel
theorem dX12_readAlone_17 : decode cX12_readAlone 17 = .ok (.aload_n 0, 1) := by decide +kernel
theorem dX12_readAlone_18 : decode cX12_readAlone 18 = .ok (.getfield 30, 3) := by decide +kernel
theorem dX12_readAlone_21 : decode cX12_readAlone 21 = .ok (.iconst 2, 1) := by decide +kernel
theorem dX12_readAlone_22 : decode cX12_readAlone 22 = .ok (.iconst 0, 1) := by decide +kernel
theorem dX12_readAlone_23 : decode cX12_readAlone 23 = .ok (.iastore, 1) := by decide +kernel
theorem dX12_readAlone_24 : decode cX12_readAlone 24 = .ok (.aload_n 0, 1) := by decide +kernel
theorem dX12_readAlone_25 : decode cX12_readAlone 25 = .ok (.bipush 30, 2) := by decide +kernel
theorem dX12_readAlone_27 : decode cX12_readAlone 27 = .ok (.putfield 252, 3) := by decide +kernel
theorem dX12_readAlone_30 : decode cX12_readAlone 30 = .ok (.aload_n 0, 1) := by decide +kernel
theorem dX12_readAlone_31 : decode cX12_readAlone 31 = .ok (.sipush 1400, 3) := by decide +kernel
theorem dX12_readAlone_34 : decode cX12_readAlone 34 = .ok (.putfield 246, 3) := by decide +kernel
theorem dX12_readAlone_37 : decode cX12_readAlone 37 = .ok (.aload_n 0, 1) := by decide +kernel
theorem dX12_readAlone_38 : decode cX12_readAlone 38 = .ok (.invokevirtual 237, 3) := by decide +kernel
theorem dX12_readAlone_41 : decode cX12_readAlone 41 = .ok (.aload_n 0, 1) := by decide +kernel
theorem dX12_readAlone_42 : decode cX12_readAlone 42 = .ok (.invokevirtual 308, 3) := by decide +kernel
theorem dX12_readAlone_45 : decode cX12_readAlone 45 = .ok (.aload_n 0, 1) := by decide +kernel
theorem dX12_readAlone_46 : decode cX12_readAlone 46 = .ok (.invokevirtual 233, 3) := by decide +kernel
theorem dX12_readAlone_49 : decode cX12_readAlone 49 = .ok (.ifCond .eq 14, 3) := by decide +kernel
theorem dX12_readAlone_52 : decode cX12_readAlone 52 = .ok (.aload_n 0, 1) := by decide +kernel
theorem dX12_readAlone_53 : decode cX12_readAlone 53 = .ok (.getfield 205, 3) := by decide +kernel
theorem dX12_readAlone_56 : decode cX12_readAlone 56 = .ok (.ifCond .eq 7, 3) := by decide +kernel
theorem dX12_readAlone_59 : decode cX12_readAlone 59 = .ok (.aload_n 0, 1) := by decide +kernel
theorem dX12_readAlone_60 : decode cX12_readAlone 60 = .ok (.invokevirtual 240, 3) := by decide +kernel
theorem dX12_readAlone_63 : decode cX12_readAlone 63 = .ok (.aload_n 0, 1) := by decide +kernel
theorem dX12_readAlone_64 : decode cX12_readAlone 64 = .ok (.invokevirtual 233, 3) := by decide +kernel
theorem dX12_readAlone_67 : decode cX12_readAlone 67 = .ok (.ireturn, 1) := by decide +kernel
theorem dX12_fault_0 : decode cX12_fault 0 = .ok (.iload_n 1, 1) := by decide +kernel
theorem dX12_fault_1 : decode cX12_fault 1 = .ok (.ifCond .ne 10, 3) := by decide +kernel
theorem dX12_fault_4 : decode cX12_fault 4 = .ok (.aload_n 0, 1) := by decide +kernel
theorem dX12_fault_5 : decode cX12_fault 5 = .ok (.getfield 158, 3) := by decide +kernel
theorem dX12_fault_8 : decode cX12_fault 8 = .ok (.goto 16, 3) := by decide +kernel
theorem dX12_fault_11 : decode cX12_fault 11 = .ok (.iload_n 1, 1) := by decide +kernel
theorem dX12_fault_12 : decode cX12_fault 12 = .ok (.iconst 1, 1) := by decide +kernel
theorem dX12_fault_13 : decode cX12_fault 13 = .ok (.if_icmp .ne 10, 3) := by decide +kernel
theorem dX12_fault_16 : decode cX12_fault 16 = .ok (.aload_n 0, 1) := by decide +kernel
theorem dX12_fault_17 : decode cX12_fault 17 = .ok (.getfield 16, 3) := by decide +kernel
theorem dX12_fault_20 : decode cX12_fault 20 = .ok (.goto 4, 3) := by decide +kernel
theorem dX12_fault_23 : decode cX12_fault 23 = .ok (.iconst (-1), 1) := by decide +kernel
theorem dX12_fault_24 : decode cX12_fault 24 = .ok (.ireturn, 1) := by decide +kernel
theorem dX12_isIn_0 : decode cX12_isIn 0 = .ok (.iload_n 0, 1) := by decide +kernel
theorem dX12_isIn_1 : decode cX12_isIn 1 = .ok (.iload_n 1, 1) := by decide +kernel
theorem dX12_isIn_2 : decode cX12_isIn 2 = .ok (.if_icmp .lt 12, 3) := by decide +kernel
theorem dX12_isIn_5 : decode cX12_isIn 5 = .ok (.iload_n 0, 1) := by decide +kernel
theorem dX12_isIn_6 : decode cX12_isIn 6 = .ok (.iload_n 2, 1) := by decide +kernel
theorem dX12_isIn_7 : decode cX12_isIn 7 = .ok (.if_icmp .gt 7, 3) := by decide +kernel
theorem dX12_isIn_10 : decode cX12_isIn 10 = .ok (.iconst 1, 1) := by decide +kernel
theorem dX12_isIn_11 : decode cX12_isIn 11 = .ok (.goto 4, 3) := by decide +kernel
theorem dX12_isIn_14 : decode cX12_isIn 14 = .ok (.iconst 0, 1) := by decide +kernel
theorem dX12_isIn_15 : decode cX12_isIn 15 = .ok (.ireturn, 1) := by decide +kernel
theorem dX12_bitsOf_0 : decode cX12_bitsOf 0 = .ok (.iconst 0, 1) := by decide +kernel
theorem dX12_bitsOf_1 : decode cX12_bitsOf 1 = .ok (.istore_n 1, 1) := by decide +kernel
theorem dX12_bitsOf_2 : decode cX12_bitsOf 2 = .ok (.iconst 0, 1) := by decide +kernel
theorem dX12_bitsOf_3 : decode cX12_bitsOf 3 = .ok (.istore_n 2, 1) := by decide +kernel
theorem dX12_bitsOf_4 : decode cX12_bitsOf 4 = .ok (.iload_n 2, 1) := by decide +kernel
theorem dX12_bitsOf_5 : decode cX12_bitsOf 5 = .ok (.bipush 31, 2) := by decide +kernel
theorem dX12_bitsOf_7 : decode cX12_bitsOf 7 = .ok (.if_icmp .ge 17, 3) := by decide +kernel
theorem dX12_bitsOf_10 : decode cX12_bitsOf 10 = .ok (.iload_n 1, 1) := by decide +kernel
theorem dX12_bitsOf_11 : decode cX12_bitsOf 11 = .ok (.iload_n 0, 1) := by decide +kernel
theorem dX12_bitsOf_12 : decode cX12_bitsOf 12 = .ok (.iload_n 2, 1) := by decide +kernel
theorem dX12_bitsOf_13 : decode cX12_bitsOf 13 = .ok (.ishr, 1) := by decide +kernel
theorem dX12_bitsOf_14 : decode cX12_bitsOf 14 = .ok (.iconst 1, 1) := by decide +kernel
theorem dX12_bitsOf_15 : decode cX12_bitsOf 15 = .ok (.iand, 1) := by decide +kernel
theorem dX12_bitsOf_16 : decode cX12_bitsOf 16 = .ok (.iadd, 1) := by decide +kernel
theorem dX12_bitsOf_17 : decode cX12_bitsOf 17 = .ok (.istore_n 1, 1) := by decide +kernel
theorem dX12_bitsOf_18 : decode cX12_bitsOf 18 = .ok (.iinc 2 1, 3) := by decide +kernel
theorem dX12_bitsOf_21 : decode cX12_bitsOf 21 = .ok (.goto (-17), 3) := by decide +kernel
theorem dX12_bitsOf_24 : decode cX12_bitsOf 24 = .ok (.iload_n 1, 1) := by decide +kernel
theorem dX12_bitsOf_25 : decode cX12_bitsOf 25 = .ok (.ireturn, 1) := by decide +kernel
theorem dX12_manyOf_0 : decode cX12_manyOf 0 = .ok (.aload_n 0, 1) := by decide +kernel
theorem dX12_manyOf_1 : decode cX12_manyOf 1 = .ok (.getfield 20, 3) := by decide +kernel
theorem dX12_manyOf_4 : decode cX12_manyOf 4 = .ok (.aload_n 0, 1) := by decide +kernel
theorem dX12_manyOf_5 : decode cX12_manyOf 5 = .ok (.getfield 261, 3) := by decide +kernel
theorem dX12_manyOf_8 : decode cX12_manyOf 8 = .ok (.iaload, 1) := by decide +kernel
theorem dX12_manyOf_9 : decode cX12_manyOf 9 = .ok (.ireturn, 1) := by decide +kernel
theorem dX12_worldMany_0 : decode cX12_worldMany 0 = .ok (.iconst 1, 1) := by decide +kernel
theorem dX12_worldMany_1 : decode cX12_worldMany 1 = .ok (.aload_n 0, 1) := by decide +kernel
theorem dX12_worldMany_2 : decode cX12_worldMany 2 = .ok (.invokevirtual 339, 3) := by decide +kernel
theorem dX12_worldMany_5 : decode cX12_worldMany 5 = .ok (.ishl, 1) := by decide +kernel
theorem dX12_worldMany_6 : decode cX12_worldMany 6 = .ok (.ireturn, 1) := by decide +kernel
theorem dX12_isOne_0 : decode cX12_isOne 0 = .ok (.iload_n 1, 1) := by decide +kernel
theorem dX12_isOne_1 : decode cX12_isOne 1 = .ok (.iconst 0, 1) := by decide +kernel
theorem dX12_isOne_2 : decode cX12_isOne 2 = .ok (.aload_n 0, 1) := by decide +kernel
theorem dX12_isOne_3 : decode cX12_isOne 3 = .ok (.invokevirtual 339, 3) := by decide +kernel
theorem dX12_isOne_6 : decode cX12_isOne 6 = .ok (.iconst 1, 1) := by decide +kernel
theorem dX12_isOne_7 : decode cX12_isOne 7 = .ok (.isub, 1) := by decide +kernel
theorem dX12_isOne_8 : decode cX12_isOne 8 = .ok (.invokestatic 342, 3) := by decide +kernel
theorem dX12_isOne_11 : decode cX12_isOne 11 = .ok (.ireturn, 1) := by decide +kernel
theorem dX12_seesOf_0 : decode cX12_seesOf 0 = .ok (.aload_n 0, 1) := by decide +kernel
theorem dX12_seesOf_1 : decode cX12_seesOf 1 = .ok (.getfield 36, 3) := by decide +kernel
theorem dX12_seesOf_4 : decode cX12_seesOf 4 = .ok (.bipush 8, 2) := by decide +kernel
theorem dX12_seesOf_6 : decode cX12_seesOf 6 = .ok (.aload_n 0, 1) := by decide +kernel
theorem dX12_seesOf_7 : decode cX12_seesOf 7 = .ok (.getfield 261, 3) := by decide +kernel
theorem dX12_seesOf_10 : decode cX12_seesOf 10 = .ok (.imul, 1) := by decide +kernel
theorem dX12_seesOf_11 : decode cX12_seesOf 11 = .ok (.iload_n 1, 1) := by decide +kernel
theorem dX12_seesOf_12 : decode cX12_seesOf 12 = .ok (.iadd, 1) := by decide +kernel
theorem dX12_seesOf_13 : decode cX12_seesOf 13 = .ok (.iaload, 1) := by decide +kernel
theorem dX12_seesOf_14 : decode cX12_seesOf 14 = .ok (.aload_n 0, 1) := by decide +kernel
theorem dX12_seesOf_15 : decode cX12_seesOf 15 = .ok (.invokevirtual 346, 3) := by decide +kernel
theorem dX12_seesOf_18 : decode cX12_seesOf 18 = .ok (.iconst 1, 1) := by decide +kernel
theorem dX12_seesOf_19 : decode cX12_seesOf 19 = .ok (.isub, 1) := by decide +kernel
theorem dX12_seesOf_20 : decode cX12_seesOf 20 = .ok (.iand, 1) := by decide +kernel
theorem dX12_seesOf_21 : decode cX12_seesOf 21 = .ok (.ireturn, 1) := by decide +kernel
theorem dX12_begin_0 : decode cX12_begin 0 = .ok (.iconst 0, 1) := by decide +kernel
theorem dX12_begin_1 : decode cX12_begin 1 = .ok (.istore_n 1, 1) := by decide +kernel
theorem dX12_begin_2 : decode cX12_begin 2 = .ok (.iload_n 1, 1) := by decide +kernel
theorem dX12_begin_3 : decode cX12_begin 3 = .ok (.sipush 256, 3) := by decide +kernel
theorem dX12_begin_6 : decode cX12_begin 6 = .ok (.if_icmp .ge 28, 3) := by decide +kernel
theorem dX12_begin_9 : decode cX12_begin 9 = .ok (.aload_n 0, 1) := by decide +kernel
theorem dX12_begin_10 : decode cX12_begin 10 = .ok (.getfield 74, 3) := by decide +kernel
theorem dX12_begin_13 : decode cX12_begin 13 = .ok (.iload_n 1, 1) := by decide +kernel
theorem dX12_begin_14 : decode cX12_begin 14 = .ok (.iload_n 1, 1) := by decide +kernel
theorem dX12_begin_15 : decode cX12_begin 15 = .ok (.aload_n 0, 1) := by decide +kernel
theorem dX12_begin_16 : decode cX12_begin 16 = .ok (.invokevirtual 346, 3) := by decide +kernel
theorem dX12_begin_19 : decode cX12_begin 19 = .ok (.if_icmp .ge 7, 3) := by decide +kernel
theorem dX12_begin_22 : decode cX12_begin 22 = .ok (.iconst 1, 1) := by decide +kernel
theorem dX12_begin_23 : decode cX12_begin 23 = .ok (.goto 4, 3) := by decide +kernel
theorem dX12_begin_26 : decode cX12_begin 26 = .ok (.iconst 0, 1) := by decide +kernel
theorem dX12_begin_27 : decode cX12_begin 27 = .ok (.bastore, 1) := by decide +kernel
theorem dX12_begin_28 : decode cX12_begin 28 = .ok (.iinc 1 1, 3) := by decide +kernel
theorem dX12_begin_31 : decode cX12_begin 31 = .ok (.goto (-29), 3) := by decide +kernel
theorem dX12_begin_34 : decode cX12_begin 34 = .ok (.aload_n 0, 1) := by decide +kernel
theorem dX12_begin_35 : decode cX12_begin 35 = .ok (.iconst 0, 1) := by decide +kernel
theorem dX12_begin_36 : decode cX12_begin 36 = .ok (.putfield 349, 3) := by decide +kernel
theorem dX12_begin_39 : decode cX12_begin 39 = .ok (.aload_n 0, 1) := by decide +kernel
theorem dX12_begin_40 : decode cX12_begin 40 = .ok (.iconst 0, 1) := by decide +kernel
theorem dX12_begin_41 : decode cX12_begin 41 = .ok (.putfield 353, 3) := by decide +kernel
theorem dX12_begin_44 : decode cX12_begin 44 = .ok (.aload_n 0, 1) := by decide +kernel
theorem dX12_begin_45 : decode cX12_begin 45 = .ok (.iconst 0, 1) := by decide +kernel
theorem dX12_begin_46 : decode cX12_begin 46 = .ok (.putfield 356, 3) := by decide +kernel
theorem dX12_begin_49 : decode cX12_begin 49 = .ok (.aload_n 0, 1) := by decide +kernel
theorem dX12_begin_50 : decode cX12_begin 50 = .ok (.iconst 0, 1) := by decide +kernel
theorem dX12_begin_51 : decode cX12_begin 51 = .ok (.putfield 359, 3) := by decide +kernel
theorem dX12_begin_54 : decode cX12_begin 54 = .ok (.return_, 1) := by decide +kernel
theorem dX12_areLike_0 : decode cX12_areLike 0 = .ok (.iload_n 2, 1) := by decide +kernel
theorem dX12_areLike_1 : decode cX12_areLike 1 = .ok (.iload_n 3, 1) := by decide +kernel
theorem dX12_areLike_2 : decode cX12_areLike 2 = .ok (.ixor, 1) := by decide +kernel
theorem dX12_areLike_3 : decode cX12_areLike 3 = .ok (.aload_n 0, 1) := by decide +kernel
theorem dX12_areLike_4 : decode cX12_areLike 4 = .ok (.iload_n 1, 1) := by decide +kernel
theorem dX12_areLike_5 : decode cX12_areLike 5 = .ok (.invokevirtual 362, 3) := by decide +kernel
theorem dX12_areLike_8 : decode cX12_areLike 8 = .ok (.iand, 1) := by decide +kernel
theorem dX12_areLike_9 : decode cX12_areLike 9 = .ok (.ifCond .eq 5, 3) := by decide +kernel
theorem dX12_areLike_12 : decode cX12_areLike 12 = .ok (.iconst 0, 1) := by decide +kernel
theorem dX12_areLike_13 : decode cX12_areLike 13 = .ok (.ireturn, 1) := by decide +kernel
theorem dX12_areLike_14 : decode cX12_areLike 14 = .ok (.iconst 0, 1) := by decide +kernel
theorem dX12_areLike_15 : decode cX12_areLike 15 = .ok (.istore 4, 2) := by decide +kernel
theorem dX12_areLike_17 : decode cX12_areLike 17 = .ok (.iload 4, 2) := by decide +kernel
theorem dX12_areLike_19 : decode cX12_areLike 19 = .ok (.aload_n 0, 1) := by decide +kernel
theorem dX12_areLike_20 : decode cX12_areLike 20 = .ok (.getfield 353, 3) := by decide +kernel
theorem dX12_areLike_23 : decode cX12_areLike 23 = .ok (.if_icmp .ge 55, 3) := by decide +kernel
theorem dX12_areLike_26 : decode cX12_areLike 26 = .ok (.aload_n 0, 1) := by decide +kernel
theorem dX12_areLike_27 : decode cX12_areLike 27 = .ok (.getfield 80, 3) := by decide +kernel
theorem dX12_areLike_30 : decode cX12_areLike 30 = .ok (.iload 4, 2) := by decide +kernel
theorem dX12_areLike_32 : decode cX12_areLike 32 = .ok (.iaload, 1) := by decide +kernel
theorem dX12_areLike_33 : decode cX12_areLike 33 = .ok (.iload_n 1, 1) := by decide +kernel
theorem dX12_areLike_34 : decode cX12_areLike 34 = .ok (.ishr, 1) := by decide +kernel
theorem dX12_areLike_35 : decode cX12_areLike 35 = .ok (.iconst 1, 1) := by decide +kernel
theorem dX12_areLike_36 : decode cX12_areLike 36 = .ok (.iand, 1) := by decide +kernel
theorem dX12_areLike_37 : decode cX12_areLike 37 = .ok (.iconst 1, 1) := by decide +kernel
theorem dX12_areLike_38 : decode cX12_areLike 38 = .ok (.if_icmp .ne 34, 3) := by decide +kernel
theorem dX12_areLike_41 : decode cX12_areLike 41 = .ok (.aload_n 0, 1) := by decide +kernel
theorem dX12_areLike_42 : decode cX12_areLike 42 = .ok (.getfield 77, 3) := by decide +kernel
theorem dX12_areLike_45 : decode cX12_areLike 45 = .ok (.sipush 256, 3) := by decide +kernel
theorem dX12_areLike_48 : decode cX12_areLike 48 = .ok (.iload 4, 2) := by decide +kernel
theorem dX12_areLike_50 : decode cX12_areLike 50 = .ok (.imul, 1) := by decide +kernel
theorem dX12_areLike_51 : decode cX12_areLike 51 = .ok (.iload_n 2, 1) := by decide +kernel
theorem dX12_areLike_52 : decode cX12_areLike 52 = .ok (.iadd, 1) := by decide +kernel
theorem dX12_areLike_53 : decode cX12_areLike 53 = .ok (.baload, 1) := by decide +kernel
theorem dX12_areLike_54 : decode cX12_areLike 54 = .ok (.aload_n 0, 1) := by decide +kernel
theorem dX12_areLike_55 : decode cX12_areLike 55 = .ok (.getfield 77, 3) := by decide +kernel
theorem dX12_areLike_58 : decode cX12_areLike 58 = .ok (.sipush 256, 3) := by decide +kernel
theorem dX12_areLike_61 : decode cX12_areLike 61 = .ok (.iload 4, 2) := by decide +kernel
theorem dX12_areLike_63 : decode cX12_areLike 63 = .ok (.imul, 1) := by decide +kernel
theorem dX12_areLike_64 : decode cX12_areLike 64 = .ok (.iload_n 3, 1) := by decide +kernel
theorem dX12_areLike_65 : decode cX12_areLike 65 = .ok (.iadd, 1) := by decide +kernel
theorem dX12_areLike_66 : decode cX12_areLike 66 = .ok (.baload, 1) := by decide +kernel
theorem dX12_areLike_67 : decode cX12_areLike 67 = .ok (.if_icmp .eq 5, 3) := by decide +kernel
theorem dX12_areLike_70 : decode cX12_areLike 70 = .ok (.iconst 0, 1) := by decide +kernel
theorem dX12_areLike_71 : decode cX12_areLike 71 = .ok (.ireturn, 1) := by decide +kernel
theorem dX12_areLike_72 : decode cX12_areLike 72 = .ok (.iinc 4 1, 3) := by decide +kernel
theorem dX12_areLike_75 : decode cX12_areLike 75 = .ok (.goto (-58), 3) := by decide +kernel
theorem dX12_areLike_78 : decode cX12_areLike 78 = .ok (.iconst 1, 1) := by decide +kernel
theorem dX12_areLike_79 : decode cX12_areLike 79 = .ok (.ireturn, 1) := by decide +kernel
theorem dX12_sees_0 : decode cX12_sees 0 = .ok (.aload_n 0, 1) := by decide +kernel
theorem dX12_sees_1 : decode cX12_sees 1 = .ok (.iload_n 1, 1) := by decide +kernel
theorem dX12_sees_2 : decode cX12_sees 2 = .ok (.invokevirtual 365, 3) := by decide +kernel
theorem dX12_sees_5 : decode cX12_sees 5 = .ok (.ifCond .eq 11, 3) := by decide +kernel
theorem dX12_sees_8 : decode cX12_sees 8 = .ok (.aload_n 0, 1) := by decide +kernel
theorem dX12_sees_9 : decode cX12_sees 9 = .ok (.iload_n 1, 1) := by decide +kernel
theorem dX12_sees_10 : decode cX12_sees 10 = .ok (.invokevirtual 362, 3) := by decide +kernel
theorem dX12_sees_13 : decode cX12_sees 13 = .ok (.goto 4, 3) := by decide +kernel
theorem dX12_sees_16 : decode cX12_sees 16 = .ok (.iconst (-1), 1) := by decide +kernel
theorem dX12_sees_17 : decode cX12_sees 17 = .ok (.ireturn, 1) := by decide +kernel
theorem dX12_worlds_0 : decode cX12_worlds 0 = .ok (.iconst 0, 1) := by decide +kernel
theorem dX12_worlds_1 : decode cX12_worlds 1 = .ok (.istore_n 1, 1) := by decide +kernel
theorem dX12_worlds_2 : decode cX12_worlds 2 = .ok (.iconst 0, 1) := by decide +kernel
theorem dX12_worlds_3 : decode cX12_worlds 3 = .ok (.istore_n 2, 1) := by decide +kernel
theorem dX12_worlds_4 : decode cX12_worlds 4 = .ok (.iload_n 2, 1) := by decide +kernel
theorem dX12_worlds_5 : decode cX12_worlds 5 = .ok (.aload_n 0, 1) := by decide +kernel
theorem dX12_worlds_6 : decode cX12_worlds 6 = .ok (.invokevirtual 346, 3) := by decide +kernel
theorem dX12_worlds_9 : decode cX12_worlds 9 = .ok (.if_icmp .ge 26, 3) := by decide +kernel
theorem dX12_worlds_12 : decode cX12_worlds 12 = .ok (.iload_n 1, 1) := by decide +kernel
theorem dX12_worlds_13 : decode cX12_worlds 13 = .ok (.aload_n 0, 1) := by decide +kernel
theorem dX12_worlds_14 : decode cX12_worlds 14 = .ok (.getfield 74, 3) := by decide +kernel
theorem dX12_worlds_17 : decode cX12_worlds 17 = .ok (.iload_n 2, 1) := by decide +kernel
theorem dX12_worlds_18 : decode cX12_worlds 18 = .ok (.baload, 1) := by decide +kernel
theorem dX12_worlds_19 : decode cX12_worlds 19 = .ok (.ifCond .eq 7, 3) := by decide +kernel
theorem dX12_worlds_22 : decode cX12_worlds 22 = .ok (.iconst 1, 1) := by decide +kernel
theorem dX12_worlds_23 : decode cX12_worlds 23 = .ok (.goto 4, 3) := by decide +kernel
theorem dX12_worlds_26 : decode cX12_worlds 26 = .ok (.iconst 0, 1) := by decide +kernel
theorem dX12_worlds_27 : decode cX12_worlds 27 = .ok (.iadd, 1) := by decide +kernel
theorem dX12_worlds_28 : decode cX12_worlds 28 = .ok (.istore_n 1, 1) := by decide +kernel
theorem dX12_worlds_29 : decode cX12_worlds 29 = .ok (.iinc 2 1, 3) := by decide +kernel
theorem dX12_worlds_32 : decode cX12_worlds 32 = .ok (.goto (-28), 3) := by decide +kernel
theorem dX12_worlds_35 : decode cX12_worlds 35 = .ok (.iload_n 1, 1) := by decide +kernel
theorem dX12_worlds_36 : decode cX12_worlds 36 = .ok (.ireturn, 1) := by decide +kernel
theorem dX12_isWorld_0 : decode cX12_isWorld 0 = .ok (.iload_n 1, 1) := by decide +kernel
theorem dX12_isWorld_1 : decode cX12_isWorld 1 = .ok (.iconst 0, 1) := by decide +kernel
theorem dX12_isWorld_2 : decode cX12_isWorld 2 = .ok (.aload_n 0, 1) := by decide +kernel
theorem dX12_isWorld_3 : decode cX12_isWorld 3 = .ok (.invokevirtual 346, 3) := by decide +kernel
theorem dX12_isWorld_6 : decode cX12_isWorld 6 = .ok (.iconst 1, 1) := by decide +kernel
theorem dX12_isWorld_7 : decode cX12_isWorld 7 = .ok (.isub, 1) := by decide +kernel
theorem dX12_isWorld_8 : decode cX12_isWorld 8 = .ok (.invokestatic 342, 3) := by decide +kernel
theorem dX12_isWorld_11 : decode cX12_isWorld 11 = .ok (.ireturn, 1) := by decide +kernel
theorem dX12_possible_0 : decode cX12_possible 0 = .ok (.aload_n 0, 1) := by decide +kernel
theorem dX12_possible_1 : decode cX12_possible 1 = .ok (.iload_n 1, 1) := by decide +kernel
theorem dX12_possible_2 : decode cX12_possible 2 = .ok (.invokevirtual 368, 3) := by decide +kernel
theorem dX12_possible_5 : decode cX12_possible 5 = .ok (.ifCond .ne 7, 3) := by decide +kernel
theorem dX12_possible_8 : decode cX12_possible 8 = .ok (.iconst (-1), 1) := by decide +kernel
theorem dX12_possible_9 : decode cX12_possible 9 = .ok (.goto 17, 3) := by decide +kernel
theorem dX12_possible_12 : decode cX12_possible 12 = .ok (.aload_n 0, 1) := by decide +kernel
theorem dX12_possible_13 : decode cX12_possible 13 = .ok (.getfield 74, 3) := by decide +kernel
theorem dX12_possible_16 : decode cX12_possible 16 = .ok (.iload_n 1, 1) := by decide +kernel
theorem dX12_possible_17 : decode cX12_possible 17 = .ok (.baload, 1) := by decide +kernel
theorem dX12_possible_18 : decode cX12_possible 18 = .ok (.ifCond .eq 7, 3) := by decide +kernel
theorem dX12_possible_21 : decode cX12_possible 21 = .ok (.iconst 1, 1) := by decide +kernel
theorem dX12_possible_22 : decode cX12_possible 22 = .ok (.goto 4, 3) := by decide +kernel
theorem dX12_possible_25 : decode cX12_possible 25 = .ok (.iconst 0, 1) := by decide +kernel
theorem dX12_possible_26 : decode cX12_possible 26 = .ok (.ireturn, 1) := by decide +kernel
theorem dX12_like_0 : decode cX12_like 0 = .ok (.aload_n 0, 1) := by decide +kernel
theorem dX12_like_1 : decode cX12_like 1 = .ok (.iload_n 1, 1) := by decide +kernel
theorem dX12_like_2 : decode cX12_like 2 = .ok (.invokevirtual 365, 3) := by decide +kernel
theorem dX12_like_5 : decode cX12_like 5 = .ok (.ifCond .eq 37, 3) := by decide +kernel
theorem dX12_like_8 : decode cX12_like 8 = .ok (.aload_n 0, 1) := by decide +kernel
theorem dX12_like_9 : decode cX12_like 9 = .ok (.iload_n 2, 1) := by decide +kernel
theorem dX12_like_10 : decode cX12_like 10 = .ok (.invokevirtual 368, 3) := by decide +kernel
theorem dX12_like_13 : decode cX12_like 13 = .ok (.ifCond .eq 29, 3) := by decide +kernel
theorem dX12_like_16 : decode cX12_like 16 = .ok (.aload_n 0, 1) := by decide +kernel
theorem dX12_like_17 : decode cX12_like 17 = .ok (.iload_n 3, 1) := by decide +kernel
theorem dX12_like_18 : decode cX12_like 18 = .ok (.invokevirtual 368, 3) := by decide +kernel
theorem dX12_like_21 : decode cX12_like 21 = .ok (.ifCond .eq 21, 3) := by decide +kernel
theorem dX12_like_24 : decode cX12_like 24 = .ok (.aload_n 0, 1) := by decide +kernel
theorem dX12_like_25 : decode cX12_like 25 = .ok (.getfield 74, 3) := by decide +kernel
theorem dX12_like_28 : decode cX12_like 28 = .ok (.iload_n 2, 1) := by decide +kernel
theorem dX12_like_29 : decode cX12_like 29 = .ok (.baload, 1) := by decide +kernel
theorem dX12_like_30 : decode cX12_like 30 = .ok (.ifCond .eq 12, 3) := by decide +kernel
theorem dX12_like_33 : decode cX12_like 33 = .ok (.aload_n 0, 1) := by decide +kernel
theorem dX12_like_34 : decode cX12_like 34 = .ok (.getfield 74, 3) := by decide +kernel
theorem dX12_like_37 : decode cX12_like 37 = .ok (.iload_n 3, 1) := by decide +kernel
theorem dX12_like_38 : decode cX12_like 38 = .ok (.baload, 1) := by decide +kernel
theorem dX12_like_39 : decode cX12_like 39 = .ok (.ifCond .ne 7, 3) := by decide +kernel
theorem dX12_like_42 : decode cX12_like 42 = .ok (.iconst (-1), 1) := by decide +kernel
theorem dX12_like_43 : decode cX12_like 43 = .ok (.goto 18, 3) := by decide +kernel
theorem dX12_like_46 : decode cX12_like 46 = .ok (.aload_n 0, 1) := by decide +kernel
theorem dX12_like_47 : decode cX12_like 47 = .ok (.iload_n 1, 1) := by decide +kernel
theorem dX12_like_48 : decode cX12_like 48 = .ok (.iload_n 2, 1) := by decide +kernel
theorem dX12_like_49 : decode cX12_like 49 = .ok (.iload_n 3, 1) := by decide +kernel
theorem dX12_like_50 : decode cX12_like 50 = .ok (.invokevirtual 371, 3) := by decide +kernel
theorem dX12_like_53 : decode cX12_like 53 = .ok (.ifCond .eq 7, 3) := by decide +kernel
theorem dX12_like_56 : decode cX12_like 56 = .ok (.iconst 1, 1) := by decide +kernel
theorem dX12_like_57 : decode cX12_like 57 = .ok (.goto 4, 3) := by decide +kernel
theorem dX12_like_60 : decode cX12_like 60 = .ok (.iconst 0, 1) := by decide +kernel
theorem dX12_like_61 : decode cX12_like 61 = .ok (.ireturn, 1) := by decide +kernel
theorem dX12_doesKnow_0 : decode cX12_doesKnow 0 = .ok (.iconst 0, 1) := by decide +kernel
theorem dX12_doesKnow_1 : decode cX12_doesKnow 1 = .ok (.istore 4, 2) := by decide +kernel
theorem dX12_doesKnow_3 : decode cX12_doesKnow 3 = .ok (.iload 4, 2) := by decide +kernel
theorem dX12_doesKnow_5 : decode cX12_doesKnow 5 = .ok (.aload_n 0, 1) := by decide +kernel
theorem dX12_doesKnow_6 : decode cX12_doesKnow 6 = .ok (.invokevirtual 346, 3) := by decide +kernel
theorem dX12_doesKnow_9 : decode cX12_doesKnow 9 = .ok (.if_icmp .ge 44, 3) := by decide +kernel
theorem dX12_doesKnow_12 : decode cX12_doesKnow 12 = .ok (.aload_n 0, 1) := by decide +kernel
theorem dX12_doesKnow_13 : decode cX12_doesKnow 13 = .ok (.getfield 74, 3) := by decide +kernel
theorem dX12_doesKnow_16 : decode cX12_doesKnow 16 = .ok (.iload 4, 2) := by decide +kernel
theorem dX12_doesKnow_18 : decode cX12_doesKnow 18 = .ok (.baload, 1) := by decide +kernel
theorem dX12_doesKnow_19 : decode cX12_doesKnow 19 = .ok (.ifCond .eq 28, 3) := by decide +kernel
theorem dX12_doesKnow_22 : decode cX12_doesKnow 22 = .ok (.aload_n 0, 1) := by decide +kernel
theorem dX12_doesKnow_23 : decode cX12_doesKnow 23 = .ok (.getfield 83, 3) := by decide +kernel
theorem dX12_doesKnow_26 : decode cX12_doesKnow 26 = .ok (.iload_n 3, 1) := by decide +kernel
theorem dX12_doesKnow_27 : decode cX12_doesKnow 27 = .ok (.iload 4, 2) := by decide +kernel
theorem dX12_doesKnow_29 : decode cX12_doesKnow 29 = .ok (.iadd, 1) := by decide +kernel
theorem dX12_doesKnow_30 : decode cX12_doesKnow 30 = .ok (.iaload, 1) := by decide +kernel
theorem dX12_doesKnow_31 : decode cX12_doesKnow 31 = .ok (.ifCond .ne 16, 3) := by decide +kernel
theorem dX12_doesKnow_34 : decode cX12_doesKnow 34 = .ok (.aload_n 0, 1) := by decide +kernel
theorem dX12_doesKnow_35 : decode cX12_doesKnow 35 = .ok (.iload_n 1, 1) := by decide +kernel
theorem dX12_doesKnow_36 : decode cX12_doesKnow 36 = .ok (.iload_n 2, 1) := by decide +kernel
theorem dX12_doesKnow_37 : decode cX12_doesKnow 37 = .ok (.iload 4, 2) := by decide +kernel
theorem dX12_doesKnow_39 : decode cX12_doesKnow 39 = .ok (.invokevirtual 371, 3) := by decide +kernel
theorem dX12_doesKnow_42 : decode cX12_doesKnow 42 = .ok (.ifCond .eq 5, 3) := by decide +kernel
theorem dX12_doesKnow_45 : decode cX12_doesKnow 45 = .ok (.iconst 0, 1) := by decide +kernel
theorem dX12_doesKnow_46 : decode cX12_doesKnow 46 = .ok (.ireturn, 1) := by decide +kernel
theorem dX12_doesKnow_47 : decode cX12_doesKnow 47 = .ok (.iinc 4 1, 3) := by decide +kernel
theorem dX12_doesKnow_50 : decode cX12_doesKnow 50 = .ok (.goto (-47), 3) := by decide +kernel
theorem dX12_doesKnow_53 : decode cX12_doesKnow 53 = .ok (.iconst 1, 1) := by decide +kernel
theorem dX12_doesKnow_54 : decode cX12_doesKnow 54 = .ok (.ireturn, 1) := by decide +kernel
theorem dX12_knowsOf_0 : decode cX12_knowsOf 0 = .ok (.iconst 0, 1) := by decide +kernel
theorem dX12_knowsOf_1 : decode cX12_knowsOf 1 = .ok (.istore_n 3, 1) := by decide +kernel
theorem dX12_knowsOf_2 : decode cX12_knowsOf 2 = .ok (.iload_n 3, 1) := by decide +kernel
theorem dX12_knowsOf_3 : decode cX12_knowsOf 3 = .ok (.aload_n 0, 1) := by decide +kernel
theorem dX12_knowsOf_4 : decode cX12_knowsOf 4 = .ok (.invokevirtual 346, 3) := by decide +kernel
theorem dX12_knowsOf_7 : decode cX12_knowsOf 7 = .ok (.if_icmp .ge 39, 3) := by decide +kernel
theorem dX12_knowsOf_10 : decode cX12_knowsOf 10 = .ok (.aload_n 0, 1) := by decide +kernel
theorem dX12_knowsOf_11 : decode cX12_knowsOf 11 = .ok (.getfield 89, 3) := by decide +kernel
theorem dX12_knowsOf_14 : decode cX12_knowsOf 14 = .ok (.iload_n 3, 1) := by decide +kernel
theorem dX12_knowsOf_15 : decode cX12_knowsOf 15 = .ok (.aload_n 0, 1) := by decide +kernel
theorem dX12_knowsOf_16 : decode cX12_knowsOf 16 = .ok (.getfield 74, 3) := by decide +kernel
theorem dX12_knowsOf_19 : decode cX12_knowsOf 19 = .ok (.iload_n 3, 1) := by decide +kernel
theorem dX12_knowsOf_20 : decode cX12_knowsOf 20 = .ok (.baload, 1) := by decide +kernel
theorem dX12_knowsOf_21 : decode cX12_knowsOf 21 = .ok (.ifCond .eq 17, 3) := by decide +kernel
theorem dX12_knowsOf_24 : decode cX12_knowsOf 24 = .ok (.aload_n 0, 1) := by decide +kernel
theorem dX12_knowsOf_25 : decode cX12_knowsOf 25 = .ok (.iload_n 1, 1) := by decide +kernel
theorem dX12_knowsOf_26 : decode cX12_knowsOf 26 = .ok (.iload_n 3, 1) := by decide +kernel
theorem dX12_knowsOf_27 : decode cX12_knowsOf 27 = .ok (.iload_n 2, 1) := by decide +kernel
theorem dX12_knowsOf_28 : decode cX12_knowsOf 28 = .ok (.invokevirtual 374, 3) := by decide +kernel
theorem dX12_knowsOf_31 : decode cX12_knowsOf 31 = .ok (.ifCond .eq 7, 3) := by decide +kernel
theorem dX12_knowsOf_34 : decode cX12_knowsOf 34 = .ok (.iconst 1, 1) := by decide +kernel
theorem dX12_knowsOf_35 : decode cX12_knowsOf 35 = .ok (.goto 4, 3) := by decide +kernel
theorem dX12_knowsOf_38 : decode cX12_knowsOf 38 = .ok (.iconst 0, 1) := by decide +kernel
theorem dX12_knowsOf_39 : decode cX12_knowsOf 39 = .ok (.iastore, 1) := by decide +kernel
theorem dX12_knowsOf_40 : decode cX12_knowsOf 40 = .ok (.iinc 3 1, 3) := by decide +kernel
theorem dX12_knowsOf_43 : decode cX12_knowsOf 43 = .ok (.goto (-41), 3) := by decide +kernel
theorem dX12_knowsOf_46 : decode cX12_knowsOf 46 = .ok (.iconst 0, 1) := by decide +kernel
theorem dX12_knowsOf_47 : decode cX12_knowsOf 47 = .ok (.istore_n 3, 1) := by decide +kernel
theorem dX12_knowsOf_48 : decode cX12_knowsOf 48 = .ok (.iload_n 3, 1) := by decide +kernel
theorem dX12_knowsOf_49 : decode cX12_knowsOf 49 = .ok (.aload_n 0, 1) := by decide +kernel
theorem dX12_knowsOf_50 : decode cX12_knowsOf 50 = .ok (.invokevirtual 346, 3) := by decide +kernel
theorem dX12_knowsOf_53 : decode cX12_knowsOf 53 = .ok (.if_icmp .ge 23, 3) := by decide +kernel
theorem dX12_knowsOf_56 : decode cX12_knowsOf 56 = .ok (.aload_n 0, 1) := by decide +kernel
theorem dX12_knowsOf_57 : decode cX12_knowsOf 57 = .ok (.getfield 83, 3) := by decide +kernel
theorem dX12_knowsOf_60 : decode cX12_knowsOf 60 = .ok (.iload_n 2, 1) := by decide +kernel
theorem dX12_knowsOf_61 : decode cX12_knowsOf 61 = .ok (.iload_n 3, 1) := by decide +kernel
theorem dX12_knowsOf_62 : decode cX12_knowsOf 62 = .ok (.iadd, 1) := by decide +kernel
theorem dX12_knowsOf_63 : decode cX12_knowsOf 63 = .ok (.aload_n 0, 1) := by decide +kernel
theorem dX12_knowsOf_64 : decode cX12_knowsOf 64 = .ok (.getfield 89, 3) := by decide +kernel
theorem dX12_knowsOf_67 : decode cX12_knowsOf 67 = .ok (.iload_n 3, 1) := by decide +kernel
theorem dX12_knowsOf_68 : decode cX12_knowsOf 68 = .ok (.iaload, 1) := by decide +kernel
theorem dX12_knowsOf_69 : decode cX12_knowsOf 69 = .ok (.iastore, 1) := by decide +kernel
theorem dX12_knowsOf_70 : decode cX12_knowsOf 70 = .ok (.iinc 3 1, 3) := by decide +kernel
theorem dX12_knowsOf_73 : decode cX12_knowsOf 73 = .ok (.goto (-25), 3) := by decide +kernel
theorem dX12_knowsOf_76 : decode cX12_knowsOf 76 = .ok (.return_, 1) := by decide +kernel
theorem dX12_allKnow_0 : decode cX12_allKnow 0 = .ok (.iconst 0, 1) := by decide +kernel
theorem dX12_allKnow_1 : decode cX12_allKnow 1 = .ok (.istore_n 2, 1) := by decide +kernel
theorem dX12_allKnow_2 : decode cX12_allKnow 2 = .ok (.iload_n 2, 1) := by decide +kernel
theorem dX12_allKnow_3 : decode cX12_allKnow 3 = .ok (.aload_n 0, 1) := by decide +kernel
theorem dX12_allKnow_4 : decode cX12_allKnow 4 = .ok (.invokevirtual 346, 3) := by decide +kernel
theorem dX12_allKnow_7 : decode cX12_allKnow 7 = .ok (.if_icmp .ge 62, 3) := by decide +kernel
theorem dX12_allKnow_10 : decode cX12_allKnow 10 = .ok (.aload_n 0, 1) := by decide +kernel
theorem dX12_allKnow_11 : decode cX12_allKnow 11 = .ok (.getfield 74, 3) := by decide +kernel
theorem dX12_allKnow_14 : decode cX12_allKnow 14 = .ok (.iload_n 2, 1) := by decide +kernel
theorem dX12_allKnow_15 : decode cX12_allKnow 15 = .ok (.baload, 1) := by decide +kernel
theorem dX12_allKnow_16 : decode cX12_allKnow 16 = .ok (.istore_n 3, 1) := by decide +kernel
theorem dX12_allKnow_17 : decode cX12_allKnow 17 = .ok (.iconst 0, 1) := by decide +kernel
theorem dX12_allKnow_18 : decode cX12_allKnow 18 = .ok (.istore 4, 2) := by decide +kernel
theorem dX12_allKnow_20 : decode cX12_allKnow 20 = .ok (.iload 4, 2) := by decide +kernel
theorem dX12_allKnow_22 : decode cX12_allKnow 22 = .ok (.aload_n 0, 1) := by decide +kernel
theorem dX12_allKnow_23 : decode cX12_allKnow 23 = .ok (.invokevirtual 339, 3) := by decide +kernel
theorem dX12_allKnow_26 : decode cX12_allKnow 26 = .ok (.if_icmp .ge 22, 3) := by decide +kernel
theorem dX12_allKnow_29 : decode cX12_allKnow 29 = .ok (.iload_n 3, 1) := by decide +kernel
theorem dX12_allKnow_30 : decode cX12_allKnow 30 = .ok (.ifCond .eq 18, 3) := by decide +kernel
theorem dX12_allKnow_33 : decode cX12_allKnow 33 = .ok (.aload_n 0, 1) := by decide +kernel
theorem dX12_allKnow_34 : decode cX12_allKnow 34 = .ok (.iload 4, 2) := by decide +kernel
theorem dX12_allKnow_36 : decode cX12_allKnow 36 = .ok (.iload_n 2, 1) := by decide +kernel
theorem dX12_allKnow_37 : decode cX12_allKnow 37 = .ok (.iload_n 1, 1) := by decide +kernel
theorem dX12_allKnow_38 : decode cX12_allKnow 38 = .ok (.invokevirtual 374, 3) := by decide +kernel
theorem dX12_allKnow_41 : decode cX12_allKnow 41 = .ok (.istore_n 3, 1) := by decide +kernel
theorem dX12_allKnow_42 : decode cX12_allKnow 42 = .ok (.iinc 4 1, 3) := by decide +kernel
theorem dX12_allKnow_45 : decode cX12_allKnow 45 = .ok (.goto (-25), 3) := by decide +kernel
theorem dX12_allKnow_48 : decode cX12_allKnow 48 = .ok (.aload_n 0, 1) := by decide +kernel
theorem dX12_allKnow_49 : decode cX12_allKnow 49 = .ok (.getfield 89, 3) := by decide +kernel
theorem dX12_allKnow_52 : decode cX12_allKnow 52 = .ok (.iload_n 2, 1) := by decide +kernel
theorem dX12_allKnow_53 : decode cX12_allKnow 53 = .ok (.iload_n 3, 1) := by decide +kernel
theorem dX12_allKnow_54 : decode cX12_allKnow 54 = .ok (.ifCond .eq 7, 3) := by decide +kernel
theorem dX12_allKnow_57 : decode cX12_allKnow 57 = .ok (.iconst 1, 1) := by decide +kernel
theorem dX12_allKnow_58 : decode cX12_allKnow 58 = .ok (.goto 4, 3) := by decide +kernel
theorem dX12_allKnow_61 : decode cX12_allKnow 61 = .ok (.iconst 0, 1) := by decide +kernel
theorem dX12_allKnow_62 : decode cX12_allKnow 62 = .ok (.iastore, 1) := by decide +kernel
theorem dX12_allKnow_63 : decode cX12_allKnow 63 = .ok (.iinc 2 1, 3) := by decide +kernel
theorem dX12_allKnow_66 : decode cX12_allKnow 66 = .ok (.goto (-64), 3) := by decide +kernel
theorem dX12_allKnow_69 : decode cX12_allKnow 69 = .ok (.iconst 0, 1) := by decide +kernel
theorem dX12_allKnow_70 : decode cX12_allKnow 70 = .ok (.istore_n 2, 1) := by decide +kernel
theorem dX12_allKnow_71 : decode cX12_allKnow 71 = .ok (.iload_n 2, 1) := by decide +kernel
theorem dX12_allKnow_72 : decode cX12_allKnow 72 = .ok (.aload_n 0, 1) := by decide +kernel
theorem dX12_allKnow_73 : decode cX12_allKnow 73 = .ok (.invokevirtual 346, 3) := by decide +kernel
theorem dX12_allKnow_76 : decode cX12_allKnow 76 = .ok (.if_icmp .ge 23, 3) := by decide +kernel
theorem dX12_allKnow_79 : decode cX12_allKnow 79 = .ok (.aload_n 0, 1) := by decide +kernel
theorem dX12_allKnow_80 : decode cX12_allKnow 80 = .ok (.getfield 83, 3) := by decide +kernel
theorem dX12_allKnow_83 : decode cX12_allKnow 83 = .ok (.iload_n 1, 1) := by decide +kernel
theorem dX12_allKnow_84 : decode cX12_allKnow 84 = .ok (.iload_n 2, 1) := by decide +kernel
theorem dX12_allKnow_85 : decode cX12_allKnow 85 = .ok (.iadd, 1) := by decide +kernel
theorem dX12_allKnow_86 : decode cX12_allKnow 86 = .ok (.aload_n 0, 1) := by decide +kernel
theorem dX12_allKnow_87 : decode cX12_allKnow 87 = .ok (.getfield 89, 3) := by decide +kernel
theorem dX12_allKnow_90 : decode cX12_allKnow 90 = .ok (.iload_n 2, 1) := by decide +kernel
theorem dX12_allKnow_91 : decode cX12_allKnow 91 = .ok (.iaload, 1) := by decide +kernel
theorem dX12_allKnow_92 : decode cX12_allKnow 92 = .ok (.iastore, 1) := by decide +kernel
theorem dX12_allKnow_93 : decode cX12_allKnow 93 = .ok (.iinc 2 1, 3) := by decide +kernel
theorem dX12_allKnow_96 : decode cX12_allKnow 96 = .ok (.goto (-25), 3) := by decide +kernel
theorem dX12_allKnow_99 : decode cX12_allKnow 99 = .ok (.return_, 1) := by decide +kernel
theorem dX12_layParts_0 : decode cX12_layParts 0 = .ok (.aload_n 0, 1) := by decide +kernel
theorem dX12_layParts_1 : decode cX12_layParts 1 = .ok (.getfield 349, 3) := by decide +kernel
theorem dX12_layParts_4 : decode cX12_layParts 4 = .ok (.ifCond .eq 4, 3) := by decide +kernel
theorem dX12_layParts_7 : decode cX12_layParts 7 = .ok (.return_, 1) := by decide +kernel
theorem dX12_layParts_8 : decode cX12_layParts 8 = .ok (.aload_n 0, 1) := by decide +kernel
theorem dX12_layParts_9 : decode cX12_layParts 9 = .ok (.iconst 1, 1) := by decide +kernel
theorem dX12_layParts_10 : decode cX12_layParts 10 = .ok (.putfield 349, 3) := by decide +kernel
theorem dX12_layParts_13 : decode cX12_layParts 13 = .ok (.iconst 0, 1) := by decide +kernel
theorem dX12_layParts_14 : decode cX12_layParts 14 = .ok (.istore_n 1, 1) := by decide +kernel
theorem dX12_layParts_15 : decode cX12_layParts 15 = .ok (.iload_n 1, 1) := by decide +kernel
theorem dX12_layParts_16 : decode cX12_layParts 16 = .ok (.aload_n 0, 1) := by decide +kernel
theorem dX12_layParts_17 : decode cX12_layParts 17 = .ok (.invokevirtual 346, 3) := by decide +kernel
theorem dX12_layParts_20 : decode cX12_layParts 20 = .ok (.if_icmp .ge 16, 3) := by decide +kernel
theorem dX12_layParts_23 : decode cX12_layParts 23 = .ok (.aload_n 0, 1) := by decide +kernel
theorem dX12_layParts_24 : decode cX12_layParts 24 = .ok (.getfield 92, 3) := by decide +kernel
theorem dX12_layParts_27 : decode cX12_layParts 27 = .ok (.iload_n 1, 1) := by decide +kernel
theorem dX12_layParts_28 : decode cX12_layParts 28 = .ok (.iconst (-1), 1) := by decide +kernel
theorem dX12_layParts_29 : decode cX12_layParts 29 = .ok (.iastore, 1) := by decide +kernel
theorem dX12_layParts_30 : decode cX12_layParts 30 = .ok (.iinc 1 1, 3) := by decide +kernel
theorem dX12_layParts_33 : decode cX12_layParts 33 = .ok (.goto (-18), 3) := by decide +kernel
theorem dX12_layParts_36 : decode cX12_layParts 36 = .ok (.iconst 0, 1) := by decide +kernel
theorem dX12_layParts_37 : decode cX12_layParts 37 = .ok (.istore_n 1, 1) := by decide +kernel
theorem dX12_layParts_38 : decode cX12_layParts 38 = .ok (.iload_n 1, 1) := by decide +kernel
theorem dX12_layParts_39 : decode cX12_layParts 39 = .ok (.aload_n 0, 1) := by decide +kernel
theorem dX12_layParts_40 : decode cX12_layParts 40 = .ok (.invokevirtual 346, 3) := by decide +kernel
theorem dX12_layParts_43 : decode cX12_layParts 43 = .ok (.if_icmp .ge 32, 3) := by decide +kernel
theorem dX12_layParts_46 : decode cX12_layParts 46 = .ok (.aload_n 0, 1) := by decide +kernel
theorem dX12_layParts_47 : decode cX12_layParts 47 = .ok (.getfield 74, 3) := by decide +kernel
theorem dX12_layParts_50 : decode cX12_layParts 50 = .ok (.iload_n 1, 1) := by decide +kernel
theorem dX12_layParts_51 : decode cX12_layParts 51 = .ok (.baload, 1) := by decide +kernel
theorem dX12_layParts_52 : decode cX12_layParts 52 = .ok (.ifCond .eq 17, 3) := by decide +kernel
theorem dX12_layParts_55 : decode cX12_layParts 55 = .ok (.aload_n 0, 1) := by decide +kernel
theorem dX12_layParts_56 : decode cX12_layParts 56 = .ok (.getfield 92, 3) := by decide +kernel
theorem dX12_layParts_59 : decode cX12_layParts 59 = .ok (.iload_n 1, 1) := by decide +kernel
theorem dX12_layParts_60 : decode cX12_layParts 60 = .ok (.iaload, 1) := by decide +kernel
theorem dX12_layParts_61 : decode cX12_layParts 61 = .ok (.ifCond .ge 8, 3) := by decide +kernel
theorem dX12_layParts_64 : decode cX12_layParts 64 = .ok (.aload_n 0, 1) := by decide +kernel
theorem dX12_layParts_65 : decode cX12_layParts 65 = .ok (.iload_n 1, 1) := by decide +kernel
theorem dX12_layParts_66 : decode cX12_layParts 66 = .ok (.invokevirtual 377, 3) := by decide +kernel
theorem dX12_layParts_69 : decode cX12_layParts 69 = .ok (.iinc 1 1, 3) := by decide +kernel
theorem dX12_layParts_72 : decode cX12_layParts 72 = .ok (.goto (-34), 3) := by decide +kernel
theorem dX12_layParts_75 : decode cX12_layParts 75 = .ok (.return_, 1) := by decide +kernel
theorem dX12_layPart_0 : decode cX12_layPart 0 = .ok (.iconst 1, 1) := by decide +kernel
theorem dX12_layPart_1 : decode cX12_layPart 1 = .ok (.istore_n 2, 1) := by decide +kernel
theorem dX12_layPart_2 : decode cX12_layPart 2 = .ok (.aload_n 0, 1) := by decide +kernel
theorem dX12_layPart_3 : decode cX12_layPart 3 = .ok (.getfield 86, 3) := by decide +kernel
theorem dX12_layPart_6 : decode cX12_layPart 6 = .ok (.iconst 0, 1) := by decide +kernel
theorem dX12_layPart_7 : decode cX12_layPart 7 = .ok (.iload_n 1, 1) := by decide +kernel
theorem dX12_layPart_8 : decode cX12_layPart 8 = .ok (.iastore, 1) := by decide +kernel
theorem dX12_layPart_9 : decode cX12_layPart 9 = .ok (.aload_n 0, 1) := by decide +kernel
theorem dX12_layPart_10 : decode cX12_layPart 10 = .ok (.getfield 92, 3) := by decide +kernel
theorem dX12_layPart_13 : decode cX12_layPart 13 = .ok (.iload_n 1, 1) := by decide +kernel
theorem dX12_layPart_14 : decode cX12_layPart 14 = .ok (.iload_n 1, 1) := by decide +kernel
theorem dX12_layPart_15 : decode cX12_layPart 15 = .ok (.iastore, 1) := by decide +kernel
theorem dX12_layPart_16 : decode cX12_layPart 16 = .ok (.iconst 0, 1) := by decide +kernel
theorem dX12_layPart_17 : decode cX12_layPart 17 = .ok (.istore_n 3, 1) := by decide +kernel
theorem dX12_layPart_18 : decode cX12_layPart 18 = .ok (.iload_n 3, 1) := by decide +kernel
theorem dX12_layPart_19 : decode cX12_layPart 19 = .ok (.iload_n 2, 1) := by decide +kernel
theorem dX12_layPart_20 : decode cX12_layPart 20 = .ok (.if_icmp .ge 116, 3) := by decide +kernel
theorem dX12_layPart_23 : decode cX12_layPart 23 = .ok (.iconst 0, 1) := by decide +kernel
theorem dX12_layPart_24 : decode cX12_layPart 24 = .ok (.istore 4, 2) := by decide +kernel
theorem dX12_layPart_26 : decode cX12_layPart 26 = .ok (.iload 4, 2) := by decide +kernel
theorem dX12_layPart_28 : decode cX12_layPart 28 = .ok (.aload_n 0, 1) := by decide +kernel
theorem dX12_layPart_29 : decode cX12_layPart 29 = .ok (.invokevirtual 346, 3) := by decide +kernel
theorem dX12_layPart_32 : decode cX12_layPart 32 = .ok (.if_icmp .ge 98, 3) := by decide +kernel
theorem dX12_layPart_35 : decode cX12_layPart 35 = .ok (.iconst 0, 1) := by decide +kernel
theorem dX12_layPart_36 : decode cX12_layPart 36 = .ok (.istore 5, 2) := by decide +kernel
theorem dX12_layPart_38 : decode cX12_layPart 38 = .ok (.iconst 0, 1) := by decide +kernel
theorem dX12_layPart_39 : decode cX12_layPart 39 = .ok (.istore 6, 2) := by decide +kernel
theorem dX12_layPart_41 : decode cX12_layPart 41 = .ok (.iload 6, 2) := by decide +kernel
theorem dX12_layPart_43 : decode cX12_layPart 43 = .ok (.aload_n 0, 1) := by decide +kernel
theorem dX12_layPart_44 : decode cX12_layPart 44 = .ok (.invokevirtual 339, 3) := by decide +kernel
theorem dX12_layPart_47 : decode cX12_layPart 47 = .ok (.if_icmp .ge 50, 3) := by decide +kernel
theorem dX12_layPart_50 : decode cX12_layPart 50 = .ok (.aload_n 0, 1) := by decide +kernel
theorem dX12_layPart_51 : decode cX12_layPart 51 = .ok (.getfield 74, 3) := by decide +kernel
theorem dX12_layPart_54 : decode cX12_layPart 54 = .ok (.iload 4, 2) := by decide +kernel
theorem dX12_layPart_56 : decode cX12_layPart 56 = .ok (.baload, 1) := by decide +kernel
theorem dX12_layPart_57 : decode cX12_layPart 57 = .ok (.ifCond .eq 40, 3) := by decide +kernel
theorem dX12_layPart_60 : decode cX12_layPart 60 = .ok (.aload_n 0, 1) := by decide +kernel
theorem dX12_layPart_61 : decode cX12_layPart 61 = .ok (.getfield 92, 3) := by decide +kernel
theorem dX12_layPart_64 : decode cX12_layPart 64 = .ok (.iload 4, 2) := by decide +kernel
theorem dX12_layPart_66 : decode cX12_layPart 66 = .ok (.iaload, 1) := by decide +kernel
theorem dX12_layPart_67 : decode cX12_layPart 67 = .ok (.ifCond .ge 30, 3) := by decide +kernel
theorem dX12_layPart_70 : decode cX12_layPart 70 = .ok (.iload 5, 2) := by decide +kernel
theorem dX12_layPart_72 : decode cX12_layPart 72 = .ok (.ifCond .ne 25, 3) := by decide +kernel
theorem dX12_layPart_75 : decode cX12_layPart 75 = .ok (.aload_n 0, 1) := by decide +kernel
theorem dX12_layPart_76 : decode cX12_layPart 76 = .ok (.iload 6, 2) := by decide +kernel
theorem dX12_layPart_78 : decode cX12_layPart 78 = .ok (.aload_n 0, 1) := by decide +kernel
theorem dX12_layPart_79 : decode cX12_layPart 79 = .ok (.getfield 86, 3) := by decide +kernel
theorem dX12_layPart_82 : decode cX12_layPart 82 = .ok (.iload_n 3, 1) := by decide +kernel
theorem dX12_layPart_83 : decode cX12_layPart 83 = .ok (.iaload, 1) := by decide +kernel
theorem dX12_layPart_84 : decode cX12_layPart 84 = .ok (.iload 4, 2) := by decide +kernel
theorem dX12_layPart_86 : decode cX12_layPart 86 = .ok (.invokevirtual 371, 3) := by decide +kernel
theorem dX12_layPart_89 : decode cX12_layPart 89 = .ok (.istore 5, 2) := by decide +kernel
theorem dX12_layPart_91 : decode cX12_layPart 91 = .ok (.iinc 6 1, 3) := by decide +kernel
theorem dX12_layPart_94 : decode cX12_layPart 94 = .ok (.goto (-53), 3) := by decide +kernel
theorem dX12_layPart_97 : decode cX12_layPart 97 = .ok (.iload 5, 2) := by decide +kernel
theorem dX12_layPart_99 : decode cX12_layPart 99 = .ok (.ifCond .ne 6, 3) := by decide +kernel
theorem dX12_layPart_102 : decode cX12_layPart 102 = .ok (.goto 22, 3) := by decide +kernel
theorem dX12_layPart_105 : decode cX12_layPart 105 = .ok (.aload_n 0, 1) := by decide +kernel
theorem dX12_layPart_106 : decode cX12_layPart 106 = .ok (.getfield 92, 3) := by decide +kernel
theorem dX12_layPart_109 : decode cX12_layPart 109 = .ok (.iload 4, 2) := by decide +kernel
theorem dX12_layPart_111 : decode cX12_layPart 111 = .ok (.iload_n 1, 1) := by decide +kernel
theorem dX12_layPart_112 : decode cX12_layPart 112 = .ok (.iastore, 1) := by decide +kernel
theorem dX12_layPart_113 : decode cX12_layPart 113 = .ok (.aload_n 0, 1) := by decide +kernel
theorem dX12_layPart_114 : decode cX12_layPart 114 = .ok (.getfield 86, 3) := by decide +kernel
theorem dX12_layPart_117 : decode cX12_layPart 117 = .ok (.iload_n 2, 1) := by decide +kernel
theorem dX12_layPart_118 : decode cX12_layPart 118 = .ok (.iload 4, 2) := by decide +kernel
theorem dX12_layPart_120 : decode cX12_layPart 120 = .ok (.iastore, 1) := by decide +kernel
theorem dX12_layPart_121 : decode cX12_layPart 121 = .ok (.iinc 2 1, 3) := by decide +kernel
theorem dX12_layPart_124 : decode cX12_layPart 124 = .ok (.iinc 4 1, 3) := by decide +kernel
theorem dX12_layPart_127 : decode cX12_layPart 127 = .ok (.goto (-101), 3) := by decide +kernel
theorem dX12_layPart_130 : decode cX12_layPart 130 = .ok (.iinc 3 1, 3) := by decide +kernel
theorem dX12_layPart_133 : decode cX12_layPart 133 = .ok (.goto (-115), 3) := by decide +kernel
theorem dX12_layPart_136 : decode cX12_layPart 136 = .ok (.return_, 1) := by decide +kernel
theorem dX12_commonOf_0 : decode cX12_commonOf 0 = .ok (.aload_n 0, 1) := by decide +kernel
theorem dX12_commonOf_1 : decode cX12_commonOf 1 = .ok (.invokevirtual 381, 3) := by decide +kernel
theorem dX12_commonOf_4 : decode cX12_commonOf 4 = .ok (.iconst 0, 1) := by decide +kernel
theorem dX12_commonOf_5 : decode cX12_commonOf 5 = .ok (.istore_n 2, 1) := by decide +kernel
theorem dX12_commonOf_6 : decode cX12_commonOf 6 = .ok (.iload_n 2, 1) := by decide +kernel
theorem dX12_commonOf_7 : decode cX12_commonOf 7 = .ok (.aload_n 0, 1) := by decide +kernel
theorem dX12_commonOf_8 : decode cX12_commonOf 8 = .ok (.invokevirtual 346, 3) := by decide +kernel
theorem dX12_commonOf_11 : decode cX12_commonOf 11 = .ok (.if_icmp .ge 16, 3) := by decide +kernel
theorem dX12_commonOf_14 : decode cX12_commonOf 14 = .ok (.aload_n 0, 1) := by decide +kernel
theorem dX12_commonOf_15 : decode cX12_commonOf 15 = .ok (.getfield 95, 3) := by decide +kernel
theorem dX12_commonOf_18 : decode cX12_commonOf 18 = .ok (.iload_n 2, 1) := by decide +kernel
theorem dX12_commonOf_19 : decode cX12_commonOf 19 = .ok (.iconst 0, 1) := by decide +kernel
theorem dX12_commonOf_20 : decode cX12_commonOf 20 = .ok (.bastore, 1) := by decide +kernel
theorem dX12_commonOf_21 : decode cX12_commonOf 21 = .ok (.iinc 2 1, 3) := by decide +kernel
theorem dX12_commonOf_24 : decode cX12_commonOf 24 = .ok (.goto (-18), 3) := by decide +kernel
theorem dX12_commonOf_27 : decode cX12_commonOf 27 = .ok (.iconst 0, 1) := by decide +kernel
theorem dX12_commonOf_28 : decode cX12_commonOf 28 = .ok (.istore_n 2, 1) := by decide +kernel
theorem dX12_commonOf_29 : decode cX12_commonOf 29 = .ok (.iload_n 2, 1) := by decide +kernel
theorem dX12_commonOf_30 : decode cX12_commonOf 30 = .ok (.aload_n 0, 1) := by decide +kernel
theorem dX12_commonOf_31 : decode cX12_commonOf 31 = .ok (.invokevirtual 346, 3) := by decide +kernel
theorem dX12_commonOf_34 : decode cX12_commonOf 34 = .ok (.if_icmp .ge 41, 3) := by decide +kernel
theorem dX12_commonOf_37 : decode cX12_commonOf 37 = .ok (.aload_n 0, 1) := by decide +kernel
theorem dX12_commonOf_38 : decode cX12_commonOf 38 = .ok (.getfield 74, 3) := by decide +kernel
theorem dX12_commonOf_41 : decode cX12_commonOf 41 = .ok (.iload_n 2, 1) := by decide +kernel
theorem dX12_commonOf_42 : decode cX12_commonOf 42 = .ok (.baload, 1) := by decide +kernel
theorem dX12_commonOf_43 : decode cX12_commonOf 43 = .ok (.ifCond .eq 26, 3) := by decide +kernel
theorem dX12_commonOf_46 : decode cX12_commonOf 46 = .ok (.aload_n 0, 1) := by decide +kernel
theorem dX12_commonOf_47 : decode cX12_commonOf 47 = .ok (.getfield 83, 3) := by decide +kernel
theorem dX12_commonOf_50 : decode cX12_commonOf 50 = .ok (.iload_n 1, 1) := by decide +kernel
theorem dX12_commonOf_51 : decode cX12_commonOf 51 = .ok (.iload_n 2, 1) := by decide +kernel
theorem dX12_commonOf_52 : decode cX12_commonOf 52 = .ok (.iadd, 1) := by decide +kernel
theorem dX12_commonOf_53 : decode cX12_commonOf 53 = .ok (.iaload, 1) := by decide +kernel
theorem dX12_commonOf_54 : decode cX12_commonOf 54 = .ok (.ifCond .ne 15, 3) := by decide +kernel
theorem dX12_commonOf_57 : decode cX12_commonOf 57 = .ok (.aload_n 0, 1) := by decide +kernel
theorem dX12_commonOf_58 : decode cX12_commonOf 58 = .ok (.getfield 95, 3) := by decide +kernel
theorem dX12_commonOf_61 : decode cX12_commonOf 61 = .ok (.aload_n 0, 1) := by decide +kernel
theorem dX12_commonOf_62 : decode cX12_commonOf 62 = .ok (.getfield 92, 3) := by decide +kernel
theorem dX12_commonOf_65 : decode cX12_commonOf 65 = .ok (.iload_n 2, 1) := by decide +kernel
theorem dX12_commonOf_66 : decode cX12_commonOf 66 = .ok (.iaload, 1) := by decide +kernel
theorem dX12_commonOf_67 : decode cX12_commonOf 67 = .ok (.iconst 1, 1) := by decide +kernel
theorem dX12_commonOf_68 : decode cX12_commonOf 68 = .ok (.bastore, 1) := by decide +kernel
theorem dX12_commonOf_69 : decode cX12_commonOf 69 = .ok (.iinc 2 1, 3) := by decide +kernel
theorem dX12_commonOf_72 : decode cX12_commonOf 72 = .ok (.goto (-43), 3) := by decide +kernel
theorem dX12_commonOf_75 : decode cX12_commonOf 75 = .ok (.iconst 0, 1) := by decide +kernel
theorem dX12_commonOf_76 : decode cX12_commonOf 76 = .ok (.istore_n 2, 1) := by decide +kernel
theorem dX12_commonOf_77 : decode cX12_commonOf 77 = .ok (.iload_n 2, 1) := by decide +kernel
theorem dX12_commonOf_78 : decode cX12_commonOf 78 = .ok (.aload_n 0, 1) := by decide +kernel
theorem dX12_commonOf_79 : decode cX12_commonOf 79 = .ok (.invokevirtual 346, 3) := by decide +kernel
theorem dX12_commonOf_82 : decode cX12_commonOf 82 = .ok (.if_icmp .ge 45, 3) := by decide +kernel
theorem dX12_commonOf_85 : decode cX12_commonOf 85 = .ok (.aload_n 0, 1) := by decide +kernel
theorem dX12_commonOf_86 : decode cX12_commonOf 86 = .ok (.getfield 83, 3) := by decide +kernel
theorem dX12_commonOf_89 : decode cX12_commonOf 89 = .ok (.iload_n 1, 1) := by decide +kernel
theorem dX12_commonOf_90 : decode cX12_commonOf 90 = .ok (.iload_n 2, 1) := by decide +kernel
theorem dX12_commonOf_91 : decode cX12_commonOf 91 = .ok (.iadd, 1) := by decide +kernel
theorem dX12_commonOf_92 : decode cX12_commonOf 92 = .ok (.aload_n 0, 1) := by decide +kernel
theorem dX12_commonOf_93 : decode cX12_commonOf 93 = .ok (.getfield 74, 3) := by decide +kernel
theorem dX12_commonOf_96 : decode cX12_commonOf 96 = .ok (.iload_n 2, 1) := by decide +kernel
theorem dX12_commonOf_97 : decode cX12_commonOf 97 = .ok (.baload, 1) := by decide +kernel
theorem dX12_commonOf_98 : decode cX12_commonOf 98 = .ok (.ifCond .eq 21, 3) := by decide +kernel
theorem dX12_commonOf_101 : decode cX12_commonOf 101 = .ok (.aload_n 0, 1) := by decide +kernel
theorem dX12_commonOf_102 : decode cX12_commonOf 102 = .ok (.getfield 95, 3) := by decide +kernel
theorem dX12_commonOf_105 : decode cX12_commonOf 105 = .ok (.aload_n 0, 1) := by decide +kernel
theorem dX12_commonOf_106 : decode cX12_commonOf 106 = .ok (.getfield 92, 3) := by decide +kernel
theorem dX12_commonOf_109 : decode cX12_commonOf 109 = .ok (.iload_n 2, 1) := by decide +kernel
theorem dX12_commonOf_110 : decode cX12_commonOf 110 = .ok (.iaload, 1) := by decide +kernel
theorem dX12_commonOf_111 : decode cX12_commonOf 111 = .ok (.baload, 1) := by decide +kernel
theorem dX12_commonOf_112 : decode cX12_commonOf 112 = .ok (.ifCond .ne 7, 3) := by decide +kernel
theorem dX12_commonOf_115 : decode cX12_commonOf 115 = .ok (.iconst 1, 1) := by decide +kernel
theorem dX12_commonOf_116 : decode cX12_commonOf 116 = .ok (.goto 4, 3) := by decide +kernel
theorem dX12_commonOf_119 : decode cX12_commonOf 119 = .ok (.iconst 0, 1) := by decide +kernel
theorem dX12_commonOf_120 : decode cX12_commonOf 120 = .ok (.iastore, 1) := by decide +kernel
theorem dX12_commonOf_121 : decode cX12_commonOf 121 = .ok (.iinc 2 1, 3) := by decide +kernel
theorem dX12_commonOf_124 : decode cX12_commonOf 124 = .ok (.goto (-47), 3) := by decide +kernel
theorem dX12_commonOf_127 : decode cX12_commonOf 127 = .ok (.return_, 1) := by decide +kernel
theorem dX12_isCommon_0 : decode cX12_isCommon 0 = .ok (.aload_n 0, 1) := by decide +kernel
theorem dX12_isCommon_1 : decode cX12_isCommon 1 = .ok (.invokevirtual 381, 3) := by decide +kernel
theorem dX12_isCommon_4 : decode cX12_isCommon 4 = .ok (.iconst 0, 1) := by decide +kernel
theorem dX12_isCommon_5 : decode cX12_isCommon 5 = .ok (.istore_n 2, 1) := by decide +kernel
theorem dX12_isCommon_6 : decode cX12_isCommon 6 = .ok (.iload_n 2, 1) := by decide +kernel
theorem dX12_isCommon_7 : decode cX12_isCommon 7 = .ok (.aload_n 0, 1) := by decide +kernel
theorem dX12_isCommon_8 : decode cX12_isCommon 8 = .ok (.invokevirtual 346, 3) := by decide +kernel
theorem dX12_isCommon_11 : decode cX12_isCommon 11 = .ok (.if_icmp .ge 44, 3) := by decide +kernel
theorem dX12_isCommon_14 : decode cX12_isCommon 14 = .ok (.aload_n 0, 1) := by decide +kernel
theorem dX12_isCommon_15 : decode cX12_isCommon 15 = .ok (.getfield 74, 3) := by decide +kernel
theorem dX12_isCommon_18 : decode cX12_isCommon 18 = .ok (.iload_n 2, 1) := by decide +kernel
theorem dX12_isCommon_19 : decode cX12_isCommon 19 = .ok (.baload, 1) := by decide +kernel
theorem dX12_isCommon_20 : decode cX12_isCommon 20 = .ok (.ifCond .eq 29, 3) := by decide +kernel
theorem dX12_isCommon_23 : decode cX12_isCommon 23 = .ok (.aload_n 0, 1) := by decide +kernel
theorem dX12_isCommon_24 : decode cX12_isCommon 24 = .ok (.getfield 92, 3) := by decide +kernel
theorem dX12_isCommon_27 : decode cX12_isCommon 27 = .ok (.iload_n 2, 1) := by decide +kernel
theorem dX12_isCommon_28 : decode cX12_isCommon 28 = .ok (.iaload, 1) := by decide +kernel
theorem dX12_isCommon_29 : decode cX12_isCommon 29 = .ok (.aload_n 0, 1) := by decide +kernel
theorem dX12_isCommon_30 : decode cX12_isCommon 30 = .ok (.getfield 92, 3) := by decide +kernel
theorem dX12_isCommon_33 : decode cX12_isCommon 33 = .ok (.iload_n 1, 1) := by decide +kernel
theorem dX12_isCommon_34 : decode cX12_isCommon 34 = .ok (.iaload, 1) := by decide +kernel
theorem dX12_isCommon_35 : decode cX12_isCommon 35 = .ok (.if_icmp .ne 14, 3) := by decide +kernel
theorem dX12_isCommon_38 : decode cX12_isCommon 38 = .ok (.aload_n 0, 1) := by decide +kernel
theorem dX12_isCommon_39 : decode cX12_isCommon 39 = .ok (.getfield 83, 3) := by decide +kernel
theorem dX12_isCommon_42 : decode cX12_isCommon 42 = .ok (.iload_n 2, 1) := by decide +kernel
theorem dX12_isCommon_43 : decode cX12_isCommon 43 = .ok (.iaload, 1) := by decide +kernel
theorem dX12_isCommon_44 : decode cX12_isCommon 44 = .ok (.ifCond .ne 5, 3) := by decide +kernel
theorem dX12_isCommon_47 : decode cX12_isCommon 47 = .ok (.iconst 0, 1) := by decide +kernel
theorem dX12_isCommon_48 : decode cX12_isCommon 48 = .ok (.ireturn, 1) := by decide +kernel
theorem dX12_isCommon_49 : decode cX12_isCommon 49 = .ok (.iinc 2 1, 3) := by decide +kernel
theorem dX12_isCommon_52 : decode cX12_isCommon 52 = .ok (.goto (-46), 3) := by decide +kernel
theorem dX12_isCommon_55 : decode cX12_isCommon 55 = .ok (.iconst 1, 1) := by decide +kernel
theorem dX12_isCommon_56 : decode cX12_isCommon 56 = .ok (.ireturn, 1) := by decide +kernel
theorem dX12_two_0 : decode cX12_two 0 = .ok (.iload_n 0, 1) := by decide +kernel
theorem dX12_two_1 : decode cX12_two 1 = .ok (.tableswitch 186 38 62 #[172, 186, 186, 186, 123, 115, 186, 119, 186, 127, 186, 186, 186, 186, 186, 186, 186, 186, 186, 186, 186, 186, 139, 161, 150], 115) := by decide +kernel
theorem dX12_two_116 : decode cX12_two 116 = .ok (.iload_n 1, 1) := by decide +kernel
theorem dX12_two_117 : decode cX12_two 117 = .ok (.iload_n 2, 1) := by decide +kernel
theorem dX12_two_118 : decode cX12_two 118 = .ok (.iadd, 1) := by decide +kernel
theorem dX12_two_119 : decode cX12_two 119 = .ok (.ireturn, 1) := by decide +kernel
theorem dX12_two_120 : decode cX12_two 120 = .ok (.iload_n 1, 1) := by decide +kernel
theorem dX12_two_121 : decode cX12_two 121 = .ok (.iload_n 2, 1) := by decide +kernel
theorem dX12_two_122 : decode cX12_two 122 = .ok (.isub, 1) := by decide +kernel
theorem dX12_two_123 : decode cX12_two 123 = .ok (.ireturn, 1) := by decide +kernel
theorem dX12_two_124 : decode cX12_two 124 = .ok (.iload_n 1, 1) := by decide +kernel
theorem dX12_two_125 : decode cX12_two 125 = .ok (.iload_n 2, 1) := by decide +kernel
theorem dX12_two_126 : decode cX12_two 126 = .ok (.imul, 1) := by decide +kernel
theorem dX12_two_127 : decode cX12_two 127 = .ok (.ireturn, 1) := by decide +kernel
theorem dX12_two_128 : decode cX12_two 128 = .ok (.iload_n 2, 1) := by decide +kernel
theorem dX12_two_129 : decode cX12_two 129 = .ok (.ifCond .ne 7, 3) := by decide +kernel
theorem dX12_two_132 : decode cX12_two 132 = .ok (.iconst 0, 1) := by decide +kernel
theorem dX12_two_133 : decode cX12_two 133 = .ok (.goto 6, 3) := by decide +kernel
theorem dX12_two_136 : decode cX12_two 136 = .ok (.iload_n 1, 1) := by decide +kernel
theorem dX12_two_137 : decode cX12_two 137 = .ok (.iload_n 2, 1) := by decide +kernel
theorem dX12_two_138 : decode cX12_two 138 = .ok (.idiv, 1) := by decide +kernel
theorem dX12_two_139 : decode cX12_two 139 = .ok (.ireturn, 1) := by decide +kernel
theorem dX12_two_140 : decode cX12_two 140 = .ok (.iload_n 1, 1) := by decide +kernel
theorem dX12_two_141 : decode cX12_two 141 = .ok (.iload_n 2, 1) := by decide +kernel
theorem dX12_two_142 : decode cX12_two 142 = .ok (.if_icmp .ge 7, 3) := by decide +kernel
theorem dX12_two_145 : decode cX12_two 145 = .ok (.iconst 1, 1) := by decide +kernel
theorem dX12_two_146 : decode cX12_two 146 = .ok (.goto 4, 3) := by decide +kernel
theorem dX12_two_149 : decode cX12_two 149 = .ok (.iconst 0, 1) := by decide +kernel
theorem dX12_two_150 : decode cX12_two 150 = .ok (.ireturn, 1) := by decide +kernel
theorem dX12_two_151 : decode cX12_two 151 = .ok (.iload_n 1, 1) := by decide +kernel
theorem dX12_two_152 : decode cX12_two 152 = .ok (.iload_n 2, 1) := by decide +kernel
theorem dX12_two_153 : decode cX12_two 153 = .ok (.if_icmp .le 7, 3) := by decide +kernel
theorem dX12_two_156 : decode cX12_two 156 = .ok (.iconst 1, 1) := by decide +kernel
theorem dX12_two_157 : decode cX12_two 157 = .ok (.goto 4, 3) := by decide +kernel
theorem dX12_two_160 : decode cX12_two 160 = .ok (.iconst 0, 1) := by decide +kernel
theorem dX12_two_161 : decode cX12_two 161 = .ok (.ireturn, 1) := by decide +kernel
theorem dX12_two_162 : decode cX12_two 162 = .ok (.iload_n 1, 1) := by decide +kernel
theorem dX12_two_163 : decode cX12_two 163 = .ok (.iload_n 2, 1) := by decide +kernel
theorem dX12_two_164 : decode cX12_two 164 = .ok (.if_icmp .ne 7, 3) := by decide +kernel
theorem dX12_two_167 : decode cX12_two 167 = .ok (.iconst 1, 1) := by decide +kernel
theorem dX12_two_168 : decode cX12_two 168 = .ok (.goto 4, 3) := by decide +kernel
theorem dX12_two_171 : decode cX12_two 171 = .ok (.iconst 0, 1) := by decide +kernel
theorem dX12_two_172 : decode cX12_two 172 = .ok (.ireturn, 1) := by decide +kernel
theorem dX12_two_173 : decode cX12_two 173 = .ok (.iload_n 1, 1) := by decide +kernel
theorem dX12_two_174 : decode cX12_two 174 = .ok (.ifCond .eq 11, 3) := by decide +kernel
theorem dX12_two_177 : decode cX12_two 177 = .ok (.iload_n 2, 1) := by decide +kernel
theorem dX12_two_178 : decode cX12_two 178 = .ok (.ifCond .eq 7, 3) := by decide +kernel
theorem dX12_two_181 : decode cX12_two 181 = .ok (.iconst 1, 1) := by decide +kernel
theorem dX12_two_182 : decode cX12_two 182 = .ok (.goto 4, 3) := by decide +kernel
theorem dX12_two_185 : decode cX12_two 185 = .ok (.iconst 0, 1) := by decide +kernel
theorem dX12_two_186 : decode cX12_two 186 = .ok (.ireturn, 1) := by decide +kernel
theorem dX12_two_187 : decode cX12_two 187 = .ok (.iload_n 1, 1) := by decide +kernel
theorem dX12_two_188 : decode cX12_two 188 = .ok (.ifCond .ne 7, 3) := by decide +kernel
theorem dX12_two_191 : decode cX12_two 191 = .ok (.iload_n 2, 1) := by decide +kernel
theorem dX12_two_192 : decode cX12_two 192 = .ok (.ifCond .eq 7, 3) := by decide +kernel
theorem dX12_two_195 : decode cX12_two 195 = .ok (.iconst 1, 1) := by decide +kernel
theorem dX12_two_196 : decode cX12_two 196 = .ok (.goto 4, 3) := by decide +kernel
theorem dX12_two_199 : decode cX12_two 199 = .ok (.iconst 0, 1) := by decide +kernel
theorem dX12_two_200 : decode cX12_two 200 = .ok (.ireturn, 1) := by decide +kernel
theorem dX12_plain_0 : decode cX12_plain 0 = .ok (.iload_n 1, 1) := by decide +kernel
theorem dX12_plain_1 : decode cX12_plain 1 = .ok (.bipush 110, 2) := by decide +kernel
theorem dX12_plain_3 : decode cX12_plain 3 = .ok (.if_icmp .ne 7, 3) := by decide +kernel
theorem dX12_plain_6 : decode cX12_plain 6 = .ok (.iload_n 2, 1) := by decide +kernel
theorem dX12_plain_7 : decode cX12_plain 7 = .ok (.goto 38, 3) := by decide +kernel
theorem dX12_plain_10 : decode cX12_plain 10 = .ok (.iload_n 1, 1) := by decide +kernel
theorem dX12_plain_11 : decode cX12_plain 11 = .ok (.bipush 109, 2) := by decide +kernel
theorem dX12_plain_13 : decode cX12_plain 13 = .ok (.if_icmp .ne 10, 3) := by decide +kernel
theorem dX12_plain_16 : decode cX12_plain 16 = .ok (.iload_n 3, 1) := by decide +kernel
theorem dX12_plain_17 : decode cX12_plain 17 = .ok (.invokestatic 384, 3) := by decide +kernel
theorem dX12_plain_20 : decode cX12_plain 20 = .ok (.goto 25, 3) := by decide +kernel
theorem dX12_plain_23 : decode cX12_plain 23 = .ok (.iload_n 1, 1) := by decide +kernel
theorem dX12_plain_24 : decode cX12_plain 24 = .ok (.bipush 104, 2) := by decide +kernel
theorem dX12_plain_26 : decode cX12_plain 26 = .ok (.if_icmp .ne 11, 3) := by decide +kernel
theorem dX12_plain_29 : decode cX12_plain 29 = .ok (.iload_n 3, 1) := by decide +kernel
theorem dX12_plain_30 : decode cX12_plain 30 = .ok (.iload_n 2, 1) := by decide +kernel
theorem dX12_plain_31 : decode cX12_plain 31 = .ok (.ishr, 1) := by decide +kernel
theorem dX12_plain_32 : decode cX12_plain 32 = .ok (.iconst 1, 1) := by decide +kernel
theorem dX12_plain_33 : decode cX12_plain 33 = .ok (.iand, 1) := by decide +kernel
theorem dX12_plain_34 : decode cX12_plain 34 = .ok (.goto 11, 3) := by decide +kernel
theorem dX12_plain_37 : decode cX12_plain 37 = .ok (.aload_n 0, 1) := by decide +kernel
theorem dX12_plain_38 : decode cX12_plain 38 = .ok (.getfield 359, 3) := by decide +kernel
theorem dX12_plain_41 : decode cX12_plain 41 = .ok (.iload_n 2, 1) := by decide +kernel
theorem dX12_plain_42 : decode cX12_plain 42 = .ok (.ishr, 1) := by decide +kernel
theorem dX12_plain_43 : decode cX12_plain 43 = .ok (.iconst 1, 1) := by decide +kernel
theorem dX12_plain_44 : decode cX12_plain 44 = .ok (.iand, 1) := by decide +kernel
theorem dX12_plain_45 : decode cX12_plain 45 = .ok (.ireturn, 1) := by decide +kernel
theorem dX12_work_0 : decode cX12_work 0 = .ok (.iconst 0, 1) := by decide +kernel
theorem dX12_work_1 : decode cX12_work 1 = .ok (.istore_n 3, 1) := by decide +kernel
theorem dX12_work_2 : decode cX12_work 2 = .ok (.iload_n 1, 1) := by decide +kernel
theorem dX12_work_3 : decode cX12_work 3 = .ok (.istore 4, 2) := by decide +kernel
theorem dX12_work_5 : decode cX12_work 5 = .ok (.iload 4, 2) := by decide +kernel
theorem dX12_work_7 : decode cX12_work 7 = .ok (.iload_n 2, 1) := by decide +kernel
theorem dX12_work_8 : decode cX12_work 8 = .ok (.if_icmp .ge 276, 3) := by decide +kernel
theorem dX12_work_11 : decode cX12_work 11 = .ok (.aload_n 0, 1) := by decide +kernel
theorem dX12_work_12 : decode cX12_work 12 = .ok (.getfield 59, 3) := by decide +kernel
theorem dX12_work_15 : decode cX12_work 15 = .ok (.iload 4, 2) := by decide +kernel
theorem dX12_work_17 : decode cX12_work 17 = .ok (.iaload, 1) := by decide +kernel
theorem dX12_work_18 : decode cX12_work 18 = .ok (.istore 5, 2) := by decide +kernel
theorem dX12_work_20 : decode cX12_work 20 = .ok (.iload_n 3, 1) := by decide +kernel
theorem dX12_work_21 : decode cX12_work 21 = .ok (.sipush 256, 3) := by decide +kernel
theorem dX12_work_24 : decode cX12_work 24 = .ok (.isub, 1) := by decide +kernel
theorem dX12_work_25 : decode cX12_work 25 = .ok (.istore 6, 2) := by decide +kernel
theorem dX12_work_27 : decode cX12_work 27 = .ok (.iload 5, 2) := by decide +kernel
theorem dX12_work_29 : decode cX12_work 29 = .ok (.bipush 110, 2) := by decide +kernel
theorem dX12_work_31 : decode cX12_work 31 = .ok (.if_icmp .eq 24, 3) := by decide +kernel
theorem dX12_work_34 : decode cX12_work 34 = .ok (.iload 5, 2) := by decide +kernel
theorem dX12_work_36 : decode cX12_work 36 = .ok (.bipush 109, 2) := by decide +kernel
theorem dX12_work_38 : decode cX12_work 38 = .ok (.if_icmp .eq 17, 3) := by decide +kernel
theorem dX12_work_41 : decode cX12_work 41 = .ok (.iload 5, 2) := by decide +kernel
theorem dX12_work_43 : decode cX12_work 43 = .ok (.bipush 104, 2) := by decide +kernel
theorem dX12_work_45 : decode cX12_work 45 = .ok (.if_icmp .eq 10, 3) := by decide +kernel
theorem dX12_work_48 : decode cX12_work 48 = .ok (.iload 5, 2) := by decide +kernel
theorem dX12_work_50 : decode cX12_work 50 = .ok (.bipush 103, 2) := by decide +kernel
theorem dX12_work_52 : decode cX12_work 52 = .ok (.if_icmp .ne 54, 3) := by decide +kernel
theorem dX12_work_55 : decode cX12_work 55 = .ok (.iconst 0, 1) := by decide +kernel
theorem dX12_work_56 : decode cX12_work 56 = .ok (.istore 7, 2) := by decide +kernel
theorem dX12_work_58 : decode cX12_work 58 = .ok (.iload 7, 2) := by decide +kernel
theorem dX12_work_60 : decode cX12_work 60 = .ok (.aload_n 0, 1) := by decide +kernel
theorem dX12_work_61 : decode cX12_work 61 = .ok (.invokevirtual 346, 3) := by decide +kernel
theorem dX12_work_64 : decode cX12_work 64 = .ok (.if_icmp .ge 33, 3) := by decide +kernel
theorem dX12_work_67 : decode cX12_work 67 = .ok (.aload_n 0, 1) := by decide +kernel
theorem dX12_work_68 : decode cX12_work 68 = .ok (.getfield 83, 3) := by decide +kernel
theorem dX12_work_71 : decode cX12_work 71 = .ok (.iload_n 3, 1) := by decide +kernel
theorem dX12_work_72 : decode cX12_work 72 = .ok (.iload 7, 2) := by decide +kernel
theorem dX12_work_74 : decode cX12_work 74 = .ok (.iadd, 1) := by decide +kernel
theorem dX12_work_75 : decode cX12_work 75 = .ok (.aload_n 0, 1) := by decide +kernel
theorem dX12_work_76 : decode cX12_work 76 = .ok (.iload 5, 2) := by decide +kernel
theorem dX12_work_78 : decode cX12_work 78 = .ok (.aload_n 0, 1) := by decide +kernel
theorem dX12_work_79 : decode cX12_work 79 = .ok (.getfield 62, 3) := by decide +kernel
theorem dX12_work_82 : decode cX12_work 82 = .ok (.iload 4, 2) := by decide +kernel
theorem dX12_work_84 : decode cX12_work 84 = .ok (.iaload, 1) := by decide +kernel
theorem dX12_work_85 : decode cX12_work 85 = .ok (.iload 7, 2) := by decide +kernel
theorem dX12_work_87 : decode cX12_work 87 = .ok (.invokevirtual 387, 3) := by decide +kernel
theorem dX12_work_90 : decode cX12_work 90 = .ok (.iastore, 1) := by decide +kernel
theorem dX12_work_91 : decode cX12_work 91 = .ok (.iinc 7 1, 3) := by decide +kernel
theorem dX12_work_94 : decode cX12_work 94 = .ok (.goto (-36), 3) := by decide +kernel
theorem dX12_work_97 : decode cX12_work 97 = .ok (.iinc 3 256, 6) := by decide +kernel
theorem dX12_work_103 : decode cX12_work 103 = .ok (.goto 175, 3) := by decide +kernel
theorem dX12_work_106 : decode cX12_work 106 = .ok (.iload 5, 2) := by decide +kernel
theorem dX12_work_108 : decode cX12_work 108 = .ok (.bipush 126, 2) := by decide +kernel
theorem dX12_work_110 : decode cX12_work 110 = .ok (.if_icmp .ne 52, 3) := by decide +kernel
theorem dX12_work_113 : decode cX12_work 113 = .ok (.iconst 0, 1) := by decide +kernel
theorem dX12_work_114 : decode cX12_work 114 = .ok (.istore 7, 2) := by decide +kernel
theorem dX12_work_116 : decode cX12_work 116 = .ok (.iload 7, 2) := by decide +kernel
theorem dX12_work_118 : decode cX12_work 118 = .ok (.aload_n 0, 1) := by decide +kernel
theorem dX12_work_119 : decode cX12_work 119 = .ok (.invokevirtual 346, 3) := by decide +kernel
theorem dX12_work_122 : decode cX12_work 122 = .ok (.if_icmp .ge 37, 3) := by decide +kernel
theorem dX12_work_125 : decode cX12_work 125 = .ok (.aload_n 0, 1) := by decide +kernel
theorem dX12_work_126 : decode cX12_work 126 = .ok (.getfield 83, 3) := by decide +kernel
theorem dX12_work_129 : decode cX12_work 129 = .ok (.iload 6, 2) := by decide +kernel
theorem dX12_work_131 : decode cX12_work 131 = .ok (.iload 7, 2) := by decide +kernel
theorem dX12_work_133 : decode cX12_work 133 = .ok (.iadd, 1) := by decide +kernel
theorem dX12_work_134 : decode cX12_work 134 = .ok (.aload_n 0, 1) := by decide +kernel
theorem dX12_work_135 : decode cX12_work 135 = .ok (.getfield 83, 3) := by decide +kernel
theorem dX12_work_138 : decode cX12_work 138 = .ok (.iload 6, 2) := by decide +kernel
theorem dX12_work_140 : decode cX12_work 140 = .ok (.iload 7, 2) := by decide +kernel
theorem dX12_work_142 : decode cX12_work 142 = .ok (.iadd, 1) := by decide +kernel
theorem dX12_work_143 : decode cX12_work 143 = .ok (.iaload, 1) := by decide +kernel
theorem dX12_work_144 : decode cX12_work 144 = .ok (.ifCond .ne 7, 3) := by decide +kernel
theorem dX12_work_147 : decode cX12_work 147 = .ok (.iconst 1, 1) := by decide +kernel
theorem dX12_work_148 : decode cX12_work 148 = .ok (.goto 4, 3) := by decide +kernel
theorem dX12_work_151 : decode cX12_work 151 = .ok (.iconst 0, 1) := by decide +kernel
theorem dX12_work_152 : decode cX12_work 152 = .ok (.iastore, 1) := by decide +kernel
theorem dX12_work_153 : decode cX12_work 153 = .ok (.iinc 7 1, 3) := by decide +kernel
theorem dX12_work_156 : decode cX12_work 156 = .ok (.goto (-40), 3) := by decide +kernel
theorem dX12_work_159 : decode cX12_work 159 = .ok (.goto 119, 3) := by decide +kernel
theorem dX12_work_162 : decode cX12_work 162 = .ok (.iload 5, 2) := by decide +kernel
theorem dX12_work_164 : decode cX12_work 164 = .ok (.bipush 107, 2) := by decide +kernel
theorem dX12_work_166 : decode cX12_work 166 = .ok (.if_icmp .ne 19, 3) := by decide +kernel
theorem dX12_work_169 : decode cX12_work 169 = .ok (.aload_n 0, 1) := by decide +kernel
theorem dX12_work_170 : decode cX12_work 170 = .ok (.aload_n 0, 1) := by decide +kernel
theorem dX12_work_171 : decode cX12_work 171 = .ok (.getfield 62, 3) := by decide +kernel
theorem dX12_work_174 : decode cX12_work 174 = .ok (.iload 4, 2) := by decide +kernel
theorem dX12_work_176 : decode cX12_work 176 = .ok (.iaload, 1) := by decide +kernel
theorem dX12_work_177 : decode cX12_work 177 = .ok (.iload 6, 2) := by decide +kernel
theorem dX12_work_179 : decode cX12_work 179 = .ok (.invokevirtual 391, 3) := by decide +kernel
theorem dX12_work_182 : decode cX12_work 182 = .ok (.goto 96, 3) := by decide +kernel
theorem dX12_work_185 : decode cX12_work 185 = .ok (.iload 5, 2) := by decide +kernel
theorem dX12_work_187 : decode cX12_work 187 = .ok (.bipush 97, 2) := by decide +kernel
theorem dX12_work_189 : decode cX12_work 189 = .ok (.if_icmp .ne 12, 3) := by decide +kernel
theorem dX12_work_192 : decode cX12_work 192 = .ok (.aload_n 0, 1) := by decide +kernel
theorem dX12_work_193 : decode cX12_work 193 = .ok (.iload 6, 2) := by decide +kernel
theorem dX12_work_195 : decode cX12_work 195 = .ok (.invokevirtual 394, 3) := by decide +kernel
theorem dX12_work_198 : decode cX12_work 198 = .ok (.goto 80, 3) := by decide +kernel
theorem dX12_work_201 : decode cX12_work 201 = .ok (.iload 5, 2) := by decide +kernel
theorem dX12_work_203 : decode cX12_work 203 = .ok (.bipush 99, 2) := by decide +kernel
theorem dX12_work_205 : decode cX12_work 205 = .ok (.if_icmp .ne 12, 3) := by decide +kernel
theorem dX12_work_208 : decode cX12_work 208 = .ok (.aload_n 0, 1) := by decide +kernel
theorem dX12_work_209 : decode cX12_work 209 = .ok (.iload 6, 2) := by decide +kernel
theorem dX12_work_211 : decode cX12_work 211 = .ok (.invokevirtual 397, 3) := by decide +kernel
theorem dX12_work_214 : decode cX12_work 214 = .ok (.goto 64, 3) := by decide +kernel
theorem dX12_work_217 : decode cX12_work 217 = .ok (.iload 6, 2) := by decide +kernel
theorem dX12_work_219 : decode cX12_work 219 = .ok (.istore_n 3, 1) := by decide +kernel
theorem dX12_work_220 : decode cX12_work 220 = .ok (.iconst 0, 1) := by decide +kernel
theorem dX12_work_221 : decode cX12_work 221 = .ok (.istore 7, 2) := by decide +kernel
theorem dX12_work_223 : decode cX12_work 223 = .ok (.iload 7, 2) := by decide +kernel
theorem dX12_work_225 : decode cX12_work 225 = .ok (.aload_n 0, 1) := by decide +kernel
theorem dX12_work_226 : decode cX12_work 226 = .ok (.invokevirtual 346, 3) := by decide +kernel
theorem dX12_work_229 : decode cX12_work 229 = .ok (.if_icmp .ge 49, 3) := by decide +kernel
theorem dX12_work_232 : decode cX12_work 232 = .ok (.aload_n 0, 1) := by decide +kernel
theorem dX12_work_233 : decode cX12_work 233 = .ok (.getfield 83, 3) := by decide +kernel
theorem dX12_work_236 : decode cX12_work 236 = .ok (.iload_n 3, 1) := by decide +kernel
theorem dX12_work_237 : decode cX12_work 237 = .ok (.sipush 256, 3) := by decide +kernel
theorem dX12_work_240 : decode cX12_work 240 = .ok (.isub, 1) := by decide +kernel
theorem dX12_work_241 : decode cX12_work 241 = .ok (.iload 7, 2) := by decide +kernel
theorem dX12_work_243 : decode cX12_work 243 = .ok (.iadd, 1) := by decide +kernel
theorem dX12_work_244 : decode cX12_work 244 = .ok (.iload 5, 2) := by decide +kernel
theorem dX12_work_246 : decode cX12_work 246 = .ok (.aload_n 0, 1) := by decide +kernel
theorem dX12_work_247 : decode cX12_work 247 = .ok (.getfield 83, 3) := by decide +kernel
theorem dX12_work_250 : decode cX12_work 250 = .ok (.iload_n 3, 1) := by decide +kernel
theorem dX12_work_251 : decode cX12_work 251 = .ok (.sipush 256, 3) := by decide +kernel
theorem dX12_work_254 : decode cX12_work 254 = .ok (.isub, 1) := by decide +kernel
theorem dX12_work_255 : decode cX12_work 255 = .ok (.iload 7, 2) := by decide +kernel
theorem dX12_work_257 : decode cX12_work 257 = .ok (.iadd, 1) := by decide +kernel
theorem dX12_work_258 : decode cX12_work 258 = .ok (.iaload, 1) := by decide +kernel
theorem dX12_work_259 : decode cX12_work 259 = .ok (.aload_n 0, 1) := by decide +kernel
theorem dX12_work_260 : decode cX12_work 260 = .ok (.getfield 83, 3) := by decide +kernel
theorem dX12_work_263 : decode cX12_work 263 = .ok (.iload_n 3, 1) := by decide +kernel
theorem dX12_work_264 : decode cX12_work 264 = .ok (.iload 7, 2) := by decide +kernel
theorem dX12_work_266 : decode cX12_work 266 = .ok (.iadd, 1) := by decide +kernel
theorem dX12_work_267 : decode cX12_work 267 = .ok (.iaload, 1) := by decide +kernel
theorem dX12_work_268 : decode cX12_work 268 = .ok (.invokestatic 400, 3) := by decide +kernel
theorem dX12_work_271 : decode cX12_work 271 = .ok (.iastore, 1) := by decide +kernel
theorem dX12_work_272 : decode cX12_work 272 = .ok (.iinc 7 1, 3) := by decide +kernel
theorem dX12_work_275 : decode cX12_work 275 = .ok (.goto (-52), 3) := by decide +kernel
theorem dX12_work_278 : decode cX12_work 278 = .ok (.iinc 4 1, 3) := by decide +kernel
theorem dX12_work_281 : decode cX12_work 281 = .ok (.goto (-276), 3) := by decide +kernel
theorem dX12_work_284 : decode cX12_work 284 = .ok (.return_, 1) := by decide +kernel
theorem dX12_theTrue_0 : decode cX12_theTrue 0 = .ok (.aload_n 0, 1) := by decide +kernel
theorem dX12_theTrue_1 : decode cX12_theTrue 1 = .ok (.getfield 33, 3) := by decide +kernel
theorem dX12_theTrue_4 : decode cX12_theTrue 4 = .ok (.aload_n 0, 1) := by decide +kernel
theorem dX12_theTrue_5 : decode cX12_theTrue 5 = .ok (.getfield 261, 3) := by decide +kernel
theorem dX12_theTrue_8 : decode cX12_theTrue 8 = .ok (.iaload, 1) := by decide +kernel
theorem dX12_theTrue_9 : decode cX12_theTrue 9 = .ok (.ireturn, 1) := by decide +kernel
theorem dX12_ask_0 : decode cX12_ask 0 = .ok (.aload_n 0, 1) := by decide +kernel
theorem dX12_ask_1 : decode cX12_ask 1 = .ok (.invokevirtual 403, 3) := by decide +kernel
theorem dX12_ask_4 : decode cX12_ask 4 = .ok (.ifCond .ne 7, 3) := by decide +kernel
theorem dX12_ask_7 : decode cX12_ask 7 = .ok (.ldc_w 406, 3) := by decide +kernel
theorem dX12_ask_10 : decode cX12_ask 10 = .ok (.ireturn, 1) := by decide +kernel
theorem dX12_ask_11 : decode cX12_ask 11 = .ok (.aload_n 0, 1) := by decide +kernel
theorem dX12_ask_12 : decode cX12_ask 12 = .ok (.sipush 1400, 3) := by decide +kernel
theorem dX12_ask_15 : decode cX12_ask 15 = .ok (.aload_n 0, 1) := by decide +kernel
theorem dX12_ask_16 : decode cX12_ask 16 = .ok (.getfield 246, 3) := by decide +kernel
theorem dX12_ask_19 : decode cX12_ask 19 = .ok (.invokevirtual 407, 3) := by decide +kernel
theorem dX12_ask_22 : decode cX12_ask 22 = .ok (.aload_n 0, 1) := by decide +kernel
theorem dX12_ask_23 : decode cX12_ask 23 = .ok (.getfield 83, 3) := by decide +kernel
theorem dX12_ask_26 : decode cX12_ask 26 = .ok (.aload_n 0, 1) := by decide +kernel
theorem dX12_ask_27 : decode cX12_ask 27 = .ok (.invokevirtual 410, 3) := by decide +kernel
theorem dX12_ask_30 : decode cX12_ask 30 = .ok (.iaload, 1) := by decide +kernel
theorem dX12_ask_31 : decode cX12_ask 31 = .ok (.ireturn, 1) := by decide +kernel
theorem dX12_holds_0 : decode cX12_holds 0 = .ok (.aload_n 0, 1) := by decide +kernel
theorem dX12_holds_1 : decode cX12_holds 1 = .ok (.invokevirtual 403, 3) := by decide +kernel
theorem dX12_holds_4 : decode cX12_holds 4 = .ok (.ifCond .ne 5, 3) := by decide +kernel
theorem dX12_holds_7 : decode cX12_holds 7 = .ok (.iconst (-1), 1) := by decide +kernel
theorem dX12_holds_8 : decode cX12_holds 8 = .ok (.ireturn, 1) := by decide +kernel
theorem dX12_holds_9 : decode cX12_holds 9 = .ok (.aload_n 0, 1) := by decide +kernel
theorem dX12_holds_10 : decode cX12_holds 10 = .ok (.sipush 1400, 3) := by decide +kernel
theorem dX12_holds_13 : decode cX12_holds 13 = .ok (.aload_n 0, 1) := by decide +kernel
theorem dX12_holds_14 : decode cX12_holds 14 = .ok (.getfield 246, 3) := by decide +kernel
theorem dX12_holds_17 : decode cX12_holds 17 = .ok (.invokevirtual 407, 3) := by decide +kernel
theorem dX12_holds_20 : decode cX12_holds 20 = .ok (.iconst 0, 1) := by decide +kernel
theorem dX12_holds_21 : decode cX12_holds 21 = .ok (.istore_n 1, 1) := by decide +kernel
theorem dX12_holds_22 : decode cX12_holds 22 = .ok (.iconst 0, 1) := by decide +kernel
theorem dX12_holds_23 : decode cX12_holds 23 = .ok (.istore_n 2, 1) := by decide +kernel
theorem dX12_holds_24 : decode cX12_holds 24 = .ok (.iload_n 2, 1) := by decide +kernel
theorem dX12_holds_25 : decode cX12_holds 25 = .ok (.aload_n 0, 1) := by decide +kernel
theorem dX12_holds_26 : decode cX12_holds 26 = .ok (.invokevirtual 346, 3) := by decide +kernel
theorem dX12_holds_29 : decode cX12_holds 29 = .ok (.if_icmp .ge 35, 3) := by decide +kernel
theorem dX12_holds_32 : decode cX12_holds 32 = .ok (.iload_n 1, 1) := by decide +kernel
theorem dX12_holds_33 : decode cX12_holds 33 = .ok (.aload_n 0, 1) := by decide +kernel
theorem dX12_holds_34 : decode cX12_holds 34 = .ok (.getfield 74, 3) := by decide +kernel
theorem dX12_holds_37 : decode cX12_holds 37 = .ok (.iload_n 2, 1) := by decide +kernel
theorem dX12_holds_38 : decode cX12_holds 38 = .ok (.baload, 1) := by decide +kernel
theorem dX12_holds_39 : decode cX12_holds 39 = .ok (.ifCond .eq 16, 3) := by decide +kernel
theorem dX12_holds_42 : decode cX12_holds 42 = .ok (.aload_n 0, 1) := by decide +kernel
theorem dX12_holds_43 : decode cX12_holds 43 = .ok (.getfield 83, 3) := by decide +kernel
theorem dX12_holds_46 : decode cX12_holds 46 = .ok (.iload_n 2, 1) := by decide +kernel
theorem dX12_holds_47 : decode cX12_holds 47 = .ok (.iaload, 1) := by decide +kernel
theorem dX12_holds_48 : decode cX12_holds 48 = .ok (.ifCond .eq 7, 3) := by decide +kernel
theorem dX12_holds_51 : decode cX12_holds 51 = .ok (.iconst 1, 1) := by decide +kernel
theorem dX12_holds_52 : decode cX12_holds 52 = .ok (.goto 4, 3) := by decide +kernel
theorem dX12_holds_55 : decode cX12_holds 55 = .ok (.iconst 0, 1) := by decide +kernel
theorem dX12_holds_56 : decode cX12_holds 56 = .ok (.iadd, 1) := by decide +kernel
theorem dX12_holds_57 : decode cX12_holds 57 = .ok (.istore_n 1, 1) := by decide +kernel
theorem dX12_holds_58 : decode cX12_holds 58 = .ok (.iinc 2 1, 3) := by decide +kernel
theorem dX12_holds_61 : decode cX12_holds 61 = .ok (.goto (-37), 3) := by decide +kernel
theorem dX12_holds_64 : decode cX12_holds 64 = .ok (.iload_n 1, 1) := by decide +kernel
theorem dX12_holds_65 : decode cX12_holds 65 = .ok (.ireturn, 1) := by decide +kernel
theorem dX12_deep_0 : decode cX12_deep 0 = .ok (.aload_n 0, 1) := by decide +kernel
theorem dX12_deep_1 : decode cX12_deep 1 = .ok (.invokevirtual 403, 3) := by decide +kernel
theorem dX12_deep_4 : decode cX12_deep 4 = .ok (.ifCond .ne 7, 3) := by decide +kernel
theorem dX12_deep_7 : decode cX12_deep 7 = .ok (.ldc_w 406, 3) := by decide +kernel
theorem dX12_deep_10 : decode cX12_deep 10 = .ok (.ireturn, 1) := by decide +kernel
theorem dX12_deep_11 : decode cX12_deep 11 = .ok (.aload_n 0, 1) := by decide +kernel
theorem dX12_deep_12 : decode cX12_deep 12 = .ok (.sipush 1400, 3) := by decide +kernel
theorem dX12_deep_15 : decode cX12_deep 15 = .ok (.aload_n 0, 1) := by decide +kernel
theorem dX12_deep_16 : decode cX12_deep 16 = .ok (.getfield 246, 3) := by decide +kernel
theorem dX12_deep_19 : decode cX12_deep 19 = .ok (.invokevirtual 407, 3) := by decide +kernel
theorem dX12_deep_22 : decode cX12_deep 22 = .ok (.aload_n 0, 1) := by decide +kernel
theorem dX12_deep_23 : decode cX12_deep 23 = .ok (.invokevirtual 410, 3) := by decide +kernel
theorem dX12_deep_26 : decode cX12_deep 26 = .ok (.istore_n 1, 1) := by decide +kernel
theorem dX12_deep_27 : decode cX12_deep 27 = .ok (.aload_n 0, 1) := by decide +kernel
theorem dX12_deep_28 : decode cX12_deep 28 = .ok (.getfield 83, 3) := by decide +kernel
theorem dX12_deep_31 : decode cX12_deep 31 = .ok (.iload_n 1, 1) := by decide +kernel
theorem dX12_deep_32 : decode cX12_deep 32 = .ok (.iaload, 1) := by decide +kernel
theorem dX12_deep_33 : decode cX12_deep 33 = .ok (.ifCond .ne 5, 3) := by decide +kernel
theorem dX12_deep_36 : decode cX12_deep 36 = .ok (.iconst (-1), 1) := by decide +kernel
theorem dX12_deep_37 : decode cX12_deep 37 = .ok (.ireturn, 1) := by decide +kernel
theorem dX12_deep_38 : decode cX12_deep 38 = .ok (.aload_n 0, 1) := by decide +kernel
theorem dX12_deep_39 : decode cX12_deep 39 = .ok (.iload_n 1, 1) := by decide +kernel
theorem dX12_deep_40 : decode cX12_deep 40 = .ok (.invokevirtual 413, 3) := by decide +kernel
theorem dX12_deep_43 : decode cX12_deep 43 = .ok (.ifCond .eq 6, 3) := by decide +kernel
theorem dX12_deep_46 : decode cX12_deep 46 = .ok (.bipush 99, 2) := by decide +kernel
theorem dX12_deep_48 : decode cX12_deep 48 = .ok (.ireturn, 1) := by decide +kernel
theorem dX12_deep_49 : decode cX12_deep 49 = .ok (.iconst 0, 1) := by decide +kernel
theorem dX12_deep_50 : decode cX12_deep 50 = .ok (.istore_n 2, 1) := by decide +kernel
theorem dX12_deep_51 : decode cX12_deep 51 = .ok (.aload_n 0, 1) := by decide +kernel
theorem dX12_deep_52 : decode cX12_deep 52 = .ok (.iconst 0, 1) := by decide +kernel
theorem dX12_deep_53 : decode cX12_deep 53 = .ok (.invokevirtual 394, 3) := by decide +kernel
theorem dX12_deep_56 : decode cX12_deep 56 = .ok (.aload_n 0, 1) := by decide +kernel
theorem dX12_deep_57 : decode cX12_deep 57 = .ok (.getfield 83, 3) := by decide +kernel
theorem dX12_deep_60 : decode cX12_deep 60 = .ok (.iload_n 1, 1) := by decide +kernel
theorem dX12_deep_61 : decode cX12_deep 61 = .ok (.iaload, 1) := by decide +kernel
theorem dX12_deep_62 : decode cX12_deep 62 = .ok (.ifCond .eq 20, 3) := by decide +kernel
theorem dX12_deep_65 : decode cX12_deep 65 = .ok (.iload_n 2, 1) := by decide +kernel
theorem dX12_deep_66 : decode cX12_deep 66 = .ok (.bipush 98, 2) := by decide +kernel
theorem dX12_deep_68 : decode cX12_deep 68 = .ok (.if_icmp .ge 14, 3) := by decide +kernel
theorem dX12_deep_71 : decode cX12_deep 71 = .ok (.iinc 2 1, 3) := by decide +kernel
theorem dX12_deep_74 : decode cX12_deep 74 = .ok (.aload_n 0, 1) := by decide +kernel
theorem dX12_deep_75 : decode cX12_deep 75 = .ok (.iconst 0, 1) := by decide +kernel
theorem dX12_deep_76 : decode cX12_deep 76 = .ok (.invokevirtual 394, 3) := by decide +kernel
theorem dX12_deep_79 : decode cX12_deep 79 = .ok (.goto (-23), 3) := by decide +kernel
theorem dX12_deep_82 : decode cX12_deep 82 = .ok (.iload_n 2, 1) := by decide +kernel
theorem dX12_deep_83 : decode cX12_deep 83 = .ok (.ireturn, 1) := by decide +kernel
theorem dX12_strike_0 : decode cX12_strike 0 = .ok (.aload_n 0, 1) := by decide +kernel
theorem dX12_strike_1 : decode cX12_strike 1 = .ok (.getfield 83, 3) := by decide +kernel
theorem dX12_strike_4 : decode cX12_strike 4 = .ok (.aload_n 0, 1) := by decide +kernel
theorem dX12_strike_5 : decode cX12_strike 5 = .ok (.invokevirtual 410, 3) := by decide +kernel
theorem dX12_strike_8 : decode cX12_strike 8 = .ok (.iaload, 1) := by decide +kernel
theorem dX12_strike_9 : decode cX12_strike 9 = .ok (.ifCond .ne 5, 3) := by decide +kernel
theorem dX12_strike_12 : decode cX12_strike 12 = .ok (.iconst (-1), 1) := by decide +kernel
theorem dX12_strike_13 : decode cX12_strike 13 = .ok (.ireturn, 1) := by decide +kernel
theorem dX12_strike_14 : decode cX12_strike 14 = .ok (.aload_n 0, 1) := by decide +kernel
theorem dX12_strike_15 : decode cX12_strike 15 = .ok (.iconst 0, 1) := by decide +kernel
theorem dX12_strike_16 : decode cX12_strike 16 = .ok (.putfield 349, 3) := by decide +kernel
theorem dX12_strike_19 : decode cX12_strike 19 = .ok (.iconst 0, 1) := by decide +kernel
theorem dX12_strike_20 : decode cX12_strike 20 = .ok (.istore_n 1, 1) := by decide +kernel
theorem dX12_strike_21 : decode cX12_strike 21 = .ok (.iconst 0, 1) := by decide +kernel
theorem dX12_strike_22 : decode cX12_strike 22 = .ok (.istore_n 2, 1) := by decide +kernel
theorem dX12_strike_23 : decode cX12_strike 23 = .ok (.iload_n 2, 1) := by decide +kernel
theorem dX12_strike_24 : decode cX12_strike 24 = .ok (.aload_n 0, 1) := by decide +kernel
theorem dX12_strike_25 : decode cX12_strike 25 = .ok (.invokevirtual 346, 3) := by decide +kernel
theorem dX12_strike_28 : decode cX12_strike 28 = .ok (.if_icmp .ge 64, 3) := by decide +kernel
theorem dX12_strike_31 : decode cX12_strike 31 = .ok (.iload_n 1, 1) := by decide +kernel
theorem dX12_strike_32 : decode cX12_strike 32 = .ok (.aload_n 0, 1) := by decide +kernel
theorem dX12_strike_33 : decode cX12_strike 33 = .ok (.getfield 74, 3) := by decide +kernel
theorem dX12_strike_36 : decode cX12_strike 36 = .ok (.iload_n 2, 1) := by decide +kernel
theorem dX12_strike_37 : decode cX12_strike 37 = .ok (.baload, 1) := by decide +kernel
theorem dX12_strike_38 : decode cX12_strike 38 = .ok (.ifCond .eq 16, 3) := by decide +kernel
theorem dX12_strike_41 : decode cX12_strike 41 = .ok (.aload_n 0, 1) := by decide +kernel
theorem dX12_strike_42 : decode cX12_strike 42 = .ok (.getfield 83, 3) := by decide +kernel
theorem dX12_strike_45 : decode cX12_strike 45 = .ok (.iload_n 2, 1) := by decide +kernel
theorem dX12_strike_46 : decode cX12_strike 46 = .ok (.iaload, 1) := by decide +kernel
theorem dX12_strike_47 : decode cX12_strike 47 = .ok (.ifCond .ne 7, 3) := by decide +kernel
theorem dX12_strike_50 : decode cX12_strike 50 = .ok (.iconst 1, 1) := by decide +kernel
theorem dX12_strike_51 : decode cX12_strike 51 = .ok (.goto 4, 3) := by decide +kernel
theorem dX12_strike_54 : decode cX12_strike 54 = .ok (.iconst 0, 1) := by decide +kernel
theorem dX12_strike_55 : decode cX12_strike 55 = .ok (.iadd, 1) := by decide +kernel
theorem dX12_strike_56 : decode cX12_strike 56 = .ok (.istore_n 1, 1) := by decide +kernel
theorem dX12_strike_57 : decode cX12_strike 57 = .ok (.aload_n 0, 1) := by decide +kernel
theorem dX12_strike_58 : decode cX12_strike 58 = .ok (.getfield 74, 3) := by decide +kernel
theorem dX12_strike_61 : decode cX12_strike 61 = .ok (.iload_n 2, 1) := by decide +kernel
theorem dX12_strike_62 : decode cX12_strike 62 = .ok (.aload_n 0, 1) := by decide +kernel
theorem dX12_strike_63 : decode cX12_strike 63 = .ok (.getfield 74, 3) := by decide +kernel
theorem dX12_strike_66 : decode cX12_strike 66 = .ok (.iload_n 2, 1) := by decide +kernel
theorem dX12_strike_67 : decode cX12_strike 67 = .ok (.baload, 1) := by decide +kernel
theorem dX12_strike_68 : decode cX12_strike 68 = .ok (.ifCond .eq 16, 3) := by decide +kernel
theorem dX12_strike_71 : decode cX12_strike 71 = .ok (.aload_n 0, 1) := by decide +kernel
theorem dX12_strike_72 : decode cX12_strike 72 = .ok (.getfield 83, 3) := by decide +kernel
theorem dX12_strike_75 : decode cX12_strike 75 = .ok (.iload_n 2, 1) := by decide +kernel
theorem dX12_strike_76 : decode cX12_strike 76 = .ok (.iaload, 1) := by decide +kernel
theorem dX12_strike_77 : decode cX12_strike 77 = .ok (.ifCond .eq 7, 3) := by decide +kernel
theorem dX12_strike_80 : decode cX12_strike 80 = .ok (.iconst 1, 1) := by decide +kernel
theorem dX12_strike_81 : decode cX12_strike 81 = .ok (.goto 4, 3) := by decide +kernel
theorem dX12_strike_84 : decode cX12_strike 84 = .ok (.iconst 0, 1) := by decide +kernel
theorem dX12_strike_85 : decode cX12_strike 85 = .ok (.bastore, 1) := by decide +kernel
theorem dX12_strike_86 : decode cX12_strike 86 = .ok (.iinc 2 1, 3) := by decide +kernel
theorem dX12_strike_89 : decode cX12_strike 89 = .ok (.goto (-66), 3) := by decide +kernel
theorem dX12_strike_92 : decode cX12_strike 92 = .ok (.iload_n 1, 1) := by decide +kernel
theorem dX12_strike_93 : decode cX12_strike 93 = .ok (.ireturn, 1) := by decide +kernel
theorem dX12_say_0 : decode cX12_say 0 = .ok (.aload_n 0, 1) := by decide +kernel
theorem dX12_say_1 : decode cX12_say 1 = .ok (.invokevirtual 403, 3) := by decide +kernel
theorem dX12_say_4 : decode cX12_say 4 = .ok (.ifCond .ne 5, 3) := by decide +kernel
theorem dX12_say_7 : decode cX12_say 7 = .ok (.iconst (-1), 1) := by decide +kernel
theorem dX12_say_8 : decode cX12_say 8 = .ok (.ireturn, 1) := by decide +kernel
theorem dX12_say_9 : decode cX12_say 9 = .ok (.aload_n 0, 1) := by decide +kernel
theorem dX12_say_10 : decode cX12_say 10 = .ok (.sipush 1400, 3) := by decide +kernel
theorem dX12_say_13 : decode cX12_say 13 = .ok (.aload_n 0, 1) := by decide +kernel
theorem dX12_say_14 : decode cX12_say 14 = .ok (.getfield 246, 3) := by decide +kernel
theorem dX12_say_17 : decode cX12_say 17 = .ok (.invokevirtual 407, 3) := by decide +kernel
theorem dX12_say_20 : decode cX12_say 20 = .ok (.aload_n 0, 1) := by decide +kernel
theorem dX12_say_21 : decode cX12_say 21 = .ok (.invokevirtual 416, 3) := by decide +kernel
theorem dX12_say_24 : decode cX12_say 24 = .ok (.ireturn, 1) := by decide +kernel
theorem dX12_saying_0 : decode cX12_saying 0 = .ok (.iload_n 1, 1) := by decide +kernel
theorem dX12_saying_1 : decode cX12_saying 1 = .ok (.iconst 0, 1) := by decide +kernel
theorem dX12_saying_2 : decode cX12_saying 2 = .ok (.aload_n 0, 1) := by decide +kernel
theorem dX12_saying_3 : decode cX12_saying 3 = .ok (.getfield 27, 3) := by decide +kernel
theorem dX12_saying_6 : decode cX12_saying 6 = .ok (.aload_n 0, 1) := by decide +kernel
theorem dX12_saying_7 : decode cX12_saying 7 = .ok (.getfield 261, 3) := by decide +kernel
theorem dX12_saying_10 : decode cX12_saying 10 = .ok (.iaload, 1) := by decide +kernel
theorem dX12_saying_11 : decode cX12_saying 11 = .ok (.iconst 1, 1) := by decide +kernel
theorem dX12_saying_12 : decode cX12_saying 12 = .ok (.isub, 1) := by decide +kernel
theorem dX12_saying_13 : decode cX12_saying 13 = .ok (.invokestatic 342, 3) := by decide +kernel
theorem dX12_saying_16 : decode cX12_saying 16 = .ok (.ifCond .ne 5, 3) := by decide +kernel
theorem dX12_saying_19 : decode cX12_saying 19 = .ok (.iconst (-1), 1) := by decide +kernel
theorem dX12_saying_20 : decode cX12_saying 20 = .ok (.ireturn, 1) := by decide +kernel
theorem dX12_saying_21 : decode cX12_saying 21 = .ok (.aload_n 0, 1) := by decide +kernel
theorem dX12_saying_22 : decode cX12_saying 22 = .ok (.aload_n 0, 1) := by decide +kernel
theorem dX12_saying_23 : decode cX12_saying 23 = .ok (.getfield 39, 3) := by decide +kernel
theorem dX12_saying_26 : decode cX12_saying 26 = .ok (.bipush 6, 2) := by decide +kernel
theorem dX12_saying_28 : decode cX12_saying 28 = .ok (.aload_n 0, 1) := by decide +kernel
theorem dX12_saying_29 : decode cX12_saying 29 = .ok (.getfield 261, 3) := by decide +kernel
theorem dX12_saying_32 : decode cX12_saying 32 = .ok (.imul, 1) := by decide +kernel
theorem dX12_saying_33 : decode cX12_saying 33 = .ok (.iload_n 1, 1) := by decide +kernel
theorem dX12_saying_34 : decode cX12_saying 34 = .ok (.iadd, 1) := by decide +kernel
theorem dX12_saying_35 : decode cX12_saying 35 = .ok (.iaload, 1) := by decide +kernel
theorem dX12_saying_36 : decode cX12_saying 36 = .ok (.aload_n 0, 1) := by decide +kernel
theorem dX12_saying_37 : decode cX12_saying 37 = .ok (.getfield 42, 3) := by decide +kernel
theorem dX12_saying_40 : decode cX12_saying 40 = .ok (.bipush 6, 2) := by decide +kernel
theorem dX12_saying_42 : decode cX12_saying 42 = .ok (.aload_n 0, 1) := by decide +kernel
theorem dX12_saying_43 : decode cX12_saying 43 = .ok (.getfield 261, 3) := by decide +kernel
theorem dX12_saying_46 : decode cX12_saying 46 = .ok (.imul, 1) := by decide +kernel
theorem dX12_saying_47 : decode cX12_saying 47 = .ok (.iload_n 1, 1) := by decide +kernel
theorem dX12_saying_48 : decode cX12_saying 48 = .ok (.iadd, 1) := by decide +kernel
theorem dX12_saying_49 : decode cX12_saying 49 = .ok (.iaload, 1) := by decide +kernel
theorem dX12_saying_50 : decode cX12_saying 50 = .ok (.invokevirtual 407, 3) := by decide +kernel
theorem dX12_saying_53 : decode cX12_saying 53 = .ok (.aload_n 0, 1) := by decide +kernel
theorem dX12_saying_54 : decode cX12_saying 54 = .ok (.invokevirtual 416, 3) := by decide +kernel
theorem dX12_saying_57 : decode cX12_saying 57 = .ok (.ireturn, 1) := by decide +kernel
theorem dX12_whisper_0 : decode cX12_whisper 0 = .ok (.aload_n 0, 1) := by decide +kernel
theorem dX12_whisper_1 : decode cX12_whisper 1 = .ok (.invokevirtual 403, 3) := by decide +kernel
theorem dX12_whisper_4 : decode cX12_whisper 4 = .ok (.ifCond .eq 24, 3) := by decide +kernel
theorem dX12_whisper_7 : decode cX12_whisper 7 = .ok (.iload_n 1, 1) := by decide +kernel
theorem dX12_whisper_8 : decode cX12_whisper 8 = .ok (.ifCond .lt 20, 3) := by decide +kernel
theorem dX12_whisper_11 : decode cX12_whisper 11 = .ok (.iload_n 1, 1) := by decide +kernel
theorem dX12_whisper_12 : decode cX12_whisper 12 = .ok (.aload_n 0, 1) := by decide +kernel
theorem dX12_whisper_13 : decode cX12_whisper 13 = .ok (.invokevirtual 346, 3) := by decide +kernel
theorem dX12_whisper_16 : decode cX12_whisper 16 = .ok (.if_icmp .ge 12, 3) := by decide +kernel
theorem dX12_whisper_19 : decode cX12_whisper 19 = .ok (.aload_n 0, 1) := by decide +kernel
theorem dX12_whisper_20 : decode cX12_whisper 20 = .ok (.getfield 353, 3) := by decide +kernel
theorem dX12_whisper_23 : decode cX12_whisper 23 = .ok (.bipush 8, 2) := by decide +kernel
theorem dX12_whisper_25 : decode cX12_whisper 25 = .ok (.if_icmp .ne 5, 3) := by decide +kernel
theorem dX12_whisper_28 : decode cX12_whisper 28 = .ok (.iconst (-1), 1) := by decide +kernel
theorem dX12_whisper_29 : decode cX12_whisper 29 = .ok (.ireturn, 1) := by decide +kernel
theorem dX12_whisper_30 : decode cX12_whisper 30 = .ok (.aload_n 0, 1) := by decide +kernel
theorem dX12_whisper_31 : decode cX12_whisper 31 = .ok (.sipush 1400, 3) := by decide +kernel
theorem dX12_whisper_34 : decode cX12_whisper 34 = .ok (.aload_n 0, 1) := by decide +kernel
theorem dX12_whisper_35 : decode cX12_whisper 35 = .ok (.getfield 246, 3) := by decide +kernel
theorem dX12_whisper_38 : decode cX12_whisper 38 = .ok (.invokevirtual 407, 3) := by decide +kernel
theorem dX12_whisper_41 : decode cX12_whisper 41 = .ok (.iconst 0, 1) := by decide +kernel
theorem dX12_whisper_42 : decode cX12_whisper 42 = .ok (.istore_n 2, 1) := by decide +kernel
theorem dX12_whisper_43 : decode cX12_whisper 43 = .ok (.iload_n 2, 1) := by decide +kernel
theorem dX12_whisper_44 : decode cX12_whisper 44 = .ok (.aload_n 0, 1) := by decide +kernel
theorem dX12_whisper_45 : decode cX12_whisper 45 = .ok (.invokevirtual 346, 3) := by decide +kernel
theorem dX12_whisper_48 : decode cX12_whisper 48 = .ok (.if_icmp .ge 38, 3) := by decide +kernel
theorem dX12_whisper_51 : decode cX12_whisper 51 = .ok (.aload_n 0, 1) := by decide +kernel
theorem dX12_whisper_52 : decode cX12_whisper 52 = .ok (.getfield 77, 3) := by decide +kernel
theorem dX12_whisper_55 : decode cX12_whisper 55 = .ok (.sipush 256, 3) := by decide +kernel
theorem dX12_whisper_58 : decode cX12_whisper 58 = .ok (.aload_n 0, 1) := by decide +kernel
theorem dX12_whisper_59 : decode cX12_whisper 59 = .ok (.getfield 353, 3) := by decide +kernel
theorem dX12_whisper_62 : decode cX12_whisper 62 = .ok (.imul, 1) := by decide +kernel
theorem dX12_whisper_63 : decode cX12_whisper 63 = .ok (.iload_n 2, 1) := by decide +kernel
theorem dX12_whisper_64 : decode cX12_whisper 64 = .ok (.iadd, 1) := by decide +kernel
theorem dX12_whisper_65 : decode cX12_whisper 65 = .ok (.aload_n 0, 1) := by decide +kernel
theorem dX12_whisper_66 : decode cX12_whisper 66 = .ok (.getfield 83, 3) := by decide +kernel
theorem dX12_whisper_69 : decode cX12_whisper 69 = .ok (.iload_n 2, 1) := by decide +kernel
theorem dX12_whisper_70 : decode cX12_whisper 70 = .ok (.iaload, 1) := by decide +kernel
theorem dX12_whisper_71 : decode cX12_whisper 71 = .ok (.ifCond .eq 7, 3) := by decide +kernel
theorem dX12_whisper_74 : decode cX12_whisper 74 = .ok (.iconst 1, 1) := by decide +kernel
theorem dX12_whisper_75 : decode cX12_whisper 75 = .ok (.goto 4, 3) := by decide +kernel
theorem dX12_whisper_78 : decode cX12_whisper 78 = .ok (.iconst 0, 1) := by decide +kernel
theorem dX12_whisper_79 : decode cX12_whisper 79 = .ok (.bastore, 1) := by decide +kernel
theorem dX12_whisper_80 : decode cX12_whisper 80 = .ok (.iinc 2 1, 3) := by decide +kernel
theorem dX12_whisper_83 : decode cX12_whisper 83 = .ok (.goto (-40), 3) := by decide +kernel
theorem dX12_whisper_86 : decode cX12_whisper 86 = .ok (.aload_n 0, 1) := by decide +kernel
theorem dX12_whisper_87 : decode cX12_whisper 87 = .ok (.getfield 80, 3) := by decide +kernel
theorem dX12_whisper_90 : decode cX12_whisper 90 = .ok (.aload_n 0, 1) := by decide +kernel
theorem dX12_whisper_91 : decode cX12_whisper 91 = .ok (.getfield 353, 3) := by decide +kernel
theorem dX12_whisper_94 : decode cX12_whisper 94 = .ok (.iload_n 1, 1) := by decide +kernel
theorem dX12_whisper_95 : decode cX12_whisper 95 = .ok (.iastore, 1) := by decide +kernel
theorem dX12_whisper_96 : decode cX12_whisper 96 = .ok (.aload_n 0, 1) := by decide +kernel
theorem dX12_whisper_97 : decode cX12_whisper 97 = .ok (.dup, 1) := by decide +kernel
theorem dX12_whisper_98 : decode cX12_whisper 98 = .ok (.getfield 353, 3) := by decide +kernel
theorem dX12_whisper_101 : decode cX12_whisper 101 = .ok (.iconst 1, 1) := by decide +kernel
theorem dX12_whisper_102 : decode cX12_whisper 102 = .ok (.iadd, 1) := by decide +kernel
theorem dX12_whisper_103 : decode cX12_whisper 103 = .ok (.putfield 353, 3) := by decide +kernel
theorem dX12_whisper_106 : decode cX12_whisper 106 = .ok (.aload_n 0, 1) := by decide +kernel
theorem dX12_whisper_107 : decode cX12_whisper 107 = .ok (.iconst 0, 1) := by decide +kernel
theorem dX12_whisper_108 : decode cX12_whisper 108 = .ok (.putfield 349, 3) := by decide +kernel
theorem dX12_whisper_111 : decode cX12_whisper 111 = .ok (.aload_n 0, 1) := by decide +kernel
theorem dX12_whisper_112 : decode cX12_whisper 112 = .ok (.getfield 83, 3) := by decide +kernel
theorem dX12_whisper_115 : decode cX12_whisper 115 = .ok (.aload_n 0, 1) := by decide +kernel
theorem dX12_whisper_116 : decode cX12_whisper 116 = .ok (.invokevirtual 410, 3) := by decide +kernel
theorem dX12_whisper_119 : decode cX12_whisper 119 = .ok (.iaload, 1) := by decide +kernel
theorem dX12_whisper_120 : decode cX12_whisper 120 = .ok (.ifCond .eq 7, 3) := by decide +kernel
theorem dX12_whisper_123 : decode cX12_whisper 123 = .ok (.iconst 1, 1) := by decide +kernel
theorem dX12_whisper_124 : decode cX12_whisper 124 = .ok (.goto 4, 3) := by decide +kernel
theorem dX12_whisper_127 : decode cX12_whisper 127 = .ok (.iconst 0, 1) := by decide +kernel
theorem dX12_whisper_128 : decode cX12_whisper 128 = .ok (.ireturn, 1) := by decide +kernel
theorem dX12_goersIn_0 : decode cX12_goersIn 0 = .ok (.iconst 0, 1) := by decide +kernel
theorem dX12_goersIn_1 : decode cX12_goersIn 1 = .ok (.istore_n 2, 1) := by decide +kernel
theorem dX12_goersIn_2 : decode cX12_goersIn 2 = .ok (.iconst 0, 1) := by decide +kernel
theorem dX12_goersIn_3 : decode cX12_goersIn 3 = .ok (.istore_n 3, 1) := by decide +kernel
theorem dX12_goersIn_4 : decode cX12_goersIn 4 = .ok (.iload_n 3, 1) := by decide +kernel
theorem dX12_goersIn_5 : decode cX12_goersIn 5 = .ok (.aload_n 0, 1) := by decide +kernel
theorem dX12_goersIn_6 : decode cX12_goersIn 6 = .ok (.invokevirtual 339, 3) := by decide +kernel
theorem dX12_goersIn_9 : decode cX12_goersIn 9 = .ok (.if_icmp .ge 170, 3) := by decide +kernel
theorem dX12_goersIn_12 : decode cX12_goersIn 12 = .ok (.aload_n 0, 1) := by decide +kernel
theorem dX12_goersIn_13 : decode cX12_goersIn 13 = .ok (.getfield 359, 3) := by decide +kernel
theorem dX12_goersIn_16 : decode cX12_goersIn 16 = .ok (.iload_n 3, 1) := by decide +kernel
theorem dX12_goersIn_17 : decode cX12_goersIn 17 = .ok (.ishr, 1) := by decide +kernel
theorem dX12_goersIn_18 : decode cX12_goersIn 18 = .ok (.iconst 1, 1) := by decide +kernel
theorem dX12_goersIn_19 : decode cX12_goersIn 19 = .ok (.iand, 1) := by decide +kernel
theorem dX12_goersIn_20 : decode cX12_goersIn 20 = .ok (.iconst 1, 1) := by decide +kernel
theorem dX12_goersIn_21 : decode cX12_goersIn 21 = .ok (.if_icmp .eq 152, 3) := by decide +kernel
theorem dX12_goersIn_24 : decode cX12_goersIn 24 = .ok (.aload_n 0, 1) := by decide +kernel
theorem dX12_goersIn_25 : decode cX12_goersIn 25 = .ok (.getfield 52, 3) := by decide +kernel
theorem dX12_goersIn_28 : decode cX12_goersIn 28 = .ok (.bipush 8, 2) := by decide +kernel
theorem dX12_goersIn_30 : decode cX12_goersIn 30 = .ok (.aload_n 0, 1) := by decide +kernel
theorem dX12_goersIn_31 : decode cX12_goersIn 31 = .ok (.getfield 261, 3) := by decide +kernel
theorem dX12_goersIn_34 : decode cX12_goersIn 34 = .ok (.imul, 1) := by decide +kernel
theorem dX12_goersIn_35 : decode cX12_goersIn 35 = .ok (.iload_n 3, 1) := by decide +kernel
theorem dX12_goersIn_36 : decode cX12_goersIn 36 = .ok (.iadd, 1) := by decide +kernel
theorem dX12_goersIn_37 : decode cX12_goersIn 37 = .ok (.baload, 1) := by decide +kernel
theorem dX12_goersIn_38 : decode cX12_goersIn 38 = .ok (.ifCond .eq 6, 3) := by decide +kernel
theorem dX12_goersIn_41 : decode cX12_goersIn 41 = .ok (.goto 132, 3) := by decide +kernel
theorem dX12_goersIn_44 : decode cX12_goersIn 44 = .ok (.iconst 1, 1) := by decide +kernel
theorem dX12_goersIn_45 : decode cX12_goersIn 45 = .ok (.istore 4, 2) := by decide +kernel
theorem dX12_goersIn_47 : decode cX12_goersIn 47 = .ok (.iconst 1, 1) := by decide +kernel
theorem dX12_goersIn_48 : decode cX12_goersIn 48 = .ok (.istore 5, 2) := by decide +kernel
theorem dX12_goersIn_50 : decode cX12_goersIn 50 = .ok (.iconst 0, 1) := by decide +kernel
theorem dX12_goersIn_51 : decode cX12_goersIn 51 = .ok (.istore 6, 2) := by decide +kernel
theorem dX12_goersIn_53 : decode cX12_goersIn 53 = .ok (.iload 6, 2) := by decide +kernel
theorem dX12_goersIn_55 : decode cX12_goersIn 55 = .ok (.aload_n 0, 1) := by decide +kernel
theorem dX12_goersIn_56 : decode cX12_goersIn 56 = .ok (.invokevirtual 346, 3) := by decide +kernel
theorem dX12_goersIn_59 : decode cX12_goersIn 59 = .ok (.if_icmp .ge 86, 3) := by decide +kernel
theorem dX12_goersIn_62 : decode cX12_goersIn 62 = .ok (.iload 4, 2) := by decide +kernel
theorem dX12_goersIn_64 : decode cX12_goersIn 64 = .ok (.ifCond .ne 8, 3) := by decide +kernel
theorem dX12_goersIn_67 : decode cX12_goersIn 67 = .ok (.iload 5, 2) := by decide +kernel
theorem dX12_goersIn_69 : decode cX12_goersIn 69 = .ok (.ifCond .eq 76, 3) := by decide +kernel
theorem dX12_goersIn_72 : decode cX12_goersIn 72 = .ok (.aload_n 0, 1) := by decide +kernel
theorem dX12_goersIn_73 : decode cX12_goersIn 73 = .ok (.getfield 74, 3) := by decide +kernel
theorem dX12_goersIn_76 : decode cX12_goersIn 76 = .ok (.iload 6, 2) := by decide +kernel
theorem dX12_goersIn_78 : decode cX12_goersIn 78 = .ok (.baload, 1) := by decide +kernel
theorem dX12_goersIn_79 : decode cX12_goersIn 79 = .ok (.ifCond .eq 60, 3) := by decide +kernel
theorem dX12_goersIn_82 : decode cX12_goersIn 82 = .ok (.aload_n 0, 1) := by decide +kernel
theorem dX12_goersIn_83 : decode cX12_goersIn 83 = .ok (.iload_n 3, 1) := by decide +kernel
theorem dX12_goersIn_84 : decode cX12_goersIn 84 = .ok (.iload_n 1, 1) := by decide +kernel
theorem dX12_goersIn_85 : decode cX12_goersIn 85 = .ok (.iload 6, 2) := by decide +kernel
theorem dX12_goersIn_87 : decode cX12_goersIn 87 = .ok (.invokevirtual 371, 3) := by decide +kernel
theorem dX12_goersIn_90 : decode cX12_goersIn 90 = .ok (.ifCond .ne 6, 3) := by decide +kernel
theorem dX12_goersIn_93 : decode cX12_goersIn 93 = .ok (.goto 46, 3) := by decide +kernel
theorem dX12_goersIn_96 : decode cX12_goersIn 96 = .ok (.iload 4, 2) := by decide +kernel
theorem dX12_goersIn_98 : decode cX12_goersIn 98 = .ok (.ifCond .eq 17, 3) := by decide +kernel
theorem dX12_goersIn_101 : decode cX12_goersIn 101 = .ok (.iload 6, 2) := by decide +kernel
theorem dX12_goersIn_103 : decode cX12_goersIn 103 = .ok (.iload_n 3, 1) := by decide +kernel
theorem dX12_goersIn_104 : decode cX12_goersIn 104 = .ok (.ishr, 1) := by decide +kernel
theorem dX12_goersIn_105 : decode cX12_goersIn 105 = .ok (.iconst 1, 1) := by decide +kernel
theorem dX12_goersIn_106 : decode cX12_goersIn 106 = .ok (.iand, 1) := by decide +kernel
theorem dX12_goersIn_107 : decode cX12_goersIn 107 = .ok (.iconst 1, 1) := by decide +kernel
theorem dX12_goersIn_108 : decode cX12_goersIn 108 = .ok (.if_icmp .ne 7, 3) := by decide +kernel
theorem dX12_goersIn_111 : decode cX12_goersIn 111 = .ok (.iconst 1, 1) := by decide +kernel
theorem dX12_goersIn_112 : decode cX12_goersIn 112 = .ok (.goto 4, 3) := by decide +kernel
theorem dX12_goersIn_115 : decode cX12_goersIn 115 = .ok (.iconst 0, 1) := by decide +kernel
theorem dX12_goersIn_116 : decode cX12_goersIn 116 = .ok (.istore 4, 2) := by decide +kernel
theorem dX12_goersIn_118 : decode cX12_goersIn 118 = .ok (.iload 5, 2) := by decide +kernel
theorem dX12_goersIn_120 : decode cX12_goersIn 120 = .ok (.ifCond .eq 16, 3) := by decide +kernel
theorem dX12_goersIn_123 : decode cX12_goersIn 123 = .ok (.iload 6, 2) := by decide +kernel
theorem dX12_goersIn_125 : decode cX12_goersIn 125 = .ok (.iload_n 3, 1) := by decide +kernel
theorem dX12_goersIn_126 : decode cX12_goersIn 126 = .ok (.ishr, 1) := by decide +kernel
theorem dX12_goersIn_127 : decode cX12_goersIn 127 = .ok (.iconst 1, 1) := by decide +kernel
theorem dX12_goersIn_128 : decode cX12_goersIn 128 = .ok (.iand, 1) := by decide +kernel
theorem dX12_goersIn_129 : decode cX12_goersIn 129 = .ok (.ifCond .ne 7, 3) := by decide +kernel
theorem dX12_goersIn_132 : decode cX12_goersIn 132 = .ok (.iconst 1, 1) := by decide +kernel
theorem dX12_goersIn_133 : decode cX12_goersIn 133 = .ok (.goto 4, 3) := by decide +kernel
theorem dX12_goersIn_136 : decode cX12_goersIn 136 = .ok (.iconst 0, 1) := by decide +kernel
theorem dX12_goersIn_137 : decode cX12_goersIn 137 = .ok (.istore 5, 2) := by decide +kernel
theorem dX12_goersIn_139 : decode cX12_goersIn 139 = .ok (.iinc 6 1, 3) := by decide +kernel
theorem dX12_goersIn_142 : decode cX12_goersIn 142 = .ok (.goto (-89), 3) := by decide +kernel
theorem dX12_goersIn_145 : decode cX12_goersIn 145 = .ok (.iload 4, 2) := by decide +kernel
theorem dX12_goersIn_147 : decode cX12_goersIn 147 = .ok (.ifCond .ne 20, 3) := by decide +kernel
theorem dX12_goersIn_150 : decode cX12_goersIn 150 = .ok (.iload 5, 2) := by decide +kernel
theorem dX12_goersIn_152 : decode cX12_goersIn 152 = .ok (.ifCond .eq 21, 3) := by decide +kernel
theorem dX12_goersIn_155 : decode cX12_goersIn 155 = .ok (.aload_n 0, 1) := by decide +kernel
theorem dX12_goersIn_156 : decode cX12_goersIn 156 = .ok (.getfield 45, 3) := by decide +kernel
theorem dX12_goersIn_159 : decode cX12_goersIn 159 = .ok (.aload_n 0, 1) := by decide +kernel
theorem dX12_goersIn_160 : decode cX12_goersIn 160 = .ok (.getfield 261, 3) := by decide +kernel
theorem dX12_goersIn_163 : decode cX12_goersIn 163 = .ok (.baload, 1) := by decide +kernel
theorem dX12_goersIn_164 : decode cX12_goersIn 164 = .ok (.ifCond .eq 9, 3) := by decide +kernel
theorem dX12_goersIn_167 : decode cX12_goersIn 167 = .ok (.iload_n 2, 1) := by decide +kernel
theorem dX12_goersIn_168 : decode cX12_goersIn 168 = .ok (.iconst 1, 1) := by decide +kernel
theorem dX12_goersIn_169 : decode cX12_goersIn 169 = .ok (.iload_n 3, 1) := by decide +kernel
theorem dX12_goersIn_170 : decode cX12_goersIn 170 = .ok (.ishl, 1) := by decide +kernel
theorem dX12_goersIn_171 : decode cX12_goersIn 171 = .ok (.ior, 1) := by decide +kernel
theorem dX12_goersIn_172 : decode cX12_goersIn 172 = .ok (.istore_n 2, 1) := by decide +kernel
theorem dX12_goersIn_173 : decode cX12_goersIn 173 = .ok (.iinc 3 1, 3) := by decide +kernel
theorem dX12_goersIn_176 : decode cX12_goersIn 176 = .ok (.goto (-172), 3) := by decide +kernel
theorem dX12_goersIn_179 : decode cX12_goersIn 179 = .ok (.iload_n 2, 1) := by decide +kernel
theorem dX12_goersIn_180 : decode cX12_goersIn 180 = .ok (.ireturn, 1) := by decide +kernel
theorem dX12_oneNight_0 : decode cX12_oneNight 0 = .ok (.iconst 0, 1) := by decide +kernel
theorem dX12_oneNight_1 : decode cX12_oneNight 1 = .ok (.istore_n 1, 1) := by decide +kernel
theorem dX12_oneNight_2 : decode cX12_oneNight 2 = .ok (.iload_n 1, 1) := by decide +kernel
theorem dX12_oneNight_3 : decode cX12_oneNight 3 = .ok (.aload_n 0, 1) := by decide +kernel
theorem dX12_oneNight_4 : decode cX12_oneNight 4 = .ok (.invokevirtual 346, 3) := by decide +kernel
theorem dX12_oneNight_7 : decode cX12_oneNight 7 = .ok (.if_icmp .ge 29, 3) := by decide +kernel
theorem dX12_oneNight_10 : decode cX12_oneNight 10 = .ok (.aload_n 0, 1) := by decide +kernel
theorem dX12_oneNight_11 : decode cX12_oneNight 11 = .ok (.getfield 74, 3) := by decide +kernel
theorem dX12_oneNight_14 : decode cX12_oneNight 14 = .ok (.iload_n 1, 1) := by decide +kernel
theorem dX12_oneNight_15 : decode cX12_oneNight 15 = .ok (.baload, 1) := by decide +kernel
theorem dX12_oneNight_16 : decode cX12_oneNight 16 = .ok (.ifCond .eq 14, 3) := by decide +kernel
theorem dX12_oneNight_19 : decode cX12_oneNight 19 = .ok (.aload_n 0, 1) := by decide +kernel
theorem dX12_oneNight_20 : decode cX12_oneNight 20 = .ok (.getfield 98, 3) := by decide +kernel
theorem dX12_oneNight_23 : decode cX12_oneNight 23 = .ok (.iload_n 1, 1) := by decide +kernel
theorem dX12_oneNight_24 : decode cX12_oneNight 24 = .ok (.aload_n 0, 1) := by decide +kernel
theorem dX12_oneNight_25 : decode cX12_oneNight 25 = .ok (.iload_n 1, 1) := by decide +kernel
theorem dX12_oneNight_26 : decode cX12_oneNight 26 = .ok (.invokevirtual 419, 3) := by decide +kernel
theorem dX12_oneNight_29 : decode cX12_oneNight 29 = .ok (.iastore, 1) := by decide +kernel
theorem dX12_oneNight_30 : decode cX12_oneNight 30 = .ok (.iinc 1 1, 3) := by decide +kernel
theorem dX12_oneNight_33 : decode cX12_oneNight 33 = .ok (.goto (-31), 3) := by decide +kernel
theorem dX12_oneNight_36 : decode cX12_oneNight 36 = .ok (.aload_n 0, 1) := by decide +kernel
theorem dX12_oneNight_37 : decode cX12_oneNight 37 = .ok (.getfield 98, 3) := by decide +kernel
theorem dX12_oneNight_40 : decode cX12_oneNight 40 = .ok (.aload_n 0, 1) := by decide +kernel
theorem dX12_oneNight_41 : decode cX12_oneNight 41 = .ok (.invokevirtual 410, 3) := by decide +kernel
theorem dX12_oneNight_44 : decode cX12_oneNight 44 = .ok (.iaload, 1) := by decide +kernel
theorem dX12_oneNight_45 : decode cX12_oneNight 45 = .ok (.istore_n 1, 1) := by decide +kernel
theorem dX12_oneNight_46 : decode cX12_oneNight 46 = .ok (.aload_n 0, 1) := by decide +kernel
theorem dX12_oneNight_47 : decode cX12_oneNight 47 = .ok (.iconst 0, 1) := by decide +kernel
theorem dX12_oneNight_48 : decode cX12_oneNight 48 = .ok (.putfield 349, 3) := by decide +kernel
theorem dX12_oneNight_51 : decode cX12_oneNight 51 = .ok (.aload_n 0, 1) := by decide +kernel
theorem dX12_oneNight_52 : decode cX12_oneNight 52 = .ok (.iconst 0, 1) := by decide +kernel
theorem dX12_oneNight_53 : decode cX12_oneNight 53 = .ok (.putfield 422, 3) := by decide +kernel
theorem dX12_oneNight_56 : decode cX12_oneNight 56 = .ok (.iconst 0, 1) := by decide +kernel
theorem dX12_oneNight_57 : decode cX12_oneNight 57 = .ok (.istore_n 2, 1) := by decide +kernel
theorem dX12_oneNight_58 : decode cX12_oneNight 58 = .ok (.iload_n 2, 1) := by decide +kernel
theorem dX12_oneNight_59 : decode cX12_oneNight 59 = .ok (.aload_n 0, 1) := by decide +kernel
theorem dX12_oneNight_60 : decode cX12_oneNight 60 = .ok (.invokevirtual 346, 3) := by decide +kernel
theorem dX12_oneNight_63 : decode cX12_oneNight 63 = .ok (.if_icmp .ge 48, 3) := by decide +kernel
theorem dX12_oneNight_66 : decode cX12_oneNight 66 = .ok (.aload_n 0, 1) := by decide +kernel
theorem dX12_oneNight_67 : decode cX12_oneNight 67 = .ok (.getfield 74, 3) := by decide +kernel
theorem dX12_oneNight_70 : decode cX12_oneNight 70 = .ok (.iload_n 2, 1) := by decide +kernel
theorem dX12_oneNight_71 : decode cX12_oneNight 71 = .ok (.baload, 1) := by decide +kernel
theorem dX12_oneNight_72 : decode cX12_oneNight 72 = .ok (.ifCond .eq 33, 3) := by decide +kernel
theorem dX12_oneNight_75 : decode cX12_oneNight 75 = .ok (.aload_n 0, 1) := by decide +kernel
theorem dX12_oneNight_76 : decode cX12_oneNight 76 = .ok (.getfield 98, 3) := by decide +kernel
theorem dX12_oneNight_79 : decode cX12_oneNight 79 = .ok (.iload_n 2, 1) := by decide +kernel
theorem dX12_oneNight_80 : decode cX12_oneNight 80 = .ok (.iaload, 1) := by decide +kernel
theorem dX12_oneNight_81 : decode cX12_oneNight 81 = .ok (.iload_n 1, 1) := by decide +kernel
theorem dX12_oneNight_82 : decode cX12_oneNight 82 = .ok (.if_icmp .ne 6, 3) := by decide +kernel
theorem dX12_oneNight_85 : decode cX12_oneNight 85 = .ok (.goto 20, 3) := by decide +kernel
theorem dX12_oneNight_88 : decode cX12_oneNight 88 = .ok (.aload_n 0, 1) := by decide +kernel
theorem dX12_oneNight_89 : decode cX12_oneNight 89 = .ok (.getfield 74, 3) := by decide +kernel
theorem dX12_oneNight_92 : decode cX12_oneNight 92 = .ok (.iload_n 2, 1) := by decide +kernel
theorem dX12_oneNight_93 : decode cX12_oneNight 93 = .ok (.iconst 0, 1) := by decide +kernel
theorem dX12_oneNight_94 : decode cX12_oneNight 94 = .ok (.bastore, 1) := by decide +kernel
theorem dX12_oneNight_95 : decode cX12_oneNight 95 = .ok (.aload_n 0, 1) := by decide +kernel
theorem dX12_oneNight_96 : decode cX12_oneNight 96 = .ok (.dup, 1) := by decide +kernel
theorem dX12_oneNight_97 : decode cX12_oneNight 97 = .ok (.getfield 422, 3) := by decide +kernel
theorem dX12_oneNight_100 : decode cX12_oneNight 100 = .ok (.iconst 1, 1) := by decide +kernel
theorem dX12_oneNight_101 : decode cX12_oneNight 101 = .ok (.iadd, 1) := by decide +kernel
theorem dX12_oneNight_102 : decode cX12_oneNight 102 = .ok (.putfield 422, 3) := by decide +kernel
theorem dX12_oneNight_105 : decode cX12_oneNight 105 = .ok (.iinc 2 1, 3) := by decide +kernel
theorem dX12_oneNight_108 : decode cX12_oneNight 108 = .ok (.goto (-50), 3) := by decide +kernel
theorem dX12_oneNight_111 : decode cX12_oneNight 111 = .ok (.aload_n 0, 1) := by decide +kernel
theorem dX12_oneNight_112 : decode cX12_oneNight 112 = .ok (.dup, 1) := by decide +kernel
theorem dX12_oneNight_113 : decode cX12_oneNight 113 = .ok (.getfield 359, 3) := by decide +kernel
theorem dX12_oneNight_116 : decode cX12_oneNight 116 = .ok (.iload_n 1, 1) := by decide +kernel
theorem dX12_oneNight_117 : decode cX12_oneNight 117 = .ok (.ior, 1) := by decide +kernel
theorem dX12_oneNight_118 : decode cX12_oneNight 118 = .ok (.putfield 359, 3) := by decide +kernel
theorem dX12_oneNight_121 : decode cX12_oneNight 121 = .ok (.aload_n 0, 1) := by decide +kernel
theorem dX12_oneNight_122 : decode cX12_oneNight 122 = .ok (.dup, 1) := by decide +kernel
theorem dX12_oneNight_123 : decode cX12_oneNight 123 = .ok (.getfield 356, 3) := by decide +kernel
theorem dX12_oneNight_126 : decode cX12_oneNight 126 = .ok (.iconst 1, 1) := by decide +kernel
theorem dX12_oneNight_127 : decode cX12_oneNight 127 = .ok (.iadd, 1) := by decide +kernel
theorem dX12_oneNight_128 : decode cX12_oneNight 128 = .ok (.putfield 356, 3) := by decide +kernel
theorem dX12_oneNight_131 : decode cX12_oneNight 131 = .ok (.iload_n 1, 1) := by decide +kernel
theorem dX12_oneNight_132 : decode cX12_oneNight 132 = .ok (.ireturn, 1) := by decide +kernel
theorem dX12_night_0 : decode cX12_night 0 = .ok (.aload_n 0, 1) := by decide +kernel
theorem dX12_night_1 : decode cX12_night 1 = .ok (.getfield 356, 3) := by decide +kernel
theorem dX12_night_4 : decode cX12_night 4 = .ok (.sipush 300, 3) := by decide +kernel
theorem dX12_night_7 : decode cX12_night 7 = .ok (.if_icmp .ne 7, 3) := by decide +kernel
theorem dX12_night_10 : decode cX12_night 10 = .ok (.iconst (-1), 1) := by decide +kernel
theorem dX12_night_11 : decode cX12_night 11 = .ok (.goto 7, 3) := by decide +kernel
theorem dX12_night_14 : decode cX12_night 14 = .ok (.aload_n 0, 1) := by decide +kernel
theorem dX12_night_15 : decode cX12_night 15 = .ok (.invokevirtual 425, 3) := by decide +kernel
theorem dX12_night_18 : decode cX12_night 18 = .ok (.ireturn, 1) := by decide +kernel
theorem dX12_gone_0 : decode cX12_gone 0 = .ok (.aload_n 0, 1) := by decide +kernel
theorem dX12_gone_1 : decode cX12_gone 1 = .ok (.getfield 359, 3) := by decide +kernel
theorem dX12_gone_4 : decode cX12_gone 4 = .ok (.ireturn, 1) := by decide +kernel
theorem dX12_own_0 : decode cX12_own 0 = .ok (.aload_n 0, 1) := by decide +kernel
theorem dX12_own_1 : decode cX12_own 1 = .ok (.iload_n 1, 1) := by decide +kernel
theorem dX12_own_2 : decode cX12_own 2 = .ok (.invokevirtual 365, 3) := by decide +kernel
theorem dX12_own_5 : decode cX12_own 5 = .ok (.ifCond .ne 5, 3) := by decide +kernel
theorem dX12_own_8 : decode cX12_own 8 = .ok (.iconst (-1), 1) := by decide +kernel
theorem dX12_own_9 : decode cX12_own 9 = .ok (.ireturn, 1) := by decide +kernel
theorem dX12_own_10 : decode cX12_own 10 = .ok (.iconst 1, 1) := by decide +kernel
theorem dX12_own_11 : decode cX12_own 11 = .ok (.istore_n 2, 1) := by decide +kernel
theorem dX12_own_12 : decode cX12_own 12 = .ok (.iconst 1, 1) := by decide +kernel
theorem dX12_own_13 : decode cX12_own 13 = .ok (.istore_n 3, 1) := by decide +kernel
theorem dX12_own_14 : decode cX12_own 14 = .ok (.iconst 0, 1) := by decide +kernel
theorem dX12_own_15 : decode cX12_own 15 = .ok (.istore 4, 2) := by decide +kernel
theorem dX12_own_17 : decode cX12_own 17 = .ok (.iload 4, 2) := by decide +kernel
theorem dX12_own_19 : decode cX12_own 19 = .ok (.aload_n 0, 1) := by decide +kernel
theorem dX12_own_20 : decode cX12_own 20 = .ok (.invokevirtual 346, 3) := by decide +kernel
theorem dX12_own_23 : decode cX12_own 23 = .ok (.if_icmp .ge 75, 3) := by decide +kernel
theorem dX12_own_26 : decode cX12_own 26 = .ok (.aload_n 0, 1) := by decide +kernel
theorem dX12_own_27 : decode cX12_own 27 = .ok (.getfield 74, 3) := by decide +kernel
theorem dX12_own_30 : decode cX12_own 30 = .ok (.iload 4, 2) := by decide +kernel
theorem dX12_own_32 : decode cX12_own 32 = .ok (.baload, 1) := by decide +kernel
theorem dX12_own_33 : decode cX12_own 33 = .ok (.ifCond .eq 59, 3) := by decide +kernel
theorem dX12_own_36 : decode cX12_own 36 = .ok (.aload_n 0, 1) := by decide +kernel
theorem dX12_own_37 : decode cX12_own 37 = .ok (.iload_n 1, 1) := by decide +kernel
theorem dX12_own_38 : decode cX12_own 38 = .ok (.aload_n 0, 1) := by decide +kernel
theorem dX12_own_39 : decode cX12_own 39 = .ok (.invokevirtual 410, 3) := by decide +kernel
theorem dX12_own_42 : decode cX12_own 42 = .ok (.iload 4, 2) := by decide +kernel
theorem dX12_own_44 : decode cX12_own 44 = .ok (.invokevirtual 371, 3) := by decide +kernel
theorem dX12_own_47 : decode cX12_own 47 = .ok (.ifCond .ne 6, 3) := by decide +kernel
theorem dX12_own_50 : decode cX12_own 50 = .ok (.goto 42, 3) := by decide +kernel
theorem dX12_own_53 : decode cX12_own 53 = .ok (.iload_n 2, 1) := by decide +kernel
theorem dX12_own_54 : decode cX12_own 54 = .ok (.ifCond .eq 17, 3) := by decide +kernel
theorem dX12_own_57 : decode cX12_own 57 = .ok (.iload 4, 2) := by decide +kernel
theorem dX12_own_59 : decode cX12_own 59 = .ok (.iload_n 1, 1) := by decide +kernel
theorem dX12_own_60 : decode cX12_own 60 = .ok (.ishr, 1) := by decide +kernel
theorem dX12_own_61 : decode cX12_own 61 = .ok (.iconst 1, 1) := by decide +kernel
theorem dX12_own_62 : decode cX12_own 62 = .ok (.iand, 1) := by decide +kernel
theorem dX12_own_63 : decode cX12_own 63 = .ok (.iconst 1, 1) := by decide +kernel
theorem dX12_own_64 : decode cX12_own 64 = .ok (.if_icmp .ne 7, 3) := by decide +kernel
theorem dX12_own_67 : decode cX12_own 67 = .ok (.iconst 1, 1) := by decide +kernel
theorem dX12_own_68 : decode cX12_own 68 = .ok (.goto 4, 3) := by decide +kernel
theorem dX12_own_71 : decode cX12_own 71 = .ok (.iconst 0, 1) := by decide +kernel
theorem dX12_own_72 : decode cX12_own 72 = .ok (.istore_n 2, 1) := by decide +kernel
theorem dX12_own_73 : decode cX12_own 73 = .ok (.iload_n 3, 1) := by decide +kernel
theorem dX12_own_74 : decode cX12_own 74 = .ok (.ifCond .eq 16, 3) := by decide +kernel
theorem dX12_own_77 : decode cX12_own 77 = .ok (.iload 4, 2) := by decide +kernel
theorem dX12_own_79 : decode cX12_own 79 = .ok (.iload_n 1, 1) := by decide +kernel
theorem dX12_own_80 : decode cX12_own 80 = .ok (.ishr, 1) := by decide +kernel
theorem dX12_own_81 : decode cX12_own 81 = .ok (.iconst 1, 1) := by decide +kernel
theorem dX12_own_82 : decode cX12_own 82 = .ok (.iand, 1) := by decide +kernel
theorem dX12_own_83 : decode cX12_own 83 = .ok (.ifCond .ne 7, 3) := by decide +kernel
theorem dX12_own_86 : decode cX12_own 86 = .ok (.iconst 1, 1) := by decide +kernel
theorem dX12_own_87 : decode cX12_own 87 = .ok (.goto 4, 3) := by decide +kernel
theorem dX12_own_90 : decode cX12_own 90 = .ok (.iconst 0, 1) := by decide +kernel
theorem dX12_own_91 : decode cX12_own 91 = .ok (.istore_n 3, 1) := by decide +kernel
theorem dX12_own_92 : decode cX12_own 92 = .ok (.iinc 4 1, 3) := by decide +kernel
theorem dX12_own_95 : decode cX12_own 95 = .ok (.goto (-78), 3) := by decide +kernel
theorem dX12_own_98 : decode cX12_own 98 = .ok (.iload_n 2, 1) := by decide +kernel
theorem dX12_own_99 : decode cX12_own 99 = .ok (.ifCond .eq 7, 3) := by decide +kernel
theorem dX12_own_102 : decode cX12_own 102 = .ok (.iconst 1, 1) := by decide +kernel
theorem dX12_own_103 : decode cX12_own 103 = .ok (.goto 13, 3) := by decide +kernel
theorem dX12_own_106 : decode cX12_own 106 = .ok (.iload_n 3, 1) := by decide +kernel
theorem dX12_own_107 : decode cX12_own 107 = .ok (.ifCond .eq 7, 3) := by decide +kernel
theorem dX12_own_110 : decode cX12_own 110 = .ok (.iconst 0, 1) := by decide +kernel
theorem dX12_own_111 : decode cX12_own 111 = .ok (.goto 5, 3) := by decide +kernel
theorem dX12_own_114 : decode cX12_own 114 = .ok (.bipush (-2), 2) := by decide +kernel
theorem dX12_own_116 : decode cX12_own 116 = .ok (.ireturn, 1) := by decide +kernel
theorem dX12_when_0 : decode cX12_when 0 = .ok (.aload_n 0, 1) := by decide +kernel
theorem dX12_when_1 : decode cX12_when 1 = .ok (.iload_n 1, 1) := by decide +kernel
theorem dX12_when_2 : decode cX12_when 2 = .ok (.invokevirtual 365, 3) := by decide +kernel
theorem dX12_when_5 : decode cX12_when 5 = .ok (.ifCond .eq 15, 3) := by decide +kernel
theorem dX12_when_8 : decode cX12_when 8 = .ok (.aload_n 0, 1) := by decide +kernel
theorem dX12_when_9 : decode cX12_when 9 = .ok (.getfield 359, 3) := by decide +kernel
theorem dX12_when_12 : decode cX12_when 12 = .ok (.iload_n 1, 1) := by decide +kernel
theorem dX12_when_13 : decode cX12_when 13 = .ok (.ishr, 1) := by decide +kernel
theorem dX12_when_14 : decode cX12_when 14 = .ok (.iconst 1, 1) := by decide +kernel
theorem dX12_when_15 : decode cX12_when 15 = .ok (.iand, 1) := by decide +kernel
theorem dX12_when_16 : decode cX12_when 16 = .ok (.iconst 1, 1) := by decide +kernel
theorem dX12_when_17 : decode cX12_when 17 = .ok (.if_icmp .ne 5, 3) := by decide +kernel
theorem dX12_when_20 : decode cX12_when 20 = .ok (.iconst (-1), 1) := by decide +kernel
theorem dX12_when_21 : decode cX12_when 21 = .ok (.ireturn, 1) := by decide +kernel
theorem dX12_when_22 : decode cX12_when 22 = .ok (.aload_n 0, 1) := by decide +kernel
theorem dX12_when_23 : decode cX12_when 23 = .ok (.iconst 3, 1) := by decide +kernel
theorem dX12_when_24 : decode cX12_when 24 = .ok (.invokevirtual 428, 3) := by decide +kernel
theorem dX12_when_27 : decode cX12_when 27 = .ok (.iconst 0, 1) := by decide +kernel
theorem dX12_when_28 : decode cX12_when 28 = .ok (.istore_n 2, 1) := by decide +kernel
theorem dX12_when_29 : decode cX12_when 29 = .ok (.iconst (-1), 1) := by decide +kernel
theorem dX12_when_30 : decode cX12_when 30 = .ok (.istore_n 3, 1) := by decide +kernel
theorem dX12_when_31 : decode cX12_when 31 = .ok (.iconst 1, 1) := by decide +kernel
theorem dX12_when_32 : decode cX12_when 32 = .ok (.istore 4, 2) := by decide +kernel
theorem dX12_when_34 : decode cX12_when 34 = .ok (.iload 4, 2) := by decide +kernel
theorem dX12_when_36 : decode cX12_when 36 = .ok (.ifCond .eq 50, 3) := by decide +kernel
theorem dX12_when_39 : decode cX12_when 39 = .ok (.iinc 2 1, 3) := by decide +kernel
theorem dX12_when_42 : decode cX12_when 42 = .ok (.aload_n 0, 1) := by decide +kernel
theorem dX12_when_43 : decode cX12_when 43 = .ok (.invokevirtual 425, 3) := by decide +kernel
theorem dX12_when_46 : decode cX12_when 46 = .ok (.istore 5, 2) := by decide +kernel
theorem dX12_when_48 : decode cX12_when 48 = .ok (.iload 5, 2) := by decide +kernel
theorem dX12_when_50 : decode cX12_when 50 = .ok (.iload_n 1, 1) := by decide +kernel
theorem dX12_when_51 : decode cX12_when 51 = .ok (.ishr, 1) := by decide +kernel
theorem dX12_when_52 : decode cX12_when 52 = .ok (.iconst 1, 1) := by decide +kernel
theorem dX12_when_53 : decode cX12_when 53 = .ok (.iand, 1) := by decide +kernel
theorem dX12_when_54 : decode cX12_when 54 = .ok (.iconst 1, 1) := by decide +kernel
theorem dX12_when_55 : decode cX12_when 55 = .ok (.if_icmp .ne 5, 3) := by decide +kernel
theorem dX12_when_58 : decode cX12_when 58 = .ok (.iload_n 2, 1) := by decide +kernel
theorem dX12_when_59 : decode cX12_when 59 = .ok (.istore_n 3, 1) := by decide +kernel
theorem dX12_when_60 : decode cX12_when 60 = .ok (.iload_n 3, 1) := by decide +kernel
theorem dX12_when_61 : decode cX12_when 61 = .ok (.ifCond .ge 19, 3) := by decide +kernel
theorem dX12_when_64 : decode cX12_when 64 = .ok (.iload 5, 2) := by decide +kernel
theorem dX12_when_66 : decode cX12_when 66 = .ok (.ifCond .ne 10, 3) := by decide +kernel
theorem dX12_when_69 : decode cX12_when 69 = .ok (.aload_n 0, 1) := by decide +kernel
theorem dX12_when_70 : decode cX12_when 70 = .ok (.getfield 422, 3) := by decide +kernel
theorem dX12_when_73 : decode cX12_when 73 = .ok (.ifCond .le 7, 3) := by decide +kernel
theorem dX12_when_76 : decode cX12_when 76 = .ok (.iconst 1, 1) := by decide +kernel
theorem dX12_when_77 : decode cX12_when 77 = .ok (.goto 4, 3) := by decide +kernel
theorem dX12_when_80 : decode cX12_when 80 = .ok (.iconst 0, 1) := by decide +kernel
theorem dX12_when_81 : decode cX12_when 81 = .ok (.istore 4, 2) := by decide +kernel
theorem dX12_when_83 : decode cX12_when 83 = .ok (.goto (-49), 3) := by decide +kernel
theorem dX12_when_86 : decode cX12_when 86 = .ok (.aload_n 0, 1) := by decide +kernel
theorem dX12_when_87 : decode cX12_when 87 = .ok (.iconst 3, 1) := by decide +kernel
theorem dX12_when_88 : decode cX12_when 88 = .ok (.invokevirtual 431, 3) := by decide +kernel
theorem dX12_when_91 : decode cX12_when 91 = .ok (.iload_n 3, 1) := by decide +kernel
theorem dX12_when_92 : decode cX12_when 92 = .ok (.ireturn, 1) := by decide +kernel
theorem dX12_fewest_0 : decode cX12_fewest 0 = .ok (.iload_n 1, 1) := by decide +kernel
theorem dX12_fewest_1 : decode cX12_fewest 1 = .ok (.ifCond .lt 21, 3) := by decide +kernel
theorem dX12_fewest_4 : decode cX12_fewest 4 = .ok (.iload_n 1, 1) := by decide +kernel
theorem dX12_fewest_5 : decode cX12_fewest 5 = .ok (.aload_n 0, 1) := by decide +kernel
theorem dX12_fewest_6 : decode cX12_fewest 6 = .ok (.invokevirtual 346, 3) := by decide +kernel
theorem dX12_fewest_9 : decode cX12_fewest 9 = .ok (.if_icmp .ge 13, 3) := by decide +kernel
theorem dX12_fewest_12 : decode cX12_fewest 12 = .ok (.iload_n 2, 1) := by decide +kernel
theorem dX12_fewest_13 : decode cX12_fewest 13 = .ok (.iconst 1, 1) := by decide +kernel
theorem dX12_fewest_14 : decode cX12_fewest 14 = .ok (.bipush 12, 2) := by decide +kernel
theorem dX12_fewest_16 : decode cX12_fewest 16 = .ok (.invokestatic 342, 3) := by decide +kernel
theorem dX12_fewest_19 : decode cX12_fewest 19 = .ok (.ifCond .ne 5, 3) := by decide +kernel
theorem dX12_fewest_22 : decode cX12_fewest 22 = .ok (.iconst (-1), 1) := by decide +kernel
theorem dX12_fewest_23 : decode cX12_fewest 23 = .ok (.ireturn, 1) := by decide +kernel
theorem dX12_fewest_24 : decode cX12_fewest 24 = .ok (.iconst (-1), 1) := by decide +kernel
theorem dX12_fewest_25 : decode cX12_fewest 25 = .ok (.istore_n 3, 1) := by decide +kernel
theorem dX12_fewest_26 : decode cX12_fewest 26 = .ok (.aload_n 0, 1) := by decide +kernel
theorem dX12_fewest_27 : decode cX12_fewest 27 = .ok (.iconst 3, 1) := by decide +kernel
theorem dX12_fewest_28 : decode cX12_fewest 28 = .ok (.invokevirtual 428, 3) := by decide +kernel
theorem dX12_fewest_31 : decode cX12_fewest 31 = .ok (.iconst 0, 1) := by decide +kernel
theorem dX12_fewest_32 : decode cX12_fewest 32 = .ok (.istore 4, 2) := by decide +kernel
theorem dX12_fewest_34 : decode cX12_fewest 34 = .ok (.iload 4, 2) := by decide +kernel
theorem dX12_fewest_36 : decode cX12_fewest 36 = .ok (.iconst 1, 1) := by decide +kernel
theorem dX12_fewest_37 : decode cX12_fewest 37 = .ok (.aload_n 0, 1) := by decide +kernel
theorem dX12_fewest_38 : decode cX12_fewest 38 = .ok (.getfield 27, 3) := by decide +kernel
theorem dX12_fewest_41 : decode cX12_fewest 41 = .ok (.aload_n 0, 1) := by decide +kernel
theorem dX12_fewest_42 : decode cX12_fewest 42 = .ok (.getfield 261, 3) := by decide +kernel
theorem dX12_fewest_45 : decode cX12_fewest 45 = .ok (.iaload, 1) := by decide +kernel
theorem dX12_fewest_46 : decode cX12_fewest 46 = .ok (.ishl, 1) := by decide +kernel
theorem dX12_fewest_47 : decode cX12_fewest 47 = .ok (.if_icmp .ge 47, 3) := by decide +kernel
theorem dX12_fewest_50 : decode cX12_fewest 50 = .ok (.iload_n 3, 1) := by decide +kernel
theorem dX12_fewest_51 : decode cX12_fewest 51 = .ok (.ifCond .lt 18, 3) := by decide +kernel
theorem dX12_fewest_54 : decode cX12_fewest 54 = .ok (.iload 4, 2) := by decide +kernel
theorem dX12_fewest_56 : decode cX12_fewest 56 = .ok (.invokestatic 384, 3) := by decide +kernel
theorem dX12_fewest_59 : decode cX12_fewest 59 = .ok (.iload_n 3, 1) := by decide +kernel
theorem dX12_fewest_60 : decode cX12_fewest 60 = .ok (.invokestatic 384, 3) := by decide +kernel
theorem dX12_fewest_63 : decode cX12_fewest 63 = .ok (.if_icmp .lt 6, 3) := by decide +kernel
theorem dX12_fewest_66 : decode cX12_fewest 66 = .ok (.goto 22, 3) := by decide +kernel
theorem dX12_fewest_69 : decode cX12_fewest 69 = .ok (.aload_n 0, 1) := by decide +kernel
theorem dX12_fewest_70 : decode cX12_fewest 70 = .ok (.iload 4, 2) := by decide +kernel
theorem dX12_fewest_72 : decode cX12_fewest 72 = .ok (.iload_n 2, 1) := by decide +kernel
theorem dX12_fewest_73 : decode cX12_fewest 73 = .ok (.invokevirtual 434, 3) := by decide +kernel
theorem dX12_fewest_76 : decode cX12_fewest 76 = .ok (.iload_n 1, 1) := by decide +kernel
theorem dX12_fewest_77 : decode cX12_fewest 77 = .ok (.if_icmp .ne 6, 3) := by decide +kernel
theorem dX12_fewest_80 : decode cX12_fewest 80 = .ok (.iload 4, 2) := by decide +kernel
theorem dX12_fewest_82 : decode cX12_fewest 82 = .ok (.istore_n 3, 1) := by decide +kernel
theorem dX12_fewest_83 : decode cX12_fewest 83 = .ok (.aload_n 0, 1) := by decide +kernel
theorem dX12_fewest_84 : decode cX12_fewest 84 = .ok (.iconst 3, 1) := by decide +kernel
theorem dX12_fewest_85 : decode cX12_fewest 85 = .ok (.invokevirtual 431, 3) := by decide +kernel
theorem dX12_fewest_88 : decode cX12_fewest 88 = .ok (.iinc 4 1, 3) := by decide +kernel
theorem dX12_fewest_91 : decode cX12_fewest 91 = .ok (.goto (-57), 3) := by decide +kernel
theorem dX12_fewest_94 : decode cX12_fewest 94 = .ok (.iload_n 3, 1) := by decide +kernel
theorem dX12_fewest_95 : decode cX12_fewest 95 = .ok (.ireturn, 1) := by decide +kernel
theorem dX12_goBy_0 : decode cX12_goBy 0 = .ok (.iconst 0, 1) := by decide +kernel
theorem dX12_goBy_1 : decode cX12_goBy 1 = .ok (.istore_n 3, 1) := by decide +kernel
theorem dX12_goBy_2 : decode cX12_goBy 2 = .ok (.iload_n 3, 1) := by decide +kernel
theorem dX12_goBy_3 : decode cX12_goBy 3 = .ok (.aload_n 0, 1) := by decide +kernel
theorem dX12_goBy_4 : decode cX12_goBy 4 = .ok (.getfield 27, 3) := by decide +kernel
theorem dX12_goBy_7 : decode cX12_goBy 7 = .ok (.aload_n 0, 1) := by decide +kernel
theorem dX12_goBy_8 : decode cX12_goBy 8 = .ok (.getfield 261, 3) := by decide +kernel
theorem dX12_goBy_11 : decode cX12_goBy 11 = .ok (.iaload, 1) := by decide +kernel
theorem dX12_goBy_12 : decode cX12_goBy 12 = .ok (.if_icmp .ge 28, 3) := by decide +kernel
theorem dX12_goBy_15 : decode cX12_goBy 15 = .ok (.iload_n 1, 1) := by decide +kernel
theorem dX12_goBy_16 : decode cX12_goBy 16 = .ok (.iload_n 3, 1) := by decide +kernel
theorem dX12_goBy_17 : decode cX12_goBy 17 = .ok (.ishr, 1) := by decide +kernel
theorem dX12_goBy_18 : decode cX12_goBy 18 = .ok (.iconst 1, 1) := by decide +kernel
theorem dX12_goBy_19 : decode cX12_goBy 19 = .ok (.iand, 1) := by decide +kernel
theorem dX12_goBy_20 : decode cX12_goBy 20 = .ok (.iconst 1, 1) := by decide +kernel
theorem dX12_goBy_21 : decode cX12_goBy 21 = .ok (.if_icmp .ne 13, 3) := by decide +kernel
theorem dX12_goBy_24 : decode cX12_goBy 24 = .ok (.aload_n 0, 1) := by decide +kernel
theorem dX12_goBy_25 : decode cX12_goBy 25 = .ok (.iload_n 3, 1) := by decide +kernel
theorem dX12_goBy_26 : decode cX12_goBy 26 = .ok (.invokevirtual 438, 3) := by decide +kernel
theorem dX12_goBy_29 : decode cX12_goBy 29 = .ok (.ifCond .ge 5, 3) := by decide +kernel
theorem dX12_goBy_32 : decode cX12_goBy 32 = .ok (.iconst (-1), 1) := by decide +kernel
theorem dX12_goBy_33 : decode cX12_goBy 33 = .ok (.ireturn, 1) := by decide +kernel
theorem dX12_goBy_34 : decode cX12_goBy 34 = .ok (.iinc 3 1, 3) := by decide +kernel
theorem dX12_goBy_37 : decode cX12_goBy 37 = .ok (.goto (-35), 3) := by decide +kernel
theorem dX12_goBy_40 : decode cX12_goBy 40 = .ok (.iconst 0, 1) := by decide +kernel
theorem dX12_goBy_41 : decode cX12_goBy 41 = .ok (.istore_n 3, 1) := by decide +kernel
theorem dX12_goBy_42 : decode cX12_goBy 42 = .ok (.iconst 0, 1) := by decide +kernel
theorem dX12_goBy_43 : decode cX12_goBy 43 = .ok (.istore 4, 2) := by decide +kernel
theorem dX12_goBy_45 : decode cX12_goBy 45 = .ok (.iload 4, 2) := by decide +kernel
theorem dX12_goBy_47 : decode cX12_goBy 47 = .ok (.iload_n 2, 1) := by decide +kernel
theorem dX12_goBy_48 : decode cX12_goBy 48 = .ok (.if_icmp .ge 16, 3) := by decide +kernel
theorem dX12_goBy_51 : decode cX12_goBy 51 = .ok (.iload_n 3, 1) := by decide +kernel
theorem dX12_goBy_52 : decode cX12_goBy 52 = .ok (.aload_n 0, 1) := by decide +kernel
theorem dX12_goBy_53 : decode cX12_goBy 53 = .ok (.invokevirtual 425, 3) := by decide +kernel
theorem dX12_goBy_56 : decode cX12_goBy 56 = .ok (.ior, 1) := by decide +kernel
theorem dX12_goBy_57 : decode cX12_goBy 57 = .ok (.istore_n 3, 1) := by decide +kernel
theorem dX12_goBy_58 : decode cX12_goBy 58 = .ok (.iinc 4 1, 3) := by decide +kernel
theorem dX12_goBy_61 : decode cX12_goBy 61 = .ok (.goto (-16), 3) := by decide +kernel
theorem dX12_goBy_64 : decode cX12_goBy 64 = .ok (.iload_n 3, 1) := by decide +kernel
theorem dX12_goBy_65 : decode cX12_goBy 65 = .ok (.ireturn, 1) := by decide +kernel
theorem dX12_sight_0 : decode cX12_sight 0 = .ok (.aload_n 0, 1) := by decide +kernel
theorem dX12_sight_1 : decode cX12_sight 1 = .ok (.iload_n 1, 1) := by decide +kernel
theorem dX12_sight_2 : decode cX12_sight 2 = .ok (.invokevirtual 365, 3) := by decide +kernel
theorem dX12_sight_5 : decode cX12_sight 5 = .ok (.ifCond .eq 22, 3) := by decide +kernel
theorem dX12_sight_8 : decode cX12_sight 8 = .ok (.iload_n 2, 1) := by decide +kernel
theorem dX12_sight_9 : decode cX12_sight 9 = .ok (.iconst 1, 1) := by decide +kernel
theorem dX12_sight_10 : decode cX12_sight 10 = .ok (.bipush 12, 2) := by decide +kernel
theorem dX12_sight_12 : decode cX12_sight 12 = .ok (.invokestatic 342, 3) := by decide +kernel
theorem dX12_sight_15 : decode cX12_sight 15 = .ok (.ifCond .eq 12, 3) := by decide +kernel
theorem dX12_sight_18 : decode cX12_sight 18 = .ok (.aload_n 0, 1) := by decide +kernel
theorem dX12_sight_19 : decode cX12_sight 19 = .ok (.getfield 267, 3) := by decide +kernel
theorem dX12_sight_22 : decode cX12_sight 22 = .ok (.bipush 20, 2) := by decide +kernel
theorem dX12_sight_24 : decode cX12_sight 24 = .ok (.if_icmp .ne 5, 3) := by decide +kernel
theorem dX12_sight_27 : decode cX12_sight 27 = .ok (.iconst (-1), 1) := by decide +kernel
theorem dX12_sight_28 : decode cX12_sight 28 = .ok (.ireturn, 1) := by decide +kernel
theorem dX12_sight_29 : decode cX12_sight 29 = .ok (.aload_n 0, 1) := by decide +kernel
theorem dX12_sight_30 : decode cX12_sight 30 = .ok (.getfield 101, 3) := by decide +kernel
theorem dX12_sight_33 : decode cX12_sight 33 = .ok (.aload_n 0, 1) := by decide +kernel
theorem dX12_sight_34 : decode cX12_sight 34 = .ok (.getfield 267, 3) := by decide +kernel
theorem dX12_sight_37 : decode cX12_sight 37 = .ok (.iload_n 1, 1) := by decide +kernel
theorem dX12_sight_38 : decode cX12_sight 38 = .ok (.iastore, 1) := by decide +kernel
theorem dX12_sight_39 : decode cX12_sight 39 = .ok (.aload_n 0, 1) := by decide +kernel
theorem dX12_sight_40 : decode cX12_sight 40 = .ok (.getfield 104, 3) := by decide +kernel
theorem dX12_sight_43 : decode cX12_sight 43 = .ok (.aload_n 0, 1) := by decide +kernel
theorem dX12_sight_44 : decode cX12_sight 44 = .ok (.getfield 267, 3) := by decide +kernel
theorem dX12_sight_47 : decode cX12_sight 47 = .ok (.iload_n 2, 1) := by decide +kernel
theorem dX12_sight_48 : decode cX12_sight 48 = .ok (.iastore, 1) := by decide +kernel
theorem dX12_sight_49 : decode cX12_sight 49 = .ok (.aload_n 0, 1) := by decide +kernel
theorem dX12_sight_50 : decode cX12_sight 50 = .ok (.getfield 125, 3) := by decide +kernel
theorem dX12_sight_53 : decode cX12_sight 53 = .ok (.aload_n 0, 1) := by decide +kernel
theorem dX12_sight_54 : decode cX12_sight 54 = .ok (.getfield 267, 3) := by decide +kernel
theorem dX12_sight_57 : decode cX12_sight 57 = .ok (.iload_n 3, 1) := by decide +kernel
theorem dX12_sight_58 : decode cX12_sight 58 = .ok (.bastore, 1) := by decide +kernel
theorem dX12_sight_59 : decode cX12_sight 59 = .ok (.aload_n 0, 1) := by decide +kernel
theorem dX12_sight_60 : decode cX12_sight 60 = .ok (.getfield 107, 3) := by decide +kernel
theorem dX12_sight_63 : decode cX12_sight 63 = .ok (.aload_n 0, 1) := by decide +kernel
theorem dX12_sight_64 : decode cX12_sight 64 = .ok (.getfield 267, 3) := by decide +kernel
theorem dX12_sight_67 : decode cX12_sight 67 = .ok (.aload_n 0, 1) := by decide +kernel
theorem dX12_sight_68 : decode cX12_sight 68 = .ok (.getfield 441, 3) := by decide +kernel
theorem dX12_sight_71 : decode cX12_sight 71 = .ok (.iastore, 1) := by decide +kernel
theorem dX12_sight_72 : decode cX12_sight 72 = .ok (.aload_n 0, 1) := by decide +kernel
theorem dX12_sight_73 : decode cX12_sight 73 = .ok (.getfield 110, 3) := by decide +kernel
theorem dX12_sight_76 : decode cX12_sight 76 = .ok (.aload_n 0, 1) := by decide +kernel
theorem dX12_sight_77 : decode cX12_sight 77 = .ok (.getfield 267, 3) := by decide +kernel
theorem dX12_sight_80 : decode cX12_sight 80 = .ok (.iconst (-1), 1) := by decide +kernel
theorem dX12_sight_81 : decode cX12_sight 81 = .ok (.iastore, 1) := by decide +kernel
theorem dX12_sight_82 : decode cX12_sight 82 = .ok (.aload_n 0, 1) := by decide +kernel
theorem dX12_sight_83 : decode cX12_sight 83 = .ok (.dup, 1) := by decide +kernel
theorem dX12_sight_84 : decode cX12_sight 84 = .ok (.getfield 267, 3) := by decide +kernel
theorem dX12_sight_87 : decode cX12_sight 87 = .ok (.iconst 1, 1) := by decide +kernel
theorem dX12_sight_88 : decode cX12_sight 88 = .ok (.iadd, 1) := by decide +kernel
theorem dX12_sight_89 : decode cX12_sight 89 = .ok (.putfield 267, 3) := by decide +kernel
theorem dX12_sight_92 : decode cX12_sight 92 = .ok (.aload_n 0, 1) := by decide +kernel
theorem dX12_sight_93 : decode cX12_sight 93 = .ok (.getfield 267, 3) := by decide +kernel
theorem dX12_sight_96 : decode cX12_sight 96 = .ok (.iconst 1, 1) := by decide +kernel
theorem dX12_sight_97 : decode cX12_sight 97 = .ok (.isub, 1) := by decide +kernel
theorem dX12_sight_98 : decode cX12_sight 98 = .ok (.ireturn, 1) := by decide +kernel
theorem dX12_untell_0 : decode cX12_untell 0 = .ok (.iload_n 1, 1) := by decide +kernel
theorem dX12_untell_1 : decode cX12_untell 1 = .ok (.iconst 0, 1) := by decide +kernel
theorem dX12_untell_2 : decode cX12_untell 2 = .ok (.aload_n 0, 1) := by decide +kernel
theorem dX12_untell_3 : decode cX12_untell 3 = .ok (.getfield 267, 3) := by decide +kernel
theorem dX12_untell_6 : decode cX12_untell 6 = .ok (.iconst 1, 1) := by decide +kernel
theorem dX12_untell_7 : decode cX12_untell 7 = .ok (.isub, 1) := by decide +kernel
theorem dX12_untell_8 : decode cX12_untell 8 = .ok (.invokestatic 342, 3) := by decide +kernel
theorem dX12_untell_11 : decode cX12_untell 11 = .ok (.ifCond .eq 12, 3) := by decide +kernel
theorem dX12_untell_14 : decode cX12_untell 14 = .ok (.aload_n 0, 1) := by decide +kernel
theorem dX12_untell_15 : decode cX12_untell 15 = .ok (.getfield 110, 3) := by decide +kernel
theorem dX12_untell_18 : decode cX12_untell 18 = .ok (.iload_n 1, 1) := by decide +kernel
theorem dX12_untell_19 : decode cX12_untell 19 = .ok (.iaload, 1) := by decide +kernel
theorem dX12_untell_20 : decode cX12_untell 20 = .ok (.ifCond .lt 5, 3) := by decide +kernel
theorem dX12_untell_23 : decode cX12_untell 23 = .ok (.iconst 0, 1) := by decide +kernel
theorem dX12_untell_24 : decode cX12_untell 24 = .ok (.ireturn, 1) := by decide +kernel
theorem dX12_untell_25 : decode cX12_untell 25 = .ok (.aload_n 0, 1) := by decide +kernel
theorem dX12_untell_26 : decode cX12_untell 26 = .ok (.getfield 110, 3) := by decide +kernel
theorem dX12_untell_29 : decode cX12_untell 29 = .ok (.iload_n 1, 1) := by decide +kernel
theorem dX12_untell_30 : decode cX12_untell 30 = .ok (.aload_n 0, 1) := by decide +kernel
theorem dX12_untell_31 : decode cX12_untell 31 = .ok (.getfield 441, 3) := by decide +kernel
theorem dX12_untell_34 : decode cX12_untell 34 = .ok (.iastore, 1) := by decide +kernel
theorem dX12_untell_35 : decode cX12_untell 35 = .ok (.iconst 1, 1) := by decide +kernel
theorem dX12_untell_36 : decode cX12_untell 36 = .ok (.ireturn, 1) := by decide +kernel
theorem dX12_later_0 : decode cX12_later 0 = .ok (.iload_n 1, 1) := by decide +kernel
theorem dX12_later_1 : decode cX12_later 1 = .ok (.iconst 0, 1) := by decide +kernel
theorem dX12_later_2 : decode cX12_later 2 = .ok (.sipush 1000, 3) := by decide +kernel
theorem dX12_later_5 : decode cX12_later 5 = .ok (.invokestatic 342, 3) := by decide +kernel
theorem dX12_later_8 : decode cX12_later 8 = .ok (.ifCond .eq 15, 3) := by decide +kernel
theorem dX12_later_11 : decode cX12_later 11 = .ok (.aload_n 0, 1) := by decide +kernel
theorem dX12_later_12 : decode cX12_later 12 = .ok (.getfield 441, 3) := by decide +kernel
theorem dX12_later_15 : decode cX12_later 15 = .ok (.iload_n 1, 1) := by decide +kernel
theorem dX12_later_16 : decode cX12_later 16 = .ok (.iadd, 1) := by decide +kernel
theorem dX12_later_17 : decode cX12_later 17 = .ok (.ldc_w 444, 3) := by decide +kernel
theorem dX12_later_20 : decode cX12_later 20 = .ok (.if_icmp .le 5, 3) := by decide +kernel
theorem dX12_later_23 : decode cX12_later 23 = .ok (.iconst (-1), 1) := by decide +kernel
theorem dX12_later_24 : decode cX12_later 24 = .ok (.ireturn, 1) := by decide +kernel
theorem dX12_later_25 : decode cX12_later 25 = .ok (.aload_n 0, 1) := by decide +kernel
theorem dX12_later_26 : decode cX12_later 26 = .ok (.dup, 1) := by decide +kernel
theorem dX12_later_27 : decode cX12_later 27 = .ok (.getfield 441, 3) := by decide +kernel
theorem dX12_later_30 : decode cX12_later 30 = .ok (.iload_n 1, 1) := by decide +kernel
theorem dX12_later_31 : decode cX12_later 31 = .ok (.iadd, 1) := by decide +kernel
theorem dX12_later_32 : decode cX12_later 32 = .ok (.putfield 441, 3) := by decide +kernel
theorem dX12_later_35 : decode cX12_later 35 = .ok (.aload_n 0, 1) := by decide +kernel
theorem dX12_later_36 : decode cX12_later 36 = .ok (.getfield 441, 3) := by decide +kernel
theorem dX12_later_39 : decode cX12_later 39 = .ok (.ireturn, 1) := by decide +kernel
theorem dX12_goesIn_0 : decode cX12_goesIn 0 = .ok (.iconst 0, 1) := by decide +kernel
theorem dX12_goesIn_1 : decode cX12_goesIn 1 = .ok (.istore_n 2, 1) := by decide +kernel
theorem dX12_goesIn_2 : decode cX12_goesIn 2 = .ok (.iconst 0, 1) := by decide +kernel
theorem dX12_goesIn_3 : decode cX12_goesIn 3 = .ok (.istore_n 3, 1) := by decide +kernel
theorem dX12_goesIn_4 : decode cX12_goesIn 4 = .ok (.iload_n 3, 1) := by decide +kernel
theorem dX12_goesIn_5 : decode cX12_goesIn 5 = .ok (.aload_n 0, 1) := by decide +kernel
theorem dX12_goesIn_6 : decode cX12_goesIn 6 = .ok (.invokevirtual 339, 3) := by decide +kernel
theorem dX12_goesIn_9 : decode cX12_goesIn 9 = .ok (.if_icmp .ge 170, 3) := by decide +kernel
theorem dX12_goesIn_12 : decode cX12_goesIn 12 = .ok (.aload_n 0, 1) := by decide +kernel
theorem dX12_goesIn_13 : decode cX12_goesIn 13 = .ok (.getfield 116, 3) := by decide +kernel
theorem dX12_goesIn_16 : decode cX12_goesIn 16 = .ok (.iload_n 1, 1) := by decide +kernel
theorem dX12_goesIn_17 : decode cX12_goesIn 17 = .ok (.iaload, 1) := by decide +kernel
theorem dX12_goesIn_18 : decode cX12_goesIn 18 = .ok (.iload_n 3, 1) := by decide +kernel
theorem dX12_goesIn_19 : decode cX12_goesIn 19 = .ok (.ishr, 1) := by decide +kernel
theorem dX12_goesIn_20 : decode cX12_goesIn 20 = .ok (.iconst 1, 1) := by decide +kernel
theorem dX12_goesIn_21 : decode cX12_goesIn 21 = .ok (.iand, 1) := by decide +kernel
theorem dX12_goesIn_22 : decode cX12_goesIn 22 = .ok (.iconst 1, 1) := by decide +kernel
theorem dX12_goesIn_23 : decode cX12_goesIn 23 = .ok (.if_icmp .eq 150, 3) := by decide +kernel
theorem dX12_goesIn_26 : decode cX12_goesIn 26 = .ok (.aload_n 0, 1) := by decide +kernel
theorem dX12_goesIn_27 : decode cX12_goesIn 27 = .ok (.getfield 52, 3) := by decide +kernel
theorem dX12_goesIn_30 : decode cX12_goesIn 30 = .ok (.bipush 8, 2) := by decide +kernel
theorem dX12_goesIn_32 : decode cX12_goesIn 32 = .ok (.aload_n 0, 1) := by decide +kernel
theorem dX12_goesIn_33 : decode cX12_goesIn 33 = .ok (.getfield 261, 3) := by decide +kernel
theorem dX12_goesIn_36 : decode cX12_goesIn 36 = .ok (.imul, 1) := by decide +kernel
theorem dX12_goesIn_37 : decode cX12_goesIn 37 = .ok (.iload_n 3, 1) := by decide +kernel
theorem dX12_goesIn_38 : decode cX12_goesIn 38 = .ok (.iadd, 1) := by decide +kernel
theorem dX12_goesIn_39 : decode cX12_goesIn 39 = .ok (.baload, 1) := by decide +kernel
theorem dX12_goesIn_40 : decode cX12_goesIn 40 = .ok (.ifCond .eq 6, 3) := by decide +kernel
theorem dX12_goesIn_43 : decode cX12_goesIn 43 = .ok (.goto 130, 3) := by decide +kernel
theorem dX12_goesIn_46 : decode cX12_goesIn 46 = .ok (.iconst 1, 1) := by decide +kernel
theorem dX12_goesIn_47 : decode cX12_goesIn 47 = .ok (.istore 4, 2) := by decide +kernel
theorem dX12_goesIn_49 : decode cX12_goesIn 49 = .ok (.iconst 1, 1) := by decide +kernel
theorem dX12_goesIn_50 : decode cX12_goesIn 50 = .ok (.istore 5, 2) := by decide +kernel
theorem dX12_goesIn_52 : decode cX12_goesIn 52 = .ok (.iconst 0, 1) := by decide +kernel
theorem dX12_goesIn_53 : decode cX12_goesIn 53 = .ok (.istore 6, 2) := by decide +kernel
theorem dX12_goesIn_55 : decode cX12_goesIn 55 = .ok (.iload 6, 2) := by decide +kernel
theorem dX12_goesIn_57 : decode cX12_goesIn 57 = .ok (.aload_n 0, 1) := by decide +kernel
theorem dX12_goesIn_58 : decode cX12_goesIn 58 = .ok (.invokevirtual 346, 3) := by decide +kernel
theorem dX12_goesIn_61 : decode cX12_goesIn 61 = .ok (.if_icmp .ge 84, 3) := by decide +kernel
theorem dX12_goesIn_64 : decode cX12_goesIn 64 = .ok (.aload_n 0, 1) := by decide +kernel
theorem dX12_goesIn_65 : decode cX12_goesIn 65 = .ok (.getfield 113, 3) := by decide +kernel
theorem dX12_goesIn_68 : decode cX12_goesIn 68 = .ok (.iload 6, 2) := by decide +kernel
theorem dX12_goesIn_70 : decode cX12_goesIn 70 = .ok (.iaload, 1) := by decide +kernel
theorem dX12_goesIn_71 : decode cX12_goesIn 71 = .ok (.aload_n 0, 1) := by decide +kernel
theorem dX12_goesIn_72 : decode cX12_goesIn 72 = .ok (.getfield 113, 3) := by decide +kernel
theorem dX12_goesIn_75 : decode cX12_goesIn 75 = .ok (.iload_n 1, 1) := by decide +kernel
theorem dX12_goesIn_76 : decode cX12_goesIn 76 = .ok (.iaload, 1) := by decide +kernel
theorem dX12_goesIn_77 : decode cX12_goesIn 77 = .ok (.if_icmp .ne 62, 3) := by decide +kernel
theorem dX12_goesIn_80 : decode cX12_goesIn 80 = .ok (.iload 6, 2) := by decide +kernel
theorem dX12_goesIn_82 : decode cX12_goesIn 82 = .ok (.iload_n 1, 1) := by decide +kernel
theorem dX12_goesIn_83 : decode cX12_goesIn 83 = .ok (.ixor, 1) := by decide +kernel
theorem dX12_goesIn_84 : decode cX12_goesIn 84 = .ok (.aload_n 0, 1) := by decide +kernel
theorem dX12_goesIn_85 : decode cX12_goesIn 85 = .ok (.iload_n 3, 1) := by decide +kernel
theorem dX12_goesIn_86 : decode cX12_goesIn 86 = .ok (.invokevirtual 362, 3) := by decide +kernel
theorem dX12_goesIn_89 : decode cX12_goesIn 89 = .ok (.iand, 1) := by decide +kernel
theorem dX12_goesIn_90 : decode cX12_goesIn 90 = .ok (.ifCond .eq 6, 3) := by decide +kernel
theorem dX12_goesIn_93 : decode cX12_goesIn 93 = .ok (.goto 46, 3) := by decide +kernel
theorem dX12_goesIn_96 : decode cX12_goesIn 96 = .ok (.iload 4, 2) := by decide +kernel
theorem dX12_goesIn_98 : decode cX12_goesIn 98 = .ok (.ifCond .eq 17, 3) := by decide +kernel
theorem dX12_goesIn_101 : decode cX12_goesIn 101 = .ok (.iload 6, 2) := by decide +kernel
theorem dX12_goesIn_103 : decode cX12_goesIn 103 = .ok (.iload_n 3, 1) := by decide +kernel
theorem dX12_goesIn_104 : decode cX12_goesIn 104 = .ok (.ishr, 1) := by decide +kernel
theorem dX12_goesIn_105 : decode cX12_goesIn 105 = .ok (.iconst 1, 1) := by decide +kernel
theorem dX12_goesIn_106 : decode cX12_goesIn 106 = .ok (.iand, 1) := by decide +kernel
theorem dX12_goesIn_107 : decode cX12_goesIn 107 = .ok (.iconst 1, 1) := by decide +kernel
theorem dX12_goesIn_108 : decode cX12_goesIn 108 = .ok (.if_icmp .ne 7, 3) := by decide +kernel
theorem dX12_goesIn_111 : decode cX12_goesIn 111 = .ok (.iconst 1, 1) := by decide +kernel
theorem dX12_goesIn_112 : decode cX12_goesIn 112 = .ok (.goto 4, 3) := by decide +kernel
theorem dX12_goesIn_115 : decode cX12_goesIn 115 = .ok (.iconst 0, 1) := by decide +kernel
theorem dX12_goesIn_116 : decode cX12_goesIn 116 = .ok (.istore 4, 2) := by decide +kernel
theorem dX12_goesIn_118 : decode cX12_goesIn 118 = .ok (.iload 5, 2) := by decide +kernel
theorem dX12_goesIn_120 : decode cX12_goesIn 120 = .ok (.ifCond .eq 16, 3) := by decide +kernel
theorem dX12_goesIn_123 : decode cX12_goesIn 123 = .ok (.iload 6, 2) := by decide +kernel
theorem dX12_goesIn_125 : decode cX12_goesIn 125 = .ok (.iload_n 3, 1) := by decide +kernel
theorem dX12_goesIn_126 : decode cX12_goesIn 126 = .ok (.ishr, 1) := by decide +kernel
theorem dX12_goesIn_127 : decode cX12_goesIn 127 = .ok (.iconst 1, 1) := by decide +kernel
theorem dX12_goesIn_128 : decode cX12_goesIn 128 = .ok (.iand, 1) := by decide +kernel
theorem dX12_goesIn_129 : decode cX12_goesIn 129 = .ok (.ifCond .ne 7, 3) := by decide +kernel
theorem dX12_goesIn_132 : decode cX12_goesIn 132 = .ok (.iconst 1, 1) := by decide +kernel
theorem dX12_goesIn_133 : decode cX12_goesIn 133 = .ok (.goto 4, 3) := by decide +kernel
theorem dX12_goesIn_136 : decode cX12_goesIn 136 = .ok (.iconst 0, 1) := by decide +kernel
theorem dX12_goesIn_137 : decode cX12_goesIn 137 = .ok (.istore 5, 2) := by decide +kernel
theorem dX12_goesIn_139 : decode cX12_goesIn 139 = .ok (.iinc 6 1, 3) := by decide +kernel
theorem dX12_goesIn_142 : decode cX12_goesIn 142 = .ok (.goto (-87), 3) := by decide +kernel
theorem dX12_goesIn_145 : decode cX12_goesIn 145 = .ok (.iload 4, 2) := by decide +kernel
theorem dX12_goesIn_147 : decode cX12_goesIn 147 = .ok (.ifCond .ne 20, 3) := by decide +kernel
theorem dX12_goesIn_150 : decode cX12_goesIn 150 = .ok (.iload 5, 2) := by decide +kernel
theorem dX12_goesIn_152 : decode cX12_goesIn 152 = .ok (.ifCond .eq 21, 3) := by decide +kernel
theorem dX12_goesIn_155 : decode cX12_goesIn 155 = .ok (.aload_n 0, 1) := by decide +kernel
theorem dX12_goesIn_156 : decode cX12_goesIn 156 = .ok (.getfield 45, 3) := by decide +kernel
theorem dX12_goesIn_159 : decode cX12_goesIn 159 = .ok (.aload_n 0, 1) := by decide +kernel
theorem dX12_goesIn_160 : decode cX12_goesIn 160 = .ok (.getfield 261, 3) := by decide +kernel
theorem dX12_goesIn_163 : decode cX12_goesIn 163 = .ok (.baload, 1) := by decide +kernel
theorem dX12_goesIn_164 : decode cX12_goesIn 164 = .ok (.ifCond .eq 9, 3) := by decide +kernel
theorem dX12_goesIn_167 : decode cX12_goesIn 167 = .ok (.iload_n 2, 1) := by decide +kernel
theorem dX12_goesIn_168 : decode cX12_goesIn 168 = .ok (.iconst 1, 1) := by decide +kernel
theorem dX12_goesIn_169 : decode cX12_goesIn 169 = .ok (.iload_n 3, 1) := by decide +kernel
theorem dX12_goesIn_170 : decode cX12_goesIn 170 = .ok (.ishl, 1) := by decide +kernel
theorem dX12_goesIn_171 : decode cX12_goesIn 171 = .ok (.ior, 1) := by decide +kernel
theorem dX12_goesIn_172 : decode cX12_goesIn 172 = .ok (.istore_n 2, 1) := by decide +kernel
theorem dX12_goesIn_173 : decode cX12_goesIn 173 = .ok (.iinc 3 1, 3) := by decide +kernel
theorem dX12_goesIn_176 : decode cX12_goesIn 176 = .ok (.goto (-172), 3) := by decide +kernel
theorem dX12_goesIn_179 : decode cX12_goesIn 179 = .ok (.iload_n 2, 1) := by decide +kernel
theorem dX12_goesIn_180 : decode cX12_goesIn 180 = .ok (.ireturn, 1) := by decide +kernel
theorem dX12_nightOfAll_0 : decode cX12_nightOfAll 0 = .ok (.iconst 0, 1) := by decide +kernel
theorem dX12_nightOfAll_1 : decode cX12_nightOfAll 1 = .ok (.istore_n 3, 1) := by decide +kernel
theorem dX12_nightOfAll_2 : decode cX12_nightOfAll 2 = .ok (.iload_n 3, 1) := by decide +kernel
theorem dX12_nightOfAll_3 : decode cX12_nightOfAll 3 = .ok (.aload_n 0, 1) := by decide +kernel
theorem dX12_nightOfAll_4 : decode cX12_nightOfAll 4 = .ok (.invokevirtual 346, 3) := by decide +kernel
theorem dX12_nightOfAll_7 : decode cX12_nightOfAll 7 = .ok (.if_icmp .ge 33, 3) := by decide +kernel
theorem dX12_nightOfAll_10 : decode cX12_nightOfAll 10 = .ok (.aload_n 0, 1) := by decide +kernel
theorem dX12_nightOfAll_11 : decode cX12_nightOfAll 11 = .ok (.getfield 119, 3) := by decide +kernel
theorem dX12_nightOfAll_14 : decode cX12_nightOfAll 14 = .ok (.iload_n 3, 1) := by decide +kernel
theorem dX12_nightOfAll_15 : decode cX12_nightOfAll 15 = .ok (.aload_n 0, 1) := by decide +kernel
theorem dX12_nightOfAll_16 : decode cX12_nightOfAll 16 = .ok (.getfield 113, 3) := by decide +kernel
theorem dX12_nightOfAll_19 : decode cX12_nightOfAll 19 = .ok (.iload_n 3, 1) := by decide +kernel
theorem dX12_nightOfAll_20 : decode cX12_nightOfAll 20 = .ok (.iaload, 1) := by decide +kernel
theorem dX12_nightOfAll_21 : decode cX12_nightOfAll 21 = .ok (.ifCond .ge 7, 3) := by decide +kernel
theorem dX12_nightOfAll_24 : decode cX12_nightOfAll 24 = .ok (.iconst 0, 1) := by decide +kernel
theorem dX12_nightOfAll_25 : decode cX12_nightOfAll 25 = .ok (.goto 8, 3) := by decide +kernel
theorem dX12_nightOfAll_28 : decode cX12_nightOfAll 28 = .ok (.aload_n 0, 1) := by decide +kernel
theorem dX12_nightOfAll_29 : decode cX12_nightOfAll 29 = .ok (.iload_n 3, 1) := by decide +kernel
theorem dX12_nightOfAll_30 : decode cX12_nightOfAll 30 = .ok (.invokevirtual 445, 3) := by decide +kernel
theorem dX12_nightOfAll_33 : decode cX12_nightOfAll 33 = .ok (.iastore, 1) := by decide +kernel
theorem dX12_nightOfAll_34 : decode cX12_nightOfAll 34 = .ok (.iinc 3 1, 3) := by decide +kernel
theorem dX12_nightOfAll_37 : decode cX12_nightOfAll 37 = .ok (.goto (-35), 3) := by decide +kernel
theorem dX12_nightOfAll_40 : decode cX12_nightOfAll 40 = .ok (.iconst 0, 1) := by decide +kernel
theorem dX12_nightOfAll_41 : decode cX12_nightOfAll 41 = .ok (.istore_n 3, 1) := by decide +kernel
theorem dX12_nightOfAll_42 : decode cX12_nightOfAll 42 = .ok (.iload_n 3, 1) := by decide +kernel
theorem dX12_nightOfAll_43 : decode cX12_nightOfAll 43 = .ok (.aload_n 0, 1) := by decide +kernel
theorem dX12_nightOfAll_44 : decode cX12_nightOfAll 44 = .ok (.invokevirtual 346, 3) := by decide +kernel
theorem dX12_nightOfAll_47 : decode cX12_nightOfAll 47 = .ok (.if_icmp .ge 82, 3) := by decide +kernel
theorem dX12_nightOfAll_50 : decode cX12_nightOfAll 50 = .ok (.aload_n 0, 1) := by decide +kernel
theorem dX12_nightOfAll_51 : decode cX12_nightOfAll 51 = .ok (.getfield 122, 3) := by decide +kernel
theorem dX12_nightOfAll_54 : decode cX12_nightOfAll 54 = .ok (.iload_n 3, 1) := by decide +kernel
theorem dX12_nightOfAll_55 : decode cX12_nightOfAll 55 = .ok (.aload_n 0, 1) := by decide +kernel
theorem dX12_nightOfAll_56 : decode cX12_nightOfAll 56 = .ok (.getfield 113, 3) := by decide +kernel
theorem dX12_nightOfAll_59 : decode cX12_nightOfAll 59 = .ok (.iload_n 3, 1) := by decide +kernel
theorem dX12_nightOfAll_60 : decode cX12_nightOfAll 60 = .ok (.iaload, 1) := by decide +kernel
theorem dX12_nightOfAll_61 : decode cX12_nightOfAll 61 = .ok (.iastore, 1) := by decide +kernel
theorem dX12_nightOfAll_62 : decode cX12_nightOfAll 62 = .ok (.aload_n 0, 1) := by decide +kernel
theorem dX12_nightOfAll_63 : decode cX12_nightOfAll 63 = .ok (.getfield 113, 3) := by decide +kernel
theorem dX12_nightOfAll_66 : decode cX12_nightOfAll 66 = .ok (.iload_n 3, 1) := by decide +kernel
theorem dX12_nightOfAll_67 : decode cX12_nightOfAll 67 = .ok (.iaload, 1) := by decide +kernel
theorem dX12_nightOfAll_68 : decode cX12_nightOfAll 68 = .ok (.ifCond .ge 6, 3) := by decide +kernel
theorem dX12_nightOfAll_71 : decode cX12_nightOfAll 71 = .ok (.goto 52, 3) := by decide +kernel
theorem dX12_nightOfAll_74 : decode cX12_nightOfAll 74 = .ok (.iconst 0, 1) := by decide +kernel
theorem dX12_nightOfAll_75 : decode cX12_nightOfAll 75 = .ok (.istore 4, 2) := by decide +kernel
theorem dX12_nightOfAll_77 : decode cX12_nightOfAll 77 = .ok (.aload_n 0, 1) := by decide +kernel
theorem dX12_nightOfAll_78 : decode cX12_nightOfAll 78 = .ok (.getfield 113, 3) := by decide +kernel
theorem dX12_nightOfAll_81 : decode cX12_nightOfAll 81 = .ok (.iload 4, 2) := by decide +kernel
theorem dX12_nightOfAll_83 : decode cX12_nightOfAll 83 = .ok (.iaload, 1) := by decide +kernel
theorem dX12_nightOfAll_84 : decode cX12_nightOfAll 84 = .ok (.aload_n 0, 1) := by decide +kernel
theorem dX12_nightOfAll_85 : decode cX12_nightOfAll 85 = .ok (.getfield 113, 3) := by decide +kernel
theorem dX12_nightOfAll_88 : decode cX12_nightOfAll 88 = .ok (.iload_n 3, 1) := by decide +kernel
theorem dX12_nightOfAll_89 : decode cX12_nightOfAll 89 = .ok (.iaload, 1) := by decide +kernel
theorem dX12_nightOfAll_90 : decode cX12_nightOfAll 90 = .ok (.if_icmp .ne 19, 3) := by decide +kernel
theorem dX12_nightOfAll_93 : decode cX12_nightOfAll 93 = .ok (.aload_n 0, 1) := by decide +kernel
theorem dX12_nightOfAll_94 : decode cX12_nightOfAll 94 = .ok (.getfield 119, 3) := by decide +kernel
theorem dX12_nightOfAll_97 : decode cX12_nightOfAll 97 = .ok (.iload 4, 2) := by decide +kernel
theorem dX12_nightOfAll_99 : decode cX12_nightOfAll 99 = .ok (.iaload, 1) := by decide +kernel
theorem dX12_nightOfAll_100 : decode cX12_nightOfAll 100 = .ok (.aload_n 0, 1) := by decide +kernel
theorem dX12_nightOfAll_101 : decode cX12_nightOfAll 101 = .ok (.getfield 119, 3) := by decide +kernel
theorem dX12_nightOfAll_104 : decode cX12_nightOfAll 104 = .ok (.iload_n 3, 1) := by decide +kernel
theorem dX12_nightOfAll_105 : decode cX12_nightOfAll 105 = .ok (.iaload, 1) := by decide +kernel
theorem dX12_nightOfAll_106 : decode cX12_nightOfAll 106 = .ok (.if_icmp .eq 9, 3) := by decide +kernel
theorem dX12_nightOfAll_109 : decode cX12_nightOfAll 109 = .ok (.iinc 4 1, 3) := by decide +kernel
theorem dX12_nightOfAll_112 : decode cX12_nightOfAll 112 = .ok (.goto (-35), 3) := by decide +kernel
theorem dX12_nightOfAll_115 : decode cX12_nightOfAll 115 = .ok (.aload_n 0, 1) := by decide +kernel
theorem dX12_nightOfAll_116 : decode cX12_nightOfAll 116 = .ok (.getfield 122, 3) := by decide +kernel
theorem dX12_nightOfAll_119 : decode cX12_nightOfAll 119 = .ok (.iload_n 3, 1) := by decide +kernel
theorem dX12_nightOfAll_120 : decode cX12_nightOfAll 120 = .ok (.iload 4, 2) := by decide +kernel
theorem dX12_nightOfAll_122 : decode cX12_nightOfAll 122 = .ok (.iastore, 1) := by decide +kernel
theorem dX12_nightOfAll_123 : decode cX12_nightOfAll 123 = .ok (.iinc 3 1, 3) := by decide +kernel
theorem dX12_nightOfAll_126 : decode cX12_nightOfAll 126 = .ok (.goto (-84), 3) := by decide +kernel
theorem dX12_nightOfAll_129 : decode cX12_nightOfAll 129 = .ok (.iconst 0, 1) := by decide +kernel
theorem dX12_nightOfAll_130 : decode cX12_nightOfAll 130 = .ok (.istore_n 3, 1) := by decide +kernel
theorem dX12_nightOfAll_131 : decode cX12_nightOfAll 131 = .ok (.iload_n 3, 1) := by decide +kernel
theorem dX12_nightOfAll_132 : decode cX12_nightOfAll 132 = .ok (.aload_n 0, 1) := by decide +kernel
theorem dX12_nightOfAll_133 : decode cX12_nightOfAll 133 = .ok (.invokevirtual 346, 3) := by decide +kernel
theorem dX12_nightOfAll_136 : decode cX12_nightOfAll 136 = .ok (.if_icmp .ge 139, 3) := by decide +kernel
theorem dX12_nightOfAll_139 : decode cX12_nightOfAll 139 = .ok (.aload_n 0, 1) := by decide +kernel
theorem dX12_nightOfAll_140 : decode cX12_nightOfAll 140 = .ok (.getfield 113, 3) := by decide +kernel
theorem dX12_nightOfAll_143 : decode cX12_nightOfAll 143 = .ok (.iload_n 3, 1) := by decide +kernel
theorem dX12_nightOfAll_144 : decode cX12_nightOfAll 144 = .ok (.aload_n 0, 1) := by decide +kernel
theorem dX12_nightOfAll_145 : decode cX12_nightOfAll 145 = .ok (.getfield 122, 3) := by decide +kernel
theorem dX12_nightOfAll_148 : decode cX12_nightOfAll 148 = .ok (.iload_n 3, 1) := by decide +kernel
theorem dX12_nightOfAll_149 : decode cX12_nightOfAll 149 = .ok (.iaload, 1) := by decide +kernel
theorem dX12_nightOfAll_150 : decode cX12_nightOfAll 150 = .ok (.iastore, 1) := by decide +kernel
theorem dX12_nightOfAll_151 : decode cX12_nightOfAll 151 = .ok (.aload_n 0, 1) := by decide +kernel
theorem dX12_nightOfAll_152 : decode cX12_nightOfAll 152 = .ok (.getfield 116, 3) := by decide +kernel
theorem dX12_nightOfAll_155 : decode cX12_nightOfAll 155 = .ok (.iload_n 3, 1) := by decide +kernel
theorem dX12_nightOfAll_156 : decode cX12_nightOfAll 156 = .ok (.dup2, 1) := by decide +kernel
theorem dX12_nightOfAll_157 : decode cX12_nightOfAll 157 = .ok (.iaload, 1) := by decide +kernel
theorem dX12_nightOfAll_158 : decode cX12_nightOfAll 158 = .ok (.aload_n 0, 1) := by decide +kernel
theorem dX12_nightOfAll_159 : decode cX12_nightOfAll 159 = .ok (.getfield 119, 3) := by decide +kernel
theorem dX12_nightOfAll_162 : decode cX12_nightOfAll 162 = .ok (.iload_n 3, 1) := by decide +kernel
theorem dX12_nightOfAll_163 : decode cX12_nightOfAll 163 = .ok (.iaload, 1) := by decide +kernel
theorem dX12_nightOfAll_164 : decode cX12_nightOfAll 164 = .ok (.ior, 1) := by decide +kernel
theorem dX12_nightOfAll_165 : decode cX12_nightOfAll 165 = .ok (.iastore, 1) := by decide +kernel
theorem dX12_nightOfAll_166 : decode cX12_nightOfAll 166 = .ok (.iconst 0, 1) := by decide +kernel
theorem dX12_nightOfAll_167 : decode cX12_nightOfAll 167 = .ok (.istore 4, 2) := by decide +kernel
theorem dX12_nightOfAll_169 : decode cX12_nightOfAll 169 = .ok (.iload 4, 2) := by decide +kernel
theorem dX12_nightOfAll_171 : decode cX12_nightOfAll 171 = .ok (.aload_n 0, 1) := by decide +kernel
theorem dX12_nightOfAll_172 : decode cX12_nightOfAll 172 = .ok (.getfield 267, 3) := by decide +kernel
theorem dX12_nightOfAll_175 : decode cX12_nightOfAll 175 = .ok (.if_icmp .ge 94, 3) := by decide +kernel
theorem dX12_nightOfAll_178 : decode cX12_nightOfAll 178 = .ok (.aload_n 0, 1) := by decide +kernel
theorem dX12_nightOfAll_179 : decode cX12_nightOfAll 179 = .ok (.getfield 104, 3) := by decide +kernel
theorem dX12_nightOfAll_182 : decode cX12_nightOfAll 182 = .ok (.iload 4, 2) := by decide +kernel
theorem dX12_nightOfAll_184 : decode cX12_nightOfAll 184 = .ok (.iaload, 1) := by decide +kernel
theorem dX12_nightOfAll_185 : decode cX12_nightOfAll 185 = .ok (.iload_n 1, 1) := by decide +kernel
theorem dX12_nightOfAll_186 : decode cX12_nightOfAll 186 = .ok (.if_icmp .ne 77, 3) := by decide +kernel
theorem dX12_nightOfAll_189 : decode cX12_nightOfAll 189 = .ok (.aload_n 0, 1) := by decide +kernel
theorem dX12_nightOfAll_190 : decode cX12_nightOfAll 190 = .ok (.getfield 107, 3) := by decide +kernel
theorem dX12_nightOfAll_193 : decode cX12_nightOfAll 193 = .ok (.iload 4, 2) := by decide +kernel
theorem dX12_nightOfAll_195 : decode cX12_nightOfAll 195 = .ok (.iaload, 1) := by decide +kernel
theorem dX12_nightOfAll_196 : decode cX12_nightOfAll 196 = .ok (.iload_n 2, 1) := by decide +kernel
theorem dX12_nightOfAll_197 : decode cX12_nightOfAll 197 = .ok (.if_icmp .gt 66, 3) := by decide +kernel
theorem dX12_nightOfAll_200 : decode cX12_nightOfAll 200 = .ok (.aload_n 0, 1) := by decide +kernel
theorem dX12_nightOfAll_201 : decode cX12_nightOfAll 201 = .ok (.getfield 110, 3) := by decide +kernel
theorem dX12_nightOfAll_204 : decode cX12_nightOfAll 204 = .ok (.iload 4, 2) := by decide +kernel
theorem dX12_nightOfAll_206 : decode cX12_nightOfAll 206 = .ok (.iaload, 1) := by decide +kernel
theorem dX12_nightOfAll_207 : decode cX12_nightOfAll 207 = .ok (.ifCond .lt 14, 3) := by decide +kernel
theorem dX12_nightOfAll_210 : decode cX12_nightOfAll 210 = .ok (.aload_n 0, 1) := by decide +kernel
theorem dX12_nightOfAll_211 : decode cX12_nightOfAll 211 = .ok (.getfield 110, 3) := by decide +kernel
theorem dX12_nightOfAll_214 : decode cX12_nightOfAll 214 = .ok (.iload 4, 2) := by decide +kernel
theorem dX12_nightOfAll_216 : decode cX12_nightOfAll 216 = .ok (.iaload, 1) := by decide +kernel
theorem dX12_nightOfAll_217 : decode cX12_nightOfAll 217 = .ok (.iload_n 2, 1) := by decide +kernel
theorem dX12_nightOfAll_218 : decode cX12_nightOfAll 218 = .ok (.if_icmp .le 45, 3) := by decide +kernel
theorem dX12_nightOfAll_221 : decode cX12_nightOfAll 221 = .ok (.aload_n 0, 1) := by decide +kernel
theorem dX12_nightOfAll_222 : decode cX12_nightOfAll 222 = .ok (.getfield 119, 3) := by decide +kernel
theorem dX12_nightOfAll_225 : decode cX12_nightOfAll 225 = .ok (.iload_n 3, 1) := by decide +kernel
theorem dX12_nightOfAll_226 : decode cX12_nightOfAll 226 = .ok (.iaload, 1) := by decide +kernel
theorem dX12_nightOfAll_227 : decode cX12_nightOfAll 227 = .ok (.aload_n 0, 1) := by decide +kernel
theorem dX12_nightOfAll_228 : decode cX12_nightOfAll 228 = .ok (.getfield 101, 3) := by decide +kernel
theorem dX12_nightOfAll_231 : decode cX12_nightOfAll 231 = .ok (.iload 4, 2) := by decide +kernel
theorem dX12_nightOfAll_233 : decode cX12_nightOfAll 233 = .ok (.iaload, 1) := by decide +kernel
theorem dX12_nightOfAll_234 : decode cX12_nightOfAll 234 = .ok (.ishr, 1) := by decide +kernel
theorem dX12_nightOfAll_235 : decode cX12_nightOfAll 235 = .ok (.iconst 1, 1) := by decide +kernel
theorem dX12_nightOfAll_236 : decode cX12_nightOfAll 236 = .ok (.iand, 1) := by decide +kernel
theorem dX12_nightOfAll_237 : decode cX12_nightOfAll 237 = .ok (.iconst 1, 1) := by decide +kernel
theorem dX12_nightOfAll_238 : decode cX12_nightOfAll 238 = .ok (.if_icmp .ne 7, 3) := by decide +kernel
theorem dX12_nightOfAll_241 : decode cX12_nightOfAll 241 = .ok (.iconst 1, 1) := by decide +kernel
theorem dX12_nightOfAll_242 : decode cX12_nightOfAll 242 = .ok (.goto 4, 3) := by decide +kernel
theorem dX12_nightOfAll_245 : decode cX12_nightOfAll 245 = .ok (.iconst 0, 1) := by decide +kernel
theorem dX12_nightOfAll_246 : decode cX12_nightOfAll 246 = .ok (.aload_n 0, 1) := by decide +kernel
theorem dX12_nightOfAll_247 : decode cX12_nightOfAll 247 = .ok (.getfield 125, 3) := by decide +kernel
theorem dX12_nightOfAll_250 : decode cX12_nightOfAll 250 = .ok (.iload 4, 2) := by decide +kernel
theorem dX12_nightOfAll_252 : decode cX12_nightOfAll 252 = .ok (.baload, 1) := by decide +kernel
theorem dX12_nightOfAll_253 : decode cX12_nightOfAll 253 = .ok (.if_icmp .eq 10, 3) := by decide +kernel
theorem dX12_nightOfAll_256 : decode cX12_nightOfAll 256 = .ok (.aload_n 0, 1) := by decide +kernel
theorem dX12_nightOfAll_257 : decode cX12_nightOfAll 257 = .ok (.getfield 128, 3) := by decide +kernel
theorem dX12_nightOfAll_260 : decode cX12_nightOfAll 260 = .ok (.iload_n 3, 1) := by decide +kernel
theorem dX12_nightOfAll_261 : decode cX12_nightOfAll 261 = .ok (.iconst 0, 1) := by decide +kernel
theorem dX12_nightOfAll_262 : decode cX12_nightOfAll 262 = .ok (.bastore, 1) := by decide +kernel
theorem dX12_nightOfAll_263 : decode cX12_nightOfAll 263 = .ok (.iinc 4 1, 3) := by decide +kernel
theorem dX12_nightOfAll_266 : decode cX12_nightOfAll 266 = .ok (.goto (-97), 3) := by decide +kernel
theorem dX12_nightOfAll_269 : decode cX12_nightOfAll 269 = .ok (.iinc 3 1, 3) := by decide +kernel
theorem dX12_nightOfAll_272 : decode cX12_nightOfAll 272 = .ok (.goto (-141), 3) := by decide +kernel
theorem dX12_nightOfAll_275 : decode cX12_nightOfAll 275 = .ok (.return_, 1) := by decide +kernel
theorem dX12_fitsBy_0 : decode cX12_fitsBy 0 = .ok (.iload_n 1, 1) := by decide +kernel
theorem dX12_fitsBy_1 : decode cX12_fitsBy 1 = .ok (.ifCond .lt 35, 3) := by decide +kernel
theorem dX12_fitsBy_4 : decode cX12_fitsBy 4 = .ok (.aload_n 0, 1) := by decide +kernel
theorem dX12_fitsBy_5 : decode cX12_fitsBy 5 = .ok (.aload_n 0, 1) := by decide +kernel
theorem dX12_fitsBy_6 : decode cX12_fitsBy 6 = .ok (.getfield 39, 3) := by decide +kernel
theorem dX12_fitsBy_9 : decode cX12_fitsBy 9 = .ok (.bipush 6, 2) := by decide +kernel
theorem dX12_fitsBy_11 : decode cX12_fitsBy 11 = .ok (.aload_n 0, 1) := by decide +kernel
theorem dX12_fitsBy_12 : decode cX12_fitsBy 12 = .ok (.getfield 261, 3) := by decide +kernel
theorem dX12_fitsBy_15 : decode cX12_fitsBy 15 = .ok (.imul, 1) := by decide +kernel
theorem dX12_fitsBy_16 : decode cX12_fitsBy 16 = .ok (.iload_n 1, 1) := by decide +kernel
theorem dX12_fitsBy_17 : decode cX12_fitsBy 17 = .ok (.iadd, 1) := by decide +kernel
theorem dX12_fitsBy_18 : decode cX12_fitsBy 18 = .ok (.iaload, 1) := by decide +kernel
theorem dX12_fitsBy_19 : decode cX12_fitsBy 19 = .ok (.aload_n 0, 1) := by decide +kernel
theorem dX12_fitsBy_20 : decode cX12_fitsBy 20 = .ok (.getfield 42, 3) := by decide +kernel
theorem dX12_fitsBy_23 : decode cX12_fitsBy 23 = .ok (.bipush 6, 2) := by decide +kernel
theorem dX12_fitsBy_25 : decode cX12_fitsBy 25 = .ok (.aload_n 0, 1) := by decide +kernel
theorem dX12_fitsBy_26 : decode cX12_fitsBy 26 = .ok (.getfield 261, 3) := by decide +kernel
theorem dX12_fitsBy_29 : decode cX12_fitsBy 29 = .ok (.imul, 1) := by decide +kernel
theorem dX12_fitsBy_30 : decode cX12_fitsBy 30 = .ok (.iload_n 1, 1) := by decide +kernel
theorem dX12_fitsBy_31 : decode cX12_fitsBy 31 = .ok (.iadd, 1) := by decide +kernel
theorem dX12_fitsBy_32 : decode cX12_fitsBy 32 = .ok (.iaload, 1) := by decide +kernel
theorem dX12_fitsBy_33 : decode cX12_fitsBy 33 = .ok (.invokevirtual 407, 3) := by decide +kernel
theorem dX12_fitsBy_36 : decode cX12_fitsBy 36 = .ok (.iconst 0, 1) := by decide +kernel
theorem dX12_fitsBy_37 : decode cX12_fitsBy 37 = .ok (.istore 4, 2) := by decide +kernel
theorem dX12_fitsBy_39 : decode cX12_fitsBy 39 = .ok (.iload 4, 2) := by decide +kernel
theorem dX12_fitsBy_41 : decode cX12_fitsBy 41 = .ok (.aload_n 0, 1) := by decide +kernel
theorem dX12_fitsBy_42 : decode cX12_fitsBy 42 = .ok (.invokevirtual 346, 3) := by decide +kernel
theorem dX12_fitsBy_45 : decode cX12_fitsBy 45 = .ok (.if_icmp .ge 64, 3) := by decide +kernel
theorem dX12_fitsBy_48 : decode cX12_fitsBy 48 = .ok (.iload_n 1, 1) := by decide +kernel
theorem dX12_fitsBy_49 : decode cX12_fitsBy 49 = .ok (.ifCond .lt 13, 3) := by decide +kernel
theorem dX12_fitsBy_52 : decode cX12_fitsBy 52 = .ok (.aload_n 0, 1) := by decide +kernel
theorem dX12_fitsBy_53 : decode cX12_fitsBy 53 = .ok (.getfield 83, 3) := by decide +kernel
theorem dX12_fitsBy_56 : decode cX12_fitsBy 56 = .ok (.iload 4, 2) := by decide +kernel
theorem dX12_fitsBy_58 : decode cX12_fitsBy 58 = .ok (.iaload, 1) := by decide +kernel
theorem dX12_fitsBy_59 : decode cX12_fitsBy 59 = .ok (.ifCond .eq 7, 3) := by decide +kernel
theorem dX12_fitsBy_62 : decode cX12_fitsBy 62 = .ok (.iconst 1, 1) := by decide +kernel
theorem dX12_fitsBy_63 : decode cX12_fitsBy 63 = .ok (.goto 4, 3) := by decide +kernel
theorem dX12_fitsBy_66 : decode cX12_fitsBy 66 = .ok (.iconst 0, 1) := by decide +kernel
theorem dX12_fitsBy_67 : decode cX12_fitsBy 67 = .ok (.istore 5, 2) := by decide +kernel
theorem dX12_fitsBy_69 : decode cX12_fitsBy 69 = .ok (.aload_n 0, 1) := by decide +kernel
theorem dX12_fitsBy_70 : decode cX12_fitsBy 70 = .ok (.getfield 113, 3) := by decide +kernel
theorem dX12_fitsBy_73 : decode cX12_fitsBy 73 = .ok (.iload 4, 2) := by decide +kernel
theorem dX12_fitsBy_75 : decode cX12_fitsBy 75 = .ok (.iload 5, 2) := by decide +kernel
theorem dX12_fitsBy_77 : decode cX12_fitsBy 77 = .ok (.ifCond .eq 7, 3) := by decide +kernel
theorem dX12_fitsBy_80 : decode cX12_fitsBy 80 = .ok (.iconst 0, 1) := by decide +kernel
theorem dX12_fitsBy_81 : decode cX12_fitsBy 81 = .ok (.goto 4, 3) := by decide +kernel
theorem dX12_fitsBy_84 : decode cX12_fitsBy 84 = .ok (.iconst (-1), 1) := by decide +kernel
theorem dX12_fitsBy_85 : decode cX12_fitsBy 85 = .ok (.iastore, 1) := by decide +kernel
theorem dX12_fitsBy_86 : decode cX12_fitsBy 86 = .ok (.aload_n 0, 1) := by decide +kernel
theorem dX12_fitsBy_87 : decode cX12_fitsBy 87 = .ok (.getfield 128, 3) := by decide +kernel
theorem dX12_fitsBy_90 : decode cX12_fitsBy 90 = .ok (.iload 4, 2) := by decide +kernel
theorem dX12_fitsBy_92 : decode cX12_fitsBy 92 = .ok (.iload 5, 2) := by decide +kernel
theorem dX12_fitsBy_94 : decode cX12_fitsBy 94 = .ok (.bastore, 1) := by decide +kernel
theorem dX12_fitsBy_95 : decode cX12_fitsBy 95 = .ok (.aload_n 0, 1) := by decide +kernel
theorem dX12_fitsBy_96 : decode cX12_fitsBy 96 = .ok (.getfield 116, 3) := by decide +kernel
theorem dX12_fitsBy_99 : decode cX12_fitsBy 99 = .ok (.iload 4, 2) := by decide +kernel
theorem dX12_fitsBy_101 : decode cX12_fitsBy 101 = .ok (.iconst 0, 1) := by decide +kernel
theorem dX12_fitsBy_102 : decode cX12_fitsBy 102 = .ok (.iastore, 1) := by decide +kernel
theorem dX12_fitsBy_103 : decode cX12_fitsBy 103 = .ok (.iinc 4 1, 3) := by decide +kernel
theorem dX12_fitsBy_106 : decode cX12_fitsBy 106 = .ok (.goto (-67), 3) := by decide +kernel
theorem dX12_fitsBy_109 : decode cX12_fitsBy 109 = .ok (.iconst 1, 1) := by decide +kernel
theorem dX12_fitsBy_110 : decode cX12_fitsBy 110 = .ok (.istore 4, 2) := by decide +kernel
theorem dX12_fitsBy_112 : decode cX12_fitsBy 112 = .ok (.iload 4, 2) := by decide +kernel
theorem dX12_fitsBy_114 : decode cX12_fitsBy 114 = .ok (.bipush 12, 2) := by decide +kernel
theorem dX12_fitsBy_116 : decode cX12_fitsBy 116 = .ok (.if_icmp .gt 16, 3) := by decide +kernel
theorem dX12_fitsBy_119 : decode cX12_fitsBy 119 = .ok (.aload_n 0, 1) := by decide +kernel
theorem dX12_fitsBy_120 : decode cX12_fitsBy 120 = .ok (.iload 4, 2) := by decide +kernel
theorem dX12_fitsBy_122 : decode cX12_fitsBy 122 = .ok (.iload_n 2, 1) := by decide +kernel
theorem dX12_fitsBy_123 : decode cX12_fitsBy 123 = .ok (.invokevirtual 448, 3) := by decide +kernel
theorem dX12_fitsBy_126 : decode cX12_fitsBy 126 = .ok (.iinc 4 1, 3) := by decide +kernel
theorem dX12_fitsBy_129 : decode cX12_fitsBy 129 = .ok (.goto (-17), 3) := by decide +kernel
theorem dX12_fitsBy_132 : decode cX12_fitsBy 132 = .ok (.iconst 0, 1) := by decide +kernel
theorem dX12_fitsBy_133 : decode cX12_fitsBy 133 = .ok (.istore 4, 2) := by decide +kernel
theorem dX12_fitsBy_135 : decode cX12_fitsBy 135 = .ok (.iconst 0, 1) := by decide +kernel
theorem dX12_fitsBy_136 : decode cX12_fitsBy 136 = .ok (.istore 5, 2) := by decide +kernel
theorem dX12_fitsBy_138 : decode cX12_fitsBy 138 = .ok (.iload 5, 2) := by decide +kernel
theorem dX12_fitsBy_140 : decode cX12_fitsBy 140 = .ok (.aload_n 0, 1) := by decide +kernel
theorem dX12_fitsBy_141 : decode cX12_fitsBy 141 = .ok (.invokevirtual 346, 3) := by decide +kernel
theorem dX12_fitsBy_144 : decode cX12_fitsBy 144 = .ok (.if_icmp .ge 42, 3) := by decide +kernel
theorem dX12_fitsBy_147 : decode cX12_fitsBy 147 = .ok (.aload_n 0, 1) := by decide +kernel
theorem dX12_fitsBy_148 : decode cX12_fitsBy 148 = .ok (.getfield 128, 3) := by decide +kernel
theorem dX12_fitsBy_151 : decode cX12_fitsBy 151 = .ok (.iload 5, 2) := by decide +kernel
theorem dX12_fitsBy_153 : decode cX12_fitsBy 153 = .ok (.baload, 1) := by decide +kernel
theorem dX12_fitsBy_154 : decode cX12_fitsBy 154 = .ok (.ifCond .ne 6, 3) := by decide +kernel
theorem dX12_fitsBy_157 : decode cX12_fitsBy 157 = .ok (.goto 23, 3) := by decide +kernel
theorem dX12_fitsBy_160 : decode cX12_fitsBy 160 = .ok (.iinc 4 1, 3) := by decide +kernel
theorem dX12_fitsBy_163 : decode cX12_fitsBy 163 = .ok (.aload_n 0, 1) := by decide +kernel
theorem dX12_fitsBy_164 : decode cX12_fitsBy 164 = .ok (.dup, 1) := by decide +kernel
theorem dX12_fitsBy_165 : decode cX12_fitsBy 165 = .ok (.getfield 451, 3) := by decide +kernel
theorem dX12_fitsBy_168 : decode cX12_fitsBy 168 = .ok (.iconst 1, 1) := by decide +kernel
theorem dX12_fitsBy_169 : decode cX12_fitsBy 169 = .ok (.iload 5, 2) := by decide +kernel
theorem dX12_fitsBy_171 : decode cX12_fitsBy 171 = .ok (.iload_n 3, 1) := by decide +kernel
theorem dX12_fitsBy_172 : decode cX12_fitsBy 172 = .ok (.ishr, 1) := by decide +kernel
theorem dX12_fitsBy_173 : decode cX12_fitsBy 173 = .ok (.iconst 1, 1) := by decide +kernel
theorem dX12_fitsBy_174 : decode cX12_fitsBy 174 = .ok (.iand, 1) := by decide +kernel
theorem dX12_fitsBy_175 : decode cX12_fitsBy 175 = .ok (.ishl, 1) := by decide +kernel
theorem dX12_fitsBy_176 : decode cX12_fitsBy 176 = .ok (.ior, 1) := by decide +kernel
theorem dX12_fitsBy_177 : decode cX12_fitsBy 177 = .ok (.putfield 451, 3) := by decide +kernel
theorem dX12_fitsBy_180 : decode cX12_fitsBy 180 = .ok (.iinc 5 1, 3) := by decide +kernel
theorem dX12_fitsBy_183 : decode cX12_fitsBy 183 = .ok (.goto (-45), 3) := by decide +kernel
theorem dX12_fitsBy_186 : decode cX12_fitsBy 186 = .ok (.iload 4, 2) := by decide +kernel
theorem dX12_fitsBy_188 : decode cX12_fitsBy 188 = .ok (.ireturn, 1) := by decide +kernel
theorem dX12_fitsOf_0 : decode cX12_fitsOf 0 = .ok (.aload_n 0, 1) := by decide +kernel
theorem dX12_fitsOf_1 : decode cX12_fitsOf 1 = .ok (.iconst 3, 1) := by decide +kernel
theorem dX12_fitsOf_2 : decode cX12_fitsOf 2 = .ok (.invokevirtual 428, 3) := by decide +kernel
theorem dX12_fitsOf_5 : decode cX12_fitsOf 5 = .ok (.aload_n 0, 1) := by decide +kernel
theorem dX12_fitsOf_6 : decode cX12_fitsOf 6 = .ok (.invokevirtual 152, 3) := by decide +kernel
theorem dX12_fitsOf_9 : decode cX12_fitsOf 9 = .ok (.aload_n 0, 1) := by decide +kernel
theorem dX12_fitsOf_10 : decode cX12_fitsOf 10 = .ok (.iconst 0, 1) := by decide +kernel
theorem dX12_fitsOf_11 : decode cX12_fitsOf 11 = .ok (.putfield 451, 3) := by decide +kernel
theorem dX12_fitsOf_14 : decode cX12_fitsOf 14 = .ok (.iconst 0, 1) := by decide +kernel
theorem dX12_fitsOf_15 : decode cX12_fitsOf 15 = .ok (.istore_n 3, 1) := by decide +kernel
theorem dX12_fitsOf_16 : decode cX12_fitsOf 16 = .ok (.iconst (-1), 1) := by decide +kernel
theorem dX12_fitsOf_17 : decode cX12_fitsOf 17 = .ok (.istore 4, 2) := by decide +kernel
theorem dX12_fitsOf_19 : decode cX12_fitsOf 19 = .ok (.iload 4, 2) := by decide +kernel
theorem dX12_fitsOf_21 : decode cX12_fitsOf 21 = .ok (.aload_n 0, 1) := by decide +kernel
theorem dX12_fitsOf_22 : decode cX12_fitsOf 22 = .ok (.getfield 27, 3) := by decide +kernel
theorem dX12_fitsOf_25 : decode cX12_fitsOf 25 = .ok (.aload_n 0, 1) := by decide +kernel
theorem dX12_fitsOf_26 : decode cX12_fitsOf 26 = .ok (.getfield 261, 3) := by decide +kernel
theorem dX12_fitsOf_29 : decode cX12_fitsOf 29 = .ok (.iaload, 1) := by decide +kernel
theorem dX12_fitsOf_30 : decode cX12_fitsOf 30 = .ok (.if_icmp .ge 20, 3) := by decide +kernel
theorem dX12_fitsOf_33 : decode cX12_fitsOf 33 = .ok (.iload_n 3, 1) := by decide +kernel
theorem dX12_fitsOf_34 : decode cX12_fitsOf 34 = .ok (.aload_n 0, 1) := by decide +kernel
theorem dX12_fitsOf_35 : decode cX12_fitsOf 35 = .ok (.iload 4, 2) := by decide +kernel
theorem dX12_fitsOf_37 : decode cX12_fitsOf 37 = .ok (.iload_n 1, 1) := by decide +kernel
theorem dX12_fitsOf_38 : decode cX12_fitsOf 38 = .ok (.iload_n 2, 1) := by decide +kernel
theorem dX12_fitsOf_39 : decode cX12_fitsOf 39 = .ok (.invokevirtual 454, 3) := by decide +kernel
theorem dX12_fitsOf_42 : decode cX12_fitsOf 42 = .ok (.iadd, 1) := by decide +kernel
theorem dX12_fitsOf_43 : decode cX12_fitsOf 43 = .ok (.istore_n 3, 1) := by decide +kernel
theorem dX12_fitsOf_44 : decode cX12_fitsOf 44 = .ok (.iinc 4 1, 3) := by decide +kernel
theorem dX12_fitsOf_47 : decode cX12_fitsOf 47 = .ok (.goto (-28), 3) := by decide +kernel
theorem dX12_fitsOf_50 : decode cX12_fitsOf 50 = .ok (.aload_n 0, 1) := by decide +kernel
theorem dX12_fitsOf_51 : decode cX12_fitsOf 51 = .ok (.iconst 3, 1) := by decide +kernel
theorem dX12_fitsOf_52 : decode cX12_fitsOf 52 = .ok (.invokevirtual 431, 3) := by decide +kernel
theorem dX12_fitsOf_55 : decode cX12_fitsOf 55 = .ok (.iload_n 3, 1) := by decide +kernel
theorem dX12_fitsOf_56 : decode cX12_fitsOf 56 = .ok (.ireturn, 1) := by decide +kernel
theorem dX12_fits_0 : decode cX12_fits 0 = .ok (.aload_n 0, 1) := by decide +kernel
theorem dX12_fits_1 : decode cX12_fits 1 = .ok (.invokevirtual 339, 3) := by decide +kernel
theorem dX12_fits_4 : decode cX12_fits 4 = .ok (.bipush 6, 2) := by decide +kernel
theorem dX12_fits_6 : decode cX12_fits 6 = .ok (.if_icmp .le 8, 3) := by decide +kernel
theorem dX12_fits_9 : decode cX12_fits 9 = .ok (.bipush (-2), 2) := by decide +kernel
theorem dX12_fits_11 : decode cX12_fits 11 = .ok (.goto 9, 3) := by decide +kernel
theorem dX12_fits_14 : decode cX12_fits 14 = .ok (.aload_n 0, 1) := by decide +kernel
theorem dX12_fits_15 : decode cX12_fits 15 = .ok (.iload_n 1, 1) := by decide +kernel
theorem dX12_fits_16 : decode cX12_fits 16 = .ok (.iconst 0, 1) := by decide +kernel
theorem dX12_fits_17 : decode cX12_fits 17 = .ok (.invokevirtual 457, 3) := by decide +kernel
theorem dX12_fits_20 : decode cX12_fits 20 = .ok (.ireturn, 1) := by decide +kernel
theorem dX12_sure_0 : decode cX12_sure 0 = .ok (.aload_n 0, 1) := by decide +kernel
theorem dX12_sure_1 : decode cX12_sure 1 = .ok (.iload_n 1, 1) := by decide +kernel
theorem dX12_sure_2 : decode cX12_sure 2 = .ok (.invokevirtual 365, 3) := by decide +kernel
theorem dX12_sure_5 : decode cX12_sure 5 = .ok (.ifCond .ne 5, 3) := by decide +kernel
theorem dX12_sure_8 : decode cX12_sure 8 = .ok (.iconst (-1), 1) := by decide +kernel
theorem dX12_sure_9 : decode cX12_sure 9 = .ok (.ireturn, 1) := by decide +kernel
theorem dX12_sure_10 : decode cX12_sure 10 = .ok (.aload_n 0, 1) := by decide +kernel
theorem dX12_sure_11 : decode cX12_sure 11 = .ok (.invokevirtual 339, 3) := by decide +kernel
theorem dX12_sure_14 : decode cX12_sure 14 = .ok (.bipush 6, 2) := by decide +kernel
theorem dX12_sure_16 : decode cX12_sure 16 = .ok (.if_icmp .le 6, 3) := by decide +kernel
theorem dX12_sure_19 : decode cX12_sure 19 = .ok (.bipush (-3), 2) := by decide +kernel
theorem dX12_sure_21 : decode cX12_sure 21 = .ok (.ireturn, 1) := by decide +kernel
theorem dX12_sure_22 : decode cX12_sure 22 = .ok (.aload_n 0, 1) := by decide +kernel
theorem dX12_sure_23 : decode cX12_sure 23 = .ok (.iload_n 2, 1) := by decide +kernel
theorem dX12_sure_24 : decode cX12_sure 24 = .ok (.iload_n 1, 1) := by decide +kernel
theorem dX12_sure_25 : decode cX12_sure 25 = .ok (.invokevirtual 457, 3) := by decide +kernel
theorem dX12_sure_28 : decode cX12_sure 28 = .ok (.ifCond .ne 7, 3) := by decide +kernel
theorem dX12_sure_31 : decode cX12_sure 31 = .ok (.iconst (-1), 1) := by decide +kernel
theorem dX12_sure_32 : decode cX12_sure 32 = .ok (.goto 22, 3) := by decide +kernel
theorem dX12_sure_35 : decode cX12_sure 35 = .ok (.aload_n 0, 1) := by decide +kernel
theorem dX12_sure_36 : decode cX12_sure 36 = .ok (.getfield 451, 3) := by decide +kernel
theorem dX12_sure_39 : decode cX12_sure 39 = .ok (.iconst 3, 1) := by decide +kernel
theorem dX12_sure_40 : decode cX12_sure 40 = .ok (.if_icmp .ne 8, 3) := by decide +kernel
theorem dX12_sure_43 : decode cX12_sure 43 = .ok (.bipush (-2), 2) := by decide +kernel
theorem dX12_sure_45 : decode cX12_sure 45 = .ok (.goto 9, 3) := by decide +kernel
theorem dX12_sure_48 : decode cX12_sure 48 = .ok (.aload_n 0, 1) := by decide +kernel
theorem dX12_sure_49 : decode cX12_sure 49 = .ok (.getfield 451, 3) := by decide +kernel
theorem dX12_sure_52 : decode cX12_sure 52 = .ok (.iconst 1, 1) := by decide +kernel
theorem dX12_sure_53 : decode cX12_sure 53 = .ok (.isub, 1) := by decide +kernel
theorem dX12_sure_54 : decode cX12_sure 54 = .ok (.ireturn, 1) := by decide +kernel
theorem dX12_keep_0 : decode cX12_keep 0 = .ok (.aload_n 0, 1) := by decide +kernel
theorem dX12_keep_1 : decode cX12_keep 1 = .ok (.getfield 131, 3) := by decide +kernel
theorem dX12_keep_4 : decode cX12_keep 4 = .ok (.iload_n 1, 1) := by decide +kernel
theorem dX12_keep_5 : decode cX12_keep 5 = .ok (.aload_n 0, 1) := by decide +kernel
theorem dX12_keep_6 : decode cX12_keep 6 = .ok (.getfield 356, 3) := by decide +kernel
theorem dX12_keep_9 : decode cX12_keep 9 = .ok (.iastore, 1) := by decide +kernel
theorem dX12_keep_10 : decode cX12_keep 10 = .ok (.aload_n 0, 1) := by decide +kernel
theorem dX12_keep_11 : decode cX12_keep 11 = .ok (.getfield 134, 3) := by decide +kernel
theorem dX12_keep_14 : decode cX12_keep 14 = .ok (.iload_n 1, 1) := by decide +kernel
theorem dX12_keep_15 : decode cX12_keep 15 = .ok (.aload_n 0, 1) := by decide +kernel
theorem dX12_keep_16 : decode cX12_keep 16 = .ok (.getfield 359, 3) := by decide +kernel
theorem dX12_keep_19 : decode cX12_keep 19 = .ok (.iastore, 1) := by decide +kernel
theorem dX12_keep_20 : decode cX12_keep 20 = .ok (.aload_n 0, 1) := by decide +kernel
theorem dX12_keep_21 : decode cX12_keep 21 = .ok (.getfield 137, 3) := by decide +kernel
theorem dX12_keep_24 : decode cX12_keep 24 = .ok (.iload_n 1, 1) := by decide +kernel
theorem dX12_keep_25 : decode cX12_keep 25 = .ok (.aload_n 0, 1) := by decide +kernel
theorem dX12_keep_26 : decode cX12_keep 26 = .ok (.getfield 353, 3) := by decide +kernel
theorem dX12_keep_29 : decode cX12_keep 29 = .ok (.iastore, 1) := by decide +kernel
theorem dX12_keep_30 : decode cX12_keep 30 = .ok (.iconst 0, 1) := by decide +kernel
theorem dX12_keep_31 : decode cX12_keep 31 = .ok (.istore_n 2, 1) := by decide +kernel
theorem dX12_keep_32 : decode cX12_keep 32 = .ok (.iload_n 2, 1) := by decide +kernel
theorem dX12_keep_33 : decode cX12_keep 33 = .ok (.sipush 256, 3) := by decide +kernel
theorem dX12_keep_36 : decode cX12_keep 36 = .ok (.if_icmp .ge 27, 3) := by decide +kernel
theorem dX12_keep_39 : decode cX12_keep 39 = .ok (.aload_n 0, 1) := by decide +kernel
theorem dX12_keep_40 : decode cX12_keep 40 = .ok (.getfield 143, 3) := by decide +kernel
theorem dX12_keep_43 : decode cX12_keep 43 = .ok (.sipush 256, 3) := by decide +kernel
theorem dX12_keep_46 : decode cX12_keep 46 = .ok (.iload_n 1, 1) := by decide +kernel
theorem dX12_keep_47 : decode cX12_keep 47 = .ok (.imul, 1) := by decide +kernel
theorem dX12_keep_48 : decode cX12_keep 48 = .ok (.iload_n 2, 1) := by decide +kernel
theorem dX12_keep_49 : decode cX12_keep 49 = .ok (.iadd, 1) := by decide +kernel
theorem dX12_keep_50 : decode cX12_keep 50 = .ok (.aload_n 0, 1) := by decide +kernel
theorem dX12_keep_51 : decode cX12_keep 51 = .ok (.getfield 74, 3) := by decide +kernel
theorem dX12_keep_54 : decode cX12_keep 54 = .ok (.iload_n 2, 1) := by decide +kernel
theorem dX12_keep_55 : decode cX12_keep 55 = .ok (.baload, 1) := by decide +kernel
theorem dX12_keep_56 : decode cX12_keep 56 = .ok (.bastore, 1) := by decide +kernel
theorem dX12_keep_57 : decode cX12_keep 57 = .ok (.iinc 2 1, 3) := by decide +kernel
theorem dX12_keep_60 : decode cX12_keep 60 = .ok (.goto (-28), 3) := by decide +kernel
theorem dX12_keep_63 : decode cX12_keep 63 = .ok (.iconst 0, 1) := by decide +kernel
theorem dX12_keep_64 : decode cX12_keep 64 = .ok (.istore_n 2, 1) := by decide +kernel
theorem dX12_keep_65 : decode cX12_keep 65 = .ok (.iload_n 2, 1) := by decide +kernel
theorem dX12_keep_66 : decode cX12_keep 66 = .ok (.bipush 8, 2) := by decide +kernel
theorem dX12_keep_68 : decode cX12_keep 68 = .ok (.if_icmp .ge 26, 3) := by decide +kernel
theorem dX12_keep_71 : decode cX12_keep 71 = .ok (.aload_n 0, 1) := by decide +kernel
theorem dX12_keep_72 : decode cX12_keep 72 = .ok (.getfield 140, 3) := by decide +kernel
theorem dX12_keep_75 : decode cX12_keep 75 = .ok (.bipush 8, 2) := by decide +kernel
theorem dX12_keep_77 : decode cX12_keep 77 = .ok (.iload_n 1, 1) := by decide +kernel
theorem dX12_keep_78 : decode cX12_keep 78 = .ok (.imul, 1) := by decide +kernel
theorem dX12_keep_79 : decode cX12_keep 79 = .ok (.iload_n 2, 1) := by decide +kernel
theorem dX12_keep_80 : decode cX12_keep 80 = .ok (.iadd, 1) := by decide +kernel
theorem dX12_keep_81 : decode cX12_keep 81 = .ok (.aload_n 0, 1) := by decide +kernel
theorem dX12_keep_82 : decode cX12_keep 82 = .ok (.getfield 80, 3) := by decide +kernel
theorem dX12_keep_85 : decode cX12_keep 85 = .ok (.iload_n 2, 1) := by decide +kernel
theorem dX12_keep_86 : decode cX12_keep 86 = .ok (.iaload, 1) := by decide +kernel
theorem dX12_keep_87 : decode cX12_keep 87 = .ok (.iastore, 1) := by decide +kernel
theorem dX12_keep_88 : decode cX12_keep 88 = .ok (.iinc 2 1, 3) := by decide +kernel
theorem dX12_keep_91 : decode cX12_keep 91 = .ok (.goto (-26), 3) := by decide +kernel
theorem dX12_keep_94 : decode cX12_keep 94 = .ok (.iconst 0, 1) := by decide +kernel
theorem dX12_keep_95 : decode cX12_keep 95 = .ok (.istore_n 2, 1) := by decide +kernel
theorem dX12_keep_96 : decode cX12_keep 96 = .ok (.iload_n 2, 1) := by decide +kernel
theorem dX12_keep_97 : decode cX12_keep 97 = .ok (.sipush 2048, 3) := by decide +kernel
theorem dX12_keep_100 : decode cX12_keep 100 = .ok (.if_icmp .ge 27, 3) := by decide +kernel
theorem dX12_keep_103 : decode cX12_keep 103 = .ok (.aload_n 0, 1) := by decide +kernel
theorem dX12_keep_104 : decode cX12_keep 104 = .ok (.getfield 146, 3) := by decide +kernel
theorem dX12_keep_107 : decode cX12_keep 107 = .ok (.sipush 2048, 3) := by decide +kernel
theorem dX12_keep_110 : decode cX12_keep 110 = .ok (.iload_n 1, 1) := by decide +kernel
theorem dX12_keep_111 : decode cX12_keep 111 = .ok (.imul, 1) := by decide +kernel
theorem dX12_keep_112 : decode cX12_keep 112 = .ok (.iload_n 2, 1) := by decide +kernel
theorem dX12_keep_113 : decode cX12_keep 113 = .ok (.iadd, 1) := by decide +kernel
theorem dX12_keep_114 : decode cX12_keep 114 = .ok (.aload_n 0, 1) := by decide +kernel
theorem dX12_keep_115 : decode cX12_keep 115 = .ok (.getfield 77, 3) := by decide +kernel
theorem dX12_keep_118 : decode cX12_keep 118 = .ok (.iload_n 2, 1) := by decide +kernel
theorem dX12_keep_119 : decode cX12_keep 119 = .ok (.baload, 1) := by decide +kernel
theorem dX12_keep_120 : decode cX12_keep 120 = .ok (.bastore, 1) := by decide +kernel
theorem dX12_keep_121 : decode cX12_keep 121 = .ok (.iinc 2 1, 3) := by decide +kernel
theorem dX12_keep_124 : decode cX12_keep 124 = .ok (.goto (-28), 3) := by decide +kernel
theorem dX12_keep_127 : decode cX12_keep 127 = .ok (.return_, 1) := by decide +kernel
theorem dX12_bring_0 : decode cX12_bring 0 = .ok (.aload_n 0, 1) := by decide +kernel
theorem dX12_bring_1 : decode cX12_bring 1 = .ok (.iconst 0, 1) := by decide +kernel
theorem dX12_bring_2 : decode cX12_bring 2 = .ok (.putfield 349, 3) := by decide +kernel
theorem dX12_bring_5 : decode cX12_bring 5 = .ok (.aload_n 0, 1) := by decide +kernel
theorem dX12_bring_6 : decode cX12_bring 6 = .ok (.aload_n 0, 1) := by decide +kernel
theorem dX12_bring_7 : decode cX12_bring 7 = .ok (.getfield 131, 3) := by decide +kernel
theorem dX12_bring_10 : decode cX12_bring 10 = .ok (.iload_n 1, 1) := by decide +kernel
theorem dX12_bring_11 : decode cX12_bring 11 = .ok (.iaload, 1) := by decide +kernel
theorem dX12_bring_12 : decode cX12_bring 12 = .ok (.putfield 356, 3) := by decide +kernel
theorem dX12_bring_15 : decode cX12_bring 15 = .ok (.aload_n 0, 1) := by decide +kernel
theorem dX12_bring_16 : decode cX12_bring 16 = .ok (.aload_n 0, 1) := by decide +kernel
theorem dX12_bring_17 : decode cX12_bring 17 = .ok (.getfield 134, 3) := by decide +kernel
theorem dX12_bring_20 : decode cX12_bring 20 = .ok (.iload_n 1, 1) := by decide +kernel
theorem dX12_bring_21 : decode cX12_bring 21 = .ok (.iaload, 1) := by decide +kernel
theorem dX12_bring_22 : decode cX12_bring 22 = .ok (.putfield 359, 3) := by decide +kernel
theorem dX12_bring_25 : decode cX12_bring 25 = .ok (.aload_n 0, 1) := by decide +kernel
theorem dX12_bring_26 : decode cX12_bring 26 = .ok (.aload_n 0, 1) := by decide +kernel
theorem dX12_bring_27 : decode cX12_bring 27 = .ok (.getfield 137, 3) := by decide +kernel
theorem dX12_bring_30 : decode cX12_bring 30 = .ok (.iload_n 1, 1) := by decide +kernel
theorem dX12_bring_31 : decode cX12_bring 31 = .ok (.iaload, 1) := by decide +kernel
theorem dX12_bring_32 : decode cX12_bring 32 = .ok (.putfield 353, 3) := by decide +kernel
theorem dX12_bring_35 : decode cX12_bring 35 = .ok (.iconst 0, 1) := by decide +kernel
theorem dX12_bring_36 : decode cX12_bring 36 = .ok (.istore_n 2, 1) := by decide +kernel
theorem dX12_bring_37 : decode cX12_bring 37 = .ok (.iload_n 2, 1) := by decide +kernel
theorem dX12_bring_38 : decode cX12_bring 38 = .ok (.sipush 256, 3) := by decide +kernel
theorem dX12_bring_41 : decode cX12_bring 41 = .ok (.if_icmp .ge 27, 3) := by decide +kernel
theorem dX12_bring_44 : decode cX12_bring 44 = .ok (.aload_n 0, 1) := by decide +kernel
theorem dX12_bring_45 : decode cX12_bring 45 = .ok (.getfield 74, 3) := by decide +kernel
theorem dX12_bring_48 : decode cX12_bring 48 = .ok (.iload_n 2, 1) := by decide +kernel
theorem dX12_bring_49 : decode cX12_bring 49 = .ok (.aload_n 0, 1) := by decide +kernel
theorem dX12_bring_50 : decode cX12_bring 50 = .ok (.getfield 143, 3) := by decide +kernel
theorem dX12_bring_53 : decode cX12_bring 53 = .ok (.sipush 256, 3) := by decide +kernel
theorem dX12_bring_56 : decode cX12_bring 56 = .ok (.iload_n 1, 1) := by decide +kernel
theorem dX12_bring_57 : decode cX12_bring 57 = .ok (.imul, 1) := by decide +kernel
theorem dX12_bring_58 : decode cX12_bring 58 = .ok (.iload_n 2, 1) := by decide +kernel
theorem dX12_bring_59 : decode cX12_bring 59 = .ok (.iadd, 1) := by decide +kernel
theorem dX12_bring_60 : decode cX12_bring 60 = .ok (.baload, 1) := by decide +kernel
theorem dX12_bring_61 : decode cX12_bring 61 = .ok (.bastore, 1) := by decide +kernel
theorem dX12_bring_62 : decode cX12_bring 62 = .ok (.iinc 2 1, 3) := by decide +kernel
theorem dX12_bring_65 : decode cX12_bring 65 = .ok (.goto (-28), 3) := by decide +kernel
theorem dX12_bring_68 : decode cX12_bring 68 = .ok (.iconst 0, 1) := by decide +kernel
theorem dX12_bring_69 : decode cX12_bring 69 = .ok (.istore_n 2, 1) := by decide +kernel
theorem dX12_bring_70 : decode cX12_bring 70 = .ok (.iload_n 2, 1) := by decide +kernel
theorem dX12_bring_71 : decode cX12_bring 71 = .ok (.bipush 8, 2) := by decide +kernel
theorem dX12_bring_73 : decode cX12_bring 73 = .ok (.if_icmp .ge 26, 3) := by decide +kernel
theorem dX12_bring_76 : decode cX12_bring 76 = .ok (.aload_n 0, 1) := by decide +kernel
theorem dX12_bring_77 : decode cX12_bring 77 = .ok (.getfield 80, 3) := by decide +kernel
theorem dX12_bring_80 : decode cX12_bring 80 = .ok (.iload_n 2, 1) := by decide +kernel
theorem dX12_bring_81 : decode cX12_bring 81 = .ok (.aload_n 0, 1) := by decide +kernel
theorem dX12_bring_82 : decode cX12_bring 82 = .ok (.getfield 140, 3) := by decide +kernel
theorem dX12_bring_85 : decode cX12_bring 85 = .ok (.bipush 8, 2) := by decide +kernel
theorem dX12_bring_87 : decode cX12_bring 87 = .ok (.iload_n 1, 1) := by decide +kernel
theorem dX12_bring_88 : decode cX12_bring 88 = .ok (.imul, 1) := by decide +kernel
theorem dX12_bring_89 : decode cX12_bring 89 = .ok (.iload_n 2, 1) := by decide +kernel
theorem dX12_bring_90 : decode cX12_bring 90 = .ok (.iadd, 1) := by decide +kernel
theorem dX12_bring_91 : decode cX12_bring 91 = .ok (.iaload, 1) := by decide +kernel
theorem dX12_bring_92 : decode cX12_bring 92 = .ok (.iastore, 1) := by decide +kernel
theorem dX12_bring_93 : decode cX12_bring 93 = .ok (.iinc 2 1, 3) := by decide +kernel
theorem dX12_bring_96 : decode cX12_bring 96 = .ok (.goto (-26), 3) := by decide +kernel
theorem dX12_bring_99 : decode cX12_bring 99 = .ok (.iconst 0, 1) := by decide +kernel
theorem dX12_bring_100 : decode cX12_bring 100 = .ok (.istore_n 2, 1) := by decide +kernel
theorem dX12_bring_101 : decode cX12_bring 101 = .ok (.iload_n 2, 1) := by decide +kernel
theorem dX12_bring_102 : decode cX12_bring 102 = .ok (.sipush 2048, 3) := by decide +kernel
theorem dX12_bring_105 : decode cX12_bring 105 = .ok (.if_icmp .ge 27, 3) := by decide +kernel
theorem dX12_bring_108 : decode cX12_bring 108 = .ok (.aload_n 0, 1) := by decide +kernel
theorem dX12_bring_109 : decode cX12_bring 109 = .ok (.getfield 77, 3) := by decide +kernel
theorem dX12_bring_112 : decode cX12_bring 112 = .ok (.iload_n 2, 1) := by decide +kernel
theorem dX12_bring_113 : decode cX12_bring 113 = .ok (.aload_n 0, 1) := by decide +kernel
theorem dX12_bring_114 : decode cX12_bring 114 = .ok (.getfield 146, 3) := by decide +kernel
theorem dX12_bring_117 : decode cX12_bring 117 = .ok (.sipush 2048, 3) := by decide +kernel
theorem dX12_bring_120 : decode cX12_bring 120 = .ok (.iload_n 1, 1) := by decide +kernel
theorem dX12_bring_121 : decode cX12_bring 121 = .ok (.imul, 1) := by decide +kernel
theorem dX12_bring_122 : decode cX12_bring 122 = .ok (.iload_n 2, 1) := by decide +kernel
theorem dX12_bring_123 : decode cX12_bring 123 = .ok (.iadd, 1) := by decide +kernel
theorem dX12_bring_124 : decode cX12_bring 124 = .ok (.baload, 1) := by decide +kernel
theorem dX12_bring_125 : decode cX12_bring 125 = .ok (.bastore, 1) := by decide +kernel
theorem dX12_bring_126 : decode cX12_bring 126 = .ok (.iinc 2 1, 3) := by decide +kernel
theorem dX12_bring_129 : decode cX12_bring 129 = .ok (.goto (-28), 3) := by decide +kernel
theorem dX12_bring_132 : decode cX12_bring 132 = .ok (.return_, 1) := by decide +kernel
theorem dX12_image_0 : decode cX12_image 0 = .ok (.iload_n 1, 1) := by decide +kernel
theorem dX12_image_1 : decode cX12_image 1 = .ok (.iconst 0, 1) := by decide +kernel
theorem dX12_image_2 : decode cX12_image 2 = .ok (.iconst 2, 1) := by decide +kernel
theorem dX12_image_3 : decode cX12_image 3 = .ok (.invokestatic 342, 3) := by decide +kernel
theorem dX12_image_6 : decode cX12_image 6 = .ok (.ifCond .ne 5, 3) := by decide +kernel
theorem dX12_image_9 : decode cX12_image 9 = .ok (.iconst (-1), 1) := by decide +kernel
theorem dX12_image_10 : decode cX12_image 10 = .ok (.ireturn, 1) := by decide +kernel
theorem dX12_image_11 : decode cX12_image 11 = .ok (.aload_n 0, 1) := by decide +kernel
theorem dX12_image_12 : decode cX12_image 12 = .ok (.iload_n 1, 1) := by decide +kernel
theorem dX12_image_13 : decode cX12_image 13 = .ok (.invokevirtual 428, 3) := by decide +kernel
theorem dX12_image_16 : decode cX12_image 16 = .ok (.aload_n 0, 1) := by decide +kernel
theorem dX12_image_17 : decode cX12_image 17 = .ok (.getfield 356, 3) := by decide +kernel
theorem dX12_image_20 : decode cX12_image 20 = .ok (.ireturn, 1) := by decide +kernel
theorem dX12_back_0 : decode cX12_back 0 = .ok (.iload_n 1, 1) := by decide +kernel
theorem dX12_back_1 : decode cX12_back 1 = .ok (.iconst 0, 1) := by decide +kernel
theorem dX12_back_2 : decode cX12_back 2 = .ok (.iconst 2, 1) := by decide +kernel
theorem dX12_back_3 : decode cX12_back 3 = .ok (.invokestatic 342, 3) := by decide +kernel
theorem dX12_back_6 : decode cX12_back 6 = .ok (.ifCond .eq 12, 3) := by decide +kernel
theorem dX12_back_9 : decode cX12_back 9 = .ok (.aload_n 0, 1) := by decide +kernel
theorem dX12_back_10 : decode cX12_back 10 = .ok (.getfield 131, 3) := by decide +kernel
theorem dX12_back_13 : decode cX12_back 13 = .ok (.iload_n 1, 1) := by decide +kernel
theorem dX12_back_14 : decode cX12_back 14 = .ok (.iaload, 1) := by decide +kernel
theorem dX12_back_15 : decode cX12_back 15 = .ok (.ifCond .ge 5, 3) := by decide +kernel
theorem dX12_back_18 : decode cX12_back 18 = .ok (.iconst (-1), 1) := by decide +kernel
theorem dX12_back_19 : decode cX12_back 19 = .ok (.ireturn, 1) := by decide +kernel
theorem dX12_back_20 : decode cX12_back 20 = .ok (.aload_n 0, 1) := by decide +kernel
theorem dX12_back_21 : decode cX12_back 21 = .ok (.iload_n 1, 1) := by decide +kernel
theorem dX12_back_22 : decode cX12_back 22 = .ok (.invokevirtual 431, 3) := by decide +kernel
theorem dX12_back_25 : decode cX12_back 25 = .ok (.aload_n 0, 1) := by decide +kernel
theorem dX12_back_26 : decode cX12_back 26 = .ok (.getfield 356, 3) := by decide +kernel
theorem dX12_back_29 : decode cX12_back 29 = .ok (.ireturn, 1) := by decide +kernel
theorem dX12_about_0 : decode cX12_about 0 = .ok (.iload_n 1, 1) := by decide +kernel
theorem dX12_about_1 : decode cX12_about 1 = .ok (.tableswitch 106 0 8 #[51, 56, 66, 71, 76, 81, 86, 91, 96], 51) := by decide +kernel
theorem dX12_about_52 : decode cX12_about 52 = .ok (.aload_n 0, 1) := by decide +kernel
theorem dX12_about_53 : decode cX12_about 53 = .ok (.invokevirtual 339, 3) := by decide +kernel
theorem dX12_about_56 : decode cX12_about 56 = .ok (.ireturn, 1) := by decide +kernel
theorem dX12_about_57 : decode cX12_about 57 = .ok (.aload_n 0, 1) := by decide +kernel
theorem dX12_about_58 : decode cX12_about 58 = .ok (.getfield 27, 3) := by decide +kernel
theorem dX12_about_61 : decode cX12_about 61 = .ok (.aload_n 0, 1) := by decide +kernel
theorem dX12_about_62 : decode cX12_about 62 = .ok (.getfield 261, 3) := by decide +kernel
theorem dX12_about_65 : decode cX12_about 65 = .ok (.iaload, 1) := by decide +kernel
theorem dX12_about_66 : decode cX12_about 66 = .ok (.ireturn, 1) := by decide +kernel
theorem dX12_about_67 : decode cX12_about 67 = .ok (.aload_n 0, 1) := by decide +kernel
theorem dX12_about_68 : decode cX12_about 68 = .ok (.invokevirtual 410, 3) := by decide +kernel
theorem dX12_about_71 : decode cX12_about 71 = .ok (.ireturn, 1) := by decide +kernel
theorem dX12_about_72 : decode cX12_about 72 = .ok (.aload_n 0, 1) := by decide +kernel
theorem dX12_about_73 : decode cX12_about 73 = .ok (.getfield 356, 3) := by decide +kernel
theorem dX12_about_76 : decode cX12_about 76 = .ok (.ireturn, 1) := by decide +kernel
theorem dX12_about_77 : decode cX12_about 77 = .ok (.aload_n 0, 1) := by decide +kernel
theorem dX12_about_78 : decode cX12_about 78 = .ok (.getfield 353, 3) := by decide +kernel
theorem dX12_about_81 : decode cX12_about 81 = .ok (.ireturn, 1) := by decide +kernel
theorem dX12_about_82 : decode cX12_about 82 = .ok (.aload_n 0, 1) := by decide +kernel
theorem dX12_about_83 : decode cX12_about 83 = .ok (.getfield 267, 3) := by decide +kernel
theorem dX12_about_86 : decode cX12_about 86 = .ok (.ireturn, 1) := by decide +kernel
theorem dX12_about_87 : decode cX12_about 87 = .ok (.aload_n 0, 1) := by decide +kernel
theorem dX12_about_88 : decode cX12_about 88 = .ok (.getfield 441, 3) := by decide +kernel
theorem dX12_about_91 : decode cX12_about 91 = .ok (.ireturn, 1) := by decide +kernel
theorem dX12_about_92 : decode cX12_about 92 = .ok (.aload_n 0, 1) := by decide +kernel
theorem dX12_about_93 : decode cX12_about 93 = .ok (.getfield 255, 3) := by decide +kernel
theorem dX12_about_96 : decode cX12_about 96 = .ok (.ireturn, 1) := by decide +kernel
theorem dX12_about_97 : decode cX12_about 97 = .ok (.aload_n 0, 1) := by decide +kernel
theorem dX12_about_98 : decode cX12_about 98 = .ok (.getfield 30, 3) := by decide +kernel
theorem dX12_about_101 : decode cX12_about 101 = .ok (.aload_n 0, 1) := by decide +kernel
theorem dX12_about_102 : decode cX12_about 102 = .ok (.getfield 261, 3) := by decide +kernel
theorem dX12_about_105 : decode cX12_about 105 = .ok (.iaload, 1) := by decide +kernel
theorem dX12_about_106 : decode cX12_about 106 = .ok (.ireturn, 1) := by decide +kernel
theorem dX12_about_107 : decode cX12_about 107 = .ok (.iconst (-1), 1) := by decide +kernel
theorem dX12_about_108 : decode cX12_about 108 = .ok (.ireturn, 1) := by decide +kernel
theorem dX12_feed_0 : decode cX12_feed 0 = .ok (.aload_n 0, 1) := by decide +kernel
theorem dX12_feed_1 : decode cX12_feed 1 = .ok (.getfield 255, 3) := by decide +kernel
theorem dX12_feed_4 : decode cX12_feed 4 = .ok (.bipush 20, 2) := by decide +kernel
theorem dX12_feed_6 : decode cX12_feed 6 = .ok (.iadd, 1) := by decide +kernel
theorem dX12_feed_7 : decode cX12_feed 7 = .ok (.sipush 1600, 3) := by decide +kernel
theorem dX12_feed_10 : decode cX12_feed 10 = .ok (.if_icmp .le 5, 3) := by decide +kernel
theorem dX12_feed_13 : decode cX12_feed 13 = .ok (.iconst (-1), 1) := by decide +kernel
theorem dX12_feed_14 : decode cX12_feed 14 = .ok (.ireturn, 1) := by decide +kernel
theorem dX12_feed_15 : decode cX12_feed 15 = .ok (.iconst 0, 1) := by decide +kernel
theorem dX12_feed_16 : decode cX12_feed 16 = .ok (.istore 6, 2) := by decide +kernel
theorem dX12_feed_18 : decode cX12_feed 18 = .ok (.iload 6, 2) := by decide +kernel
theorem dX12_feed_20 : decode cX12_feed 20 = .ok (.bipush 20, 2) := by decide +kernel
theorem dX12_feed_22 : decode cX12_feed 22 = .ok (.if_icmp .ge 83, 3) := by decide +kernel
theorem dX12_feed_25 : decode cX12_feed 25 = .ok (.iload 6, 2) := by decide +kernel
theorem dX12_feed_27 : decode cX12_feed 27 = .ok (.iconst 4, 1) := by decide +kernel
theorem dX12_feed_28 : decode cX12_feed 28 = .ok (.if_icmp .ge 7, 3) := by decide +kernel
theorem dX12_feed_31 : decode cX12_feed 31 = .ok (.iload_n 1, 1) := by decide +kernel
theorem dX12_feed_32 : decode cX12_feed 32 = .ok (.goto 39, 3) := by decide +kernel
theorem dX12_feed_35 : decode cX12_feed 35 = .ok (.iload 6, 2) := by decide +kernel
theorem dX12_feed_37 : decode cX12_feed 37 = .ok (.bipush 8, 2) := by decide +kernel
theorem dX12_feed_39 : decode cX12_feed 39 = .ok (.if_icmp .ge 7, 3) := by decide +kernel
theorem dX12_feed_42 : decode cX12_feed 42 = .ok (.iload_n 2, 1) := by decide +kernel
theorem dX12_feed_43 : decode cX12_feed 43 = .ok (.goto 28, 3) := by decide +kernel
theorem dX12_feed_46 : decode cX12_feed 46 = .ok (.iload 6, 2) := by decide +kernel
theorem dX12_feed_48 : decode cX12_feed 48 = .ok (.bipush 12, 2) := by decide +kernel
theorem dX12_feed_50 : decode cX12_feed 50 = .ok (.if_icmp .ge 7, 3) := by decide +kernel
theorem dX12_feed_53 : decode cX12_feed 53 = .ok (.iload_n 3, 1) := by decide +kernel
theorem dX12_feed_54 : decode cX12_feed 54 = .ok (.goto 17, 3) := by decide +kernel
theorem dX12_feed_57 : decode cX12_feed 57 = .ok (.iload 6, 2) := by decide +kernel
theorem dX12_feed_59 : decode cX12_feed 59 = .ok (.bipush 16, 2) := by decide +kernel
theorem dX12_feed_61 : decode cX12_feed 61 = .ok (.if_icmp .ge 8, 3) := by decide +kernel
theorem dX12_feed_64 : decode cX12_feed 64 = .ok (.iload 4, 2) := by decide +kernel
theorem dX12_feed_66 : decode cX12_feed 66 = .ok (.goto 5, 3) := by decide +kernel
theorem dX12_feed_69 : decode cX12_feed 69 = .ok (.iload 5, 2) := by decide +kernel
theorem dX12_feed_71 : decode cX12_feed 71 = .ok (.istore 7, 2) := by decide +kernel
theorem dX12_feed_73 : decode cX12_feed 73 = .ok (.aload_n 0, 1) := by decide +kernel
theorem dX12_feed_74 : decode cX12_feed 74 = .ok (.getfield 7, 3) := by decide +kernel
theorem dX12_feed_77 : decode cX12_feed 77 = .ok (.aload_n 0, 1) := by decide +kernel
theorem dX12_feed_78 : decode cX12_feed 78 = .ok (.getfield 255, 3) := by decide +kernel
theorem dX12_feed_81 : decode cX12_feed 81 = .ok (.iload 6, 2) := by decide +kernel
theorem dX12_feed_83 : decode cX12_feed 83 = .ok (.iadd, 1) := by decide +kernel
theorem dX12_feed_84 : decode cX12_feed 84 = .ok (.iload 7, 2) := by decide +kernel
theorem dX12_feed_86 : decode cX12_feed 86 = .ok (.bipush 24, 2) := by decide +kernel
theorem dX12_feed_88 : decode cX12_feed 88 = .ok (.bipush 8, 2) := by decide +kernel
theorem dX12_feed_90 : decode cX12_feed 90 = .ok (.iload 6, 2) := by decide +kernel
theorem dX12_feed_92 : decode cX12_feed 92 = .ok (.iconst 3, 1) := by decide +kernel
theorem dX12_feed_93 : decode cX12_feed 93 = .ok (.iand, 1) := by decide +kernel
theorem dX12_feed_94 : decode cX12_feed 94 = .ok (.imul, 1) := by decide +kernel
theorem dX12_feed_95 : decode cX12_feed 95 = .ok (.isub, 1) := by decide +kernel
theorem dX12_feed_96 : decode cX12_feed 96 = .ok (.ishr, 1) := by decide +kernel
theorem dX12_feed_97 : decode cX12_feed 97 = .ok (.i2b, 1) := by decide +kernel
theorem dX12_feed_98 : decode cX12_feed 98 = .ok (.bastore, 1) := by decide +kernel
theorem dX12_feed_99 : decode cX12_feed 99 = .ok (.iinc 6 1, 3) := by decide +kernel
theorem dX12_feed_102 : decode cX12_feed 102 = .ok (.goto (-84), 3) := by decide +kernel
theorem dX12_feed_105 : decode cX12_feed 105 = .ok (.aload_n 0, 1) := by decide +kernel
theorem dX12_feed_106 : decode cX12_feed 106 = .ok (.dup, 1) := by decide +kernel
theorem dX12_feed_107 : decode cX12_feed 107 = .ok (.getfield 255, 3) := by decide +kernel
theorem dX12_feed_110 : decode cX12_feed 110 = .ok (.bipush 20, 2) := by decide +kernel
theorem dX12_feed_112 : decode cX12_feed 112 = .ok (.iadd, 1) := by decide +kernel
theorem dX12_feed_113 : decode cX12_feed 113 = .ok (.putfield 255, 3) := by decide +kernel
theorem dX12_feed_116 : decode cX12_feed 116 = .ok (.aload_n 0, 1) := by decide +kernel
theorem dX12_feed_117 : decode cX12_feed 117 = .ok (.getfield 255, 3) := by decide +kernel
theorem dX12_feed_120 : decode cX12_feed 120 = .ok (.ireturn, 1) := by decide +kernel
theorem dX12_end_0 : decode cX12_end 0 = .ok (.iload_n 1, 1) := by decide +kernel
theorem dX12_end_1 : decode cX12_end 1 = .ok (.ifCond .lt 11, 3) := by decide +kernel
theorem dX12_end_4 : decode cX12_end 4 = .ok (.iload_n 1, 1) := by decide +kernel
theorem dX12_end_5 : decode cX12_end 5 = .ok (.aload_n 0, 1) := by decide +kernel
theorem dX12_end_6 : decode cX12_end 6 = .ok (.getfield 255, 3) := by decide +kernel
theorem dX12_end_9 : decode cX12_end 9 = .ok (.if_icmp .le 5, 3) := by decide +kernel
theorem dX12_end_12 : decode cX12_end 12 = .ok (.iconst (-1), 1) := by decide +kernel
theorem dX12_end_13 : decode cX12_end 13 = .ok (.ireturn, 1) := by decide +kernel
theorem dX12_end_14 : decode cX12_end 14 = .ok (.aload_n 0, 1) := by decide +kernel
theorem dX12_end_15 : decode cX12_end 15 = .ok (.iload_n 1, 1) := by decide +kernel
theorem dX12_end_16 : decode cX12_end 16 = .ok (.putfield 255, 3) := by decide +kernel
theorem dX12_end_19 : decode cX12_end 19 = .ok (.iload_n 1, 1) := by decide +kernel
theorem dX12_end_20 : decode cX12_end 20 = .ok (.ireturn, 1) := by decide +kernel
