theorem dX12_in_0 : decode cX12_in 0 = .ok (.lload_n 0, 1) := by decide +kernel
theorem dX12_in_1 : decode cX12_in 1 = .ok (.lload_n 2, 1) := by decide +kernel
theorem dX12_in_2 : decode cX12_in 2 = .ok (.lcmp, 1) := by decide +kernel
theorem dX12_in_3 : decode cX12_in 3 = .ok (.ifCond .lt 14, 3) := by decide +kernel
theorem dX12_in_6 : decode cX12_in 6 = .ok (.lload_n 0, 1) := by decide +kernel
theorem dX12_in_7 : decode cX12_in 7 = .ok (.lload 4, 2) := by decide +kernel
theorem dX12_in_9 : decode cX12_in 9 = .ok (.lcmp, 1) := by decide +kernel
theorem dX12_in_10 : decode cX12_in 10 = .ok (.ifCond .gt 7, 3) := by decide +kernel
theorem dX12_in_13 : decode cX12_in 13 = .ok (.iconst 1, 1) := by decide +kernel
theorem dX12_in_14 : decode cX12_in 14 = .ok (.goto 4, 3) := by decide +kernel
theorem dX12_in_17 : decode cX12_in 17 = .ok (.iconst 0, 1) := by decide +kernel
theorem dX12_in_18 : decode cX12_in 18 = .ok (.ireturn, 1) := by decide +kernel
theorem dX12_init_0 : decode cX12_init 0 = .ok (.aload_n 0, 1) := by decide +kernel
theorem dX12_init_1 : decode cX12_init 1 = .ok (.invokespecial 1, 3) := by decide +kernel
theorem dX12_init_4 : decode cX12_init 4 = .ok (.aload_n 0, 1) := by decide +kernel
theorem dX12_init_5 : decode cX12_init 5 = .ok (.bipush 8, 2) := by decide +kernel
theorem dX12_init_7 : decode cX12_init 7 = .ok (.putfield 7, 3) := by decide +kernel
theorem dX12_init_10 : decode cX12_init 10 = .ok (.aload_n 0, 1) := by decide +kernel
theorem dX12_init_11 : decode cX12_init 11 = .ok (.iconst 2, 1) := by decide +kernel
theorem dX12_init_12 : decode cX12_init 12 = .ok (.putfield 13, 3) := by decide +kernel
theorem dX12_init_15 : decode cX12_init 15 = .ok (.aload_n 0, 1) := by decide +kernel
theorem dX12_init_16 : decode cX12_init 16 = .ok (.bipush 8, 2) := by decide +kernel
theorem dX12_init_18 : decode cX12_init 18 = .ok (.putfield 16, 3) := by decide +kernel
theorem dX12_init_21 : decode cX12_init 21 = .ok (.aload_n 0, 1) := by decide +kernel
theorem dX12_init_22 : decode cX12_init 22 = .ok (.bipush 21, 2) := by decide +kernel
theorem dX12_init_24 : decode cX12_init 24 = .ok (.newarray .int, 2) := by decide +kernel
theorem dX12_init_26 : decode cX12_init 26 = .ok (.putfield 19, 3) := by decide +kernel
theorem dX12_init_29 : decode cX12_init 29 = .ok (.aload_n 0, 1) := by decide +kernel
theorem dX12_init_30 : decode cX12_init 30 = .ok (.sipush 252, 3) := by decide +kernel
theorem dX12_init_33 : decode cX12_init 33 = .ok (.newarray .int, 2) := by decide +kernel
theorem dX12_init_35 : decode cX12_init 35 = .ok (.putfield 23, 3) := by decide +kernel
theorem dX12_init_38 : decode cX12_init 38 = .ok (.aload_n 0, 1) := by decide +kernel
theorem dX12_init_39 : decode cX12_init 39 = .ok (.bipush 21, 2) := by decide +kernel
theorem dX12_init_41 : decode cX12_init 41 = .ok (.newarray .int, 2) := by decide +kernel
theorem dX12_init_43 : decode cX12_init 43 = .ok (.putfield 26, 3) := by decide +kernel
theorem dX12_init_46 : decode cX12_init 46 = .ok (.aload_n 0, 1) := by decide +kernel
theorem dX12_init_47 : decode cX12_init 47 = .ok (.bipush 21, 2) := by decide +kernel
theorem dX12_init_49 : decode cX12_init 49 = .ok (.newarray .int, 2) := by decide +kernel
theorem dX12_init_51 : decode cX12_init 51 = .ok (.putfield 29, 3) := by decide +kernel
theorem dX12_init_54 : decode cX12_init 54 = .ok (.aload_n 0, 1) := by decide +kernel
theorem dX12_init_55 : decode cX12_init 55 = .ok (.bipush 21, 2) := by decide +kernel
theorem dX12_init_57 : decode cX12_init 57 = .ok (.newarray .int, 2) := by decide +kernel
theorem dX12_init_59 : decode cX12_init 59 = .ok (.putfield 32, 3) := by decide +kernel
theorem dX12_init_62 : decode cX12_init 62 = .ok (.aload_n 0, 1) := by decide +kernel
theorem dX12_init_63 : decode cX12_init 63 = .ok (.sipush 378, 3) := by decide +kernel
theorem dX12_init_66 : decode cX12_init 66 = .ok (.newarray .int, 2) := by decide +kernel
theorem dX12_init_68 : decode cX12_init 68 = .ok (.putfield 35, 3) := by decide +kernel
theorem dX12_init_71 : decode cX12_init 71 = .ok (.aload_n 0, 1) := by decide +kernel
theorem dX12_init_72 : decode cX12_init 72 = .ok (.bipush 21, 2) := by decide +kernel
theorem dX12_init_74 : decode cX12_init 74 = .ok (.newarray .int, 2) := by decide +kernel
theorem dX12_init_76 : decode cX12_init 76 = .ok (.putfield 38, 3) := by decide +kernel
theorem dX12_init_79 : decode cX12_init 79 = .ok (.aload_n 0, 1) := by decide +kernel
theorem dX12_init_80 : decode cX12_init 80 = .ok (.bipush 21, 2) := by decide +kernel
theorem dX12_init_82 : decode cX12_init 82 = .ok (.newarray .int, 2) := by decide +kernel
theorem dX12_init_84 : decode cX12_init 84 = .ok (.putfield 41, 3) := by decide +kernel
theorem dX12_init_87 : decode cX12_init 87 = .ok (.aload_n 0, 1) := by decide +kernel
theorem dX12_init_88 : decode cX12_init 88 = .ok (.bipush 21, 2) := by decide +kernel
theorem dX12_init_90 : decode cX12_init 90 = .ok (.newarray .int, 2) := by decide +kernel
theorem dX12_init_92 : decode cX12_init 92 = .ok (.putfield 44, 3) := by decide +kernel
theorem dX12_init_95 : decode cX12_init 95 = .ok (.aload_n 0, 1) := by decide +kernel
theorem dX12_init_96 : decode cX12_init 96 = .ok (.bipush 80, 2) := by decide +kernel
theorem dX12_init_98 : decode cX12_init 98 = .ok (.newarray .int, 2) := by decide +kernel
theorem dX12_init_100 : decode cX12_init 100 = .ok (.putfield 47, 3) := by decide +kernel
theorem dX12_init_103 : decode cX12_init 103 = .ok (.aload_n 0, 1) := by decide +kernel
theorem dX12_init_104 : decode cX12_init 104 = .ok (.bipush 9, 2) := by decide +kernel
theorem dX12_init_106 : decode cX12_init 106 = .ok (.newarray .int, 2) := by decide +kernel
theorem dX12_init_108 : decode cX12_init 108 = .ok (.putfield 50, 3) := by decide +kernel
theorem dX12_init_111 : decode cX12_init 111 = .ok (.aload_n 0, 1) := by decide +kernel
theorem dX12_init_112 : decode cX12_init 112 = .ok (.bipush 9, 2) := by decide +kernel
theorem dX12_init_114 : decode cX12_init 114 = .ok (.newarray .int, 2) := by decide +kernel
theorem dX12_init_116 : decode cX12_init 116 = .ok (.putfield 53, 3) := by decide +kernel
theorem dX12_init_119 : decode cX12_init 119 = .ok (.aload_n 0, 1) := by decide +kernel
theorem dX12_init_120 : decode cX12_init 120 = .ok (.bipush 9, 2) := by decide +kernel
theorem dX12_init_122 : decode cX12_init 122 = .ok (.newarray .int, 2) := by decide +kernel
theorem dX12_init_124 : decode cX12_init 124 = .ok (.putfield 56, 3) := by decide +kernel
theorem dX12_init_127 : decode cX12_init 127 = .ok (.aload_n 0, 1) := by decide +kernel
theorem dX12_init_128 : decode cX12_init 128 = .ok (.bipush 64, 2) := by decide +kernel
theorem dX12_init_130 : decode cX12_init 130 = .ok (.newarray .int, 2) := by decide +kernel
theorem dX12_init_132 : decode cX12_init 132 = .ok (.putfield 59, 3) := by decide +kernel
theorem dX12_init_135 : decode cX12_init 135 = .ok (.aload_n 0, 1) := by decide +kernel
theorem dX12_init_136 : decode cX12_init 136 = .ok (.sipush 336, 3) := by decide +kernel
theorem dX12_init_139 : decode cX12_init 139 = .ok (.newarray .int, 2) := by decide +kernel
theorem dX12_init_141 : decode cX12_init 141 = .ok (.putfield 62, 3) := by decide +kernel
theorem dX12_init_144 : decode cX12_init 144 = .ok (.aload_n 0, 1) := by decide +kernel
theorem dX12_init_145 : decode cX12_init 145 = .ok (.ldc 65, 2) := by decide +kernel
theorem dX12_init_147 : decode cX12_init 147 = .ok (.newarray .int, 2) := by decide +kernel
theorem dX12_init_149 : decode cX12_init 149 = .ok (.putfield 66, 3) := by decide +kernel
theorem dX12_init_152 : decode cX12_init 152 = .ok (.aload_n 0, 1) := by decide +kernel
theorem dX12_init_153 : decode cX12_init 153 = .ok (.sipush 336, 3) := by decide +kernel
theorem dX12_init_156 : decode cX12_init 156 = .ok (.newarray .int, 2) := by decide +kernel
theorem dX12_init_158 : decode cX12_init 158 = .ok (.putfield 69, 3) := by decide +kernel
theorem dX12_init_161 : decode cX12_init 161 = .ok (.aload_n 0, 1) := by decide +kernel
theorem dX12_init_162 : decode cX12_init 162 = .ok (.iconst 2, 1) := by decide +kernel
theorem dX12_init_163 : decode cX12_init 163 = .ok (.putfield 72, 3) := by decide +kernel
theorem dX12_init_166 : decode cX12_init 166 = .ok (.aload_n 0, 1) := by decide +kernel
theorem dX12_init_167 : decode cX12_init 167 = .ok (.sipush 4096, 3) := by decide +kernel
theorem dX12_init_170 : decode cX12_init 170 = .ok (.newarray .int, 2) := by decide +kernel
theorem dX12_init_172 : decode cX12_init 172 = .ok (.putfield 75, 3) := by decide +kernel
theorem dX12_init_175 : decode cX12_init 175 = .ok (.aload_n 0, 1) := by decide +kernel
theorem dX12_init_176 : decode cX12_init 176 = .ok (.iconst 4, 1) := by decide +kernel
theorem dX12_init_177 : decode cX12_init 177 = .ok (.newarray .int, 2) := by decide +kernel
theorem dX12_init_179 : decode cX12_init 179 = .ok (.putfield 78, 3) := by decide +kernel
theorem dX12_init_182 : decode cX12_init 182 = .ok (.aload_n 0, 1) := by decide +kernel
theorem dX12_init_183 : decode cX12_init 183 = .ok (.bipush 24, 2) := by decide +kernel
theorem dX12_init_185 : decode cX12_init 185 = .ok (.newarray .int, 2) := by decide +kernel
theorem dX12_init_187 : decode cX12_init 187 = .ok (.putfield 81, 3) := by decide +kernel
theorem dX12_init_190 : decode cX12_init 190 = .ok (.aload_n 0, 1) := by decide +kernel
theorem dX12_init_191 : decode cX12_init 191 = .ok (.iconst 1, 1) := by decide +kernel
theorem dX12_init_192 : decode cX12_init 192 = .ok (.putfield 84, 3) := by decide +kernel
theorem dX12_init_195 : decode cX12_init 195 = .ok (.aload_n 0, 1) := by decide +kernel
theorem dX12_init_196 : decode cX12_init 196 = .ok (.bipush 40, 2) := by decide +kernel
theorem dX12_init_198 : decode cX12_init 198 = .ok (.newarray .int, 2) := by decide +kernel
theorem dX12_init_200 : decode cX12_init 200 = .ok (.putfield 87, 3) := by decide +kernel
theorem dX12_init_203 : decode cX12_init 203 = .ok (.aload_n 0, 1) := by decide +kernel
theorem dX12_init_204 : decode cX12_init 204 = .ok (.bipush 40, 2) := by decide +kernel
theorem dX12_init_206 : decode cX12_init 206 = .ok (.newarray .int, 2) := by decide +kernel
theorem dX12_init_208 : decode cX12_init 208 = .ok (.putfield 90, 3) := by decide +kernel
theorem dX12_init_211 : decode cX12_init 211 = .ok (.aload_n 0, 1) := by decide +kernel
theorem dX12_init_212 : decode cX12_init 212 = .ok (.bipush 40, 2) := by decide +kernel
theorem dX12_init_214 : decode cX12_init 214 = .ok (.newarray .int, 2) := by decide +kernel
theorem dX12_init_216 : decode cX12_init 216 = .ok (.putfield 93, 3) := by decide +kernel
theorem dX12_init_219 : decode cX12_init 219 = .ok (.aload_n 0, 1) := by decide +kernel
theorem dX12_init_220 : decode cX12_init 220 = .ok (.bipush 40, 2) := by decide +kernel
theorem dX12_init_222 : decode cX12_init 222 = .ok (.newarray .int, 2) := by decide +kernel
theorem dX12_init_224 : decode cX12_init 224 = .ok (.putfield 96, 3) := by decide +kernel
theorem dX12_init_227 : decode cX12_init 227 = .ok (.aload_n 0, 1) := by decide +kernel
theorem dX12_init_228 : decode cX12_init 228 = .ok (.bipush 40, 2) := by decide +kernel
theorem dX12_init_230 : decode cX12_init 230 = .ok (.newarray .int, 2) := by decide +kernel
theorem dX12_init_232 : decode cX12_init 232 = .ok (.putfield 99, 3) := by decide +kernel
theorem dX12_init_235 : decode cX12_init 235 = .ok (.aload_n 0, 1) := by decide +kernel
theorem dX12_init_236 : decode cX12_init 236 = .ok (.bipush 40, 2) := by decide +kernel
theorem dX12_init_238 : decode cX12_init 238 = .ok (.newarray .int, 2) := by decide +kernel
theorem dX12_init_240 : decode cX12_init 240 = .ok (.putfield 102, 3) := by decide +kernel
theorem dX12_init_243 : decode cX12_init 243 = .ok (.aload_n 0, 1) := by decide +kernel
theorem dX12_init_244 : decode cX12_init 244 = .ok (.bipush 40, 2) := by decide +kernel
theorem dX12_init_246 : decode cX12_init 246 = .ok (.newarray .int, 2) := by decide +kernel
theorem dX12_init_248 : decode cX12_init 248 = .ok (.putfield 105, 3) := by decide +kernel
theorem dX12_init_251 : decode cX12_init 251 = .ok (.aload_n 0, 1) := by decide +kernel
theorem dX12_init_252 : decode cX12_init 252 = .ok (.bipush 40, 2) := by decide +kernel
theorem dX12_init_254 : decode cX12_init 254 = .ok (.newarray .int, 2) := by decide +kernel
theorem dX12_init_256 : decode cX12_init 256 = .ok (.putfield 108, 3) := by decide +kernel
theorem dX12_init_259 : decode cX12_init 259 = .ok (.aload_n 0, 1) := by decide +kernel
theorem dX12_init_260 : decode cX12_init 260 = .ok (.bipush 7, 2) := by decide +kernel
theorem dX12_init_262 : decode cX12_init 262 = .ok (.newarray .int, 2) := by decide +kernel
theorem dX12_init_264 : decode cX12_init 264 = .ok (.putfield 111, 3) := by decide +kernel
theorem dX12_init_267 : decode cX12_init 267 = .ok (.aload_n 0, 1) := by decide +kernel
theorem dX12_init_268 : decode cX12_init 268 = .ok (.bipush 7, 2) := by decide +kernel
theorem dX12_init_270 : decode cX12_init 270 = .ok (.newarray .int, 2) := by decide +kernel
theorem dX12_init_272 : decode cX12_init 272 = .ok (.putfield 114, 3) := by decide +kernel
theorem dX12_init_275 : decode cX12_init 275 = .ok (.aload_n 0, 1) := by decide +kernel
theorem dX12_init_276 : decode cX12_init 276 = .ok (.bipush 40, 2) := by decide +kernel
theorem dX12_init_278 : decode cX12_init 278 = .ok (.newarray .int, 2) := by decide +kernel
theorem dX12_init_280 : decode cX12_init 280 = .ok (.putfield 117, 3) := by decide +kernel
theorem dX12_init_283 : decode cX12_init 283 = .ok (.aload_n 0, 1) := by decide +kernel
theorem dX12_init_284 : decode cX12_init 284 = .ok (.bipush 40, 2) := by decide +kernel
theorem dX12_init_286 : decode cX12_init 286 = .ok (.newarray .int, 2) := by decide +kernel
theorem dX12_init_288 : decode cX12_init 288 = .ok (.putfield 120, 3) := by decide +kernel
theorem dX12_init_291 : decode cX12_init 291 = .ok (.aload_n 0, 1) := by decide +kernel
theorem dX12_init_292 : decode cX12_init 292 = .ok (.bipush 80, 2) := by decide +kernel
theorem dX12_init_294 : decode cX12_init 294 = .ok (.newarray .int, 2) := by decide +kernel
theorem dX12_init_296 : decode cX12_init 296 = .ok (.putfield 123, 3) := by decide +kernel
theorem dX12_init_299 : decode cX12_init 299 = .ok (.aload_n 0, 1) := by decide +kernel
theorem dX12_init_300 : decode cX12_init 300 = .ok (.bipush 44, 2) := by decide +kernel
theorem dX12_init_302 : decode cX12_init 302 = .ok (.newarray .int, 2) := by decide +kernel
theorem dX12_init_304 : decode cX12_init 304 = .ok (.putfield 126, 3) := by decide +kernel
theorem dX12_init_307 : decode cX12_init 307 = .ok (.aload_n 0, 1) := by decide +kernel
theorem dX12_init_308 : decode cX12_init 308 = .ok (.bipush 44, 2) := by decide +kernel
theorem dX12_init_310 : decode cX12_init 310 = .ok (.newarray .int, 2) := by decide +kernel
theorem dX12_init_312 : decode cX12_init 312 = .ok (.putfield 129, 3) := by decide +kernel
theorem dX12_init_315 : decode cX12_init 315 = .ok (.aload_n 0, 1) := by decide +kernel
theorem dX12_init_316 : decode cX12_init 316 = .ok (.bipush 44, 2) := by decide +kernel
theorem dX12_init_318 : decode cX12_init 318 = .ok (.newarray .int, 2) := by decide +kernel
theorem dX12_init_320 : decode cX12_init 320 = .ok (.putfield 132, 3) := by decide +kernel
theorem dX12_init_323 : decode cX12_init 323 = .ok (.aload_n 0, 1) := by decide +kernel
theorem dX12_init_324 : decode cX12_init 324 = .ok (.bipush 40, 2) := by decide +kernel
theorem dX12_init_326 : decode cX12_init 326 = .ok (.newarray .int, 2) := by decide +kernel
theorem dX12_init_328 : decode cX12_init 328 = .ok (.putfield 135, 3) := by decide +kernel
theorem dX12_init_331 : decode cX12_init 331 = .ok (.aload_n 0, 1) := by decide +kernel
theorem dX12_init_332 : decode cX12_init 332 = .ok (.iconst 4, 1) := by decide +kernel
theorem dX12_init_333 : decode cX12_init 333 = .ok (.newarray .int, 2) := by decide +kernel
theorem dX12_init_335 : decode cX12_init 335 = .ok (.putfield 138, 3) := by decide +kernel
theorem dX12_init_338 : decode cX12_init 338 = .ok (.aload_n 0, 1) := by decide +kernel
theorem dX12_init_339 : decode cX12_init 339 = .ok (.iconst 4, 1) := by decide +kernel
theorem dX12_init_340 : decode cX12_init 340 = .ok (.newarray .int, 2) := by decide +kernel
theorem dX12_init_342 : decode cX12_init 342 = .ok (.putfield 141, 3) := by decide +kernel
theorem dX12_init_345 : decode cX12_init 345 = .ok (.aload_n 0, 1) := by decide +kernel
theorem dX12_init_346 : decode cX12_init 346 = .ok (.bipush 120, 2) := by decide +kernel
theorem dX12_init_348 : decode cX12_init 348 = .ok (.newarray .int, 2) := by decide +kernel
theorem dX12_init_350 : decode cX12_init 350 = .ok (.putfield 144, 3) := by decide +kernel
theorem dX12_init_353 : decode cX12_init 353 = .ok (.iconst 0, 1) := by decide +kernel
theorem dX12_init_354 : decode cX12_init 354 = .ok (.istore_n 1, 1) := by decide +kernel
theorem dX12_init_355 : decode cX12_init 355 = .ok (.iload_n 1, 1) := by decide +kernel
theorem dX12_init_356 : decode cX12_init 356 = .ok (.iconst 4, 1) := by decide +kernel
theorem dX12_init_357 : decode cX12_init 357 = .ok (.if_icmp .ge 16, 3) := by decide +kernel
theorem dX12_init_360 : decode cX12_init 360 = .ok (.aload_n 0, 1) := by decide +kernel
theorem dX12_init_361 : decode cX12_init 361 = .ok (.getfield 138, 3) := by decide +kernel
theorem dX12_init_364 : decode cX12_init 364 = .ok (.iload_n 1, 1) := by decide +kernel
theorem dX12_init_365 : decode cX12_init 365 = .ok (.iconst (-1), 1) := by decide +kernel
theorem dX12_init_366 : decode cX12_init 366 = .ok (.iastore, 1) := by decide +kernel
theorem dX12_init_367 : decode cX12_init 367 = .ok (.iinc 1 1, 3) := by decide +kernel
theorem dX12_init_370 : decode cX12_init 370 = .ok (.goto (-15), 3) := by decide +kernel
theorem dX12_init_373 : decode cX12_init 373 = .ok (.aload_n 0, 1) := by decide +kernel
theorem dX12_init_374 : decode cX12_init 374 = .ok (.invokevirtual 147, 3) := by decide +kernel
theorem dX12_init_377 : decode cX12_init 377 = .ok (.return_, 1) := by decide +kernel
theorem dX12_restart_0 : decode cX12_restart 0 = .ok (.aload_n 0, 1) := by decide +kernel
theorem dX12_restart_1 : decode cX12_restart 1 = .ok (.iconst 0, 1) := by decide +kernel
theorem dX12_restart_2 : decode cX12_restart 2 = .ok (.putfield 150, 3) := by decide +kernel
theorem dX12_restart_5 : decode cX12_restart 5 = .ok (.aload_n 0, 1) := by decide +kernel
theorem dX12_restart_6 : decode cX12_restart 6 = .ok (.iconst 0, 1) := by decide +kernel
theorem dX12_restart_7 : decode cX12_restart 7 = .ok (.putfield 153, 3) := by decide +kernel
theorem dX12_restart_10 : decode cX12_restart 10 = .ok (.aload_n 0, 1) := by decide +kernel
theorem dX12_restart_11 : decode cX12_restart 11 = .ok (.bipush (-4), 2) := by decide +kernel
theorem dX12_restart_13 : decode cX12_restart 13 = .ok (.putfield 157, 3) := by decide +kernel
theorem dX12_restart_16 : decode cX12_restart 16 = .ok (.aload_n 0, 1) := by decide +kernel
theorem dX12_restart_17 : decode cX12_restart 17 = .ok (.iconst 1, 1) := by decide +kernel
theorem dX12_restart_18 : decode cX12_restart 18 = .ok (.putfield 84, 3) := by decide +kernel
theorem dX12_restart_21 : decode cX12_restart 21 = .ok (.aload_n 0, 1) := by decide +kernel
theorem dX12_restart_22 : decode cX12_restart 22 = .ok (.iconst 0, 1) := by decide +kernel
theorem dX12_restart_23 : decode cX12_restart 23 = .ok (.putfield 160, 3) := by decide +kernel
theorem dX12_restart_26 : decode cX12_restart 26 = .ok (.aload_n 0, 1) := by decide +kernel
theorem dX12_restart_27 : decode cX12_restart 27 = .ok (.iconst 2, 1) := by decide +kernel
theorem dX12_restart_28 : decode cX12_restart 28 = .ok (.putfield 72, 3) := by decide +kernel
theorem dX12_restart_31 : decode cX12_restart 31 = .ok (.iconst 0, 1) := by decide +kernel
theorem dX12_restart_32 : decode cX12_restart 32 = .ok (.istore_n 1, 1) := by decide +kernel
theorem dX12_restart_33 : decode cX12_restart 33 = .ok (.iload_n 1, 1) := by decide +kernel
theorem dX12_restart_34 : decode cX12_restart 34 = .ok (.bipush 64, 2) := by decide +kernel
theorem dX12_restart_36 : decode cX12_restart 36 = .ok (.if_icmp .ge 16, 3) := by decide +kernel
theorem dX12_restart_39 : decode cX12_restart 39 = .ok (.aload_n 0, 1) := by decide +kernel
theorem dX12_restart_40 : decode cX12_restart 40 = .ok (.getfield 59, 3) := by decide +kernel
theorem dX12_restart_43 : decode cX12_restart 43 = .ok (.iload_n 1, 1) := by decide +kernel
theorem dX12_restart_44 : decode cX12_restart 44 = .ok (.iconst 0, 1) := by decide +kernel
theorem dX12_restart_45 : decode cX12_restart 45 = .ok (.iastore, 1) := by decide +kernel
theorem dX12_restart_46 : decode cX12_restart 46 = .ok (.iinc 1 1, 3) := by decide +kernel
theorem dX12_restart_49 : decode cX12_restart 49 = .ok (.goto (-16), 3) := by decide +kernel
theorem dX12_restart_52 : decode cX12_restart 52 = .ok (.aload_n 0, 1) := by decide +kernel
theorem dX12_restart_53 : decode cX12_restart 53 = .ok (.invokevirtual 163, 3) := by decide +kernel
theorem dX12_restart_56 : decode cX12_restart 56 = .ok (.return_, 1) := by decide +kernel
theorem dX12_begin_0 : decode cX12_begin 0 = .ok (.iload_n 1, 1) := by decide +kernel
theorem dX12_begin_1 : decode cX12_begin 1 = .ok (.i2l, 1) := by decide +kernel
theorem dX12_begin_2 : decode cX12_begin 2 = .ok (.ldc2_w 166, 3) := by decide +kernel
theorem dX12_begin_5 : decode cX12_begin 5 = .ok (.ldc2_w 168, 3) := by decide +kernel
theorem dX12_begin_8 : decode cX12_begin 8 = .ok (.invokestatic 170, 3) := by decide +kernel
theorem dX12_begin_11 : decode cX12_begin 11 = .ok (.ifCond .eq 29, 3) := by decide +kernel
theorem dX12_begin_14 : decode cX12_begin 14 = .ok (.iload_n 2, 1) := by decide +kernel
theorem dX12_begin_15 : decode cX12_begin 15 = .ok (.i2l, 1) := by decide +kernel
theorem dX12_begin_16 : decode cX12_begin 16 = .ok (.lconst 1, 1) := by decide +kernel
theorem dX12_begin_17 : decode cX12_begin 17 = .ok (.ldc2_w 174, 3) := by decide +kernel
theorem dX12_begin_20 : decode cX12_begin 20 = .ok (.invokestatic 170, 3) := by decide +kernel
theorem dX12_begin_23 : decode cX12_begin 23 = .ok (.ifCond .eq 17, 3) := by decide +kernel
theorem dX12_begin_26 : decode cX12_begin 26 = .ok (.iload_n 3, 1) := by decide +kernel
theorem dX12_begin_27 : decode cX12_begin 27 = .ok (.i2l, 1) := by decide +kernel
theorem dX12_begin_28 : decode cX12_begin 28 = .ok (.ldc2_w 176, 3) := by decide +kernel
theorem dX12_begin_31 : decode cX12_begin 31 = .ok (.ldc2_w 178, 3) := by decide +kernel
theorem dX12_begin_34 : decode cX12_begin 34 = .ok (.invokestatic 170, 3) := by decide +kernel
theorem dX12_begin_37 : decode cX12_begin 37 = .ok (.ifCond .ne 5, 3) := by decide +kernel
theorem dX12_begin_40 : decode cX12_begin 40 = .ok (.iconst (-1), 1) := by decide +kernel
theorem dX12_begin_41 : decode cX12_begin 41 = .ok (.ireturn, 1) := by decide +kernel
theorem dX12_begin_42 : decode cX12_begin 42 = .ok (.aload_n 0, 1) := by decide +kernel
theorem dX12_begin_43 : decode cX12_begin 43 = .ok (.iload_n 1, 1) := by decide +kernel
theorem dX12_begin_44 : decode cX12_begin 44 = .ok (.putfield 7, 3) := by decide +kernel
theorem dX12_begin_47 : decode cX12_begin 47 = .ok (.aload_n 0, 1) := by decide +kernel
theorem dX12_begin_48 : decode cX12_begin 48 = .ok (.iload_n 2, 1) := by decide +kernel
theorem dX12_begin_49 : decode cX12_begin 49 = .ok (.putfield 13, 3) := by decide +kernel
theorem dX12_begin_52 : decode cX12_begin 52 = .ok (.aload_n 0, 1) := by decide +kernel
theorem dX12_begin_53 : decode cX12_begin 53 = .ok (.iload_n 3, 1) := by decide +kernel
theorem dX12_begin_54 : decode cX12_begin 54 = .ok (.putfield 16, 3) := by decide +kernel
theorem dX12_begin_57 : decode cX12_begin 57 = .ok (.aload_n 0, 1) := by decide +kernel
theorem dX12_begin_58 : decode cX12_begin 58 = .ok (.invokevirtual 147, 3) := by decide +kernel
theorem dX12_begin_61 : decode cX12_begin 61 = .ok (.iconst 1, 1) := by decide +kernel
theorem dX12_begin_62 : decode cX12_begin 62 = .ok (.ireturn, 1) := by decide +kernel
theorem dX12_mask_0 : decode cX12_mask 0 = .ok (.iconst 1, 1) := by decide +kernel
theorem dX12_mask_1 : decode cX12_mask 1 = .ok (.aload_n 0, 1) := by decide +kernel
theorem dX12_mask_2 : decode cX12_mask 2 = .ok (.getfield 7, 3) := by decide +kernel
theorem dX12_mask_5 : decode cX12_mask 5 = .ok (.ishl, 1) := by decide +kernel
theorem dX12_mask_6 : decode cX12_mask 6 = .ok (.iconst 1, 1) := by decide +kernel
theorem dX12_mask_7 : decode cX12_mask 7 = .ok (.isub, 1) := by decide +kernel
theorem dX12_mask_8 : decode cX12_mask 8 = .ok (.ireturn, 1) := by decide +kernel
theorem dX12_isBits_0 : decode cX12_isBits 0 = .ok (.iload_n 1, 1) := by decide +kernel
theorem dX12_isBits_1 : decode cX12_isBits 1 = .ok (.i2l, 1) := by decide +kernel
theorem dX12_isBits_2 : decode cX12_isBits 2 = .ok (.lconst 0, 1) := by decide +kernel
theorem dX12_isBits_3 : decode cX12_isBits 3 = .ok (.iconst 1, 1) := by decide +kernel
theorem dX12_isBits_4 : decode cX12_isBits 4 = .ok (.aload_n 0, 1) := by decide +kernel
theorem dX12_isBits_5 : decode cX12_isBits 5 = .ok (.getfield 16, 3) := by decide +kernel
theorem dX12_isBits_8 : decode cX12_isBits 8 = .ok (.ishl, 1) := by decide +kernel
theorem dX12_isBits_9 : decode cX12_isBits 9 = .ok (.iconst 1, 1) := by decide +kernel
theorem dX12_isBits_10 : decode cX12_isBits 10 = .ok (.isub, 1) := by decide +kernel
theorem dX12_isBits_11 : decode cX12_isBits 11 = .ok (.i2l, 1) := by decide +kernel
theorem dX12_isBits_12 : decode cX12_isBits 12 = .ok (.invokestatic 170, 3) := by decide +kernel
theorem dX12_isBits_15 : decode cX12_isBits 15 = .ok (.ireturn, 1) := by decide +kernel
theorem dX12_fieldBits_0 : decode cX12_fieldBits 0 = .ok (.iconst 0, 1) := by decide +kernel
theorem dX12_fieldBits_1 : decode cX12_fieldBits 1 = .ok (.istore_n 3, 1) := by decide +kernel
theorem dX12_fieldBits_2 : decode cX12_fieldBits 2 = .ok (.iconst 0, 1) := by decide +kernel
theorem dX12_fieldBits_3 : decode cX12_fieldBits 3 = .ok (.istore 4, 2) := by decide +kernel
theorem dX12_fieldBits_5 : decode cX12_fieldBits 5 = .ok (.iload 4, 2) := by decide +kernel
theorem dX12_fieldBits_7 : decode cX12_fieldBits 7 = .ok (.aload_n 0, 1) := by decide +kernel
theorem dX12_fieldBits_8 : decode cX12_fieldBits 8 = .ok (.getfield 16, 3) := by decide +kernel
theorem dX12_fieldBits_11 : decode cX12_fieldBits 11 = .ok (.if_icmp .ge 35, 3) := by decide +kernel
theorem dX12_fieldBits_14 : decode cX12_fieldBits 14 = .ok (.iload_n 3, 1) := by decide +kernel
theorem dX12_fieldBits_15 : decode cX12_fieldBits 15 = .ok (.aload_n 0, 1) := by decide +kernel
theorem dX12_fieldBits_16 : decode cX12_fieldBits 16 = .ok (.getfield 23, 3) := by decide +kernel
theorem dX12_fieldBits_19 : decode cX12_fieldBits 19 = .ok (.bipush 12, 2) := by decide +kernel
theorem dX12_fieldBits_21 : decode cX12_fieldBits 21 = .ok (.iload_n 1, 1) := by decide +kernel
theorem dX12_fieldBits_22 : decode cX12_fieldBits 22 = .ok (.imul, 1) := by decide +kernel
theorem dX12_fieldBits_23 : decode cX12_fieldBits 23 = .ok (.iload 4, 2) := by decide +kernel
theorem dX12_fieldBits_25 : decode cX12_fieldBits 25 = .ok (.iadd, 1) := by decide +kernel
theorem dX12_fieldBits_26 : decode cX12_fieldBits 26 = .ok (.iaload, 1) := by decide +kernel
theorem dX12_fieldBits_27 : decode cX12_fieldBits 27 = .ok (.iconst 2, 1) := by decide +kernel
theorem dX12_fieldBits_28 : decode cX12_fieldBits 28 = .ok (.iload_n 2, 1) := by decide +kernel
theorem dX12_fieldBits_29 : decode cX12_fieldBits 29 = .ok (.iadd, 1) := by decide +kernel
theorem dX12_fieldBits_30 : decode cX12_fieldBits 30 = .ok (.if_icmp .ne 7, 3) := by decide +kernel
theorem dX12_fieldBits_33 : decode cX12_fieldBits 33 = .ok (.iconst 1, 1) := by decide +kernel
theorem dX12_fieldBits_34 : decode cX12_fieldBits 34 = .ok (.goto 4, 3) := by decide +kernel
theorem dX12_fieldBits_37 : decode cX12_fieldBits 37 = .ok (.iconst 0, 1) := by decide +kernel
theorem dX12_fieldBits_38 : decode cX12_fieldBits 38 = .ok (.iadd, 1) := by decide +kernel
theorem dX12_fieldBits_39 : decode cX12_fieldBits 39 = .ok (.istore_n 3, 1) := by decide +kernel
theorem dX12_fieldBits_40 : decode cX12_fieldBits 40 = .ok (.iinc 4 1, 3) := by decide +kernel
theorem dX12_fieldBits_43 : decode cX12_fieldBits 43 = .ok (.goto (-38), 3) := by decide +kernel
theorem dX12_fieldBits_46 : decode cX12_fieldBits 46 = .ok (.iload_n 3, 1) := by decide +kernel
theorem dX12_fieldBits_47 : decode cX12_fieldBits 47 = .ok (.ireturn, 1) := by decide +kernel
theorem dX12_leastBits_0 : decode cX12_leastBits 0 = .ok (.iconst 0, 1) := by decide +kernel
theorem dX12_leastBits_1 : decode cX12_leastBits 1 = .ok (.istore_n 2, 1) := by decide +kernel
theorem dX12_leastBits_2 : decode cX12_leastBits 2 = .ok (.iconst 0, 1) := by decide +kernel
theorem dX12_leastBits_3 : decode cX12_leastBits 3 = .ok (.istore_n 3, 1) := by decide +kernel
theorem dX12_leastBits_4 : decode cX12_leastBits 4 = .ok (.iload_n 3, 1) := by decide +kernel
theorem dX12_leastBits_5 : decode cX12_leastBits 5 = .ok (.aload_n 0, 1) := by decide +kernel
theorem dX12_leastBits_6 : decode cX12_leastBits 6 = .ok (.getfield 16, 3) := by decide +kernel
theorem dX12_leastBits_9 : decode cX12_leastBits 9 = .ok (.if_icmp .ge 34, 3) := by decide +kernel
theorem dX12_leastBits_12 : decode cX12_leastBits 12 = .ok (.iconst 2, 1) := by decide +kernel
theorem dX12_leastBits_13 : decode cX12_leastBits 13 = .ok (.iload_n 2, 1) := by decide +kernel
theorem dX12_leastBits_14 : decode cX12_leastBits 14 = .ok (.imul, 1) := by decide +kernel
theorem dX12_leastBits_15 : decode cX12_leastBits 15 = .ok (.aload_n 0, 1) := by decide +kernel
theorem dX12_leastBits_16 : decode cX12_leastBits 16 = .ok (.getfield 23, 3) := by decide +kernel
theorem dX12_leastBits_19 : decode cX12_leastBits 19 = .ok (.bipush 12, 2) := by decide +kernel
theorem dX12_leastBits_21 : decode cX12_leastBits 21 = .ok (.iload_n 1, 1) := by decide +kernel
theorem dX12_leastBits_22 : decode cX12_leastBits 22 = .ok (.imul, 1) := by decide +kernel
theorem dX12_leastBits_23 : decode cX12_leastBits 23 = .ok (.iload_n 3, 1) := by decide +kernel
theorem dX12_leastBits_24 : decode cX12_leastBits 24 = .ok (.iadd, 1) := by decide +kernel
theorem dX12_leastBits_25 : decode cX12_leastBits 25 = .ok (.iaload, 1) := by decide +kernel
theorem dX12_leastBits_26 : decode cX12_leastBits 26 = .ok (.iconst 1, 1) := by decide +kernel
theorem dX12_leastBits_27 : decode cX12_leastBits 27 = .ok (.if_icmp .ne 7, 3) := by decide +kernel
theorem dX12_leastBits_30 : decode cX12_leastBits 30 = .ok (.iconst 1, 1) := by decide +kernel
theorem dX12_leastBits_31 : decode cX12_leastBits 31 = .ok (.goto 4, 3) := by decide +kernel
theorem dX12_leastBits_34 : decode cX12_leastBits 34 = .ok (.iconst 0, 1) := by decide +kernel
theorem dX12_leastBits_35 : decode cX12_leastBits 35 = .ok (.iadd, 1) := by decide +kernel
theorem dX12_leastBits_36 : decode cX12_leastBits 36 = .ok (.istore_n 2, 1) := by decide +kernel
theorem dX12_leastBits_37 : decode cX12_leastBits 37 = .ok (.iinc 3 1, 3) := by decide +kernel
theorem dX12_leastBits_40 : decode cX12_leastBits 40 = .ok (.goto (-36), 3) := by decide +kernel
theorem dX12_leastBits_43 : decode cX12_leastBits 43 = .ok (.iload_n 2, 1) := by decide +kernel
theorem dX12_leastBits_44 : decode cX12_leastBits 44 = .ok (.ireturn, 1) := by decide +kernel
theorem dX12_isOrderOf_0 : decode cX12_isOrderOf 0 = .ok (.iconst 1, 1) := by decide +kernel
theorem dX12_isOrderOf_1 : decode cX12_isOrderOf 1 = .ok (.istore_n 3, 1) := by decide +kernel
theorem dX12_isOrderOf_2 : decode cX12_isOrderOf 2 = .ok (.iconst 0, 1) := by decide +kernel
theorem dX12_isOrderOf_3 : decode cX12_isOrderOf 3 = .ok (.istore 4, 2) := by decide +kernel
theorem dX12_isOrderOf_5 : decode cX12_isOrderOf 5 = .ok (.iload 4, 2) := by decide +kernel
theorem dX12_isOrderOf_7 : decode cX12_isOrderOf 7 = .ok (.aload_n 0, 1) := by decide +kernel
theorem dX12_isOrderOf_8 : decode cX12_isOrderOf 8 = .ok (.getfield 16, 3) := by decide +kernel
theorem dX12_isOrderOf_11 : decode cX12_isOrderOf 11 = .ok (.if_icmp .ge 67, 3) := by decide +kernel
theorem dX12_isOrderOf_14 : decode cX12_isOrderOf 14 = .ok (.iload_n 2, 1) := by decide +kernel
theorem dX12_isOrderOf_15 : decode cX12_isOrderOf 15 = .ok (.aload_n 0, 1) := by decide +kernel
theorem dX12_isOrderOf_16 : decode cX12_isOrderOf 16 = .ok (.getfield 16, 3) := by decide +kernel
theorem dX12_isOrderOf_19 : decode cX12_isOrderOf 19 = .ok (.iconst 1, 1) := by decide +kernel
theorem dX12_isOrderOf_20 : decode cX12_isOrderOf 20 = .ok (.isub, 1) := by decide +kernel
theorem dX12_isOrderOf_21 : decode cX12_isOrderOf 21 = .ok (.iload 4, 2) := by decide +kernel
theorem dX12_isOrderOf_23 : decode cX12_isOrderOf 23 = .ok (.isub, 1) := by decide +kernel
theorem dX12_isOrderOf_24 : decode cX12_isOrderOf 24 = .ok (.ishr, 1) := by decide +kernel
theorem dX12_isOrderOf_25 : decode cX12_isOrderOf 25 = .ok (.iconst 1, 1) := by decide +kernel
theorem dX12_isOrderOf_26 : decode cX12_isOrderOf 26 = .ok (.iand, 1) := by decide +kernel
theorem dX12_isOrderOf_27 : decode cX12_isOrderOf 27 = .ok (.istore 5, 2) := by decide +kernel
theorem dX12_isOrderOf_29 : decode cX12_isOrderOf 29 = .ok (.iload_n 3, 1) := by decide +kernel
theorem dX12_isOrderOf_30 : decode cX12_isOrderOf 30 = .ok (.ifCond .eq 40, 3) := by decide +kernel
theorem dX12_isOrderOf_33 : decode cX12_isOrderOf 33 = .ok (.aload_n 0, 1) := by decide +kernel
theorem dX12_isOrderOf_34 : decode cX12_isOrderOf 34 = .ok (.getfield 23, 3) := by decide +kernel
theorem dX12_isOrderOf_37 : decode cX12_isOrderOf 37 = .ok (.bipush 12, 2) := by decide +kernel
theorem dX12_isOrderOf_39 : decode cX12_isOrderOf 39 = .ok (.iload_n 1, 1) := by decide +kernel
theorem dX12_isOrderOf_40 : decode cX12_isOrderOf 40 = .ok (.imul, 1) := by decide +kernel
theorem dX12_isOrderOf_41 : decode cX12_isOrderOf 41 = .ok (.iload 4, 2) := by decide +kernel
theorem dX12_isOrderOf_43 : decode cX12_isOrderOf 43 = .ok (.iadd, 1) := by decide +kernel
theorem dX12_isOrderOf_44 : decode cX12_isOrderOf 44 = .ok (.iaload, 1) := by decide +kernel
theorem dX12_isOrderOf_45 : decode cX12_isOrderOf 45 = .ok (.iconst 1, 1) := by decide +kernel
theorem dX12_isOrderOf_46 : decode cX12_isOrderOf 46 = .ok (.if_icmp .gt 20, 3) := by decide +kernel
theorem dX12_isOrderOf_49 : decode cX12_isOrderOf 49 = .ok (.aload_n 0, 1) := by decide +kernel
theorem dX12_isOrderOf_50 : decode cX12_isOrderOf 50 = .ok (.getfield 23, 3) := by decide +kernel
theorem dX12_isOrderOf_53 : decode cX12_isOrderOf 53 = .ok (.bipush 12, 2) := by decide +kernel
theorem dX12_isOrderOf_55 : decode cX12_isOrderOf 55 = .ok (.iload_n 1, 1) := by decide +kernel
theorem dX12_isOrderOf_56 : decode cX12_isOrderOf 56 = .ok (.imul, 1) := by decide +kernel
theorem dX12_isOrderOf_57 : decode cX12_isOrderOf 57 = .ok (.iload 4, 2) := by decide +kernel
theorem dX12_isOrderOf_59 : decode cX12_isOrderOf 59 = .ok (.iadd, 1) := by decide +kernel
theorem dX12_isOrderOf_60 : decode cX12_isOrderOf 60 = .ok (.iaload, 1) := by decide +kernel
theorem dX12_isOrderOf_61 : decode cX12_isOrderOf 61 = .ok (.iload 5, 2) := by decide +kernel
theorem dX12_isOrderOf_63 : decode cX12_isOrderOf 63 = .ok (.if_icmp .ne 7, 3) := by decide +kernel
theorem dX12_isOrderOf_66 : decode cX12_isOrderOf 66 = .ok (.iconst 1, 1) := by decide +kernel
theorem dX12_isOrderOf_67 : decode cX12_isOrderOf 67 = .ok (.goto 4, 3) := by decide +kernel
theorem dX12_isOrderOf_70 : decode cX12_isOrderOf 70 = .ok (.iconst 0, 1) := by decide +kernel
theorem dX12_isOrderOf_71 : decode cX12_isOrderOf 71 = .ok (.istore_n 3, 1) := by decide +kernel
theorem dX12_isOrderOf_72 : decode cX12_isOrderOf 72 = .ok (.iinc 4 1, 3) := by decide +kernel
theorem dX12_isOrderOf_75 : decode cX12_isOrderOf 75 = .ok (.goto (-70), 3) := by decide +kernel
theorem dX12_isOrderOf_78 : decode cX12_isOrderOf 78 = .ok (.iload_n 3, 1) := by decide +kernel
theorem dX12_isOrderOf_79 : decode cX12_isOrderOf 79 = .ok (.ireturn, 1) := by decide +kernel
theorem dX12_orderOf_0 : decode cX12_orderOf 0 = .ok (.iconst 0, 1) := by decide +kernel
theorem dX12_orderOf_1 : decode cX12_orderOf 1 = .ok (.istore_n 2, 1) := by decide +kernel
theorem dX12_orderOf_2 : decode cX12_orderOf 2 = .ok (.iload_n 2, 1) := by decide +kernel
theorem dX12_orderOf_3 : decode cX12_orderOf 3 = .ok (.aload_n 0, 1) := by decide +kernel
theorem dX12_orderOf_4 : decode cX12_orderOf 4 = .ok (.getfield 150, 3) := by decide +kernel
theorem dX12_orderOf_7 : decode cX12_orderOf 7 = .ok (.if_icmp .ge 20, 3) := by decide +kernel
theorem dX12_orderOf_10 : decode cX12_orderOf 10 = .ok (.aload_n 0, 1) := by decide +kernel
theorem dX12_orderOf_11 : decode cX12_orderOf 11 = .ok (.iload_n 2, 1) := by decide +kernel
theorem dX12_orderOf_12 : decode cX12_orderOf 12 = .ok (.iload_n 1, 1) := by decide +kernel
theorem dX12_orderOf_13 : decode cX12_orderOf 13 = .ok (.invokevirtual 180, 3) := by decide +kernel
theorem dX12_orderOf_16 : decode cX12_orderOf 16 = .ok (.ifCond .eq 5, 3) := by decide +kernel
theorem dX12_orderOf_19 : decode cX12_orderOf 19 = .ok (.iload_n 2, 1) := by decide +kernel
theorem dX12_orderOf_20 : decode cX12_orderOf 20 = .ok (.ireturn, 1) := by decide +kernel
theorem dX12_orderOf_21 : decode cX12_orderOf 21 = .ok (.iinc 2 1, 3) := by decide +kernel
theorem dX12_orderOf_24 : decode cX12_orderOf 24 = .ok (.goto (-22), 3) := by decide +kernel
theorem dX12_orderOf_27 : decode cX12_orderOf 27 = .ok (.bipush (-4), 2) := by decide +kernel
theorem dX12_orderOf_29 : decode cX12_orderOf 29 = .ok (.ireturn, 1) := by decide +kernel
theorem dX12_fieldOf_0 : decode cX12_fieldOf 0 = .ok (.iconst 0, 1) := by decide +kernel
theorem dX12_fieldOf_1 : decode cX12_fieldOf 1 = .ok (.istore 4, 2) := by decide +kernel
theorem dX12_fieldOf_3 : decode cX12_fieldOf 3 = .ok (.iconst 0, 1) := by decide +kernel
theorem dX12_fieldOf_4 : decode cX12_fieldOf 4 = .ok (.istore 5, 2) := by decide +kernel
theorem dX12_fieldOf_6 : decode cX12_fieldOf 6 = .ok (.iload 5, 2) := by decide +kernel
theorem dX12_fieldOf_8 : decode cX12_fieldOf 8 = .ok (.aload_n 0, 1) := by decide +kernel
theorem dX12_fieldOf_9 : decode cX12_fieldOf 9 = .ok (.getfield 16, 3) := by decide +kernel
theorem dX12_fieldOf_12 : decode cX12_fieldOf 12 = .ok (.if_icmp .ge 52, 3) := by decide +kernel
theorem dX12_fieldOf_15 : decode cX12_fieldOf 15 = .ok (.aload_n 0, 1) := by decide +kernel
theorem dX12_fieldOf_16 : decode cX12_fieldOf 16 = .ok (.getfield 23, 3) := by decide +kernel
theorem dX12_fieldOf_19 : decode cX12_fieldOf 19 = .ok (.bipush 12, 2) := by decide +kernel
theorem dX12_fieldOf_21 : decode cX12_fieldOf 21 = .ok (.iload_n 1, 1) := by decide +kernel
theorem dX12_fieldOf_22 : decode cX12_fieldOf 22 = .ok (.imul, 1) := by decide +kernel
theorem dX12_fieldOf_23 : decode cX12_fieldOf 23 = .ok (.iload 5, 2) := by decide +kernel
theorem dX12_fieldOf_25 : decode cX12_fieldOf 25 = .ok (.iadd, 1) := by decide +kernel
theorem dX12_fieldOf_26 : decode cX12_fieldOf 26 = .ok (.iaload, 1) := by decide +kernel
theorem dX12_fieldOf_27 : decode cX12_fieldOf 27 = .ok (.iconst 2, 1) := by decide +kernel
theorem dX12_fieldOf_28 : decode cX12_fieldOf 28 = .ok (.iload_n 3, 1) := by decide +kernel
theorem dX12_fieldOf_29 : decode cX12_fieldOf 29 = .ok (.iadd, 1) := by decide +kernel
theorem dX12_fieldOf_30 : decode cX12_fieldOf 30 = .ok (.if_icmp .ne 24, 3) := by decide +kernel
theorem dX12_fieldOf_33 : decode cX12_fieldOf 33 = .ok (.iconst 2, 1) := by decide +kernel
theorem dX12_fieldOf_34 : decode cX12_fieldOf 34 = .ok (.iload 4, 2) := by decide +kernel
theorem dX12_fieldOf_36 : decode cX12_fieldOf 36 = .ok (.imul, 1) := by decide +kernel
theorem dX12_fieldOf_37 : decode cX12_fieldOf 37 = .ok (.iload_n 2, 1) := by decide +kernel
theorem dX12_fieldOf_38 : decode cX12_fieldOf 38 = .ok (.aload_n 0, 1) := by decide +kernel
theorem dX12_fieldOf_39 : decode cX12_fieldOf 39 = .ok (.getfield 16, 3) := by decide +kernel
theorem dX12_fieldOf_42 : decode cX12_fieldOf 42 = .ok (.iconst 1, 1) := by decide +kernel
theorem dX12_fieldOf_43 : decode cX12_fieldOf 43 = .ok (.isub, 1) := by decide +kernel
theorem dX12_fieldOf_44 : decode cX12_fieldOf 44 = .ok (.iload 5, 2) := by decide +kernel
theorem dX12_fieldOf_46 : decode cX12_fieldOf 46 = .ok (.isub, 1) := by decide +kernel
theorem dX12_fieldOf_47 : decode cX12_fieldOf 47 = .ok (.ishr, 1) := by decide +kernel
theorem dX12_fieldOf_48 : decode cX12_fieldOf 48 = .ok (.iconst 1, 1) := by decide +kernel
theorem dX12_fieldOf_49 : decode cX12_fieldOf 49 = .ok (.iand, 1) := by decide +kernel
theorem dX12_fieldOf_50 : decode cX12_fieldOf 50 = .ok (.iadd, 1) := by decide +kernel
theorem dX12_fieldOf_51 : decode cX12_fieldOf 51 = .ok (.goto 5, 3) := by decide +kernel
theorem dX12_fieldOf_54 : decode cX12_fieldOf 54 = .ok (.iload 4, 2) := by decide +kernel
theorem dX12_fieldOf_56 : decode cX12_fieldOf 56 = .ok (.istore 4, 2) := by decide +kernel
theorem dX12_fieldOf_58 : decode cX12_fieldOf 58 = .ok (.iinc 5 1, 3) := by decide +kernel
theorem dX12_fieldOf_61 : decode cX12_fieldOf 61 = .ok (.goto (-55), 3) := by decide +kernel
theorem dX12_fieldOf_64 : decode cX12_fieldOf 64 = .ok (.iload 4, 2) := by decide +kernel
theorem dX12_fieldOf_66 : decode cX12_fieldOf 66 = .ok (.ireturn, 1) := by decide +kernel
theorem dX12_hasField_0 : decode cX12_hasField 0 = .ok (.aload_n 0, 1) := by decide +kernel
theorem dX12_hasField_1 : decode cX12_hasField 1 = .ok (.iload_n 1, 1) := by decide +kernel
theorem dX12_hasField_2 : decode cX12_hasField 2 = .ok (.iload_n 2, 1) := by decide +kernel
theorem dX12_hasField_3 : decode cX12_hasField 3 = .ok (.invokevirtual 184, 3) := by decide +kernel
theorem dX12_hasField_6 : decode cX12_hasField 6 = .ok (.ifCond .le 7, 3) := by decide +kernel
theorem dX12_hasField_9 : decode cX12_hasField 9 = .ok (.iconst 1, 1) := by decide +kernel
theorem dX12_hasField_10 : decode cX12_hasField 10 = .ok (.goto 4, 3) := by decide +kernel
theorem dX12_hasField_13 : decode cX12_hasField 13 = .ok (.iconst 0, 1) := by decide +kernel
theorem dX12_hasField_14 : decode cX12_hasField 14 = .ok (.ireturn, 1) := by decide +kernel
theorem dX12_fieldMask_0 : decode cX12_fieldMask 0 = .ok (.iconst 0, 1) := by decide +kernel
theorem dX12_fieldMask_1 : decode cX12_fieldMask 1 = .ok (.istore_n 2, 1) := by decide +kernel
theorem dX12_fieldMask_2 : decode cX12_fieldMask 2 = .ok (.iconst 0, 1) := by decide +kernel
theorem dX12_fieldMask_3 : decode cX12_fieldMask 3 = .ok (.istore_n 3, 1) := by decide +kernel
theorem dX12_fieldMask_4 : decode cX12_fieldMask 4 = .ok (.iload_n 3, 1) := by decide +kernel
theorem dX12_fieldMask_5 : decode cX12_fieldMask 5 = .ok (.iconst 4, 1) := by decide +kernel
theorem dX12_fieldMask_6 : decode cX12_fieldMask 6 = .ok (.if_icmp .ge 28, 3) := by decide +kernel
theorem dX12_fieldMask_9 : decode cX12_fieldMask 9 = .ok (.iload_n 2, 1) := by decide +kernel
theorem dX12_fieldMask_10 : decode cX12_fieldMask 10 = .ok (.aload_n 0, 1) := by decide +kernel
theorem dX12_fieldMask_11 : decode cX12_fieldMask 11 = .ok (.iload_n 1, 1) := by decide +kernel
theorem dX12_fieldMask_12 : decode cX12_fieldMask 12 = .ok (.iload_n 3, 1) := by decide +kernel
theorem dX12_fieldMask_13 : decode cX12_fieldMask 13 = .ok (.invokevirtual 188, 3) := by decide +kernel
theorem dX12_fieldMask_16 : decode cX12_fieldMask 16 = .ok (.ifCond .eq 9, 3) := by decide +kernel
theorem dX12_fieldMask_19 : decode cX12_fieldMask 19 = .ok (.iconst 1, 1) := by decide +kernel
theorem dX12_fieldMask_20 : decode cX12_fieldMask 20 = .ok (.iload_n 3, 1) := by decide +kernel
theorem dX12_fieldMask_21 : decode cX12_fieldMask 21 = .ok (.ishl, 1) := by decide +kernel
theorem dX12_fieldMask_22 : decode cX12_fieldMask 22 = .ok (.goto 4, 3) := by decide +kernel
theorem dX12_fieldMask_25 : decode cX12_fieldMask 25 = .ok (.iconst 0, 1) := by decide +kernel
theorem dX12_fieldMask_26 : decode cX12_fieldMask 26 = .ok (.ior, 1) := by decide +kernel
theorem dX12_fieldMask_27 : decode cX12_fieldMask 27 = .ok (.istore_n 2, 1) := by decide +kernel
theorem dX12_fieldMask_28 : decode cX12_fieldMask 28 = .ok (.iinc 3 1, 3) := by decide +kernel
theorem dX12_fieldMask_31 : decode cX12_fieldMask 31 = .ok (.goto (-27), 3) := by decide +kernel
theorem dX12_fieldMask_34 : decode cX12_fieldMask 34 = .ok (.iload_n 2, 1) := by decide +kernel
theorem dX12_fieldMask_35 : decode cX12_fieldMask 35 = .ok (.ireturn, 1) := by decide +kernel
theorem dX12_isOrder_0 : decode cX12_isOrder 0 = .ok (.iload_n 1, 1) := by decide +kernel
theorem dX12_isOrder_1 : decode cX12_isOrder 1 = .ok (.i2l, 1) := by decide +kernel
theorem dX12_isOrder_2 : decode cX12_isOrder 2 = .ok (.lconst 0, 1) := by decide +kernel
theorem dX12_isOrder_3 : decode cX12_isOrder 3 = .ok (.aload_n 0, 1) := by decide +kernel
theorem dX12_isOrder_4 : decode cX12_isOrder 4 = .ok (.getfield 150, 3) := by decide +kernel
theorem dX12_isOrder_7 : decode cX12_isOrder 7 = .ok (.iconst 1, 1) := by decide +kernel
theorem dX12_isOrder_8 : decode cX12_isOrder 8 = .ok (.isub, 1) := by decide +kernel
theorem dX12_isOrder_9 : decode cX12_isOrder 9 = .ok (.i2l, 1) := by decide +kernel
theorem dX12_isOrder_10 : decode cX12_isOrder 10 = .ok (.invokestatic 170, 3) := by decide +kernel
theorem dX12_isOrder_13 : decode cX12_isOrder 13 = .ok (.ireturn, 1) := by decide +kernel
theorem dX12_type_0 : decode cX12_type 0 = .ok (.iload_n 3, 1) := by decide +kernel
theorem dX12_type_1 : decode cX12_type 1 = .ok (.i2l, 1) := by decide +kernel
theorem dX12_type_2 : decode cX12_type 2 = .ok (.lconst 1, 1) := by decide +kernel
theorem dX12_type_3 : decode cX12_type 3 = .ok (.ldc2_w 168, 3) := by decide +kernel
theorem dX12_type_6 : decode cX12_type 6 = .ok (.invokestatic 170, 3) := by decide +kernel
theorem dX12_type_9 : decode cX12_type 9 = .ok (.ifCond .ne 5, 3) := by decide +kernel
theorem dX12_type_12 : decode cX12_type 12 = .ok (.iconst (-1), 1) := by decide +kernel
theorem dX12_type_13 : decode cX12_type 13 = .ok (.ireturn, 1) := by decide +kernel
theorem dX12_type_14 : decode cX12_type 14 = .ok (.iload_n 3, 1) := by decide +kernel
theorem dX12_type_15 : decode cX12_type 15 = .ok (.iconst 1, 1) := by decide +kernel
theorem dX12_type_16 : decode cX12_type 16 = .ok (.isub, 1) := by decide +kernel
theorem dX12_type_17 : decode cX12_type 17 = .ok (.istore 4, 2) := by decide +kernel
theorem dX12_type_19 : decode cX12_type 19 = .ok (.iload 4, 2) := by decide +kernel
theorem dX12_type_21 : decode cX12_type 21 = .ok (.ifCond .lt 34, 3) := by decide +kernel
theorem dX12_type_24 : decode cX12_type 24 = .ok (.lload_n 1, 1) := by decide +kernel
theorem dX12_type_25 : decode cX12_type 25 = .ok (.bipush 8, 2) := by decide +kernel
theorem dX12_type_27 : decode cX12_type 27 = .ok (.iload 4, 2) := by decide +kernel
theorem dX12_type_29 : decode cX12_type 29 = .ok (.imul, 1) := by decide +kernel
theorem dX12_type_30 : decode cX12_type 30 = .ok (.lshr, 1) := by decide +kernel
theorem dX12_type_31 : decode cX12_type 31 = .ok (.ldc2_w 191, 3) := by decide +kernel
theorem dX12_type_34 : decode cX12_type 34 = .ok (.land, 1) := by decide +kernel
theorem dX12_type_35 : decode cX12_type 35 = .ok (.ldc2_w 193, 3) := by decide +kernel
theorem dX12_type_38 : decode cX12_type 38 = .ok (.ldc2_w 195, 3) := by decide +kernel
theorem dX12_type_41 : decode cX12_type 41 = .ok (.invokestatic 170, 3) := by decide +kernel
theorem dX12_type_44 : decode cX12_type 44 = .ok (.ifCond .ne 5, 3) := by decide +kernel
theorem dX12_type_47 : decode cX12_type 47 = .ok (.iconst (-1), 1) := by decide +kernel
theorem dX12_type_48 : decode cX12_type 48 = .ok (.ireturn, 1) := by decide +kernel
theorem dX12_type_49 : decode cX12_type 49 = .ok (.iinc 4 (-1), 3) := by decide +kernel
theorem dX12_type_52 : decode cX12_type 52 = .ok (.goto (-33), 3) := by decide +kernel
theorem dX12_type_55 : decode cX12_type 55 = .ok (.aload_n 0, 1) := by decide +kernel
theorem dX12_type_56 : decode cX12_type 56 = .ok (.getfield 197, 3) := by decide +kernel
theorem dX12_type_59 : decode cX12_type 59 = .ok (.iload_n 3, 1) := by decide +kernel
theorem dX12_type_60 : decode cX12_type 60 = .ok (.iadd, 1) := by decide +kernel
theorem dX12_type_61 : decode cX12_type 61 = .ok (.bipush 80, 2) := by decide +kernel
theorem dX12_type_63 : decode cX12_type 63 = .ok (.if_icmp .le 6, 3) := by decide +kernel
theorem dX12_type_66 : decode cX12_type 66 = .ok (.bipush (-3), 2) := by decide +kernel
theorem dX12_type_68 : decode cX12_type 68 = .ok (.ireturn, 1) := by decide +kernel
theorem dX12_type_69 : decode cX12_type 69 = .ok (.iload_n 3, 1) := by decide +kernel
theorem dX12_type_70 : decode cX12_type 70 = .ok (.iconst 1, 1) := by decide +kernel
theorem dX12_type_71 : decode cX12_type 71 = .ok (.isub, 1) := by decide +kernel
theorem dX12_type_72 : decode cX12_type 72 = .ok (.istore 4, 2) := by decide +kernel
theorem dX12_type_74 : decode cX12_type 74 = .ok (.iload 4, 2) := by decide +kernel
theorem dX12_type_76 : decode cX12_type 76 = .ok (.ifCond .lt 40, 3) := by decide +kernel
theorem dX12_type_79 : decode cX12_type 79 = .ok (.aload_n 0, 1) := by decide +kernel
theorem dX12_type_80 : decode cX12_type 80 = .ok (.getfield 47, 3) := by decide +kernel
theorem dX12_type_83 : decode cX12_type 83 = .ok (.aload_n 0, 1) := by decide +kernel
theorem dX12_type_84 : decode cX12_type 84 = .ok (.getfield 197, 3) := by decide +kernel
theorem dX12_type_87 : decode cX12_type 87 = .ok (.lload_n 1, 1) := by decide +kernel
theorem dX12_type_88 : decode cX12_type 88 = .ok (.bipush 8, 2) := by decide +kernel
theorem dX12_type_90 : decode cX12_type 90 = .ok (.iload 4, 2) := by decide +kernel
theorem dX12_type_92 : decode cX12_type 92 = .ok (.imul, 1) := by decide +kernel
theorem dX12_type_93 : decode cX12_type 93 = .ok (.lshr, 1) := by decide +kernel
theorem dX12_type_94 : decode cX12_type 94 = .ok (.ldc2_w 191, 3) := by decide +kernel
theorem dX12_type_97 : decode cX12_type 97 = .ok (.land, 1) := by decide +kernel
theorem dX12_type_98 : decode cX12_type 98 = .ok (.l2i, 1) := by decide +kernel
theorem dX12_type_99 : decode cX12_type 99 = .ok (.iastore, 1) := by decide +kernel
theorem dX12_type_100 : decode cX12_type 100 = .ok (.aload_n 0, 1) := by decide +kernel
theorem dX12_type_101 : decode cX12_type 101 = .ok (.dup, 1) := by decide +kernel
theorem dX12_type_102 : decode cX12_type 102 = .ok (.getfield 197, 3) := by decide +kernel
theorem dX12_type_105 : decode cX12_type 105 = .ok (.iconst 1, 1) := by decide +kernel
theorem dX12_type_106 : decode cX12_type 106 = .ok (.iadd, 1) := by decide +kernel
theorem dX12_type_107 : decode cX12_type 107 = .ok (.putfield 197, 3) := by decide +kernel
theorem dX12_type_110 : decode cX12_type 110 = .ok (.iinc 4 (-1), 3) := by decide +kernel
theorem dX12_type_113 : decode cX12_type 113 = .ok (.goto (-39), 3) := by decide +kernel
theorem dX12_type_116 : decode cX12_type 116 = .ok (.aload_n 0, 1) := by decide +kernel
theorem dX12_type_117 : decode cX12_type 117 = .ok (.getfield 197, 3) := by decide +kernel
theorem dX12_type_120 : decode cX12_type 120 = .ok (.ireturn, 1) := by decide +kernel
theorem dX12_next_0 : decode cX12_next 0 = .ok (.aload_n 0, 1) := by decide +kernel
theorem dX12_next_1 : decode cX12_next 1 = .ok (.getfield 200, 3) := by decide +kernel
theorem dX12_next_4 : decode cX12_next 4 = .ok (.aload_n 0, 1) := by decide +kernel
theorem dX12_next_5 : decode cX12_next 5 = .ok (.getfield 197, 3) := by decide +kernel
theorem dX12_next_8 : decode cX12_next 8 = .ok (.if_icmp .ge 30, 3) := by decide +kernel
theorem dX12_next_11 : decode cX12_next 11 = .ok (.aload_n 0, 1) := by decide +kernel
theorem dX12_next_12 : decode cX12_next 12 = .ok (.getfield 47, 3) := by decide +kernel
theorem dX12_next_15 : decode cX12_next 15 = .ok (.aload_n 0, 1) := by decide +kernel
theorem dX12_next_16 : decode cX12_next 16 = .ok (.getfield 200, 3) := by decide +kernel
theorem dX12_next_19 : decode cX12_next 19 = .ok (.iaload, 1) := by decide +kernel
theorem dX12_next_20 : decode cX12_next 20 = .ok (.bipush 32, 2) := by decide +kernel
theorem dX12_next_22 : decode cX12_next 22 = .ok (.if_icmp .ne 16, 3) := by decide +kernel
theorem dX12_next_25 : decode cX12_next 25 = .ok (.aload_n 0, 1) := by decide +kernel
theorem dX12_next_26 : decode cX12_next 26 = .ok (.dup, 1) := by decide +kernel
theorem dX12_next_27 : decode cX12_next 27 = .ok (.getfield 200, 3) := by decide +kernel
theorem dX12_next_30 : decode cX12_next 30 = .ok (.iconst 1, 1) := by decide +kernel
theorem dX12_next_31 : decode cX12_next 31 = .ok (.iadd, 1) := by decide +kernel
theorem dX12_next_32 : decode cX12_next 32 = .ok (.putfield 200, 3) := by decide +kernel
theorem dX12_next_35 : decode cX12_next 35 = .ok (.goto (-35), 3) := by decide +kernel
theorem dX12_next_38 : decode cX12_next 38 = .ok (.aload_n 0, 1) := by decide +kernel
theorem dX12_next_39 : decode cX12_next 39 = .ok (.getfield 200, 3) := by decide +kernel
theorem dX12_next_42 : decode cX12_next 42 = .ok (.aload_n 0, 1) := by decide +kernel
theorem dX12_next_43 : decode cX12_next 43 = .ok (.getfield 197, 3) := by decide +kernel
theorem dX12_next_46 : decode cX12_next 46 = .ok (.if_icmp .ge 15, 3) := by decide +kernel
theorem dX12_next_49 : decode cX12_next 49 = .ok (.aload_n 0, 1) := by decide +kernel
theorem dX12_next_50 : decode cX12_next 50 = .ok (.getfield 47, 3) := by decide +kernel
theorem dX12_next_53 : decode cX12_next 53 = .ok (.aload_n 0, 1) := by decide +kernel
theorem dX12_next_54 : decode cX12_next 54 = .ok (.getfield 200, 3) := by decide +kernel
theorem dX12_next_57 : decode cX12_next 57 = .ok (.iaload, 1) := by decide +kernel
theorem dX12_next_58 : decode cX12_next 58 = .ok (.goto 4, 3) := by decide +kernel
theorem dX12_next_61 : decode cX12_next 61 = .ok (.iconst (-1), 1) := by decide +kernel
theorem dX12_next_62 : decode cX12_next 62 = .ok (.ireturn, 1) := by decide +kernel
theorem dX12_takes_0 : decode cX12_takes 0 = .ok (.aload_n 0, 1) := by decide +kernel
theorem dX12_takes_1 : decode cX12_takes 1 = .ok (.invokevirtual 203, 3) := by decide +kernel
theorem dX12_takes_4 : decode cX12_takes 4 = .ok (.iload_n 1, 1) := by decide +kernel
theorem dX12_takes_5 : decode cX12_takes 5 = .ok (.if_icmp .ne 7, 3) := by decide +kernel
theorem dX12_takes_8 : decode cX12_takes 8 = .ok (.iconst 1, 1) := by decide +kernel
theorem dX12_takes_9 : decode cX12_takes 9 = .ok (.goto 4, 3) := by decide +kernel
theorem dX12_takes_12 : decode cX12_takes 12 = .ok (.iconst 0, 1) := by decide +kernel
theorem dX12_takes_13 : decode cX12_takes 13 = .ok (.istore_n 2, 1) := by decide +kernel
theorem dX12_takes_14 : decode cX12_takes 14 = .ok (.aload_n 0, 1) := by decide +kernel
theorem dX12_takes_15 : decode cX12_takes 15 = .ok (.dup, 1) := by decide +kernel
theorem dX12_takes_16 : decode cX12_takes 16 = .ok (.getfield 200, 3) := by decide +kernel
theorem dX12_takes_19 : decode cX12_takes 19 = .ok (.iload_n 2, 1) := by decide +kernel
theorem dX12_takes_20 : decode cX12_takes 20 = .ok (.ifCond .eq 7, 3) := by decide +kernel
theorem dX12_takes_23 : decode cX12_takes 23 = .ok (.iconst 1, 1) := by decide +kernel
theorem dX12_takes_24 : decode cX12_takes 24 = .ok (.goto 4, 3) := by decide +kernel
theorem dX12_takes_27 : decode cX12_takes 27 = .ok (.iconst 0, 1) := by decide +kernel
theorem dX12_takes_28 : decode cX12_takes 28 = .ok (.iadd, 1) := by decide +kernel
theorem dX12_takes_29 : decode cX12_takes 29 = .ok (.putfield 200, 3) := by decide +kernel
theorem dX12_takes_32 : decode cX12_takes 32 = .ok (.iload_n 2, 1) := by decide +kernel
theorem dX12_takes_33 : decode cX12_takes 33 = .ok (.ireturn, 1) := by decide +kernel
theorem dX12_number_0 : decode cX12_number 0 = .ok (.aload_n 0, 1) := by decide +kernel
theorem dX12_number_1 : decode cX12_number 1 = .ok (.invokevirtual 203, 3) := by decide +kernel
theorem dX12_number_4 : decode cX12_number 4 = .ok (.istore_n 2, 1) := by decide +kernel
theorem dX12_number_5 : decode cX12_number 5 = .ok (.aload_n 0, 1) := by decide +kernel
theorem dX12_number_6 : decode cX12_number 6 = .ok (.getfield 200, 3) := by decide +kernel
theorem dX12_number_9 : decode cX12_number 9 = .ok (.istore_n 3, 1) := by decide +kernel
theorem dX12_number_10 : decode cX12_number 10 = .ok (.iconst 0, 1) := by decide +kernel
theorem dX12_number_11 : decode cX12_number 11 = .ok (.istore 4, 2) := by decide +kernel
theorem dX12_number_13 : decode cX12_number 13 = .ok (.aload_n 0, 1) := by decide +kernel
theorem dX12_number_14 : decode cX12_number 14 = .ok (.getfield 200, 3) := by decide +kernel
theorem dX12_number_17 : decode cX12_number 17 = .ok (.aload_n 0, 1) := by decide +kernel
theorem dX12_number_18 : decode cX12_number 18 = .ok (.getfield 197, 3) := by decide +kernel
theorem dX12_number_21 : decode cX12_number 21 = .ok (.if_icmp .ge 69, 3) := by decide +kernel
theorem dX12_number_24 : decode cX12_number 24 = .ok (.aload_n 0, 1) := by decide +kernel
theorem dX12_number_25 : decode cX12_number 25 = .ok (.getfield 47, 3) := by decide +kernel
theorem dX12_number_28 : decode cX12_number 28 = .ok (.aload_n 0, 1) := by decide +kernel
theorem dX12_number_29 : decode cX12_number 29 = .ok (.getfield 200, 3) := by decide +kernel
theorem dX12_number_32 : decode cX12_number 32 = .ok (.iaload, 1) := by decide +kernel
theorem dX12_number_33 : decode cX12_number 33 = .ok (.i2l, 1) := by decide +kernel
theorem dX12_number_34 : decode cX12_number 34 = .ok (.ldc2_w 207, 3) := by decide +kernel
theorem dX12_number_37 : decode cX12_number 37 = .ok (.ldc2_w 209, 3) := by decide +kernel
theorem dX12_number_40 : decode cX12_number 40 = .ok (.invokestatic 170, 3) := by decide +kernel
theorem dX12_number_43 : decode cX12_number 43 = .ok (.ifCond .eq 47, 3) := by decide +kernel
theorem dX12_number_46 : decode cX12_number 46 = .ok (.iload 4, 2) := by decide +kernel
theorem dX12_number_48 : decode cX12_number 48 = .ok (.iload_n 1, 1) := by decide +kernel
theorem dX12_number_49 : decode cX12_number 49 = .ok (.if_icmp .le 8, 3) := by decide +kernel
theorem dX12_number_52 : decode cX12_number 52 = .ok (.iload 4, 2) := by decide +kernel
theorem dX12_number_54 : decode cX12_number 54 = .ok (.goto 21, 3) := by decide +kernel
theorem dX12_number_57 : decode cX12_number 57 = .ok (.bipush 10, 2) := by decide +kernel
theorem dX12_number_59 : decode cX12_number 59 = .ok (.iload 4, 2) := by decide +kernel
theorem dX12_number_61 : decode cX12_number 61 = .ok (.imul, 1) := by decide +kernel
theorem dX12_number_62 : decode cX12_number 62 = .ok (.aload_n 0, 1) := by decide +kernel
theorem dX12_number_63 : decode cX12_number 63 = .ok (.getfield 47, 3) := by decide +kernel
theorem dX12_number_66 : decode cX12_number 66 = .ok (.aload_n 0, 1) := by decide +kernel
theorem dX12_number_67 : decode cX12_number 67 = .ok (.getfield 200, 3) := by decide +kernel
theorem dX12_number_70 : decode cX12_number 70 = .ok (.iaload, 1) := by decide +kernel
theorem dX12_number_71 : decode cX12_number 71 = .ok (.iadd, 1) := by decide +kernel
theorem dX12_number_72 : decode cX12_number 72 = .ok (.bipush 48, 2) := by decide +kernel
theorem dX12_number_74 : decode cX12_number 74 = .ok (.isub, 1) := by decide +kernel
theorem dX12_number_75 : decode cX12_number 75 = .ok (.istore 4, 2) := by decide +kernel
theorem dX12_number_77 : decode cX12_number 77 = .ok (.aload_n 0, 1) := by decide +kernel
theorem dX12_number_78 : decode cX12_number 78 = .ok (.dup, 1) := by decide +kernel
theorem dX12_number_79 : decode cX12_number 79 = .ok (.getfield 200, 3) := by decide +kernel
theorem dX12_number_82 : decode cX12_number 82 = .ok (.iconst 1, 1) := by decide +kernel
theorem dX12_number_83 : decode cX12_number 83 = .ok (.iadd, 1) := by decide +kernel
theorem dX12_number_84 : decode cX12_number 84 = .ok (.putfield 200, 3) := by decide +kernel
theorem dX12_number_87 : decode cX12_number 87 = .ok (.goto (-74), 3) := by decide +kernel
theorem dX12_number_90 : decode cX12_number 90 = .ok (.iload_n 2, 1) := by decide +kernel
theorem dX12_number_91 : decode cX12_number 91 = .ok (.ifCond .lt 17, 3) := by decide +kernel
theorem dX12_number_94 : decode cX12_number 94 = .ok (.aload_n 0, 1) := by decide +kernel
theorem dX12_number_95 : decode cX12_number 95 = .ok (.getfield 200, 3) := by decide +kernel
theorem dX12_number_98 : decode cX12_number 98 = .ok (.iload_n 3, 1) := by decide +kernel
theorem dX12_number_99 : decode cX12_number 99 = .ok (.if_icmp .eq 9, 3) := by decide +kernel
theorem dX12_number_102 : decode cX12_number 102 = .ok (.iload 4, 2) := by decide +kernel
theorem dX12_number_104 : decode cX12_number 104 = .ok (.iload_n 1, 1) := by decide +kernel
theorem dX12_number_105 : decode cX12_number 105 = .ok (.if_icmp .le 10, 3) := by decide +kernel
theorem dX12_number_108 : decode cX12_number 108 = .ok (.aload_n 0, 1) := by decide +kernel
theorem dX12_number_109 : decode cX12_number 109 = .ok (.iload_n 3, 1) := by decide +kernel
theorem dX12_number_110 : decode cX12_number 110 = .ok (.putfield 200, 3) := by decide +kernel
theorem dX12_number_113 : decode cX12_number 113 = .ok (.iconst (-1), 1) := by decide +kernel
theorem dX12_number_114 : decode cX12_number 114 = .ok (.ireturn, 1) := by decide +kernel
theorem dX12_number_115 : decode cX12_number 115 = .ok (.iload 4, 2) := by decide +kernel
theorem dX12_number_117 : decode cX12_number 117 = .ok (.ireturn, 1) := by decide +kernel
theorem dX12_readName_0 : decode cX12_readName 0 = .ok (.aload_n 0, 1) := by decide +kernel
theorem dX12_readName_1 : decode cX12_readName 1 = .ok (.invokevirtual 203, 3) := by decide +kernel
theorem dX12_readName_4 : decode cX12_readName 4 = .ok (.istore_n 1, 1) := by decide +kernel
theorem dX12_readName_5 : decode cX12_readName 5 = .ok (.aload_n 0, 1) := by decide +kernel
theorem dX12_readName_6 : decode cX12_readName 6 = .ok (.aload_n 0, 1) := by decide +kernel
theorem dX12_readName_7 : decode cX12_readName 7 = .ok (.getfield 200, 3) := by decide +kernel
theorem dX12_readName_10 : decode cX12_readName 10 = .ok (.putfield 211, 3) := by decide +kernel
theorem dX12_readName_13 : decode cX12_readName 13 = .ok (.iconst 0, 1) := by decide +kernel
theorem dX12_readName_14 : decode cX12_readName 14 = .ok (.istore_n 2, 1) := by decide +kernel
theorem dX12_readName_15 : decode cX12_readName 15 = .ok (.iload_n 1, 1) := by decide +kernel
theorem dX12_readName_16 : decode cX12_readName 16 = .ok (.i2l, 1) := by decide +kernel
theorem dX12_readName_17 : decode cX12_readName 17 = .ok (.ldc2_w 214, 3) := by decide +kernel
theorem dX12_readName_20 : decode cX12_readName 20 = .ok (.ldc2_w 216, 3) := by decide +kernel
theorem dX12_readName_23 : decode cX12_readName 23 = .ok (.invokestatic 170, 3) := by decide +kernel
theorem dX12_readName_26 : decode cX12_readName 26 = .ok (.ifCond .eq 66, 3) := by decide +kernel
theorem dX12_readName_29 : decode cX12_readName 29 = .ok (.aload_n 0, 1) := by decide +kernel
theorem dX12_readName_30 : decode cX12_readName 30 = .ok (.getfield 200, 3) := by decide +kernel
theorem dX12_readName_33 : decode cX12_readName 33 = .ok (.aload_n 0, 1) := by decide +kernel
theorem dX12_readName_34 : decode cX12_readName 34 = .ok (.getfield 211, 3) := by decide +kernel
theorem dX12_readName_37 : decode cX12_readName 37 = .ok (.iconst 3, 1) := by decide +kernel
theorem dX12_readName_38 : decode cX12_readName 38 = .ok (.iadd, 1) := by decide +kernel
theorem dX12_readName_39 : decode cX12_readName 39 = .ok (.if_icmp .ge 53, 3) := by decide +kernel
theorem dX12_readName_42 : decode cX12_readName 42 = .ok (.bipush 27, 2) := by decide +kernel
theorem dX12_readName_44 : decode cX12_readName 44 = .ok (.iload_n 2, 1) := by decide +kernel
theorem dX12_readName_45 : decode cX12_readName 45 = .ok (.imul, 1) := by decide +kernel
theorem dX12_readName_46 : decode cX12_readName 46 = .ok (.iload_n 1, 1) := by decide +kernel
theorem dX12_readName_47 : decode cX12_readName 47 = .ok (.iadd, 1) := by decide +kernel
theorem dX12_readName_48 : decode cX12_readName 48 = .ok (.bipush 97, 2) := by decide +kernel
theorem dX12_readName_50 : decode cX12_readName 50 = .ok (.isub, 1) := by decide +kernel
theorem dX12_readName_51 : decode cX12_readName 51 = .ok (.iconst 1, 1) := by decide +kernel
theorem dX12_readName_52 : decode cX12_readName 52 = .ok (.iadd, 1) := by decide +kernel
theorem dX12_readName_53 : decode cX12_readName 53 = .ok (.istore_n 2, 1) := by decide +kernel
theorem dX12_readName_54 : decode cX12_readName 54 = .ok (.aload_n 0, 1) := by decide +kernel
theorem dX12_readName_55 : decode cX12_readName 55 = .ok (.dup, 1) := by decide +kernel
theorem dX12_readName_56 : decode cX12_readName 56 = .ok (.getfield 200, 3) := by decide +kernel
theorem dX12_readName_59 : decode cX12_readName 59 = .ok (.iconst 1, 1) := by decide +kernel
theorem dX12_readName_60 : decode cX12_readName 60 = .ok (.iadd, 1) := by decide +kernel
theorem dX12_readName_61 : decode cX12_readName 61 = .ok (.putfield 200, 3) := by decide +kernel
theorem dX12_readName_64 : decode cX12_readName 64 = .ok (.aload_n 0, 1) := by decide +kernel
theorem dX12_readName_65 : decode cX12_readName 65 = .ok (.getfield 200, 3) := by decide +kernel
theorem dX12_readName_68 : decode cX12_readName 68 = .ok (.aload_n 0, 1) := by decide +kernel
theorem dX12_readName_69 : decode cX12_readName 69 = .ok (.getfield 197, 3) := by decide +kernel
theorem dX12_readName_72 : decode cX12_readName 72 = .ok (.if_icmp .ge 15, 3) := by decide +kernel
theorem dX12_readName_75 : decode cX12_readName 75 = .ok (.aload_n 0, 1) := by decide +kernel
theorem dX12_readName_76 : decode cX12_readName 76 = .ok (.getfield 47, 3) := by decide +kernel
theorem dX12_readName_79 : decode cX12_readName 79 = .ok (.aload_n 0, 1) := by decide +kernel
theorem dX12_readName_80 : decode cX12_readName 80 = .ok (.getfield 200, 3) := by decide +kernel
theorem dX12_readName_83 : decode cX12_readName 83 = .ok (.iaload, 1) := by decide +kernel
theorem dX12_readName_84 : decode cX12_readName 84 = .ok (.goto 4, 3) := by decide +kernel
theorem dX12_readName_87 : decode cX12_readName 87 = .ok (.iconst (-1), 1) := by decide +kernel
theorem dX12_readName_88 : decode cX12_readName 88 = .ok (.istore_n 1, 1) := by decide +kernel
theorem dX12_readName_89 : decode cX12_readName 89 = .ok (.goto (-74), 3) := by decide +kernel
theorem dX12_readName_92 : decode cX12_readName 92 = .ok (.iload_n 2, 1) := by decide +kernel
theorem dX12_readName_93 : decode cX12_readName 93 = .ok (.ireturn, 1) := by decide +kernel
theorem dX12_named_0 : decode cX12_named 0 = .ok (.iconst 0, 1) := by decide +kernel
theorem dX12_named_1 : decode cX12_named 1 = .ok (.istore_n 2, 1) := by decide +kernel
theorem dX12_named_2 : decode cX12_named 2 = .ok (.iload_n 2, 1) := by decide +kernel
theorem dX12_named_3 : decode cX12_named 3 = .ok (.aload_n 0, 1) := by decide +kernel
theorem dX12_named_4 : decode cX12_named 4 = .ok (.getfield 150, 3) := by decide +kernel
theorem dX12_named_7 : decode cX12_named 7 = .ok (.if_icmp .ge 21, 3) := by decide +kernel
theorem dX12_named_10 : decode cX12_named 10 = .ok (.aload_n 0, 1) := by decide +kernel
theorem dX12_named_11 : decode cX12_named 11 = .ok (.getfield 19, 3) := by decide +kernel
theorem dX12_named_14 : decode cX12_named 14 = .ok (.iload_n 2, 1) := by decide +kernel
theorem dX12_named_15 : decode cX12_named 15 = .ok (.iaload, 1) := by decide +kernel
theorem dX12_named_16 : decode cX12_named 16 = .ok (.iload_n 1, 1) := by decide +kernel
theorem dX12_named_17 : decode cX12_named 17 = .ok (.if_icmp .ne 5, 3) := by decide +kernel
theorem dX12_named_20 : decode cX12_named 20 = .ok (.iload_n 2, 1) := by decide +kernel
theorem dX12_named_21 : decode cX12_named 21 = .ok (.ireturn, 1) := by decide +kernel
theorem dX12_named_22 : decode cX12_named 22 = .ok (.iinc 2 1, 3) := by decide +kernel
theorem dX12_named_25 : decode cX12_named 25 = .ok (.goto (-23), 3) := by decide +kernel
theorem dX12_named_28 : decode cX12_named 28 = .ok (.bipush (-4), 2) := by decide +kernel
theorem dX12_named_30 : decode cX12_named 30 = .ok (.ireturn, 1) := by decide +kernel
theorem dX12_readNewName_0 : decode cX12_readNewName 0 = .ok (.aload_n 0, 1) := by decide +kernel
theorem dX12_readNewName_1 : decode cX12_readNewName 1 = .ok (.invokevirtual 218, 3) := by decide +kernel
theorem dX12_readNewName_4 : decode cX12_readNewName 4 = .ok (.istore_n 1, 1) := by decide +kernel
theorem dX12_readNewName_5 : decode cX12_readNewName 5 = .ok (.iload_n 1, 1) := by decide +kernel
theorem dX12_readNewName_6 : decode cX12_readNewName 6 = .ok (.ifCond .eq 21, 3) := by decide +kernel
theorem dX12_readNewName_9 : decode cX12_readNewName 9 = .ok (.aload_n 0, 1) := by decide +kernel
theorem dX12_readNewName_10 : decode cX12_readNewName 10 = .ok (.iload_n 1, 1) := by decide +kernel
theorem dX12_readNewName_11 : decode cX12_readNewName 11 = .ok (.invokevirtual 221, 3) := by decide +kernel
theorem dX12_readNewName_14 : decode cX12_readNewName 14 = .ok (.ifCond .lt 13, 3) := by decide +kernel
theorem dX12_readNewName_17 : decode cX12_readNewName 17 = .ok (.aload_n 0, 1) := by decide +kernel
theorem dX12_readNewName_18 : decode cX12_readNewName 18 = .ok (.aload_n 0, 1) := by decide +kernel
theorem dX12_readNewName_19 : decode cX12_readNewName 19 = .ok (.getfield 211, 3) := by decide +kernel
theorem dX12_readNewName_22 : decode cX12_readNewName 22 = .ok (.putfield 200, 3) := by decide +kernel
theorem dX12_readNewName_25 : decode cX12_readNewName 25 = .ok (.iconst 0, 1) := by decide +kernel
theorem dX12_readNewName_26 : decode cX12_readNewName 26 = .ok (.ireturn, 1) := by decide +kernel
theorem dX12_readNewName_27 : decode cX12_readNewName 27 = .ok (.iload_n 1, 1) := by decide +kernel
theorem dX12_readNewName_28 : decode cX12_readNewName 28 = .ok (.ireturn, 1) := by decide +kernel
theorem dX12_fieldLetter_0 : decode cX12_fieldLetter 0 = .ok (.iload_n 0, 1) := by decide +kernel
theorem dX12_fieldLetter_1 : decode cX12_fieldLetter 1 = .ok (.bipush 100, 2) := by decide +kernel
theorem dX12_fieldLetter_3 : decode cX12_fieldLetter 3 = .ok (.if_icmp .ne 7, 3) := by decide +kernel
theorem dX12_fieldLetter_6 : decode cX12_fieldLetter 6 = .ok (.iconst 0, 1) := by decide +kernel
theorem dX12_fieldLetter_7 : decode cX12_fieldLetter 7 = .ok (.goto 34, 3) := by decide +kernel
theorem dX12_fieldLetter_10 : decode cX12_fieldLetter 10 = .ok (.iload_n 0, 1) := by decide +kernel
theorem dX12_fieldLetter_11 : decode cX12_fieldLetter 11 = .ok (.bipush 115, 2) := by decide +kernel
theorem dX12_fieldLetter_13 : decode cX12_fieldLetter 13 = .ok (.if_icmp .ne 7, 3) := by decide +kernel
theorem dX12_fieldLetter_16 : decode cX12_fieldLetter 16 = .ok (.iconst 1, 1) := by decide +kernel
theorem dX12_fieldLetter_17 : decode cX12_fieldLetter 17 = .ok (.goto 24, 3) := by decide +kernel
theorem dX12_fieldLetter_20 : decode cX12_fieldLetter 20 = .ok (.iload_n 0, 1) := by decide +kernel
theorem dX12_fieldLetter_21 : decode cX12_fieldLetter 21 = .ok (.bipush 116, 2) := by decide +kernel
theorem dX12_fieldLetter_23 : decode cX12_fieldLetter 23 = .ok (.if_icmp .ne 7, 3) := by decide +kernel
theorem dX12_fieldLetter_26 : decode cX12_fieldLetter 26 = .ok (.iconst 2, 1) := by decide +kernel
theorem dX12_fieldLetter_27 : decode cX12_fieldLetter 27 = .ok (.goto 14, 3) := by decide +kernel
theorem dX12_fieldLetter_30 : decode cX12_fieldLetter 30 = .ok (.iload_n 0, 1) := by decide +kernel
theorem dX12_fieldLetter_31 : decode cX12_fieldLetter 31 = .ok (.bipush 105, 2) := by decide +kernel
theorem dX12_fieldLetter_33 : decode cX12_fieldLetter 33 = .ok (.if_icmp .ne 7, 3) := by decide +kernel
theorem dX12_fieldLetter_36 : decode cX12_fieldLetter 36 = .ok (.iconst 3, 1) := by decide +kernel
theorem dX12_fieldLetter_37 : decode cX12_fieldLetter 37 = .ok (.goto 4, 3) := by decide +kernel
theorem dX12_fieldLetter_40 : decode cX12_fieldLetter 40 = .ok (.iconst (-1), 1) := by decide +kernel
theorem dX12_fieldLetter_41 : decode cX12_fieldLetter 41 = .ok (.ireturn, 1) := by decide +kernel
theorem dX12_readLook_0 : decode cX12_readLook 0 = .ok (.iconst 0, 1) := by decide +kernel
theorem dX12_readLook_1 : decode cX12_readLook 1 = .ok (.istore_n 2, 1) := by decide +kernel
theorem dX12_readLook_2 : decode cX12_readLook 2 = .ok (.iload_n 2, 1) := by decide +kernel
theorem dX12_readLook_3 : decode cX12_readLook 3 = .ok (.aload_n 0, 1) := by decide +kernel
theorem dX12_readLook_4 : decode cX12_readLook 4 = .ok (.getfield 16, 3) := by decide +kernel
theorem dX12_readLook_7 : decode cX12_readLook 7 = .ok (.if_icmp .ge 83, 3) := by decide +kernel
theorem dX12_readLook_10 : decode cX12_readLook 10 = .ok (.aload_n 0, 1) := by decide +kernel
theorem dX12_readLook_11 : decode cX12_readLook 11 = .ok (.invokevirtual 203, 3) := by decide +kernel
theorem dX12_readLook_14 : decode cX12_readLook 14 = .ok (.istore_n 3, 1) := by decide +kernel
theorem dX12_readLook_15 : decode cX12_readLook 15 = .ok (.iload_n 3, 1) := by decide +kernel
theorem dX12_readLook_16 : decode cX12_readLook 16 = .ok (.bipush 48, 2) := by decide +kernel
theorem dX12_readLook_18 : decode cX12_readLook 18 = .ok (.if_icmp .ne 7, 3) := by decide +kernel
theorem dX12_readLook_21 : decode cX12_readLook 21 = .ok (.iconst 0, 1) := by decide +kernel
theorem dX12_readLook_22 : decode cX12_readLook 22 = .ok (.goto 30, 3) := by decide +kernel
theorem dX12_readLook_25 : decode cX12_readLook 25 = .ok (.iload_n 3, 1) := by decide +kernel
theorem dX12_readLook_26 : decode cX12_readLook 26 = .ok (.bipush 49, 2) := by decide +kernel
theorem dX12_readLook_28 : decode cX12_readLook 28 = .ok (.if_icmp .ne 7, 3) := by decide +kernel
theorem dX12_readLook_31 : decode cX12_readLook 31 = .ok (.iconst 1, 1) := by decide +kernel
theorem dX12_readLook_32 : decode cX12_readLook 32 = .ok (.goto 20, 3) := by decide +kernel
theorem dX12_readLook_35 : decode cX12_readLook 35 = .ok (.iload_n 3, 1) := by decide +kernel
theorem dX12_readLook_36 : decode cX12_readLook 36 = .ok (.invokestatic 225, 3) := by decide +kernel
theorem dX12_readLook_39 : decode cX12_readLook 39 = .ok (.ifCond .ge 7, 3) := by decide +kernel
theorem dX12_readLook_42 : decode cX12_readLook 42 = .ok (.iconst (-1), 1) := by decide +kernel
theorem dX12_readLook_43 : decode cX12_readLook 43 = .ok (.goto 9, 3) := by decide +kernel
theorem dX12_readLook_46 : decode cX12_readLook 46 = .ok (.iconst 2, 1) := by decide +kernel
theorem dX12_readLook_47 : decode cX12_readLook 47 = .ok (.iload_n 3, 1) := by decide +kernel
theorem dX12_readLook_48 : decode cX12_readLook 48 = .ok (.invokestatic 225, 3) := by decide +kernel
theorem dX12_readLook_51 : decode cX12_readLook 51 = .ok (.iadd, 1) := by decide +kernel
theorem dX12_readLook_52 : decode cX12_readLook 52 = .ok (.istore 4, 2) := by decide +kernel
theorem dX12_readLook_54 : decode cX12_readLook 54 = .ok (.iload 4, 2) := by decide +kernel
theorem dX12_readLook_56 : decode cX12_readLook 56 = .ok (.ifCond .ge 5, 3) := by decide +kernel
theorem dX12_readLook_59 : decode cX12_readLook 59 = .ok (.iconst 0, 1) := by decide +kernel
theorem dX12_readLook_60 : decode cX12_readLook 60 = .ok (.ireturn, 1) := by decide +kernel
theorem dX12_readLook_61 : decode cX12_readLook 61 = .ok (.aload_n 0, 1) := by decide +kernel
theorem dX12_readLook_62 : decode cX12_readLook 62 = .ok (.getfield 23, 3) := by decide +kernel
theorem dX12_readLook_65 : decode cX12_readLook 65 = .ok (.bipush 12, 2) := by decide +kernel
theorem dX12_readLook_67 : decode cX12_readLook 67 = .ok (.iload_n 1, 1) := by decide +kernel
theorem dX12_readLook_68 : decode cX12_readLook 68 = .ok (.imul, 1) := by decide +kernel
theorem dX12_readLook_69 : decode cX12_readLook 69 = .ok (.iload_n 2, 1) := by decide +kernel
theorem dX12_readLook_70 : decode cX12_readLook 70 = .ok (.iadd, 1) := by decide +kernel
theorem dX12_readLook_71 : decode cX12_readLook 71 = .ok (.iload 4, 2) := by decide +kernel
theorem dX12_readLook_73 : decode cX12_readLook 73 = .ok (.iastore, 1) := by decide +kernel
theorem dX12_readLook_74 : decode cX12_readLook 74 = .ok (.aload_n 0, 1) := by decide +kernel
theorem dX12_readLook_75 : decode cX12_readLook 75 = .ok (.dup, 1) := by decide +kernel
theorem dX12_readLook_76 : decode cX12_readLook 76 = .ok (.getfield 200, 3) := by decide +kernel
theorem dX12_readLook_79 : decode cX12_readLook 79 = .ok (.iconst 1, 1) := by decide +kernel
theorem dX12_readLook_80 : decode cX12_readLook 80 = .ok (.iadd, 1) := by decide +kernel
theorem dX12_readLook_81 : decode cX12_readLook 81 = .ok (.putfield 200, 3) := by decide +kernel
theorem dX12_readLook_84 : decode cX12_readLook 84 = .ok (.iinc 2 1, 3) := by decide +kernel
theorem dX12_readLook_87 : decode cX12_readLook 87 = .ok (.goto (-85), 3) := by decide +kernel
theorem dX12_readLook_90 : decode cX12_readLook 90 = .ok (.aload_n 0, 1) := by decide +kernel
theorem dX12_readLook_91 : decode cX12_readLook 91 = .ok (.iload_n 1, 1) := by decide +kernel
theorem dX12_readLook_92 : decode cX12_readLook 92 = .ok (.iconst 3, 1) := by decide +kernel
theorem dX12_readLook_93 : decode cX12_readLook 93 = .ok (.invokevirtual 184, 3) := by decide +kernel
theorem dX12_readLook_96 : decode cX12_readLook 96 = .ok (.aload_n 0, 1) := by decide +kernel
theorem dX12_readLook_97 : decode cX12_readLook 97 = .ok (.getfield 7, 3) := by decide +kernel
theorem dX12_readLook_100 : decode cX12_readLook 100 = .ok (.if_icmp .gt 7, 3) := by decide +kernel
theorem dX12_readLook_103 : decode cX12_readLook 103 = .ok (.iconst 1, 1) := by decide +kernel
theorem dX12_readLook_104 : decode cX12_readLook 104 = .ok (.goto 4, 3) := by decide +kernel
theorem dX12_readLook_107 : decode cX12_readLook 107 = .ok (.iconst 0, 1) := by decide +kernel
theorem dX12_readLook_108 : decode cX12_readLook 108 = .ok (.istore_n 2, 1) := by decide +kernel
theorem dX12_readLook_109 : decode cX12_readLook 109 = .ok (.iconst 0, 1) := by decide +kernel
theorem dX12_readLook_110 : decode cX12_readLook 110 = .ok (.istore_n 3, 1) := by decide +kernel
theorem dX12_readLook_111 : decode cX12_readLook 111 = .ok (.iload_n 3, 1) := by decide +kernel
theorem dX12_readLook_112 : decode cX12_readLook 112 = .ok (.iconst 3, 1) := by decide +kernel
theorem dX12_readLook_113 : decode cX12_readLook 113 = .ok (.if_icmp .ge 41, 3) := by decide +kernel
theorem dX12_readLook_116 : decode cX12_readLook 116 = .ok (.aload_n 0, 1) := by decide +kernel
theorem dX12_readLook_117 : decode cX12_readLook 117 = .ok (.iload_n 1, 1) := by decide +kernel
theorem dX12_readLook_118 : decode cX12_readLook 118 = .ok (.iload_n 3, 1) := by decide +kernel
theorem dX12_readLook_119 : decode cX12_readLook 119 = .ok (.invokevirtual 184, 3) := by decide +kernel
theorem dX12_readLook_122 : decode cX12_readLook 122 = .ok (.istore 4, 2) := by decide +kernel
theorem dX12_readLook_124 : decode cX12_readLook 124 = .ok (.iload_n 2, 1) := by decide +kernel
theorem dX12_readLook_125 : decode cX12_readLook 125 = .ok (.ifCond .eq 21, 3) := by decide +kernel
theorem dX12_readLook_128 : decode cX12_readLook 128 = .ok (.iload 4, 2) := by decide +kernel
theorem dX12_readLook_130 : decode cX12_readLook 130 = .ok (.ifCond .eq 12, 3) := by decide +kernel
theorem dX12_readLook_133 : decode cX12_readLook 133 = .ok (.iload 4, 2) := by decide +kernel
theorem dX12_readLook_135 : decode cX12_readLook 135 = .ok (.aload_n 0, 1) := by decide +kernel
theorem dX12_readLook_136 : decode cX12_readLook 136 = .ok (.getfield 13, 3) := by decide +kernel
theorem dX12_readLook_139 : decode cX12_readLook 139 = .ok (.if_icmp .ne 7, 3) := by decide +kernel
theorem dX12_readLook_142 : decode cX12_readLook 142 = .ok (.iconst 1, 1) := by decide +kernel
theorem dX12_readLook_143 : decode cX12_readLook 143 = .ok (.goto 4, 3) := by decide +kernel
theorem dX12_readLook_146 : decode cX12_readLook 146 = .ok (.iconst 0, 1) := by decide +kernel
theorem dX12_readLook_147 : decode cX12_readLook 147 = .ok (.istore_n 2, 1) := by decide +kernel
theorem dX12_readLook_148 : decode cX12_readLook 148 = .ok (.iinc 3 1, 3) := by decide +kernel
theorem dX12_readLook_151 : decode cX12_readLook 151 = .ok (.goto (-40), 3) := by decide +kernel
theorem dX12_readLook_154 : decode cX12_readLook 154 = .ok (.aload_n 0, 1) := by decide +kernel
theorem dX12_readLook_155 : decode cX12_readLook 155 = .ok (.invokevirtual 203, 3) := by decide +kernel
theorem dX12_readLook_158 : decode cX12_readLook 158 = .ok (.istore_n 3, 1) := by decide +kernel
theorem dX12_readLook_159 : decode cX12_readLook 159 = .ok (.iload_n 2, 1) := by decide +kernel
theorem dX12_readLook_160 : decode cX12_readLook 160 = .ok (.ifCond .eq 13, 3) := by decide +kernel
theorem dX12_readLook_163 : decode cX12_readLook 163 = .ok (.iload_n 3, 1) := by decide +kernel
theorem dX12_readLook_164 : decode cX12_readLook 164 = .ok (.bipush 58, 2) := by decide +kernel
theorem dX12_readLook_166 : decode cX12_readLook 166 = .ok (.if_icmp .ne 7, 3) := by decide +kernel
theorem dX12_readLook_169 : decode cX12_readLook 169 = .ok (.iconst 1, 1) := by decide +kernel
theorem dX12_readLook_170 : decode cX12_readLook 170 = .ok (.goto 4, 3) := by decide +kernel
theorem dX12_readLook_173 : decode cX12_readLook 173 = .ok (.iconst 0, 1) := by decide +kernel
theorem dX12_readLook_174 : decode cX12_readLook 174 = .ok (.ireturn, 1) := by decide +kernel
theorem dX12_readField_0 : decode cX12_readField 0 = .ok (.aload_n 0, 1) := by decide +kernel
theorem dX12_readField_1 : decode cX12_readField 1 = .ok (.invokevirtual 203, 3) := by decide +kernel
theorem dX12_readField_4 : decode cX12_readField 4 = .ok (.invokestatic 225, 3) := by decide +kernel
theorem dX12_readField_7 : decode cX12_readField 7 = .ok (.istore_n 2, 1) := by decide +kernel
theorem dX12_readField_8 : decode cX12_readField 8 = .ok (.iload_n 2, 1) := by decide +kernel
theorem dX12_readField_9 : decode cX12_readField 9 = .ok (.ifCond .lt 12, 3) := by decide +kernel
theorem dX12_readField_12 : decode cX12_readField 12 = .ok (.aload_n 0, 1) := by decide +kernel
theorem dX12_readField_13 : decode cX12_readField 13 = .ok (.iload_n 1, 1) := by decide +kernel
theorem dX12_readField_14 : decode cX12_readField 14 = .ok (.iload_n 2, 1) := by decide +kernel
theorem dX12_readField_15 : decode cX12_readField 15 = .ok (.invokevirtual 188, 3) := by decide +kernel
theorem dX12_readField_18 : decode cX12_readField 18 = .ok (.ifCond .ne 5, 3) := by decide +kernel
theorem dX12_readField_21 : decode cX12_readField 21 = .ok (.iconst (-1), 1) := by decide +kernel
theorem dX12_readField_22 : decode cX12_readField 22 = .ok (.ireturn, 1) := by decide +kernel
theorem dX12_readField_23 : decode cX12_readField 23 = .ok (.aload_n 0, 1) := by decide +kernel
theorem dX12_readField_24 : decode cX12_readField 24 = .ok (.dup, 1) := by decide +kernel
theorem dX12_readField_25 : decode cX12_readField 25 = .ok (.getfield 200, 3) := by decide +kernel
theorem dX12_readField_28 : decode cX12_readField 28 = .ok (.iconst 1, 1) := by decide +kernel
theorem dX12_readField_29 : decode cX12_readField 29 = .ok (.iadd, 1) := by decide +kernel
theorem dX12_readField_30 : decode cX12_readField 30 = .ok (.putfield 200, 3) := by decide +kernel
theorem dX12_readField_33 : decode cX12_readField 33 = .ok (.iload_n 2, 1) := by decide +kernel
theorem dX12_readField_34 : decode cX12_readField 34 = .ok (.ireturn, 1) := by decide +kernel
theorem dX12_readNamed_0 : decode cX12_readNamed 0 = .ok (.aload_n 0, 1) := by decide +kernel
theorem dX12_readNamed_1 : decode cX12_readNamed 1 = .ok (.invokevirtual 203, 3) := by decide +kernel
theorem dX12_readNamed_4 : decode cX12_readNamed 4 = .ok (.istore_n 3, 1) := by decide +kernel
theorem dX12_readNamed_5 : decode cX12_readNamed 5 = .ok (.aload_n 0, 1) := by decide +kernel
theorem dX12_readNamed_6 : decode cX12_readNamed 6 = .ok (.iconst 0, 1) := by decide +kernel
theorem dX12_readNamed_7 : decode cX12_readNamed 7 = .ok (.putfield 228, 3) := by decide +kernel
theorem dX12_readNamed_10 : decode cX12_readNamed 10 = .ok (.iload_n 3, 1) := by decide +kernel
theorem dX12_readNamed_11 : decode cX12_readNamed 11 = .ok (.bipush 122, 2) := by decide +kernel
theorem dX12_readNamed_13 : decode cX12_readNamed 13 = .ok (.if_icmp .eq 9, 3) := by decide +kernel
theorem dX12_readNamed_16 : decode cX12_readNamed 16 = .ok (.iload_n 3, 1) := by decide +kernel
theorem dX12_readNamed_17 : decode cX12_readNamed 17 = .ok (.bipush 112, 2) := by decide +kernel
theorem dX12_readNamed_19 : decode cX12_readNamed 19 = .ok (.if_icmp .ne 25, 3) := by decide +kernel
theorem dX12_readNamed_22 : decode cX12_readNamed 22 = .ok (.aload_n 0, 1) := by decide +kernel
theorem dX12_readNamed_23 : decode cX12_readNamed 23 = .ok (.dup, 1) := by decide +kernel
theorem dX12_readNamed_24 : decode cX12_readNamed 24 = .ok (.getfield 200, 3) := by decide +kernel
theorem dX12_readNamed_27 : decode cX12_readNamed 27 = .ok (.iconst 1, 1) := by decide +kernel
theorem dX12_readNamed_28 : decode cX12_readNamed 28 = .ok (.iadd, 1) := by decide +kernel
theorem dX12_readNamed_29 : decode cX12_readNamed 29 = .ok (.putfield 200, 3) := by decide +kernel
theorem dX12_readNamed_32 : decode cX12_readNamed 32 = .ok (.iload_n 3, 1) := by decide +kernel
theorem dX12_readNamed_33 : decode cX12_readNamed 33 = .ok (.bipush 122, 2) := by decide +kernel
theorem dX12_readNamed_35 : decode cX12_readNamed 35 = .ok (.if_icmp .ne 7, 3) := by decide +kernel
theorem dX12_readNamed_38 : decode cX12_readNamed 38 = .ok (.iconst 4, 1) := by decide +kernel
theorem dX12_readNamed_39 : decode cX12_readNamed 39 = .ok (.goto 4, 3) := by decide +kernel
theorem dX12_readNamed_42 : decode cX12_readNamed 42 = .ok (.iconst 5, 1) := by decide +kernel
theorem dX12_readNamed_43 : decode cX12_readNamed 43 = .ok (.ireturn, 1) := by decide +kernel
theorem dX12_readNamed_44 : decode cX12_readNamed 44 = .ok (.iload_n 3, 1) := by decide +kernel
theorem dX12_readNamed_45 : decode cX12_readNamed 45 = .ok (.bipush 91, 2) := by decide +kernel
theorem dX12_readNamed_47 : decode cX12_readNamed 47 = .ok (.if_icmp .ne 44, 3) := by decide +kernel
theorem dX12_readNamed_50 : decode cX12_readNamed 50 = .ok (.aload_n 0, 1) := by decide +kernel
theorem dX12_readNamed_51 : decode cX12_readNamed 51 = .ok (.dup, 1) := by decide +kernel
theorem dX12_readNamed_52 : decode cX12_readNamed 52 = .ok (.getfield 200, 3) := by decide +kernel
theorem dX12_readNamed_55 : decode cX12_readNamed 55 = .ok (.iconst 1, 1) := by decide +kernel
theorem dX12_readNamed_56 : decode cX12_readNamed 56 = .ok (.iadd, 1) := by decide +kernel
theorem dX12_readNamed_57 : decode cX12_readNamed 57 = .ok (.putfield 200, 3) := by decide +kernel
theorem dX12_readNamed_60 : decode cX12_readNamed 60 = .ok (.aload_n 0, 1) := by decide +kernel
theorem dX12_readNamed_61 : decode cX12_readNamed 61 = .ok (.iload_n 1, 1) := by decide +kernel
theorem dX12_readNamed_62 : decode cX12_readNamed 62 = .ok (.invokevirtual 231, 3) := by decide +kernel
theorem dX12_readNamed_65 : decode cX12_readNamed 65 = .ok (.istore 4, 2) := by decide +kernel
theorem dX12_readNamed_67 : decode cX12_readNamed 67 = .ok (.iload 4, 2) := by decide +kernel
theorem dX12_readNamed_69 : decode cX12_readNamed 69 = .ok (.ifCond .lt 12, 3) := by decide +kernel
theorem dX12_readNamed_72 : decode cX12_readNamed 72 = .ok (.aload_n 0, 1) := by decide +kernel
theorem dX12_readNamed_73 : decode cX12_readNamed 73 = .ok (.bipush 93, 2) := by decide +kernel
theorem dX12_readNamed_75 : decode cX12_readNamed 75 = .ok (.invokevirtual 234, 3) := by decide +kernel
theorem dX12_readNamed_78 : decode cX12_readNamed 78 = .ok (.ifCond .ne 7, 3) := by decide +kernel
theorem dX12_readNamed_81 : decode cX12_readNamed 81 = .ok (.iconst (-1), 1) := by decide +kernel
theorem dX12_readNamed_82 : decode cX12_readNamed 82 = .ok (.goto 8, 3) := by decide +kernel
theorem dX12_readNamed_85 : decode cX12_readNamed 85 = .ok (.bipush 6, 2) := by decide +kernel
theorem dX12_readNamed_87 : decode cX12_readNamed 87 = .ok (.iload 4, 2) := by decide +kernel
theorem dX12_readNamed_89 : decode cX12_readNamed 89 = .ok (.iadd, 1) := by decide +kernel
theorem dX12_readNamed_90 : decode cX12_readNamed 90 = .ok (.ireturn, 1) := by decide +kernel
theorem dX12_readNamed_91 : decode cX12_readNamed 91 = .ok (.iload_n 3, 1) := by decide +kernel
theorem dX12_readNamed_92 : decode cX12_readNamed 92 = .ok (.invokestatic 225, 3) := by decide +kernel
theorem dX12_readNamed_95 : decode cX12_readNamed 95 = .ok (.ifCond .lt 23, 3) := by decide +kernel
theorem dX12_readNamed_98 : decode cX12_readNamed 98 = .ok (.iload_n 2, 1) := by decide +kernel
theorem dX12_readNamed_99 : decode cX12_readNamed 99 = .ok (.ifCond .eq 13, 3) := by decide +kernel
theorem dX12_readNamed_102 : decode cX12_readNamed 102 = .ok (.iload_n 3, 1) := by decide +kernel
theorem dX12_readNamed_103 : decode cX12_readNamed 103 = .ok (.bipush 105, 2) := by decide +kernel
theorem dX12_readNamed_105 : decode cX12_readNamed 105 = .ok (.if_icmp .ne 7, 3) := by decide +kernel
theorem dX12_readNamed_108 : decode cX12_readNamed 108 = .ok (.iconst (-1), 1) := by decide +kernel
theorem dX12_readNamed_109 : decode cX12_readNamed 109 = .ok (.goto 8, 3) := by decide +kernel
theorem dX12_readNamed_112 : decode cX12_readNamed 112 = .ok (.aload_n 0, 1) := by decide +kernel
theorem dX12_readNamed_113 : decode cX12_readNamed 113 = .ok (.iload_n 1, 1) := by decide +kernel
theorem dX12_readNamed_114 : decode cX12_readNamed 114 = .ok (.invokevirtual 231, 3) := by decide +kernel
theorem dX12_readNamed_117 : decode cX12_readNamed 117 = .ok (.ireturn, 1) := by decide +kernel
theorem dX12_readNamed_118 : decode cX12_readNamed 118 = .ok (.iload_n 2, 1) := by decide +kernel
theorem dX12_readNamed_119 : decode cX12_readNamed 119 = .ok (.ifCond .ne 17, 3) := by decide +kernel
theorem dX12_readNamed_122 : decode cX12_readNamed 122 = .ok (.iload_n 3, 1) := by decide +kernel
theorem dX12_readNamed_123 : decode cX12_readNamed 123 = .ok (.i2l, 1) := by decide +kernel
theorem dX12_readNamed_124 : decode cX12_readNamed 124 = .ok (.ldc2_w 207, 3) := by decide +kernel
theorem dX12_readNamed_127 : decode cX12_readNamed 127 = .ok (.ldc2_w 209, 3) := by decide +kernel
theorem dX12_readNamed_130 : decode cX12_readNamed 130 = .ok (.invokestatic 170, 3) := by decide +kernel
theorem dX12_readNamed_133 : decode cX12_readNamed 133 = .ok (.ifCond .ne 5, 3) := by decide +kernel
theorem dX12_readNamed_136 : decode cX12_readNamed 136 = .ok (.iconst (-1), 1) := by decide +kernel
theorem dX12_readNamed_137 : decode cX12_readNamed 137 = .ok (.ireturn, 1) := by decide +kernel
theorem dX12_readNamed_138 : decode cX12_readNamed 138 = .ok (.aload_n 0, 1) := by decide +kernel
theorem dX12_readNamed_139 : decode cX12_readNamed 139 = .ok (.aload_n 0, 1) := by decide +kernel
theorem dX12_readNamed_140 : decode cX12_readNamed 140 = .ok (.sipush 255, 3) := by decide +kernel
theorem dX12_readNamed_143 : decode cX12_readNamed 143 = .ok (.invokevirtual 238, 3) := by decide +kernel
theorem dX12_readNamed_146 : decode cX12_readNamed 146 = .ok (.putfield 228, 3) := by decide +kernel
theorem dX12_readNamed_149 : decode cX12_readNamed 149 = .ok (.aload_n 0, 1) := by decide +kernel
theorem dX12_readNamed_150 : decode cX12_readNamed 150 = .ok (.getfield 228, 3) := by decide +kernel
theorem dX12_readNamed_153 : decode cX12_readNamed 153 = .ok (.ifCond .ge 7, 3) := by decide +kernel
theorem dX12_readNamed_156 : decode cX12_readNamed 156 = .ok (.iconst (-1), 1) := by decide +kernel
theorem dX12_readNamed_157 : decode cX12_readNamed 157 = .ok (.goto 5, 3) := by decide +kernel
theorem dX12_readNamed_160 : decode cX12_readNamed 160 = .ok (.bipush 10, 2) := by decide +kernel
theorem dX12_readNamed_162 : decode cX12_readNamed 162 = .ok (.ireturn, 1) := by decide +kernel
theorem dX12_signOf_0 : decode cX12_signOf 0 = .ok (.iload_n 0, 1) := by decide +kernel
theorem dX12_signOf_1 : decode cX12_signOf 1 = .ok (.bipush 43, 2) := by decide +kernel
theorem dX12_signOf_3 : decode cX12_signOf 3 = .ok (.if_icmp .ne 7, 3) := by decide +kernel
theorem dX12_signOf_6 : decode cX12_signOf 6 = .ok (.iconst 1, 1) := by decide +kernel
theorem dX12_signOf_7 : decode cX12_signOf 7 = .ok (.goto 55, 3) := by decide +kernel
theorem dX12_signOf_10 : decode cX12_signOf 10 = .ok (.iload_n 0, 1) := by decide +kernel
theorem dX12_signOf_11 : decode cX12_signOf 11 = .ok (.bipush 45, 2) := by decide +kernel
theorem dX12_signOf_13 : decode cX12_signOf 13 = .ok (.if_icmp .ne 7, 3) := by decide +kernel
theorem dX12_signOf_16 : decode cX12_signOf 16 = .ok (.iconst 2, 1) := by decide +kernel
theorem dX12_signOf_17 : decode cX12_signOf 17 = .ok (.goto 45, 3) := by decide +kernel
theorem dX12_signOf_20 : decode cX12_signOf 20 = .ok (.iload_n 0, 1) := by decide +kernel
theorem dX12_signOf_21 : decode cX12_signOf 21 = .ok (.bipush 38, 2) := by decide +kernel
theorem dX12_signOf_23 : decode cX12_signOf 23 = .ok (.if_icmp .ne 7, 3) := by decide +kernel
theorem dX12_signOf_26 : decode cX12_signOf 26 = .ok (.iconst 3, 1) := by decide +kernel
theorem dX12_signOf_27 : decode cX12_signOf 27 = .ok (.goto 35, 3) := by decide +kernel
theorem dX12_signOf_30 : decode cX12_signOf 30 = .ok (.iload_n 0, 1) := by decide +kernel
theorem dX12_signOf_31 : decode cX12_signOf 31 = .ok (.bipush 124, 2) := by decide +kernel
theorem dX12_signOf_33 : decode cX12_signOf 33 = .ok (.if_icmp .ne 7, 3) := by decide +kernel
theorem dX12_signOf_36 : decode cX12_signOf 36 = .ok (.iconst 4, 1) := by decide +kernel
theorem dX12_signOf_37 : decode cX12_signOf 37 = .ok (.goto 25, 3) := by decide +kernel
theorem dX12_signOf_40 : decode cX12_signOf 40 = .ok (.iload_n 0, 1) := by decide +kernel
theorem dX12_signOf_41 : decode cX12_signOf 41 = .ok (.bipush 94, 2) := by decide +kernel
theorem dX12_signOf_43 : decode cX12_signOf 43 = .ok (.if_icmp .ne 7, 3) := by decide +kernel
theorem dX12_signOf_46 : decode cX12_signOf 46 = .ok (.iconst 5, 1) := by decide +kernel
theorem dX12_signOf_47 : decode cX12_signOf 47 = .ok (.goto 15, 3) := by decide +kernel
theorem dX12_signOf_50 : decode cX12_signOf 50 = .ok (.iload_n 0, 1) := by decide +kernel
theorem dX12_signOf_51 : decode cX12_signOf 51 = .ok (.bipush 60, 2) := by decide +kernel
theorem dX12_signOf_53 : decode cX12_signOf 53 = .ok (.if_icmp .ne 8, 3) := by decide +kernel
theorem dX12_signOf_56 : decode cX12_signOf 56 = .ok (.bipush 6, 2) := by decide +kernel
theorem dX12_signOf_58 : decode cX12_signOf 58 = .ok (.goto 4, 3) := by decide +kernel
theorem dX12_signOf_61 : decode cX12_signOf 61 = .ok (.iconst 0, 1) := by decide +kernel
theorem dX12_signOf_62 : decode cX12_signOf 62 = .ok (.ireturn, 1) := by decide +kernel
theorem dX12_readAct_0 : decode cX12_readAct 0 = .ok (.bipush 18, 2) := by decide +kernel
theorem dX12_readAct_2 : decode cX12_readAct 2 = .ok (.iload_n 1, 1) := by decide +kernel
theorem dX12_readAct_3 : decode cX12_readAct 3 = .ok (.imul, 1) := by decide +kernel
theorem dX12_readAct_4 : decode cX12_readAct 4 = .ok (.bipush 6, 2) := by decide +kernel
theorem dX12_readAct_6 : decode cX12_readAct 6 = .ok (.iload_n 2, 1) := by decide +kernel
theorem dX12_readAct_7 : decode cX12_readAct 7 = .ok (.imul, 1) := by decide +kernel
theorem dX12_readAct_8 : decode cX12_readAct 8 = .ok (.iadd, 1) := by decide +kernel
theorem dX12_readAct_9 : decode cX12_readAct 9 = .ok (.istore_n 3, 1) := by decide +kernel
theorem dX12_readAct_10 : decode cX12_readAct 10 = .ok (.aload_n 0, 1) := by decide +kernel
theorem dX12_readAct_11 : decode cX12_readAct 11 = .ok (.iload_n 1, 1) := by decide +kernel
theorem dX12_readAct_12 : decode cX12_readAct 12 = .ok (.iconst 1, 1) := by decide +kernel
theorem dX12_readAct_13 : decode cX12_readAct 13 = .ok (.invokevirtual 241, 3) := by decide +kernel
theorem dX12_readAct_16 : decode cX12_readAct 16 = .ok (.istore 4, 2) := by decide +kernel
theorem dX12_readAct_18 : decode cX12_readAct 18 = .ok (.iload 4, 2) := by decide +kernel
theorem dX12_readAct_20 : decode cX12_readAct 20 = .ok (.ifCond .lt 12, 3) := by decide +kernel
theorem dX12_readAct_23 : decode cX12_readAct 23 = .ok (.aload_n 0, 1) := by decide +kernel
theorem dX12_readAct_24 : decode cX12_readAct 24 = .ok (.bipush 61, 2) := by decide +kernel
theorem dX12_readAct_26 : decode cX12_readAct 26 = .ok (.invokevirtual 234, 3) := by decide +kernel
theorem dX12_readAct_29 : decode cX12_readAct 29 = .ok (.ifCond .ne 5, 3) := by decide +kernel
theorem dX12_readAct_32 : decode cX12_readAct 32 = .ok (.iconst 0, 1) := by decide +kernel
theorem dX12_readAct_33 : decode cX12_readAct 33 = .ok (.ireturn, 1) := by decide +kernel
theorem dX12_readAct_34 : decode cX12_readAct 34 = .ok (.aload_n 0, 1) := by decide +kernel
theorem dX12_readAct_35 : decode cX12_readAct 35 = .ok (.iload_n 1, 1) := by decide +kernel
theorem dX12_readAct_36 : decode cX12_readAct 36 = .ok (.iconst 0, 1) := by decide +kernel
theorem dX12_readAct_37 : decode cX12_readAct 37 = .ok (.invokevirtual 241, 3) := by decide +kernel
theorem dX12_readAct_40 : decode cX12_readAct 40 = .ok (.istore 5, 2) := by decide +kernel
theorem dX12_readAct_42 : decode cX12_readAct 42 = .ok (.aload_n 0, 1) := by decide +kernel
theorem dX12_readAct_43 : decode cX12_readAct 43 = .ok (.getfield 228, 3) := by decide +kernel
theorem dX12_readAct_46 : decode cX12_readAct 46 = .ok (.istore 6, 2) := by decide +kernel
theorem dX12_readAct_48 : decode cX12_readAct 48 = .ok (.iload 5, 2) := by decide +kernel
theorem dX12_readAct_50 : decode cX12_readAct 50 = .ok (.ifCond .ge 5, 3) := by decide +kernel
theorem dX12_readAct_53 : decode cX12_readAct 53 = .ok (.iconst 0, 1) := by decide +kernel
theorem dX12_readAct_54 : decode cX12_readAct 54 = .ok (.ireturn, 1) := by decide +kernel
theorem dX12_readAct_55 : decode cX12_readAct 55 = .ok (.aload_n 0, 1) := by decide +kernel
theorem dX12_readAct_56 : decode cX12_readAct 56 = .ok (.invokevirtual 203, 3) := by decide +kernel
theorem dX12_readAct_59 : decode cX12_readAct 59 = .ok (.invokestatic 245, 3) := by decide +kernel
theorem dX12_readAct_62 : decode cX12_readAct 62 = .ok (.istore 7, 2) := by decide +kernel
theorem dX12_readAct_64 : decode cX12_readAct 64 = .ok (.aload_n 0, 1) := by decide +kernel
theorem dX12_readAct_65 : decode cX12_readAct 65 = .ok (.dup, 1) := by decide +kernel
theorem dX12_readAct_66 : decode cX12_readAct 66 = .ok (.getfield 200, 3) := by decide +kernel
theorem dX12_readAct_69 : decode cX12_readAct 69 = .ok (.iload 7, 2) := by decide +kernel
theorem dX12_readAct_71 : decode cX12_readAct 71 = .ok (.ifCond .le 7, 3) := by decide +kernel
theorem dX12_readAct_74 : decode cX12_readAct 74 = .ok (.iconst 1, 1) := by decide +kernel
theorem dX12_readAct_75 : decode cX12_readAct 75 = .ok (.goto 4, 3) := by decide +kernel
theorem dX12_readAct_78 : decode cX12_readAct 78 = .ok (.iconst 0, 1) := by decide +kernel
theorem dX12_readAct_79 : decode cX12_readAct 79 = .ok (.iadd, 1) := by decide +kernel
theorem dX12_readAct_80 : decode cX12_readAct 80 = .ok (.putfield 200, 3) := by decide +kernel
theorem dX12_readAct_83 : decode cX12_readAct 83 = .ok (.iload 7, 2) := by decide +kernel
theorem dX12_readAct_85 : decode cX12_readAct 85 = .ok (.ifCond .le 12, 3) := by decide +kernel
theorem dX12_readAct_88 : decode cX12_readAct 88 = .ok (.aload_n 0, 1) := by decide +kernel
theorem dX12_readAct_89 : decode cX12_readAct 89 = .ok (.iload_n 1, 1) := by decide +kernel
theorem dX12_readAct_90 : decode cX12_readAct 90 = .ok (.iconst 0, 1) := by decide +kernel
theorem dX12_readAct_91 : decode cX12_readAct 91 = .ok (.invokevirtual 241, 3) := by decide +kernel
theorem dX12_readAct_94 : decode cX12_readAct 94 = .ok (.goto 4, 3) := by decide +kernel
theorem dX12_readAct_97 : decode cX12_readAct 97 = .ok (.iconst 0, 1) := by decide +kernel
theorem dX12_readAct_98 : decode cX12_readAct 98 = .ok (.istore 8, 2) := by decide +kernel
theorem dX12_readAct_100 : decode cX12_readAct 100 = .ok (.aload_n 0, 1) := by decide +kernel
theorem dX12_readAct_101 : decode cX12_readAct 101 = .ok (.getfield 35, 3) := by decide +kernel
theorem dX12_readAct_104 : decode cX12_readAct 104 = .ok (.iload_n 3, 1) := by decide +kernel
theorem dX12_readAct_105 : decode cX12_readAct 105 = .ok (.iload 4, 2) := by decide +kernel
theorem dX12_readAct_107 : decode cX12_readAct 107 = .ok (.iastore, 1) := by decide +kernel
theorem dX12_readAct_108 : decode cX12_readAct 108 = .ok (.aload_n 0, 1) := by decide +kernel
theorem dX12_readAct_109 : decode cX12_readAct 109 = .ok (.getfield 35, 3) := by decide +kernel
theorem dX12_readAct_112 : decode cX12_readAct 112 = .ok (.iload_n 3, 1) := by decide +kernel
theorem dX12_readAct_113 : decode cX12_readAct 113 = .ok (.iconst 1, 1) := by decide +kernel
theorem dX12_readAct_114 : decode cX12_readAct 114 = .ok (.iadd, 1) := by decide +kernel
theorem dX12_readAct_115 : decode cX12_readAct 115 = .ok (.iload 5, 2) := by decide +kernel
theorem dX12_readAct_117 : decode cX12_readAct 117 = .ok (.iastore, 1) := by decide +kernel
theorem dX12_readAct_118 : decode cX12_readAct 118 = .ok (.aload_n 0, 1) := by decide +kernel
theorem dX12_readAct_119 : decode cX12_readAct 119 = .ok (.getfield 35, 3) := by decide +kernel
theorem dX12_readAct_122 : decode cX12_readAct 122 = .ok (.iload_n 3, 1) := by decide +kernel
theorem dX12_readAct_123 : decode cX12_readAct 123 = .ok (.iconst 2, 1) := by decide +kernel
theorem dX12_readAct_124 : decode cX12_readAct 124 = .ok (.iadd, 1) := by decide +kernel
theorem dX12_readAct_125 : decode cX12_readAct 125 = .ok (.iload 6, 2) := by decide +kernel
theorem dX12_readAct_127 : decode cX12_readAct 127 = .ok (.iastore, 1) := by decide +kernel
theorem dX12_readAct_128 : decode cX12_readAct 128 = .ok (.aload_n 0, 1) := by decide +kernel
theorem dX12_readAct_129 : decode cX12_readAct 129 = .ok (.getfield 35, 3) := by decide +kernel
theorem dX12_readAct_132 : decode cX12_readAct 132 = .ok (.iload_n 3, 1) := by decide +kernel
theorem dX12_readAct_133 : decode cX12_readAct 133 = .ok (.iconst 3, 1) := by decide +kernel
theorem dX12_readAct_134 : decode cX12_readAct 134 = .ok (.iadd, 1) := by decide +kernel
theorem dX12_readAct_135 : decode cX12_readAct 135 = .ok (.iload 7, 2) := by decide +kernel
theorem dX12_readAct_137 : decode cX12_readAct 137 = .ok (.iastore, 1) := by decide +kernel
theorem dX12_readAct_138 : decode cX12_readAct 138 = .ok (.aload_n 0, 1) := by decide +kernel
theorem dX12_readAct_139 : decode cX12_readAct 139 = .ok (.getfield 35, 3) := by decide +kernel
theorem dX12_readAct_142 : decode cX12_readAct 142 = .ok (.iload_n 3, 1) := by decide +kernel
theorem dX12_readAct_143 : decode cX12_readAct 143 = .ok (.iconst 4, 1) := by decide +kernel
theorem dX12_readAct_144 : decode cX12_readAct 144 = .ok (.iadd, 1) := by decide +kernel
theorem dX12_readAct_145 : decode cX12_readAct 145 = .ok (.iload 8, 2) := by decide +kernel
theorem dX12_readAct_147 : decode cX12_readAct 147 = .ok (.iastore, 1) := by decide +kernel
theorem dX12_readAct_148 : decode cX12_readAct 148 = .ok (.aload_n 0, 1) := by decide +kernel
theorem dX12_readAct_149 : decode cX12_readAct 149 = .ok (.getfield 35, 3) := by decide +kernel
theorem dX12_readAct_152 : decode cX12_readAct 152 = .ok (.iload_n 3, 1) := by decide +kernel
theorem dX12_readAct_153 : decode cX12_readAct 153 = .ok (.iconst 5, 1) := by decide +kernel
theorem dX12_readAct_154 : decode cX12_readAct 154 = .ok (.iadd, 1) := by decide +kernel
theorem dX12_readAct_155 : decode cX12_readAct 155 = .ok (.iload 7, 2) := by decide +kernel
theorem dX12_readAct_157 : decode cX12_readAct 157 = .ok (.ifCond .le 10, 3) := by decide +kernel
theorem dX12_readAct_160 : decode cX12_readAct 160 = .ok (.aload_n 0, 1) := by decide +kernel
theorem dX12_readAct_161 : decode cX12_readAct 161 = .ok (.getfield 228, 3) := by decide +kernel
theorem dX12_readAct_164 : decode cX12_readAct 164 = .ok (.goto 4, 3) := by decide +kernel
theorem dX12_readAct_167 : decode cX12_readAct 167 = .ok (.iconst 0, 1) := by decide +kernel
theorem dX12_readAct_168 : decode cX12_readAct 168 = .ok (.iastore, 1) := by decide +kernel
theorem dX12_readAct_169 : decode cX12_readAct 169 = .ok (.iload 8, 2) := by decide +kernel
theorem dX12_readAct_171 : decode cX12_readAct 171 = .ok (.ifCond .lt 7, 3) := by decide +kernel
theorem dX12_readAct_174 : decode cX12_readAct 174 = .ok (.iconst 1, 1) := by decide +kernel
theorem dX12_readAct_175 : decode cX12_readAct 175 = .ok (.goto 4, 3) := by decide +kernel
theorem dX12_readAct_178 : decode cX12_readAct 178 = .ok (.iconst 0, 1) := by decide +kernel
theorem dX12_readAct_179 : decode cX12_readAct 179 = .ok (.ireturn, 1) := by decide +kernel
theorem dX12_readGuard_0 : decode cX12_readGuard 0 = .ok (.aload_n 0, 1) := by decide +kernel
theorem dX12_readGuard_1 : decode cX12_readGuard 1 = .ok (.getfield 26, 3) := by decide +kernel
theorem dX12_readGuard_4 : decode cX12_readGuard 4 = .ok (.iload_n 1, 1) := by decide +kernel
theorem dX12_readGuard_5 : decode cX12_readGuard 5 = .ok (.iconst 0, 1) := by decide +kernel
theorem dX12_readGuard_6 : decode cX12_readGuard 6 = .ok (.iastore, 1) := by decide +kernel
theorem dX12_readGuard_7 : decode cX12_readGuard 7 = .ok (.aload_n 0, 1) := by decide +kernel
theorem dX12_readGuard_8 : decode cX12_readGuard 8 = .ok (.getfield 29, 3) := by decide +kernel
theorem dX12_readGuard_11 : decode cX12_readGuard 11 = .ok (.iload_n 1, 1) := by decide +kernel
theorem dX12_readGuard_12 : decode cX12_readGuard 12 = .ok (.iconst 0, 1) := by decide +kernel
theorem dX12_readGuard_13 : decode cX12_readGuard 13 = .ok (.iastore, 1) := by decide +kernel
theorem dX12_readGuard_14 : decode cX12_readGuard 14 = .ok (.aload_n 0, 1) := by decide +kernel
theorem dX12_readGuard_15 : decode cX12_readGuard 15 = .ok (.bipush 63, 2) := by decide +kernel
theorem dX12_readGuard_17 : decode cX12_readGuard 17 = .ok (.invokevirtual 234, 3) := by decide +kernel
theorem dX12_readGuard_20 : decode cX12_readGuard 20 = .ok (.ifCond .ne 5, 3) := by decide +kernel
theorem dX12_readGuard_23 : decode cX12_readGuard 23 = .ok (.iconst 1, 1) := by decide +kernel
theorem dX12_readGuard_24 : decode cX12_readGuard 24 = .ok (.ireturn, 1) := by decide +kernel
theorem dX12_readGuard_25 : decode cX12_readGuard 25 = .ok (.aload_n 0, 1) := by decide +kernel
theorem dX12_readGuard_26 : decode cX12_readGuard 26 = .ok (.getfield 26, 3) := by decide +kernel
theorem dX12_readGuard_29 : decode cX12_readGuard 29 = .ok (.iload_n 1, 1) := by decide +kernel
theorem dX12_readGuard_30 : decode cX12_readGuard 30 = .ok (.aload_n 0, 1) := by decide +kernel
theorem dX12_readGuard_31 : decode cX12_readGuard 31 = .ok (.bipush 33, 2) := by decide +kernel
theorem dX12_readGuard_33 : decode cX12_readGuard 33 = .ok (.invokevirtual 234, 3) := by decide +kernel
theorem dX12_readGuard_36 : decode cX12_readGuard 36 = .ok (.ifCond .eq 7, 3) := by decide +kernel
theorem dX12_readGuard_39 : decode cX12_readGuard 39 = .ok (.iconst 2, 1) := by decide +kernel
theorem dX12_readGuard_40 : decode cX12_readGuard 40 = .ok (.goto 4, 3) := by decide +kernel
theorem dX12_readGuard_43 : decode cX12_readGuard 43 = .ok (.iconst 1, 1) := by decide +kernel
theorem dX12_readGuard_44 : decode cX12_readGuard 44 = .ok (.iastore, 1) := by decide +kernel
theorem dX12_readGuard_45 : decode cX12_readGuard 45 = .ok (.aload_n 0, 1) := by decide +kernel
theorem dX12_readGuard_46 : decode cX12_readGuard 46 = .ok (.bipush 122, 2) := by decide +kernel
theorem dX12_readGuard_48 : decode cX12_readGuard 48 = .ok (.invokevirtual 234, 3) := by decide +kernel
theorem dX12_readGuard_51 : decode cX12_readGuard 51 = .ok (.ifCond .eq 13, 3) := by decide +kernel
theorem dX12_readGuard_54 : decode cX12_readGuard 54 = .ok (.aload_n 0, 1) := by decide +kernel
theorem dX12_readGuard_55 : decode cX12_readGuard 55 = .ok (.getfield 29, 3) := by decide +kernel
theorem dX12_readGuard_58 : decode cX12_readGuard 58 = .ok (.iload_n 1, 1) := by decide +kernel
theorem dX12_readGuard_59 : decode cX12_readGuard 59 = .ok (.iconst 4, 1) := by decide +kernel
theorem dX12_readGuard_60 : decode cX12_readGuard 60 = .ok (.iastore, 1) := by decide +kernel
theorem dX12_readGuard_61 : decode cX12_readGuard 61 = .ok (.goto 37, 3) := by decide +kernel
theorem dX12_readGuard_64 : decode cX12_readGuard 64 = .ok (.aload_n 0, 1) := by decide +kernel
theorem dX12_readGuard_65 : decode cX12_readGuard 65 = .ok (.invokevirtual 203, 3) := by decide +kernel
theorem dX12_readGuard_68 : decode cX12_readGuard 68 = .ok (.istore_n 2, 1) := by decide +kernel
theorem dX12_readGuard_69 : decode cX12_readGuard 69 = .ok (.iload_n 2, 1) := by decide +kernel
theorem dX12_readGuard_70 : decode cX12_readGuard 70 = .ok (.bipush 105, 2) := by decide +kernel
theorem dX12_readGuard_72 : decode cX12_readGuard 72 = .ok (.if_icmp .ne 7, 3) := by decide +kernel
theorem dX12_readGuard_75 : decode cX12_readGuard 75 = .ok (.iconst (-1), 1) := by decide +kernel
theorem dX12_readGuard_76 : decode cX12_readGuard 76 = .ok (.goto 8, 3) := by decide +kernel
theorem dX12_readGuard_79 : decode cX12_readGuard 79 = .ok (.aload_n 0, 1) := by decide +kernel
theorem dX12_readGuard_80 : decode cX12_readGuard 80 = .ok (.iload_n 1, 1) := by decide +kernel
theorem dX12_readGuard_81 : decode cX12_readGuard 81 = .ok (.invokevirtual 231, 3) := by decide +kernel
theorem dX12_readGuard_84 : decode cX12_readGuard 84 = .ok (.istore_n 3, 1) := by decide +kernel
theorem dX12_readGuard_85 : decode cX12_readGuard 85 = .ok (.iload_n 3, 1) := by decide +kernel
theorem dX12_readGuard_86 : decode cX12_readGuard 86 = .ok (.ifCond .ge 5, 3) := by decide +kernel
theorem dX12_readGuard_89 : decode cX12_readGuard 89 = .ok (.iconst 0, 1) := by decide +kernel
theorem dX12_readGuard_90 : decode cX12_readGuard 90 = .ok (.ireturn, 1) := by decide +kernel
theorem dX12_readGuard_91 : decode cX12_readGuard 91 = .ok (.aload_n 0, 1) := by decide +kernel
theorem dX12_readGuard_92 : decode cX12_readGuard 92 = .ok (.getfield 29, 3) := by decide +kernel
theorem dX12_readGuard_95 : decode cX12_readGuard 95 = .ok (.iload_n 1, 1) := by decide +kernel
theorem dX12_readGuard_96 : decode cX12_readGuard 96 = .ok (.iload_n 3, 1) := by decide +kernel
theorem dX12_readGuard_97 : decode cX12_readGuard 97 = .ok (.iastore, 1) := by decide +kernel
theorem dX12_readGuard_98 : decode cX12_readGuard 98 = .ok (.aload_n 0, 1) := by decide +kernel
theorem dX12_readGuard_99 : decode cX12_readGuard 99 = .ok (.bipush 44, 2) := by decide +kernel
theorem dX12_readGuard_101 : decode cX12_readGuard 101 = .ok (.invokevirtual 234, 3) := by decide +kernel
theorem dX12_readGuard_104 : decode cX12_readGuard 104 = .ok (.ireturn, 1) := by decide +kernel
theorem dX12_readOrder_0 : decode cX12_readOrder 0 = .ok (.aload_n 0, 1) := by decide +kernel
theorem dX12_readOrder_1 : decode cX12_readOrder 1 = .ok (.iconst 0, 1) := by decide +kernel
theorem dX12_readOrder_2 : decode cX12_readOrder 2 = .ok (.putfield 200, 3) := by decide +kernel
theorem dX12_readOrder_5 : decode cX12_readOrder 5 = .ok (.aload_n 0, 1) := by decide +kernel
theorem dX12_readOrder_6 : decode cX12_readOrder 6 = .ok (.getfield 19, 3) := by decide +kernel
theorem dX12_readOrder_9 : decode cX12_readOrder 9 = .ok (.iload_n 1, 1) := by decide +kernel
theorem dX12_readOrder_10 : decode cX12_readOrder 10 = .ok (.aload_n 0, 1) := by decide +kernel
theorem dX12_readOrder_11 : decode cX12_readOrder 11 = .ok (.invokevirtual 248, 3) := by decide +kernel
theorem dX12_readOrder_14 : decode cX12_readOrder 14 = .ok (.iastore, 1) := by decide +kernel
theorem dX12_readOrder_15 : decode cX12_readOrder 15 = .ok (.aload_n 0, 1) := by decide +kernel
theorem dX12_readOrder_16 : decode cX12_readOrder 16 = .ok (.getfield 19, 3) := by decide +kernel
theorem dX12_readOrder_19 : decode cX12_readOrder 19 = .ok (.iload_n 1, 1) := by decide +kernel
theorem dX12_readOrder_20 : decode cX12_readOrder 20 = .ok (.iaload, 1) := by decide +kernel
theorem dX12_readOrder_21 : decode cX12_readOrder 21 = .ok (.ifCond .eq 37, 3) := by decide +kernel
theorem dX12_readOrder_24 : decode cX12_readOrder 24 = .ok (.aload_n 0, 1) := by decide +kernel
theorem dX12_readOrder_25 : decode cX12_readOrder 25 = .ok (.bipush 58, 2) := by decide +kernel
theorem dX12_readOrder_27 : decode cX12_readOrder 27 = .ok (.invokevirtual 234, 3) := by decide +kernel
theorem dX12_readOrder_30 : decode cX12_readOrder 30 = .ok (.ifCond .eq 28, 3) := by decide +kernel
theorem dX12_readOrder_33 : decode cX12_readOrder 33 = .ok (.aload_n 0, 1) := by decide +kernel
theorem dX12_readOrder_34 : decode cX12_readOrder 34 = .ok (.iload_n 1, 1) := by decide +kernel
theorem dX12_readOrder_35 : decode cX12_readOrder 35 = .ok (.invokevirtual 251, 3) := by decide +kernel
theorem dX12_readOrder_38 : decode cX12_readOrder 38 = .ok (.ifCond .eq 20, 3) := by decide +kernel
theorem dX12_readOrder_41 : decode cX12_readOrder 41 = .ok (.aload_n 0, 1) := by decide +kernel
theorem dX12_readOrder_42 : decode cX12_readOrder 42 = .ok (.bipush 58, 2) := by decide +kernel
theorem dX12_readOrder_44 : decode cX12_readOrder 44 = .ok (.invokevirtual 234, 3) := by decide +kernel
theorem dX12_readOrder_47 : decode cX12_readOrder 47 = .ok (.ifCond .eq 11, 3) := by decide +kernel
theorem dX12_readOrder_50 : decode cX12_readOrder 50 = .ok (.aload_n 0, 1) := by decide +kernel
theorem dX12_readOrder_51 : decode cX12_readOrder 51 = .ok (.iload_n 1, 1) := by decide +kernel
theorem dX12_readOrder_52 : decode cX12_readOrder 52 = .ok (.invokevirtual 254, 3) := by decide +kernel
theorem dX12_readOrder_55 : decode cX12_readOrder 55 = .ok (.ifCond .ne 5, 3) := by decide +kernel
theorem dX12_readOrder_58 : decode cX12_readOrder 58 = .ok (.iconst 0, 1) := by decide +kernel
theorem dX12_readOrder_59 : decode cX12_readOrder 59 = .ok (.ireturn, 1) := by decide +kernel
theorem dX12_readOrder_60 : decode cX12_readOrder 60 = .ok (.aload_n 0, 1) := by decide +kernel
theorem dX12_readOrder_61 : decode cX12_readOrder 61 = .ok (.getfield 32, 3) := by decide +kernel
theorem dX12_readOrder_64 : decode cX12_readOrder 64 = .ok (.iload_n 1, 1) := by decide +kernel
theorem dX12_readOrder_65 : decode cX12_readOrder 65 = .ok (.iconst 0, 1) := by decide +kernel
theorem dX12_readOrder_66 : decode cX12_readOrder 66 = .ok (.iastore, 1) := by decide +kernel
theorem dX12_readOrder_67 : decode cX12_readOrder 67 = .ok (.iconst 1, 1) := by decide +kernel
theorem dX12_readOrder_68 : decode cX12_readOrder 68 = .ok (.istore_n 2, 1) := by decide +kernel
theorem dX12_readOrder_69 : decode cX12_readOrder 69 = .ok (.iload_n 2, 1) := by decide +kernel
theorem dX12_readOrder_70 : decode cX12_readOrder 70 = .ok (.ifCond .eq 57, 3) := by decide +kernel
theorem dX12_readOrder_73 : decode cX12_readOrder 73 = .ok (.aload_n 0, 1) := by decide +kernel
theorem dX12_readOrder_74 : decode cX12_readOrder 74 = .ok (.iload_n 1, 1) := by decide +kernel
theorem dX12_readOrder_75 : decode cX12_readOrder 75 = .ok (.aload_n 0, 1) := by decide +kernel
theorem dX12_readOrder_76 : decode cX12_readOrder 76 = .ok (.getfield 32, 3) := by decide +kernel
theorem dX12_readOrder_79 : decode cX12_readOrder 79 = .ok (.iload_n 1, 1) := by decide +kernel
theorem dX12_readOrder_80 : decode cX12_readOrder 80 = .ok (.iaload, 1) := by decide +kernel
theorem dX12_readOrder_81 : decode cX12_readOrder 81 = .ok (.invokevirtual 257, 3) := by decide +kernel
theorem dX12_readOrder_84 : decode cX12_readOrder 84 = .ok (.ifCond .ne 5, 3) := by decide +kernel
theorem dX12_readOrder_87 : decode cX12_readOrder 87 = .ok (.iconst 0, 1) := by decide +kernel
theorem dX12_readOrder_88 : decode cX12_readOrder 88 = .ok (.ireturn, 1) := by decide +kernel
theorem dX12_readOrder_89 : decode cX12_readOrder 89 = .ok (.aload_n 0, 1) := by decide +kernel
theorem dX12_readOrder_90 : decode cX12_readOrder 90 = .ok (.getfield 32, 3) := by decide +kernel
theorem dX12_readOrder_93 : decode cX12_readOrder 93 = .ok (.iload_n 1, 1) := by decide +kernel
theorem dX12_readOrder_94 : decode cX12_readOrder 94 = .ok (.dup2, 1) := by decide +kernel
theorem dX12_readOrder_95 : decode cX12_readOrder 95 = .ok (.iaload, 1) := by decide +kernel
theorem dX12_readOrder_96 : decode cX12_readOrder 96 = .ok (.iconst 1, 1) := by decide +kernel
theorem dX12_readOrder_97 : decode cX12_readOrder 97 = .ok (.iadd, 1) := by decide +kernel
theorem dX12_readOrder_98 : decode cX12_readOrder 98 = .ok (.iastore, 1) := by decide +kernel
theorem dX12_readOrder_99 : decode cX12_readOrder 99 = .ok (.aload_n 0, 1) := by decide +kernel
theorem dX12_readOrder_100 : decode cX12_readOrder 100 = .ok (.getfield 32, 3) := by decide +kernel
theorem dX12_readOrder_103 : decode cX12_readOrder 103 = .ok (.iload_n 1, 1) := by decide +kernel
theorem dX12_readOrder_104 : decode cX12_readOrder 104 = .ok (.iaload, 1) := by decide +kernel
theorem dX12_readOrder_105 : decode cX12_readOrder 105 = .ok (.iconst 3, 1) := by decide +kernel
theorem dX12_readOrder_106 : decode cX12_readOrder 106 = .ok (.if_icmp .ge 16, 3) := by decide +kernel
theorem dX12_readOrder_109 : decode cX12_readOrder 109 = .ok (.aload_n 0, 1) := by decide +kernel
theorem dX12_readOrder_110 : decode cX12_readOrder 110 = .ok (.bipush 44, 2) := by decide +kernel
theorem dX12_readOrder_112 : decode cX12_readOrder 112 = .ok (.invokevirtual 234, 3) := by decide +kernel
theorem dX12_readOrder_115 : decode cX12_readOrder 115 = .ok (.ifCond .eq 7, 3) := by decide +kernel
theorem dX12_readOrder_118 : decode cX12_readOrder 118 = .ok (.iconst 1, 1) := by decide +kernel
theorem dX12_readOrder_119 : decode cX12_readOrder 119 = .ok (.goto 4, 3) := by decide +kernel
theorem dX12_readOrder_122 : decode cX12_readOrder 122 = .ok (.iconst 0, 1) := by decide +kernel
theorem dX12_readOrder_123 : decode cX12_readOrder 123 = .ok (.istore_n 2, 1) := by decide +kernel
theorem dX12_readOrder_124 : decode cX12_readOrder 124 = .ok (.goto (-55), 3) := by decide +kernel
theorem dX12_readOrder_127 : decode cX12_readOrder 127 = .ok (.aload_n 0, 1) := by decide +kernel
theorem dX12_readOrder_128 : decode cX12_readOrder 128 = .ok (.bipush 58, 2) := by decide +kernel
theorem dX12_readOrder_130 : decode cX12_readOrder 130 = .ok (.invokevirtual 234, 3) := by decide +kernel
theorem dX12_readOrder_133 : decode cX12_readOrder 133 = .ok (.ifCond .ne 5, 3) := by decide +kernel
theorem dX12_readOrder_136 : decode cX12_readOrder 136 = .ok (.iconst 0, 1) := by decide +kernel
theorem dX12_readOrder_137 : decode cX12_readOrder 137 = .ok (.ireturn, 1) := by decide +kernel
theorem dX12_readOrder_138 : decode cX12_readOrder 138 = .ok (.aload_n 0, 1) := by decide +kernel
theorem dX12_readOrder_139 : decode cX12_readOrder 139 = .ok (.invokevirtual 203, 3) := by decide +kernel
theorem dX12_readOrder_142 : decode cX12_readOrder 142 = .ok (.istore_n 3, 1) := by decide +kernel
theorem dX12_readOrder_143 : decode cX12_readOrder 143 = .ok (.iload_n 3, 1) := by decide +kernel
theorem dX12_readOrder_144 : decode cX12_readOrder 144 = .ok (.i2l, 1) := by decide +kernel
theorem dX12_readOrder_145 : decode cX12_readOrder 145 = .ok (.ldc2_w 260, 3) := by decide +kernel
theorem dX12_readOrder_148 : decode cX12_readOrder 148 = .ok (.ldc2_w 209, 3) := by decide +kernel
theorem dX12_readOrder_151 : decode cX12_readOrder 151 = .ok (.invokestatic 170, 3) := by decide +kernel
theorem dX12_readOrder_154 : decode cX12_readOrder 154 = .ok (.ifCond .ne 5, 3) := by decide +kernel
theorem dX12_readOrder_157 : decode cX12_readOrder 157 = .ok (.iconst 0, 1) := by decide +kernel
theorem dX12_readOrder_158 : decode cX12_readOrder 158 = .ok (.ireturn, 1) := by decide +kernel
theorem dX12_readOrder_159 : decode cX12_readOrder 159 = .ok (.aload_n 0, 1) := by decide +kernel
theorem dX12_readOrder_160 : decode cX12_readOrder 160 = .ok (.getfield 38, 3) := by decide +kernel
theorem dX12_readOrder_163 : decode cX12_readOrder 163 = .ok (.iload_n 1, 1) := by decide +kernel
theorem dX12_readOrder_164 : decode cX12_readOrder 164 = .ok (.iload_n 3, 1) := by decide +kernel
theorem dX12_readOrder_165 : decode cX12_readOrder 165 = .ok (.bipush 48, 2) := by decide +kernel
theorem dX12_readOrder_167 : decode cX12_readOrder 167 = .ok (.isub, 1) := by decide +kernel
theorem dX12_readOrder_168 : decode cX12_readOrder 168 = .ok (.iastore, 1) := by decide +kernel
theorem dX12_readOrder_169 : decode cX12_readOrder 169 = .ok (.aload_n 0, 1) := by decide +kernel
theorem dX12_readOrder_170 : decode cX12_readOrder 170 = .ok (.dup, 1) := by decide +kernel
theorem dX12_readOrder_171 : decode cX12_readOrder 171 = .ok (.getfield 200, 3) := by decide +kernel
theorem dX12_readOrder_174 : decode cX12_readOrder 174 = .ok (.iconst 1, 1) := by decide +kernel
theorem dX12_readOrder_175 : decode cX12_readOrder 175 = .ok (.iadd, 1) := by decide +kernel
theorem dX12_readOrder_176 : decode cX12_readOrder 176 = .ok (.putfield 200, 3) := by decide +kernel
theorem dX12_readOrder_179 : decode cX12_readOrder 179 = .ok (.aload_n 0, 1) := by decide +kernel
theorem dX12_readOrder_180 : decode cX12_readOrder 180 = .ok (.invokevirtual 203, 3) := by decide +kernel
theorem dX12_readOrder_183 : decode cX12_readOrder 183 = .ok (.ifCond .ge 7, 3) := by decide +kernel
theorem dX12_readOrder_186 : decode cX12_readOrder 186 = .ok (.iconst 1, 1) := by decide +kernel
theorem dX12_readOrder_187 : decode cX12_readOrder 187 = .ok (.goto 4, 3) := by decide +kernel
theorem dX12_readOrder_190 : decode cX12_readOrder 190 = .ok (.iconst 0, 1) := by decide +kernel
theorem dX12_readOrder_191 : decode cX12_readOrder 191 = .ok (.ireturn, 1) := by decide +kernel
theorem dX12_sharedWith_0 : decode cX12_sharedWith 0 = .ok (.bipush (-4), 2) := by decide +kernel
theorem dX12_sharedWith_2 : decode cX12_sharedWith 2 = .ok (.istore_n 2, 1) := by decide +kernel
theorem dX12_sharedWith_3 : decode cX12_sharedWith 3 = .ok (.iconst 0, 1) := by decide +kernel
theorem dX12_sharedWith_4 : decode cX12_sharedWith 4 = .ok (.istore_n 3, 1) := by decide +kernel
theorem dX12_sharedWith_5 : decode cX12_sharedWith 5 = .ok (.iload_n 3, 1) := by decide +kernel
theorem dX12_sharedWith_6 : decode cX12_sharedWith 6 = .ok (.aload_n 0, 1) := by decide +kernel
theorem dX12_sharedWith_7 : decode cX12_sharedWith 7 = .ok (.getfield 150, 3) := by decide +kernel
theorem dX12_sharedWith_10 : decode cX12_sharedWith 10 = .ok (.if_icmp .ge 148, 3) := by decide +kernel
theorem dX12_sharedWith_13 : decode cX12_sharedWith 13 = .ok (.iconst 0, 1) := by decide +kernel
theorem dX12_sharedWith_14 : decode cX12_sharedWith 14 = .ok (.istore 4, 2) := by decide +kernel
theorem dX12_sharedWith_16 : decode cX12_sharedWith 16 = .ok (.iconst 1, 1) := by decide +kernel
theorem dX12_sharedWith_17 : decode cX12_sharedWith 17 = .ok (.istore 5, 2) := by decide +kernel
theorem dX12_sharedWith_19 : decode cX12_sharedWith 19 = .ok (.iconst 0, 1) := by decide +kernel
theorem dX12_sharedWith_20 : decode cX12_sharedWith 20 = .ok (.istore 6, 2) := by decide +kernel
theorem dX12_sharedWith_22 : decode cX12_sharedWith 22 = .ok (.iload 6, 2) := by decide +kernel
theorem dX12_sharedWith_24 : decode cX12_sharedWith 24 = .ok (.aload_n 0, 1) := by decide +kernel
theorem dX12_sharedWith_25 : decode cX12_sharedWith 25 = .ok (.getfield 16, 3) := by decide +kernel
theorem dX12_sharedWith_28 : decode cX12_sharedWith 28 = .ok (.if_icmp .ge 92, 3) := by decide +kernel
theorem dX12_sharedWith_31 : decode cX12_sharedWith 31 = .ok (.aload_n 0, 1) := by decide +kernel
theorem dX12_sharedWith_32 : decode cX12_sharedWith 32 = .ok (.getfield 23, 3) := by decide +kernel
theorem dX12_sharedWith_35 : decode cX12_sharedWith 35 = .ok (.bipush 12, 2) := by decide +kernel
theorem dX12_sharedWith_37 : decode cX12_sharedWith 37 = .ok (.iload_n 1, 1) := by decide +kernel
theorem dX12_sharedWith_38 : decode cX12_sharedWith 38 = .ok (.imul, 1) := by decide +kernel
theorem dX12_sharedWith_39 : decode cX12_sharedWith 39 = .ok (.iload 6, 2) := by decide +kernel
theorem dX12_sharedWith_41 : decode cX12_sharedWith 41 = .ok (.iadd, 1) := by decide +kernel
theorem dX12_sharedWith_42 : decode cX12_sharedWith 42 = .ok (.iaload, 1) := by decide +kernel
theorem dX12_sharedWith_43 : decode cX12_sharedWith 43 = .ok (.istore 7, 2) := by decide +kernel
theorem dX12_sharedWith_45 : decode cX12_sharedWith 45 = .ok (.aload_n 0, 1) := by decide +kernel
theorem dX12_sharedWith_46 : decode cX12_sharedWith 46 = .ok (.getfield 23, 3) := by decide +kernel
theorem dX12_sharedWith_49 : decode cX12_sharedWith 49 = .ok (.bipush 12, 2) := by decide +kernel
theorem dX12_sharedWith_51 : decode cX12_sharedWith 51 = .ok (.iload_n 3, 1) := by decide +kernel
theorem dX12_sharedWith_52 : decode cX12_sharedWith 52 = .ok (.imul, 1) := by decide +kernel
theorem dX12_sharedWith_53 : decode cX12_sharedWith 53 = .ok (.iload 6, 2) := by decide +kernel
theorem dX12_sharedWith_55 : decode cX12_sharedWith 55 = .ok (.iadd, 1) := by decide +kernel
theorem dX12_sharedWith_56 : decode cX12_sharedWith 56 = .ok (.iaload, 1) := by decide +kernel
theorem dX12_sharedWith_57 : decode cX12_sharedWith 57 = .ok (.istore 8, 2) := by decide +kernel
theorem dX12_sharedWith_59 : decode cX12_sharedWith 59 = .ok (.iload 5, 2) := by decide +kernel
theorem dX12_sharedWith_61 : decode cX12_sharedWith 61 = .ok (.ifCond .eq 26, 3) := by decide +kernel
theorem dX12_sharedWith_64 : decode cX12_sharedWith 64 = .ok (.iload 7, 2) := by decide +kernel
theorem dX12_sharedWith_66 : decode cX12_sharedWith 66 = .ok (.iconst 1, 1) := by decide +kernel
theorem dX12_sharedWith_67 : decode cX12_sharedWith 67 = .ok (.if_icmp .gt 16, 3) := by decide +kernel
theorem dX12_sharedWith_70 : decode cX12_sharedWith 70 = .ok (.iload 8, 2) := by decide +kernel
theorem dX12_sharedWith_72 : decode cX12_sharedWith 72 = .ok (.iconst 1, 1) := by decide +kernel
theorem dX12_sharedWith_73 : decode cX12_sharedWith 73 = .ok (.if_icmp .gt 10, 3) := by decide +kernel
theorem dX12_sharedWith_76 : decode cX12_sharedWith 76 = .ok (.iload 7, 2) := by decide +kernel
theorem dX12_sharedWith_78 : decode cX12_sharedWith 78 = .ok (.iload 8, 2) := by decide +kernel
theorem dX12_sharedWith_80 : decode cX12_sharedWith 80 = .ok (.if_icmp .ne 7, 3) := by decide +kernel
theorem dX12_sharedWith_83 : decode cX12_sharedWith 83 = .ok (.iconst 1, 1) := by decide +kernel
theorem dX12_sharedWith_84 : decode cX12_sharedWith 84 = .ok (.goto 4, 3) := by decide +kernel
theorem dX12_sharedWith_87 : decode cX12_sharedWith 87 = .ok (.iconst 0, 1) := by decide +kernel
theorem dX12_sharedWith_88 : decode cX12_sharedWith 88 = .ok (.istore 5, 2) := by decide +kernel
theorem dX12_sharedWith_90 : decode cX12_sharedWith 90 = .ok (.iconst 2, 1) := by decide +kernel
theorem dX12_sharedWith_91 : decode cX12_sharedWith 91 = .ok (.iload 4, 2) := by decide +kernel
theorem dX12_sharedWith_93 : decode cX12_sharedWith 93 = .ok (.imul, 1) := by decide +kernel
theorem dX12_sharedWith_94 : decode cX12_sharedWith 94 = .ok (.iload 7, 2) := by decide +kernel
theorem dX12_sharedWith_96 : decode cX12_sharedWith 96 = .ok (.iconst 1, 1) := by decide +kernel
theorem dX12_sharedWith_97 : decode cX12_sharedWith 97 = .ok (.if_icmp .eq 9, 3) := by decide +kernel
theorem dX12_sharedWith_100 : decode cX12_sharedWith 100 = .ok (.iload 8, 2) := by decide +kernel
theorem dX12_sharedWith_102 : decode cX12_sharedWith 102 = .ok (.iconst 1, 1) := by decide +kernel
theorem dX12_sharedWith_103 : decode cX12_sharedWith 103 = .ok (.if_icmp .ne 7, 3) := by decide +kernel
theorem dX12_sharedWith_106 : decode cX12_sharedWith 106 = .ok (.iconst 1, 1) := by decide +kernel
theorem dX12_sharedWith_107 : decode cX12_sharedWith 107 = .ok (.goto 4, 3) := by decide +kernel
theorem dX12_sharedWith_110 : decode cX12_sharedWith 110 = .ok (.iconst 0, 1) := by decide +kernel
theorem dX12_sharedWith_111 : decode cX12_sharedWith 111 = .ok (.iadd, 1) := by decide +kernel
theorem dX12_sharedWith_112 : decode cX12_sharedWith 112 = .ok (.istore 4, 2) := by decide +kernel
theorem dX12_sharedWith_114 : decode cX12_sharedWith 114 = .ok (.iinc 6 1, 3) := by decide +kernel
theorem dX12_sharedWith_117 : decode cX12_sharedWith 117 = .ok (.goto (-95), 3) := by decide +kernel
theorem dX12_sharedWith_120 : decode cX12_sharedWith 120 = .ok (.iload 5, 2) := by decide +kernel
theorem dX12_sharedWith_122 : decode cX12_sharedWith 122 = .ok (.ifCond .eq 28, 3) := by decide +kernel
theorem dX12_sharedWith_125 : decode cX12_sharedWith 125 = .ok (.iload_n 2, 1) := by decide +kernel
theorem dX12_sharedWith_126 : decode cX12_sharedWith 126 = .ok (.ifCond .lt 14, 3) := by decide +kernel
theorem dX12_sharedWith_129 : decode cX12_sharedWith 129 = .ok (.bipush 32, 2) := by decide +kernel
theorem dX12_sharedWith_131 : decode cX12_sharedWith 131 = .ok (.iload 4, 2) := by decide +kernel
theorem dX12_sharedWith_133 : decode cX12_sharedWith 133 = .ok (.imul, 1) := by decide +kernel
theorem dX12_sharedWith_134 : decode cX12_sharedWith 134 = .ok (.iload_n 3, 1) := by decide +kernel
theorem dX12_sharedWith_135 : decode cX12_sharedWith 135 = .ok (.iadd, 1) := by decide +kernel
theorem dX12_sharedWith_136 : decode cX12_sharedWith 136 = .ok (.iload_n 2, 1) := by decide +kernel
theorem dX12_sharedWith_137 : decode cX12_sharedWith 137 = .ok (.if_icmp .ge 13, 3) := by decide +kernel
theorem dX12_sharedWith_140 : decode cX12_sharedWith 140 = .ok (.bipush 32, 2) := by decide +kernel
theorem dX12_sharedWith_142 : decode cX12_sharedWith 142 = .ok (.iload 4, 2) := by decide +kernel
theorem dX12_sharedWith_144 : decode cX12_sharedWith 144 = .ok (.imul, 1) := by decide +kernel
theorem dX12_sharedWith_145 : decode cX12_sharedWith 145 = .ok (.iload_n 3, 1) := by decide +kernel
theorem dX12_sharedWith_146 : decode cX12_sharedWith 146 = .ok (.iadd, 1) := by decide +kernel
theorem dX12_sharedWith_147 : decode cX12_sharedWith 147 = .ok (.goto 4, 3) := by decide +kernel
theorem dX12_sharedWith_150 : decode cX12_sharedWith 150 = .ok (.iload_n 2, 1) := by decide +kernel
theorem dX12_sharedWith_151 : decode cX12_sharedWith 151 = .ok (.istore_n 2, 1) := by decide +kernel
theorem dX12_sharedWith_152 : decode cX12_sharedWith 152 = .ok (.iinc 3 1, 3) := by decide +kernel
theorem dX12_sharedWith_155 : decode cX12_sharedWith 155 = .ok (.goto (-150), 3) := by decide +kernel
theorem dX12_sharedWith_158 : decode cX12_sharedWith 158 = .ok (.iload_n 2, 1) := by decide +kernel
theorem dX12_sharedWith_159 : decode cX12_sharedWith 159 = .ok (.ireturn, 1) := by decide +kernel
theorem dX12_order_0 : decode cX12_order 0 = .ok (.aload_n 0, 1) := by decide +kernel
theorem dX12_order_1 : decode cX12_order 1 = .ok (.aload_n 0, 1) := by decide +kernel
theorem dX12_order_2 : decode cX12_order 2 = .ok (.getfield 150, 3) := by decide +kernel
theorem dX12_order_5 : decode cX12_order 5 = .ok (.invokevirtual 262, 3) := by decide +kernel
theorem dX12_order_8 : decode cX12_order 8 = .ok (.istore_n 1, 1) := by decide +kernel
theorem dX12_order_9 : decode cX12_order 9 = .ok (.aload_n 0, 1) := by decide +kernel
theorem dX12_order_10 : decode cX12_order 10 = .ok (.iconst 0, 1) := by decide +kernel
theorem dX12_order_11 : decode cX12_order 11 = .ok (.putfield 197, 3) := by decide +kernel
theorem dX12_order_14 : decode cX12_order 14 = .ok (.iload_n 1, 1) := by decide +kernel
theorem dX12_order_15 : decode cX12_order 15 = .ok (.ifCond .ne 11, 3) := by decide +kernel
theorem dX12_order_18 : decode cX12_order 18 = .ok (.bipush (-20), 2) := by decide +kernel
theorem dX12_order_20 : decode cX12_order 20 = .ok (.aload_n 0, 1) := by decide +kernel
theorem dX12_order_21 : decode cX12_order 21 = .ok (.getfield 200, 3) := by decide +kernel
theorem dX12_order_24 : decode cX12_order 24 = .ok (.isub, 1) := by decide +kernel
theorem dX12_order_25 : decode cX12_order 25 = .ok (.ireturn, 1) := by decide +kernel
theorem dX12_order_26 : decode cX12_order 26 = .ok (.aload_n 0, 1) := by decide +kernel
theorem dX12_order_27 : decode cX12_order 27 = .ok (.aload_n 0, 1) := by decide +kernel
theorem dX12_order_28 : decode cX12_order 28 = .ok (.getfield 150, 3) := by decide +kernel
theorem dX12_order_31 : decode cX12_order 31 = .ok (.invokevirtual 265, 3) := by decide +kernel
theorem dX12_order_34 : decode cX12_order 34 = .ok (.istore_n 2, 1) := by decide +kernel
theorem dX12_order_35 : decode cX12_order 35 = .ok (.iload_n 2, 1) := by decide +kernel
theorem dX12_order_36 : decode cX12_order 36 = .ok (.ifCond .lt 11, 3) := by decide +kernel
theorem dX12_order_39 : decode cX12_order 39 = .ok (.aload_n 0, 1) := by decide +kernel
theorem dX12_order_40 : decode cX12_order 40 = .ok (.iload_n 2, 1) := by decide +kernel
theorem dX12_order_41 : decode cX12_order 41 = .ok (.putfield 157, 3) := by decide +kernel
theorem dX12_order_44 : decode cX12_order 44 = .ok (.bipush (-2), 2) := by decide +kernel
theorem dX12_order_46 : decode cX12_order 46 = .ok (.ireturn, 1) := by decide +kernel
theorem dX12_order_47 : decode cX12_order 47 = .ok (.aload_n 0, 1) := by decide +kernel
theorem dX12_order_48 : decode cX12_order 48 = .ok (.invokevirtual 268, 3) := by decide +kernel
theorem dX12_order_51 : decode cX12_order 51 = .ok (.ireturn, 1) := by decide +kernel
theorem dX12_addOrder_0 : decode cX12_addOrder 0 = .ok (.aload_n 0, 1) := by decide +kernel
theorem dX12_addOrder_1 : decode cX12_addOrder 1 = .ok (.getfield 150, 3) := by decide +kernel
theorem dX12_addOrder_4 : decode cX12_addOrder 4 = .ok (.bipush 20, 2) := by decide +kernel
theorem dX12_addOrder_6 : decode cX12_addOrder 6 = .ok (.if_icmp .ne 6, 3) := by decide +kernel
theorem dX12_addOrder_9 : decode cX12_addOrder 9 = .ok (.bipush (-3), 2) := by decide +kernel
theorem dX12_addOrder_11 : decode cX12_addOrder 11 = .ok (.ireturn, 1) := by decide +kernel
theorem dX12_addOrder_12 : decode cX12_addOrder 12 = .ok (.aload_n 0, 1) := by decide +kernel
theorem dX12_addOrder_13 : decode cX12_addOrder 13 = .ok (.getfield 41, 3) := by decide +kernel
theorem dX12_addOrder_16 : decode cX12_addOrder 16 = .ok (.aload_n 0, 1) := by decide +kernel
theorem dX12_addOrder_17 : decode cX12_addOrder 17 = .ok (.getfield 150, 3) := by decide +kernel
theorem dX12_addOrder_20 : decode cX12_addOrder 20 = .ok (.iconst (-1), 1) := by decide +kernel
theorem dX12_addOrder_21 : decode cX12_addOrder 21 = .ok (.iastore, 1) := by decide +kernel
theorem dX12_addOrder_22 : decode cX12_addOrder 22 = .ok (.aload_n 0, 1) := by decide +kernel
theorem dX12_addOrder_23 : decode cX12_addOrder 23 = .ok (.getfield 44, 3) := by decide +kernel
theorem dX12_addOrder_26 : decode cX12_addOrder 26 = .ok (.aload_n 0, 1) := by decide +kernel
theorem dX12_addOrder_27 : decode cX12_addOrder 27 = .ok (.getfield 150, 3) := by decide +kernel
theorem dX12_addOrder_30 : decode cX12_addOrder 30 = .ok (.iconst (-1), 1) := by decide +kernel
theorem dX12_addOrder_31 : decode cX12_addOrder 31 = .ok (.iastore, 1) := by decide +kernel
theorem dX12_addOrder_32 : decode cX12_addOrder 32 = .ok (.aload_n 0, 1) := by decide +kernel
theorem dX12_addOrder_33 : decode cX12_addOrder 33 = .ok (.dup, 1) := by decide +kernel
theorem dX12_addOrder_34 : decode cX12_addOrder 34 = .ok (.getfield 150, 3) := by decide +kernel
theorem dX12_addOrder_37 : decode cX12_addOrder 37 = .ok (.iconst 1, 1) := by decide +kernel
theorem dX12_addOrder_38 : decode cX12_addOrder 38 = .ok (.iadd, 1) := by decide +kernel
theorem dX12_addOrder_39 : decode cX12_addOrder 39 = .ok (.putfield 150, 3) := by decide +kernel
theorem dX12_addOrder_42 : decode cX12_addOrder 42 = .ok (.aload_n 0, 1) := by decide +kernel
theorem dX12_addOrder_43 : decode cX12_addOrder 43 = .ok (.iconst 0, 1) := by decide +kernel
theorem dX12_addOrder_44 : decode cX12_addOrder 44 = .ok (.putfield 153, 3) := by decide +kernel
theorem dX12_addOrder_47 : decode cX12_addOrder 47 = .ok (.aload_n 0, 1) := by decide +kernel
theorem dX12_addOrder_48 : decode cX12_addOrder 48 = .ok (.getfield 150, 3) := by decide +kernel
theorem dX12_addOrder_51 : decode cX12_addOrder 51 = .ok (.iconst 1, 1) := by decide +kernel
theorem dX12_addOrder_52 : decode cX12_addOrder 52 = .ok (.isub, 1) := by decide +kernel
theorem dX12_addOrder_53 : decode cX12_addOrder 53 = .ok (.ireturn, 1) := by decide +kernel
theorem dX12_shared_0 : decode cX12_shared 0 = .ok (.aload_n 0, 1) := by decide +kernel
theorem dX12_shared_1 : decode cX12_shared 1 = .ok (.getfield 157, 3) := by decide +kernel
theorem dX12_shared_4 : decode cX12_shared 4 = .ok (.ireturn, 1) := by decide +kernel
theorem dX12_unorder_0 : decode cX12_unorder 0 = .ok (.aload_n 0, 1) := by decide +kernel
theorem dX12_unorder_1 : decode cX12_unorder 1 = .ok (.getfield 150, 3) := by decide +kernel
theorem dX12_unorder_4 : decode cX12_unorder 4 = .ok (.ifCond .ne 6, 3) := by decide +kernel
theorem dX12_unorder_7 : decode cX12_unorder 7 = .ok (.bipush (-2), 2) := by decide +kernel
theorem dX12_unorder_9 : decode cX12_unorder 9 = .ok (.ireturn, 1) := by decide +kernel
theorem dX12_unorder_10 : decode cX12_unorder 10 = .ok (.aload_n 0, 1) := by decide +kernel
theorem dX12_unorder_11 : decode cX12_unorder 11 = .ok (.dup, 1) := by decide +kernel
theorem dX12_unorder_12 : decode cX12_unorder 12 = .ok (.getfield 150, 3) := by decide +kernel
theorem dX12_unorder_15 : decode cX12_unorder 15 = .ok (.iconst 1, 1) := by decide +kernel
theorem dX12_unorder_16 : decode cX12_unorder 16 = .ok (.isub, 1) := by decide +kernel
theorem dX12_unorder_17 : decode cX12_unorder 17 = .ok (.putfield 150, 3) := by decide +kernel
theorem dX12_unorder_20 : decode cX12_unorder 20 = .ok (.aload_n 0, 1) := by decide +kernel
theorem dX12_unorder_21 : decode cX12_unorder 21 = .ok (.iconst 0, 1) := by decide +kernel
theorem dX12_unorder_22 : decode cX12_unorder 22 = .ok (.putfield 153, 3) := by decide +kernel
theorem dX12_unorder_25 : decode cX12_unorder 25 = .ok (.aload_n 0, 1) := by decide +kernel
theorem dX12_unorder_26 : decode cX12_unorder 26 = .ok (.getfield 150, 3) := by decide +kernel
theorem dX12_unorder_29 : decode cX12_unorder 29 = .ok (.ireturn, 1) := by decide +kernel
theorem dX12_about_0 : decode cX12_about 0 = .ok (.aload_n 0, 1) := by decide +kernel
theorem dX12_about_1 : decode cX12_about 1 = .ok (.iload_n 1, 1) := by decide +kernel
theorem dX12_about_2 : decode cX12_about 2 = .ok (.invokevirtual 271, 3) := by decide +kernel
theorem dX12_about_5 : decode cX12_about 5 = .ok (.ifCond .ne 5, 3) := by decide +kernel
theorem dX12_about_8 : decode cX12_about 8 = .ok (.iconst (-1), 1) := by decide +kernel
theorem dX12_about_9 : decode cX12_about 9 = .ok (.ireturn, 1) := by decide +kernel
theorem dX12_about_10 : decode cX12_about 10 = .ok (.iload_n 2, 1) := by decide +kernel
theorem dX12_about_11 : decode cX12_about 11 = .ok (.tableswitch 77 0 5 #[37, 44, 51, 58, 64, 71], 37) := by decide +kernel
theorem dX12_about_48 : decode cX12_about 48 = .ok (.aload_n 0, 1) := by decide +kernel
theorem dX12_about_49 : decode cX12_about 49 = .ok (.getfield 38, 3) := by decide +kernel
theorem dX12_about_52 : decode cX12_about 52 = .ok (.iload_n 1, 1) := by decide +kernel
theorem dX12_about_53 : decode cX12_about 53 = .ok (.iaload, 1) := by decide +kernel
theorem dX12_about_54 : decode cX12_about 54 = .ok (.ireturn, 1) := by decide +kernel
theorem dX12_about_55 : decode cX12_about 55 = .ok (.aload_n 0, 1) := by decide +kernel
theorem dX12_about_56 : decode cX12_about 56 = .ok (.getfield 32, 3) := by decide +kernel
theorem dX12_about_59 : decode cX12_about 59 = .ok (.iload_n 1, 1) := by decide +kernel
theorem dX12_about_60 : decode cX12_about 60 = .ok (.iaload, 1) := by decide +kernel
theorem dX12_about_61 : decode cX12_about 61 = .ok (.ireturn, 1) := by decide +kernel
theorem dX12_about_62 : decode cX12_about 62 = .ok (.aload_n 0, 1) := by decide +kernel
theorem dX12_about_63 : decode cX12_about 63 = .ok (.getfield 26, 3) := by decide +kernel
theorem dX12_about_66 : decode cX12_about 66 = .ok (.iload_n 1, 1) := by decide +kernel
theorem dX12_about_67 : decode cX12_about 67 = .ok (.iaload, 1) := by decide +kernel
theorem dX12_about_68 : decode cX12_about 68 = .ok (.ireturn, 1) := by decide +kernel
theorem dX12_about_69 : decode cX12_about 69 = .ok (.aload_n 0, 1) := by decide +kernel
theorem dX12_about_70 : decode cX12_about 70 = .ok (.iload_n 1, 1) := by decide +kernel
theorem dX12_about_71 : decode cX12_about 71 = .ok (.invokevirtual 274, 3) := by decide +kernel
theorem dX12_about_74 : decode cX12_about 74 = .ok (.ireturn, 1) := by decide +kernel
theorem dX12_about_75 : decode cX12_about 75 = .ok (.aload_n 0, 1) := by decide +kernel
theorem dX12_about_76 : decode cX12_about 76 = .ok (.iload_n 1, 1) := by decide +kernel
theorem dX12_about_77 : decode cX12_about 77 = .ok (.iconst 3, 1) := by decide +kernel
theorem dX12_about_78 : decode cX12_about 78 = .ok (.invokevirtual 184, 3) := by decide +kernel
theorem dX12_about_81 : decode cX12_about 81 = .ok (.ireturn, 1) := by decide +kernel
theorem dX12_about_82 : decode cX12_about 82 = .ok (.aload_n 0, 1) := by decide +kernel
theorem dX12_about_83 : decode cX12_about 83 = .ok (.iload_n 1, 1) := by decide +kernel
theorem dX12_about_84 : decode cX12_about 84 = .ok (.invokevirtual 277, 3) := by decide +kernel
theorem dX12_about_87 : decode cX12_about 87 = .ok (.ireturn, 1) := by decide +kernel
theorem dX12_about_88 : decode cX12_about 88 = .ok (.iconst (-1), 1) := by decide +kernel
theorem dX12_about_89 : decode cX12_about 89 = .ok (.ireturn, 1) := by decide +kernel
theorem dX12_look_0 : decode cX12_look 0 = .ok (.aload_n 0, 1) := by decide +kernel
theorem dX12_look_1 : decode cX12_look 1 = .ok (.iload_n 1, 1) := by decide +kernel
theorem dX12_look_2 : decode cX12_look 2 = .ok (.invokevirtual 280, 3) := by decide +kernel
theorem dX12_look_5 : decode cX12_look 5 = .ok (.ifCond .eq 11, 3) := by decide +kernel
theorem dX12_look_8 : decode cX12_look 8 = .ok (.aload_n 0, 1) := by decide +kernel
theorem dX12_look_9 : decode cX12_look 9 = .ok (.iload_n 1, 1) := by decide +kernel
theorem dX12_look_10 : decode cX12_look 10 = .ok (.invokevirtual 283, 3) := by decide +kernel
theorem dX12_look_13 : decode cX12_look 13 = .ok (.goto 4, 3) := by decide +kernel
theorem dX12_look_16 : decode cX12_look 16 = .ok (.iconst (-1), 1) := by decide +kernel
theorem dX12_look_17 : decode cX12_look 17 = .ok (.ireturn, 1) := by decide +kernel
theorem dX12_field_0 : decode cX12_field 0 = .ok (.aload_n 0, 1) := by decide +kernel
theorem dX12_field_1 : decode cX12_field 1 = .ok (.iload_n 1, 1) := by decide +kernel
theorem dX12_field_2 : decode cX12_field 2 = .ok (.invokevirtual 280, 3) := by decide +kernel
theorem dX12_field_5 : decode cX12_field 5 = .ok (.ifCond .eq 15, 3) := by decide +kernel
theorem dX12_field_8 : decode cX12_field 8 = .ok (.iload_n 2, 1) := by decide +kernel
theorem dX12_field_9 : decode cX12_field 9 = .ok (.i2l, 1) := by decide +kernel
theorem dX12_field_10 : decode cX12_field 10 = .ok (.lconst 0, 1) := by decide +kernel
theorem dX12_field_11 : decode cX12_field 11 = .ok (.ldc2_w 174, 3) := by decide +kernel
theorem dX12_field_14 : decode cX12_field 14 = .ok (.invokestatic 170, 3) := by decide +kernel
theorem dX12_field_17 : decode cX12_field 17 = .ok (.ifCond .ne 5, 3) := by decide +kernel
theorem dX12_field_20 : decode cX12_field 20 = .ok (.iconst (-1), 1) := by decide +kernel
theorem dX12_field_21 : decode cX12_field 21 = .ok (.ireturn, 1) := by decide +kernel
theorem dX12_field_22 : decode cX12_field 22 = .ok (.aload_n 0, 1) := by decide +kernel
theorem dX12_field_23 : decode cX12_field 23 = .ok (.iload_n 1, 1) := by decide +kernel
theorem dX12_field_24 : decode cX12_field 24 = .ok (.invokevirtual 286, 3) := by decide +kernel
theorem dX12_field_27 : decode cX12_field 27 = .ok (.istore_n 3, 1) := by decide +kernel
theorem dX12_field_28 : decode cX12_field 28 = .ok (.iload_n 3, 1) := by decide +kernel
theorem dX12_field_29 : decode cX12_field 29 = .ok (.ifCond .lt 12, 3) := by decide +kernel
theorem dX12_field_32 : decode cX12_field 32 = .ok (.aload_n 0, 1) := by decide +kernel
theorem dX12_field_33 : decode cX12_field 33 = .ok (.iload_n 3, 1) := by decide +kernel
theorem dX12_field_34 : decode cX12_field 34 = .ok (.iload_n 2, 1) := by decide +kernel
theorem dX12_field_35 : decode cX12_field 35 = .ok (.invokevirtual 188, 3) := by decide +kernel
theorem dX12_field_38 : decode cX12_field 38 = .ok (.ifCond .ne 8, 3) := by decide +kernel
theorem dX12_field_41 : decode cX12_field 41 = .ok (.bipush (-4), 2) := by decide +kernel
theorem dX12_field_43 : decode cX12_field 43 = .ok (.goto 10, 3) := by decide +kernel
theorem dX12_field_46 : decode cX12_field 46 = .ok (.aload_n 0, 1) := by decide +kernel
theorem dX12_field_47 : decode cX12_field 47 = .ok (.iload_n 3, 1) := by decide +kernel
theorem dX12_field_48 : decode cX12_field 48 = .ok (.iload_n 1, 1) := by decide +kernel
theorem dX12_field_49 : decode cX12_field 49 = .ok (.iload_n 2, 1) := by decide +kernel
theorem dX12_field_50 : decode cX12_field 50 = .ok (.invokevirtual 289, 3) := by decide +kernel
theorem dX12_field_53 : decode cX12_field 53 = .ok (.ireturn, 1) := by decide +kernel
theorem dX12_holes_0 : decode cX12_holes 0 = .ok (.iconst 0, 1) := by decide +kernel
theorem dX12_holes_1 : decode cX12_holes 1 = .ok (.istore_n 1, 1) := by decide +kernel
theorem dX12_holes_2 : decode cX12_holes 2 = .ok (.iconst 0, 1) := by decide +kernel
theorem dX12_holes_3 : decode cX12_holes 3 = .ok (.istore_n 2, 1) := by decide +kernel
theorem dX12_holes_4 : decode cX12_holes 4 = .ok (.iload_n 2, 1) := by decide +kernel
theorem dX12_holes_5 : decode cX12_holes 5 = .ok (.iconst 1, 1) := by decide +kernel
theorem dX12_holes_6 : decode cX12_holes 6 = .ok (.aload_n 0, 1) := by decide +kernel
theorem dX12_holes_7 : decode cX12_holes 7 = .ok (.getfield 16, 3) := by decide +kernel
theorem dX12_holes_10 : decode cX12_holes 10 = .ok (.ishl, 1) := by decide +kernel
theorem dX12_holes_11 : decode cX12_holes 11 = .ok (.if_icmp .ge 25, 3) := by decide +kernel
theorem dX12_holes_14 : decode cX12_holes 14 = .ok (.iload_n 1, 1) := by decide +kernel
theorem dX12_holes_15 : decode cX12_holes 15 = .ok (.aload_n 0, 1) := by decide +kernel
theorem dX12_holes_16 : decode cX12_holes 16 = .ok (.iload_n 2, 1) := by decide +kernel
theorem dX12_holes_17 : decode cX12_holes 17 = .ok (.invokevirtual 283, 3) := by decide +kernel
theorem dX12_holes_20 : decode cX12_holes 20 = .ok (.ifCond .ge 7, 3) := by decide +kernel
theorem dX12_holes_23 : decode cX12_holes 23 = .ok (.iconst 1, 1) := by decide +kernel
theorem dX12_holes_24 : decode cX12_holes 24 = .ok (.goto 4, 3) := by decide +kernel
theorem dX12_holes_27 : decode cX12_holes 27 = .ok (.iconst 0, 1) := by decide +kernel
theorem dX12_holes_28 : decode cX12_holes 28 = .ok (.iadd, 1) := by decide +kernel
theorem dX12_holes_29 : decode cX12_holes 29 = .ok (.istore_n 1, 1) := by decide +kernel
theorem dX12_holes_30 : decode cX12_holes 30 = .ok (.iinc 2 1, 3) := by decide +kernel
theorem dX12_holes_33 : decode cX12_holes 33 = .ok (.goto (-29), 3) := by decide +kernel
theorem dX12_holes_36 : decode cX12_holes 36 = .ok (.iload_n 1, 1) := by decide +kernel
theorem dX12_holes_37 : decode cX12_holes 37 = .ok (.ireturn, 1) := by decide +kernel
theorem dX12_hole_0 : decode cX12_hole 0 = .ok (.aload_n 0, 1) := by decide +kernel
theorem dX12_hole_1 : decode cX12_hole 1 = .ok (.iload_n 1, 1) := by decide +kernel
theorem dX12_hole_2 : decode cX12_hole 2 = .ok (.invokevirtual 280, 3) := by decide +kernel
theorem dX12_hole_5 : decode cX12_hole 5 = .ok (.ifCond .ne 5, 3) := by decide +kernel
theorem dX12_hole_8 : decode cX12_hole 8 = .ok (.iconst (-1), 1) := by decide +kernel
theorem dX12_hole_9 : decode cX12_hole 9 = .ok (.ireturn, 1) := by decide +kernel
theorem dX12_hole_10 : decode cX12_hole 10 = .ok (.iload_n 1, 1) := by decide +kernel
theorem dX12_hole_11 : decode cX12_hole 11 = .ok (.istore_n 2, 1) := by decide +kernel
theorem dX12_hole_12 : decode cX12_hole 12 = .ok (.iload_n 2, 1) := by decide +kernel
theorem dX12_hole_13 : decode cX12_hole 13 = .ok (.iconst 1, 1) := by decide +kernel
theorem dX12_hole_14 : decode cX12_hole 14 = .ok (.aload_n 0, 1) := by decide +kernel
theorem dX12_hole_15 : decode cX12_hole 15 = .ok (.getfield 16, 3) := by decide +kernel
theorem dX12_hole_18 : decode cX12_hole 18 = .ok (.ishl, 1) := by decide +kernel
theorem dX12_hole_19 : decode cX12_hole 19 = .ok (.if_icmp .ge 19, 3) := by decide +kernel
theorem dX12_hole_22 : decode cX12_hole 22 = .ok (.aload_n 0, 1) := by decide +kernel
theorem dX12_hole_23 : decode cX12_hole 23 = .ok (.iload_n 2, 1) := by decide +kernel
theorem dX12_hole_24 : decode cX12_hole 24 = .ok (.invokevirtual 283, 3) := by decide +kernel
theorem dX12_hole_27 : decode cX12_hole 27 = .ok (.ifCond .ge 5, 3) := by decide +kernel
theorem dX12_hole_30 : decode cX12_hole 30 = .ok (.iload_n 2, 1) := by decide +kernel
theorem dX12_hole_31 : decode cX12_hole 31 = .ok (.ireturn, 1) := by decide +kernel
theorem dX12_hole_32 : decode cX12_hole 32 = .ok (.iinc 2 1, 3) := by decide +kernel
theorem dX12_hole_35 : decode cX12_hole 35 = .ok (.goto (-23), 3) := by decide +kernel
theorem dX12_hole_38 : decode cX12_hole 38 = .ok (.bipush (-4), 2) := by decide +kernel
theorem dX12_hole_40 : decode cX12_hole 40 = .ok (.ireturn, 1) := by decide +kernel
theorem dX12_count_0 : decode cX12_count 0 = .ok (.iload_n 1, 1) := by decide +kernel
theorem dX12_count_1 : decode cX12_count 1 = .ok (.ifCond .ne 10, 3) := by decide +kernel
theorem dX12_count_4 : decode cX12_count 4 = .ok (.aload_n 0, 1) := by decide +kernel
theorem dX12_count_5 : decode cX12_count 5 = .ok (.getfield 150, 3) := by decide +kernel
theorem dX12_count_8 : decode cX12_count 8 = .ok (.goto 56, 3) := by decide +kernel
theorem dX12_count_11 : decode cX12_count 11 = .ok (.iload_n 1, 1) := by decide +kernel
theorem dX12_count_12 : decode cX12_count 12 = .ok (.iconst 1, 1) := by decide +kernel
theorem dX12_count_13 : decode cX12_count 13 = .ok (.if_icmp .ne 12, 3) := by decide +kernel
theorem dX12_count_16 : decode cX12_count 16 = .ok (.iconst 1, 1) := by decide +kernel
theorem dX12_count_17 : decode cX12_count 17 = .ok (.aload_n 0, 1) := by decide +kernel
theorem dX12_count_18 : decode cX12_count 18 = .ok (.getfield 13, 3) := by decide +kernel
theorem dX12_count_21 : decode cX12_count 21 = .ok (.ishl, 1) := by decide +kernel
theorem dX12_count_22 : decode cX12_count 22 = .ok (.goto 42, 3) := by decide +kernel
theorem dX12_count_25 : decode cX12_count 25 = .ok (.iload_n 1, 1) := by decide +kernel
theorem dX12_count_26 : decode cX12_count 26 = .ok (.iconst 2, 1) := by decide +kernel
theorem dX12_count_27 : decode cX12_count 27 = .ok (.if_icmp .ne 12, 3) := by decide +kernel
theorem dX12_count_30 : decode cX12_count 30 = .ok (.iconst 1, 1) := by decide +kernel
theorem dX12_count_31 : decode cX12_count 31 = .ok (.aload_n 0, 1) := by decide +kernel
theorem dX12_count_32 : decode cX12_count 32 = .ok (.getfield 7, 3) := by decide +kernel
theorem dX12_count_35 : decode cX12_count 35 = .ok (.ishl, 1) := by decide +kernel
theorem dX12_count_36 : decode cX12_count 36 = .ok (.goto 28, 3) := by decide +kernel
theorem dX12_count_39 : decode cX12_count 39 = .ok (.iload_n 1, 1) := by decide +kernel
theorem dX12_count_40 : decode cX12_count 40 = .ok (.iconst 3, 1) := by decide +kernel
theorem dX12_count_41 : decode cX12_count 41 = .ok (.if_icmp .ne 10, 3) := by decide +kernel
theorem dX12_count_44 : decode cX12_count 44 = .ok (.aload_n 0, 1) := by decide +kernel
theorem dX12_count_45 : decode cX12_count 45 = .ok (.getfield 84, 3) := by decide +kernel
theorem dX12_count_48 : decode cX12_count 48 = .ok (.goto 16, 3) := by decide +kernel
theorem dX12_count_51 : decode cX12_count 51 = .ok (.iload_n 1, 1) := by decide +kernel
theorem dX12_count_52 : decode cX12_count 52 = .ok (.iconst 4, 1) := by decide +kernel
theorem dX12_count_53 : decode cX12_count 53 = .ok (.if_icmp .ne 10, 3) := by decide +kernel
theorem dX12_count_56 : decode cX12_count 56 = .ok (.aload_n 0, 1) := by decide +kernel
theorem dX12_count_57 : decode cX12_count 57 = .ok (.getfield 72, 3) := by decide +kernel
theorem dX12_count_60 : decode cX12_count 60 = .ok (.goto 4, 3) := by decide +kernel
theorem dX12_count_63 : decode cX12_count 63 = .ok (.iconst (-1), 1) := by decide +kernel
theorem dX12_count_64 : decode cX12_count 64 = .ok (.ireturn, 1) := by decide +kernel
theorem dX12_reckon_0 : decode cX12_reckon 0 = .ok (.iload_n 0, 1) := by decide +kernel
theorem dX12_reckon_1 : decode cX12_reckon 1 = .ok (.tableswitch 70 1 6 #[39, 43, 47, 51, 55, 59], 39) := by decide +kernel
theorem dX12_reckon_40 : decode cX12_reckon 40 = .ok (.iload_n 1, 1) := by decide +kernel
theorem dX12_reckon_41 : decode cX12_reckon 41 = .ok (.iload_n 2, 1) := by decide +kernel
theorem dX12_reckon_42 : decode cX12_reckon 42 = .ok (.iadd, 1) := by decide +kernel
theorem dX12_reckon_43 : decode cX12_reckon 43 = .ok (.ireturn, 1) := by decide +kernel
theorem dX12_reckon_44 : decode cX12_reckon 44 = .ok (.iload_n 1, 1) := by decide +kernel
theorem dX12_reckon_45 : decode cX12_reckon 45 = .ok (.iload_n 2, 1) := by decide +kernel
theorem dX12_reckon_46 : decode cX12_reckon 46 = .ok (.isub, 1) := by decide +kernel
theorem dX12_reckon_47 : decode cX12_reckon 47 = .ok (.ireturn, 1) := by decide +kernel
theorem dX12_reckon_48 : decode cX12_reckon 48 = .ok (.iload_n 1, 1) := by decide +kernel
theorem dX12_reckon_49 : decode cX12_reckon 49 = .ok (.iload_n 2, 1) := by decide +kernel
theorem dX12_reckon_50 : decode cX12_reckon 50 = .ok (.iand, 1) := by decide +kernel
theorem dX12_reckon_51 : decode cX12_reckon 51 = .ok (.ireturn, 1) := by decide +kernel
theorem dX12_reckon_52 : decode cX12_reckon 52 = .ok (.iload_n 1, 1) := by decide +kernel
theorem dX12_reckon_53 : decode cX12_reckon 53 = .ok (.iload_n 2, 1) := by decide +kernel
theorem dX12_reckon_54 : decode cX12_reckon 54 = .ok (.ior, 1) := by decide +kernel
theorem dX12_reckon_55 : decode cX12_reckon 55 = .ok (.ireturn, 1) := by decide +kernel
theorem dX12_reckon_56 : decode cX12_reckon 56 = .ok (.iload_n 1, 1) := by decide +kernel
theorem dX12_reckon_57 : decode cX12_reckon 57 = .ok (.iload_n 2, 1) := by decide +kernel
theorem dX12_reckon_58 : decode cX12_reckon 58 = .ok (.ixor, 1) := by decide +kernel
theorem dX12_reckon_59 : decode cX12_reckon 59 = .ok (.ireturn, 1) := by decide +kernel
theorem dX12_reckon_60 : decode cX12_reckon 60 = .ok (.iload_n 1, 1) := by decide +kernel
theorem dX12_reckon_61 : decode cX12_reckon 61 = .ok (.iload_n 2, 1) := by decide +kernel
theorem dX12_reckon_62 : decode cX12_reckon 62 = .ok (.if_icmp .ge 7, 3) := by decide +kernel
theorem dX12_reckon_65 : decode cX12_reckon 65 = .ok (.iconst 1, 1) := by decide +kernel
theorem dX12_reckon_66 : decode cX12_reckon 66 = .ok (.goto 4, 3) := by decide +kernel
theorem dX12_reckon_69 : decode cX12_reckon 69 = .ok (.iconst 0, 1) := by decide +kernel
theorem dX12_reckon_70 : decode cX12_reckon 70 = .ok (.ireturn, 1) := by decide +kernel
theorem dX12_reckon_71 : decode cX12_reckon 71 = .ok (.iload_n 1, 1) := by decide +kernel
theorem dX12_reckon_72 : decode cX12_reckon 72 = .ok (.ireturn, 1) := by decide +kernel
theorem dX12_narrowOf_0 : decode cX12_narrowOf 0 = .ok (.iload_n 2, 1) := by decide +kernel
theorem dX12_narrowOf_1 : decode cX12_narrowOf 1 = .ok (.iconst 3, 1) := by decide +kernel
theorem dX12_narrowOf_2 : decode cX12_narrowOf 2 = .ok (.if_icmp .ge 7, 3) := by decide +kernel
theorem dX12_narrowOf_5 : decode cX12_narrowOf 5 = .ok (.aload_n 1, 1) := by decide +kernel
theorem dX12_narrowOf_6 : decode cX12_narrowOf 6 = .ok (.iload_n 2, 1) := by decide +kernel
theorem dX12_narrowOf_7 : decode cX12_narrowOf 7 = .ok (.iaload, 1) := by decide +kernel
theorem dX12_narrowOf_8 : decode cX12_narrowOf 8 = .ok (.ireturn, 1) := by decide +kernel
theorem dX12_narrowOf_9 : decode cX12_narrowOf 9 = .ok (.iload_n 2, 1) := by decide +kernel
theorem dX12_narrowOf_10 : decode cX12_narrowOf 10 = .ok (.iconst 3, 1) := by decide +kernel
theorem dX12_narrowOf_11 : decode cX12_narrowOf 11 = .ok (.if_icmp .ne 8, 3) := by decide +kernel
theorem dX12_narrowOf_14 : decode cX12_narrowOf 14 = .ok (.aload_n 0, 1) := by decide +kernel
theorem dX12_narrowOf_15 : decode cX12_narrowOf 15 = .ok (.getfield 293, 3) := by decide +kernel
theorem dX12_narrowOf_18 : decode cX12_narrowOf 18 = .ok (.ireturn, 1) := by decide +kernel
theorem dX12_narrowOf_19 : decode cX12_narrowOf 19 = .ok (.iload_n 2, 1) := by decide +kernel
theorem dX12_narrowOf_20 : decode cX12_narrowOf 20 = .ok (.iconst 4, 1) := by decide +kernel
theorem dX12_narrowOf_21 : decode cX12_narrowOf 21 = .ok (.if_icmp .eq 8, 3) := by decide +kernel
theorem dX12_narrowOf_24 : decode cX12_narrowOf 24 = .ok (.iload_n 2, 1) := by decide +kernel
theorem dX12_narrowOf_25 : decode cX12_narrowOf 25 = .ok (.iconst 5, 1) := by decide +kernel
theorem dX12_narrowOf_26 : decode cX12_narrowOf 26 = .ok (.if_icmp .ne 9, 3) := by decide +kernel
theorem dX12_narrowOf_29 : decode cX12_narrowOf 29 = .ok (.aload_n 1, 1) := by decide +kernel
theorem dX12_narrowOf_30 : decode cX12_narrowOf 30 = .ok (.iload_n 2, 1) := by decide +kernel
theorem dX12_narrowOf_31 : decode cX12_narrowOf 31 = .ok (.iconst 1, 1) := by decide +kernel
theorem dX12_narrowOf_32 : decode cX12_narrowOf 32 = .ok (.isub, 1) := by decide +kernel
theorem dX12_narrowOf_33 : decode cX12_narrowOf 33 = .ok (.iaload, 1) := by decide +kernel
theorem dX12_narrowOf_34 : decode cX12_narrowOf 34 = .ok (.ireturn, 1) := by decide +kernel
theorem dX12_narrowOf_35 : decode cX12_narrowOf 35 = .ok (.iload_n 2, 1) := by decide +kernel
theorem dX12_narrowOf_36 : decode cX12_narrowOf 36 = .ok (.bipush 10, 2) := by decide +kernel
theorem dX12_narrowOf_38 : decode cX12_narrowOf 38 = .ok (.if_icmp .ne 7, 3) := by decide +kernel
theorem dX12_narrowOf_41 : decode cX12_narrowOf 41 = .ok (.iload_n 3, 1) := by decide +kernel
theorem dX12_narrowOf_42 : decode cX12_narrowOf 42 = .ok (.iconst 3, 1) := by decide +kernel
theorem dX12_narrowOf_43 : decode cX12_narrowOf 43 = .ok (.iand, 1) := by decide +kernel
theorem dX12_narrowOf_44 : decode cX12_narrowOf 44 = .ok (.ireturn, 1) := by decide +kernel
theorem dX12_narrowOf_45 : decode cX12_narrowOf 45 = .ok (.aload_n 1, 1) := by decide +kernel
theorem dX12_narrowOf_46 : decode cX12_narrowOf 46 = .ok (.iconst 5, 1) := by decide +kernel
theorem dX12_narrowOf_47 : decode cX12_narrowOf 47 = .ok (.aload_n 0, 1) := by decide +kernel
theorem dX12_narrowOf_48 : decode cX12_narrowOf 48 = .ok (.aload_n 1, 1) := by decide +kernel
theorem dX12_narrowOf_49 : decode cX12_narrowOf 49 = .ok (.iload_n 2, 1) := by decide +kernel
theorem dX12_narrowOf_50 : decode cX12_narrowOf 50 = .ok (.bipush 6, 2) := by decide +kernel
theorem dX12_narrowOf_52 : decode cX12_narrowOf 52 = .ok (.isub, 1) := by decide +kernel
theorem dX12_narrowOf_53 : decode cX12_narrowOf 53 = .ok (.invokevirtual 296, 3) := by decide +kernel
theorem dX12_narrowOf_56 : decode cX12_narrowOf 56 = .ok (.iadd, 1) := by decide +kernel
theorem dX12_narrowOf_57 : decode cX12_narrowOf 57 = .ok (.iaload, 1) := by decide +kernel
theorem dX12_narrowOf_58 : decode cX12_narrowOf 58 = .ok (.ireturn, 1) := by decide +kernel
theorem dX12_narrowOfField_0 : decode cX12_narrowOfField 0 = .ok (.iload_n 2, 1) := by decide +kernel
theorem dX12_narrowOfField_1 : decode cX12_narrowOfField 1 = .ok (.iconst 3, 1) := by decide +kernel
theorem dX12_narrowOfField_2 : decode cX12_narrowOfField 2 = .ok (.if_icmp .ne 10, 3) := by decide +kernel
theorem dX12_narrowOfField_5 : decode cX12_narrowOfField 5 = .ok (.aload_n 0, 1) := by decide +kernel
theorem dX12_narrowOfField_6 : decode cX12_narrowOfField 6 = .ok (.getfield 293, 3) := by decide +kernel
theorem dX12_narrowOfField_9 : decode cX12_narrowOfField 9 = .ok (.goto 6, 3) := by decide +kernel
theorem dX12_narrowOfField_12 : decode cX12_narrowOfField 12 = .ok (.aload_n 1, 1) := by decide +kernel
theorem dX12_narrowOfField_13 : decode cX12_narrowOfField 13 = .ok (.iload_n 2, 1) := by decide +kernel
theorem dX12_narrowOfField_14 : decode cX12_narrowOfField 14 = .ok (.iaload, 1) := by decide +kernel
theorem dX12_narrowOfField_15 : decode cX12_narrowOfField 15 = .ok (.ireturn, 1) := by decide +kernel
theorem dX12_doNarrow_0 : decode cX12_doNarrow 0 = .ok (.aload_n 0, 1) := by decide +kernel
theorem dX12_doNarrow_1 : decode cX12_doNarrow 1 = .ok (.getfield 26, 3) := by decide +kernel
theorem dX12_doNarrow_4 : decode cX12_doNarrow 4 = .ok (.iload_n 1, 1) := by decide +kernel
theorem dX12_doNarrow_5 : decode cX12_doNarrow 5 = .ok (.iaload, 1) := by decide +kernel
theorem dX12_doNarrow_6 : decode cX12_doNarrow 6 = .ok (.ifCond .le 56, 3) := by decide +kernel
theorem dX12_doNarrow_9 : decode cX12_doNarrow 9 = .ok (.aload_n 0, 1) := by decide +kernel
theorem dX12_doNarrow_10 : decode cX12_doNarrow 10 = .ok (.getfield 29, 3) := by decide +kernel
theorem dX12_doNarrow_13 : decode cX12_doNarrow 13 = .ok (.iload_n 1, 1) := by decide +kernel
theorem dX12_doNarrow_14 : decode cX12_doNarrow 14 = .ok (.iaload, 1) := by decide +kernel
theorem dX12_doNarrow_15 : decode cX12_doNarrow 15 = .ok (.iconst 4, 1) := by decide +kernel
theorem dX12_doNarrow_16 : decode cX12_doNarrow 16 = .ok (.if_icmp .ne 9, 3) := by decide +kernel
theorem dX12_doNarrow_19 : decode cX12_doNarrow 19 = .ok (.aload_n 2, 1) := by decide +kernel
theorem dX12_doNarrow_20 : decode cX12_doNarrow 20 = .ok (.iconst 3, 1) := by decide +kernel
theorem dX12_doNarrow_21 : decode cX12_doNarrow 21 = .ok (.iaload, 1) := by decide +kernel
theorem dX12_doNarrow_22 : decode cX12_doNarrow 22 = .ok (.goto 11, 3) := by decide +kernel
theorem dX12_doNarrow_25 : decode cX12_doNarrow 25 = .ok (.aload_n 2, 1) := by decide +kernel
theorem dX12_doNarrow_26 : decode cX12_doNarrow 26 = .ok (.aload_n 0, 1) := by decide +kernel
theorem dX12_doNarrow_27 : decode cX12_doNarrow 27 = .ok (.getfield 29, 3) := by decide +kernel
theorem dX12_doNarrow_30 : decode cX12_doNarrow 30 = .ok (.iload_n 1, 1) := by decide +kernel
theorem dX12_doNarrow_31 : decode cX12_doNarrow 31 = .ok (.iaload, 1) := by decide +kernel
theorem dX12_doNarrow_32 : decode cX12_doNarrow 32 = .ok (.iaload, 1) := by decide +kernel
theorem dX12_doNarrow_33 : decode cX12_doNarrow 33 = .ok (.istore_n 3, 1) := by decide +kernel
theorem dX12_doNarrow_34 : decode cX12_doNarrow 34 = .ok (.iload_n 3, 1) := by decide +kernel
theorem dX12_doNarrow_35 : decode cX12_doNarrow 35 = .ok (.ifCond .eq 7, 3) := by decide +kernel
theorem dX12_doNarrow_38 : decode cX12_doNarrow 38 = .ok (.iconst 1, 1) := by decide +kernel
theorem dX12_doNarrow_39 : decode cX12_doNarrow 39 = .ok (.goto 4, 3) := by decide +kernel
theorem dX12_doNarrow_42 : decode cX12_doNarrow 42 = .ok (.iconst 0, 1) := by decide +kernel
theorem dX12_doNarrow_43 : decode cX12_doNarrow 43 = .ok (.aload_n 0, 1) := by decide +kernel
theorem dX12_doNarrow_44 : decode cX12_doNarrow 44 = .ok (.getfield 26, 3) := by decide +kernel
theorem dX12_doNarrow_47 : decode cX12_doNarrow 47 = .ok (.iload_n 1, 1) := by decide +kernel
theorem dX12_doNarrow_48 : decode cX12_doNarrow 48 = .ok (.iaload, 1) := by decide +kernel
theorem dX12_doNarrow_49 : decode cX12_doNarrow 49 = .ok (.iconst 1, 1) := by decide +kernel
theorem dX12_doNarrow_50 : decode cX12_doNarrow 50 = .ok (.if_icmp .ne 7, 3) := by decide +kernel
theorem dX12_doNarrow_53 : decode cX12_doNarrow 53 = .ok (.iconst 1, 1) := by decide +kernel
theorem dX12_doNarrow_54 : decode cX12_doNarrow 54 = .ok (.goto 4, 3) := by decide +kernel
theorem dX12_doNarrow_57 : decode cX12_doNarrow 57 = .ok (.iconst 0, 1) := by decide +kernel
theorem dX12_doNarrow_58 : decode cX12_doNarrow 58 = .ok (.if_icmp .eq 4, 3) := by decide +kernel
theorem dX12_doNarrow_61 : decode cX12_doNarrow 61 = .ok (.return_, 1) := by decide +kernel
theorem dX12_doNarrow_62 : decode cX12_doNarrow 62 = .ok (.iconst 0, 1) := by decide +kernel
theorem dX12_doNarrow_63 : decode cX12_doNarrow 63 = .ok (.istore_n 3, 1) := by decide +kernel
theorem dX12_doNarrow_64 : decode cX12_doNarrow 64 = .ok (.iload_n 3, 1) := by decide +kernel
theorem dX12_doNarrow_65 : decode cX12_doNarrow 65 = .ok (.aload_n 0, 1) := by decide +kernel
theorem dX12_doNarrow_66 : decode cX12_doNarrow 66 = .ok (.getfield 32, 3) := by decide +kernel
theorem dX12_doNarrow_69 : decode cX12_doNarrow 69 = .ok (.iload_n 1, 1) := by decide +kernel
theorem dX12_doNarrow_70 : decode cX12_doNarrow 70 = .ok (.iaload, 1) := by decide +kernel
theorem dX12_doNarrow_71 : decode cX12_doNarrow 71 = .ok (.if_icmp .ge 182, 3) := by decide +kernel
theorem dX12_doNarrow_74 : decode cX12_doNarrow 74 = .ok (.bipush 18, 2) := by decide +kernel
theorem dX12_doNarrow_76 : decode cX12_doNarrow 76 = .ok (.iload_n 1, 1) := by decide +kernel
theorem dX12_doNarrow_77 : decode cX12_doNarrow 77 = .ok (.imul, 1) := by decide +kernel
theorem dX12_doNarrow_78 : decode cX12_doNarrow 78 = .ok (.bipush 6, 2) := by decide +kernel
theorem dX12_doNarrow_80 : decode cX12_doNarrow 80 = .ok (.iload_n 3, 1) := by decide +kernel
theorem dX12_doNarrow_81 : decode cX12_doNarrow 81 = .ok (.imul, 1) := by decide +kernel
theorem dX12_doNarrow_82 : decode cX12_doNarrow 82 = .ok (.iadd, 1) := by decide +kernel
theorem dX12_doNarrow_83 : decode cX12_doNarrow 83 = .ok (.istore 4, 2) := by decide +kernel
theorem dX12_doNarrow_85 : decode cX12_doNarrow 85 = .ok (.aload_n 0, 1) := by decide +kernel
theorem dX12_doNarrow_86 : decode cX12_doNarrow 86 = .ok (.aload_n 2, 1) := by decide +kernel
theorem dX12_doNarrow_87 : decode cX12_doNarrow 87 = .ok (.aload_n 0, 1) := by decide +kernel
theorem dX12_doNarrow_88 : decode cX12_doNarrow 88 = .ok (.getfield 35, 3) := by decide +kernel
theorem dX12_doNarrow_91 : decode cX12_doNarrow 91 = .ok (.iload 4, 2) := by decide +kernel
theorem dX12_doNarrow_93 : decode cX12_doNarrow 93 = .ok (.iconst 1, 1) := by decide +kernel
theorem dX12_doNarrow_94 : decode cX12_doNarrow 94 = .ok (.iadd, 1) := by decide +kernel
theorem dX12_doNarrow_95 : decode cX12_doNarrow 95 = .ok (.iaload, 1) := by decide +kernel
theorem dX12_doNarrow_96 : decode cX12_doNarrow 96 = .ok (.aload_n 0, 1) := by decide +kernel
theorem dX12_doNarrow_97 : decode cX12_doNarrow 97 = .ok (.getfield 35, 3) := by decide +kernel
theorem dX12_doNarrow_100 : decode cX12_doNarrow 100 = .ok (.iload 4, 2) := by decide +kernel
theorem dX12_doNarrow_102 : decode cX12_doNarrow 102 = .ok (.iconst 2, 1) := by decide +kernel
theorem dX12_doNarrow_103 : decode cX12_doNarrow 103 = .ok (.iadd, 1) := by decide +kernel
theorem dX12_doNarrow_104 : decode cX12_doNarrow 104 = .ok (.iaload, 1) := by decide +kernel
theorem dX12_doNarrow_105 : decode cX12_doNarrow 105 = .ok (.invokevirtual 300, 3) := by decide +kernel
theorem dX12_doNarrow_108 : decode cX12_doNarrow 108 = .ok (.istore 5, 2) := by decide +kernel
theorem dX12_doNarrow_110 : decode cX12_doNarrow 110 = .ok (.aload_n 0, 1) := by decide +kernel
theorem dX12_doNarrow_111 : decode cX12_doNarrow 111 = .ok (.getfield 35, 3) := by decide +kernel
theorem dX12_doNarrow_114 : decode cX12_doNarrow 114 = .ok (.iload 4, 2) := by decide +kernel
theorem dX12_doNarrow_116 : decode cX12_doNarrow 116 = .ok (.iconst 3, 1) := by decide +kernel
theorem dX12_doNarrow_117 : decode cX12_doNarrow 117 = .ok (.iadd, 1) := by decide +kernel
theorem dX12_doNarrow_118 : decode cX12_doNarrow 118 = .ok (.iaload, 1) := by decide +kernel
theorem dX12_doNarrow_119 : decode cX12_doNarrow 119 = .ok (.ifCond .le 29, 3) := by decide +kernel
theorem dX12_doNarrow_122 : decode cX12_doNarrow 122 = .ok (.aload_n 0, 1) := by decide +kernel
theorem dX12_doNarrow_123 : decode cX12_doNarrow 123 = .ok (.aload_n 2, 1) := by decide +kernel
theorem dX12_doNarrow_124 : decode cX12_doNarrow 124 = .ok (.aload_n 0, 1) := by decide +kernel
theorem dX12_doNarrow_125 : decode cX12_doNarrow 125 = .ok (.getfield 35, 3) := by decide +kernel
theorem dX12_doNarrow_128 : decode cX12_doNarrow 128 = .ok (.iload 4, 2) := by decide +kernel
theorem dX12_doNarrow_130 : decode cX12_doNarrow 130 = .ok (.iconst 4, 1) := by decide +kernel
theorem dX12_doNarrow_131 : decode cX12_doNarrow 131 = .ok (.iadd, 1) := by decide +kernel
theorem dX12_doNarrow_132 : decode cX12_doNarrow 132 = .ok (.iaload, 1) := by decide +kernel
theorem dX12_doNarrow_133 : decode cX12_doNarrow 133 = .ok (.aload_n 0, 1) := by decide +kernel
theorem dX12_doNarrow_134 : decode cX12_doNarrow 134 = .ok (.getfield 35, 3) := by decide +kernel
theorem dX12_doNarrow_137 : decode cX12_doNarrow 137 = .ok (.iload 4, 2) := by decide +kernel
theorem dX12_doNarrow_139 : decode cX12_doNarrow 139 = .ok (.iconst 5, 1) := by decide +kernel
theorem dX12_doNarrow_140 : decode cX12_doNarrow 140 = .ok (.iadd, 1) := by decide +kernel
theorem dX12_doNarrow_141 : decode cX12_doNarrow 141 = .ok (.iaload, 1) := by decide +kernel
theorem dX12_doNarrow_142 : decode cX12_doNarrow 142 = .ok (.invokevirtual 300, 3) := by decide +kernel
theorem dX12_doNarrow_145 : decode cX12_doNarrow 145 = .ok (.goto 4, 3) := by decide +kernel
theorem dX12_doNarrow_148 : decode cX12_doNarrow 148 = .ok (.iconst 0, 1) := by decide +kernel
theorem dX12_doNarrow_149 : decode cX12_doNarrow 149 = .ok (.istore 6, 2) := by decide +kernel
theorem dX12_doNarrow_151 : decode cX12_doNarrow 151 = .ok (.aload_n 0, 1) := by decide +kernel
theorem dX12_doNarrow_152 : decode cX12_doNarrow 152 = .ok (.getfield 35, 3) := by decide +kernel
theorem dX12_doNarrow_155 : decode cX12_doNarrow 155 = .ok (.iload 4, 2) := by decide +kernel
theorem dX12_doNarrow_157 : decode cX12_doNarrow 157 = .ok (.iconst 3, 1) := by decide +kernel
theorem dX12_doNarrow_158 : decode cX12_doNarrow 158 = .ok (.iadd, 1) := by decide +kernel
theorem dX12_doNarrow_159 : decode cX12_doNarrow 159 = .ok (.iaload, 1) := by decide +kernel
theorem dX12_doNarrow_160 : decode cX12_doNarrow 160 = .ok (.iload 5, 2) := by decide +kernel
theorem dX12_doNarrow_162 : decode cX12_doNarrow 162 = .ok (.iload 6, 2) := by decide +kernel
theorem dX12_doNarrow_164 : decode cX12_doNarrow 164 = .ok (.invokestatic 304, 3) := by decide +kernel
theorem dX12_doNarrow_167 : decode cX12_doNarrow 167 = .ok (.iconst 3, 1) := by decide +kernel
theorem dX12_doNarrow_168 : decode cX12_doNarrow 168 = .ok (.iand, 1) := by decide +kernel
theorem dX12_doNarrow_169 : decode cX12_doNarrow 169 = .ok (.istore 7, 2) := by decide +kernel
theorem dX12_doNarrow_171 : decode cX12_doNarrow 171 = .ok (.aload_n 0, 1) := by decide +kernel
theorem dX12_doNarrow_172 : decode cX12_doNarrow 172 = .ok (.getfield 35, 3) := by decide +kernel
theorem dX12_doNarrow_175 : decode cX12_doNarrow 175 = .ok (.iload 4, 2) := by decide +kernel
theorem dX12_doNarrow_177 : decode cX12_doNarrow 177 = .ok (.iaload, 1) := by decide +kernel
theorem dX12_doNarrow_178 : decode cX12_doNarrow 178 = .ok (.istore 8, 2) := by decide +kernel
theorem dX12_doNarrow_180 : decode cX12_doNarrow 180 = .ok (.iload 8, 2) := by decide +kernel
theorem dX12_doNarrow_182 : decode cX12_doNarrow 182 = .ok (.iconst 3, 1) := by decide +kernel
theorem dX12_doNarrow_183 : decode cX12_doNarrow 183 = .ok (.if_icmp .ge 12, 3) := by decide +kernel
theorem dX12_doNarrow_186 : decode cX12_doNarrow 186 = .ok (.aload_n 2, 1) := by decide +kernel
theorem dX12_doNarrow_187 : decode cX12_doNarrow 187 = .ok (.iload 8, 2) := by decide +kernel
theorem dX12_doNarrow_189 : decode cX12_doNarrow 189 = .ok (.iload 7, 2) := by decide +kernel
theorem dX12_doNarrow_191 : decode cX12_doNarrow 191 = .ok (.iastore, 1) := by decide +kernel
theorem dX12_doNarrow_192 : decode cX12_doNarrow 192 = .ok (.goto 55, 3) := by decide +kernel
theorem dX12_doNarrow_195 : decode cX12_doNarrow 195 = .ok (.iload 8, 2) := by decide +kernel
theorem dX12_doNarrow_197 : decode cX12_doNarrow 197 = .ok (.iconst 4, 1) := by decide +kernel
theorem dX12_doNarrow_198 : decode cX12_doNarrow 198 = .ok (.if_icmp .ne 19, 3) := by decide +kernel
theorem dX12_doNarrow_201 : decode cX12_doNarrow 201 = .ok (.aload_n 2, 1) := by decide +kernel
theorem dX12_doNarrow_202 : decode cX12_doNarrow 202 = .ok (.iconst 3, 1) := by decide +kernel
theorem dX12_doNarrow_203 : decode cX12_doNarrow 203 = .ok (.iload 7, 2) := by decide +kernel
theorem dX12_doNarrow_205 : decode cX12_doNarrow 205 = .ok (.ifCond .eq 7, 3) := by decide +kernel
theorem dX12_doNarrow_208 : decode cX12_doNarrow 208 = .ok (.iconst 1, 1) := by decide +kernel
theorem dX12_doNarrow_209 : decode cX12_doNarrow 209 = .ok (.goto 4, 3) := by decide +kernel
theorem dX12_doNarrow_212 : decode cX12_doNarrow 212 = .ok (.iconst 0, 1) := by decide +kernel
theorem dX12_doNarrow_213 : decode cX12_doNarrow 213 = .ok (.iastore, 1) := by decide +kernel
theorem dX12_doNarrow_214 : decode cX12_doNarrow 214 = .ok (.goto 33, 3) := by decide +kernel
theorem dX12_doNarrow_217 : decode cX12_doNarrow 217 = .ok (.iload 8, 2) := by decide +kernel
theorem dX12_doNarrow_219 : decode cX12_doNarrow 219 = .ok (.iconst 5, 1) := by decide +kernel
theorem dX12_doNarrow_220 : decode cX12_doNarrow 220 = .ok (.if_icmp .ne 11, 3) := by decide +kernel
theorem dX12_doNarrow_223 : decode cX12_doNarrow 223 = .ok (.aload_n 2, 1) := by decide +kernel
theorem dX12_doNarrow_224 : decode cX12_doNarrow 224 = .ok (.iconst 4, 1) := by decide +kernel
theorem dX12_doNarrow_225 : decode cX12_doNarrow 225 = .ok (.iload 7, 2) := by decide +kernel
theorem dX12_doNarrow_227 : decode cX12_doNarrow 227 = .ok (.iastore, 1) := by decide +kernel
theorem dX12_doNarrow_228 : decode cX12_doNarrow 228 = .ok (.goto 19, 3) := by decide +kernel
theorem dX12_doNarrow_231 : decode cX12_doNarrow 231 = .ok (.aload_n 2, 1) := by decide +kernel
theorem dX12_doNarrow_232 : decode cX12_doNarrow 232 = .ok (.iconst 5, 1) := by decide +kernel
theorem dX12_doNarrow_233 : decode cX12_doNarrow 233 = .ok (.aload_n 0, 1) := by decide +kernel
theorem dX12_doNarrow_234 : decode cX12_doNarrow 234 = .ok (.aload_n 2, 1) := by decide +kernel
theorem dX12_doNarrow_235 : decode cX12_doNarrow 235 = .ok (.iload 8, 2) := by decide +kernel
theorem dX12_doNarrow_237 : decode cX12_doNarrow 237 = .ok (.bipush 6, 2) := by decide +kernel
theorem dX12_doNarrow_239 : decode cX12_doNarrow 239 = .ok (.isub, 1) := by decide +kernel
theorem dX12_doNarrow_240 : decode cX12_doNarrow 240 = .ok (.invokevirtual 296, 3) := by decide +kernel
theorem dX12_doNarrow_243 : decode cX12_doNarrow 243 = .ok (.iadd, 1) := by decide +kernel
theorem dX12_doNarrow_244 : decode cX12_doNarrow 244 = .ok (.iload 7, 2) := by decide +kernel
theorem dX12_doNarrow_246 : decode cX12_doNarrow 246 = .ok (.iastore, 1) := by decide +kernel
theorem dX12_doNarrow_247 : decode cX12_doNarrow 247 = .ok (.iinc 3 1, 3) := by decide +kernel
theorem dX12_doNarrow_250 : decode cX12_doNarrow 250 = .ok (.goto (-186), 3) := by decide +kernel
theorem dX12_doNarrow_253 : decode cX12_doNarrow 253 = .ok (.return_, 1) := by decide +kernel
theorem dX12_namesOf_0 : decode cX12_namesOf 0 = .ok (.aload_n 0, 1) := by decide +kernel
theorem dX12_namesOf_1 : decode cX12_namesOf 1 = .ok (.getfield 26, 3) := by decide +kernel
theorem dX12_namesOf_4 : decode cX12_namesOf 4 = .ok (.iload_n 1, 1) := by decide +kernel
theorem dX12_namesOf_5 : decode cX12_namesOf 5 = .ok (.iaload, 1) := by decide +kernel
theorem dX12_namesOf_6 : decode cX12_namesOf 6 = .ok (.ifCond .le 29, 3) := by decide +kernel
theorem dX12_namesOf_9 : decode cX12_namesOf 9 = .ok (.aload_n 0, 1) := by decide +kernel
theorem dX12_namesOf_10 : decode cX12_namesOf 10 = .ok (.getfield 29, 3) := by decide +kernel
theorem dX12_namesOf_13 : decode cX12_namesOf 13 = .ok (.iload_n 1, 1) := by decide +kernel
theorem dX12_namesOf_14 : decode cX12_namesOf 14 = .ok (.iaload, 1) := by decide +kernel
theorem dX12_namesOf_15 : decode cX12_namesOf 15 = .ok (.iconst 4, 1) := by decide +kernel
theorem dX12_namesOf_16 : decode cX12_namesOf 16 = .ok (.if_icmp .ne 8, 3) := by decide +kernel
theorem dX12_namesOf_19 : decode cX12_namesOf 19 = .ok (.bipush 8, 2) := by decide +kernel
theorem dX12_namesOf_21 : decode cX12_namesOf 21 = .ok (.goto 15, 3) := by decide +kernel
theorem dX12_namesOf_24 : decode cX12_namesOf 24 = .ok (.iconst 1, 1) := by decide +kernel
theorem dX12_namesOf_25 : decode cX12_namesOf 25 = .ok (.aload_n 0, 1) := by decide +kernel
theorem dX12_namesOf_26 : decode cX12_namesOf 26 = .ok (.getfield 29, 3) := by decide +kernel
theorem dX12_namesOf_29 : decode cX12_namesOf 29 = .ok (.iload_n 1, 1) := by decide +kernel
theorem dX12_namesOf_30 : decode cX12_namesOf 30 = .ok (.iaload, 1) := by decide +kernel
theorem dX12_namesOf_31 : decode cX12_namesOf 31 = .ok (.ishl, 1) := by decide +kernel
theorem dX12_namesOf_32 : decode cX12_namesOf 32 = .ok (.goto 4, 3) := by decide +kernel
theorem dX12_namesOf_35 : decode cX12_namesOf 35 = .ok (.iconst 0, 1) := by decide +kernel
theorem dX12_namesOf_36 : decode cX12_namesOf 36 = .ok (.istore_n 2, 1) := by decide +kernel
theorem dX12_namesOf_37 : decode cX12_namesOf 37 = .ok (.iconst 0, 1) := by decide +kernel
theorem dX12_namesOf_38 : decode cX12_namesOf 38 = .ok (.istore_n 3, 1) := by decide +kernel
theorem dX12_namesOf_39 : decode cX12_namesOf 39 = .ok (.iload_n 3, 1) := by decide +kernel
theorem dX12_namesOf_40 : decode cX12_namesOf 40 = .ok (.aload_n 0, 1) := by decide +kernel
theorem dX12_namesOf_41 : decode cX12_namesOf 41 = .ok (.getfield 32, 3) := by decide +kernel
theorem dX12_namesOf_44 : decode cX12_namesOf 44 = .ok (.iload_n 1, 1) := by decide +kernel
theorem dX12_namesOf_45 : decode cX12_namesOf 45 = .ok (.iaload, 1) := by decide +kernel
theorem dX12_namesOf_46 : decode cX12_namesOf 46 = .ok (.if_icmp .ge 75, 3) := by decide +kernel
theorem dX12_namesOf_49 : decode cX12_namesOf 49 = .ok (.bipush 18, 2) := by decide +kernel
theorem dX12_namesOf_51 : decode cX12_namesOf 51 = .ok (.iload_n 1, 1) := by decide +kernel
theorem dX12_namesOf_52 : decode cX12_namesOf 52 = .ok (.imul, 1) := by decide +kernel
theorem dX12_namesOf_53 : decode cX12_namesOf 53 = .ok (.bipush 6, 2) := by decide +kernel
theorem dX12_namesOf_55 : decode cX12_namesOf 55 = .ok (.iload_n 3, 1) := by decide +kernel
theorem dX12_namesOf_56 : decode cX12_namesOf 56 = .ok (.imul, 1) := by decide +kernel
theorem dX12_namesOf_57 : decode cX12_namesOf 57 = .ok (.iadd, 1) := by decide +kernel
theorem dX12_namesOf_58 : decode cX12_namesOf 58 = .ok (.istore 4, 2) := by decide +kernel
theorem dX12_namesOf_60 : decode cX12_namesOf 60 = .ok (.iload_n 2, 1) := by decide +kernel
theorem dX12_namesOf_61 : decode cX12_namesOf 61 = .ok (.aload_n 0, 1) := by decide +kernel
theorem dX12_namesOf_62 : decode cX12_namesOf 62 = .ok (.getfield 35, 3) := by decide +kernel
theorem dX12_namesOf_65 : decode cX12_namesOf 65 = .ok (.iload 4, 2) := by decide +kernel
theorem dX12_namesOf_67 : decode cX12_namesOf 67 = .ok (.iaload, 1) := by decide +kernel
theorem dX12_namesOf_68 : decode cX12_namesOf 68 = .ok (.invokestatic 307, 3) := by decide +kernel
theorem dX12_namesOf_71 : decode cX12_namesOf 71 = .ok (.aload_n 0, 1) := by decide +kernel
theorem dX12_namesOf_72 : decode cX12_namesOf 72 = .ok (.getfield 35, 3) := by decide +kernel
theorem dX12_namesOf_75 : decode cX12_namesOf 75 = .ok (.iload 4, 2) := by decide +kernel
theorem dX12_namesOf_77 : decode cX12_namesOf 77 = .ok (.iconst 1, 1) := by decide +kernel
theorem dX12_namesOf_78 : decode cX12_namesOf 78 = .ok (.iadd, 1) := by decide +kernel
theorem dX12_namesOf_79 : decode cX12_namesOf 79 = .ok (.iaload, 1) := by decide +kernel
theorem dX12_namesOf_80 : decode cX12_namesOf 80 = .ok (.invokestatic 307, 3) := by decide +kernel
theorem dX12_namesOf_83 : decode cX12_namesOf 83 = .ok (.ior, 1) := by decide +kernel
theorem dX12_namesOf_84 : decode cX12_namesOf 84 = .ok (.aload_n 0, 1) := by decide +kernel
theorem dX12_namesOf_85 : decode cX12_namesOf 85 = .ok (.getfield 35, 3) := by decide +kernel
theorem dX12_namesOf_88 : decode cX12_namesOf 88 = .ok (.iload 4, 2) := by decide +kernel
theorem dX12_namesOf_90 : decode cX12_namesOf 90 = .ok (.iconst 3, 1) := by decide +kernel
theorem dX12_namesOf_91 : decode cX12_namesOf 91 = .ok (.iadd, 1) := by decide +kernel
theorem dX12_namesOf_92 : decode cX12_namesOf 92 = .ok (.iaload, 1) := by decide +kernel
theorem dX12_namesOf_93 : decode cX12_namesOf 93 = .ok (.ifCond .le 18, 3) := by decide +kernel
theorem dX12_namesOf_96 : decode cX12_namesOf 96 = .ok (.aload_n 0, 1) := by decide +kernel
theorem dX12_namesOf_97 : decode cX12_namesOf 97 = .ok (.getfield 35, 3) := by decide +kernel
theorem dX12_namesOf_100 : decode cX12_namesOf 100 = .ok (.iload 4, 2) := by decide +kernel
theorem dX12_namesOf_102 : decode cX12_namesOf 102 = .ok (.iconst 4, 1) := by decide +kernel
theorem dX12_namesOf_103 : decode cX12_namesOf 103 = .ok (.iadd, 1) := by decide +kernel
theorem dX12_namesOf_104 : decode cX12_namesOf 104 = .ok (.iaload, 1) := by decide +kernel
theorem dX12_namesOf_105 : decode cX12_namesOf 105 = .ok (.invokestatic 307, 3) := by decide +kernel
theorem dX12_namesOf_108 : decode cX12_namesOf 108 = .ok (.goto 4, 3) := by decide +kernel
theorem dX12_namesOf_111 : decode cX12_namesOf 111 = .ok (.iconst 0, 1) := by decide +kernel
theorem dX12_namesOf_112 : decode cX12_namesOf 112 = .ok (.ior, 1) := by decide +kernel
theorem dX12_namesOf_113 : decode cX12_namesOf 113 = .ok (.ior, 1) := by decide +kernel
theorem dX12_namesOf_114 : decode cX12_namesOf 114 = .ok (.istore_n 2, 1) := by decide +kernel
theorem dX12_namesOf_115 : decode cX12_namesOf 115 = .ok (.iinc 3 1, 3) := by decide +kernel
theorem dX12_namesOf_118 : decode cX12_namesOf 118 = .ok (.goto (-79), 3) := by decide +kernel
theorem dX12_namesOf_121 : decode cX12_namesOf 121 = .ok (.iload_n 2, 1) := by decide +kernel
theorem dX12_namesOf_122 : decode cX12_namesOf 122 = .ok (.ireturn, 1) := by decide +kernel
theorem dX12_nameBit_0 : decode cX12_nameBit 0 = .ok (.iload_n 0, 1) := by decide +kernel
theorem dX12_nameBit_1 : decode cX12_nameBit 1 = .ok (.iconst 3, 1) := by decide +kernel
theorem dX12_nameBit_2 : decode cX12_nameBit 2 = .ok (.if_icmp .ge 7, 3) := by decide +kernel
theorem dX12_nameBit_5 : decode cX12_nameBit 5 = .ok (.iconst 1, 1) := by decide +kernel
theorem dX12_nameBit_6 : decode cX12_nameBit 6 = .ok (.iload_n 0, 1) := by decide +kernel
theorem dX12_nameBit_7 : decode cX12_nameBit 7 = .ok (.ishl, 1) := by decide +kernel
theorem dX12_nameBit_8 : decode cX12_nameBit 8 = .ok (.ireturn, 1) := by decide +kernel
theorem dX12_nameBit_9 : decode cX12_nameBit 9 = .ok (.iload_n 0, 1) := by decide +kernel
theorem dX12_nameBit_10 : decode cX12_nameBit 10 = .ok (.iconst 3, 1) := by decide +kernel
theorem dX12_nameBit_11 : decode cX12_nameBit 11 = .ok (.if_icmp .ne 6, 3) := by decide +kernel
theorem dX12_nameBit_14 : decode cX12_nameBit 14 = .ok (.bipush 64, 2) := by decide +kernel
theorem dX12_nameBit_16 : decode cX12_nameBit 16 = .ok (.ireturn, 1) := by decide +kernel
theorem dX12_nameBit_17 : decode cX12_nameBit 17 = .ok (.iload_n 0, 1) := by decide +kernel
theorem dX12_nameBit_18 : decode cX12_nameBit 18 = .ok (.iconst 4, 1) := by decide +kernel
theorem dX12_nameBit_19 : decode cX12_nameBit 19 = .ok (.if_icmp .eq 8, 3) := by decide +kernel
theorem dX12_nameBit_22 : decode cX12_nameBit 22 = .ok (.iload_n 0, 1) := by decide +kernel
theorem dX12_nameBit_23 : decode cX12_nameBit 23 = .ok (.iconst 5, 1) := by decide +kernel
theorem dX12_nameBit_24 : decode cX12_nameBit 24 = .ok (.if_icmp .ne 16, 3) := by decide +kernel
theorem dX12_nameBit_27 : decode cX12_nameBit 27 = .ok (.iload_n 0, 1) := by decide +kernel
theorem dX12_nameBit_28 : decode cX12_nameBit 28 = .ok (.iconst 4, 1) := by decide +kernel
theorem dX12_nameBit_29 : decode cX12_nameBit 29 = .ok (.if_icmp .ne 8, 3) := by decide +kernel
theorem dX12_nameBit_32 : decode cX12_nameBit 32 = .ok (.bipush 8, 2) := by decide +kernel
theorem dX12_nameBit_34 : decode cX12_nameBit 34 = .ok (.goto 5, 3) := by decide +kernel
theorem dX12_nameBit_37 : decode cX12_nameBit 37 = .ok (.bipush 16, 2) := by decide +kernel
theorem dX12_nameBit_39 : decode cX12_nameBit 39 = .ok (.ireturn, 1) := by decide +kernel
theorem dX12_nameBit_40 : decode cX12_nameBit 40 = .ok (.iload_n 0, 1) := by decide +kernel
theorem dX12_nameBit_41 : decode cX12_nameBit 41 = .ok (.bipush 10, 2) := by decide +kernel
theorem dX12_nameBit_43 : decode cX12_nameBit 43 = .ok (.if_icmp .ne 7, 3) := by decide +kernel
theorem dX12_nameBit_46 : decode cX12_nameBit 46 = .ok (.iconst 0, 1) := by decide +kernel
theorem dX12_nameBit_47 : decode cX12_nameBit 47 = .ok (.goto 23, 3) := by decide +kernel
theorem dX12_nameBit_50 : decode cX12_nameBit 50 = .ok (.bipush 32, 2) := by decide +kernel
theorem dX12_nameBit_52 : decode cX12_nameBit 52 = .ok (.iload_n 0, 1) := by decide +kernel
theorem dX12_nameBit_53 : decode cX12_nameBit 53 = .ok (.bipush 9, 2) := by decide +kernel
theorem dX12_nameBit_55 : decode cX12_nameBit 55 = .ok (.if_icmp .ne 8, 3) := by decide +kernel
theorem dX12_nameBit_58 : decode cX12_nameBit 58 = .ok (.bipush 64, 2) := by decide +kernel
theorem dX12_nameBit_60 : decode cX12_nameBit 60 = .ok (.goto 9, 3) := by decide +kernel
theorem dX12_nameBit_63 : decode cX12_nameBit 63 = .ok (.iconst 1, 1) := by decide +kernel
theorem dX12_nameBit_64 : decode cX12_nameBit 64 = .ok (.iload_n 0, 1) := by decide +kernel
theorem dX12_nameBit_65 : decode cX12_nameBit 65 = .ok (.bipush 6, 2) := by decide +kernel
theorem dX12_nameBit_67 : decode cX12_nameBit 67 = .ok (.isub, 1) := by decide +kernel
theorem dX12_nameBit_68 : decode cX12_nameBit 68 = .ok (.ishl, 1) := by decide +kernel
theorem dX12_nameBit_69 : decode cX12_nameBit 69 = .ok (.ior, 1) := by decide +kernel
theorem dX12_nameBit_70 : decode cX12_nameBit 70 = .ok (.ireturn, 1) := by decide +kernel
theorem dX12_sizeOf_0 : decode cX12_sizeOf 0 = .ok (.iload_n 0, 1) := by decide +kernel
theorem dX12_sizeOf_1 : decode cX12_sizeOf 1 = .ok (.iconst 3, 1) := by decide +kernel
theorem dX12_sizeOf_2 : decode cX12_sizeOf 2 = .ok (.if_icmp .ne 16, 3) := by decide +kernel
theorem dX12_sizeOf_5 : decode cX12_sizeOf 5 = .ok (.iload_n 1, 1) := by decide +kernel
theorem dX12_sizeOf_6 : decode cX12_sizeOf 6 = .ok (.bipush 8, 2) := by decide +kernel
theorem dX12_sizeOf_8 : decode cX12_sizeOf 8 = .ok (.iand, 1) := by decide +kernel
theorem dX12_sizeOf_9 : decode cX12_sizeOf 9 = .ok (.ifCond .eq 7, 3) := by decide +kernel
theorem dX12_sizeOf_12 : decode cX12_sizeOf 12 = .ok (.iconst 2, 1) := by decide +kernel
theorem dX12_sizeOf_13 : decode cX12_sizeOf 13 = .ok (.goto 4, 3) := by decide +kernel
theorem dX12_sizeOf_16 : decode cX12_sizeOf 16 = .ok (.iconst 1, 1) := by decide +kernel
theorem dX12_sizeOf_17 : decode cX12_sizeOf 17 = .ok (.ireturn, 1) := by decide +kernel
theorem dX12_sizeOf_18 : decode cX12_sizeOf 18 = .ok (.iload_n 0, 1) := by decide +kernel
theorem dX12_sizeOf_19 : decode cX12_sizeOf 19 = .ok (.iconst 3, 1) := by decide +kernel
theorem dX12_sizeOf_20 : decode cX12_sizeOf 20 = .ok (.if_icmp .ge 9, 3) := by decide +kernel
theorem dX12_sizeOf_23 : decode cX12_sizeOf 23 = .ok (.iconst 1, 1) := by decide +kernel
theorem dX12_sizeOf_24 : decode cX12_sizeOf 24 = .ok (.iload_n 0, 1) := by decide +kernel
theorem dX12_sizeOf_25 : decode cX12_sizeOf 25 = .ok (.ishl, 1) := by decide +kernel
theorem dX12_sizeOf_26 : decode cX12_sizeOf 26 = .ok (.goto 15, 3) := by decide +kernel
theorem dX12_sizeOf_29 : decode cX12_sizeOf 29 = .ok (.iload_n 0, 1) := by decide +kernel
theorem dX12_sizeOf_30 : decode cX12_sizeOf 30 = .ok (.iconst 4, 1) := by decide +kernel
theorem dX12_sizeOf_31 : decode cX12_sizeOf 31 = .ok (.if_icmp .ne 8, 3) := by decide +kernel
theorem dX12_sizeOf_34 : decode cX12_sizeOf 34 = .ok (.bipush 16, 2) := by decide +kernel
theorem dX12_sizeOf_36 : decode cX12_sizeOf 36 = .ok (.goto 5, 3) := by decide +kernel
theorem dX12_sizeOf_39 : decode cX12_sizeOf 39 = .ok (.bipush 32, 2) := by decide +kernel
theorem dX12_sizeOf_41 : decode cX12_sizeOf 41 = .ok (.istore_n 2, 1) := by decide +kernel
theorem dX12_sizeOf_42 : decode cX12_sizeOf 42 = .ok (.iload_n 1, 1) := by decide +kernel
theorem dX12_sizeOf_43 : decode cX12_sizeOf 43 = .ok (.iload_n 2, 1) := by decide +kernel
theorem dX12_sizeOf_44 : decode cX12_sizeOf 44 = .ok (.iand, 1) := by decide +kernel
theorem dX12_sizeOf_45 : decode cX12_sizeOf 45 = .ok (.ifCond .eq 7, 3) := by decide +kernel
theorem dX12_sizeOf_48 : decode cX12_sizeOf 48 = .ok (.iconst 4, 1) := by decide +kernel
theorem dX12_sizeOf_49 : decode cX12_sizeOf 49 = .ok (.goto 4, 3) := by decide +kernel
theorem dX12_sizeOf_52 : decode cX12_sizeOf 52 = .ok (.iconst 1, 1) := by decide +kernel
theorem dX12_sizeOf_53 : decode cX12_sizeOf 53 = .ok (.ireturn, 1) := by decide +kernel
theorem dX12_statesOf_0 : decode cX12_statesOf 0 = .ok (.iconst 1, 1) := by decide +kernel
theorem dX12_statesOf_1 : decode cX12_statesOf 1 = .ok (.istore_n 1, 1) := by decide +kernel
theorem dX12_statesOf_2 : decode cX12_statesOf 2 = .ok (.iconst 0, 1) := by decide +kernel
theorem dX12_statesOf_3 : decode cX12_statesOf 3 = .ok (.istore_n 2, 1) := by decide +kernel
theorem dX12_statesOf_4 : decode cX12_statesOf 4 = .ok (.iload_n 2, 1) := by decide +kernel
theorem dX12_statesOf_5 : decode cX12_statesOf 5 = .ok (.bipush 9, 2) := by decide +kernel
theorem dX12_statesOf_7 : decode cX12_statesOf 7 = .ok (.if_icmp .ge 17, 3) := by decide +kernel
theorem dX12_statesOf_10 : decode cX12_statesOf 10 = .ok (.iload_n 1, 1) := by decide +kernel
theorem dX12_statesOf_11 : decode cX12_statesOf 11 = .ok (.iload_n 2, 1) := by decide +kernel
theorem dX12_statesOf_12 : decode cX12_statesOf 12 = .ok (.iload_n 0, 1) := by decide +kernel
theorem dX12_statesOf_13 : decode cX12_statesOf 13 = .ok (.invokestatic 310, 3) := by decide +kernel
theorem dX12_statesOf_16 : decode cX12_statesOf 16 = .ok (.imul, 1) := by decide +kernel
theorem dX12_statesOf_17 : decode cX12_statesOf 17 = .ok (.istore_n 1, 1) := by decide +kernel
theorem dX12_statesOf_18 : decode cX12_statesOf 18 = .ok (.iinc 2 1, 3) := by decide +kernel
theorem dX12_statesOf_21 : decode cX12_statesOf 21 = .ok (.goto (-17), 3) := by decide +kernel
theorem dX12_statesOf_24 : decode cX12_statesOf 24 = .ok (.iload_n 1, 1) := by decide +kernel
theorem dX12_statesOf_25 : decode cX12_statesOf 25 = .ok (.ireturn, 1) := by decide +kernel
theorem dX12_setNarrow_0 : decode cX12_setNarrow 0 = .ok (.iload_n 1, 1) := by decide +kernel
theorem dX12_setNarrow_1 : decode cX12_setNarrow 1 = .ok (.istore_n 3, 1) := by decide +kernel
theorem dX12_setNarrow_2 : decode cX12_setNarrow 2 = .ok (.iconst 0, 1) := by decide +kernel
theorem dX12_setNarrow_3 : decode cX12_setNarrow 3 = .ok (.istore 4, 2) := by decide +kernel
theorem dX12_setNarrow_5 : decode cX12_setNarrow 5 = .ok (.iload 4, 2) := by decide +kernel
theorem dX12_setNarrow_7 : decode cX12_setNarrow 7 = .ok (.bipush 9, 2) := by decide +kernel
theorem dX12_setNarrow_9 : decode cX12_setNarrow 9 = .ok (.if_icmp .ge 33, 3) := by decide +kernel
theorem dX12_setNarrow_12 : decode cX12_setNarrow 12 = .ok (.iload 4, 2) := by decide +kernel
theorem dX12_setNarrow_14 : decode cX12_setNarrow 14 = .ok (.iload_n 2, 1) := by decide +kernel
theorem dX12_setNarrow_15 : decode cX12_setNarrow 15 = .ok (.invokestatic 310, 3) := by decide +kernel
theorem dX12_setNarrow_18 : decode cX12_setNarrow 18 = .ok (.istore 5, 2) := by decide +kernel
theorem dX12_setNarrow_20 : decode cX12_setNarrow 20 = .ok (.aload_n 0, 1) := by decide +kernel
theorem dX12_setNarrow_21 : decode cX12_setNarrow 21 = .ok (.getfield 56, 3) := by decide +kernel
theorem dX12_setNarrow_24 : decode cX12_setNarrow 24 = .ok (.iload 4, 2) := by decide +kernel
theorem dX12_setNarrow_26 : decode cX12_setNarrow 26 = .ok (.iload_n 3, 1) := by decide +kernel
theorem dX12_setNarrow_27 : decode cX12_setNarrow 27 = .ok (.iload 5, 2) := by decide +kernel
theorem dX12_setNarrow_29 : decode cX12_setNarrow 29 = .ok (.irem, 1) := by decide +kernel
theorem dX12_setNarrow_30 : decode cX12_setNarrow 30 = .ok (.iastore, 1) := by decide +kernel
theorem dX12_setNarrow_31 : decode cX12_setNarrow 31 = .ok (.iload_n 3, 1) := by decide +kernel
theorem dX12_setNarrow_32 : decode cX12_setNarrow 32 = .ok (.iload 5, 2) := by decide +kernel
theorem dX12_setNarrow_34 : decode cX12_setNarrow 34 = .ok (.idiv, 1) := by decide +kernel
theorem dX12_setNarrow_35 : decode cX12_setNarrow 35 = .ok (.istore_n 3, 1) := by decide +kernel
theorem dX12_setNarrow_36 : decode cX12_setNarrow 36 = .ok (.iinc 4 1, 3) := by decide +kernel
theorem dX12_setNarrow_39 : decode cX12_setNarrow 39 = .ok (.goto (-34), 3) := by decide +kernel
theorem dX12_setNarrow_42 : decode cX12_setNarrow 42 = .ok (.return_, 1) := by decide +kernel
theorem dX12_copyAhead_0 : decode cX12_copyAhead 0 = .ok (.iconst 0, 1) := by decide +kernel
theorem dX12_copyAhead_1 : decode cX12_copyAhead 1 = .ok (.istore_n 2, 1) := by decide +kernel
theorem dX12_copyAhead_2 : decode cX12_copyAhead 2 = .ok (.iload_n 2, 1) := by decide +kernel
theorem dX12_copyAhead_3 : decode cX12_copyAhead 3 = .ok (.bipush 9, 2) := by decide +kernel
theorem dX12_copyAhead_5 : decode cX12_copyAhead 5 = .ok (.if_icmp .ge 18, 3) := by decide +kernel
theorem dX12_copyAhead_8 : decode cX12_copyAhead 8 = .ok (.aload_n 1, 1) := by decide +kernel
theorem dX12_copyAhead_9 : decode cX12_copyAhead 9 = .ok (.iload_n 2, 1) := by decide +kernel
theorem dX12_copyAhead_10 : decode cX12_copyAhead 10 = .ok (.aload_n 0, 1) := by decide +kernel
theorem dX12_copyAhead_11 : decode cX12_copyAhead 11 = .ok (.getfield 56, 3) := by decide +kernel
theorem dX12_copyAhead_14 : decode cX12_copyAhead 14 = .ok (.iload_n 2, 1) := by decide +kernel
theorem dX12_copyAhead_15 : decode cX12_copyAhead 15 = .ok (.iaload, 1) := by decide +kernel
theorem dX12_copyAhead_16 : decode cX12_copyAhead 16 = .ok (.iastore, 1) := by decide +kernel
theorem dX12_copyAhead_17 : decode cX12_copyAhead 17 = .ok (.iinc 2 1, 3) := by decide +kernel
theorem dX12_copyAhead_20 : decode cX12_copyAhead 20 = .ok (.goto (-18), 3) := by decide +kernel
theorem dX12_copyAhead_23 : decode cX12_copyAhead 23 = .ok (.return_, 1) := by decide +kernel
theorem dX12_isReadBy_0 : decode cX12_isReadBy 0 = .ok (.iconst 0, 1) := by decide +kernel
theorem dX12_isReadBy_1 : decode cX12_isReadBy 1 = .ok (.istore 4, 2) := by decide +kernel
theorem dX12_isReadBy_3 : decode cX12_isReadBy 3 = .ok (.iload 4, 2) := by decide +kernel
theorem dX12_isReadBy_5 : decode cX12_isReadBy 5 = .ok (.bipush 9, 2) := by decide +kernel
theorem dX12_isReadBy_7 : decode cX12_isReadBy 7 = .ok (.if_icmp .ge 34, 3) := by decide +kernel
theorem dX12_isReadBy_10 : decode cX12_isReadBy 10 = .ok (.iload 4, 2) := by decide +kernel
theorem dX12_isReadBy_12 : decode cX12_isReadBy 12 = .ok (.iload_n 1, 1) := by decide +kernel
theorem dX12_isReadBy_13 : decode cX12_isReadBy 13 = .ok (.if_icmp .eq 22, 3) := by decide +kernel
theorem dX12_isReadBy_16 : decode cX12_isReadBy 16 = .ok (.aload_n 0, 1) := by decide +kernel
theorem dX12_isReadBy_17 : decode cX12_isReadBy 17 = .ok (.getfield 50, 3) := by decide +kernel
theorem dX12_isReadBy_20 : decode cX12_isReadBy 20 = .ok (.iload 4, 2) := by decide +kernel
theorem dX12_isReadBy_22 : decode cX12_isReadBy 22 = .ok (.iaload, 1) := by decide +kernel
theorem dX12_isReadBy_23 : decode cX12_isReadBy 23 = .ok (.aload_n 0, 1) := by decide +kernel
theorem dX12_isReadBy_24 : decode cX12_isReadBy 24 = .ok (.getfield 53, 3) := by decide +kernel
theorem dX12_isReadBy_27 : decode cX12_isReadBy 27 = .ok (.iload 4, 2) := by decide +kernel
theorem dX12_isReadBy_29 : decode cX12_isReadBy 29 = .ok (.iaload, 1) := by decide +kernel
theorem dX12_isReadBy_30 : decode cX12_isReadBy 30 = .ok (.if_icmp .eq 5, 3) := by decide +kernel
theorem dX12_isReadBy_33 : decode cX12_isReadBy 33 = .ok (.iconst 1, 1) := by decide +kernel
theorem dX12_isReadBy_34 : decode cX12_isReadBy 34 = .ok (.ireturn, 1) := by decide +kernel
theorem dX12_isReadBy_35 : decode cX12_isReadBy 35 = .ok (.iinc 4 1, 3) := by decide +kernel
theorem dX12_isReadBy_38 : decode cX12_isReadBy 38 = .ok (.goto (-35), 3) := by decide +kernel
theorem dX12_isReadBy_41 : decode cX12_isReadBy 41 = .ok (.aload_n 0, 1) := by decide +kernel
theorem dX12_isReadBy_42 : decode cX12_isReadBy 42 = .ok (.getfield 50, 3) := by decide +kernel
theorem dX12_isReadBy_45 : decode cX12_isReadBy 45 = .ok (.iload_n 1, 1) := by decide +kernel
theorem dX12_isReadBy_46 : decode cX12_isReadBy 46 = .ok (.iaload, 1) := by decide +kernel
theorem dX12_isReadBy_47 : decode cX12_isReadBy 47 = .ok (.aload_n 0, 1) := by decide +kernel
theorem dX12_isReadBy_48 : decode cX12_isReadBy 48 = .ok (.getfield 53, 3) := by decide +kernel
theorem dX12_isReadBy_51 : decode cX12_isReadBy 51 = .ok (.iload_n 1, 1) := by decide +kernel
theorem dX12_isReadBy_52 : decode cX12_isReadBy 52 = .ok (.iaload, 1) := by decide +kernel
theorem dX12_isReadBy_53 : decode cX12_isReadBy 53 = .ok (.if_icmp .eq 27, 3) := by decide +kernel
theorem dX12_isReadBy_56 : decode cX12_isReadBy 56 = .ok (.aload_n 0, 1) := by decide +kernel
theorem dX12_isReadBy_57 : decode cX12_isReadBy 57 = .ok (.getfield 50, 3) := by decide +kernel
theorem dX12_isReadBy_60 : decode cX12_isReadBy 60 = .ok (.iload_n 1, 1) := by decide +kernel
theorem dX12_isReadBy_61 : decode cX12_isReadBy 61 = .ok (.iaload, 1) := by decide +kernel
theorem dX12_isReadBy_62 : decode cX12_isReadBy 62 = .ok (.iload_n 2, 1) := by decide +kernel
theorem dX12_isReadBy_63 : decode cX12_isReadBy 63 = .ok (.if_icmp .ne 13, 3) := by decide +kernel
theorem dX12_isReadBy_66 : decode cX12_isReadBy 66 = .ok (.aload_n 0, 1) := by decide +kernel
theorem dX12_isReadBy_67 : decode cX12_isReadBy 67 = .ok (.getfield 53, 3) := by decide +kernel
theorem dX12_isReadBy_70 : decode cX12_isReadBy 70 = .ok (.iload_n 1, 1) := by decide +kernel
theorem dX12_isReadBy_71 : decode cX12_isReadBy 71 = .ok (.iaload, 1) := by decide +kernel
theorem dX12_isReadBy_72 : decode cX12_isReadBy 72 = .ok (.iload_n 3, 1) := by decide +kernel
theorem dX12_isReadBy_73 : decode cX12_isReadBy 73 = .ok (.if_icmp .eq 7, 3) := by decide +kernel
theorem dX12_isReadBy_76 : decode cX12_isReadBy 76 = .ok (.iconst 1, 1) := by decide +kernel
theorem dX12_isReadBy_77 : decode cX12_isReadBy 77 = .ok (.goto 4, 3) := by decide +kernel
theorem dX12_isReadBy_80 : decode cX12_isReadBy 80 = .ok (.iconst 0, 1) := by decide +kernel
theorem dX12_isReadBy_81 : decode cX12_isReadBy 81 = .ok (.ireturn, 1) := by decide +kernel
theorem dX12_readsStore_0 : decode cX12_readsStore 0 = .ok (.iload_n 3, 1) := by decide +kernel
theorem dX12_readsStore_1 : decode cX12_readsStore 1 = .ok (.invokestatic 313, 3) := by decide +kernel
theorem dX12_readsStore_4 : decode cX12_readsStore 4 = .ok (.istore 4, 2) := by decide +kernel
theorem dX12_readsStore_6 : decode cX12_readsStore 6 = .ok (.aload_n 0, 1) := by decide +kernel
theorem dX12_readsStore_7 : decode cX12_readsStore 7 = .ok (.iconst 0, 1) := by decide +kernel
theorem dX12_readsStore_8 : decode cX12_readsStore 8 = .ok (.putfield 293, 3) := by decide +kernel
theorem dX12_readsStore_11 : decode cX12_readsStore 11 = .ok (.aload_n 0, 1) := by decide +kernel
theorem dX12_readsStore_12 : decode cX12_readsStore 12 = .ok (.getfield 293, 3) := by decide +kernel
theorem dX12_readsStore_15 : decode cX12_readsStore 15 = .ok (.iload_n 3, 1) := by decide +kernel
theorem dX12_readsStore_16 : decode cX12_readsStore 16 = .ok (.bipush 64, 2) := by decide +kernel
theorem dX12_readsStore_18 : decode cX12_readsStore 18 = .ok (.iand, 1) := by decide +kernel
theorem dX12_readsStore_19 : decode cX12_readsStore 19 = .ok (.ifCond .eq 7, 3) := by decide +kernel
theorem dX12_readsStore_22 : decode cX12_readsStore 22 = .ok (.iconst 4, 1) := by decide +kernel
theorem dX12_readsStore_23 : decode cX12_readsStore 23 = .ok (.goto 4, 3) := by decide +kernel
theorem dX12_readsStore_26 : decode cX12_readsStore 26 = .ok (.iconst 1, 1) := by decide +kernel
theorem dX12_readsStore_27 : decode cX12_readsStore 27 = .ok (.if_icmp .ge 125, 3) := by decide +kernel
theorem dX12_readsStore_30 : decode cX12_readsStore 30 = .ok (.iconst 0, 1) := by decide +kernel
theorem dX12_readsStore_31 : decode cX12_readsStore 31 = .ok (.istore 5, 2) := by decide +kernel
theorem dX12_readsStore_33 : decode cX12_readsStore 33 = .ok (.iload 5, 2) := by decide +kernel
theorem dX12_readsStore_35 : decode cX12_readsStore 35 = .ok (.iload 4, 2) := by decide +kernel
theorem dX12_readsStore_37 : decode cX12_readsStore 37 = .ok (.if_icmp .ge 102, 3) := by decide +kernel
theorem dX12_readsStore_40 : decode cX12_readsStore 40 = .ok (.aload_n 0, 1) := by decide +kernel
theorem dX12_readsStore_41 : decode cX12_readsStore 41 = .ok (.iload 5, 2) := by decide +kernel
theorem dX12_readsStore_43 : decode cX12_readsStore 43 = .ok (.iload_n 3, 1) := by decide +kernel
theorem dX12_readsStore_44 : decode cX12_readsStore 44 = .ok (.invokevirtual 316, 3) := by decide +kernel
theorem dX12_readsStore_47 : decode cX12_readsStore 47 = .ok (.aload_n 0, 1) := by decide +kernel
theorem dX12_readsStore_48 : decode cX12_readsStore 48 = .ok (.getfield 56, 3) := by decide +kernel
theorem dX12_readsStore_51 : decode cX12_readsStore 51 = .ok (.iload_n 2, 1) := by decide +kernel
theorem dX12_readsStore_52 : decode cX12_readsStore 52 = .ok (.iaload, 1) := by decide +kernel
theorem dX12_readsStore_53 : decode cX12_readsStore 53 = .ok (.istore 6, 2) := by decide +kernel
theorem dX12_readsStore_55 : decode cX12_readsStore 55 = .ok (.aload_n 0, 1) := by decide +kernel
theorem dX12_readsStore_56 : decode cX12_readsStore 56 = .ok (.aload_n 0, 1) := by decide +kernel
theorem dX12_readsStore_57 : decode cX12_readsStore 57 = .ok (.getfield 50, 3) := by decide +kernel
theorem dX12_readsStore_60 : decode cX12_readsStore 60 = .ok (.invokevirtual 320, 3) := by decide +kernel
theorem dX12_readsStore_63 : decode cX12_readsStore 63 = .ok (.aload_n 0, 1) := by decide +kernel
theorem dX12_readsStore_64 : decode cX12_readsStore 64 = .ok (.iload_n 1, 1) := by decide +kernel
theorem dX12_readsStore_65 : decode cX12_readsStore 65 = .ok (.aload_n 0, 1) := by decide +kernel
theorem dX12_readsStore_66 : decode cX12_readsStore 66 = .ok (.getfield 50, 3) := by decide +kernel
theorem dX12_readsStore_69 : decode cX12_readsStore 69 = .ok (.invokevirtual 324, 3) := by decide +kernel
theorem dX12_readsStore_72 : decode cX12_readsStore 72 = .ok (.iload 6, 2) := by decide +kernel
theorem dX12_readsStore_74 : decode cX12_readsStore 74 = .ok (.iconst 1, 1) := by decide +kernel
theorem dX12_readsStore_75 : decode cX12_readsStore 75 = .ok (.iadd, 1) := by decide +kernel
theorem dX12_readsStore_76 : decode cX12_readsStore 76 = .ok (.istore 7, 2) := by decide +kernel
theorem dX12_readsStore_78 : decode cX12_readsStore 78 = .ok (.iload 7, 2) := by decide +kernel
theorem dX12_readsStore_80 : decode cX12_readsStore 80 = .ok (.iload_n 2, 1) := by decide +kernel
theorem dX12_readsStore_81 : decode cX12_readsStore 81 = .ok (.iload_n 3, 1) := by decide +kernel
theorem dX12_readsStore_82 : decode cX12_readsStore 82 = .ok (.invokestatic 310, 3) := by decide +kernel
theorem dX12_readsStore_85 : decode cX12_readsStore 85 = .ok (.if_icmp .ge 48, 3) := by decide +kernel
theorem dX12_readsStore_88 : decode cX12_readsStore 88 = .ok (.aload_n 0, 1) := by decide +kernel
theorem dX12_readsStore_89 : decode cX12_readsStore 89 = .ok (.getfield 56, 3) := by decide +kernel
theorem dX12_readsStore_92 : decode cX12_readsStore 92 = .ok (.iload_n 2, 1) := by decide +kernel
theorem dX12_readsStore_93 : decode cX12_readsStore 93 = .ok (.iload 7, 2) := by decide +kernel
theorem dX12_readsStore_95 : decode cX12_readsStore 95 = .ok (.iastore, 1) := by decide +kernel
theorem dX12_readsStore_96 : decode cX12_readsStore 96 = .ok (.aload_n 0, 1) := by decide +kernel
theorem dX12_readsStore_97 : decode cX12_readsStore 97 = .ok (.aload_n 0, 1) := by decide +kernel
theorem dX12_readsStore_98 : decode cX12_readsStore 98 = .ok (.getfield 53, 3) := by decide +kernel
theorem dX12_readsStore_101 : decode cX12_readsStore 101 = .ok (.invokevirtual 320, 3) := by decide +kernel
theorem dX12_readsStore_104 : decode cX12_readsStore 104 = .ok (.aload_n 0, 1) := by decide +kernel
theorem dX12_readsStore_105 : decode cX12_readsStore 105 = .ok (.iload_n 1, 1) := by decide +kernel
theorem dX12_readsStore_106 : decode cX12_readsStore 106 = .ok (.aload_n 0, 1) := by decide +kernel
theorem dX12_readsStore_107 : decode cX12_readsStore 107 = .ok (.getfield 53, 3) := by decide +kernel
theorem dX12_readsStore_110 : decode cX12_readsStore 110 = .ok (.invokevirtual 324, 3) := by decide +kernel
theorem dX12_readsStore_113 : decode cX12_readsStore 113 = .ok (.aload_n 0, 1) := by decide +kernel
theorem dX12_readsStore_114 : decode cX12_readsStore 114 = .ok (.iload_n 2, 1) := by decide +kernel
theorem dX12_readsStore_115 : decode cX12_readsStore 115 = .ok (.iload 6, 2) := by decide +kernel
theorem dX12_readsStore_117 : decode cX12_readsStore 117 = .ok (.iload 7, 2) := by decide +kernel
theorem dX12_readsStore_119 : decode cX12_readsStore 119 = .ok (.invokevirtual 328, 3) := by decide +kernel
theorem dX12_readsStore_122 : decode cX12_readsStore 122 = .ok (.ifCond .eq 5, 3) := by decide +kernel
theorem dX12_readsStore_125 : decode cX12_readsStore 125 = .ok (.iconst 1, 1) := by decide +kernel
theorem dX12_readsStore_126 : decode cX12_readsStore 126 = .ok (.ireturn, 1) := by decide +kernel
theorem dX12_readsStore_127 : decode cX12_readsStore 127 = .ok (.iinc 7 1, 3) := by decide +kernel
theorem dX12_readsStore_130 : decode cX12_readsStore 130 = .ok (.goto (-52), 3) := by decide +kernel
theorem dX12_readsStore_133 : decode cX12_readsStore 133 = .ok (.iinc 5 1, 3) := by decide +kernel
theorem dX12_readsStore_136 : decode cX12_readsStore 136 = .ok (.goto (-103), 3) := by decide +kernel
theorem dX12_readsStore_139 : decode cX12_readsStore 139 = .ok (.aload_n 0, 1) := by decide +kernel
theorem dX12_readsStore_140 : decode cX12_readsStore 140 = .ok (.dup, 1) := by decide +kernel
theorem dX12_readsStore_141 : decode cX12_readsStore 141 = .ok (.getfield 293, 3) := by decide +kernel
theorem dX12_readsStore_144 : decode cX12_readsStore 144 = .ok (.iconst 1, 1) := by decide +kernel
theorem dX12_readsStore_145 : decode cX12_readsStore 145 = .ok (.iadd, 1) := by decide +kernel
theorem dX12_readsStore_146 : decode cX12_readsStore 146 = .ok (.putfield 293, 3) := by decide +kernel
theorem dX12_readsStore_149 : decode cX12_readsStore 149 = .ok (.goto (-138), 3) := by decide +kernel
theorem dX12_readsStore_152 : decode cX12_readsStore 152 = .ok (.iconst 0, 1) := by decide +kernel
theorem dX12_readsStore_153 : decode cX12_readsStore 153 = .ok (.ireturn, 1) := by decide +kernel
theorem dX12_storeBit_0 : decode cX12_storeBit 0 = .ok (.iload_n 0, 1) := by decide +kernel
theorem dX12_storeBit_1 : decode cX12_storeBit 1 = .ok (.iconst 5, 1) := by decide +kernel
theorem dX12_storeBit_2 : decode cX12_storeBit 2 = .ok (.if_icmp .ge 9, 3) := by decide +kernel
theorem dX12_storeBit_5 : decode cX12_storeBit 5 = .ok (.iconst 1, 1) := by decide +kernel
theorem dX12_storeBit_6 : decode cX12_storeBit 6 = .ok (.iload_n 0, 1) := by decide +kernel
theorem dX12_storeBit_7 : decode cX12_storeBit 7 = .ok (.ishl, 1) := by decide +kernel
theorem dX12_storeBit_8 : decode cX12_storeBit 8 = .ok (.goto 5, 3) := by decide +kernel
theorem dX12_storeBit_11 : decode cX12_storeBit 11 = .ok (.bipush 32, 2) := by decide +kernel
theorem dX12_storeBit_13 : decode cX12_storeBit 13 = .ok (.ireturn, 1) := by decide +kernel
theorem dX12_reads_0 : decode cX12_reads 0 = .ok (.aload_n 0, 1) := by decide +kernel
theorem dX12_reads_1 : decode cX12_reads 1 = .ok (.iload_n 1, 1) := by decide +kernel
theorem dX12_reads_2 : decode cX12_reads 2 = .ok (.invokevirtual 271, 3) := by decide +kernel
theorem dX12_reads_5 : decode cX12_reads 5 = .ok (.ifCond .ne 5, 3) := by decide +kernel
theorem dX12_reads_8 : decode cX12_reads 8 = .ok (.iconst (-1), 1) := by decide +kernel
theorem dX12_reads_9 : decode cX12_reads 9 = .ok (.ireturn, 1) := by decide +kernel
theorem dX12_reads_10 : decode cX12_reads 10 = .ok (.aload_n 0, 1) := by decide +kernel
theorem dX12_reads_11 : decode cX12_reads 11 = .ok (.getfield 41, 3) := by decide +kernel
theorem dX12_reads_14 : decode cX12_reads 14 = .ok (.iload_n 1, 1) := by decide +kernel
theorem dX12_reads_15 : decode cX12_reads 15 = .ok (.iaload, 1) := by decide +kernel
theorem dX12_reads_16 : decode cX12_reads 16 = .ok (.ifCond .ge 89, 3) := by decide +kernel
theorem dX12_reads_19 : decode cX12_reads 19 = .ok (.aload_n 0, 1) := by decide +kernel
theorem dX12_reads_20 : decode cX12_reads 20 = .ok (.iload_n 1, 1) := by decide +kernel
theorem dX12_reads_21 : decode cX12_reads 21 = .ok (.invokevirtual 332, 3) := by decide +kernel
theorem dX12_reads_24 : decode cX12_reads 24 = .ok (.istore_n 2, 1) := by decide +kernel
theorem dX12_reads_25 : decode cX12_reads 25 = .ok (.iconst 0, 1) := by decide +kernel
theorem dX12_reads_26 : decode cX12_reads 26 = .ok (.istore_n 3, 1) := by decide +kernel
theorem dX12_reads_27 : decode cX12_reads 27 = .ok (.iconst 0, 1) := by decide +kernel
theorem dX12_reads_28 : decode cX12_reads 28 = .ok (.istore 4, 2) := by decide +kernel
theorem dX12_reads_30 : decode cX12_reads 30 = .ok (.iload 4, 2) := by decide +kernel
theorem dX12_reads_32 : decode cX12_reads 32 = .ok (.bipush 9, 2) := by decide +kernel
theorem dX12_reads_34 : decode cX12_reads 34 = .ok (.if_icmp .ge 64, 3) := by decide +kernel
theorem dX12_reads_37 : decode cX12_reads 37 = .ok (.iload 4, 2) := by decide +kernel
theorem dX12_reads_39 : decode cX12_reads 39 = .ok (.iload_n 2, 1) := by decide +kernel
theorem dX12_reads_40 : decode cX12_reads 40 = .ok (.invokestatic 310, 3) := by decide +kernel
theorem dX12_reads_43 : decode cX12_reads 43 = .ok (.iconst 1, 1) := by decide +kernel
theorem dX12_reads_44 : decode cX12_reads 44 = .ok (.if_icmp .le 28, 3) := by decide +kernel
theorem dX12_reads_47 : decode cX12_reads 47 = .ok (.iload_n 3, 1) := by decide +kernel
theorem dX12_reads_48 : decode cX12_reads 48 = .ok (.iload 4, 2) := by decide +kernel
theorem dX12_reads_50 : decode cX12_reads 50 = .ok (.invokestatic 335, 3) := by decide +kernel
theorem dX12_reads_53 : decode cX12_reads 53 = .ok (.iand, 1) := by decide +kernel
theorem dX12_reads_54 : decode cX12_reads 54 = .ok (.ifCond .ne 18, 3) := by decide +kernel
theorem dX12_reads_57 : decode cX12_reads 57 = .ok (.aload_n 0, 1) := by decide +kernel
theorem dX12_reads_58 : decode cX12_reads 58 = .ok (.iload_n 1, 1) := by decide +kernel
theorem dX12_reads_59 : decode cX12_reads 59 = .ok (.iload 4, 2) := by decide +kernel
theorem dX12_reads_61 : decode cX12_reads 61 = .ok (.iload_n 2, 1) := by decide +kernel
theorem dX12_reads_62 : decode cX12_reads 62 = .ok (.invokevirtual 338, 3) := by decide +kernel
theorem dX12_reads_65 : decode cX12_reads 65 = .ok (.ifCond .eq 7, 3) := by decide +kernel
theorem dX12_reads_68 : decode cX12_reads 68 = .ok (.iconst 1, 1) := by decide +kernel
theorem dX12_reads_69 : decode cX12_reads 69 = .ok (.goto 4, 3) := by decide +kernel
theorem dX12_reads_72 : decode cX12_reads 72 = .ok (.iconst 0, 1) := by decide +kernel
theorem dX12_reads_73 : decode cX12_reads 73 = .ok (.istore 5, 2) := by decide +kernel
theorem dX12_reads_75 : decode cX12_reads 75 = .ok (.iload_n 3, 1) := by decide +kernel
theorem dX12_reads_76 : decode cX12_reads 76 = .ok (.iload 5, 2) := by decide +kernel
theorem dX12_reads_78 : decode cX12_reads 78 = .ok (.ifCond .eq 11, 3) := by decide +kernel
theorem dX12_reads_81 : decode cX12_reads 81 = .ok (.iload 4, 2) := by decide +kernel
theorem dX12_reads_83 : decode cX12_reads 83 = .ok (.invokestatic 335, 3) := by decide +kernel
theorem dX12_reads_86 : decode cX12_reads 86 = .ok (.goto 4, 3) := by decide +kernel
theorem dX12_reads_89 : decode cX12_reads 89 = .ok (.iconst 0, 1) := by decide +kernel
theorem dX12_reads_90 : decode cX12_reads 90 = .ok (.ior, 1) := by decide +kernel
theorem dX12_reads_91 : decode cX12_reads 91 = .ok (.istore_n 3, 1) := by decide +kernel
theorem dX12_reads_92 : decode cX12_reads 92 = .ok (.iinc 4 1, 3) := by decide +kernel
theorem dX12_reads_95 : decode cX12_reads 95 = .ok (.goto (-65), 3) := by decide +kernel
theorem dX12_reads_98 : decode cX12_reads 98 = .ok (.aload_n 0, 1) := by decide +kernel
theorem dX12_reads_99 : decode cX12_reads 99 = .ok (.getfield 41, 3) := by decide +kernel
theorem dX12_reads_102 : decode cX12_reads 102 = .ok (.iload_n 1, 1) := by decide +kernel
theorem dX12_reads_103 : decode cX12_reads 103 = .ok (.iload_n 3, 1) := by decide +kernel
theorem dX12_reads_104 : decode cX12_reads 104 = .ok (.iastore, 1) := by decide +kernel
theorem dX12_reads_105 : decode cX12_reads 105 = .ok (.aload_n 0, 1) := by decide +kernel
theorem dX12_reads_106 : decode cX12_reads 106 = .ok (.getfield 41, 3) := by decide +kernel
theorem dX12_reads_109 : decode cX12_reads 109 = .ok (.iload_n 1, 1) := by decide +kernel
theorem dX12_reads_110 : decode cX12_reads 110 = .ok (.iaload, 1) := by decide +kernel
theorem dX12_reads_111 : decode cX12_reads 111 = .ok (.ireturn, 1) := by decide +kernel
theorem dX12_writes_0 : decode cX12_writes 0 = .ok (.aload_n 0, 1) := by decide +kernel
theorem dX12_writes_1 : decode cX12_writes 1 = .ok (.iload_n 1, 1) := by decide +kernel
theorem dX12_writes_2 : decode cX12_writes 2 = .ok (.invokevirtual 271, 3) := by decide +kernel
theorem dX12_writes_5 : decode cX12_writes 5 = .ok (.ifCond .ne 5, 3) := by decide +kernel
theorem dX12_writes_8 : decode cX12_writes 8 = .ok (.iconst (-1), 1) := by decide +kernel
theorem dX12_writes_9 : decode cX12_writes 9 = .ok (.ireturn, 1) := by decide +kernel
theorem dX12_writes_10 : decode cX12_writes 10 = .ok (.aload_n 0, 1) := by decide +kernel
theorem dX12_writes_11 : decode cX12_writes 11 = .ok (.getfield 44, 3) := by decide +kernel
theorem dX12_writes_14 : decode cX12_writes 14 = .ok (.iload_n 1, 1) := by decide +kernel
theorem dX12_writes_15 : decode cX12_writes 15 = .ok (.iaload, 1) := by decide +kernel
theorem dX12_writes_16 : decode cX12_writes 16 = .ok (.ifCond .ge 146, 3) := by decide +kernel
theorem dX12_writes_19 : decode cX12_writes 19 = .ok (.aload_n 0, 1) := by decide +kernel
theorem dX12_writes_20 : decode cX12_writes 20 = .ok (.iload_n 1, 1) := by decide +kernel
theorem dX12_writes_21 : decode cX12_writes 21 = .ok (.invokevirtual 332, 3) := by decide +kernel
theorem dX12_writes_24 : decode cX12_writes 24 = .ok (.istore_n 2, 1) := by decide +kernel
theorem dX12_writes_25 : decode cX12_writes 25 = .ok (.iconst 0, 1) := by decide +kernel
theorem dX12_writes_26 : decode cX12_writes 26 = .ok (.istore_n 3, 1) := by decide +kernel
theorem dX12_writes_27 : decode cX12_writes 27 = .ok (.iload_n 2, 1) := by decide +kernel
theorem dX12_writes_28 : decode cX12_writes 28 = .ok (.invokestatic 313, 3) := by decide +kernel
theorem dX12_writes_31 : decode cX12_writes 31 = .ok (.istore 4, 2) := by decide +kernel
theorem dX12_writes_33 : decode cX12_writes 33 = .ok (.aload_n 0, 1) := by decide +kernel
theorem dX12_writes_34 : decode cX12_writes 34 = .ok (.iconst 0, 1) := by decide +kernel
theorem dX12_writes_35 : decode cX12_writes 35 = .ok (.putfield 293, 3) := by decide +kernel
theorem dX12_writes_38 : decode cX12_writes 38 = .ok (.aload_n 0, 1) := by decide +kernel
theorem dX12_writes_39 : decode cX12_writes 39 = .ok (.getfield 293, 3) := by decide +kernel
theorem dX12_writes_42 : decode cX12_writes 42 = .ok (.iload_n 2, 1) := by decide +kernel
theorem dX12_writes_43 : decode cX12_writes 43 = .ok (.bipush 64, 2) := by decide +kernel
theorem dX12_writes_45 : decode cX12_writes 45 = .ok (.iand, 1) := by decide +kernel
theorem dX12_writes_46 : decode cX12_writes 46 = .ok (.ifCond .eq 7, 3) := by decide +kernel
theorem dX12_writes_49 : decode cX12_writes 49 = .ok (.iconst 4, 1) := by decide +kernel
theorem dX12_writes_50 : decode cX12_writes 50 = .ok (.goto 4, 3) := by decide +kernel
theorem dX12_writes_53 : decode cX12_writes 53 = .ok (.iconst 1, 1) := by decide +kernel
theorem dX12_writes_54 : decode cX12_writes 54 = .ok (.if_icmp .ge 101, 3) := by decide +kernel
theorem dX12_writes_57 : decode cX12_writes 57 = .ok (.iconst 0, 1) := by decide +kernel
theorem dX12_writes_58 : decode cX12_writes 58 = .ok (.istore 5, 2) := by decide +kernel
theorem dX12_writes_60 : decode cX12_writes 60 = .ok (.iload 5, 2) := by decide +kernel
theorem dX12_writes_62 : decode cX12_writes 62 = .ok (.iload 4, 2) := by decide +kernel
theorem dX12_writes_64 : decode cX12_writes 64 = .ok (.if_icmp .ge 78, 3) := by decide +kernel
theorem dX12_writes_67 : decode cX12_writes 67 = .ok (.aload_n 0, 1) := by decide +kernel
theorem dX12_writes_68 : decode cX12_writes 68 = .ok (.iload 5, 2) := by decide +kernel
theorem dX12_writes_70 : decode cX12_writes 70 = .ok (.iload_n 2, 1) := by decide +kernel
theorem dX12_writes_71 : decode cX12_writes 71 = .ok (.invokevirtual 316, 3) := by decide +kernel
theorem dX12_writes_74 : decode cX12_writes 74 = .ok (.aload_n 0, 1) := by decide +kernel
theorem dX12_writes_75 : decode cX12_writes 75 = .ok (.aload_n 0, 1) := by decide +kernel
theorem dX12_writes_76 : decode cX12_writes 76 = .ok (.getfield 50, 3) := by decide +kernel
theorem dX12_writes_79 : decode cX12_writes 79 = .ok (.invokevirtual 320, 3) := by decide +kernel
theorem dX12_writes_82 : decode cX12_writes 82 = .ok (.aload_n 0, 1) := by decide +kernel
theorem dX12_writes_83 : decode cX12_writes 83 = .ok (.iload_n 1, 1) := by decide +kernel
theorem dX12_writes_84 : decode cX12_writes 84 = .ok (.aload_n 0, 1) := by decide +kernel
theorem dX12_writes_85 : decode cX12_writes 85 = .ok (.getfield 50, 3) := by decide +kernel
theorem dX12_writes_88 : decode cX12_writes 88 = .ok (.invokevirtual 324, 3) := by decide +kernel
theorem dX12_writes_91 : decode cX12_writes 91 = .ok (.iconst 0, 1) := by decide +kernel
theorem dX12_writes_92 : decode cX12_writes 92 = .ok (.istore 6, 2) := by decide +kernel
theorem dX12_writes_94 : decode cX12_writes 94 = .ok (.iload 6, 2) := by decide +kernel
theorem dX12_writes_96 : decode cX12_writes 96 = .ok (.bipush 9, 2) := by decide +kernel
theorem dX12_writes_98 : decode cX12_writes 98 = .ok (.if_icmp .ge 38, 3) := by decide +kernel
theorem dX12_writes_101 : decode cX12_writes 101 = .ok (.iload_n 3, 1) := by decide +kernel
theorem dX12_writes_102 : decode cX12_writes 102 = .ok (.aload_n 0, 1) := by decide +kernel
theorem dX12_writes_103 : decode cX12_writes 103 = .ok (.getfield 50, 3) := by decide +kernel
theorem dX12_writes_106 : decode cX12_writes 106 = .ok (.iload 6, 2) := by decide +kernel
theorem dX12_writes_108 : decode cX12_writes 108 = .ok (.iaload, 1) := by decide +kernel
theorem dX12_writes_109 : decode cX12_writes 109 = .ok (.aload_n 0, 1) := by decide +kernel
theorem dX12_writes_110 : decode cX12_writes 110 = .ok (.getfield 56, 3) := by decide +kernel
theorem dX12_writes_113 : decode cX12_writes 113 = .ok (.iload 6, 2) := by decide +kernel
theorem dX12_writes_115 : decode cX12_writes 115 = .ok (.iaload, 1) := by decide +kernel
theorem dX12_writes_116 : decode cX12_writes 116 = .ok (.if_icmp .eq 11, 3) := by decide +kernel
theorem dX12_writes_119 : decode cX12_writes 119 = .ok (.iload 6, 2) := by decide +kernel
theorem dX12_writes_121 : decode cX12_writes 121 = .ok (.invokestatic 335, 3) := by decide +kernel
theorem dX12_writes_124 : decode cX12_writes 124 = .ok (.goto 4, 3) := by decide +kernel
theorem dX12_writes_127 : decode cX12_writes 127 = .ok (.iconst 0, 1) := by decide +kernel
theorem dX12_writes_128 : decode cX12_writes 128 = .ok (.ior, 1) := by decide +kernel
theorem dX12_writes_129 : decode cX12_writes 129 = .ok (.istore_n 3, 1) := by decide +kernel
theorem dX12_writes_130 : decode cX12_writes 130 = .ok (.iinc 6 1, 3) := by decide +kernel
theorem dX12_writes_133 : decode cX12_writes 133 = .ok (.goto (-39), 3) := by decide +kernel
theorem dX12_writes_136 : decode cX12_writes 136 = .ok (.iinc 5 1, 3) := by decide +kernel
theorem dX12_writes_139 : decode cX12_writes 139 = .ok (.goto (-79), 3) := by decide +kernel
theorem dX12_writes_142 : decode cX12_writes 142 = .ok (.aload_n 0, 1) := by decide +kernel
theorem dX12_writes_143 : decode cX12_writes 143 = .ok (.dup, 1) := by decide +kernel
theorem dX12_writes_144 : decode cX12_writes 144 = .ok (.getfield 293, 3) := by decide +kernel
theorem dX12_writes_147 : decode cX12_writes 147 = .ok (.iconst 1, 1) := by decide +kernel
theorem dX12_writes_148 : decode cX12_writes 148 = .ok (.iadd, 1) := by decide +kernel
theorem dX12_writes_149 : decode cX12_writes 149 = .ok (.putfield 293, 3) := by decide +kernel
theorem dX12_writes_152 : decode cX12_writes 152 = .ok (.goto (-114), 3) := by decide +kernel
theorem dX12_writes_155 : decode cX12_writes 155 = .ok (.aload_n 0, 1) := by decide +kernel
theorem dX12_writes_156 : decode cX12_writes 156 = .ok (.getfield 44, 3) := by decide +kernel
theorem dX12_writes_159 : decode cX12_writes 159 = .ok (.iload_n 1, 1) := by decide +kernel
theorem dX12_writes_160 : decode cX12_writes 160 = .ok (.iload_n 3, 1) := by decide +kernel
theorem dX12_writes_161 : decode cX12_writes 161 = .ok (.iastore, 1) := by decide +kernel
theorem dX12_writes_162 : decode cX12_writes 162 = .ok (.aload_n 0, 1) := by decide +kernel
theorem dX12_writes_163 : decode cX12_writes 163 = .ok (.getfield 44, 3) := by decide +kernel
theorem dX12_writes_166 : decode cX12_writes 166 = .ok (.iload_n 1, 1) := by decide +kernel
theorem dX12_writes_167 : decode cX12_writes 167 = .ok (.iaload, 1) := by decide +kernel
theorem dX12_writes_168 : decode cX12_writes 168 = .ok (.ireturn, 1) := by decide +kernel
theorem dX12_like_0 : decode cX12_like 0 = .ok (.aload_n 0, 1) := by decide +kernel
theorem dX12_like_1 : decode cX12_like 1 = .ok (.iload_n 1, 1) := by decide +kernel
theorem dX12_like_2 : decode cX12_like 2 = .ok (.invokevirtual 271, 3) := by decide +kernel
theorem dX12_like_5 : decode cX12_like 5 = .ok (.ifCond .eq 11, 3) := by decide +kernel
theorem dX12_like_8 : decode cX12_like 8 = .ok (.aload_n 0, 1) := by decide +kernel
theorem dX12_like_9 : decode cX12_like 9 = .ok (.iload_n 2, 1) := by decide +kernel
theorem dX12_like_10 : decode cX12_like 10 = .ok (.invokevirtual 271, 3) := by decide +kernel
theorem dX12_like_13 : decode cX12_like 13 = .ok (.ifCond .ne 5, 3) := by decide +kernel
theorem dX12_like_16 : decode cX12_like 16 = .ok (.iconst (-1), 1) := by decide +kernel
theorem dX12_like_17 : decode cX12_like 17 = .ok (.ireturn, 1) := by decide +kernel
theorem dX12_like_18 : decode cX12_like 18 = .ok (.aload_n 0, 1) := by decide +kernel
theorem dX12_like_19 : decode cX12_like 19 = .ok (.iload_n 1, 1) := by decide +kernel
theorem dX12_like_20 : decode cX12_like 20 = .ok (.invokevirtual 332, 3) := by decide +kernel
theorem dX12_like_23 : decode cX12_like 23 = .ok (.aload_n 0, 1) := by decide +kernel
theorem dX12_like_24 : decode cX12_like 24 = .ok (.iload_n 2, 1) := by decide +kernel
theorem dX12_like_25 : decode cX12_like 25 = .ok (.invokevirtual 332, 3) := by decide +kernel
theorem dX12_like_28 : decode cX12_like 28 = .ok (.ior, 1) := by decide +kernel
theorem dX12_like_29 : decode cX12_like 29 = .ok (.istore_n 3, 1) := by decide +kernel
theorem dX12_like_30 : decode cX12_like 30 = .ok (.iload_n 3, 1) := by decide +kernel
theorem dX12_like_31 : decode cX12_like 31 = .ok (.invokestatic 313, 3) := by decide +kernel
theorem dX12_like_34 : decode cX12_like 34 = .ok (.istore 4, 2) := by decide +kernel
theorem dX12_like_36 : decode cX12_like 36 = .ok (.aload_n 0, 1) := by decide +kernel
theorem dX12_like_37 : decode cX12_like 37 = .ok (.iconst 0, 1) := by decide +kernel
theorem dX12_like_38 : decode cX12_like 38 = .ok (.putfield 293, 3) := by decide +kernel
theorem dX12_like_41 : decode cX12_like 41 = .ok (.aload_n 0, 1) := by decide +kernel
theorem dX12_like_42 : decode cX12_like 42 = .ok (.getfield 293, 3) := by decide +kernel
theorem dX12_like_45 : decode cX12_like 45 = .ok (.iload_n 3, 1) := by decide +kernel
theorem dX12_like_46 : decode cX12_like 46 = .ok (.bipush 64, 2) := by decide +kernel
theorem dX12_like_48 : decode cX12_like 48 = .ok (.iand, 1) := by decide +kernel
theorem dX12_like_49 : decode cX12_like 49 = .ok (.ifCond .eq 7, 3) := by decide +kernel
theorem dX12_like_52 : decode cX12_like 52 = .ok (.iconst 4, 1) := by decide +kernel
theorem dX12_like_53 : decode cX12_like 53 = .ok (.goto 4, 3) := by decide +kernel
theorem dX12_like_56 : decode cX12_like 56 = .ok (.iconst 1, 1) := by decide +kernel
theorem dX12_like_57 : decode cX12_like 57 = .ok (.if_icmp .ge 108, 3) := by decide +kernel
theorem dX12_like_60 : decode cX12_like 60 = .ok (.iconst 0, 1) := by decide +kernel
theorem dX12_like_61 : decode cX12_like 61 = .ok (.istore 5, 2) := by decide +kernel
theorem dX12_like_63 : decode cX12_like 63 = .ok (.iload 5, 2) := by decide +kernel
theorem dX12_like_65 : decode cX12_like 65 = .ok (.iload 4, 2) := by decide +kernel
theorem dX12_like_67 : decode cX12_like 67 = .ok (.if_icmp .ge 85, 3) := by decide +kernel
theorem dX12_like_70 : decode cX12_like 70 = .ok (.aload_n 0, 1) := by decide +kernel
theorem dX12_like_71 : decode cX12_like 71 = .ok (.iload 5, 2) := by decide +kernel
theorem dX12_like_73 : decode cX12_like 73 = .ok (.iload_n 3, 1) := by decide +kernel
theorem dX12_like_74 : decode cX12_like 74 = .ok (.invokevirtual 316, 3) := by decide +kernel
theorem dX12_like_77 : decode cX12_like 77 = .ok (.aload_n 0, 1) := by decide +kernel
theorem dX12_like_78 : decode cX12_like 78 = .ok (.aload_n 0, 1) := by decide +kernel
theorem dX12_like_79 : decode cX12_like 79 = .ok (.getfield 50, 3) := by decide +kernel
theorem dX12_like_82 : decode cX12_like 82 = .ok (.invokevirtual 320, 3) := by decide +kernel
theorem dX12_like_85 : decode cX12_like 85 = .ok (.aload_n 0, 1) := by decide +kernel
theorem dX12_like_86 : decode cX12_like 86 = .ok (.aload_n 0, 1) := by decide +kernel
theorem dX12_like_87 : decode cX12_like 87 = .ok (.getfield 53, 3) := by decide +kernel
theorem dX12_like_90 : decode cX12_like 90 = .ok (.invokevirtual 320, 3) := by decide +kernel
theorem dX12_like_93 : decode cX12_like 93 = .ok (.aload_n 0, 1) := by decide +kernel
theorem dX12_like_94 : decode cX12_like 94 = .ok (.iload_n 1, 1) := by decide +kernel
theorem dX12_like_95 : decode cX12_like 95 = .ok (.aload_n 0, 1) := by decide +kernel
theorem dX12_like_96 : decode cX12_like 96 = .ok (.getfield 50, 3) := by decide +kernel
theorem dX12_like_99 : decode cX12_like 99 = .ok (.invokevirtual 324, 3) := by decide +kernel
theorem dX12_like_102 : decode cX12_like 102 = .ok (.aload_n 0, 1) := by decide +kernel
theorem dX12_like_103 : decode cX12_like 103 = .ok (.iload_n 2, 1) := by decide +kernel
theorem dX12_like_104 : decode cX12_like 104 = .ok (.aload_n 0, 1) := by decide +kernel
theorem dX12_like_105 : decode cX12_like 105 = .ok (.getfield 53, 3) := by decide +kernel
theorem dX12_like_108 : decode cX12_like 108 = .ok (.invokevirtual 324, 3) := by decide +kernel
theorem dX12_like_111 : decode cX12_like 111 = .ok (.iconst 0, 1) := by decide +kernel
theorem dX12_like_112 : decode cX12_like 112 = .ok (.istore 6, 2) := by decide +kernel
theorem dX12_like_114 : decode cX12_like 114 = .ok (.iload 6, 2) := by decide +kernel
theorem dX12_like_116 : decode cX12_like 116 = .ok (.bipush 9, 2) := by decide +kernel
theorem dX12_like_118 : decode cX12_like 118 = .ok (.if_icmp .ge 28, 3) := by decide +kernel
theorem dX12_like_121 : decode cX12_like 121 = .ok (.aload_n 0, 1) := by decide +kernel
theorem dX12_like_122 : decode cX12_like 122 = .ok (.getfield 50, 3) := by decide +kernel
theorem dX12_like_125 : decode cX12_like 125 = .ok (.iload 6, 2) := by decide +kernel
theorem dX12_like_127 : decode cX12_like 127 = .ok (.iaload, 1) := by decide +kernel
theorem dX12_like_128 : decode cX12_like 128 = .ok (.aload_n 0, 1) := by decide +kernel
theorem dX12_like_129 : decode cX12_like 129 = .ok (.getfield 53, 3) := by decide +kernel
theorem dX12_like_132 : decode cX12_like 132 = .ok (.iload 6, 2) := by decide +kernel
theorem dX12_like_134 : decode cX12_like 134 = .ok (.iaload, 1) := by decide +kernel
theorem dX12_like_135 : decode cX12_like 135 = .ok (.if_icmp .eq 5, 3) := by decide +kernel
theorem dX12_like_138 : decode cX12_like 138 = .ok (.iconst 0, 1) := by decide +kernel
theorem dX12_like_139 : decode cX12_like 139 = .ok (.ireturn, 1) := by decide +kernel
theorem dX12_like_140 : decode cX12_like 140 = .ok (.iinc 6 1, 3) := by decide +kernel
theorem dX12_like_143 : decode cX12_like 143 = .ok (.goto (-29), 3) := by decide +kernel
theorem dX12_like_146 : decode cX12_like 146 = .ok (.iinc 5 1, 3) := by decide +kernel
theorem dX12_like_149 : decode cX12_like 149 = .ok (.goto (-86), 3) := by decide +kernel
theorem dX12_like_152 : decode cX12_like 152 = .ok (.aload_n 0, 1) := by decide +kernel
theorem dX12_like_153 : decode cX12_like 153 = .ok (.dup, 1) := by decide +kernel
theorem dX12_like_154 : decode cX12_like 154 = .ok (.getfield 293, 3) := by decide +kernel
theorem dX12_like_157 : decode cX12_like 157 = .ok (.iconst 1, 1) := by decide +kernel
theorem dX12_like_158 : decode cX12_like 158 = .ok (.iadd, 1) := by decide +kernel
theorem dX12_like_159 : decode cX12_like 159 = .ok (.putfield 293, 3) := by decide +kernel
theorem dX12_like_162 : decode cX12_like 162 = .ok (.goto (-121), 3) := by decide +kernel
theorem dX12_like_165 : decode cX12_like 165 = .ok (.iconst 1, 1) := by decide +kernel
theorem dX12_like_166 : decode cX12_like 166 = .ok (.ireturn, 1) := by decide +kernel
theorem dX12_clearStepper_0 : decode cX12_clearStepper 0 = .ok (.iconst 0, 1) := by decide +kernel
theorem dX12_clearStepper_1 : decode cX12_clearStepper 1 = .ok (.istore_n 1, 1) := by decide +kernel
theorem dX12_clearStepper_2 : decode cX12_clearStepper 2 = .ok (.iload_n 1, 1) := by decide +kernel
theorem dX12_clearStepper_3 : decode cX12_clearStepper 3 = .ok (.sipush 336, 3) := by decide +kernel
theorem dX12_clearStepper_6 : decode cX12_clearStepper 6 = .ok (.if_icmp .ge 36, 3) := by decide +kernel
theorem dX12_clearStepper_9 : decode cX12_clearStepper 9 = .ok (.aload_n 0, 1) := by decide +kernel
theorem dX12_clearStepper_10 : decode cX12_clearStepper 10 = .ok (.getfield 62, 3) := by decide +kernel
theorem dX12_clearStepper_13 : decode cX12_clearStepper 13 = .ok (.iload_n 1, 1) := by decide +kernel
theorem dX12_clearStepper_14 : decode cX12_clearStepper 14 = .ok (.iload_n 1, 1) := by decide +kernel
theorem dX12_clearStepper_15 : decode cX12_clearStepper 15 = .ok (.sipush 272, 3) := by decide +kernel
theorem dX12_clearStepper_18 : decode cX12_clearStepper 18 = .ok (.if_icmp .lt 16, 3) := by decide +kernel
theorem dX12_clearStepper_21 : decode cX12_clearStepper 21 = .ok (.iload_n 1, 1) := by decide +kernel
theorem dX12_clearStepper_22 : decode cX12_clearStepper 22 = .ok (.sipush 272, 3) := by decide +kernel
theorem dX12_clearStepper_25 : decode cX12_clearStepper 25 = .ok (.isub, 1) := by decide +kernel
theorem dX12_clearStepper_26 : decode cX12_clearStepper 26 = .ok (.iconst 1, 1) := by decide +kernel
theorem dX12_clearStepper_27 : decode cX12_clearStepper 27 = .ok (.iadd, 1) := by decide +kernel
theorem dX12_clearStepper_28 : decode cX12_clearStepper 28 = .ok (.bipush 64, 2) := by decide +kernel
theorem dX12_clearStepper_30 : decode cX12_clearStepper 30 = .ok (.irem, 1) := by decide +kernel
theorem dX12_clearStepper_31 : decode cX12_clearStepper 31 = .ok (.goto 4, 3) := by decide +kernel
theorem dX12_clearStepper_34 : decode cX12_clearStepper 34 = .ok (.iconst 0, 1) := by decide +kernel
theorem dX12_clearStepper_35 : decode cX12_clearStepper 35 = .ok (.iastore, 1) := by decide +kernel
theorem dX12_clearStepper_36 : decode cX12_clearStepper 36 = .ok (.iinc 1 1, 3) := by decide +kernel
theorem dX12_clearStepper_39 : decode cX12_clearStepper 39 = .ok (.goto (-37), 3) := by decide +kernel
theorem dX12_clearStepper_42 : decode cX12_clearStepper 42 = .ok (.aload_n 0, 1) := by decide +kernel
theorem dX12_clearStepper_43 : decode cX12_clearStepper 43 = .ok (.iconst 0, 1) := by decide +kernel
theorem dX12_clearStepper_44 : decode cX12_clearStepper 44 = .ok (.putfield 341, 3) := by decide +kernel
theorem dX12_clearStepper_47 : decode cX12_clearStepper 47 = .ok (.return_, 1) := by decide +kernel
theorem dX12_put_0 : decode cX12_put 0 = .ok (.iload_n 1, 1) := by decide +kernel
theorem dX12_put_1 : decode cX12_put 1 = .ok (.i2l, 1) := by decide +kernel
theorem dX12_put_2 : decode cX12_put 2 = .ok (.lconst 0, 1) := by decide +kernel
theorem dX12_put_3 : decode cX12_put 3 = .ok (.ldc2_w 344, 3) := by decide +kernel
theorem dX12_put_6 : decode cX12_put 6 = .ok (.invokestatic 170, 3) := by decide +kernel
theorem dX12_put_9 : decode cX12_put 9 = .ok (.ifCond .eq 11, 3) := by decide +kernel
theorem dX12_put_12 : decode cX12_put 12 = .ok (.aload_n 0, 1) := by decide +kernel
theorem dX12_put_13 : decode cX12_put 13 = .ok (.iload_n 2, 1) := by decide +kernel
theorem dX12_put_14 : decode cX12_put 14 = .ok (.invokevirtual 280, 3) := by decide +kernel
theorem dX12_put_17 : decode cX12_put 17 = .ok (.ifCond .ne 5, 3) := by decide +kernel
theorem dX12_put_20 : decode cX12_put 20 = .ok (.iconst (-1), 1) := by decide +kernel
theorem dX12_put_21 : decode cX12_put 21 = .ok (.ireturn, 1) := by decide +kernel
theorem dX12_put_22 : decode cX12_put 22 = .ok (.aload_n 0, 1) := by decide +kernel
theorem dX12_put_23 : decode cX12_put 23 = .ok (.getfield 59, 3) := by decide +kernel
theorem dX12_put_26 : decode cX12_put 26 = .ok (.iload_n 1, 1) := by decide +kernel
theorem dX12_put_27 : decode cX12_put 27 = .ok (.iaload, 1) := by decide +kernel
theorem dX12_put_28 : decode cX12_put 28 = .ok (.istore_n 3, 1) := by decide +kernel
theorem dX12_put_29 : decode cX12_put 29 = .ok (.aload_n 0, 1) := by decide +kernel
theorem dX12_put_30 : decode cX12_put 30 = .ok (.getfield 59, 3) := by decide +kernel
theorem dX12_put_33 : decode cX12_put 33 = .ok (.iload_n 1, 1) := by decide +kernel
theorem dX12_put_34 : decode cX12_put 34 = .ok (.iload_n 2, 1) := by decide +kernel
theorem dX12_put_35 : decode cX12_put 35 = .ok (.iastore, 1) := by decide +kernel
theorem dX12_put_36 : decode cX12_put 36 = .ok (.iload_n 3, 1) := by decide +kernel
theorem dX12_put_37 : decode cX12_put 37 = .ok (.ireturn, 1) := by decide +kernel
theorem dX12_code_0 : decode cX12_code 0 = .ok (.iload_n 1, 1) := by decide +kernel
theorem dX12_code_1 : decode cX12_code 1 = .ok (.i2l, 1) := by decide +kernel
theorem dX12_code_2 : decode cX12_code 2 = .ok (.lconst 0, 1) := by decide +kernel
theorem dX12_code_3 : decode cX12_code 3 = .ok (.ldc2_w 344, 3) := by decide +kernel
theorem dX12_code_6 : decode cX12_code 6 = .ok (.invokestatic 170, 3) := by decide +kernel
theorem dX12_code_9 : decode cX12_code 9 = .ok (.ifCond .eq 12, 3) := by decide +kernel
theorem dX12_code_12 : decode cX12_code 12 = .ok (.aload_n 0, 1) := by decide +kernel
theorem dX12_code_13 : decode cX12_code 13 = .ok (.getfield 59, 3) := by decide +kernel
theorem dX12_code_16 : decode cX12_code 16 = .ok (.iload_n 1, 1) := by decide +kernel
theorem dX12_code_17 : decode cX12_code 17 = .ok (.iaload, 1) := by decide +kernel
theorem dX12_code_18 : decode cX12_code 18 = .ok (.goto 4, 3) := by decide +kernel
theorem dX12_code_21 : decode cX12_code 21 = .ok (.iconst (-1), 1) := by decide +kernel
theorem dX12_code_22 : decode cX12_code 22 = .ok (.ireturn, 1) := by decide +kernel
theorem dX12_placeOf_0 : decode cX12_placeOf 0 = .ok (.iload_n 1, 1) := by decide +kernel
theorem dX12_placeOf_1 : decode cX12_placeOf 1 = .ok (.tableswitch 86 0 3 #[31, 55, 78, 82], 31) := by decide +kernel
theorem dX12_placeOf_32 : decode cX12_placeOf 32 = .ok (.iload_n 2, 1) := by decide +kernel
theorem dX12_placeOf_33 : decode cX12_placeOf 33 = .ok (.i2l, 1) := by decide +kernel
theorem dX12_placeOf_34 : decode cX12_placeOf 34 = .ok (.lconst 0, 1) := by decide +kernel
theorem dX12_placeOf_35 : decode cX12_placeOf 35 = .ok (.iconst 1, 1) := by decide +kernel
theorem dX12_placeOf_36 : decode cX12_placeOf 36 = .ok (.aload_n 0, 1) := by decide +kernel
theorem dX12_placeOf_37 : decode cX12_placeOf 37 = .ok (.getfield 13, 3) := by decide +kernel
theorem dX12_placeOf_40 : decode cX12_placeOf 40 = .ok (.ishl, 1) := by decide +kernel
theorem dX12_placeOf_41 : decode cX12_placeOf 41 = .ok (.iconst 1, 1) := by decide +kernel
theorem dX12_placeOf_42 : decode cX12_placeOf 42 = .ok (.isub, 1) := by decide +kernel
theorem dX12_placeOf_43 : decode cX12_placeOf 43 = .ok (.i2l, 1) := by decide +kernel
theorem dX12_placeOf_44 : decode cX12_placeOf 44 = .ok (.invokestatic 170, 3) := by decide +kernel
theorem dX12_placeOf_47 : decode cX12_placeOf 47 = .ok (.ifCond .eq 7, 3) := by decide +kernel
theorem dX12_placeOf_50 : decode cX12_placeOf 50 = .ok (.iload_n 2, 1) := by decide +kernel
theorem dX12_placeOf_51 : decode cX12_placeOf 51 = .ok (.goto 4, 3) := by decide +kernel
theorem dX12_placeOf_54 : decode cX12_placeOf 54 = .ok (.iconst (-1), 1) := by decide +kernel
theorem dX12_placeOf_55 : decode cX12_placeOf 55 = .ok (.ireturn, 1) := by decide +kernel
theorem dX12_placeOf_56 : decode cX12_placeOf 56 = .ok (.iload_n 2, 1) := by decide +kernel
theorem dX12_placeOf_57 : decode cX12_placeOf 57 = .ok (.i2l, 1) := by decide +kernel
theorem dX12_placeOf_58 : decode cX12_placeOf 58 = .ok (.lconst 0, 1) := by decide +kernel
theorem dX12_placeOf_59 : decode cX12_placeOf 59 = .ok (.aload_n 0, 1) := by decide +kernel
theorem dX12_placeOf_60 : decode cX12_placeOf 60 = .ok (.invokevirtual 346, 3) := by decide +kernel
theorem dX12_placeOf_63 : decode cX12_placeOf 63 = .ok (.i2l, 1) := by decide +kernel
theorem dX12_placeOf_64 : decode cX12_placeOf 64 = .ok (.invokestatic 170, 3) := by decide +kernel
theorem dX12_placeOf_67 : decode cX12_placeOf 67 = .ok (.ifCond .eq 10, 3) := by decide +kernel
theorem dX12_placeOf_70 : decode cX12_placeOf 70 = .ok (.bipush 8, 2) := by decide +kernel
theorem dX12_placeOf_72 : decode cX12_placeOf 72 = .ok (.iload_n 2, 1) := by decide +kernel
theorem dX12_placeOf_73 : decode cX12_placeOf 73 = .ok (.iadd, 1) := by decide +kernel
theorem dX12_placeOf_74 : decode cX12_placeOf 74 = .ok (.goto 4, 3) := by decide +kernel
theorem dX12_placeOf_77 : decode cX12_placeOf 77 = .ok (.iconst (-1), 1) := by decide +kernel
theorem dX12_placeOf_78 : decode cX12_placeOf 78 = .ok (.ireturn, 1) := by decide +kernel
theorem dX12_placeOf_79 : decode cX12_placeOf 79 = .ok (.sipush 264, 3) := by decide +kernel
theorem dX12_placeOf_82 : decode cX12_placeOf 82 = .ok (.ireturn, 1) := by decide +kernel
theorem dX12_placeOf_83 : decode cX12_placeOf 83 = .ok (.sipush 265, 3) := by decide +kernel
theorem dX12_placeOf_86 : decode cX12_placeOf 86 = .ok (.ireturn, 1) := by decide +kernel
theorem dX12_placeOf_87 : decode cX12_placeOf 87 = .ok (.iconst (-1), 1) := by decide +kernel
theorem dX12_placeOf_88 : decode cX12_placeOf 88 = .ok (.ireturn, 1) := by decide +kernel
theorem dX12_set_0 : decode cX12_set 0 = .ok (.aload_n 0, 1) := by decide +kernel
theorem dX12_set_1 : decode cX12_set 1 = .ok (.iload_n 1, 1) := by decide +kernel
theorem dX12_set_2 : decode cX12_set 2 = .ok (.iload_n 2, 1) := by decide +kernel
theorem dX12_set_3 : decode cX12_set 3 = .ok (.invokevirtual 349, 3) := by decide +kernel
theorem dX12_set_6 : decode cX12_set 6 = .ok (.istore 4, 2) := by decide +kernel
theorem dX12_set_8 : decode cX12_set 8 = .ok (.iload_n 1, 1) := by decide +kernel
theorem dX12_set_9 : decode cX12_set 9 = .ok (.iconst 2, 1) := by decide +kernel
theorem dX12_set_10 : decode cX12_set 10 = .ok (.if_icmp .ne 7, 3) := by decide +kernel
theorem dX12_set_13 : decode cX12_set 13 = .ok (.iconst 1, 1) := by decide +kernel
theorem dX12_set_14 : decode cX12_set 14 = .ok (.goto 17, 3) := by decide +kernel
theorem dX12_set_17 : decode cX12_set 17 = .ok (.iload_n 1, 1) := by decide +kernel
theorem dX12_set_18 : decode cX12_set 18 = .ok (.iconst 3, 1) := by decide +kernel
theorem dX12_set_19 : decode cX12_set 19 = .ok (.if_icmp .ne 8, 3) := by decide +kernel
theorem dX12_set_22 : decode cX12_set 22 = .ok (.bipush 63, 2) := by decide +kernel
theorem dX12_set_24 : decode cX12_set 24 = .ok (.goto 7, 3) := by decide +kernel
theorem dX12_set_27 : decode cX12_set 27 = .ok (.aload_n 0, 1) := by decide +kernel
theorem dX12_set_28 : decode cX12_set 28 = .ok (.invokevirtual 346, 3) := by decide +kernel
theorem dX12_set_31 : decode cX12_set 31 = .ok (.istore 5, 2) := by decide +kernel
theorem dX12_set_33 : decode cX12_set 33 = .ok (.iload 4, 2) := by decide +kernel
theorem dX12_set_35 : decode cX12_set 35 = .ok (.ifCond .lt 15, 3) := by decide +kernel
theorem dX12_set_38 : decode cX12_set 38 = .ok (.iload_n 3, 1) := by decide +kernel
theorem dX12_set_39 : decode cX12_set 39 = .ok (.i2l, 1) := by decide +kernel
theorem dX12_set_40 : decode cX12_set 40 = .ok (.lconst 0, 1) := by decide +kernel
theorem dX12_set_41 : decode cX12_set 41 = .ok (.iload 5, 2) := by decide +kernel
theorem dX12_set_43 : decode cX12_set 43 = .ok (.i2l, 1) := by decide +kernel
theorem dX12_set_44 : decode cX12_set 44 = .ok (.invokestatic 170, 3) := by decide +kernel
theorem dX12_set_47 : decode cX12_set 47 = .ok (.ifCond .ne 5, 3) := by decide +kernel
theorem dX12_set_50 : decode cX12_set 50 = .ok (.iconst (-1), 1) := by decide +kernel
theorem dX12_set_51 : decode cX12_set 51 = .ok (.ireturn, 1) := by decide +kernel
theorem dX12_set_52 : decode cX12_set 52 = .ok (.aload_n 0, 1) := by decide +kernel
theorem dX12_set_53 : decode cX12_set 53 = .ok (.getfield 62, 3) := by decide +kernel
theorem dX12_set_56 : decode cX12_set 56 = .ok (.iload 4, 2) := by decide +kernel
theorem dX12_set_58 : decode cX12_set 58 = .ok (.iaload, 1) := by decide +kernel
theorem dX12_set_59 : decode cX12_set 59 = .ok (.istore 6, 2) := by decide +kernel
theorem dX12_set_61 : decode cX12_set 61 = .ok (.aload_n 0, 1) := by decide +kernel
theorem dX12_set_62 : decode cX12_set 62 = .ok (.getfield 62, 3) := by decide +kernel
theorem dX12_set_65 : decode cX12_set 65 = .ok (.iload 4, 2) := by decide +kernel
theorem dX12_set_67 : decode cX12_set 67 = .ok (.iload_n 3, 1) := by decide +kernel
theorem dX12_set_68 : decode cX12_set 68 = .ok (.iastore, 1) := by decide +kernel
theorem dX12_set_69 : decode cX12_set 69 = .ok (.aload_n 0, 1) := by decide +kernel
theorem dX12_set_70 : decode cX12_set 70 = .ok (.iconst 0, 1) := by decide +kernel
theorem dX12_set_71 : decode cX12_set 71 = .ok (.putfield 341, 3) := by decide +kernel
theorem dX12_set_74 : decode cX12_set 74 = .ok (.aload_n 0, 1) := by decide +kernel
theorem dX12_set_75 : decode cX12_set 75 = .ok (.getfield 62, 3) := by decide +kernel
theorem dX12_set_78 : decode cX12_set 78 = .ok (.sipush 270, 3) := by decide +kernel
theorem dX12_set_81 : decode cX12_set 81 = .ok (.iconst 0, 1) := by decide +kernel
theorem dX12_set_82 : decode cX12_set 82 = .ok (.iastore, 1) := by decide +kernel
theorem dX12_set_83 : decode cX12_set 83 = .ok (.iload 6, 2) := by decide +kernel
theorem dX12_set_85 : decode cX12_set 85 = .ok (.ireturn, 1) := by decide +kernel
theorem dX12_get_0 : decode cX12_get 0 = .ok (.aload_n 0, 1) := by decide +kernel
theorem dX12_get_1 : decode cX12_get 1 = .ok (.iload_n 1, 1) := by decide +kernel
theorem dX12_get_2 : decode cX12_get 2 = .ok (.iload_n 2, 1) := by decide +kernel
theorem dX12_get_3 : decode cX12_get 3 = .ok (.invokevirtual 349, 3) := by decide +kernel
theorem dX12_get_6 : decode cX12_get 6 = .ok (.istore_n 3, 1) := by decide +kernel
theorem dX12_get_7 : decode cX12_get 7 = .ok (.iload_n 3, 1) := by decide +kernel
theorem dX12_get_8 : decode cX12_get 8 = .ok (.ifCond .ge 7, 3) := by decide +kernel
theorem dX12_get_11 : decode cX12_get 11 = .ok (.iconst (-1), 1) := by decide +kernel
theorem dX12_get_12 : decode cX12_get 12 = .ok (.goto 9, 3) := by decide +kernel
theorem dX12_get_15 : decode cX12_get 15 = .ok (.aload_n 0, 1) := by decide +kernel
theorem dX12_get_16 : decode cX12_get 16 = .ok (.getfield 62, 3) := by decide +kernel
theorem dX12_get_19 : decode cX12_get 19 = .ok (.iload_n 3, 1) := by decide +kernel
theorem dX12_get_20 : decode cX12_get 20 = .ok (.iaload, 1) := by decide +kernel
theorem dX12_get_21 : decode cX12_get 21 = .ok (.ireturn, 1) := by decide +kernel
theorem dX12_reset_0 : decode cX12_reset 0 = .ok (.aload_n 0, 1) := by decide +kernel
theorem dX12_reset_1 : decode cX12_reset 1 = .ok (.invokevirtual 163, 3) := by decide +kernel
theorem dX12_reset_4 : decode cX12_reset 4 = .ok (.iconst 1, 1) := by decide +kernel
theorem dX12_reset_5 : decode cX12_reset 5 = .ok (.ireturn, 1) := by decide +kernel
theorem dX12_valueOf_0 : decode cX12_valueOf 0 = .ok (.iload_n 3, 1) := by decide +kernel
theorem dX12_valueOf_1 : decode cX12_valueOf 1 = .ok (.iconst 3, 1) := by decide +kernel
theorem dX12_valueOf_2 : decode cX12_valueOf 2 = .ok (.if_icmp .ge 16, 3) := by decide +kernel
theorem dX12_valueOf_5 : decode cX12_valueOf 5 = .ok (.aload_n 0, 1) := by decide +kernel
theorem dX12_valueOf_6 : decode cX12_valueOf 6 = .ok (.getfield 62, 3) := by decide +kernel
theorem dX12_valueOf_9 : decode cX12_valueOf 9 = .ok (.aload_n 0, 1) := by decide +kernel
theorem dX12_valueOf_10 : decode cX12_valueOf 10 = .ok (.iload_n 1, 1) := by decide +kernel
theorem dX12_valueOf_11 : decode cX12_valueOf 11 = .ok (.iload_n 2, 1) := by decide +kernel
theorem dX12_valueOf_12 : decode cX12_valueOf 12 = .ok (.iload_n 3, 1) := by decide +kernel
theorem dX12_valueOf_13 : decode cX12_valueOf 13 = .ok (.invokevirtual 289, 3) := by decide +kernel
theorem dX12_valueOf_16 : decode cX12_valueOf 16 = .ok (.iaload, 1) := by decide +kernel
theorem dX12_valueOf_17 : decode cX12_valueOf 17 = .ok (.ireturn, 1) := by decide +kernel
theorem dX12_valueOf_18 : decode cX12_valueOf 18 = .ok (.iload_n 3, 1) := by decide +kernel
theorem dX12_valueOf_19 : decode cX12_valueOf 19 = .ok (.iconst 3, 1) := by decide +kernel
theorem dX12_valueOf_20 : decode cX12_valueOf 20 = .ok (.if_icmp .ne 11, 3) := by decide +kernel
theorem dX12_valueOf_23 : decode cX12_valueOf 23 = .ok (.aload_n 0, 1) := by decide +kernel
theorem dX12_valueOf_24 : decode cX12_valueOf 24 = .ok (.iload_n 1, 1) := by decide +kernel
theorem dX12_valueOf_25 : decode cX12_valueOf 25 = .ok (.iload_n 2, 1) := by decide +kernel
theorem dX12_valueOf_26 : decode cX12_valueOf 26 = .ok (.iconst 3, 1) := by decide +kernel
theorem dX12_valueOf_27 : decode cX12_valueOf 27 = .ok (.invokevirtual 289, 3) := by decide +kernel
theorem dX12_valueOf_30 : decode cX12_valueOf 30 = .ok (.ireturn, 1) := by decide +kernel
theorem dX12_valueOf_31 : decode cX12_valueOf 31 = .ok (.iload_n 3, 1) := by decide +kernel
theorem dX12_valueOf_32 : decode cX12_valueOf 32 = .ok (.iconst 4, 1) := by decide +kernel
theorem dX12_valueOf_33 : decode cX12_valueOf 33 = .ok (.if_icmp .ne 12, 3) := by decide +kernel
theorem dX12_valueOf_36 : decode cX12_valueOf 36 = .ok (.aload_n 0, 1) := by decide +kernel
theorem dX12_valueOf_37 : decode cX12_valueOf 37 = .ok (.getfield 62, 3) := by decide +kernel
theorem dX12_valueOf_40 : decode cX12_valueOf 40 = .ok (.sipush 264, 3) := by decide +kernel
theorem dX12_valueOf_43 : decode cX12_valueOf 43 = .ok (.iaload, 1) := by decide +kernel
theorem dX12_valueOf_44 : decode cX12_valueOf 44 = .ok (.ireturn, 1) := by decide +kernel
theorem dX12_valueOf_45 : decode cX12_valueOf 45 = .ok (.iload_n 3, 1) := by decide +kernel
theorem dX12_valueOf_46 : decode cX12_valueOf 46 = .ok (.iconst 5, 1) := by decide +kernel
theorem dX12_valueOf_47 : decode cX12_valueOf 47 = .ok (.if_icmp .ne 17, 3) := by decide +kernel
theorem dX12_valueOf_50 : decode cX12_valueOf 50 = .ok (.aload_n 0, 1) := by decide +kernel
theorem dX12_valueOf_51 : decode cX12_valueOf 51 = .ok (.getfield 62, 3) := by decide +kernel
theorem dX12_valueOf_54 : decode cX12_valueOf 54 = .ok (.sipush 265, 3) := by decide +kernel
theorem dX12_valueOf_57 : decode cX12_valueOf 57 = .ok (.iaload, 1) := by decide +kernel
theorem dX12_valueOf_58 : decode cX12_valueOf 58 = .ok (.aload_n 0, 1) := by decide +kernel
theorem dX12_valueOf_59 : decode cX12_valueOf 59 = .ok (.invokevirtual 346, 3) := by decide +kernel
theorem dX12_valueOf_62 : decode cX12_valueOf 62 = .ok (.iand, 1) := by decide +kernel
theorem dX12_valueOf_63 : decode cX12_valueOf 63 = .ok (.ireturn, 1) := by decide +kernel
theorem dX12_valueOf_64 : decode cX12_valueOf 64 = .ok (.iload_n 3, 1) := by decide +kernel
theorem dX12_valueOf_65 : decode cX12_valueOf 65 = .ok (.bipush 10, 2) := by decide +kernel
theorem dX12_valueOf_67 : decode cX12_valueOf 67 = .ok (.if_icmp .ne 13, 3) := by decide +kernel
theorem dX12_valueOf_70 : decode cX12_valueOf 70 = .ok (.iload 4, 2) := by decide +kernel
theorem dX12_valueOf_72 : decode cX12_valueOf 72 = .ok (.aload_n 0, 1) := by decide +kernel
theorem dX12_valueOf_73 : decode cX12_valueOf 73 = .ok (.invokevirtual 346, 3) := by decide +kernel
theorem dX12_valueOf_76 : decode cX12_valueOf 76 = .ok (.iand, 1) := by decide +kernel
theorem dX12_valueOf_77 : decode cX12_valueOf 77 = .ok (.goto 18, 3) := by decide +kernel
theorem dX12_valueOf_80 : decode cX12_valueOf 80 = .ok (.aload_n 0, 1) := by decide +kernel
theorem dX12_valueOf_81 : decode cX12_valueOf 81 = .ok (.getfield 62, 3) := by decide +kernel
theorem dX12_valueOf_84 : decode cX12_valueOf 84 = .ok (.bipush 8, 2) := by decide +kernel
theorem dX12_valueOf_86 : decode cX12_valueOf 86 = .ok (.aload_n 0, 1) := by decide +kernel
theorem dX12_valueOf_87 : decode cX12_valueOf 87 = .ok (.iload_n 1, 1) := by decide +kernel
theorem dX12_valueOf_88 : decode cX12_valueOf 88 = .ok (.iload_n 2, 1) := by decide +kernel
theorem dX12_valueOf_89 : decode cX12_valueOf 89 = .ok (.iload_n 3, 1) := by decide +kernel
theorem dX12_valueOf_90 : decode cX12_valueOf 90 = .ok (.invokevirtual 352, 3) := by decide +kernel
theorem dX12_valueOf_93 : decode cX12_valueOf 93 = .ok (.iadd, 1) := by decide +kernel
theorem dX12_valueOf_94 : decode cX12_valueOf 94 = .ok (.iaload, 1) := by decide +kernel
theorem dX12_valueOf_95 : decode cX12_valueOf 95 = .ok (.ireturn, 1) := by decide +kernel
theorem dX12_addressOf_0 : decode cX12_addressOf 0 = .ok (.aload_n 0, 1) := by decide +kernel
theorem dX12_addressOf_1 : decode cX12_addressOf 1 = .ok (.iload_n 1, 1) := by decide +kernel
theorem dX12_addressOf_2 : decode cX12_addressOf 2 = .ok (.iload_n 2, 1) := by decide +kernel
theorem dX12_addressOf_3 : decode cX12_addressOf 3 = .ok (.iload_n 3, 1) := by decide +kernel
theorem dX12_addressOf_4 : decode cX12_addressOf 4 = .ok (.bipush 6, 2) := by decide +kernel
theorem dX12_addressOf_6 : decode cX12_addressOf 6 = .ok (.isub, 1) := by decide +kernel
theorem dX12_addressOf_7 : decode cX12_addressOf 7 = .ok (.invokevirtual 289, 3) := by decide +kernel
theorem dX12_addressOf_10 : decode cX12_addressOf 10 = .ok (.istore 4, 2) := by decide +kernel
theorem dX12_addressOf_12 : decode cX12_addressOf 12 = .ok (.iload_n 3, 1) := by decide +kernel
theorem dX12_addressOf_13 : decode cX12_addressOf 13 = .ok (.bipush 9, 2) := by decide +kernel
theorem dX12_addressOf_15 : decode cX12_addressOf 15 = .ok (.if_icmp .ne 8, 3) := by decide +kernel
theorem dX12_addressOf_18 : decode cX12_addressOf 18 = .ok (.iload 4, 2) := by decide +kernel
theorem dX12_addressOf_20 : decode cX12_addressOf 20 = .ok (.goto 10, 3) := by decide +kernel
theorem dX12_addressOf_23 : decode cX12_addressOf 23 = .ok (.aload_n 0, 1) := by decide +kernel
theorem dX12_addressOf_24 : decode cX12_addressOf 24 = .ok (.getfield 62, 3) := by decide +kernel
theorem dX12_addressOf_27 : decode cX12_addressOf 27 = .ok (.iload 4, 2) := by decide +kernel
theorem dX12_addressOf_29 : decode cX12_addressOf 29 = .ok (.iaload, 1) := by decide +kernel
theorem dX12_addressOf_30 : decode cX12_addressOf 30 = .ok (.ireturn, 1) := by decide +kernel
theorem dX12_doOrder_0 : decode cX12_doOrder 0 = .ok (.aload_n 0, 1) := by decide +kernel
theorem dX12_doOrder_1 : decode cX12_doOrder 1 = .ok (.getfield 26, 3) := by decide +kernel
theorem dX12_doOrder_4 : decode cX12_doOrder 4 = .ok (.iload_n 1, 1) := by decide +kernel
theorem dX12_doOrder_5 : decode cX12_doOrder 5 = .ok (.iaload, 1) := by decide +kernel
theorem dX12_doOrder_6 : decode cX12_doOrder 6 = .ok (.ifCond .le 70, 3) := by decide +kernel
theorem dX12_doOrder_9 : decode cX12_doOrder 9 = .ok (.aload_n 0, 1) := by decide +kernel
theorem dX12_doOrder_10 : decode cX12_doOrder 10 = .ok (.getfield 29, 3) := by decide +kernel
theorem dX12_doOrder_13 : decode cX12_doOrder 13 = .ok (.iload_n 1, 1) := by decide +kernel
theorem dX12_doOrder_14 : decode cX12_doOrder 14 = .ok (.iaload, 1) := by decide +kernel
theorem dX12_doOrder_15 : decode cX12_doOrder 15 = .ok (.iconst 4, 1) := by decide +kernel
theorem dX12_doOrder_16 : decode cX12_doOrder 16 = .ok (.if_icmp .ne 14, 3) := by decide +kernel
theorem dX12_doOrder_19 : decode cX12_doOrder 19 = .ok (.aload_n 0, 1) := by decide +kernel
theorem dX12_doOrder_20 : decode cX12_doOrder 20 = .ok (.getfield 62, 3) := by decide +kernel
theorem dX12_doOrder_23 : decode cX12_doOrder 23 = .ok (.sipush 264, 3) := by decide +kernel
theorem dX12_doOrder_26 : decode cX12_doOrder 26 = .ok (.iaload, 1) := by decide +kernel
theorem dX12_doOrder_27 : decode cX12_doOrder 27 = .ok (.goto 20, 3) := by decide +kernel
theorem dX12_doOrder_30 : decode cX12_doOrder 30 = .ok (.aload_n 0, 1) := by decide +kernel
theorem dX12_doOrder_31 : decode cX12_doOrder 31 = .ok (.getfield 62, 3) := by decide +kernel
theorem dX12_doOrder_34 : decode cX12_doOrder 34 = .ok (.aload_n 0, 1) := by decide +kernel
theorem dX12_doOrder_35 : decode cX12_doOrder 35 = .ok (.iload_n 1, 1) := by decide +kernel
theorem dX12_doOrder_36 : decode cX12_doOrder 36 = .ok (.iload_n 2, 1) := by decide +kernel
theorem dX12_doOrder_37 : decode cX12_doOrder 37 = .ok (.aload_n 0, 1) := by decide +kernel
theorem dX12_doOrder_38 : decode cX12_doOrder 38 = .ok (.getfield 29, 3) := by decide +kernel
theorem dX12_doOrder_41 : decode cX12_doOrder 41 = .ok (.iload_n 1, 1) := by decide +kernel
theorem dX12_doOrder_42 : decode cX12_doOrder 42 = .ok (.iaload, 1) := by decide +kernel
theorem dX12_doOrder_43 : decode cX12_doOrder 43 = .ok (.invokevirtual 289, 3) := by decide +kernel
theorem dX12_doOrder_46 : decode cX12_doOrder 46 = .ok (.iaload, 1) := by decide +kernel
theorem dX12_doOrder_47 : decode cX12_doOrder 47 = .ok (.istore_n 3, 1) := by decide +kernel
theorem dX12_doOrder_48 : decode cX12_doOrder 48 = .ok (.iload_n 3, 1) := by decide +kernel
theorem dX12_doOrder_49 : decode cX12_doOrder 49 = .ok (.ifCond .eq 7, 3) := by decide +kernel
theorem dX12_doOrder_52 : decode cX12_doOrder 52 = .ok (.iconst 1, 1) := by decide +kernel
theorem dX12_doOrder_53 : decode cX12_doOrder 53 = .ok (.goto 4, 3) := by decide +kernel
theorem dX12_doOrder_56 : decode cX12_doOrder 56 = .ok (.iconst 0, 1) := by decide +kernel
theorem dX12_doOrder_57 : decode cX12_doOrder 57 = .ok (.aload_n 0, 1) := by decide +kernel
theorem dX12_doOrder_58 : decode cX12_doOrder 58 = .ok (.getfield 26, 3) := by decide +kernel
theorem dX12_doOrder_61 : decode cX12_doOrder 61 = .ok (.iload_n 1, 1) := by decide +kernel
theorem dX12_doOrder_62 : decode cX12_doOrder 62 = .ok (.iaload, 1) := by decide +kernel
theorem dX12_doOrder_63 : decode cX12_doOrder 63 = .ok (.iconst 1, 1) := by decide +kernel
theorem dX12_doOrder_64 : decode cX12_doOrder 64 = .ok (.if_icmp .ne 7, 3) := by decide +kernel
theorem dX12_doOrder_67 : decode cX12_doOrder 67 = .ok (.iconst 1, 1) := by decide +kernel
theorem dX12_doOrder_68 : decode cX12_doOrder 68 = .ok (.goto 4, 3) := by decide +kernel
theorem dX12_doOrder_71 : decode cX12_doOrder 71 = .ok (.iconst 0, 1) := by decide +kernel
theorem dX12_doOrder_72 : decode cX12_doOrder 72 = .ok (.if_icmp .eq 4, 3) := by decide +kernel
theorem dX12_doOrder_75 : decode cX12_doOrder 75 = .ok (.return_, 1) := by decide +kernel
theorem dX12_doOrder_76 : decode cX12_doOrder 76 = .ok (.iconst 0, 1) := by decide +kernel
theorem dX12_doOrder_77 : decode cX12_doOrder 77 = .ok (.istore_n 3, 1) := by decide +kernel
theorem dX12_doOrder_78 : decode cX12_doOrder 78 = .ok (.iload_n 3, 1) := by decide +kernel
theorem dX12_doOrder_79 : decode cX12_doOrder 79 = .ok (.aload_n 0, 1) := by decide +kernel
theorem dX12_doOrder_80 : decode cX12_doOrder 80 = .ok (.getfield 32, 3) := by decide +kernel
theorem dX12_doOrder_83 : decode cX12_doOrder 83 = .ok (.iload_n 1, 1) := by decide +kernel
theorem dX12_doOrder_84 : decode cX12_doOrder 84 = .ok (.iaload, 1) := by decide +kernel
theorem dX12_doOrder_85 : decode cX12_doOrder 85 = .ok (.if_icmp .ge 211, 3) := by decide +kernel
theorem dX12_doOrder_88 : decode cX12_doOrder 88 = .ok (.bipush 18, 2) := by decide +kernel
theorem dX12_doOrder_90 : decode cX12_doOrder 90 = .ok (.iload_n 1, 1) := by decide +kernel
theorem dX12_doOrder_91 : decode cX12_doOrder 91 = .ok (.imul, 1) := by decide +kernel
theorem dX12_doOrder_92 : decode cX12_doOrder 92 = .ok (.bipush 6, 2) := by decide +kernel
theorem dX12_doOrder_94 : decode cX12_doOrder 94 = .ok (.iload_n 3, 1) := by decide +kernel
theorem dX12_doOrder_95 : decode cX12_doOrder 95 = .ok (.imul, 1) := by decide +kernel
theorem dX12_doOrder_96 : decode cX12_doOrder 96 = .ok (.iadd, 1) := by decide +kernel
theorem dX12_doOrder_97 : decode cX12_doOrder 97 = .ok (.istore 4, 2) := by decide +kernel
theorem dX12_doOrder_99 : decode cX12_doOrder 99 = .ok (.aload_n 0, 1) := by decide +kernel
theorem dX12_doOrder_100 : decode cX12_doOrder 100 = .ok (.iload_n 1, 1) := by decide +kernel
theorem dX12_doOrder_101 : decode cX12_doOrder 101 = .ok (.iload_n 2, 1) := by decide +kernel
theorem dX12_doOrder_102 : decode cX12_doOrder 102 = .ok (.aload_n 0, 1) := by decide +kernel
theorem dX12_doOrder_103 : decode cX12_doOrder 103 = .ok (.getfield 35, 3) := by decide +kernel
theorem dX12_doOrder_106 : decode cX12_doOrder 106 = .ok (.iload 4, 2) := by decide +kernel
theorem dX12_doOrder_108 : decode cX12_doOrder 108 = .ok (.iconst 1, 1) := by decide +kernel
theorem dX12_doOrder_109 : decode cX12_doOrder 109 = .ok (.iadd, 1) := by decide +kernel
theorem dX12_doOrder_110 : decode cX12_doOrder 110 = .ok (.iaload, 1) := by decide +kernel
theorem dX12_doOrder_111 : decode cX12_doOrder 111 = .ok (.aload_n 0, 1) := by decide +kernel
theorem dX12_doOrder_112 : decode cX12_doOrder 112 = .ok (.getfield 35, 3) := by decide +kernel
theorem dX12_doOrder_115 : decode cX12_doOrder 115 = .ok (.iload 4, 2) := by decide +kernel
theorem dX12_doOrder_117 : decode cX12_doOrder 117 = .ok (.iconst 2, 1) := by decide +kernel
theorem dX12_doOrder_118 : decode cX12_doOrder 118 = .ok (.iadd, 1) := by decide +kernel
theorem dX12_doOrder_119 : decode cX12_doOrder 119 = .ok (.iaload, 1) := by decide +kernel
theorem dX12_doOrder_120 : decode cX12_doOrder 120 = .ok (.invokevirtual 355, 3) := by decide +kernel
theorem dX12_doOrder_123 : decode cX12_doOrder 123 = .ok (.istore 5, 2) := by decide +kernel
theorem dX12_doOrder_125 : decode cX12_doOrder 125 = .ok (.aload_n 0, 1) := by decide +kernel
theorem dX12_doOrder_126 : decode cX12_doOrder 126 = .ok (.getfield 35, 3) := by decide +kernel
theorem dX12_doOrder_129 : decode cX12_doOrder 129 = .ok (.iload 4, 2) := by decide +kernel
theorem dX12_doOrder_131 : decode cX12_doOrder 131 = .ok (.iconst 3, 1) := by decide +kernel
theorem dX12_doOrder_132 : decode cX12_doOrder 132 = .ok (.iadd, 1) := by decide +kernel
theorem dX12_doOrder_133 : decode cX12_doOrder 133 = .ok (.iaload, 1) := by decide +kernel
theorem dX12_doOrder_134 : decode cX12_doOrder 134 = .ok (.ifCond .le 30, 3) := by decide +kernel
theorem dX12_doOrder_137 : decode cX12_doOrder 137 = .ok (.aload_n 0, 1) := by decide +kernel
theorem dX12_doOrder_138 : decode cX12_doOrder 138 = .ok (.iload_n 1, 1) := by decide +kernel
theorem dX12_doOrder_139 : decode cX12_doOrder 139 = .ok (.iload_n 2, 1) := by decide +kernel
theorem dX12_doOrder_140 : decode cX12_doOrder 140 = .ok (.aload_n 0, 1) := by decide +kernel
theorem dX12_doOrder_141 : decode cX12_doOrder 141 = .ok (.getfield 35, 3) := by decide +kernel
theorem dX12_doOrder_144 : decode cX12_doOrder 144 = .ok (.iload 4, 2) := by decide +kernel
theorem dX12_doOrder_146 : decode cX12_doOrder 146 = .ok (.iconst 4, 1) := by decide +kernel
theorem dX12_doOrder_147 : decode cX12_doOrder 147 = .ok (.iadd, 1) := by decide +kernel
theorem dX12_doOrder_148 : decode cX12_doOrder 148 = .ok (.iaload, 1) := by decide +kernel
theorem dX12_doOrder_149 : decode cX12_doOrder 149 = .ok (.aload_n 0, 1) := by decide +kernel
theorem dX12_doOrder_150 : decode cX12_doOrder 150 = .ok (.getfield 35, 3) := by decide +kernel
theorem dX12_doOrder_153 : decode cX12_doOrder 153 = .ok (.iload 4, 2) := by decide +kernel
theorem dX12_doOrder_155 : decode cX12_doOrder 155 = .ok (.iconst 5, 1) := by decide +kernel
theorem dX12_doOrder_156 : decode cX12_doOrder 156 = .ok (.iadd, 1) := by decide +kernel
theorem dX12_doOrder_157 : decode cX12_doOrder 157 = .ok (.iaload, 1) := by decide +kernel
theorem dX12_doOrder_158 : decode cX12_doOrder 158 = .ok (.invokevirtual 355, 3) := by decide +kernel
theorem dX12_doOrder_161 : decode cX12_doOrder 161 = .ok (.goto 4, 3) := by decide +kernel
theorem dX12_doOrder_164 : decode cX12_doOrder 164 = .ok (.iconst 0, 1) := by decide +kernel
theorem dX12_doOrder_165 : decode cX12_doOrder 165 = .ok (.istore 6, 2) := by decide +kernel
theorem dX12_doOrder_167 : decode cX12_doOrder 167 = .ok (.aload_n 0, 1) := by decide +kernel
theorem dX12_doOrder_168 : decode cX12_doOrder 168 = .ok (.getfield 35, 3) := by decide +kernel
theorem dX12_doOrder_171 : decode cX12_doOrder 171 = .ok (.iload 4, 2) := by decide +kernel
theorem dX12_doOrder_173 : decode cX12_doOrder 173 = .ok (.iconst 3, 1) := by decide +kernel
theorem dX12_doOrder_174 : decode cX12_doOrder 174 = .ok (.iadd, 1) := by decide +kernel
theorem dX12_doOrder_175 : decode cX12_doOrder 175 = .ok (.iaload, 1) := by decide +kernel
theorem dX12_doOrder_176 : decode cX12_doOrder 176 = .ok (.iload 5, 2) := by decide +kernel
theorem dX12_doOrder_178 : decode cX12_doOrder 178 = .ok (.iload 6, 2) := by decide +kernel
theorem dX12_doOrder_180 : decode cX12_doOrder 180 = .ok (.invokestatic 304, 3) := by decide +kernel
theorem dX12_doOrder_183 : decode cX12_doOrder 183 = .ok (.aload_n 0, 1) := by decide +kernel
theorem dX12_doOrder_184 : decode cX12_doOrder 184 = .ok (.invokevirtual 346, 3) := by decide +kernel
theorem dX12_doOrder_187 : decode cX12_doOrder 187 = .ok (.iand, 1) := by decide +kernel
theorem dX12_doOrder_188 : decode cX12_doOrder 188 = .ok (.istore 7, 2) := by decide +kernel
theorem dX12_doOrder_190 : decode cX12_doOrder 190 = .ok (.aload_n 0, 1) := by decide +kernel
theorem dX12_doOrder_191 : decode cX12_doOrder 191 = .ok (.getfield 35, 3) := by decide +kernel
theorem dX12_doOrder_194 : decode cX12_doOrder 194 = .ok (.iload 4, 2) := by decide +kernel
theorem dX12_doOrder_196 : decode cX12_doOrder 196 = .ok (.iaload, 1) := by decide +kernel
theorem dX12_doOrder_197 : decode cX12_doOrder 197 = .ok (.istore 8, 2) := by decide +kernel
theorem dX12_doOrder_199 : decode cX12_doOrder 199 = .ok (.iload 8, 2) := by decide +kernel
theorem dX12_doOrder_201 : decode cX12_doOrder 201 = .ok (.iconst 3, 1) := by decide +kernel
theorem dX12_doOrder_202 : decode cX12_doOrder 202 = .ok (.if_icmp .ge 21, 3) := by decide +kernel
theorem dX12_doOrder_205 : decode cX12_doOrder 205 = .ok (.aload_n 0, 1) := by decide +kernel
theorem dX12_doOrder_206 : decode cX12_doOrder 206 = .ok (.getfield 62, 3) := by decide +kernel
theorem dX12_doOrder_209 : decode cX12_doOrder 209 = .ok (.aload_n 0, 1) := by decide +kernel
theorem dX12_doOrder_210 : decode cX12_doOrder 210 = .ok (.iload_n 1, 1) := by decide +kernel
theorem dX12_doOrder_211 : decode cX12_doOrder 211 = .ok (.iload_n 2, 1) := by decide +kernel
theorem dX12_doOrder_212 : decode cX12_doOrder 212 = .ok (.iload 8, 2) := by decide +kernel
theorem dX12_doOrder_214 : decode cX12_doOrder 214 = .ok (.invokevirtual 289, 3) := by decide +kernel
theorem dX12_doOrder_217 : decode cX12_doOrder 217 = .ok (.iload 7, 2) := by decide +kernel
theorem dX12_doOrder_219 : decode cX12_doOrder 219 = .ok (.iastore, 1) := by decide +kernel
theorem dX12_doOrder_220 : decode cX12_doOrder 220 = .ok (.goto 70, 3) := by decide +kernel
theorem dX12_doOrder_223 : decode cX12_doOrder 223 = .ok (.iload 8, 2) := by decide +kernel
theorem dX12_doOrder_225 : decode cX12_doOrder 225 = .ok (.iconst 4, 1) := by decide +kernel
theorem dX12_doOrder_226 : decode cX12_doOrder 226 = .ok (.if_icmp .ne 24, 3) := by decide +kernel
theorem dX12_doOrder_229 : decode cX12_doOrder 229 = .ok (.aload_n 0, 1) := by decide +kernel
theorem dX12_doOrder_230 : decode cX12_doOrder 230 = .ok (.getfield 62, 3) := by decide +kernel
theorem dX12_doOrder_233 : decode cX12_doOrder 233 = .ok (.sipush 264, 3) := by decide +kernel
theorem dX12_doOrder_236 : decode cX12_doOrder 236 = .ok (.iload 7, 2) := by decide +kernel
theorem dX12_doOrder_238 : decode cX12_doOrder 238 = .ok (.ifCond .eq 7, 3) := by decide +kernel
theorem dX12_doOrder_241 : decode cX12_doOrder 241 = .ok (.iconst 1, 1) := by decide +kernel
theorem dX12_doOrder_242 : decode cX12_doOrder 242 = .ok (.goto 4, 3) := by decide +kernel
theorem dX12_doOrder_245 : decode cX12_doOrder 245 = .ok (.iconst 0, 1) := by decide +kernel
theorem dX12_doOrder_246 : decode cX12_doOrder 246 = .ok (.iastore, 1) := by decide +kernel
theorem dX12_doOrder_247 : decode cX12_doOrder 247 = .ok (.goto 43, 3) := by decide +kernel
theorem dX12_doOrder_250 : decode cX12_doOrder 250 = .ok (.iload 8, 2) := by decide +kernel
theorem dX12_doOrder_252 : decode cX12_doOrder 252 = .ok (.iconst 5, 1) := by decide +kernel
theorem dX12_doOrder_253 : decode cX12_doOrder 253 = .ok (.if_icmp .ne 19, 3) := by decide +kernel
theorem dX12_doOrder_256 : decode cX12_doOrder 256 = .ok (.aload_n 0, 1) := by decide +kernel
theorem dX12_doOrder_257 : decode cX12_doOrder 257 = .ok (.getfield 62, 3) := by decide +kernel
theorem dX12_doOrder_260 : decode cX12_doOrder 260 = .ok (.sipush 265, 3) := by decide +kernel
theorem dX12_doOrder_263 : decode cX12_doOrder 263 = .ok (.iload 7, 2) := by decide +kernel
theorem dX12_doOrder_265 : decode cX12_doOrder 265 = .ok (.bipush 64, 2) := by decide +kernel
theorem dX12_doOrder_267 : decode cX12_doOrder 267 = .ok (.irem, 1) := by decide +kernel
theorem dX12_doOrder_268 : decode cX12_doOrder 268 = .ok (.iastore, 1) := by decide +kernel
theorem dX12_doOrder_269 : decode cX12_doOrder 269 = .ok (.goto 21, 3) := by decide +kernel
theorem dX12_doOrder_272 : decode cX12_doOrder 272 = .ok (.aload_n 0, 1) := by decide +kernel
theorem dX12_doOrder_273 : decode cX12_doOrder 273 = .ok (.getfield 62, 3) := by decide +kernel
theorem dX12_doOrder_276 : decode cX12_doOrder 276 = .ok (.bipush 8, 2) := by decide +kernel
theorem dX12_doOrder_278 : decode cX12_doOrder 278 = .ok (.aload_n 0, 1) := by decide +kernel
theorem dX12_doOrder_279 : decode cX12_doOrder 279 = .ok (.iload_n 1, 1) := by decide +kernel
theorem dX12_doOrder_280 : decode cX12_doOrder 280 = .ok (.iload_n 2, 1) := by decide +kernel
theorem dX12_doOrder_281 : decode cX12_doOrder 281 = .ok (.iload 8, 2) := by decide +kernel
theorem dX12_doOrder_283 : decode cX12_doOrder 283 = .ok (.invokevirtual 352, 3) := by decide +kernel
theorem dX12_doOrder_286 : decode cX12_doOrder 286 = .ok (.iadd, 1) := by decide +kernel
theorem dX12_doOrder_287 : decode cX12_doOrder 287 = .ok (.iload 7, 2) := by decide +kernel
theorem dX12_doOrder_289 : decode cX12_doOrder 289 = .ok (.iastore, 1) := by decide +kernel
theorem dX12_doOrder_290 : decode cX12_doOrder 290 = .ok (.iinc 3 1, 3) := by decide +kernel
theorem dX12_doOrder_293 : decode cX12_doOrder 293 = .ok (.goto (-215), 3) := by decide +kernel
theorem dX12_doOrder_296 : decode cX12_doOrder 296 = .ok (.return_, 1) := by decide +kernel
theorem dX12_targetsOf_0 : decode cX12_targetsOf 0 = .ok (.iconst 0, 1) := by decide +kernel
theorem dX12_targetsOf_1 : decode cX12_targetsOf 1 = .ok (.istore_n 3, 1) := by decide +kernel
theorem dX12_targetsOf_2 : decode cX12_targetsOf 2 = .ok (.iconst 0, 1) := by decide +kernel
theorem dX12_targetsOf_3 : decode cX12_targetsOf 3 = .ok (.istore 4, 2) := by decide +kernel
theorem dX12_targetsOf_5 : decode cX12_targetsOf 5 = .ok (.iload 4, 2) := by decide +kernel
theorem dX12_targetsOf_7 : decode cX12_targetsOf 7 = .ok (.aload_n 0, 1) := by decide +kernel
theorem dX12_targetsOf_8 : decode cX12_targetsOf 8 = .ok (.getfield 32, 3) := by decide +kernel
theorem dX12_targetsOf_11 : decode cX12_targetsOf 11 = .ok (.iload_n 1, 1) := by decide +kernel
theorem dX12_targetsOf_12 : decode cX12_targetsOf 12 = .ok (.iaload, 1) := by decide +kernel
theorem dX12_targetsOf_13 : decode cX12_targetsOf 13 = .ok (.if_icmp .ge 74, 3) := by decide +kernel
theorem dX12_targetsOf_16 : decode cX12_targetsOf 16 = .ok (.aload_n 0, 1) := by decide +kernel
theorem dX12_targetsOf_17 : decode cX12_targetsOf 17 = .ok (.getfield 35, 3) := by decide +kernel
theorem dX12_targetsOf_20 : decode cX12_targetsOf 20 = .ok (.bipush 18, 2) := by decide +kernel
theorem dX12_targetsOf_22 : decode cX12_targetsOf 22 = .ok (.iload_n 1, 1) := by decide +kernel
theorem dX12_targetsOf_23 : decode cX12_targetsOf 23 = .ok (.imul, 1) := by decide +kernel
theorem dX12_targetsOf_24 : decode cX12_targetsOf 24 = .ok (.bipush 6, 2) := by decide +kernel
theorem dX12_targetsOf_26 : decode cX12_targetsOf 26 = .ok (.iload 4, 2) := by decide +kernel
theorem dX12_targetsOf_28 : decode cX12_targetsOf 28 = .ok (.imul, 1) := by decide +kernel
theorem dX12_targetsOf_29 : decode cX12_targetsOf 29 = .ok (.iadd, 1) := by decide +kernel
theorem dX12_targetsOf_30 : decode cX12_targetsOf 30 = .ok (.iaload, 1) := by decide +kernel
theorem dX12_targetsOf_31 : decode cX12_targetsOf 31 = .ok (.istore 5, 2) := by decide +kernel
theorem dX12_targetsOf_33 : decode cX12_targetsOf 33 = .ok (.iload_n 3, 1) := by decide +kernel
theorem dX12_targetsOf_34 : decode cX12_targetsOf 34 = .ok (.iload 5, 2) := by decide +kernel
theorem dX12_targetsOf_36 : decode cX12_targetsOf 36 = .ok (.iconst 3, 1) := by decide +kernel
theorem dX12_targetsOf_37 : decode cX12_targetsOf 37 = .ok (.if_icmp .ge 16, 3) := by decide +kernel
theorem dX12_targetsOf_40 : decode cX12_targetsOf 40 = .ok (.iconst 1, 1) := by decide +kernel
theorem dX12_targetsOf_41 : decode cX12_targetsOf 41 = .ok (.aload_n 0, 1) := by decide +kernel
theorem dX12_targetsOf_42 : decode cX12_targetsOf 42 = .ok (.iload_n 1, 1) := by decide +kernel
theorem dX12_targetsOf_43 : decode cX12_targetsOf 43 = .ok (.iload_n 2, 1) := by decide +kernel
theorem dX12_targetsOf_44 : decode cX12_targetsOf 44 = .ok (.iload 5, 2) := by decide +kernel
theorem dX12_targetsOf_46 : decode cX12_targetsOf 46 = .ok (.invokevirtual 289, 3) := by decide +kernel
theorem dX12_targetsOf_49 : decode cX12_targetsOf 49 = .ok (.ishl, 1) := by decide +kernel
theorem dX12_targetsOf_50 : decode cX12_targetsOf 50 = .ok (.goto 29, 3) := by decide +kernel
theorem dX12_targetsOf_53 : decode cX12_targetsOf 53 = .ok (.iload 5, 2) := by decide +kernel
theorem dX12_targetsOf_55 : decode cX12_targetsOf 55 = .ok (.iconst 4, 1) := by decide +kernel
theorem dX12_targetsOf_56 : decode cX12_targetsOf 56 = .ok (.if_icmp .ne 9, 3) := by decide +kernel
theorem dX12_targetsOf_59 : decode cX12_targetsOf 59 = .ok (.sipush 512, 3) := by decide +kernel
theorem dX12_targetsOf_62 : decode cX12_targetsOf 62 = .ok (.goto 17, 3) := by decide +kernel
theorem dX12_targetsOf_65 : decode cX12_targetsOf 65 = .ok (.iload 5, 2) := by decide +kernel
theorem dX12_targetsOf_67 : decode cX12_targetsOf 67 = .ok (.bipush 6, 2) := by decide +kernel
theorem dX12_targetsOf_69 : decode cX12_targetsOf 69 = .ok (.if_icmp .lt 9, 3) := by decide +kernel
theorem dX12_targetsOf_72 : decode cX12_targetsOf 72 = .ok (.sipush 256, 3) := by decide +kernel
theorem dX12_targetsOf_75 : decode cX12_targetsOf 75 = .ok (.goto 4, 3) := by decide +kernel
theorem dX12_targetsOf_78 : decode cX12_targetsOf 78 = .ok (.iconst 0, 1) := by decide +kernel
theorem dX12_targetsOf_79 : decode cX12_targetsOf 79 = .ok (.ior, 1) := by decide +kernel
theorem dX12_targetsOf_80 : decode cX12_targetsOf 80 = .ok (.istore_n 3, 1) := by decide +kernel
theorem dX12_targetsOf_81 : decode cX12_targetsOf 81 = .ok (.iinc 4 1, 3) := by decide +kernel
theorem dX12_targetsOf_84 : decode cX12_targetsOf 84 = .ok (.goto (-79), 3) := by decide +kernel
theorem dX12_targetsOf_87 : decode cX12_targetsOf 87 = .ok (.iload_n 3, 1) := by decide +kernel
theorem dX12_targetsOf_88 : decode cX12_targetsOf 88 = .ok (.ireturn, 1) := by decide +kernel
theorem dX12_operandOf_0 : decode cX12_operandOf 0 = .ok (.iload_n 3, 1) := by decide +kernel
theorem dX12_operandOf_1 : decode cX12_operandOf 1 = .ok (.iconst 3, 1) := by decide +kernel
theorem dX12_operandOf_2 : decode cX12_operandOf 2 = .ok (.if_icmp .ge 13, 3) := by decide +kernel
theorem dX12_operandOf_5 : decode cX12_operandOf 5 = .ok (.iconst 1, 1) := by decide +kernel
theorem dX12_operandOf_6 : decode cX12_operandOf 6 = .ok (.aload_n 0, 1) := by decide +kernel
theorem dX12_operandOf_7 : decode cX12_operandOf 7 = .ok (.iload_n 1, 1) := by decide +kernel
theorem dX12_operandOf_8 : decode cX12_operandOf 8 = .ok (.iload_n 2, 1) := by decide +kernel
theorem dX12_operandOf_9 : decode cX12_operandOf 9 = .ok (.iload_n 3, 1) := by decide +kernel
theorem dX12_operandOf_10 : decode cX12_operandOf 10 = .ok (.invokevirtual 289, 3) := by decide +kernel
theorem dX12_operandOf_13 : decode cX12_operandOf 13 = .ok (.ishl, 1) := by decide +kernel
theorem dX12_operandOf_14 : decode cX12_operandOf 14 = .ok (.ireturn, 1) := by decide +kernel
theorem dX12_operandOf_15 : decode cX12_operandOf 15 = .ok (.iload_n 3, 1) := by decide +kernel
theorem dX12_operandOf_16 : decode cX12_operandOf 16 = .ok (.iconst 4, 1) := by decide +kernel
theorem dX12_operandOf_17 : decode cX12_operandOf 17 = .ok (.if_icmp .ne 7, 3) := by decide +kernel
theorem dX12_operandOf_20 : decode cX12_operandOf 20 = .ok (.sipush 512, 3) := by decide +kernel
theorem dX12_operandOf_23 : decode cX12_operandOf 23 = .ok (.ireturn, 1) := by decide +kernel
theorem dX12_operandOf_24 : decode cX12_operandOf 24 = .ok (.iload_n 3, 1) := by decide +kernel
theorem dX12_operandOf_25 : decode cX12_operandOf 25 = .ok (.bipush 6, 2) := by decide +kernel
theorem dX12_operandOf_27 : decode cX12_operandOf 27 = .ok (.if_icmp .lt 23, 3) := by decide +kernel
theorem dX12_operandOf_30 : decode cX12_operandOf 30 = .ok (.iload_n 3, 1) := by decide +kernel
theorem dX12_operandOf_31 : decode cX12_operandOf 31 = .ok (.bipush 10, 2) := by decide +kernel
theorem dX12_operandOf_33 : decode cX12_operandOf 33 = .ok (.if_icmp .ge 17, 3) := by decide +kernel
theorem dX12_operandOf_36 : decode cX12_operandOf 36 = .ok (.sipush 256, 3) := by decide +kernel
theorem dX12_operandOf_39 : decode cX12_operandOf 39 = .ok (.aload_n 0, 1) := by decide +kernel
theorem dX12_operandOf_40 : decode cX12_operandOf 40 = .ok (.iload_n 1, 1) := by decide +kernel
theorem dX12_operandOf_41 : decode cX12_operandOf 41 = .ok (.iload_n 2, 1) := by decide +kernel
theorem dX12_operandOf_42 : decode cX12_operandOf 42 = .ok (.iload_n 3, 1) := by decide +kernel
theorem dX12_operandOf_43 : decode cX12_operandOf 43 = .ok (.invokevirtual 359, 3) := by decide +kernel
theorem dX12_operandOf_46 : decode cX12_operandOf 46 = .ok (.ior, 1) := by decide +kernel
theorem dX12_operandOf_47 : decode cX12_operandOf 47 = .ok (.goto 4, 3) := by decide +kernel
theorem dX12_operandOf_50 : decode cX12_operandOf 50 = .ok (.iconst 0, 1) := by decide +kernel
theorem dX12_operandOf_51 : decode cX12_operandOf 51 = .ok (.ireturn, 1) := by decide +kernel
theorem dX12_inBrackets_0 : decode cX12_inBrackets 0 = .ok (.iload_n 3, 1) := by decide +kernel
theorem dX12_inBrackets_1 : decode cX12_inBrackets 1 = .ok (.bipush 6, 2) := by decide +kernel
theorem dX12_inBrackets_3 : decode cX12_inBrackets 3 = .ok (.if_icmp .lt 24, 3) := by decide +kernel
theorem dX12_inBrackets_6 : decode cX12_inBrackets 6 = .ok (.iload_n 3, 1) := by decide +kernel
theorem dX12_inBrackets_7 : decode cX12_inBrackets 7 = .ok (.bipush 9, 2) := by decide +kernel
theorem dX12_inBrackets_9 : decode cX12_inBrackets 9 = .ok (.if_icmp .ge 18, 3) := by decide +kernel
theorem dX12_inBrackets_12 : decode cX12_inBrackets 12 = .ok (.iconst 1, 1) := by decide +kernel
theorem dX12_inBrackets_13 : decode cX12_inBrackets 13 = .ok (.aload_n 0, 1) := by decide +kernel
theorem dX12_inBrackets_14 : decode cX12_inBrackets 14 = .ok (.iload_n 1, 1) := by decide +kernel
theorem dX12_inBrackets_15 : decode cX12_inBrackets 15 = .ok (.iload_n 2, 1) := by decide +kernel
theorem dX12_inBrackets_16 : decode cX12_inBrackets 16 = .ok (.iload_n 3, 1) := by decide +kernel
theorem dX12_inBrackets_17 : decode cX12_inBrackets 17 = .ok (.bipush 6, 2) := by decide +kernel
theorem dX12_inBrackets_19 : decode cX12_inBrackets 19 = .ok (.isub, 1) := by decide +kernel
theorem dX12_inBrackets_20 : decode cX12_inBrackets 20 = .ok (.invokevirtual 289, 3) := by decide +kernel
theorem dX12_inBrackets_23 : decode cX12_inBrackets 23 = .ok (.ishl, 1) := by decide +kernel
theorem dX12_inBrackets_24 : decode cX12_inBrackets 24 = .ok (.goto 4, 3) := by decide +kernel
theorem dX12_inBrackets_27 : decode cX12_inBrackets 27 = .ok (.iconst 0, 1) := by decide +kernel
theorem dX12_inBrackets_28 : decode cX12_inBrackets 28 = .ok (.ireturn, 1) := by decide +kernel
theorem dX12_usesOf_0 : decode cX12_usesOf 0 = .ok (.aload_n 0, 1) := by decide +kernel
theorem dX12_usesOf_1 : decode cX12_usesOf 1 = .ok (.getfield 26, 3) := by decide +kernel
theorem dX12_usesOf_4 : decode cX12_usesOf 4 = .ok (.iload_n 1, 1) := by decide +kernel
theorem dX12_usesOf_5 : decode cX12_usesOf 5 = .ok (.iaload, 1) := by decide +kernel
theorem dX12_usesOf_6 : decode cX12_usesOf 6 = .ok (.ifCond .ne 7, 3) := by decide +kernel
theorem dX12_usesOf_9 : decode cX12_usesOf 9 = .ok (.iconst 0, 1) := by decide +kernel
theorem dX12_usesOf_10 : decode cX12_usesOf 10 = .ok (.goto 33, 3) := by decide +kernel
theorem dX12_usesOf_13 : decode cX12_usesOf 13 = .ok (.aload_n 0, 1) := by decide +kernel
theorem dX12_usesOf_14 : decode cX12_usesOf 14 = .ok (.getfield 29, 3) := by decide +kernel
theorem dX12_usesOf_17 : decode cX12_usesOf 17 = .ok (.iload_n 1, 1) := by decide +kernel
theorem dX12_usesOf_18 : decode cX12_usesOf 18 = .ok (.iaload, 1) := by decide +kernel
theorem dX12_usesOf_19 : decode cX12_usesOf 19 = .ok (.iconst 4, 1) := by decide +kernel
theorem dX12_usesOf_20 : decode cX12_usesOf 20 = .ok (.if_icmp .ne 9, 3) := by decide +kernel
theorem dX12_usesOf_23 : decode cX12_usesOf 23 = .ok (.sipush 512, 3) := by decide +kernel
theorem dX12_usesOf_26 : decode cX12_usesOf 26 = .ok (.goto 17, 3) := by decide +kernel
theorem dX12_usesOf_29 : decode cX12_usesOf 29 = .ok (.iconst 1, 1) := by decide +kernel
theorem dX12_usesOf_30 : decode cX12_usesOf 30 = .ok (.aload_n 0, 1) := by decide +kernel
theorem dX12_usesOf_31 : decode cX12_usesOf 31 = .ok (.iload_n 1, 1) := by decide +kernel
theorem dX12_usesOf_32 : decode cX12_usesOf 32 = .ok (.iload_n 2, 1) := by decide +kernel
theorem dX12_usesOf_33 : decode cX12_usesOf 33 = .ok (.aload_n 0, 1) := by decide +kernel
theorem dX12_usesOf_34 : decode cX12_usesOf 34 = .ok (.getfield 29, 3) := by decide +kernel
theorem dX12_usesOf_37 : decode cX12_usesOf 37 = .ok (.iload_n 1, 1) := by decide +kernel
theorem dX12_usesOf_38 : decode cX12_usesOf 38 = .ok (.iaload, 1) := by decide +kernel
theorem dX12_usesOf_39 : decode cX12_usesOf 39 = .ok (.invokevirtual 289, 3) := by decide +kernel
theorem dX12_usesOf_42 : decode cX12_usesOf 42 = .ok (.ishl, 1) := by decide +kernel
theorem dX12_usesOf_43 : decode cX12_usesOf 43 = .ok (.istore_n 3, 1) := by decide +kernel
theorem dX12_usesOf_44 : decode cX12_usesOf 44 = .ok (.iconst 0, 1) := by decide +kernel
theorem dX12_usesOf_45 : decode cX12_usesOf 45 = .ok (.istore 4, 2) := by decide +kernel
theorem dX12_usesOf_47 : decode cX12_usesOf 47 = .ok (.iload 4, 2) := by decide +kernel
theorem dX12_usesOf_49 : decode cX12_usesOf 49 = .ok (.aload_n 0, 1) := by decide +kernel
theorem dX12_usesOf_50 : decode cX12_usesOf 50 = .ok (.getfield 32, 3) := by decide +kernel
theorem dX12_usesOf_53 : decode cX12_usesOf 53 = .ok (.iload_n 1, 1) := by decide +kernel
theorem dX12_usesOf_54 : decode cX12_usesOf 54 = .ok (.iaload, 1) := by decide +kernel
theorem dX12_usesOf_55 : decode cX12_usesOf 55 = .ok (.if_icmp .ge 87, 3) := by decide +kernel
theorem dX12_usesOf_58 : decode cX12_usesOf 58 = .ok (.bipush 18, 2) := by decide +kernel
theorem dX12_usesOf_60 : decode cX12_usesOf 60 = .ok (.iload_n 1, 1) := by decide +kernel
theorem dX12_usesOf_61 : decode cX12_usesOf 61 = .ok (.imul, 1) := by decide +kernel
theorem dX12_usesOf_62 : decode cX12_usesOf 62 = .ok (.bipush 6, 2) := by decide +kernel
theorem dX12_usesOf_64 : decode cX12_usesOf 64 = .ok (.iload 4, 2) := by decide +kernel
theorem dX12_usesOf_66 : decode cX12_usesOf 66 = .ok (.imul, 1) := by decide +kernel
theorem dX12_usesOf_67 : decode cX12_usesOf 67 = .ok (.iadd, 1) := by decide +kernel
theorem dX12_usesOf_68 : decode cX12_usesOf 68 = .ok (.istore 5, 2) := by decide +kernel
theorem dX12_usesOf_70 : decode cX12_usesOf 70 = .ok (.iload_n 3, 1) := by decide +kernel
theorem dX12_usesOf_71 : decode cX12_usesOf 71 = .ok (.aload_n 0, 1) := by decide +kernel
theorem dX12_usesOf_72 : decode cX12_usesOf 72 = .ok (.iload_n 1, 1) := by decide +kernel
theorem dX12_usesOf_73 : decode cX12_usesOf 73 = .ok (.iload_n 2, 1) := by decide +kernel
theorem dX12_usesOf_74 : decode cX12_usesOf 74 = .ok (.aload_n 0, 1) := by decide +kernel
theorem dX12_usesOf_75 : decode cX12_usesOf 75 = .ok (.getfield 35, 3) := by decide +kernel
theorem dX12_usesOf_78 : decode cX12_usesOf 78 = .ok (.iload 5, 2) := by decide +kernel
theorem dX12_usesOf_80 : decode cX12_usesOf 80 = .ok (.iaload, 1) := by decide +kernel
theorem dX12_usesOf_81 : decode cX12_usesOf 81 = .ok (.invokevirtual 359, 3) := by decide +kernel
theorem dX12_usesOf_84 : decode cX12_usesOf 84 = .ok (.aload_n 0, 1) := by decide +kernel
theorem dX12_usesOf_85 : decode cX12_usesOf 85 = .ok (.iload_n 1, 1) := by decide +kernel
theorem dX12_usesOf_86 : decode cX12_usesOf 86 = .ok (.iload_n 2, 1) := by decide +kernel
theorem dX12_usesOf_87 : decode cX12_usesOf 87 = .ok (.aload_n 0, 1) := by decide +kernel
theorem dX12_usesOf_88 : decode cX12_usesOf 88 = .ok (.getfield 35, 3) := by decide +kernel
theorem dX12_usesOf_91 : decode cX12_usesOf 91 = .ok (.iload 5, 2) := by decide +kernel
theorem dX12_usesOf_93 : decode cX12_usesOf 93 = .ok (.iconst 1, 1) := by decide +kernel
theorem dX12_usesOf_94 : decode cX12_usesOf 94 = .ok (.iadd, 1) := by decide +kernel
theorem dX12_usesOf_95 : decode cX12_usesOf 95 = .ok (.iaload, 1) := by decide +kernel
theorem dX12_usesOf_96 : decode cX12_usesOf 96 = .ok (.invokevirtual 362, 3) := by decide +kernel
theorem dX12_usesOf_99 : decode cX12_usesOf 99 = .ok (.ior, 1) := by decide +kernel
theorem dX12_usesOf_100 : decode cX12_usesOf 100 = .ok (.ior, 1) := by decide +kernel
theorem dX12_usesOf_101 : decode cX12_usesOf 101 = .ok (.istore_n 3, 1) := by decide +kernel
theorem dX12_usesOf_102 : decode cX12_usesOf 102 = .ok (.iload_n 3, 1) := by decide +kernel
theorem dX12_usesOf_103 : decode cX12_usesOf 103 = .ok (.aload_n 0, 1) := by decide +kernel
theorem dX12_usesOf_104 : decode cX12_usesOf 104 = .ok (.getfield 35, 3) := by decide +kernel
theorem dX12_usesOf_107 : decode cX12_usesOf 107 = .ok (.iload 5, 2) := by decide +kernel
theorem dX12_usesOf_109 : decode cX12_usesOf 109 = .ok (.iconst 3, 1) := by decide +kernel
theorem dX12_usesOf_110 : decode cX12_usesOf 110 = .ok (.iadd, 1) := by decide +kernel
theorem dX12_usesOf_111 : decode cX12_usesOf 111 = .ok (.iaload, 1) := by decide +kernel
theorem dX12_usesOf_112 : decode cX12_usesOf 112 = .ok (.ifCond .le 21, 3) := by decide +kernel
theorem dX12_usesOf_115 : decode cX12_usesOf 115 = .ok (.aload_n 0, 1) := by decide +kernel
theorem dX12_usesOf_116 : decode cX12_usesOf 116 = .ok (.iload_n 1, 1) := by decide +kernel
theorem dX12_usesOf_117 : decode cX12_usesOf 117 = .ok (.iload_n 2, 1) := by decide +kernel
theorem dX12_usesOf_118 : decode cX12_usesOf 118 = .ok (.aload_n 0, 1) := by decide +kernel
theorem dX12_usesOf_119 : decode cX12_usesOf 119 = .ok (.getfield 35, 3) := by decide +kernel
theorem dX12_usesOf_122 : decode cX12_usesOf 122 = .ok (.iload 5, 2) := by decide +kernel
theorem dX12_usesOf_124 : decode cX12_usesOf 124 = .ok (.iconst 4, 1) := by decide +kernel
theorem dX12_usesOf_125 : decode cX12_usesOf 125 = .ok (.iadd, 1) := by decide +kernel
theorem dX12_usesOf_126 : decode cX12_usesOf 126 = .ok (.iaload, 1) := by decide +kernel
theorem dX12_usesOf_127 : decode cX12_usesOf 127 = .ok (.invokevirtual 362, 3) := by decide +kernel
theorem dX12_usesOf_130 : decode cX12_usesOf 130 = .ok (.goto 4, 3) := by decide +kernel
theorem dX12_usesOf_133 : decode cX12_usesOf 133 = .ok (.iconst 0, 1) := by decide +kernel
theorem dX12_usesOf_134 : decode cX12_usesOf 134 = .ok (.ior, 1) := by decide +kernel
theorem dX12_usesOf_135 : decode cX12_usesOf 135 = .ok (.istore_n 3, 1) := by decide +kernel
theorem dX12_usesOf_136 : decode cX12_usesOf 136 = .ok (.iinc 4 1, 3) := by decide +kernel
theorem dX12_usesOf_139 : decode cX12_usesOf 139 = .ok (.goto (-92), 3) := by decide +kernel
theorem dX12_usesOf_142 : decode cX12_usesOf 142 = .ok (.iload_n 3, 1) := by decide +kernel
theorem dX12_usesOf_143 : decode cX12_usesOf 143 = .ok (.ireturn, 1) := by decide +kernel
theorem dX12_keepPast_0 : decode cX12_keepPast 0 = .ok (.iconst 0, 1) := by decide +kernel
theorem dX12_keepPast_1 : decode cX12_keepPast 1 = .ok (.istore_n 1, 1) := by decide +kernel
theorem dX12_keepPast_2 : decode cX12_keepPast 2 = .ok (.iload_n 1, 1) := by decide +kernel
theorem dX12_keepPast_3 : decode cX12_keepPast 3 = .ok (.sipush 336, 3) := by decide +kernel
theorem dX12_keepPast_6 : decode cX12_keepPast 6 = .ok (.if_icmp .ge 30, 3) := by decide +kernel
theorem dX12_keepPast_9 : decode cX12_keepPast 9 = .ok (.aload_n 0, 1) := by decide +kernel
theorem dX12_keepPast_10 : decode cX12_keepPast 10 = .ok (.getfield 66, 3) := by decide +kernel
theorem dX12_keepPast_13 : decode cX12_keepPast 13 = .ok (.sipush 336, 3) := by decide +kernel
theorem dX12_keepPast_16 : decode cX12_keepPast 16 = .ok (.aload_n 0, 1) := by decide +kernel
theorem dX12_keepPast_17 : decode cX12_keepPast 17 = .ok (.getfield 365, 3) := by decide +kernel
theorem dX12_keepPast_20 : decode cX12_keepPast 20 = .ok (.imul, 1) := by decide +kernel
theorem dX12_keepPast_21 : decode cX12_keepPast 21 = .ok (.iload_n 1, 1) := by decide +kernel
theorem dX12_keepPast_22 : decode cX12_keepPast 22 = .ok (.iadd, 1) := by decide +kernel
theorem dX12_keepPast_23 : decode cX12_keepPast 23 = .ok (.aload_n 0, 1) := by decide +kernel
theorem dX12_keepPast_24 : decode cX12_keepPast 24 = .ok (.getfield 62, 3) := by decide +kernel
theorem dX12_keepPast_27 : decode cX12_keepPast 27 = .ok (.iload_n 1, 1) := by decide +kernel
theorem dX12_keepPast_28 : decode cX12_keepPast 28 = .ok (.iaload, 1) := by decide +kernel
theorem dX12_keepPast_29 : decode cX12_keepPast 29 = .ok (.iastore, 1) := by decide +kernel
theorem dX12_keepPast_30 : decode cX12_keepPast 30 = .ok (.iinc 1 1, 3) := by decide +kernel
theorem dX12_keepPast_33 : decode cX12_keepPast 33 = .ok (.goto (-31), 3) := by decide +kernel
theorem dX12_keepPast_36 : decode cX12_keepPast 36 = .ok (.aload_n 0, 1) := by decide +kernel
theorem dX12_keepPast_37 : decode cX12_keepPast 37 = .ok (.aload_n 0, 1) := by decide +kernel
theorem dX12_keepPast_38 : decode cX12_keepPast 38 = .ok (.getfield 365, 3) := by decide +kernel
theorem dX12_keepPast_41 : decode cX12_keepPast 41 = .ok (.iconst 1, 1) := by decide +kernel
theorem dX12_keepPast_42 : decode cX12_keepPast 42 = .ok (.iadd, 1) := by decide +kernel
theorem dX12_keepPast_43 : decode cX12_keepPast 43 = .ok (.bipush 100, 2) := by decide +kernel
theorem dX12_keepPast_45 : decode cX12_keepPast 45 = .ok (.irem, 1) := by decide +kernel
theorem dX12_keepPast_46 : decode cX12_keepPast 46 = .ok (.putfield 365, 3) := by decide +kernel
theorem dX12_keepPast_49 : decode cX12_keepPast 49 = .ok (.aload_n 0, 1) := by decide +kernel
theorem dX12_keepPast_50 : decode cX12_keepPast 50 = .ok (.dup, 1) := by decide +kernel
theorem dX12_keepPast_51 : decode cX12_keepPast 51 = .ok (.getfield 341, 3) := by decide +kernel
theorem dX12_keepPast_54 : decode cX12_keepPast 54 = .ok (.aload_n 0, 1) := by decide +kernel
theorem dX12_keepPast_55 : decode cX12_keepPast 55 = .ok (.getfield 341, 3) := by decide +kernel
theorem dX12_keepPast_58 : decode cX12_keepPast 58 = .ok (.bipush 100, 2) := by decide +kernel
theorem dX12_keepPast_60 : decode cX12_keepPast 60 = .ok (.if_icmp .ge 7, 3) := by decide +kernel
theorem dX12_keepPast_63 : decode cX12_keepPast 63 = .ok (.iconst 1, 1) := by decide +kernel
theorem dX12_keepPast_64 : decode cX12_keepPast 64 = .ok (.goto 4, 3) := by decide +kernel
theorem dX12_keepPast_67 : decode cX12_keepPast 67 = .ok (.iconst 0, 1) := by decide +kernel
theorem dX12_keepPast_68 : decode cX12_keepPast 68 = .ok (.iadd, 1) := by decide +kernel
theorem dX12_keepPast_69 : decode cX12_keepPast 69 = .ok (.putfield 341, 3) := by decide +kernel
theorem dX12_keepPast_72 : decode cX12_keepPast 72 = .ok (.return_, 1) := by decide +kernel
theorem dX12_doStep_0 : decode cX12_doStep 0 = .ok (.aload_n 0, 1) := by decide +kernel
theorem dX12_doStep_1 : decode cX12_doStep 1 = .ok (.getfield 62, 3) := by decide +kernel
theorem dX12_doStep_4 : decode cX12_doStep 4 = .ok (.sipush 265, 3) := by decide +kernel
theorem dX12_doStep_7 : decode cX12_doStep 7 = .ok (.iaload, 1) := by decide +kernel
theorem dX12_doStep_8 : decode cX12_doStep 8 = .ok (.istore_n 2, 1) := by decide +kernel
theorem dX12_doStep_9 : decode cX12_doStep 9 = .ok (.aload_n 0, 1) := by decide +kernel
theorem dX12_doStep_10 : decode cX12_doStep 10 = .ok (.getfield 59, 3) := by decide +kernel
theorem dX12_doStep_13 : decode cX12_doStep 13 = .ok (.iload_n 2, 1) := by decide +kernel
theorem dX12_doStep_14 : decode cX12_doStep 14 = .ok (.iaload, 1) := by decide +kernel
theorem dX12_doStep_15 : decode cX12_doStep 15 = .ok (.istore_n 3, 1) := by decide +kernel
theorem dX12_doStep_16 : decode cX12_doStep 16 = .ok (.aload_n 0, 1) := by decide +kernel
theorem dX12_doStep_17 : decode cX12_doStep 17 = .ok (.iload_n 3, 1) := by decide +kernel
theorem dX12_doStep_18 : decode cX12_doStep 18 = .ok (.invokevirtual 283, 3) := by decide +kernel
theorem dX12_doStep_21 : decode cX12_doStep 21 = .ok (.istore 4, 2) := by decide +kernel
theorem dX12_doStep_23 : decode cX12_doStep 23 = .ok (.iload 4, 2) := by decide +kernel
theorem dX12_doStep_25 : decode cX12_doStep 25 = .ok (.ifCond .ge 5, 3) := by decide +kernel
theorem dX12_doStep_28 : decode cX12_doStep 28 = .ok (.iconst 0, 1) := by decide +kernel
theorem dX12_doStep_29 : decode cX12_doStep 29 = .ok (.ireturn, 1) := by decide +kernel
theorem dX12_doStep_30 : decode cX12_doStep 30 = .ok (.iload_n 1, 1) := by decide +kernel
theorem dX12_doStep_31 : decode cX12_doStep 31 = .ok (.ifCond .eq 7, 3) := by decide +kernel
theorem dX12_doStep_34 : decode cX12_doStep 34 = .ok (.aload_n 0, 1) := by decide +kernel
theorem dX12_doStep_35 : decode cX12_doStep 35 = .ok (.invokevirtual 368, 3) := by decide +kernel
theorem dX12_doStep_38 : decode cX12_doStep 38 = .ok (.aload_n 0, 1) := by decide +kernel
theorem dX12_doStep_39 : decode cX12_doStep 39 = .ok (.getfield 62, 3) := by decide +kernel
theorem dX12_doStep_42 : decode cX12_doStep 42 = .ok (.sipush 270, 3) := by decide +kernel
theorem dX12_doStep_45 : decode cX12_doStep 45 = .ok (.iaload, 1) := by decide +kernel
theorem dX12_doStep_46 : decode cX12_doStep 46 = .ok (.ifCond .le 33, 3) := by decide +kernel
theorem dX12_doStep_49 : decode cX12_doStep 49 = .ok (.aload_n 0, 1) := by decide +kernel
theorem dX12_doStep_50 : decode cX12_doStep 50 = .ok (.getfield 62, 3) := by decide +kernel
theorem dX12_doStep_53 : decode cX12_doStep 53 = .ok (.sipush 271, 3) := by decide +kernel
theorem dX12_doStep_56 : decode cX12_doStep 56 = .ok (.iaload, 1) := by decide +kernel
theorem dX12_doStep_57 : decode cX12_doStep 57 = .ok (.aload_n 0, 1) := by decide +kernel
theorem dX12_doStep_58 : decode cX12_doStep 58 = .ok (.iload 4, 2) := by decide +kernel
theorem dX12_doStep_60 : decode cX12_doStep 60 = .ok (.iload_n 3, 1) := by decide +kernel
theorem dX12_doStep_61 : decode cX12_doStep 61 = .ok (.invokevirtual 371, 3) := by decide +kernel
theorem dX12_doStep_64 : decode cX12_doStep 64 = .ok (.iand, 1) := by decide +kernel
theorem dX12_doStep_65 : decode cX12_doStep 65 = .ok (.ifCond .eq 14, 3) := by decide +kernel
theorem dX12_doStep_68 : decode cX12_doStep 68 = .ok (.aload_n 0, 1) := by decide +kernel
theorem dX12_doStep_69 : decode cX12_doStep 69 = .ok (.getfield 62, 3) := by decide +kernel
theorem dX12_doStep_72 : decode cX12_doStep 72 = .ok (.sipush 270, 3) := by decide +kernel
theorem dX12_doStep_75 : decode cX12_doStep 75 = .ok (.iaload, 1) := by decide +kernel
theorem dX12_doStep_76 : decode cX12_doStep 76 = .ok (.goto 4, 3) := by decide +kernel
theorem dX12_doStep_79 : decode cX12_doStep 79 = .ok (.iconst 0, 1) := by decide +kernel
theorem dX12_doStep_80 : decode cX12_doStep 80 = .ok (.istore 5, 2) := by decide +kernel
theorem dX12_doStep_82 : decode cX12_doStep 82 = .ok (.aload_n 0, 1) := by decide +kernel
theorem dX12_doStep_83 : decode cX12_doStep 83 = .ok (.getfield 62, 3) := by decide +kernel
theorem dX12_doStep_86 : decode cX12_doStep 86 = .ok (.sipush 270, 3) := by decide +kernel
theorem dX12_doStep_89 : decode cX12_doStep 89 = .ok (.aload_n 0, 1) := by decide +kernel
theorem dX12_doStep_90 : decode cX12_doStep 90 = .ok (.getfield 38, 3) := by decide +kernel
theorem dX12_doStep_93 : decode cX12_doStep 93 = .ok (.iload 4, 2) := by decide +kernel
theorem dX12_doStep_95 : decode cX12_doStep 95 = .ok (.iaload, 1) := by decide +kernel
theorem dX12_doStep_96 : decode cX12_doStep 96 = .ok (.iconst 1, 1) := by decide +kernel
theorem dX12_doStep_97 : decode cX12_doStep 97 = .ok (.isub, 1) := by decide +kernel
theorem dX12_doStep_98 : decode cX12_doStep 98 = .ok (.iastore, 1) := by decide +kernel
theorem dX12_doStep_99 : decode cX12_doStep 99 = .ok (.aload_n 0, 1) := by decide +kernel
theorem dX12_doStep_100 : decode cX12_doStep 100 = .ok (.getfield 62, 3) := by decide +kernel
theorem dX12_doStep_103 : decode cX12_doStep 103 = .ok (.sipush 271, 3) := by decide +kernel
theorem dX12_doStep_106 : decode cX12_doStep 106 = .ok (.aload_n 0, 1) := by decide +kernel
theorem dX12_doStep_107 : decode cX12_doStep 107 = .ok (.iload 4, 2) := by decide +kernel
theorem dX12_doStep_109 : decode cX12_doStep 109 = .ok (.iload_n 3, 1) := by decide +kernel
theorem dX12_doStep_110 : decode cX12_doStep 110 = .ok (.invokevirtual 374, 3) := by decide +kernel
theorem dX12_doStep_113 : decode cX12_doStep 113 = .ok (.iastore, 1) := by decide +kernel
theorem dX12_doStep_114 : decode cX12_doStep 114 = .ok (.aload_n 0, 1) := by decide +kernel
theorem dX12_doStep_115 : decode cX12_doStep 115 = .ok (.getfield 62, 3) := by decide +kernel
theorem dX12_doStep_118 : decode cX12_doStep 118 = .ok (.sipush 265, 3) := by decide +kernel
theorem dX12_doStep_121 : decode cX12_doStep 121 = .ok (.iload_n 2, 1) := by decide +kernel
theorem dX12_doStep_122 : decode cX12_doStep 122 = .ok (.iconst 1, 1) := by decide +kernel
theorem dX12_doStep_123 : decode cX12_doStep 123 = .ok (.iadd, 1) := by decide +kernel
theorem dX12_doStep_124 : decode cX12_doStep 124 = .ok (.bipush 64, 2) := by decide +kernel
theorem dX12_doStep_126 : decode cX12_doStep 126 = .ok (.irem, 1) := by decide +kernel
theorem dX12_doStep_127 : decode cX12_doStep 127 = .ok (.iastore, 1) := by decide +kernel
theorem dX12_doStep_128 : decode cX12_doStep 128 = .ok (.aload_n 0, 1) := by decide +kernel
theorem dX12_doStep_129 : decode cX12_doStep 129 = .ok (.iload 4, 2) := by decide +kernel
theorem dX12_doStep_131 : decode cX12_doStep 131 = .ok (.iload_n 3, 1) := by decide +kernel
theorem dX12_doStep_132 : decode cX12_doStep 132 = .ok (.invokevirtual 377, 3) := by decide +kernel
theorem dX12_doStep_135 : decode cX12_doStep 135 = .ok (.aload_n 0, 1) := by decide +kernel
theorem dX12_doStep_136 : decode cX12_doStep 136 = .ok (.getfield 62, 3) := by decide +kernel
theorem dX12_doStep_139 : decode cX12_doStep 139 = .ok (.sipush 272, 3) := by decide +kernel
theorem dX12_doStep_142 : decode cX12_doStep 142 = .ok (.iload_n 2, 1) := by decide +kernel
theorem dX12_doStep_143 : decode cX12_doStep 143 = .ok (.iadd, 1) := by decide +kernel
theorem dX12_doStep_144 : decode cX12_doStep 144 = .ok (.iaload, 1) := by decide +kernel
theorem dX12_doStep_145 : decode cX12_doStep 145 = .ok (.aload_n 0, 1) := by decide +kernel
theorem dX12_doStep_146 : decode cX12_doStep 146 = .ok (.getfield 62, 3) := by decide +kernel
theorem dX12_doStep_149 : decode cX12_doStep 149 = .ok (.sipush 265, 3) := by decide +kernel
theorem dX12_doStep_152 : decode cX12_doStep 152 = .ok (.iaload, 1) := by decide +kernel
theorem dX12_doStep_153 : decode cX12_doStep 153 = .ok (.if_icmp .eq 7, 3) := by decide +kernel
theorem dX12_doStep_156 : decode cX12_doStep 156 = .ok (.iconst 1, 1) := by decide +kernel
theorem dX12_doStep_157 : decode cX12_doStep 157 = .ok (.goto 4, 3) := by decide +kernel
theorem dX12_doStep_160 : decode cX12_doStep 160 = .ok (.iconst 0, 1) := by decide +kernel
theorem dX12_doStep_161 : decode cX12_doStep 161 = .ok (.istore 6, 2) := by decide +kernel
theorem dX12_doStep_163 : decode cX12_doStep 163 = .ok (.aload_n 0, 1) := by decide +kernel
theorem dX12_doStep_164 : decode cX12_doStep 164 = .ok (.getfield 62, 3) := by decide +kernel
theorem dX12_doStep_167 : decode cX12_doStep 167 = .ok (.sipush 272, 3) := by decide +kernel
theorem dX12_doStep_170 : decode cX12_doStep 170 = .ok (.iload_n 2, 1) := by decide +kernel
theorem dX12_doStep_171 : decode cX12_doStep 171 = .ok (.iadd, 1) := by decide +kernel
theorem dX12_doStep_172 : decode cX12_doStep 172 = .ok (.aload_n 0, 1) := by decide +kernel
theorem dX12_doStep_173 : decode cX12_doStep 173 = .ok (.getfield 62, 3) := by decide +kernel
theorem dX12_doStep_176 : decode cX12_doStep 176 = .ok (.sipush 265, 3) := by decide +kernel
theorem dX12_doStep_179 : decode cX12_doStep 179 = .ok (.iaload, 1) := by decide +kernel
theorem dX12_doStep_180 : decode cX12_doStep 180 = .ok (.iastore, 1) := by decide +kernel
theorem dX12_doStep_181 : decode cX12_doStep 181 = .ok (.aload_n 0, 1) := by decide +kernel
theorem dX12_doStep_182 : decode cX12_doStep 182 = .ok (.getfield 62, 3) := by decide +kernel
theorem dX12_doStep_185 : decode cX12_doStep 185 = .ok (.sipush 266, 3) := by decide +kernel
theorem dX12_doStep_188 : decode cX12_doStep 188 = .ok (.dup2, 1) := by decide +kernel
theorem dX12_doStep_189 : decode cX12_doStep 189 = .ok (.iaload, 1) := by decide +kernel
theorem dX12_doStep_190 : decode cX12_doStep 190 = .ok (.iconst 1, 1) := by decide +kernel
theorem dX12_doStep_191 : decode cX12_doStep 191 = .ok (.iadd, 1) := by decide +kernel
theorem dX12_doStep_192 : decode cX12_doStep 192 = .ok (.iastore, 1) := by decide +kernel
theorem dX12_doStep_193 : decode cX12_doStep 193 = .ok (.aload_n 0, 1) := by decide +kernel
theorem dX12_doStep_194 : decode cX12_doStep 194 = .ok (.getfield 62, 3) := by decide +kernel
theorem dX12_doStep_197 : decode cX12_doStep 197 = .ok (.sipush 267, 3) := by decide +kernel
theorem dX12_doStep_200 : decode cX12_doStep 200 = .ok (.dup2, 1) := by decide +kernel
theorem dX12_doStep_201 : decode cX12_doStep 201 = .ok (.iaload, 1) := by decide +kernel
theorem dX12_doStep_202 : decode cX12_doStep 202 = .ok (.aload_n 0, 1) := by decide +kernel
theorem dX12_doStep_203 : decode cX12_doStep 203 = .ok (.getfield 38, 3) := by decide +kernel
theorem dX12_doStep_206 : decode cX12_doStep 206 = .ok (.iload 4, 2) := by decide +kernel
theorem dX12_doStep_208 : decode cX12_doStep 208 = .ok (.iaload, 1) := by decide +kernel
theorem dX12_doStep_209 : decode cX12_doStep 209 = .ok (.iload 5, 2) := by decide +kernel
theorem dX12_doStep_211 : decode cX12_doStep 211 = .ok (.iadd, 1) := by decide +kernel
theorem dX12_doStep_212 : decode cX12_doStep 212 = .ok (.iload 6, 2) := by decide +kernel
theorem dX12_doStep_214 : decode cX12_doStep 214 = .ok (.ifCond .eq 10, 3) := by decide +kernel
theorem dX12_doStep_217 : decode cX12_doStep 217 = .ok (.aload_n 0, 1) := by decide +kernel
theorem dX12_doStep_218 : decode cX12_doStep 218 = .ok (.getfield 72, 3) := by decide +kernel
theorem dX12_doStep_221 : decode cX12_doStep 221 = .ok (.goto 4, 3) := by decide +kernel
theorem dX12_doStep_224 : decode cX12_doStep 224 = .ok (.iconst 0, 1) := by decide +kernel
theorem dX12_doStep_225 : decode cX12_doStep 225 = .ok (.iadd, 1) := by decide +kernel
theorem dX12_doStep_226 : decode cX12_doStep 226 = .ok (.iadd, 1) := by decide +kernel
theorem dX12_doStep_227 : decode cX12_doStep 227 = .ok (.iastore, 1) := by decide +kernel
theorem dX12_doStep_228 : decode cX12_doStep 228 = .ok (.aload_n 0, 1) := by decide +kernel
theorem dX12_doStep_229 : decode cX12_doStep 229 = .ok (.getfield 62, 3) := by decide +kernel
theorem dX12_doStep_232 : decode cX12_doStep 232 = .ok (.sipush 268, 3) := by decide +kernel
theorem dX12_doStep_235 : decode cX12_doStep 235 = .ok (.dup2, 1) := by decide +kernel
theorem dX12_doStep_236 : decode cX12_doStep 236 = .ok (.iaload, 1) := by decide +kernel
theorem dX12_doStep_237 : decode cX12_doStep 237 = .ok (.iload 5, 2) := by decide +kernel
theorem dX12_doStep_239 : decode cX12_doStep 239 = .ok (.iadd, 1) := by decide +kernel
theorem dX12_doStep_240 : decode cX12_doStep 240 = .ok (.iastore, 1) := by decide +kernel
theorem dX12_doStep_241 : decode cX12_doStep 241 = .ok (.aload_n 0, 1) := by decide +kernel
theorem dX12_doStep_242 : decode cX12_doStep 242 = .ok (.getfield 62, 3) := by decide +kernel
theorem dX12_doStep_245 : decode cX12_doStep 245 = .ok (.sipush 269, 3) := by decide +kernel
theorem dX12_doStep_248 : decode cX12_doStep 248 = .ok (.dup2, 1) := by decide +kernel
theorem dX12_doStep_249 : decode cX12_doStep 249 = .ok (.iaload, 1) := by decide +kernel
theorem dX12_doStep_250 : decode cX12_doStep 250 = .ok (.iload 6, 2) := by decide +kernel
theorem dX12_doStep_252 : decode cX12_doStep 252 = .ok (.ifCond .eq 7, 3) := by decide +kernel
theorem dX12_doStep_255 : decode cX12_doStep 255 = .ok (.iconst 1, 1) := by decide +kernel
theorem dX12_doStep_256 : decode cX12_doStep 256 = .ok (.goto 4, 3) := by decide +kernel
theorem dX12_doStep_259 : decode cX12_doStep 259 = .ok (.iconst 0, 1) := by decide +kernel
theorem dX12_doStep_260 : decode cX12_doStep 260 = .ok (.iadd, 1) := by decide +kernel
theorem dX12_doStep_261 : decode cX12_doStep 261 = .ok (.iastore, 1) := by decide +kernel
theorem dX12_doStep_262 : decode cX12_doStep 262 = .ok (.iconst 1, 1) := by decide +kernel
theorem dX12_doStep_263 : decode cX12_doStep 263 = .ok (.ireturn, 1) := by decide +kernel
theorem dX12_run_0 : decode cX12_run 0 = .ok (.iload_n 1, 1) := by decide +kernel
theorem dX12_run_1 : decode cX12_run 1 = .ok (.i2l, 1) := by decide +kernel
theorem dX12_run_2 : decode cX12_run 2 = .ok (.lconst 1, 1) := by decide +kernel
theorem dX12_run_3 : decode cX12_run 3 = .ok (.ldc2_w 380, 3) := by decide +kernel
theorem dX12_run_6 : decode cX12_run 6 = .ok (.invokestatic 170, 3) := by decide +kernel
theorem dX12_run_9 : decode cX12_run 9 = .ok (.ifCond .ne 5, 3) := by decide +kernel
theorem dX12_run_12 : decode cX12_run 12 = .ok (.iconst (-1), 1) := by decide +kernel
theorem dX12_run_13 : decode cX12_run 13 = .ok (.ireturn, 1) := by decide +kernel
theorem dX12_run_14 : decode cX12_run 14 = .ok (.iconst 0, 1) := by decide +kernel
theorem dX12_run_15 : decode cX12_run 15 = .ok (.istore_n 2, 1) := by decide +kernel
theorem dX12_run_16 : decode cX12_run 16 = .ok (.iload_n 2, 1) := by decide +kernel
theorem dX12_run_17 : decode cX12_run 17 = .ok (.iload_n 1, 1) := by decide +kernel
theorem dX12_run_18 : decode cX12_run 18 = .ok (.if_icmp .ge 17, 3) := by decide +kernel
theorem dX12_run_21 : decode cX12_run 21 = .ok (.aload_n 0, 1) := by decide +kernel
theorem dX12_run_22 : decode cX12_run 22 = .ok (.iconst 1, 1) := by decide +kernel
theorem dX12_run_23 : decode cX12_run 23 = .ok (.invokevirtual 382, 3) := by decide +kernel
theorem dX12_run_26 : decode cX12_run 26 = .ok (.ifCond .eq 9, 3) := by decide +kernel
theorem dX12_run_29 : decode cX12_run 29 = .ok (.iinc 2 1, 3) := by decide +kernel
theorem dX12_run_32 : decode cX12_run 32 = .ok (.goto (-16), 3) := by decide +kernel
theorem dX12_run_35 : decode cX12_run 35 = .ok (.iload_n 2, 1) := by decide +kernel
theorem dX12_run_36 : decode cX12_run 36 = .ok (.ifCond .ne 8, 3) := by decide +kernel
theorem dX12_run_39 : decode cX12_run 39 = .ok (.bipush (-5), 2) := by decide +kernel
theorem dX12_run_41 : decode cX12_run 41 = .ok (.goto 4, 3) := by decide +kernel
theorem dX12_run_44 : decode cX12_run 44 = .ok (.iload_n 2, 1) := by decide +kernel
theorem dX12_run_45 : decode cX12_run 45 = .ok (.ireturn, 1) := by decide +kernel
theorem dX12_back_0 : decode cX12_back 0 = .ok (.iload_n 1, 1) := by decide +kernel
theorem dX12_back_1 : decode cX12_back 1 = .ok (.i2l, 1) := by decide +kernel
theorem dX12_back_2 : decode cX12_back 2 = .ok (.lconst 1, 1) := by decide +kernel
theorem dX12_back_3 : decode cX12_back 3 = .ok (.ldc2_w 386, 3) := by decide +kernel
theorem dX12_back_6 : decode cX12_back 6 = .ok (.invokestatic 170, 3) := by decide +kernel
theorem dX12_back_9 : decode cX12_back 9 = .ok (.ifCond .ne 5, 3) := by decide +kernel
theorem dX12_back_12 : decode cX12_back 12 = .ok (.iconst (-1), 1) := by decide +kernel
theorem dX12_back_13 : decode cX12_back 13 = .ok (.ireturn, 1) := by decide +kernel
theorem dX12_back_14 : decode cX12_back 14 = .ok (.iload_n 1, 1) := by decide +kernel
theorem dX12_back_15 : decode cX12_back 15 = .ok (.aload_n 0, 1) := by decide +kernel
theorem dX12_back_16 : decode cX12_back 16 = .ok (.getfield 341, 3) := by decide +kernel
theorem dX12_back_19 : decode cX12_back 19 = .ok (.if_icmp .le 6, 3) := by decide +kernel
theorem dX12_back_22 : decode cX12_back 22 = .ok (.bipush (-2), 2) := by decide +kernel
theorem dX12_back_24 : decode cX12_back 24 = .ok (.ireturn, 1) := by decide +kernel
theorem dX12_back_25 : decode cX12_back 25 = .ok (.aload_n 0, 1) := by decide +kernel
theorem dX12_back_26 : decode cX12_back 26 = .ok (.aload_n 0, 1) := by decide +kernel
theorem dX12_back_27 : decode cX12_back 27 = .ok (.getfield 365, 3) := by decide +kernel
theorem dX12_back_30 : decode cX12_back 30 = .ok (.bipush 100, 2) := by decide +kernel
theorem dX12_back_32 : decode cX12_back 32 = .ok (.iadd, 1) := by decide +kernel
theorem dX12_back_33 : decode cX12_back 33 = .ok (.iload_n 1, 1) := by decide +kernel
theorem dX12_back_34 : decode cX12_back 34 = .ok (.isub, 1) := by decide +kernel
theorem dX12_back_35 : decode cX12_back 35 = .ok (.bipush 100, 2) := by decide +kernel
theorem dX12_back_37 : decode cX12_back 37 = .ok (.irem, 1) := by decide +kernel
theorem dX12_back_38 : decode cX12_back 38 = .ok (.putfield 365, 3) := by decide +kernel
theorem dX12_back_41 : decode cX12_back 41 = .ok (.aload_n 0, 1) := by decide +kernel
theorem dX12_back_42 : decode cX12_back 42 = .ok (.dup, 1) := by decide +kernel
theorem dX12_back_43 : decode cX12_back 43 = .ok (.getfield 341, 3) := by decide +kernel
theorem dX12_back_46 : decode cX12_back 46 = .ok (.iload_n 1, 1) := by decide +kernel
theorem dX12_back_47 : decode cX12_back 47 = .ok (.isub, 1) := by decide +kernel
theorem dX12_back_48 : decode cX12_back 48 = .ok (.putfield 341, 3) := by decide +kernel
theorem dX12_back_51 : decode cX12_back 51 = .ok (.iconst 0, 1) := by decide +kernel
theorem dX12_back_52 : decode cX12_back 52 = .ok (.istore_n 2, 1) := by decide +kernel
theorem dX12_back_53 : decode cX12_back 53 = .ok (.iload_n 2, 1) := by decide +kernel
theorem dX12_back_54 : decode cX12_back 54 = .ok (.sipush 336, 3) := by decide +kernel
theorem dX12_back_57 : decode cX12_back 57 = .ok (.if_icmp .ge 30, 3) := by decide +kernel
theorem dX12_back_60 : decode cX12_back 60 = .ok (.aload_n 0, 1) := by decide +kernel
theorem dX12_back_61 : decode cX12_back 61 = .ok (.getfield 62, 3) := by decide +kernel
theorem dX12_back_64 : decode cX12_back 64 = .ok (.iload_n 2, 1) := by decide +kernel
theorem dX12_back_65 : decode cX12_back 65 = .ok (.aload_n 0, 1) := by decide +kernel
theorem dX12_back_66 : decode cX12_back 66 = .ok (.getfield 66, 3) := by decide +kernel
theorem dX12_back_69 : decode cX12_back 69 = .ok (.sipush 336, 3) := by decide +kernel
theorem dX12_back_72 : decode cX12_back 72 = .ok (.aload_n 0, 1) := by decide +kernel
theorem dX12_back_73 : decode cX12_back 73 = .ok (.getfield 365, 3) := by decide +kernel
theorem dX12_back_76 : decode cX12_back 76 = .ok (.imul, 1) := by decide +kernel
theorem dX12_back_77 : decode cX12_back 77 = .ok (.iload_n 2, 1) := by decide +kernel
theorem dX12_back_78 : decode cX12_back 78 = .ok (.iadd, 1) := by decide +kernel
theorem dX12_back_79 : decode cX12_back 79 = .ok (.iaload, 1) := by decide +kernel
theorem dX12_back_80 : decode cX12_back 80 = .ok (.iastore, 1) := by decide +kernel
theorem dX12_back_81 : decode cX12_back 81 = .ok (.iinc 2 1, 3) := by decide +kernel
theorem dX12_back_84 : decode cX12_back 84 = .ok (.goto (-31), 3) := by decide +kernel
theorem dX12_back_87 : decode cX12_back 87 = .ok (.aload_n 0, 1) := by decide +kernel
theorem dX12_back_88 : decode cX12_back 88 = .ok (.getfield 62, 3) := by decide +kernel
theorem dX12_back_91 : decode cX12_back 91 = .ok (.sipush 270, 3) := by decide +kernel
theorem dX12_back_94 : decode cX12_back 94 = .ok (.iconst 0, 1) := by decide +kernel
theorem dX12_back_95 : decode cX12_back 95 = .ok (.iastore, 1) := by decide +kernel
theorem dX12_back_96 : decode cX12_back 96 = .ok (.aload_n 0, 1) := by decide +kernel
theorem dX12_back_97 : decode cX12_back 97 = .ok (.getfield 341, 3) := by decide +kernel
theorem dX12_back_100 : decode cX12_back 100 = .ok (.ireturn, 1) := by decide +kernel
theorem dX12_so_0 : decode cX12_so 0 = .ok (.iload_n 1, 1) := by decide +kernel
theorem dX12_so_1 : decode cX12_so 1 = .ok (.i2l, 1) := by decide +kernel
theorem dX12_so_2 : decode cX12_so 2 = .ok (.lconst 0, 1) := by decide +kernel
theorem dX12_so_3 : decode cX12_so 3 = .ok (.ldc2_w 174, 3) := by decide +kernel
theorem dX12_so_6 : decode cX12_so 6 = .ok (.invokestatic 170, 3) := by decide +kernel
theorem dX12_so_9 : decode cX12_so 9 = .ok (.ifCond .eq 16, 3) := by decide +kernel
theorem dX12_so_12 : decode cX12_so 12 = .ok (.aload_n 0, 1) := by decide +kernel
theorem dX12_so_13 : decode cX12_so 13 = .ok (.getfield 62, 3) := by decide +kernel
theorem dX12_so_16 : decode cX12_so 16 = .ok (.sipush 266, 3) := by decide +kernel
theorem dX12_so_19 : decode cX12_so 19 = .ok (.iload_n 1, 1) := by decide +kernel
theorem dX12_so_20 : decode cX12_so 20 = .ok (.iadd, 1) := by decide +kernel
theorem dX12_so_21 : decode cX12_so 21 = .ok (.iaload, 1) := by decide +kernel
theorem dX12_so_22 : decode cX12_so 22 = .ok (.goto 4, 3) := by decide +kernel
theorem dX12_so_25 : decode cX12_so 25 = .ok (.iconst (-1), 1) := by decide +kernel
theorem dX12_so_26 : decode cX12_so 26 = .ok (.ireturn, 1) := by decide +kernel
theorem dX12_flush_0 : decode cX12_flush 0 = .ok (.iload_n 1, 1) := by decide +kernel
theorem dX12_flush_1 : decode cX12_flush 1 = .ok (.i2l, 1) := by decide +kernel
theorem dX12_flush_2 : decode cX12_flush 2 = .ok (.lconst 0, 1) := by decide +kernel
theorem dX12_flush_3 : decode cX12_flush 3 = .ok (.ldc2_w 388, 3) := by decide +kernel
theorem dX12_flush_6 : decode cX12_flush 6 = .ok (.invokestatic 170, 3) := by decide +kernel
theorem dX12_flush_9 : decode cX12_flush 9 = .ok (.ifCond .ne 5, 3) := by decide +kernel
theorem dX12_flush_12 : decode cX12_flush 12 = .ok (.iconst (-1), 1) := by decide +kernel
theorem dX12_flush_13 : decode cX12_flush 13 = .ok (.ireturn, 1) := by decide +kernel
theorem dX12_flush_14 : decode cX12_flush 14 = .ok (.aload_n 0, 1) := by decide +kernel
theorem dX12_flush_15 : decode cX12_flush 15 = .ok (.getfield 72, 3) := by decide +kernel
theorem dX12_flush_18 : decode cX12_flush 18 = .ok (.istore_n 2, 1) := by decide +kernel
theorem dX12_flush_19 : decode cX12_flush 19 = .ok (.aload_n 0, 1) := by decide +kernel
theorem dX12_flush_20 : decode cX12_flush 20 = .ok (.iload_n 1, 1) := by decide +kernel
theorem dX12_flush_21 : decode cX12_flush 21 = .ok (.putfield 72, 3) := by decide +kernel
theorem dX12_flush_24 : decode cX12_flush 24 = .ok (.iload_n 2, 1) := by decide +kernel
theorem dX12_flush_25 : decode cX12_flush 25 = .ok (.ireturn, 1) := by decide +kernel
theorem dX12_ownerOf_0 : decode cX12_ownerOf 0 = .ok (.aload_n 0, 1) := by decide +kernel
theorem dX12_ownerOf_1 : decode cX12_ownerOf 1 = .ok (.getfield 153, 3) := by decide +kernel
theorem dX12_ownerOf_4 : decode cX12_ownerOf 4 = .ok (.ifCond .ne 37, 3) := by decide +kernel
theorem dX12_ownerOf_7 : decode cX12_ownerOf 7 = .ok (.aload_n 0, 1) := by decide +kernel
theorem dX12_ownerOf_8 : decode cX12_ownerOf 8 = .ok (.iconst 1, 1) := by decide +kernel
theorem dX12_ownerOf_9 : decode cX12_ownerOf 9 = .ok (.putfield 153, 3) := by decide +kernel
theorem dX12_ownerOf_12 : decode cX12_ownerOf 12 = .ok (.iconst 0, 1) := by decide +kernel
theorem dX12_ownerOf_13 : decode cX12_ownerOf 13 = .ok (.istore_n 2, 1) := by decide +kernel
theorem dX12_ownerOf_14 : decode cX12_ownerOf 14 = .ok (.iload_n 2, 1) := by decide +kernel
theorem dX12_ownerOf_15 : decode cX12_ownerOf 15 = .ok (.iconst 1, 1) := by decide +kernel
theorem dX12_ownerOf_16 : decode cX12_ownerOf 16 = .ok (.aload_n 0, 1) := by decide +kernel
theorem dX12_ownerOf_17 : decode cX12_ownerOf 17 = .ok (.getfield 16, 3) := by decide +kernel
theorem dX12_ownerOf_20 : decode cX12_ownerOf 20 = .ok (.ishl, 1) := by decide +kernel
theorem dX12_ownerOf_21 : decode cX12_ownerOf 21 = .ok (.if_icmp .ge 20, 3) := by decide +kernel
theorem dX12_ownerOf_24 : decode cX12_ownerOf 24 = .ok (.aload_n 0, 1) := by decide +kernel
theorem dX12_ownerOf_25 : decode cX12_ownerOf 25 = .ok (.getfield 75, 3) := by decide +kernel
theorem dX12_ownerOf_28 : decode cX12_ownerOf 28 = .ok (.iload_n 2, 1) := by decide +kernel
theorem dX12_ownerOf_29 : decode cX12_ownerOf 29 = .ok (.aload_n 0, 1) := by decide +kernel
theorem dX12_ownerOf_30 : decode cX12_ownerOf 30 = .ok (.iload_n 2, 1) := by decide +kernel
theorem dX12_ownerOf_31 : decode cX12_ownerOf 31 = .ok (.invokevirtual 286, 3) := by decide +kernel
theorem dX12_ownerOf_34 : decode cX12_ownerOf 34 = .ok (.iastore, 1) := by decide +kernel
theorem dX12_ownerOf_35 : decode cX12_ownerOf 35 = .ok (.iinc 2 1, 3) := by decide +kernel
theorem dX12_ownerOf_38 : decode cX12_ownerOf 38 = .ok (.goto (-24), 3) := by decide +kernel
theorem dX12_ownerOf_41 : decode cX12_ownerOf 41 = .ok (.aload_n 0, 1) := by decide +kernel
theorem dX12_ownerOf_42 : decode cX12_ownerOf 42 = .ok (.getfield 75, 3) := by decide +kernel
theorem dX12_ownerOf_45 : decode cX12_ownerOf 45 = .ok (.iload_n 1, 1) := by decide +kernel
theorem dX12_ownerOf_46 : decode cX12_ownerOf 46 = .ok (.iaload, 1) := by decide +kernel
theorem dX12_ownerOf_47 : decode cX12_ownerOf 47 = .ok (.ireturn, 1) := by decide +kernel
theorem dX12_bitsOf_0 : decode cX12_bitsOf 0 = .ok (.iconst 0, 1) := by decide +kernel
theorem dX12_bitsOf_1 : decode cX12_bitsOf 1 = .ok (.istore_n 2, 1) := by decide +kernel
theorem dX12_bitsOf_2 : decode cX12_bitsOf 2 = .ok (.aload_n 0, 1) := by decide +kernel
theorem dX12_bitsOf_3 : decode cX12_bitsOf 3 = .ok (.iload_n 1, 1) := by decide +kernel
theorem dX12_bitsOf_4 : decode cX12_bitsOf 4 = .ok (.iconst 0, 1) := by decide +kernel
theorem dX12_bitsOf_5 : decode cX12_bitsOf 5 = .ok (.invokevirtual 184, 3) := by decide +kernel
theorem dX12_bitsOf_8 : decode cX12_bitsOf 8 = .ok (.istore_n 3, 1) := by decide +kernel
theorem dX12_bitsOf_9 : decode cX12_bitsOf 9 = .ok (.aload_n 0, 1) := by decide +kernel
theorem dX12_bitsOf_10 : decode cX12_bitsOf 10 = .ok (.iload_n 1, 1) := by decide +kernel
theorem dX12_bitsOf_11 : decode cX12_bitsOf 11 = .ok (.iconst 1, 1) := by decide +kernel
theorem dX12_bitsOf_12 : decode cX12_bitsOf 12 = .ok (.invokevirtual 184, 3) := by decide +kernel
theorem dX12_bitsOf_15 : decode cX12_bitsOf 15 = .ok (.istore 4, 2) := by decide +kernel
theorem dX12_bitsOf_17 : decode cX12_bitsOf 17 = .ok (.aload_n 0, 1) := by decide +kernel
theorem dX12_bitsOf_18 : decode cX12_bitsOf 18 = .ok (.iload_n 1, 1) := by decide +kernel
theorem dX12_bitsOf_19 : decode cX12_bitsOf 19 = .ok (.iconst 2, 1) := by decide +kernel
theorem dX12_bitsOf_20 : decode cX12_bitsOf 20 = .ok (.invokevirtual 184, 3) := by decide +kernel
theorem dX12_bitsOf_23 : decode cX12_bitsOf 23 = .ok (.istore 5, 2) := by decide +kernel
theorem dX12_bitsOf_25 : decode cX12_bitsOf 25 = .ok (.aload_n 0, 1) := by decide +kernel
theorem dX12_bitsOf_26 : decode cX12_bitsOf 26 = .ok (.iload_n 1, 1) := by decide +kernel
theorem dX12_bitsOf_27 : decode cX12_bitsOf 27 = .ok (.iconst 3, 1) := by decide +kernel
theorem dX12_bitsOf_28 : decode cX12_bitsOf 28 = .ok (.invokevirtual 184, 3) := by decide +kernel
theorem dX12_bitsOf_31 : decode cX12_bitsOf 31 = .ok (.istore 6, 2) := by decide +kernel
theorem dX12_bitsOf_33 : decode cX12_bitsOf 33 = .ok (.iconst 0, 1) := by decide +kernel
theorem dX12_bitsOf_34 : decode cX12_bitsOf 34 = .ok (.istore 7, 2) := by decide +kernel
theorem dX12_bitsOf_36 : decode cX12_bitsOf 36 = .ok (.iload 7, 2) := by decide +kernel
theorem dX12_bitsOf_38 : decode cX12_bitsOf 38 = .ok (.aload_n 0, 1) := by decide +kernel
theorem dX12_bitsOf_39 : decode cX12_bitsOf 39 = .ok (.getfield 16, 3) := by decide +kernel
theorem dX12_bitsOf_42 : decode cX12_bitsOf 42 = .ok (.if_icmp .ge 130, 3) := by decide +kernel
theorem dX12_bitsOf_45 : decode cX12_bitsOf 45 = .ok (.aload_n 0, 1) := by decide +kernel
theorem dX12_bitsOf_46 : decode cX12_bitsOf 46 = .ok (.getfield 23, 3) := by decide +kernel
theorem dX12_bitsOf_49 : decode cX12_bitsOf 49 = .ok (.bipush 12, 2) := by decide +kernel
theorem dX12_bitsOf_51 : decode cX12_bitsOf 51 = .ok (.iload_n 1, 1) := by decide +kernel
theorem dX12_bitsOf_52 : decode cX12_bitsOf 52 = .ok (.imul, 1) := by decide +kernel
theorem dX12_bitsOf_53 : decode cX12_bitsOf 53 = .ok (.iload 7, 2) := by decide +kernel
theorem dX12_bitsOf_55 : decode cX12_bitsOf 55 = .ok (.iadd, 1) := by decide +kernel
theorem dX12_bitsOf_56 : decode cX12_bitsOf 56 = .ok (.iaload, 1) := by decide +kernel
theorem dX12_bitsOf_57 : decode cX12_bitsOf 57 = .ok (.istore 8, 2) := by decide +kernel
theorem dX12_bitsOf_59 : decode cX12_bitsOf 59 = .ok (.iload 8, 2) := by decide +kernel
theorem dX12_bitsOf_61 : decode cX12_bitsOf 61 = .ok (.istore 9, 2) := by decide +kernel
theorem dX12_bitsOf_63 : decode cX12_bitsOf 63 = .ok (.iload 8, 2) := by decide +kernel
theorem dX12_bitsOf_65 : decode cX12_bitsOf 65 = .ok (.iconst 2, 1) := by decide +kernel
theorem dX12_bitsOf_66 : decode cX12_bitsOf 66 = .ok (.if_icmp .ne 21, 3) := by decide +kernel
theorem dX12_bitsOf_69 : decode cX12_bitsOf 69 = .ok (.iinc 3 (-1), 3) := by decide +kernel
theorem dX12_bitsOf_72 : decode cX12_bitsOf 72 = .ok (.aload_n 0, 1) := by decide +kernel
theorem dX12_bitsOf_73 : decode cX12_bitsOf 73 = .ok (.getfield 78, 3) := by decide +kernel
theorem dX12_bitsOf_76 : decode cX12_bitsOf 76 = .ok (.iconst 0, 1) := by decide +kernel
theorem dX12_bitsOf_77 : decode cX12_bitsOf 77 = .ok (.iaload, 1) := by decide +kernel
theorem dX12_bitsOf_78 : decode cX12_bitsOf 78 = .ok (.iload_n 3, 1) := by decide +kernel
theorem dX12_bitsOf_79 : decode cX12_bitsOf 79 = .ok (.ishr, 1) := by decide +kernel
theorem dX12_bitsOf_80 : decode cX12_bitsOf 80 = .ok (.iconst 1, 1) := by decide +kernel
theorem dX12_bitsOf_81 : decode cX12_bitsOf 81 = .ok (.iand, 1) := by decide +kernel
theorem dX12_bitsOf_82 : decode cX12_bitsOf 82 = .ok (.istore 9, 2) := by decide +kernel
theorem dX12_bitsOf_84 : decode cX12_bitsOf 84 = .ok (.goto 75, 3) := by decide +kernel
theorem dX12_bitsOf_87 : decode cX12_bitsOf 87 = .ok (.iload 8, 2) := by decide +kernel
theorem dX12_bitsOf_89 : decode cX12_bitsOf 89 = .ok (.iconst 3, 1) := by decide +kernel
theorem dX12_bitsOf_90 : decode cX12_bitsOf 90 = .ok (.if_icmp .ne 22, 3) := by decide +kernel
theorem dX12_bitsOf_93 : decode cX12_bitsOf 93 = .ok (.iinc 4 (-1), 3) := by decide +kernel
theorem dX12_bitsOf_96 : decode cX12_bitsOf 96 = .ok (.aload_n 0, 1) := by decide +kernel
theorem dX12_bitsOf_97 : decode cX12_bitsOf 97 = .ok (.getfield 78, 3) := by decide +kernel
theorem dX12_bitsOf_100 : decode cX12_bitsOf 100 = .ok (.iconst 1, 1) := by decide +kernel
theorem dX12_bitsOf_101 : decode cX12_bitsOf 101 = .ok (.iaload, 1) := by decide +kernel
theorem dX12_bitsOf_102 : decode cX12_bitsOf 102 = .ok (.iload 4, 2) := by decide +kernel
theorem dX12_bitsOf_104 : decode cX12_bitsOf 104 = .ok (.ishr, 1) := by decide +kernel
theorem dX12_bitsOf_105 : decode cX12_bitsOf 105 = .ok (.iconst 1, 1) := by decide +kernel
theorem dX12_bitsOf_106 : decode cX12_bitsOf 106 = .ok (.iand, 1) := by decide +kernel
theorem dX12_bitsOf_107 : decode cX12_bitsOf 107 = .ok (.istore 9, 2) := by decide +kernel
theorem dX12_bitsOf_109 : decode cX12_bitsOf 109 = .ok (.goto 50, 3) := by decide +kernel
theorem dX12_bitsOf_112 : decode cX12_bitsOf 112 = .ok (.iload 8, 2) := by decide +kernel
theorem dX12_bitsOf_114 : decode cX12_bitsOf 114 = .ok (.iconst 4, 1) := by decide +kernel
theorem dX12_bitsOf_115 : decode cX12_bitsOf 115 = .ok (.if_icmp .ne 22, 3) := by decide +kernel
theorem dX12_bitsOf_118 : decode cX12_bitsOf 118 = .ok (.iinc 5 (-1), 3) := by decide +kernel
theorem dX12_bitsOf_121 : decode cX12_bitsOf 121 = .ok (.aload_n 0, 1) := by decide +kernel
theorem dX12_bitsOf_122 : decode cX12_bitsOf 122 = .ok (.getfield 78, 3) := by decide +kernel
theorem dX12_bitsOf_125 : decode cX12_bitsOf 125 = .ok (.iconst 2, 1) := by decide +kernel
theorem dX12_bitsOf_126 : decode cX12_bitsOf 126 = .ok (.iaload, 1) := by decide +kernel
theorem dX12_bitsOf_127 : decode cX12_bitsOf 127 = .ok (.iload 5, 2) := by decide +kernel
theorem dX12_bitsOf_129 : decode cX12_bitsOf 129 = .ok (.ishr, 1) := by decide +kernel
theorem dX12_bitsOf_130 : decode cX12_bitsOf 130 = .ok (.iconst 1, 1) := by decide +kernel
theorem dX12_bitsOf_131 : decode cX12_bitsOf 131 = .ok (.iand, 1) := by decide +kernel
theorem dX12_bitsOf_132 : decode cX12_bitsOf 132 = .ok (.istore 9, 2) := by decide +kernel
theorem dX12_bitsOf_134 : decode cX12_bitsOf 134 = .ok (.goto 25, 3) := by decide +kernel
theorem dX12_bitsOf_137 : decode cX12_bitsOf 137 = .ok (.iload 8, 2) := by decide +kernel
theorem dX12_bitsOf_139 : decode cX12_bitsOf 139 = .ok (.iconst 5, 1) := by decide +kernel
theorem dX12_bitsOf_140 : decode cX12_bitsOf 140 = .ok (.if_icmp .ne 19, 3) := by decide +kernel
theorem dX12_bitsOf_143 : decode cX12_bitsOf 143 = .ok (.iinc 6 (-1), 3) := by decide +kernel
theorem dX12_bitsOf_146 : decode cX12_bitsOf 146 = .ok (.aload_n 0, 1) := by decide +kernel
theorem dX12_bitsOf_147 : decode cX12_bitsOf 147 = .ok (.getfield 78, 3) := by decide +kernel
theorem dX12_bitsOf_150 : decode cX12_bitsOf 150 = .ok (.iconst 3, 1) := by decide +kernel
theorem dX12_bitsOf_151 : decode cX12_bitsOf 151 = .ok (.iaload, 1) := by decide +kernel
theorem dX12_bitsOf_152 : decode cX12_bitsOf 152 = .ok (.iload 6, 2) := by decide +kernel
theorem dX12_bitsOf_154 : decode cX12_bitsOf 154 = .ok (.ishr, 1) := by decide +kernel
theorem dX12_bitsOf_155 : decode cX12_bitsOf 155 = .ok (.iconst 1, 1) := by decide +kernel
theorem dX12_bitsOf_156 : decode cX12_bitsOf 156 = .ok (.iand, 1) := by decide +kernel
theorem dX12_bitsOf_157 : decode cX12_bitsOf 157 = .ok (.istore 9, 2) := by decide +kernel
theorem dX12_bitsOf_159 : decode cX12_bitsOf 159 = .ok (.iconst 2, 1) := by decide +kernel
theorem dX12_bitsOf_160 : decode cX12_bitsOf 160 = .ok (.iload_n 2, 1) := by decide +kernel
theorem dX12_bitsOf_161 : decode cX12_bitsOf 161 = .ok (.imul, 1) := by decide +kernel
theorem dX12_bitsOf_162 : decode cX12_bitsOf 162 = .ok (.iload 9, 2) := by decide +kernel
theorem dX12_bitsOf_164 : decode cX12_bitsOf 164 = .ok (.iadd, 1) := by decide +kernel
theorem dX12_bitsOf_165 : decode cX12_bitsOf 165 = .ok (.istore_n 2, 1) := by decide +kernel
theorem dX12_bitsOf_166 : decode cX12_bitsOf 166 = .ok (.iinc 7 1, 3) := by decide +kernel
theorem dX12_bitsOf_169 : decode cX12_bitsOf 169 = .ok (.goto (-133), 3) := by decide +kernel
theorem dX12_bitsOf_172 : decode cX12_bitsOf 172 = .ok (.iload_n 2, 1) := by decide +kernel
theorem dX12_bitsOf_173 : decode cX12_bitsOf 173 = .ok (.ireturn, 1) := by decide +kernel
theorem dX12_readLine_0 : decode cX12_readLine 0 = .ok (.aload_n 0, 1) := by decide +kernel
theorem dX12_readLine_1 : decode cX12_readLine 1 = .ok (.iconst 0, 1) := by decide +kernel
theorem dX12_readLine_2 : decode cX12_readLine 2 = .ok (.putfield 200, 3) := by decide +kernel
theorem dX12_readLine_5 : decode cX12_readLine 5 = .ok (.aload_n 0, 1) := by decide +kernel
theorem dX12_readLine_6 : decode cX12_readLine 6 = .ok (.invokevirtual 218, 3) := by decide +kernel
theorem dX12_readLine_9 : decode cX12_readLine 9 = .ok (.istore_n 1, 1) := by decide +kernel
theorem dX12_readLine_10 : decode cX12_readLine 10 = .ok (.iload_n 1, 1) := by decide +kernel
theorem dX12_readLine_11 : decode cX12_readLine 11 = .ok (.ifCond .ne 7, 3) := by decide +kernel
theorem dX12_readLine_14 : decode cX12_readLine 14 = .ok (.iconst (-1), 1) := by decide +kernel
theorem dX12_readLine_15 : decode cX12_readLine 15 = .ok (.goto 8, 3) := by decide +kernel
theorem dX12_readLine_18 : decode cX12_readLine 18 = .ok (.aload_n 0, 1) := by decide +kernel
theorem dX12_readLine_19 : decode cX12_readLine 19 = .ok (.iload_n 1, 1) := by decide +kernel
theorem dX12_readLine_20 : decode cX12_readLine 20 = .ok (.invokevirtual 221, 3) := by decide +kernel
theorem dX12_readLine_23 : decode cX12_readLine 23 = .ok (.istore_n 2, 1) := by decide +kernel
theorem dX12_readLine_24 : decode cX12_readLine 24 = .ok (.iload_n 2, 1) := by decide +kernel
theorem dX12_readLine_25 : decode cX12_readLine 25 = .ok (.ifCond .ge 13, 3) := by decide +kernel
theorem dX12_readLine_28 : decode cX12_readLine 28 = .ok (.aload_n 0, 1) := by decide +kernel
theorem dX12_readLine_29 : decode cX12_readLine 29 = .ok (.aload_n 0, 1) := by decide +kernel
theorem dX12_readLine_30 : decode cX12_readLine 30 = .ok (.getfield 211, 3) := by decide +kernel
theorem dX12_readLine_33 : decode cX12_readLine 33 = .ok (.putfield 200, 3) := by decide +kernel
theorem dX12_readLine_36 : decode cX12_readLine 36 = .ok (.iconst (-1), 1) := by decide +kernel
theorem dX12_readLine_37 : decode cX12_readLine 37 = .ok (.ireturn, 1) := by decide +kernel
theorem dX12_readLine_38 : decode cX12_readLine 38 = .ok (.iconst 1, 1) := by decide +kernel
theorem dX12_readLine_39 : decode cX12_readLine 39 = .ok (.istore_n 3, 1) := by decide +kernel
theorem dX12_readLine_40 : decode cX12_readLine 40 = .ok (.iconst 0, 1) := by decide +kernel
theorem dX12_readLine_41 : decode cX12_readLine 41 = .ok (.istore 4, 2) := by decide +kernel
theorem dX12_readLine_43 : decode cX12_readLine 43 = .ok (.iload 4, 2) := by decide +kernel
theorem dX12_readLine_45 : decode cX12_readLine 45 = .ok (.iconst 4, 1) := by decide +kernel
theorem dX12_readLine_46 : decode cX12_readLine 46 = .ok (.if_icmp .ge 70, 3) := by decide +kernel
theorem dX12_readLine_49 : decode cX12_readLine 49 = .ok (.aload_n 0, 1) := by decide +kernel
theorem dX12_readLine_50 : decode cX12_readLine 50 = .ok (.iload_n 2, 1) := by decide +kernel
theorem dX12_readLine_51 : decode cX12_readLine 51 = .ok (.iload 4, 2) := by decide +kernel
theorem dX12_readLine_53 : decode cX12_readLine 53 = .ok (.invokevirtual 188, 3) := by decide +kernel
theorem dX12_readLine_56 : decode cX12_readLine 56 = .ok (.ifCond .eq 54, 3) := by decide +kernel
theorem dX12_readLine_59 : decode cX12_readLine 59 = .ok (.iload_n 3, 1) := by decide +kernel
theorem dX12_readLine_60 : decode cX12_readLine 60 = .ok (.ifCond .ne 14, 3) := by decide +kernel
theorem dX12_readLine_63 : decode cX12_readLine 63 = .ok (.aload_n 0, 1) := by decide +kernel
theorem dX12_readLine_64 : decode cX12_readLine 64 = .ok (.bipush 44, 2) := by decide +kernel
theorem dX12_readLine_66 : decode cX12_readLine 66 = .ok (.invokevirtual 234, 3) := by decide +kernel
theorem dX12_readLine_69 : decode cX12_readLine 69 = .ok (.ifCond .ne 5, 3) := by decide +kernel
theorem dX12_readLine_72 : decode cX12_readLine 72 = .ok (.iconst (-1), 1) := by decide +kernel
theorem dX12_readLine_73 : decode cX12_readLine 73 = .ok (.ireturn, 1) := by decide +kernel
theorem dX12_readLine_74 : decode cX12_readLine 74 = .ok (.iconst 0, 1) := by decide +kernel
theorem dX12_readLine_75 : decode cX12_readLine 75 = .ok (.istore_n 3, 1) := by decide +kernel
theorem dX12_readLine_76 : decode cX12_readLine 76 = .ok (.aload_n 0, 1) := by decide +kernel
theorem dX12_readLine_77 : decode cX12_readLine 77 = .ok (.getfield 78, 3) := by decide +kernel
theorem dX12_readLine_80 : decode cX12_readLine 80 = .ok (.iload 4, 2) := by decide +kernel
theorem dX12_readLine_82 : decode cX12_readLine 82 = .ok (.aload_n 0, 1) := by decide +kernel
theorem dX12_readLine_83 : decode cX12_readLine 83 = .ok (.iconst 1, 1) := by decide +kernel
theorem dX12_readLine_84 : decode cX12_readLine 84 = .ok (.aload_n 0, 1) := by decide +kernel
theorem dX12_readLine_85 : decode cX12_readLine 85 = .ok (.iload_n 2, 1) := by decide +kernel
theorem dX12_readLine_86 : decode cX12_readLine 86 = .ok (.iload 4, 2) := by decide +kernel
theorem dX12_readLine_88 : decode cX12_readLine 88 = .ok (.invokevirtual 184, 3) := by decide +kernel
theorem dX12_readLine_91 : decode cX12_readLine 91 = .ok (.ishl, 1) := by decide +kernel
theorem dX12_readLine_92 : decode cX12_readLine 92 = .ok (.iconst 1, 1) := by decide +kernel
theorem dX12_readLine_93 : decode cX12_readLine 93 = .ok (.isub, 1) := by decide +kernel
theorem dX12_readLine_94 : decode cX12_readLine 94 = .ok (.invokevirtual 238, 3) := by decide +kernel
theorem dX12_readLine_97 : decode cX12_readLine 97 = .ok (.iastore, 1) := by decide +kernel
theorem dX12_readLine_98 : decode cX12_readLine 98 = .ok (.aload_n 0, 1) := by decide +kernel
theorem dX12_readLine_99 : decode cX12_readLine 99 = .ok (.getfield 78, 3) := by decide +kernel
theorem dX12_readLine_102 : decode cX12_readLine 102 = .ok (.iload 4, 2) := by decide +kernel
theorem dX12_readLine_104 : decode cX12_readLine 104 = .ok (.iaload, 1) := by decide +kernel
theorem dX12_readLine_105 : decode cX12_readLine 105 = .ok (.ifCond .ge 5, 3) := by decide +kernel
theorem dX12_readLine_108 : decode cX12_readLine 108 = .ok (.iconst (-1), 1) := by decide +kernel
theorem dX12_readLine_109 : decode cX12_readLine 109 = .ok (.ireturn, 1) := by decide +kernel
theorem dX12_readLine_110 : decode cX12_readLine 110 = .ok (.iinc 4 1, 3) := by decide +kernel
theorem dX12_readLine_113 : decode cX12_readLine 113 = .ok (.goto (-70), 3) := by decide +kernel
theorem dX12_readLine_116 : decode cX12_readLine 116 = .ok (.aload_n 0, 1) := by decide +kernel
theorem dX12_readLine_117 : decode cX12_readLine 117 = .ok (.invokevirtual 203, 3) := by decide +kernel
theorem dX12_readLine_120 : decode cX12_readLine 120 = .ok (.ifCond .ge 7, 3) := by decide +kernel
theorem dX12_readLine_123 : decode cX12_readLine 123 = .ok (.iload_n 2, 1) := by decide +kernel
theorem dX12_readLine_124 : decode cX12_readLine 124 = .ok (.goto 4, 3) := by decide +kernel
theorem dX12_readLine_127 : decode cX12_readLine 127 = .ok (.iconst (-1), 1) := by decide +kernel
theorem dX12_readLine_128 : decode cX12_readLine 128 = .ok (.ireturn, 1) := by decide +kernel
theorem dX12_line_0 : decode cX12_line 0 = .ok (.aload_n 0, 1) := by decide +kernel
theorem dX12_line_1 : decode cX12_line 1 = .ok (.invokevirtual 390, 3) := by decide +kernel
theorem dX12_line_4 : decode cX12_line 4 = .ok (.istore_n 1, 1) := by decide +kernel
theorem dX12_line_5 : decode cX12_line 5 = .ok (.aload_n 0, 1) := by decide +kernel
theorem dX12_line_6 : decode cX12_line 6 = .ok (.iconst 0, 1) := by decide +kernel
theorem dX12_line_7 : decode cX12_line 7 = .ok (.putfield 197, 3) := by decide +kernel
theorem dX12_line_10 : decode cX12_line 10 = .ok (.iload_n 1, 1) := by decide +kernel
theorem dX12_line_11 : decode cX12_line 11 = .ok (.ifCond .ge 13, 3) := by decide +kernel
theorem dX12_line_14 : decode cX12_line 14 = .ok (.bipush (-20), 2) := by decide +kernel
theorem dX12_line_16 : decode cX12_line 16 = .ok (.aload_n 0, 1) := by decide +kernel
theorem dX12_line_17 : decode cX12_line 17 = .ok (.getfield 200, 3) := by decide +kernel
theorem dX12_line_20 : decode cX12_line 20 = .ok (.isub, 1) := by decide +kernel
theorem dX12_line_21 : decode cX12_line 21 = .ok (.goto 8, 3) := by decide +kernel
theorem dX12_line_24 : decode cX12_line 24 = .ok (.aload_n 0, 1) := by decide +kernel
theorem dX12_line_25 : decode cX12_line 25 = .ok (.iload_n 1, 1) := by decide +kernel
theorem dX12_line_26 : decode cX12_line 26 = .ok (.invokevirtual 393, 3) := by decide +kernel
theorem dX12_line_29 : decode cX12_line 29 = .ok (.ireturn, 1) := by decide +kernel
theorem dX12_write_0 : decode cX12_write 0 = .ok (.aload_n 0, 1) := by decide +kernel
theorem dX12_write_1 : decode cX12_write 1 = .ok (.getfield 81, 3) := by decide +kernel
theorem dX12_write_4 : decode cX12_write 4 = .ok (.aload_n 0, 1) := by decide +kernel
theorem dX12_write_5 : decode cX12_write 5 = .ok (.getfield 396, 3) := by decide +kernel
theorem dX12_write_8 : decode cX12_write 8 = .ok (.iload_n 1, 1) := by decide +kernel
theorem dX12_write_9 : decode cX12_write 9 = .ok (.iastore, 1) := by decide +kernel
theorem dX12_write_10 : decode cX12_write 10 = .ok (.aload_n 0, 1) := by decide +kernel
theorem dX12_write_11 : decode cX12_write 11 = .ok (.dup, 1) := by decide +kernel
theorem dX12_write_12 : decode cX12_write 12 = .ok (.getfield 396, 3) := by decide +kernel
theorem dX12_write_15 : decode cX12_write 15 = .ok (.iconst 1, 1) := by decide +kernel
theorem dX12_write_16 : decode cX12_write 16 = .ok (.iadd, 1) := by decide +kernel
theorem dX12_write_17 : decode cX12_write 17 = .ok (.putfield 396, 3) := by decide +kernel
theorem dX12_write_20 : decode cX12_write 20 = .ok (.return_, 1) := by decide +kernel
theorem dX12_writeLine_0 : decode cX12_writeLine 0 = .ok (.aload_n 0, 1) := by decide +kernel
theorem dX12_writeLine_1 : decode cX12_writeLine 1 = .ok (.iconst 0, 1) := by decide +kernel
theorem dX12_writeLine_2 : decode cX12_writeLine 2 = .ok (.putfield 396, 3) := by decide +kernel
theorem dX12_writeLine_5 : decode cX12_writeLine 5 = .ok (.aload_n 0, 1) := by decide +kernel
theorem dX12_writeLine_6 : decode cX12_writeLine 6 = .ok (.getfield 19, 3) := by decide +kernel
theorem dX12_writeLine_9 : decode cX12_writeLine 9 = .ok (.iload_n 1, 1) := by decide +kernel
theorem dX12_writeLine_10 : decode cX12_writeLine 10 = .ok (.iaload, 1) := by decide +kernel
theorem dX12_writeLine_11 : decode cX12_writeLine 11 = .ok (.istore_n 3, 1) := by decide +kernel
theorem dX12_writeLine_12 : decode cX12_writeLine 12 = .ok (.sipush 729, 3) := by decide +kernel
theorem dX12_writeLine_15 : decode cX12_writeLine 15 = .ok (.istore 4, 2) := by decide +kernel
theorem dX12_writeLine_17 : decode cX12_writeLine 17 = .ok (.iload 4, 2) := by decide +kernel
theorem dX12_writeLine_19 : decode cX12_writeLine 19 = .ok (.ifCond .le 35, 3) := by decide +kernel
theorem dX12_writeLine_22 : decode cX12_writeLine 22 = .ok (.iload_n 3, 1) := by decide +kernel
theorem dX12_writeLine_23 : decode cX12_writeLine 23 = .ok (.iload 4, 2) := by decide +kernel
theorem dX12_writeLine_25 : decode cX12_writeLine 25 = .ok (.if_icmp .lt 19, 3) := by decide +kernel
theorem dX12_writeLine_28 : decode cX12_writeLine 28 = .ok (.aload_n 0, 1) := by decide +kernel
theorem dX12_writeLine_29 : decode cX12_writeLine 29 = .ok (.bipush 97, 2) := by decide +kernel
theorem dX12_writeLine_31 : decode cX12_writeLine 31 = .ok (.iload_n 3, 1) := by decide +kernel
theorem dX12_writeLine_32 : decode cX12_writeLine 32 = .ok (.iload 4, 2) := by decide +kernel
theorem dX12_writeLine_34 : decode cX12_writeLine 34 = .ok (.idiv, 1) := by decide +kernel
theorem dX12_writeLine_35 : decode cX12_writeLine 35 = .ok (.bipush 27, 2) := by decide +kernel
theorem dX12_writeLine_37 : decode cX12_writeLine 37 = .ok (.irem, 1) := by decide +kernel
theorem dX12_writeLine_38 : decode cX12_writeLine 38 = .ok (.iadd, 1) := by decide +kernel
theorem dX12_writeLine_39 : decode cX12_writeLine 39 = .ok (.iconst 1, 1) := by decide +kernel
theorem dX12_writeLine_40 : decode cX12_writeLine 40 = .ok (.isub, 1) := by decide +kernel
theorem dX12_writeLine_41 : decode cX12_writeLine 41 = .ok (.invokevirtual 399, 3) := by decide +kernel
theorem dX12_writeLine_44 : decode cX12_writeLine 44 = .ok (.iload 4, 2) := by decide +kernel
theorem dX12_writeLine_46 : decode cX12_writeLine 46 = .ok (.bipush 27, 2) := by decide +kernel
theorem dX12_writeLine_48 : decode cX12_writeLine 48 = .ok (.idiv, 1) := by decide +kernel
theorem dX12_writeLine_49 : decode cX12_writeLine 49 = .ok (.istore 4, 2) := by decide +kernel
theorem dX12_writeLine_51 : decode cX12_writeLine 51 = .ok (.goto (-34), 3) := by decide +kernel
theorem dX12_writeLine_54 : decode cX12_writeLine 54 = .ok (.iconst 1, 1) := by decide +kernel
theorem dX12_writeLine_55 : decode cX12_writeLine 55 = .ok (.istore 4, 2) := by decide +kernel
theorem dX12_writeLine_57 : decode cX12_writeLine 57 = .ok (.iconst 0, 1) := by decide +kernel
theorem dX12_writeLine_58 : decode cX12_writeLine 58 = .ok (.istore 5, 2) := by decide +kernel
theorem dX12_writeLine_60 : decode cX12_writeLine 60 = .ok (.iload 5, 2) := by decide +kernel
theorem dX12_writeLine_62 : decode cX12_writeLine 62 = .ok (.iconst 4, 1) := by decide +kernel
theorem dX12_writeLine_63 : decode cX12_writeLine 63 = .ok (.if_icmp .ge 101, 3) := by decide +kernel
theorem dX12_writeLine_66 : decode cX12_writeLine 66 = .ok (.aload_n 0, 1) := by decide +kernel
theorem dX12_writeLine_67 : decode cX12_writeLine 67 = .ok (.iload_n 1, 1) := by decide +kernel
theorem dX12_writeLine_68 : decode cX12_writeLine 68 = .ok (.iload 5, 2) := by decide +kernel
theorem dX12_writeLine_70 : decode cX12_writeLine 70 = .ok (.invokevirtual 188, 3) := by decide +kernel
theorem dX12_writeLine_73 : decode cX12_writeLine 73 = .ok (.ifCond .eq 85, 3) := by decide +kernel
theorem dX12_writeLine_76 : decode cX12_writeLine 76 = .ok (.aload_n 0, 1) := by decide +kernel
theorem dX12_writeLine_77 : decode cX12_writeLine 77 = .ok (.iload 4, 2) := by decide +kernel
theorem dX12_writeLine_79 : decode cX12_writeLine 79 = .ok (.ifCond .eq 8, 3) := by decide +kernel
theorem dX12_writeLine_82 : decode cX12_writeLine 82 = .ok (.bipush 32, 2) := by decide +kernel
theorem dX12_writeLine_84 : decode cX12_writeLine 84 = .ok (.goto 5, 3) := by decide +kernel
theorem dX12_writeLine_87 : decode cX12_writeLine 87 = .ok (.bipush 44, 2) := by decide +kernel
theorem dX12_writeLine_89 : decode cX12_writeLine 89 = .ok (.invokevirtual 399, 3) := by decide +kernel
theorem dX12_writeLine_92 : decode cX12_writeLine 92 = .ok (.iconst 0, 1) := by decide +kernel
theorem dX12_writeLine_93 : decode cX12_writeLine 93 = .ok (.istore 4, 2) := by decide +kernel
theorem dX12_writeLine_95 : decode cX12_writeLine 95 = .ok (.aload_n 0, 1) := by decide +kernel
theorem dX12_writeLine_96 : decode cX12_writeLine 96 = .ok (.iload_n 1, 1) := by decide +kernel
theorem dX12_writeLine_97 : decode cX12_writeLine 97 = .ok (.iload_n 2, 1) := by decide +kernel
theorem dX12_writeLine_98 : decode cX12_writeLine 98 = .ok (.iload 5, 2) := by decide +kernel
theorem dX12_writeLine_100 : decode cX12_writeLine 100 = .ok (.invokevirtual 289, 3) := by decide +kernel
theorem dX12_writeLine_103 : decode cX12_writeLine 103 = .ok (.istore 6, 2) := by decide +kernel
theorem dX12_writeLine_105 : decode cX12_writeLine 105 = .ok (.iload 6, 2) := by decide +kernel
theorem dX12_writeLine_107 : decode cX12_writeLine 107 = .ok (.bipush 99, 2) := by decide +kernel
theorem dX12_writeLine_109 : decode cX12_writeLine 109 = .ok (.if_icmp .le 15, 3) := by decide +kernel
theorem dX12_writeLine_112 : decode cX12_writeLine 112 = .ok (.aload_n 0, 1) := by decide +kernel
theorem dX12_writeLine_113 : decode cX12_writeLine 113 = .ok (.bipush 48, 2) := by decide +kernel
theorem dX12_writeLine_115 : decode cX12_writeLine 115 = .ok (.iload 6, 2) := by decide +kernel
theorem dX12_writeLine_117 : decode cX12_writeLine 117 = .ok (.bipush 100, 2) := by decide +kernel
theorem dX12_writeLine_119 : decode cX12_writeLine 119 = .ok (.idiv, 1) := by decide +kernel
theorem dX12_writeLine_120 : decode cX12_writeLine 120 = .ok (.iadd, 1) := by decide +kernel
theorem dX12_writeLine_121 : decode cX12_writeLine 121 = .ok (.invokevirtual 399, 3) := by decide +kernel
theorem dX12_writeLine_124 : decode cX12_writeLine 124 = .ok (.iload 6, 2) := by decide +kernel
theorem dX12_writeLine_126 : decode cX12_writeLine 126 = .ok (.bipush 9, 2) := by decide +kernel
theorem dX12_writeLine_128 : decode cX12_writeLine 128 = .ok (.if_icmp .le 18, 3) := by decide +kernel
theorem dX12_writeLine_131 : decode cX12_writeLine 131 = .ok (.aload_n 0, 1) := by decide +kernel
theorem dX12_writeLine_132 : decode cX12_writeLine 132 = .ok (.bipush 48, 2) := by decide +kernel
theorem dX12_writeLine_134 : decode cX12_writeLine 134 = .ok (.iload 6, 2) := by decide +kernel
theorem dX12_writeLine_136 : decode cX12_writeLine 136 = .ok (.bipush 10, 2) := by decide +kernel
theorem dX12_writeLine_138 : decode cX12_writeLine 138 = .ok (.idiv, 1) := by decide +kernel
theorem dX12_writeLine_139 : decode cX12_writeLine 139 = .ok (.bipush 10, 2) := by decide +kernel
theorem dX12_writeLine_141 : decode cX12_writeLine 141 = .ok (.irem, 1) := by decide +kernel
theorem dX12_writeLine_142 : decode cX12_writeLine 142 = .ok (.iadd, 1) := by decide +kernel
theorem dX12_writeLine_143 : decode cX12_writeLine 143 = .ok (.invokevirtual 399, 3) := by decide +kernel
theorem dX12_writeLine_146 : decode cX12_writeLine 146 = .ok (.aload_n 0, 1) := by decide +kernel
theorem dX12_writeLine_147 : decode cX12_writeLine 147 = .ok (.bipush 48, 2) := by decide +kernel
theorem dX12_writeLine_149 : decode cX12_writeLine 149 = .ok (.iload 6, 2) := by decide +kernel
theorem dX12_writeLine_151 : decode cX12_writeLine 151 = .ok (.bipush 10, 2) := by decide +kernel
theorem dX12_writeLine_153 : decode cX12_writeLine 153 = .ok (.irem, 1) := by decide +kernel
theorem dX12_writeLine_154 : decode cX12_writeLine 154 = .ok (.iadd, 1) := by decide +kernel
theorem dX12_writeLine_155 : decode cX12_writeLine 155 = .ok (.invokevirtual 399, 3) := by decide +kernel
theorem dX12_writeLine_158 : decode cX12_writeLine 158 = .ok (.iinc 5 1, 3) := by decide +kernel
theorem dX12_writeLine_161 : decode cX12_writeLine 161 = .ok (.goto (-101), 3) := by decide +kernel
theorem dX12_writeLine_164 : decode cX12_writeLine 164 = .ok (.return_, 1) := by decide +kernel
theorem dX12_text_0 : decode cX12_text 0 = .ok (.aload_n 0, 1) := by decide +kernel
theorem dX12_text_1 : decode cX12_text 1 = .ok (.iload_n 1, 1) := by decide +kernel
theorem dX12_text_2 : decode cX12_text 2 = .ok (.invokevirtual 280, 3) := by decide +kernel
theorem dX12_text_5 : decode cX12_text 5 = .ok (.ifCond .eq 8, 3) := by decide +kernel
theorem dX12_text_8 : decode cX12_text 8 = .ok (.iload_n 2, 1) := by decide +kernel
theorem dX12_text_9 : decode cX12_text 9 = .ok (.iconst (-1), 1) := by decide +kernel
theorem dX12_text_10 : decode cX12_text 10 = .ok (.if_icmp .ge 5, 3) := by decide +kernel
theorem dX12_text_13 : decode cX12_text 13 = .ok (.iconst (-1), 1) := by decide +kernel
theorem dX12_text_14 : decode cX12_text 14 = .ok (.ireturn, 1) := by decide +kernel
theorem dX12_text_15 : decode cX12_text 15 = .ok (.aload_n 0, 1) := by decide +kernel
theorem dX12_text_16 : decode cX12_text 16 = .ok (.iload_n 1, 1) := by decide +kernel
theorem dX12_text_17 : decode cX12_text 17 = .ok (.invokevirtual 283, 3) := by decide +kernel
theorem dX12_text_20 : decode cX12_text 20 = .ok (.istore_n 3, 1) := by decide +kernel
theorem dX12_text_21 : decode cX12_text 21 = .ok (.iload_n 3, 1) := by decide +kernel
theorem dX12_text_22 : decode cX12_text 22 = .ok (.ifCond .ge 6, 3) := by decide +kernel
theorem dX12_text_25 : decode cX12_text 25 = .ok (.bipush (-4), 2) := by decide +kernel
theorem dX12_text_27 : decode cX12_text 27 = .ok (.ireturn, 1) := by decide +kernel
theorem dX12_text_28 : decode cX12_text 28 = .ok (.aload_n 0, 1) := by decide +kernel
theorem dX12_text_29 : decode cX12_text 29 = .ok (.iload_n 3, 1) := by decide +kernel
theorem dX12_text_30 : decode cX12_text 30 = .ok (.iload_n 1, 1) := by decide +kernel
theorem dX12_text_31 : decode cX12_text 31 = .ok (.invokevirtual 403, 3) := by decide +kernel
theorem dX12_text_34 : decode cX12_text 34 = .ok (.iload_n 2, 1) := by decide +kernel
theorem dX12_text_35 : decode cX12_text 35 = .ok (.ifCond .ge 10, 3) := by decide +kernel
theorem dX12_text_38 : decode cX12_text 38 = .ok (.aload_n 0, 1) := by decide +kernel
theorem dX12_text_39 : decode cX12_text 39 = .ok (.getfield 396, 3) := by decide +kernel
theorem dX12_text_42 : decode cX12_text 42 = .ok (.goto 21, 3) := by decide +kernel
theorem dX12_text_45 : decode cX12_text 45 = .ok (.iload_n 2, 1) := by decide +kernel
theorem dX12_text_46 : decode cX12_text 46 = .ok (.aload_n 0, 1) := by decide +kernel
theorem dX12_text_47 : decode cX12_text 47 = .ok (.getfield 396, 3) := by decide +kernel
theorem dX12_text_50 : decode cX12_text 50 = .ok (.if_icmp .ge 12, 3) := by decide +kernel
theorem dX12_text_53 : decode cX12_text 53 = .ok (.aload_n 0, 1) := by decide +kernel
theorem dX12_text_54 : decode cX12_text 54 = .ok (.getfield 81, 3) := by decide +kernel
theorem dX12_text_57 : decode cX12_text 57 = .ok (.iload_n 2, 1) := by decide +kernel
theorem dX12_text_58 : decode cX12_text 58 = .ok (.iaload, 1) := by decide +kernel
theorem dX12_text_59 : decode cX12_text 59 = .ok (.goto 4, 3) := by decide +kernel
theorem dX12_text_62 : decode cX12_text 62 = .ok (.iconst (-1), 1) := by decide +kernel
theorem dX12_text_63 : decode cX12_text 63 = .ok (.ireturn, 1) := by decide +kernel
theorem dX12_variables_0 : decode cX12_variables 0 = .ok (.iload_n 1, 1) := by decide +kernel
theorem dX12_variables_1 : decode cX12_variables 1 = .ok (.i2l, 1) := by decide +kernel
theorem dX12_variables_2 : decode cX12_variables 2 = .ok (.lconst 1, 1) := by decide +kernel
theorem dX12_variables_3 : decode cX12_variables 3 = .ok (.iconst 1, 1) := by decide +kernel
theorem dX12_variables_4 : decode cX12_variables 4 = .ok (.aload_n 0, 1) := by decide +kernel
theorem dX12_variables_5 : decode cX12_variables 5 = .ok (.getfield 13, 3) := by decide +kernel
theorem dX12_variables_8 : decode cX12_variables 8 = .ok (.ishl, 1) := by decide +kernel
theorem dX12_variables_9 : decode cX12_variables 9 = .ok (.i2l, 1) := by decide +kernel
theorem dX12_variables_10 : decode cX12_variables 10 = .ok (.invokestatic 170, 3) := by decide +kernel
theorem dX12_variables_13 : decode cX12_variables 13 = .ok (.ifCond .ne 5, 3) := by decide +kernel
theorem dX12_variables_16 : decode cX12_variables 16 = .ok (.iconst (-1), 1) := by decide +kernel
theorem dX12_variables_17 : decode cX12_variables 17 = .ok (.ireturn, 1) := by decide +kernel
theorem dX12_variables_18 : decode cX12_variables 18 = .ok (.aload_n 0, 1) := by decide +kernel
theorem dX12_variables_19 : decode cX12_variables 19 = .ok (.getfield 84, 3) := by decide +kernel
theorem dX12_variables_22 : decode cX12_variables 22 = .ok (.istore_n 2, 1) := by decide +kernel
theorem dX12_variables_23 : decode cX12_variables 23 = .ok (.aload_n 0, 1) := by decide +kernel
theorem dX12_variables_24 : decode cX12_variables 24 = .ok (.iload_n 1, 1) := by decide +kernel
theorem dX12_variables_25 : decode cX12_variables 25 = .ok (.putfield 84, 3) := by decide +kernel
theorem dX12_variables_28 : decode cX12_variables 28 = .ok (.aload_n 0, 1) := by decide +kernel
theorem dX12_variables_29 : decode cX12_variables 29 = .ok (.iconst 0, 1) := by decide +kernel
theorem dX12_variables_30 : decode cX12_variables 30 = .ok (.putfield 160, 3) := by decide +kernel
theorem dX12_variables_33 : decode cX12_variables 33 = .ok (.iload_n 2, 1) := by decide +kernel
theorem dX12_variables_34 : decode cX12_variables 34 = .ok (.ireturn, 1) := by decide +kernel
theorem dX12_addNode_0 : decode cX12_addNode 0 = .ok (.aload_n 0, 1) := by decide +kernel
theorem dX12_addNode_1 : decode cX12_addNode 1 = .ok (.getfield 99, 3) := by decide +kernel
theorem dX12_addNode_4 : decode cX12_addNode 4 = .ok (.aload_n 0, 1) := by decide +kernel
theorem dX12_addNode_5 : decode cX12_addNode 5 = .ok (.getfield 406, 3) := by decide +kernel
theorem dX12_addNode_8 : decode cX12_addNode 8 = .ok (.iload_n 1, 1) := by decide +kernel
theorem dX12_addNode_9 : decode cX12_addNode 9 = .ok (.iastore, 1) := by decide +kernel
theorem dX12_addNode_10 : decode cX12_addNode 10 = .ok (.aload_n 0, 1) := by decide +kernel
theorem dX12_addNode_11 : decode cX12_addNode 11 = .ok (.getfield 102, 3) := by decide +kernel
theorem dX12_addNode_14 : decode cX12_addNode 14 = .ok (.aload_n 0, 1) := by decide +kernel
theorem dX12_addNode_15 : decode cX12_addNode 15 = .ok (.getfield 406, 3) := by decide +kernel
theorem dX12_addNode_18 : decode cX12_addNode 18 = .ok (.iload_n 2, 1) := by decide +kernel
theorem dX12_addNode_19 : decode cX12_addNode 19 = .ok (.iastore, 1) := by decide +kernel
theorem dX12_addNode_20 : decode cX12_addNode 20 = .ok (.aload_n 0, 1) := by decide +kernel
theorem dX12_addNode_21 : decode cX12_addNode 21 = .ok (.getfield 105, 3) := by decide +kernel
theorem dX12_addNode_24 : decode cX12_addNode 24 = .ok (.aload_n 0, 1) := by decide +kernel
theorem dX12_addNode_25 : decode cX12_addNode 25 = .ok (.getfield 406, 3) := by decide +kernel
theorem dX12_addNode_28 : decode cX12_addNode 28 = .ok (.iload_n 3, 1) := by decide +kernel
theorem dX12_addNode_29 : decode cX12_addNode 29 = .ok (.iastore, 1) := by decide +kernel
theorem dX12_addNode_30 : decode cX12_addNode 30 = .ok (.aload_n 0, 1) := by decide +kernel
theorem dX12_addNode_31 : decode cX12_addNode 31 = .ok (.getfield 108, 3) := by decide +kernel
theorem dX12_addNode_34 : decode cX12_addNode 34 = .ok (.aload_n 0, 1) := by decide +kernel
theorem dX12_addNode_35 : decode cX12_addNode 35 = .ok (.getfield 406, 3) := by decide +kernel
theorem dX12_addNode_38 : decode cX12_addNode 38 = .ok (.iload 4, 2) := by decide +kernel
theorem dX12_addNode_40 : decode cX12_addNode 40 = .ok (.iastore, 1) := by decide +kernel
theorem dX12_addNode_41 : decode cX12_addNode 41 = .ok (.aload_n 0, 1) := by decide +kernel
theorem dX12_addNode_42 : decode cX12_addNode 42 = .ok (.dup, 1) := by decide +kernel
theorem dX12_addNode_43 : decode cX12_addNode 43 = .ok (.getfield 406, 3) := by decide +kernel
theorem dX12_addNode_46 : decode cX12_addNode 46 = .ok (.iconst 1, 1) := by decide +kernel
theorem dX12_addNode_47 : decode cX12_addNode 47 = .ok (.iadd, 1) := by decide +kernel
theorem dX12_addNode_48 : decode cX12_addNode 48 = .ok (.putfield 406, 3) := by decide +kernel
theorem dX12_addNode_51 : decode cX12_addNode 51 = .ok (.aload_n 0, 1) := by decide +kernel
theorem dX12_addNode_52 : decode cX12_addNode 52 = .ok (.getfield 406, 3) := by decide +kernel
theorem dX12_addNode_55 : decode cX12_addNode 55 = .ok (.iconst 1, 1) := by decide +kernel
theorem dX12_addNode_56 : decode cX12_addNode 56 = .ok (.isub, 1) := by decide +kernel
theorem dX12_addNode_57 : decode cX12_addNode 57 = .ok (.ireturn, 1) := by decide +kernel
theorem dX12_readLeaf_0 : decode cX12_readLeaf 0 = .ok (.aload_n 0, 1) := by decide +kernel
theorem dX12_readLeaf_1 : decode cX12_readLeaf 1 = .ok (.invokevirtual 203, 3) := by decide +kernel
theorem dX12_readLeaf_4 : decode cX12_readLeaf 4 = .ok (.istore_n 1, 1) := by decide +kernel
theorem dX12_readLeaf_5 : decode cX12_readLeaf 5 = .ok (.iload_n 1, 1) := by decide +kernel
theorem dX12_readLeaf_6 : decode cX12_readLeaf 6 = .ok (.i2l, 1) := by decide +kernel
theorem dX12_readLeaf_7 : decode cX12_readLeaf 7 = .ok (.ldc2_w 214, 3) := by decide +kernel
theorem dX12_readLeaf_10 : decode cX12_readLeaf 10 = .ok (.bipush 97, 2) := by decide +kernel
theorem dX12_readLeaf_12 : decode cX12_readLeaf 12 = .ok (.aload_n 0, 1) := by decide +kernel
theorem dX12_readLeaf_13 : decode cX12_readLeaf 13 = .ok (.getfield 84, 3) := by decide +kernel
theorem dX12_readLeaf_16 : decode cX12_readLeaf 16 = .ok (.iadd, 1) := by decide +kernel
theorem dX12_readLeaf_17 : decode cX12_readLeaf 17 = .ok (.iconst 1, 1) := by decide +kernel
theorem dX12_readLeaf_18 : decode cX12_readLeaf 18 = .ok (.isub, 1) := by decide +kernel
theorem dX12_readLeaf_19 : decode cX12_readLeaf 19 = .ok (.i2l, 1) := by decide +kernel
theorem dX12_readLeaf_20 : decode cX12_readLeaf 20 = .ok (.invokestatic 170, 3) := by decide +kernel
theorem dX12_readLeaf_23 : decode cX12_readLeaf 23 = .ok (.ifCond .ne 17, 3) := by decide +kernel
theorem dX12_readLeaf_26 : decode cX12_readLeaf 26 = .ok (.iload_n 1, 1) := by decide +kernel
theorem dX12_readLeaf_27 : decode cX12_readLeaf 27 = .ok (.i2l, 1) := by decide +kernel
theorem dX12_readLeaf_28 : decode cX12_readLeaf 28 = .ok (.ldc2_w 207, 3) := by decide +kernel
theorem dX12_readLeaf_31 : decode cX12_readLeaf 31 = .ok (.ldc2_w 209, 3) := by decide +kernel
theorem dX12_readLeaf_34 : decode cX12_readLeaf 34 = .ok (.invokestatic 170, 3) := by decide +kernel
theorem dX12_readLeaf_37 : decode cX12_readLeaf 37 = .ok (.ifCond .eq 12, 3) := by decide +kernel
theorem dX12_readLeaf_40 : decode cX12_readLeaf 40 = .ok (.aload_n 0, 1) := by decide +kernel
theorem dX12_readLeaf_41 : decode cX12_readLeaf 41 = .ok (.getfield 409, 3) := by decide +kernel
theorem dX12_readLeaf_44 : decode cX12_readLeaf 44 = .ok (.bipush 20, 2) := by decide +kernel
theorem dX12_readLeaf_46 : decode cX12_readLeaf 46 = .ok (.if_icmp .ne 5, 3) := by decide +kernel
theorem dX12_readLeaf_49 : decode cX12_readLeaf 49 = .ok (.iconst (-1), 1) := by decide +kernel
theorem dX12_readLeaf_50 : decode cX12_readLeaf 50 = .ok (.ireturn, 1) := by decide +kernel
theorem dX12_readLeaf_51 : decode cX12_readLeaf 51 = .ok (.aload_n 0, 1) := by decide +kernel
theorem dX12_readLeaf_52 : decode cX12_readLeaf 52 = .ok (.dup, 1) := by decide +kernel
theorem dX12_readLeaf_53 : decode cX12_readLeaf 53 = .ok (.getfield 409, 3) := by decide +kernel
theorem dX12_readLeaf_56 : decode cX12_readLeaf 56 = .ok (.iconst 1, 1) := by decide +kernel
theorem dX12_readLeaf_57 : decode cX12_readLeaf 57 = .ok (.iadd, 1) := by decide +kernel
theorem dX12_readLeaf_58 : decode cX12_readLeaf 58 = .ok (.putfield 409, 3) := by decide +kernel
theorem dX12_readLeaf_61 : decode cX12_readLeaf 61 = .ok (.iload_n 1, 1) := by decide +kernel
theorem dX12_readLeaf_62 : decode cX12_readLeaf 62 = .ok (.bipush 97, 2) := by decide +kernel
theorem dX12_readLeaf_64 : decode cX12_readLeaf 64 = .ok (.if_icmp .lt 25, 3) := by decide +kernel
theorem dX12_readLeaf_67 : decode cX12_readLeaf 67 = .ok (.aload_n 0, 1) := by decide +kernel
theorem dX12_readLeaf_68 : decode cX12_readLeaf 68 = .ok (.dup, 1) := by decide +kernel
theorem dX12_readLeaf_69 : decode cX12_readLeaf 69 = .ok (.getfield 200, 3) := by decide +kernel
theorem dX12_readLeaf_72 : decode cX12_readLeaf 72 = .ok (.iconst 1, 1) := by decide +kernel
theorem dX12_readLeaf_73 : decode cX12_readLeaf 73 = .ok (.iadd, 1) := by decide +kernel
theorem dX12_readLeaf_74 : decode cX12_readLeaf 74 = .ok (.putfield 200, 3) := by decide +kernel
theorem dX12_readLeaf_77 : decode cX12_readLeaf 77 = .ok (.aload_n 0, 1) := by decide +kernel
theorem dX12_readLeaf_78 : decode cX12_readLeaf 78 = .ok (.iconst 0, 1) := by decide +kernel
theorem dX12_readLeaf_79 : decode cX12_readLeaf 79 = .ok (.iload_n 1, 1) := by decide +kernel
theorem dX12_readLeaf_80 : decode cX12_readLeaf 80 = .ok (.bipush 97, 2) := by decide +kernel
theorem dX12_readLeaf_82 : decode cX12_readLeaf 82 = .ok (.isub, 1) := by decide +kernel
theorem dX12_readLeaf_83 : decode cX12_readLeaf 83 = .ok (.iconst 0, 1) := by decide +kernel
theorem dX12_readLeaf_84 : decode cX12_readLeaf 84 = .ok (.iconst 0, 1) := by decide +kernel
theorem dX12_readLeaf_85 : decode cX12_readLeaf 85 = .ok (.invokevirtual 412, 3) := by decide +kernel
theorem dX12_readLeaf_88 : decode cX12_readLeaf 88 = .ok (.ireturn, 1) := by decide +kernel
theorem dX12_readLeaf_89 : decode cX12_readLeaf 89 = .ok (.aload_n 0, 1) := by decide +kernel
theorem dX12_readLeaf_90 : decode cX12_readLeaf 90 = .ok (.sipush 255, 3) := by decide +kernel
theorem dX12_readLeaf_93 : decode cX12_readLeaf 93 = .ok (.invokevirtual 238, 3) := by decide +kernel
theorem dX12_readLeaf_96 : decode cX12_readLeaf 96 = .ok (.istore_n 2, 1) := by decide +kernel
theorem dX12_readLeaf_97 : decode cX12_readLeaf 97 = .ok (.iload_n 2, 1) := by decide +kernel
theorem dX12_readLeaf_98 : decode cX12_readLeaf 98 = .ok (.ifCond .ge 7, 3) := by decide +kernel
theorem dX12_readLeaf_101 : decode cX12_readLeaf 101 = .ok (.iconst (-1), 1) := by decide +kernel
theorem dX12_readLeaf_102 : decode cX12_readLeaf 102 = .ok (.goto 16, 3) := by decide +kernel
theorem dX12_readLeaf_105 : decode cX12_readLeaf 105 = .ok (.aload_n 0, 1) := by decide +kernel
theorem dX12_readLeaf_106 : decode cX12_readLeaf 106 = .ok (.iconst 1, 1) := by decide +kernel
theorem dX12_readLeaf_107 : decode cX12_readLeaf 107 = .ok (.iload_n 2, 1) := by decide +kernel
theorem dX12_readLeaf_108 : decode cX12_readLeaf 108 = .ok (.aload_n 0, 1) := by decide +kernel
theorem dX12_readLeaf_109 : decode cX12_readLeaf 109 = .ok (.invokevirtual 346, 3) := by decide +kernel
theorem dX12_readLeaf_112 : decode cX12_readLeaf 112 = .ok (.iand, 1) := by decide +kernel
theorem dX12_readLeaf_113 : decode cX12_readLeaf 113 = .ok (.iconst 0, 1) := by decide +kernel
theorem dX12_readLeaf_114 : decode cX12_readLeaf 114 = .ok (.iconst 0, 1) := by decide +kernel
theorem dX12_readLeaf_115 : decode cX12_readLeaf 115 = .ok (.invokevirtual 412, 3) := by decide +kernel
theorem dX12_readLeaf_118 : decode cX12_readLeaf 118 = .ok (.ireturn, 1) := by decide +kernel
theorem dX12_readSum_0 : decode cX12_readSum 0 = .ok (.aload_n 0, 1) := by decide +kernel
theorem dX12_readSum_1 : decode cX12_readSum 1 = .ok (.iconst 0, 1) := by decide +kernel
theorem dX12_readSum_2 : decode cX12_readSum 2 = .ok (.putfield 200, 3) := by decide +kernel
theorem dX12_readSum_5 : decode cX12_readSum 5 = .ok (.aload_n 0, 1) := by decide +kernel
theorem dX12_readSum_6 : decode cX12_readSum 6 = .ok (.iconst 0, 1) := by decide +kernel
theorem dX12_readSum_7 : decode cX12_readSum 7 = .ok (.putfield 406, 3) := by decide +kernel
theorem dX12_readSum_10 : decode cX12_readSum 10 = .ok (.aload_n 0, 1) := by decide +kernel
theorem dX12_readSum_11 : decode cX12_readSum 11 = .ok (.iconst 0, 1) := by decide +kernel
theorem dX12_readSum_12 : decode cX12_readSum 12 = .ok (.putfield 409, 3) := by decide +kernel
theorem dX12_readSum_15 : decode cX12_readSum 15 = .ok (.iconst 0, 1) := by decide +kernel
theorem dX12_readSum_16 : decode cX12_readSum 16 = .ok (.istore_n 1, 1) := by decide +kernel
theorem dX12_readSum_17 : decode cX12_readSum 17 = .ok (.aload_n 0, 1) := by decide +kernel
theorem dX12_readSum_18 : decode cX12_readSum 18 = .ok (.getfield 111, 3) := by decide +kernel
theorem dX12_readSum_21 : decode cX12_readSum 21 = .ok (.iconst 0, 1) := by decide +kernel
theorem dX12_readSum_22 : decode cX12_readSum 22 = .ok (.iconst (-1), 1) := by decide +kernel
theorem dX12_readSum_23 : decode cX12_readSum 23 = .ok (.iastore, 1) := by decide +kernel
theorem dX12_readSum_24 : decode cX12_readSum 24 = .ok (.aload_n 0, 1) := by decide +kernel
theorem dX12_readSum_25 : decode cX12_readSum 25 = .ok (.invokevirtual 203, 3) := by decide +kernel
theorem dX12_readSum_28 : decode cX12_readSum 28 = .ok (.bipush 40, 2) := by decide +kernel
theorem dX12_readSum_30 : decode cX12_readSum 30 = .ok (.if_icmp .ne 34, 3) := by decide +kernel
theorem dX12_readSum_33 : decode cX12_readSum 33 = .ok (.iload_n 1, 1) := by decide +kernel
theorem dX12_readSum_34 : decode cX12_readSum 34 = .ok (.bipush 6, 2) := by decide +kernel
theorem dX12_readSum_36 : decode cX12_readSum 36 = .ok (.if_icmp .ne 5, 3) := by decide +kernel
theorem dX12_readSum_39 : decode cX12_readSum 39 = .ok (.iconst 0, 1) := by decide +kernel
theorem dX12_readSum_40 : decode cX12_readSum 40 = .ok (.ireturn, 1) := by decide +kernel
theorem dX12_readSum_41 : decode cX12_readSum 41 = .ok (.aload_n 0, 1) := by decide +kernel
theorem dX12_readSum_42 : decode cX12_readSum 42 = .ok (.dup, 1) := by decide +kernel
theorem dX12_readSum_43 : decode cX12_readSum 43 = .ok (.getfield 200, 3) := by decide +kernel
theorem dX12_readSum_46 : decode cX12_readSum 46 = .ok (.iconst 1, 1) := by decide +kernel
theorem dX12_readSum_47 : decode cX12_readSum 47 = .ok (.iadd, 1) := by decide +kernel
theorem dX12_readSum_48 : decode cX12_readSum 48 = .ok (.putfield 200, 3) := by decide +kernel
theorem dX12_readSum_51 : decode cX12_readSum 51 = .ok (.iinc 1 1, 3) := by decide +kernel
theorem dX12_readSum_54 : decode cX12_readSum 54 = .ok (.aload_n 0, 1) := by decide +kernel
theorem dX12_readSum_55 : decode cX12_readSum 55 = .ok (.getfield 111, 3) := by decide +kernel
theorem dX12_readSum_58 : decode cX12_readSum 58 = .ok (.iload_n 1, 1) := by decide +kernel
theorem dX12_readSum_59 : decode cX12_readSum 59 = .ok (.iconst (-1), 1) := by decide +kernel
theorem dX12_readSum_60 : decode cX12_readSum 60 = .ok (.iastore, 1) := by decide +kernel
theorem dX12_readSum_61 : decode cX12_readSum 61 = .ok (.goto (-37), 3) := by decide +kernel
theorem dX12_readSum_64 : decode cX12_readSum 64 = .ok (.aload_n 0, 1) := by decide +kernel
theorem dX12_readSum_65 : decode cX12_readSum 65 = .ok (.invokevirtual 415, 3) := by decide +kernel
theorem dX12_readSum_68 : decode cX12_readSum 68 = .ok (.istore_n 2, 1) := by decide +kernel
theorem dX12_readSum_69 : decode cX12_readSum 69 = .ok (.iload_n 2, 1) := by decide +kernel
theorem dX12_readSum_70 : decode cX12_readSum 70 = .ok (.ifCond .ge 5, 3) := by decide +kernel
theorem dX12_readSum_73 : decode cX12_readSum 73 = .ok (.iconst 0, 1) := by decide +kernel
theorem dX12_readSum_74 : decode cX12_readSum 74 = .ok (.ireturn, 1) := by decide +kernel
theorem dX12_readSum_75 : decode cX12_readSum 75 = .ok (.iconst 1, 1) := by decide +kernel
theorem dX12_readSum_76 : decode cX12_readSum 76 = .ok (.istore_n 3, 1) := by decide +kernel
theorem dX12_readSum_77 : decode cX12_readSum 77 = .ok (.iload_n 3, 1) := by decide +kernel
theorem dX12_readSum_78 : decode cX12_readSum 78 = .ok (.ifCond .eq 132, 3) := by decide +kernel
theorem dX12_readSum_81 : decode cX12_readSum 81 = .ok (.aload_n 0, 1) := by decide +kernel
theorem dX12_readSum_82 : decode cX12_readSum 82 = .ok (.getfield 111, 3) := by decide +kernel
theorem dX12_readSum_85 : decode cX12_readSum 85 = .ok (.iload_n 1, 1) := by decide +kernel
theorem dX12_readSum_86 : decode cX12_readSum 86 = .ok (.aload_n 0, 1) := by decide +kernel
theorem dX12_readSum_87 : decode cX12_readSum 87 = .ok (.getfield 111, 3) := by decide +kernel
theorem dX12_readSum_90 : decode cX12_readSum 90 = .ok (.iload_n 1, 1) := by decide +kernel
theorem dX12_readSum_91 : decode cX12_readSum 91 = .ok (.iaload, 1) := by decide +kernel
theorem dX12_readSum_92 : decode cX12_readSum 92 = .ok (.ifCond .ge 7, 3) := by decide +kernel
theorem dX12_readSum_95 : decode cX12_readSum 95 = .ok (.iload_n 2, 1) := by decide +kernel
theorem dX12_readSum_96 : decode cX12_readSum 96 = .ok (.goto 21, 3) := by decide +kernel
theorem dX12_readSum_99 : decode cX12_readSum 99 = .ok (.aload_n 0, 1) := by decide +kernel
theorem dX12_readSum_100 : decode cX12_readSum 100 = .ok (.iconst 2, 1) := by decide +kernel
theorem dX12_readSum_101 : decode cX12_readSum 101 = .ok (.aload_n 0, 1) := by decide +kernel
theorem dX12_readSum_102 : decode cX12_readSum 102 = .ok (.getfield 114, 3) := by decide +kernel
theorem dX12_readSum_105 : decode cX12_readSum 105 = .ok (.iload_n 1, 1) := by decide +kernel
theorem dX12_readSum_106 : decode cX12_readSum 106 = .ok (.iaload, 1) := by decide +kernel
theorem dX12_readSum_107 : decode cX12_readSum 107 = .ok (.aload_n 0, 1) := by decide +kernel
theorem dX12_readSum_108 : decode cX12_readSum 108 = .ok (.getfield 111, 3) := by decide +kernel
theorem dX12_readSum_111 : decode cX12_readSum 111 = .ok (.iload_n 1, 1) := by decide +kernel
theorem dX12_readSum_112 : decode cX12_readSum 112 = .ok (.iaload, 1) := by decide +kernel
theorem dX12_readSum_113 : decode cX12_readSum 113 = .ok (.iload_n 2, 1) := by decide +kernel
theorem dX12_readSum_114 : decode cX12_readSum 114 = .ok (.invokevirtual 412, 3) := by decide +kernel
theorem dX12_readSum_117 : decode cX12_readSum 117 = .ok (.iastore, 1) := by decide +kernel
theorem dX12_readSum_118 : decode cX12_readSum 118 = .ok (.aload_n 0, 1) := by decide +kernel
theorem dX12_readSum_119 : decode cX12_readSum 119 = .ok (.invokevirtual 203, 3) := by decide +kernel
theorem dX12_readSum_122 : decode cX12_readSum 122 = .ok (.istore 4, 2) := by decide +kernel
theorem dX12_readSum_124 : decode cX12_readSum 124 = .ok (.iload 4, 2) := by decide +kernel
theorem dX12_readSum_126 : decode cX12_readSum 126 = .ok (.invokestatic 245, 3) := by decide +kernel
theorem dX12_readSum_129 : decode cX12_readSum 129 = .ok (.ifCond .le 29, 3) := by decide +kernel
theorem dX12_readSum_132 : decode cX12_readSum 132 = .ok (.aload_n 0, 1) := by decide +kernel
theorem dX12_readSum_133 : decode cX12_readSum 133 = .ok (.dup, 1) := by decide +kernel
theorem dX12_readSum_134 : decode cX12_readSum 134 = .ok (.getfield 200, 3) := by decide +kernel
theorem dX12_readSum_137 : decode cX12_readSum 137 = .ok (.iconst 1, 1) := by decide +kernel
theorem dX12_readSum_138 : decode cX12_readSum 138 = .ok (.iadd, 1) := by decide +kernel
theorem dX12_readSum_139 : decode cX12_readSum 139 = .ok (.putfield 200, 3) := by decide +kernel
theorem dX12_readSum_142 : decode cX12_readSum 142 = .ok (.aload_n 0, 1) := by decide +kernel
theorem dX12_readSum_143 : decode cX12_readSum 143 = .ok (.getfield 114, 3) := by decide +kernel
theorem dX12_readSum_146 : decode cX12_readSum 146 = .ok (.iload_n 1, 1) := by decide +kernel
theorem dX12_readSum_147 : decode cX12_readSum 147 = .ok (.iload 4, 2) := by decide +kernel
theorem dX12_readSum_149 : decode cX12_readSum 149 = .ok (.invokestatic 245, 3) := by decide +kernel
theorem dX12_readSum_152 : decode cX12_readSum 152 = .ok (.iastore, 1) := by decide +kernel
theorem dX12_readSum_153 : decode cX12_readSum 153 = .ok (.iconst 0, 1) := by decide +kernel
theorem dX12_readSum_154 : decode cX12_readSum 154 = .ok (.istore_n 3, 1) := by decide +kernel
theorem dX12_readSum_155 : decode cX12_readSum 155 = .ok (.goto 52, 3) := by decide +kernel
theorem dX12_readSum_158 : decode cX12_readSum 158 = .ok (.iload 4, 2) := by decide +kernel
theorem dX12_readSum_160 : decode cX12_readSum 160 = .ok (.bipush 41, 2) := by decide +kernel
theorem dX12_readSum_162 : decode cX12_readSum 162 = .ok (.if_icmp .ne 30, 3) := by decide +kernel
theorem dX12_readSum_165 : decode cX12_readSum 165 = .ok (.iload_n 1, 1) := by decide +kernel
theorem dX12_readSum_166 : decode cX12_readSum 166 = .ok (.ifCond .le 26, 3) := by decide +kernel
theorem dX12_readSum_169 : decode cX12_readSum 169 = .ok (.aload_n 0, 1) := by decide +kernel
theorem dX12_readSum_170 : decode cX12_readSum 170 = .ok (.dup, 1) := by decide +kernel
theorem dX12_readSum_171 : decode cX12_readSum 171 = .ok (.getfield 200, 3) := by decide +kernel
theorem dX12_readSum_174 : decode cX12_readSum 174 = .ok (.iconst 1, 1) := by decide +kernel
theorem dX12_readSum_175 : decode cX12_readSum 175 = .ok (.iadd, 1) := by decide +kernel
theorem dX12_readSum_176 : decode cX12_readSum 176 = .ok (.putfield 200, 3) := by decide +kernel
theorem dX12_readSum_179 : decode cX12_readSum 179 = .ok (.aload_n 0, 1) := by decide +kernel
theorem dX12_readSum_180 : decode cX12_readSum 180 = .ok (.getfield 111, 3) := by decide +kernel
theorem dX12_readSum_183 : decode cX12_readSum 183 = .ok (.iload_n 1, 1) := by decide +kernel
theorem dX12_readSum_184 : decode cX12_readSum 184 = .ok (.iaload, 1) := by decide +kernel
theorem dX12_readSum_185 : decode cX12_readSum 185 = .ok (.istore_n 2, 1) := by decide +kernel
theorem dX12_readSum_186 : decode cX12_readSum 186 = .ok (.iinc 1 (-1), 3) := by decide +kernel
theorem dX12_readSum_189 : decode cX12_readSum 189 = .ok (.goto 18, 3) := by decide +kernel
theorem dX12_readSum_192 : decode cX12_readSum 192 = .ok (.iload 4, 2) := by decide +kernel
theorem dX12_readSum_194 : decode cX12_readSum 194 = .ok (.ifCond .ge 11, 3) := by decide +kernel
theorem dX12_readSum_197 : decode cX12_readSum 197 = .ok (.iload_n 1, 1) := by decide +kernel
theorem dX12_readSum_198 : decode cX12_readSum 198 = .ok (.ifCond .ne 7, 3) := by decide +kernel
theorem dX12_readSum_201 : decode cX12_readSum 201 = .ok (.iconst 1, 1) := by decide +kernel
theorem dX12_readSum_202 : decode cX12_readSum 202 = .ok (.goto 4, 3) := by decide +kernel
theorem dX12_readSum_205 : decode cX12_readSum 205 = .ok (.iconst 0, 1) := by decide +kernel
theorem dX12_readSum_206 : decode cX12_readSum 206 = .ok (.ireturn, 1) := by decide +kernel
theorem dX12_readSum_207 : decode cX12_readSum 207 = .ok (.goto (-130), 3) := by decide +kernel
theorem dX12_readSum_210 : decode cX12_readSum 210 = .ok (.goto (-186), 3) := by decide +kernel
theorem dX12_sum_0 : decode cX12_sum 0 = .ok (.aload_n 0, 1) := by decide +kernel
theorem dX12_sum_1 : decode cX12_sum 1 = .ok (.invokevirtual 418, 3) := by decide +kernel
theorem dX12_sum_4 : decode cX12_sum 4 = .ok (.istore_n 1, 1) := by decide +kernel
theorem dX12_sum_5 : decode cX12_sum 5 = .ok (.aload_n 0, 1) := by decide +kernel
theorem dX12_sum_6 : decode cX12_sum 6 = .ok (.iconst 0, 1) := by decide +kernel
theorem dX12_sum_7 : decode cX12_sum 7 = .ok (.putfield 197, 3) := by decide +kernel
theorem dX12_sum_10 : decode cX12_sum 10 = .ok (.iload_n 1, 1) := by decide +kernel
theorem dX12_sum_11 : decode cX12_sum 11 = .ok (.ifCond .ne 11, 3) := by decide +kernel
theorem dX12_sum_14 : decode cX12_sum 14 = .ok (.bipush (-20), 2) := by decide +kernel
theorem dX12_sum_16 : decode cX12_sum 16 = .ok (.aload_n 0, 1) := by decide +kernel
theorem dX12_sum_17 : decode cX12_sum 17 = .ok (.getfield 200, 3) := by decide +kernel
theorem dX12_sum_20 : decode cX12_sum 20 = .ok (.isub, 1) := by decide +kernel
theorem dX12_sum_21 : decode cX12_sum 21 = .ok (.ireturn, 1) := by decide +kernel
theorem dX12_sum_22 : decode cX12_sum 22 = .ok (.aload_n 0, 1) := by decide +kernel
theorem dX12_sum_23 : decode cX12_sum 23 = .ok (.aload_n 0, 1) := by decide +kernel
theorem dX12_sum_24 : decode cX12_sum 24 = .ok (.getfield 406, 3) := by decide +kernel
theorem dX12_sum_27 : decode cX12_sum 27 = .ok (.putfield 422, 3) := by decide +kernel
theorem dX12_sum_30 : decode cX12_sum 30 = .ok (.aload_n 0, 1) := by decide +kernel
theorem dX12_sum_31 : decode cX12_sum 31 = .ok (.aload_n 0, 1) := by decide +kernel
theorem dX12_sum_32 : decode cX12_sum 32 = .ok (.getfield 409, 3) := by decide +kernel
theorem dX12_sum_35 : decode cX12_sum 35 = .ok (.putfield 425, 3) := by decide +kernel
theorem dX12_sum_38 : decode cX12_sum 38 = .ok (.iconst 0, 1) := by decide +kernel
theorem dX12_sum_39 : decode cX12_sum 39 = .ok (.istore_n 2, 1) := by decide +kernel
theorem dX12_sum_40 : decode cX12_sum 40 = .ok (.iload_n 2, 1) := by decide +kernel
theorem dX12_sum_41 : decode cX12_sum 41 = .ok (.aload_n 0, 1) := by decide +kernel
theorem dX12_sum_42 : decode cX12_sum 42 = .ok (.getfield 422, 3) := by decide +kernel
theorem dX12_sum_45 : decode cX12_sum 45 = .ok (.if_icmp .ge 57, 3) := by decide +kernel
theorem dX12_sum_48 : decode cX12_sum 48 = .ok (.aload_n 0, 1) := by decide +kernel
theorem dX12_sum_49 : decode cX12_sum 49 = .ok (.getfield 87, 3) := by decide +kernel
theorem dX12_sum_52 : decode cX12_sum 52 = .ok (.iload_n 2, 1) := by decide +kernel
theorem dX12_sum_53 : decode cX12_sum 53 = .ok (.aload_n 0, 1) := by decide +kernel
theorem dX12_sum_54 : decode cX12_sum 54 = .ok (.getfield 99, 3) := by decide +kernel
theorem dX12_sum_57 : decode cX12_sum 57 = .ok (.iload_n 2, 1) := by decide +kernel
theorem dX12_sum_58 : decode cX12_sum 58 = .ok (.iaload, 1) := by decide +kernel
theorem dX12_sum_59 : decode cX12_sum 59 = .ok (.iastore, 1) := by decide +kernel
theorem dX12_sum_60 : decode cX12_sum 60 = .ok (.aload_n 0, 1) := by decide +kernel
theorem dX12_sum_61 : decode cX12_sum 61 = .ok (.getfield 90, 3) := by decide +kernel
theorem dX12_sum_64 : decode cX12_sum 64 = .ok (.iload_n 2, 1) := by decide +kernel
theorem dX12_sum_65 : decode cX12_sum 65 = .ok (.aload_n 0, 1) := by decide +kernel
theorem dX12_sum_66 : decode cX12_sum 66 = .ok (.getfield 102, 3) := by decide +kernel
theorem dX12_sum_69 : decode cX12_sum 69 = .ok (.iload_n 2, 1) := by decide +kernel
theorem dX12_sum_70 : decode cX12_sum 70 = .ok (.iaload, 1) := by decide +kernel
theorem dX12_sum_71 : decode cX12_sum 71 = .ok (.iastore, 1) := by decide +kernel
theorem dX12_sum_72 : decode cX12_sum 72 = .ok (.aload_n 0, 1) := by decide +kernel
theorem dX12_sum_73 : decode cX12_sum 73 = .ok (.getfield 93, 3) := by decide +kernel
theorem dX12_sum_76 : decode cX12_sum 76 = .ok (.iload_n 2, 1) := by decide +kernel
theorem dX12_sum_77 : decode cX12_sum 77 = .ok (.aload_n 0, 1) := by decide +kernel
theorem dX12_sum_78 : decode cX12_sum 78 = .ok (.getfield 105, 3) := by decide +kernel
theorem dX12_sum_81 : decode cX12_sum 81 = .ok (.iload_n 2, 1) := by decide +kernel
theorem dX12_sum_82 : decode cX12_sum 82 = .ok (.iaload, 1) := by decide +kernel
theorem dX12_sum_83 : decode cX12_sum 83 = .ok (.iastore, 1) := by decide +kernel
theorem dX12_sum_84 : decode cX12_sum 84 = .ok (.aload_n 0, 1) := by decide +kernel
theorem dX12_sum_85 : decode cX12_sum 85 = .ok (.getfield 96, 3) := by decide +kernel
theorem dX12_sum_88 : decode cX12_sum 88 = .ok (.iload_n 2, 1) := by decide +kernel
theorem dX12_sum_89 : decode cX12_sum 89 = .ok (.aload_n 0, 1) := by decide +kernel
theorem dX12_sum_90 : decode cX12_sum 90 = .ok (.getfield 108, 3) := by decide +kernel
theorem dX12_sum_93 : decode cX12_sum 93 = .ok (.iload_n 2, 1) := by decide +kernel
theorem dX12_sum_94 : decode cX12_sum 94 = .ok (.iaload, 1) := by decide +kernel
theorem dX12_sum_95 : decode cX12_sum 95 = .ok (.iastore, 1) := by decide +kernel
theorem dX12_sum_96 : decode cX12_sum 96 = .ok (.iinc 2 1, 3) := by decide +kernel
theorem dX12_sum_99 : decode cX12_sum 99 = .ok (.goto (-59), 3) := by decide +kernel
theorem dX12_sum_102 : decode cX12_sum 102 = .ok (.aload_n 0, 1) := by decide +kernel
theorem dX12_sum_103 : decode cX12_sum 103 = .ok (.iconst 1, 1) := by decide +kernel
theorem dX12_sum_104 : decode cX12_sum 104 = .ok (.putfield 160, 3) := by decide +kernel
theorem dX12_sum_107 : decode cX12_sum 107 = .ok (.aload_n 0, 1) := by decide +kernel
theorem dX12_sum_108 : decode cX12_sum 108 = .ok (.getfield 425, 3) := by decide +kernel
theorem dX12_sum_111 : decode cX12_sum 111 = .ok (.ireturn, 1) := by decide +kernel
theorem dX12_formOf_0 : decode cX12_formOf 0 = .ok (.bipush 18, 2) := by decide +kernel
theorem dX12_formOf_2 : decode cX12_formOf 2 = .ok (.iload_n 1, 1) := by decide +kernel
theorem dX12_formOf_3 : decode cX12_formOf 3 = .ok (.imul, 1) := by decide +kernel
theorem dX12_formOf_4 : decode cX12_formOf 4 = .ok (.istore_n 2, 1) := by decide +kernel
theorem dX12_formOf_5 : decode cX12_formOf 5 = .ok (.aload_n 0, 1) := by decide +kernel
theorem dX12_formOf_6 : decode cX12_formOf 6 = .ok (.getfield 26, 3) := by decide +kernel
theorem dX12_formOf_9 : decode cX12_formOf 9 = .ok (.iload_n 1, 1) := by decide +kernel
theorem dX12_formOf_10 : decode cX12_formOf 10 = .ok (.iaload, 1) := by decide +kernel
theorem dX12_formOf_11 : decode cX12_formOf 11 = .ok (.ifCond .gt 22, 3) := by decide +kernel
theorem dX12_formOf_14 : decode cX12_formOf 14 = .ok (.aload_n 0, 1) := by decide +kernel
theorem dX12_formOf_15 : decode cX12_formOf 15 = .ok (.getfield 32, 3) := by decide +kernel
theorem dX12_formOf_18 : decode cX12_formOf 18 = .ok (.iload_n 1, 1) := by decide +kernel
theorem dX12_formOf_19 : decode cX12_formOf 19 = .ok (.iaload, 1) := by decide +kernel
theorem dX12_formOf_20 : decode cX12_formOf 20 = .ok (.iconst 1, 1) := by decide +kernel
theorem dX12_formOf_21 : decode cX12_formOf 21 = .ok (.if_icmp .ne 12, 3) := by decide +kernel
theorem dX12_formOf_24 : decode cX12_formOf 24 = .ok (.aload_n 0, 1) := by decide +kernel
theorem dX12_formOf_25 : decode cX12_formOf 25 = .ok (.getfield 35, 3) := by decide +kernel
theorem dX12_formOf_28 : decode cX12_formOf 28 = .ok (.iload_n 2, 1) := by decide +kernel
theorem dX12_formOf_29 : decode cX12_formOf 29 = .ok (.iaload, 1) := by decide +kernel
theorem dX12_formOf_30 : decode cX12_formOf 30 = .ok (.ifCond .eq 5, 3) := by decide +kernel
theorem dX12_formOf_33 : decode cX12_formOf 33 = .ok (.iconst 0, 1) := by decide +kernel
theorem dX12_formOf_34 : decode cX12_formOf 34 = .ok (.ireturn, 1) := by decide +kernel
theorem dX12_formOf_35 : decode cX12_formOf 35 = .ok (.aload_n 0, 1) := by decide +kernel
theorem dX12_formOf_36 : decode cX12_formOf 36 = .ok (.getfield 35, 3) := by decide +kernel
theorem dX12_formOf_39 : decode cX12_formOf 39 = .ok (.iload_n 2, 1) := by decide +kernel
theorem dX12_formOf_40 : decode cX12_formOf 40 = .ok (.iconst 1, 1) := by decide +kernel
theorem dX12_formOf_41 : decode cX12_formOf 41 = .ok (.iadd, 1) := by decide +kernel
theorem dX12_formOf_42 : decode cX12_formOf 42 = .ok (.iaload, 1) := by decide +kernel
theorem dX12_formOf_43 : decode cX12_formOf 43 = .ok (.istore_n 3, 1) := by decide +kernel
theorem dX12_formOf_44 : decode cX12_formOf 44 = .ok (.aload_n 0, 1) := by decide +kernel
theorem dX12_formOf_45 : decode cX12_formOf 45 = .ok (.getfield 35, 3) := by decide +kernel
theorem dX12_formOf_48 : decode cX12_formOf 48 = .ok (.iload_n 2, 1) := by decide +kernel
theorem dX12_formOf_49 : decode cX12_formOf 49 = .ok (.iconst 3, 1) := by decide +kernel
theorem dX12_formOf_50 : decode cX12_formOf 50 = .ok (.iadd, 1) := by decide +kernel
theorem dX12_formOf_51 : decode cX12_formOf 51 = .ok (.iaload, 1) := by decide +kernel
theorem dX12_formOf_52 : decode cX12_formOf 52 = .ok (.ifCond .ne 7, 3) := by decide +kernel
theorem dX12_formOf_55 : decode cX12_formOf 55 = .ok (.iconst (-1), 1) := by decide +kernel
theorem dX12_formOf_56 : decode cX12_formOf 56 = .ok (.goto 11, 3) := by decide +kernel
theorem dX12_formOf_59 : decode cX12_formOf 59 = .ok (.aload_n 0, 1) := by decide +kernel
theorem dX12_formOf_60 : decode cX12_formOf 60 = .ok (.getfield 35, 3) := by decide +kernel
theorem dX12_formOf_63 : decode cX12_formOf 63 = .ok (.iload_n 2, 1) := by decide +kernel
theorem dX12_formOf_64 : decode cX12_formOf 64 = .ok (.iconst 4, 1) := by decide +kernel
theorem dX12_formOf_65 : decode cX12_formOf 65 = .ok (.iadd, 1) := by decide +kernel
theorem dX12_formOf_66 : decode cX12_formOf 66 = .ok (.iaload, 1) := by decide +kernel
theorem dX12_formOf_67 : decode cX12_formOf 67 = .ok (.istore 4, 2) := by decide +kernel
theorem dX12_formOf_69 : decode cX12_formOf 69 = .ok (.aload_n 0, 1) := by decide +kernel
theorem dX12_formOf_70 : decode cX12_formOf 70 = .ok (.iload_n 1, 1) := by decide +kernel
theorem dX12_formOf_71 : decode cX12_formOf 71 = .ok (.invokevirtual 274, 3) := by decide +kernel
theorem dX12_formOf_74 : decode cX12_formOf 74 = .ok (.istore 5, 2) := by decide +kernel
theorem dX12_formOf_76 : decode cX12_formOf 76 = .ok (.iload 4, 2) := by decide +kernel
theorem dX12_formOf_78 : decode cX12_formOf 78 = .ok (.ifCond .ge 36, 3) := by decide +kernel
theorem dX12_formOf_81 : decode cX12_formOf 81 = .ok (.iload_n 3, 1) := by decide +kernel
theorem dX12_formOf_82 : decode cX12_formOf 82 = .ok (.iconst 3, 1) := by decide +kernel
theorem dX12_formOf_83 : decode cX12_formOf 83 = .ok (.if_icmp .ne 14, 3) := by decide +kernel
theorem dX12_formOf_86 : decode cX12_formOf 86 = .ok (.iload 5, 2) := by decide +kernel
theorem dX12_formOf_88 : decode cX12_formOf 88 = .ok (.bipush 9, 2) := by decide +kernel
theorem dX12_formOf_90 : decode cX12_formOf 90 = .ok (.if_icmp .ne 7, 3) := by decide +kernel
theorem dX12_formOf_93 : decode cX12_formOf 93 = .ok (.iconst 1, 1) := by decide +kernel
theorem dX12_formOf_94 : decode cX12_formOf 94 = .ok (.goto 19, 3) := by decide +kernel
theorem dX12_formOf_97 : decode cX12_formOf 97 = .ok (.iload_n 3, 1) := by decide +kernel
theorem dX12_formOf_98 : decode cX12_formOf 98 = .ok (.iconst 1, 1) := by decide +kernel
theorem dX12_formOf_99 : decode cX12_formOf 99 = .ok (.if_icmp .ne 13, 3) := by decide +kernel
theorem dX12_formOf_102 : decode cX12_formOf 102 = .ok (.iload 5, 2) := by decide +kernel
theorem dX12_formOf_104 : decode cX12_formOf 104 = .ok (.iconst 3, 1) := by decide +kernel
theorem dX12_formOf_105 : decode cX12_formOf 105 = .ok (.if_icmp .ne 7, 3) := by decide +kernel
theorem dX12_formOf_108 : decode cX12_formOf 108 = .ok (.iconst 2, 1) := by decide +kernel
theorem dX12_formOf_109 : decode cX12_formOf 109 = .ok (.goto 4, 3) := by decide +kernel
theorem dX12_formOf_112 : decode cX12_formOf 112 = .ok (.iconst 0, 1) := by decide +kernel
theorem dX12_formOf_113 : decode cX12_formOf 113 = .ok (.ireturn, 1) := by decide +kernel
theorem dX12_formOf_114 : decode cX12_formOf 114 = .ok (.iload_n 3, 1) := by decide +kernel
theorem dX12_formOf_115 : decode cX12_formOf 115 = .ok (.iconst 1, 1) := by decide +kernel
theorem dX12_formOf_116 : decode cX12_formOf 116 = .ok (.if_icmp .ne 39, 3) := by decide +kernel
theorem dX12_formOf_119 : decode cX12_formOf 119 = .ok (.iload 4, 2) := by decide +kernel
theorem dX12_formOf_121 : decode cX12_formOf 121 = .ok (.iconst 2, 1) := by decide +kernel
theorem dX12_formOf_122 : decode cX12_formOf 122 = .ok (.if_icmp .ne 14, 3) := by decide +kernel
theorem dX12_formOf_125 : decode cX12_formOf 125 = .ok (.iload 5, 2) := by decide +kernel
theorem dX12_formOf_127 : decode cX12_formOf 127 = .ok (.bipush 7, 2) := by decide +kernel
theorem dX12_formOf_129 : decode cX12_formOf 129 = .ok (.if_icmp .ne 7, 3) := by decide +kernel
theorem dX12_formOf_132 : decode cX12_formOf 132 = .ok (.iconst 3, 1) := by decide +kernel
theorem dX12_formOf_133 : decode cX12_formOf 133 = .ok (.goto 21, 3) := by decide +kernel
theorem dX12_formOf_136 : decode cX12_formOf 136 = .ok (.iload 4, 2) := by decide +kernel
theorem dX12_formOf_138 : decode cX12_formOf 138 = .ok (.iconst 3, 1) := by decide +kernel
theorem dX12_formOf_139 : decode cX12_formOf 139 = .ok (.if_icmp .ne 14, 3) := by decide +kernel
theorem dX12_formOf_142 : decode cX12_formOf 142 = .ok (.iload 5, 2) := by decide +kernel
theorem dX12_formOf_144 : decode cX12_formOf 144 = .ok (.bipush 11, 2) := by decide +kernel
theorem dX12_formOf_146 : decode cX12_formOf 146 = .ok (.if_icmp .ne 7, 3) := by decide +kernel
theorem dX12_formOf_149 : decode cX12_formOf 149 = .ok (.iconst 4, 1) := by decide +kernel
theorem dX12_formOf_150 : decode cX12_formOf 150 = .ok (.goto 4, 3) := by decide +kernel
theorem dX12_formOf_153 : decode cX12_formOf 153 = .ok (.iconst 0, 1) := by decide +kernel
theorem dX12_formOf_154 : decode cX12_formOf 154 = .ok (.ireturn, 1) := by decide +kernel
theorem dX12_formOf_155 : decode cX12_formOf 155 = .ok (.iload_n 3, 1) := by decide +kernel
theorem dX12_formOf_156 : decode cX12_formOf 156 = .ok (.ifCond .eq 7, 3) := by decide +kernel
theorem dX12_formOf_159 : decode cX12_formOf 159 = .ok (.iconst 0, 1) := by decide +kernel
theorem dX12_formOf_160 : decode cX12_formOf 160 = .ok (.goto 38, 3) := by decide +kernel
theorem dX12_formOf_163 : decode cX12_formOf 163 = .ok (.iload 4, 2) := by decide +kernel
theorem dX12_formOf_165 : decode cX12_formOf 165 = .ok (.iconst 1, 1) := by decide +kernel
theorem dX12_formOf_166 : decode cX12_formOf 166 = .ok (.if_icmp .ne 13, 3) := by decide +kernel
theorem dX12_formOf_169 : decode cX12_formOf 169 = .ok (.iload 5, 2) := by decide +kernel
theorem dX12_formOf_171 : decode cX12_formOf 171 = .ok (.iconst 3, 1) := by decide +kernel
theorem dX12_formOf_172 : decode cX12_formOf 172 = .ok (.if_icmp .ne 7, 3) := by decide +kernel
theorem dX12_formOf_175 : decode cX12_formOf 175 = .ok (.iconst 5, 1) := by decide +kernel
theorem dX12_formOf_176 : decode cX12_formOf 176 = .ok (.goto 22, 3) := by decide +kernel
theorem dX12_formOf_179 : decode cX12_formOf 179 = .ok (.iload 4, 2) := by decide +kernel
theorem dX12_formOf_181 : decode cX12_formOf 181 = .ok (.iconst 3, 1) := by decide +kernel
theorem dX12_formOf_182 : decode cX12_formOf 182 = .ok (.if_icmp .ne 15, 3) := by decide +kernel
theorem dX12_formOf_185 : decode cX12_formOf 185 = .ok (.iload 5, 2) := by decide +kernel
theorem dX12_formOf_187 : decode cX12_formOf 187 = .ok (.bipush 9, 2) := by decide +kernel
theorem dX12_formOf_189 : decode cX12_formOf 189 = .ok (.if_icmp .ne 8, 3) := by decide +kernel
theorem dX12_formOf_192 : decode cX12_formOf 192 = .ok (.bipush 6, 2) := by decide +kernel
theorem dX12_formOf_194 : decode cX12_formOf 194 = .ok (.goto 4, 3) := by decide +kernel
theorem dX12_formOf_197 : decode cX12_formOf 197 = .ok (.iconst 0, 1) := by decide +kernel
theorem dX12_formOf_198 : decode cX12_formOf 198 = .ok (.ireturn, 1) := by decide +kernel
theorem dX12_hasRoom_0 : decode cX12_hasRoom 0 = .ok (.aload_n 0, 1) := by decide +kernel
theorem dX12_hasRoom_1 : decode cX12_hasRoom 1 = .ok (.getfield 87, 3) := by decide +kernel
theorem dX12_hasRoom_4 : decode cX12_hasRoom 4 = .ok (.iload_n 2, 1) := by decide +kernel
theorem dX12_hasRoom_5 : decode cX12_hasRoom 5 = .ok (.iaload, 1) := by decide +kernel
theorem dX12_hasRoom_6 : decode cX12_hasRoom 6 = .ok (.iconst 1, 1) := by decide +kernel
theorem dX12_hasRoom_7 : decode cX12_hasRoom 7 = .ok (.if_icmp .ne 23, 3) := by decide +kernel
theorem dX12_hasRoom_10 : decode cX12_hasRoom 10 = .ok (.aload_n 0, 1) := by decide +kernel
theorem dX12_hasRoom_11 : decode cX12_hasRoom 11 = .ok (.getfield 90, 3) := by decide +kernel
theorem dX12_hasRoom_14 : decode cX12_hasRoom 14 = .ok (.iload_n 2, 1) := by decide +kernel
theorem dX12_hasRoom_15 : decode cX12_hasRoom 15 = .ok (.iaload, 1) := by decide +kernel
theorem dX12_hasRoom_16 : decode cX12_hasRoom 16 = .ok (.aload_n 0, 1) := by decide +kernel
theorem dX12_hasRoom_17 : decode cX12_hasRoom 17 = .ok (.iload_n 1, 1) := by decide +kernel
theorem dX12_hasRoom_18 : decode cX12_hasRoom 18 = .ok (.iconst 3, 1) := by decide +kernel
theorem dX12_hasRoom_19 : decode cX12_hasRoom 19 = .ok (.invokevirtual 184, 3) := by decide +kernel
theorem dX12_hasRoom_22 : decode cX12_hasRoom 22 = .ok (.ishr, 1) := by decide +kernel
theorem dX12_hasRoom_23 : decode cX12_hasRoom 23 = .ok (.ifCond .ne 7, 3) := by decide +kernel
theorem dX12_hasRoom_26 : decode cX12_hasRoom 26 = .ok (.iconst 1, 1) := by decide +kernel
theorem dX12_hasRoom_27 : decode cX12_hasRoom 27 = .ok (.goto 4, 3) := by decide +kernel
theorem dX12_hasRoom_30 : decode cX12_hasRoom 30 = .ok (.iconst 0, 1) := by decide +kernel
theorem dX12_hasRoom_31 : decode cX12_hasRoom 31 = .ok (.ireturn, 1) := by decide +kernel
theorem dX12_leastMove_0 : decode cX12_leastMove 0 = .ok (.iconst (-1), 1) := by decide +kernel
theorem dX12_leastMove_1 : decode cX12_leastMove 1 = .ok (.istore_n 1, 1) := by decide +kernel
theorem dX12_leastMove_2 : decode cX12_leastMove 2 = .ok (.iconst 0, 1) := by decide +kernel
theorem dX12_leastMove_3 : decode cX12_leastMove 3 = .ok (.istore_n 2, 1) := by decide +kernel
theorem dX12_leastMove_4 : decode cX12_leastMove 4 = .ok (.iload_n 2, 1) := by decide +kernel
theorem dX12_leastMove_5 : decode cX12_leastMove 5 = .ok (.aload_n 0, 1) := by decide +kernel
theorem dX12_leastMove_6 : decode cX12_leastMove 6 = .ok (.getfield 150, 3) := by decide +kernel
theorem dX12_leastMove_9 : decode cX12_leastMove 9 = .ok (.if_icmp .ge 43, 3) := by decide +kernel
theorem dX12_leastMove_12 : decode cX12_leastMove 12 = .ok (.aload_n 0, 1) := by decide +kernel
theorem dX12_leastMove_13 : decode cX12_leastMove 13 = .ok (.iload_n 2, 1) := by decide +kernel
theorem dX12_leastMove_14 : decode cX12_leastMove 14 = .ok (.invokevirtual 428, 3) := by decide +kernel
theorem dX12_leastMove_17 : decode cX12_leastMove 17 = .ok (.iconst 2, 1) := by decide +kernel
theorem dX12_leastMove_18 : decode cX12_leastMove 18 = .ok (.if_icmp .ne 26, 3) := by decide +kernel
theorem dX12_leastMove_21 : decode cX12_leastMove 21 = .ok (.iload_n 1, 1) := by decide +kernel
theorem dX12_leastMove_22 : decode cX12_leastMove 22 = .ok (.ifCond .lt 18, 3) := by decide +kernel
theorem dX12_leastMove_25 : decode cX12_leastMove 25 = .ok (.aload_n 0, 1) := by decide +kernel
theorem dX12_leastMove_26 : decode cX12_leastMove 26 = .ok (.getfield 38, 3) := by decide +kernel
theorem dX12_leastMove_29 : decode cX12_leastMove 29 = .ok (.iload_n 2, 1) := by decide +kernel
theorem dX12_leastMove_30 : decode cX12_leastMove 30 = .ok (.iaload, 1) := by decide +kernel
theorem dX12_leastMove_31 : decode cX12_leastMove 31 = .ok (.aload_n 0, 1) := by decide +kernel
theorem dX12_leastMove_32 : decode cX12_leastMove 32 = .ok (.getfield 38, 3) := by decide +kernel
theorem dX12_leastMove_35 : decode cX12_leastMove 35 = .ok (.iload_n 1, 1) := by decide +kernel
theorem dX12_leastMove_36 : decode cX12_leastMove 36 = .ok (.iaload, 1) := by decide +kernel
theorem dX12_leastMove_37 : decode cX12_leastMove 37 = .ok (.if_icmp .ge 7, 3) := by decide +kernel
theorem dX12_leastMove_40 : decode cX12_leastMove 40 = .ok (.iload_n 2, 1) := by decide +kernel
theorem dX12_leastMove_41 : decode cX12_leastMove 41 = .ok (.goto 4, 3) := by decide +kernel
theorem dX12_leastMove_44 : decode cX12_leastMove 44 = .ok (.iload_n 1, 1) := by decide +kernel
theorem dX12_leastMove_45 : decode cX12_leastMove 45 = .ok (.istore_n 1, 1) := by decide +kernel
theorem dX12_leastMove_46 : decode cX12_leastMove 46 = .ok (.iinc 2 1, 3) := by decide +kernel
theorem dX12_leastMove_49 : decode cX12_leastMove 49 = .ok (.goto (-45), 3) := by decide +kernel
theorem dX12_leastMove_52 : decode cX12_leastMove 52 = .ok (.iload_n 1, 1) := by decide +kernel
theorem dX12_leastMove_53 : decode cX12_leastMove 53 = .ok (.ireturn, 1) := by decide +kernel
theorem dX12_costBy_0 : decode cX12_costBy 0 = .ok (.aload_n 0, 1) := by decide +kernel
theorem dX12_costBy_1 : decode cX12_costBy 1 = .ok (.iload_n 1, 1) := by decide +kernel
theorem dX12_costBy_2 : decode cX12_costBy 2 = .ok (.invokevirtual 428, 3) := by decide +kernel
theorem dX12_costBy_5 : decode cX12_costBy 5 = .ok (.istore 4, 2) := by decide +kernel
theorem dX12_costBy_7 : decode cX12_costBy 7 = .ok (.aload_n 0, 1) := by decide +kernel
theorem dX12_costBy_8 : decode cX12_costBy 8 = .ok (.getfield 87, 3) := by decide +kernel
theorem dX12_costBy_11 : decode cX12_costBy 11 = .ok (.iload_n 2, 1) := by decide +kernel
theorem dX12_costBy_12 : decode cX12_costBy 12 = .ok (.iaload, 1) := by decide +kernel
theorem dX12_costBy_13 : decode cX12_costBy 13 = .ok (.iconst 1, 1) := by decide +kernel
theorem dX12_costBy_14 : decode cX12_costBy 14 = .ok (.if_icmp .ne 29, 3) := by decide +kernel
theorem dX12_costBy_17 : decode cX12_costBy 17 = .ok (.iload 4, 2) := by decide +kernel
theorem dX12_costBy_19 : decode cX12_costBy 19 = .ok (.iconst 1, 1) := by decide +kernel
theorem dX12_costBy_20 : decode cX12_costBy 20 = .ok (.if_icmp .ne 21, 3) := by decide +kernel
theorem dX12_costBy_23 : decode cX12_costBy 23 = .ok (.aload_n 0, 1) := by decide +kernel
theorem dX12_costBy_24 : decode cX12_costBy 24 = .ok (.iload_n 1, 1) := by decide +kernel
theorem dX12_costBy_25 : decode cX12_costBy 25 = .ok (.iload_n 2, 1) := by decide +kernel
theorem dX12_costBy_26 : decode cX12_costBy 26 = .ok (.invokevirtual 431, 3) := by decide +kernel
theorem dX12_costBy_29 : decode cX12_costBy 29 = .ok (.ifCond .eq 12, 3) := by decide +kernel
theorem dX12_costBy_32 : decode cX12_costBy 32 = .ok (.aload_n 0, 1) := by decide +kernel
theorem dX12_costBy_33 : decode cX12_costBy 33 = .ok (.getfield 38, 3) := by decide +kernel
theorem dX12_costBy_36 : decode cX12_costBy 36 = .ok (.iload_n 1, 1) := by decide +kernel
theorem dX12_costBy_37 : decode cX12_costBy 37 = .ok (.iaload, 1) := by decide +kernel
theorem dX12_costBy_38 : decode cX12_costBy 38 = .ok (.goto 4, 3) := by decide +kernel
theorem dX12_costBy_41 : decode cX12_costBy 41 = .ok (.iconst (-1), 1) := by decide +kernel
theorem dX12_costBy_42 : decode cX12_costBy 42 = .ok (.ireturn, 1) := by decide +kernel
theorem dX12_costBy_43 : decode cX12_costBy 43 = .ok (.iload 4, 2) := by decide +kernel
theorem dX12_costBy_45 : decode cX12_costBy 45 = .ok (.iconst 3, 1) := by decide +kernel
theorem dX12_costBy_46 : decode cX12_costBy 46 = .ok (.if_icmp .lt 23, 3) := by decide +kernel
theorem dX12_costBy_49 : decode cX12_costBy 49 = .ok (.aload_n 0, 1) := by decide +kernel
theorem dX12_costBy_50 : decode cX12_costBy 50 = .ok (.getfield 35, 3) := by decide +kernel
theorem dX12_costBy_53 : decode cX12_costBy 53 = .ok (.bipush 18, 2) := by decide +kernel
theorem dX12_costBy_55 : decode cX12_costBy 55 = .ok (.iload_n 1, 1) := by decide +kernel
theorem dX12_costBy_56 : decode cX12_costBy 56 = .ok (.imul, 1) := by decide +kernel
theorem dX12_costBy_57 : decode cX12_costBy 57 = .ok (.iconst 3, 1) := by decide +kernel
theorem dX12_costBy_58 : decode cX12_costBy 58 = .ok (.iadd, 1) := by decide +kernel
theorem dX12_costBy_59 : decode cX12_costBy 59 = .ok (.iaload, 1) := by decide +kernel
theorem dX12_costBy_60 : decode cX12_costBy 60 = .ok (.aload_n 0, 1) := by decide +kernel
theorem dX12_costBy_61 : decode cX12_costBy 61 = .ok (.getfield 90, 3) := by decide +kernel
theorem dX12_costBy_64 : decode cX12_costBy 64 = .ok (.iload_n 2, 1) := by decide +kernel
theorem dX12_costBy_65 : decode cX12_costBy 65 = .ok (.iaload, 1) := by decide +kernel
theorem dX12_costBy_66 : decode cX12_costBy 66 = .ok (.if_icmp .eq 5, 3) := by decide +kernel
theorem dX12_costBy_69 : decode cX12_costBy 69 = .ok (.iconst (-1), 1) := by decide +kernel
theorem dX12_costBy_70 : decode cX12_costBy 70 = .ok (.ireturn, 1) := by decide +kernel
theorem dX12_costBy_71 : decode cX12_costBy 71 = .ok (.aload_n 0, 1) := by decide +kernel
theorem dX12_costBy_72 : decode cX12_costBy 72 = .ok (.getfield 93, 3) := by decide +kernel
theorem dX12_costBy_75 : decode cX12_costBy 75 = .ok (.iload_n 2, 1) := by decide +kernel
theorem dX12_costBy_76 : decode cX12_costBy 76 = .ok (.iaload, 1) := by decide +kernel
theorem dX12_costBy_77 : decode cX12_costBy 77 = .ok (.istore 5, 2) := by decide +kernel
theorem dX12_costBy_79 : decode cX12_costBy 79 = .ok (.aload_n 0, 1) := by decide +kernel
theorem dX12_costBy_80 : decode cX12_costBy 80 = .ok (.getfield 96, 3) := by decide +kernel
theorem dX12_costBy_83 : decode cX12_costBy 83 = .ok (.iload_n 2, 1) := by decide +kernel
theorem dX12_costBy_84 : decode cX12_costBy 84 = .ok (.iaload, 1) := by decide +kernel
theorem dX12_costBy_85 : decode cX12_costBy 85 = .ok (.istore 6, 2) := by decide +kernel
theorem dX12_costBy_87 : decode cX12_costBy 87 = .ok (.iload 4, 2) := by decide +kernel
theorem dX12_costBy_89 : decode cX12_costBy 89 = .ok (.iconst 4, 1) := by decide +kernel
theorem dX12_costBy_90 : decode cX12_costBy 90 = .ok (.if_icmp .eq 10, 3) := by decide +kernel
theorem dX12_costBy_93 : decode cX12_costBy 93 = .ok (.iload 4, 2) := by decide +kernel
theorem dX12_costBy_95 : decode cX12_costBy 95 = .ok (.bipush 6, 2) := by decide +kernel
theorem dX12_costBy_97 : decode cX12_costBy 97 = .ok (.if_icmp .ne 7, 3) := by decide +kernel
theorem dX12_costBy_100 : decode cX12_costBy 100 = .ok (.iconst 1, 1) := by decide +kernel
theorem dX12_costBy_101 : decode cX12_costBy 101 = .ok (.goto 4, 3) := by decide +kernel
theorem dX12_costBy_104 : decode cX12_costBy 104 = .ok (.iconst 0, 1) := by decide +kernel
theorem dX12_costBy_105 : decode cX12_costBy 105 = .ok (.istore 7, 2) := by decide +kernel
theorem dX12_costBy_107 : decode cX12_costBy 107 = .ok (.iload 4, 2) := by decide +kernel
theorem dX12_costBy_109 : decode cX12_costBy 109 = .ok (.iconst 5, 1) := by decide +kernel
theorem dX12_costBy_110 : decode cX12_costBy 110 = .ok (.if_icmp .lt 17, 3) := by decide +kernel
theorem dX12_costBy_113 : decode cX12_costBy 113 = .ok (.aload_n 0, 1) := by decide +kernel
theorem dX12_costBy_114 : decode cX12_costBy 114 = .ok (.getfield 87, 3) := by decide +kernel
theorem dX12_costBy_117 : decode cX12_costBy 117 = .ok (.iload 5, 2) := by decide +kernel
theorem dX12_costBy_119 : decode cX12_costBy 119 = .ok (.iaload, 1) := by decide +kernel
theorem dX12_costBy_120 : decode cX12_costBy 120 = .ok (.ifCond .ne 7, 3) := by decide +kernel
theorem dX12_costBy_123 : decode cX12_costBy 123 = .ok (.iconst 1, 1) := by decide +kernel
theorem dX12_costBy_124 : decode cX12_costBy 124 = .ok (.goto 4, 3) := by decide +kernel
theorem dX12_costBy_127 : decode cX12_costBy 127 = .ok (.iconst 0, 1) := by decide +kernel
theorem dX12_costBy_128 : decode cX12_costBy 128 = .ok (.istore 8, 2) := by decide +kernel
theorem dX12_costBy_130 : decode cX12_costBy 130 = .ok (.aload_n 0, 1) := by decide +kernel
theorem dX12_costBy_131 : decode cX12_costBy 131 = .ok (.getfield 117, 3) := by decide +kernel
theorem dX12_costBy_134 : decode cX12_costBy 134 = .ok (.iload 5, 2) := by decide +kernel
theorem dX12_costBy_136 : decode cX12_costBy 136 = .ok (.iaload, 1) := by decide +kernel
theorem dX12_costBy_137 : decode cX12_costBy 137 = .ok (.ifCond .lt 40, 3) := by decide +kernel
theorem dX12_costBy_140 : decode cX12_costBy 140 = .ok (.iload 7, 2) := by decide +kernel
theorem dX12_costBy_142 : decode cX12_costBy 142 = .ok (.ifCond .eq 16, 3) := by decide +kernel
theorem dX12_costBy_145 : decode cX12_costBy 145 = .ok (.aload_n 0, 1) := by decide +kernel
theorem dX12_costBy_146 : decode cX12_costBy 146 = .ok (.iload_n 1, 1) := by decide +kernel
theorem dX12_costBy_147 : decode cX12_costBy 147 = .ok (.iload 6, 2) := by decide +kernel
theorem dX12_costBy_149 : decode cX12_costBy 149 = .ok (.invokevirtual 431, 3) := by decide +kernel
theorem dX12_costBy_152 : decode cX12_costBy 152 = .ok (.ifCond .ne 16, 3) := by decide +kernel
theorem dX12_costBy_155 : decode cX12_costBy 155 = .ok (.goto 22, 3) := by decide +kernel
theorem dX12_costBy_158 : decode cX12_costBy 158 = .ok (.aload_n 0, 1) := by decide +kernel
theorem dX12_costBy_159 : decode cX12_costBy 159 = .ok (.getfield 117, 3) := by decide +kernel
theorem dX12_costBy_162 : decode cX12_costBy 162 = .ok (.iload 6, 2) := by decide +kernel
theorem dX12_costBy_164 : decode cX12_costBy 164 = .ok (.iaload, 1) := by decide +kernel
theorem dX12_costBy_165 : decode cX12_costBy 165 = .ok (.ifCond .lt 12, 3) := by decide +kernel
theorem dX12_costBy_168 : decode cX12_costBy 168 = .ok (.iload 8, 2) := by decide +kernel
theorem dX12_costBy_170 : decode cX12_costBy 170 = .ok (.ifCond .eq 9, 3) := by decide +kernel
theorem dX12_costBy_173 : decode cX12_costBy 173 = .ok (.iload_n 3, 1) := by decide +kernel
theorem dX12_costBy_174 : decode cX12_costBy 174 = .ok (.ifCond .ge 5, 3) := by decide +kernel
theorem dX12_costBy_177 : decode cX12_costBy 177 = .ok (.iconst (-1), 1) := by decide +kernel
theorem dX12_costBy_178 : decode cX12_costBy 178 = .ok (.ireturn, 1) := by decide +kernel
theorem dX12_costBy_179 : decode cX12_costBy 179 = .ok (.aload_n 0, 1) := by decide +kernel
theorem dX12_costBy_180 : decode cX12_costBy 180 = .ok (.getfield 117, 3) := by decide +kernel
theorem dX12_costBy_183 : decode cX12_costBy 183 = .ok (.iload 5, 2) := by decide +kernel
theorem dX12_costBy_185 : decode cX12_costBy 185 = .ok (.iaload, 1) := by decide +kernel
theorem dX12_costBy_186 : decode cX12_costBy 186 = .ok (.iload 7, 2) := by decide +kernel
theorem dX12_costBy_188 : decode cX12_costBy 188 = .ok (.ifCond .eq 7, 3) := by decide +kernel
theorem dX12_costBy_191 : decode cX12_costBy 191 = .ok (.iconst 0, 1) := by decide +kernel
theorem dX12_costBy_192 : decode cX12_costBy 192 = .ok (.goto 10, 3) := by decide +kernel
theorem dX12_costBy_195 : decode cX12_costBy 195 = .ok (.aload_n 0, 1) := by decide +kernel
theorem dX12_costBy_196 : decode cX12_costBy 196 = .ok (.getfield 117, 3) := by decide +kernel
theorem dX12_costBy_199 : decode cX12_costBy 199 = .ok (.iload 6, 2) := by decide +kernel
theorem dX12_costBy_201 : decode cX12_costBy 201 = .ok (.iaload, 1) := by decide +kernel
theorem dX12_costBy_202 : decode cX12_costBy 202 = .ok (.iadd, 1) := by decide +kernel
theorem dX12_costBy_203 : decode cX12_costBy 203 = .ok (.aload_n 0, 1) := by decide +kernel
theorem dX12_costBy_204 : decode cX12_costBy 204 = .ok (.getfield 38, 3) := by decide +kernel
theorem dX12_costBy_207 : decode cX12_costBy 207 = .ok (.iload_n 1, 1) := by decide +kernel
theorem dX12_costBy_208 : decode cX12_costBy 208 = .ok (.iaload, 1) := by decide +kernel
theorem dX12_costBy_209 : decode cX12_costBy 209 = .ok (.iadd, 1) := by decide +kernel
theorem dX12_costBy_210 : decode cX12_costBy 210 = .ok (.iload 8, 2) := by decide +kernel
theorem dX12_costBy_212 : decode cX12_costBy 212 = .ok (.ifCond .eq 12, 3) := by decide +kernel
theorem dX12_costBy_215 : decode cX12_costBy 215 = .ok (.aload_n 0, 1) := by decide +kernel
theorem dX12_costBy_216 : decode cX12_costBy 216 = .ok (.getfield 38, 3) := by decide +kernel
theorem dX12_costBy_219 : decode cX12_costBy 219 = .ok (.iload_n 3, 1) := by decide +kernel
theorem dX12_costBy_220 : decode cX12_costBy 220 = .ok (.iaload, 1) := by decide +kernel
theorem dX12_costBy_221 : decode cX12_costBy 221 = .ok (.goto 4, 3) := by decide +kernel
theorem dX12_costBy_224 : decode cX12_costBy 224 = .ok (.iconst 0, 1) := by decide +kernel
theorem dX12_costBy_225 : decode cX12_costBy 225 = .ok (.iadd, 1) := by decide +kernel
theorem dX12_costBy_226 : decode cX12_costBy 226 = .ok (.ireturn, 1) := by decide +kernel
theorem dX12_findPrices_0 : decode cX12_findPrices 0 = .ok (.aload_n 0, 1) := by decide +kernel
theorem dX12_findPrices_1 : decode cX12_findPrices 1 = .ok (.invokevirtual 434, 3) := by decide +kernel
theorem dX12_findPrices_4 : decode cX12_findPrices 4 = .ok (.istore_n 1, 1) := by decide +kernel
theorem dX12_findPrices_5 : decode cX12_findPrices 5 = .ok (.iconst 0, 1) := by decide +kernel
theorem dX12_findPrices_6 : decode cX12_findPrices 6 = .ok (.istore_n 2, 1) := by decide +kernel
theorem dX12_findPrices_7 : decode cX12_findPrices 7 = .ok (.iload_n 2, 1) := by decide +kernel
theorem dX12_findPrices_8 : decode cX12_findPrices 8 = .ok (.aload_n 0, 1) := by decide +kernel
theorem dX12_findPrices_9 : decode cX12_findPrices 9 = .ok (.getfield 422, 3) := by decide +kernel
theorem dX12_findPrices_12 : decode cX12_findPrices 12 = .ok (.if_icmp .ge 110, 3) := by decide +kernel
theorem dX12_findPrices_15 : decode cX12_findPrices 15 = .ok (.aload_n 0, 1) := by decide +kernel
theorem dX12_findPrices_16 : decode cX12_findPrices 16 = .ok (.getfield 117, 3) := by decide +kernel
theorem dX12_findPrices_19 : decode cX12_findPrices 19 = .ok (.iload_n 2, 1) := by decide +kernel
theorem dX12_findPrices_20 : decode cX12_findPrices 20 = .ok (.aload_n 0, 1) := by decide +kernel
theorem dX12_findPrices_21 : decode cX12_findPrices 21 = .ok (.getfield 87, 3) := by decide +kernel
theorem dX12_findPrices_24 : decode cX12_findPrices 24 = .ok (.iload_n 2, 1) := by decide +kernel
theorem dX12_findPrices_25 : decode cX12_findPrices 25 = .ok (.iaload, 1) := by decide +kernel
theorem dX12_findPrices_26 : decode cX12_findPrices 26 = .ok (.ifCond .ne 7, 3) := by decide +kernel
theorem dX12_findPrices_29 : decode cX12_findPrices 29 = .ok (.iconst 0, 1) := by decide +kernel
theorem dX12_findPrices_30 : decode cX12_findPrices 30 = .ok (.goto 4, 3) := by decide +kernel
theorem dX12_findPrices_33 : decode cX12_findPrices 33 = .ok (.iconst (-1), 1) := by decide +kernel
theorem dX12_findPrices_34 : decode cX12_findPrices 34 = .ok (.iastore, 1) := by decide +kernel
theorem dX12_findPrices_35 : decode cX12_findPrices 35 = .ok (.aload_n 0, 1) := by decide +kernel
theorem dX12_findPrices_36 : decode cX12_findPrices 36 = .ok (.getfield 120, 3) := by decide +kernel
theorem dX12_findPrices_39 : decode cX12_findPrices 39 = .ok (.iload_n 2, 1) := by decide +kernel
theorem dX12_findPrices_40 : decode cX12_findPrices 40 = .ok (.iconst (-1), 1) := by decide +kernel
theorem dX12_findPrices_41 : decode cX12_findPrices 41 = .ok (.iastore, 1) := by decide +kernel
theorem dX12_findPrices_42 : decode cX12_findPrices 42 = .ok (.iconst 0, 1) := by decide +kernel
theorem dX12_findPrices_43 : decode cX12_findPrices 43 = .ok (.istore_n 3, 1) := by decide +kernel
theorem dX12_findPrices_44 : decode cX12_findPrices 44 = .ok (.iload_n 3, 1) := by decide +kernel
theorem dX12_findPrices_45 : decode cX12_findPrices 45 = .ok (.aload_n 0, 1) := by decide +kernel
theorem dX12_findPrices_46 : decode cX12_findPrices 46 = .ok (.getfield 150, 3) := by decide +kernel
theorem dX12_findPrices_49 : decode cX12_findPrices 49 = .ok (.if_icmp .ge 67, 3) := by decide +kernel
theorem dX12_findPrices_52 : decode cX12_findPrices 52 = .ok (.aload_n 0, 1) := by decide +kernel
theorem dX12_findPrices_53 : decode cX12_findPrices 53 = .ok (.getfield 87, 3) := by decide +kernel
theorem dX12_findPrices_56 : decode cX12_findPrices 56 = .ok (.iload_n 2, 1) := by decide +kernel
theorem dX12_findPrices_57 : decode cX12_findPrices 57 = .ok (.iaload, 1) := by decide +kernel
theorem dX12_findPrices_58 : decode cX12_findPrices 58 = .ok (.ifCond .le 58, 3) := by decide +kernel
theorem dX12_findPrices_61 : decode cX12_findPrices 61 = .ok (.aload_n 0, 1) := by decide +kernel
theorem dX12_findPrices_62 : decode cX12_findPrices 62 = .ok (.iload_n 3, 1) := by decide +kernel
theorem dX12_findPrices_63 : decode cX12_findPrices 63 = .ok (.iload_n 2, 1) := by decide +kernel
theorem dX12_findPrices_64 : decode cX12_findPrices 64 = .ok (.iload_n 1, 1) := by decide +kernel
theorem dX12_findPrices_65 : decode cX12_findPrices 65 = .ok (.invokevirtual 437, 3) := by decide +kernel
theorem dX12_findPrices_68 : decode cX12_findPrices 68 = .ok (.istore 4, 2) := by decide +kernel
theorem dX12_findPrices_70 : decode cX12_findPrices 70 = .ok (.iload 4, 2) := by decide +kernel
theorem dX12_findPrices_72 : decode cX12_findPrices 72 = .ok (.ifCond .lt 38, 3) := by decide +kernel
theorem dX12_findPrices_75 : decode cX12_findPrices 75 = .ok (.aload_n 0, 1) := by decide +kernel
theorem dX12_findPrices_76 : decode cX12_findPrices 76 = .ok (.getfield 117, 3) := by decide +kernel
theorem dX12_findPrices_79 : decode cX12_findPrices 79 = .ok (.iload_n 2, 1) := by decide +kernel
theorem dX12_findPrices_80 : decode cX12_findPrices 80 = .ok (.iaload, 1) := by decide +kernel
theorem dX12_findPrices_81 : decode cX12_findPrices 81 = .ok (.ifCond .lt 14, 3) := by decide +kernel
theorem dX12_findPrices_84 : decode cX12_findPrices 84 = .ok (.iload 4, 2) := by decide +kernel
theorem dX12_findPrices_86 : decode cX12_findPrices 86 = .ok (.aload_n 0, 1) := by decide +kernel
theorem dX12_findPrices_87 : decode cX12_findPrices 87 = .ok (.getfield 117, 3) := by decide +kernel
theorem dX12_findPrices_90 : decode cX12_findPrices 90 = .ok (.iload_n 2, 1) := by decide +kernel
theorem dX12_findPrices_91 : decode cX12_findPrices 91 = .ok (.iaload, 1) := by decide +kernel
theorem dX12_findPrices_92 : decode cX12_findPrices 92 = .ok (.if_icmp .ge 18, 3) := by decide +kernel
theorem dX12_findPrices_95 : decode cX12_findPrices 95 = .ok (.aload_n 0, 1) := by decide +kernel
theorem dX12_findPrices_96 : decode cX12_findPrices 96 = .ok (.getfield 117, 3) := by decide +kernel
theorem dX12_findPrices_99 : decode cX12_findPrices 99 = .ok (.iload_n 2, 1) := by decide +kernel
theorem dX12_findPrices_100 : decode cX12_findPrices 100 = .ok (.iload 4, 2) := by decide +kernel
theorem dX12_findPrices_102 : decode cX12_findPrices 102 = .ok (.iastore, 1) := by decide +kernel
theorem dX12_findPrices_103 : decode cX12_findPrices 103 = .ok (.aload_n 0, 1) := by decide +kernel
theorem dX12_findPrices_104 : decode cX12_findPrices 104 = .ok (.getfield 120, 3) := by decide +kernel
theorem dX12_findPrices_107 : decode cX12_findPrices 107 = .ok (.iload_n 2, 1) := by decide +kernel
theorem dX12_findPrices_108 : decode cX12_findPrices 108 = .ok (.iload_n 3, 1) := by decide +kernel
theorem dX12_findPrices_109 : decode cX12_findPrices 109 = .ok (.iastore, 1) := by decide +kernel
theorem dX12_findPrices_110 : decode cX12_findPrices 110 = .ok (.iinc 3 1, 3) := by decide +kernel
theorem dX12_findPrices_113 : decode cX12_findPrices 113 = .ok (.goto (-69), 3) := by decide +kernel
theorem dX12_findPrices_116 : decode cX12_findPrices 116 = .ok (.iinc 2 1, 3) := by decide +kernel
theorem dX12_findPrices_119 : decode cX12_findPrices 119 = .ok (.goto (-112), 3) := by decide +kernel
theorem dX12_findPrices_122 : decode cX12_findPrices 122 = .ok (.aload_n 0, 1) := by decide +kernel
theorem dX12_findPrices_123 : decode cX12_findPrices 123 = .ok (.getfield 87, 3) := by decide +kernel
theorem dX12_findPrices_126 : decode cX12_findPrices 126 = .ok (.aload_n 0, 1) := by decide +kernel
theorem dX12_findPrices_127 : decode cX12_findPrices 127 = .ok (.getfield 422, 3) := by decide +kernel
theorem dX12_findPrices_130 : decode cX12_findPrices 130 = .ok (.iconst 1, 1) := by decide +kernel
theorem dX12_findPrices_131 : decode cX12_findPrices 131 = .ok (.isub, 1) := by decide +kernel
theorem dX12_findPrices_132 : decode cX12_findPrices 132 = .ok (.iaload, 1) := by decide +kernel
theorem dX12_findPrices_133 : decode cX12_findPrices 133 = .ok (.ifCond .ne 30, 3) := by decide +kernel
theorem dX12_findPrices_136 : decode cX12_findPrices 136 = .ok (.aload_n 0, 1) := by decide +kernel
theorem dX12_findPrices_137 : decode cX12_findPrices 137 = .ok (.getfield 120, 3) := by decide +kernel
theorem dX12_findPrices_140 : decode cX12_findPrices 140 = .ok (.aload_n 0, 1) := by decide +kernel
theorem dX12_findPrices_141 : decode cX12_findPrices 141 = .ok (.getfield 422, 3) := by decide +kernel
theorem dX12_findPrices_144 : decode cX12_findPrices 144 = .ok (.iconst 1, 1) := by decide +kernel
theorem dX12_findPrices_145 : decode cX12_findPrices 145 = .ok (.isub, 1) := by decide +kernel
theorem dX12_findPrices_146 : decode cX12_findPrices 146 = .ok (.iload_n 1, 1) := by decide +kernel
theorem dX12_findPrices_147 : decode cX12_findPrices 147 = .ok (.iastore, 1) := by decide +kernel
theorem dX12_findPrices_148 : decode cX12_findPrices 148 = .ok (.iload_n 1, 1) := by decide +kernel
theorem dX12_findPrices_149 : decode cX12_findPrices 149 = .ok (.ifCond .ge 7, 3) := by decide +kernel
theorem dX12_findPrices_152 : decode cX12_findPrices 152 = .ok (.iconst (-1), 1) := by decide +kernel
theorem dX12_findPrices_153 : decode cX12_findPrices 153 = .ok (.goto 9, 3) := by decide +kernel
theorem dX12_findPrices_156 : decode cX12_findPrices 156 = .ok (.aload_n 0, 1) := by decide +kernel
theorem dX12_findPrices_157 : decode cX12_findPrices 157 = .ok (.getfield 38, 3) := by decide +kernel
theorem dX12_findPrices_160 : decode cX12_findPrices 160 = .ok (.iload_n 1, 1) := by decide +kernel
theorem dX12_findPrices_161 : decode cX12_findPrices 161 = .ok (.iaload, 1) := by decide +kernel
theorem dX12_findPrices_162 : decode cX12_findPrices 162 = .ok (.ireturn, 1) := by decide +kernel
theorem dX12_findPrices_163 : decode cX12_findPrices 163 = .ok (.aload_n 0, 1) := by decide +kernel
theorem dX12_findPrices_164 : decode cX12_findPrices 164 = .ok (.getfield 117, 3) := by decide +kernel
theorem dX12_findPrices_167 : decode cX12_findPrices 167 = .ok (.aload_n 0, 1) := by decide +kernel
theorem dX12_findPrices_168 : decode cX12_findPrices 168 = .ok (.getfield 422, 3) := by decide +kernel
theorem dX12_findPrices_171 : decode cX12_findPrices 171 = .ok (.iconst 1, 1) := by decide +kernel
theorem dX12_findPrices_172 : decode cX12_findPrices 172 = .ok (.isub, 1) := by decide +kernel
theorem dX12_findPrices_173 : decode cX12_findPrices 173 = .ok (.iaload, 1) := by decide +kernel
theorem dX12_findPrices_174 : decode cX12_findPrices 174 = .ok (.ireturn, 1) := by decide +kernel
theorem dX12_price_0 : decode cX12_price 0 = .ok (.aload_n 0, 1) := by decide +kernel
theorem dX12_price_1 : decode cX12_price 1 = .ok (.getfield 160, 3) := by decide +kernel
theorem dX12_price_4 : decode cX12_price 4 = .ok (.ifCond .ne 6, 3) := by decide +kernel
theorem dX12_price_7 : decode cX12_price 7 = .ok (.bipush (-2), 2) := by decide +kernel
theorem dX12_price_9 : decode cX12_price 9 = .ok (.ireturn, 1) := by decide +kernel
theorem dX12_price_10 : decode cX12_price 10 = .ok (.aload_n 0, 1) := by decide +kernel
theorem dX12_price_11 : decode cX12_price 11 = .ok (.invokevirtual 440, 3) := by decide +kernel
theorem dX12_price_14 : decode cX12_price 14 = .ok (.istore_n 1, 1) := by decide +kernel
theorem dX12_price_15 : decode cX12_price 15 = .ok (.iload_n 1, 1) := by decide +kernel
theorem dX12_price_16 : decode cX12_price 16 = .ok (.ifCond .ge 8, 3) := by decide +kernel
theorem dX12_price_19 : decode cX12_price 19 = .ok (.bipush (-4), 2) := by decide +kernel
theorem dX12_price_21 : decode cX12_price 21 = .ok (.goto 4, 3) := by decide +kernel
theorem dX12_price_24 : decode cX12_price 24 = .ok (.iload_n 1, 1) := by decide +kernel
theorem dX12_price_25 : decode cX12_price 25 = .ok (.ireturn, 1) := by decide +kernel
theorem dX12_emit_0 : decode cX12_emit 0 = .ok (.iconst 1, 1) := by decide +kernel
theorem dX12_emit_1 : decode cX12_emit 1 = .ok (.aload_n 0, 1) := by decide +kernel
theorem dX12_emit_2 : decode cX12_emit 2 = .ok (.getfield 13, 3) := by decide +kernel
theorem dX12_emit_5 : decode cX12_emit 5 = .ok (.ishl, 1) := by decide +kernel
theorem dX12_emit_6 : decode cX12_emit 6 = .ok (.istore 6, 2) := by decide +kernel
theorem dX12_emit_8 : decode cX12_emit 8 = .ok (.aload_n 0, 1) := by decide +kernel
theorem dX12_emit_9 : decode cX12_emit 9 = .ok (.aload_n 0, 1) := by decide +kernel
theorem dX12_emit_10 : decode cX12_emit 10 = .ok (.getfield 443, 3) := by decide +kernel
theorem dX12_emit_13 : decode cX12_emit 13 = .ok (.ifCond .eq 26, 3) := by decide +kernel
theorem dX12_emit_16 : decode cX12_emit 16 = .ok (.iload_n 2, 1) := by decide +kernel
theorem dX12_emit_17 : decode cX12_emit 17 = .ok (.iload 6, 2) := by decide +kernel
theorem dX12_emit_19 : decode cX12_emit 19 = .ok (.if_icmp .ge 20, 3) := by decide +kernel
theorem dX12_emit_22 : decode cX12_emit 22 = .ok (.iload_n 3, 1) := by decide +kernel
theorem dX12_emit_23 : decode cX12_emit 23 = .ok (.iload 6, 2) := by decide +kernel
theorem dX12_emit_25 : decode cX12_emit 25 = .ok (.if_icmp .ge 14, 3) := by decide +kernel
theorem dX12_emit_28 : decode cX12_emit 28 = .ok (.iload 4, 2) := by decide +kernel
theorem dX12_emit_30 : decode cX12_emit 30 = .ok (.iload 6, 2) := by decide +kernel
theorem dX12_emit_32 : decode cX12_emit 32 = .ok (.if_icmp .ge 7, 3) := by decide +kernel
theorem dX12_emit_35 : decode cX12_emit 35 = .ok (.iconst 1, 1) := by decide +kernel
theorem dX12_emit_36 : decode cX12_emit 36 = .ok (.goto 4, 3) := by decide +kernel
theorem dX12_emit_39 : decode cX12_emit 39 = .ok (.iconst 0, 1) := by decide +kernel
theorem dX12_emit_40 : decode cX12_emit 40 = .ok (.putfield 443, 3) := by decide +kernel
theorem dX12_emit_43 : decode cX12_emit 43 = .ok (.aload_n 0, 1) := by decide +kernel
theorem dX12_emit_44 : decode cX12_emit 44 = .ok (.getfield 78, 3) := by decide +kernel
theorem dX12_emit_47 : decode cX12_emit 47 = .ok (.iconst 0, 1) := by decide +kernel
theorem dX12_emit_48 : decode cX12_emit 48 = .ok (.iload_n 2, 1) := by decide +kernel
theorem dX12_emit_49 : decode cX12_emit 49 = .ok (.iastore, 1) := by decide +kernel
theorem dX12_emit_50 : decode cX12_emit 50 = .ok (.aload_n 0, 1) := by decide +kernel
theorem dX12_emit_51 : decode cX12_emit 51 = .ok (.getfield 78, 3) := by decide +kernel
theorem dX12_emit_54 : decode cX12_emit 54 = .ok (.iconst 1, 1) := by decide +kernel
theorem dX12_emit_55 : decode cX12_emit 55 = .ok (.iload_n 3, 1) := by decide +kernel
theorem dX12_emit_56 : decode cX12_emit 56 = .ok (.iastore, 1) := by decide +kernel
theorem dX12_emit_57 : decode cX12_emit 57 = .ok (.aload_n 0, 1) := by decide +kernel
theorem dX12_emit_58 : decode cX12_emit 58 = .ok (.getfield 78, 3) := by decide +kernel
theorem dX12_emit_61 : decode cX12_emit 61 = .ok (.iconst 2, 1) := by decide +kernel
theorem dX12_emit_62 : decode cX12_emit 62 = .ok (.iload 4, 2) := by decide +kernel
theorem dX12_emit_64 : decode cX12_emit 64 = .ok (.iastore, 1) := by decide +kernel
theorem dX12_emit_65 : decode cX12_emit 65 = .ok (.aload_n 0, 1) := by decide +kernel
theorem dX12_emit_66 : decode cX12_emit 66 = .ok (.getfield 78, 3) := by decide +kernel
theorem dX12_emit_69 : decode cX12_emit 69 = .ok (.iconst 3, 1) := by decide +kernel
theorem dX12_emit_70 : decode cX12_emit 70 = .ok (.iload 5, 2) := by decide +kernel
theorem dX12_emit_72 : decode cX12_emit 72 = .ok (.iastore, 1) := by decide +kernel
theorem dX12_emit_73 : decode cX12_emit 73 = .ok (.aload_n 0, 1) := by decide +kernel
theorem dX12_emit_74 : decode cX12_emit 74 = .ok (.getfield 123, 3) := by decide +kernel
theorem dX12_emit_77 : decode cX12_emit 77 = .ok (.aload_n 0, 1) := by decide +kernel
theorem dX12_emit_78 : decode cX12_emit 78 = .ok (.getfield 446, 3) := by decide +kernel
theorem dX12_emit_81 : decode cX12_emit 81 = .ok (.aload_n 0, 1) := by decide +kernel
theorem dX12_emit_82 : decode cX12_emit 82 = .ok (.iload_n 1, 1) := by decide +kernel
theorem dX12_emit_83 : decode cX12_emit 83 = .ok (.invokevirtual 393, 3) := by decide +kernel
theorem dX12_emit_86 : decode cX12_emit 86 = .ok (.iastore, 1) := by decide +kernel
theorem dX12_emit_87 : decode cX12_emit 87 = .ok (.aload_n 0, 1) := by decide +kernel
theorem dX12_emit_88 : decode cX12_emit 88 = .ok (.dup, 1) := by decide +kernel
theorem dX12_emit_89 : decode cX12_emit 89 = .ok (.getfield 446, 3) := by decide +kernel
theorem dX12_emit_92 : decode cX12_emit 92 = .ok (.iconst 1, 1) := by decide +kernel
theorem dX12_emit_93 : decode cX12_emit 93 = .ok (.iadd, 1) := by decide +kernel
theorem dX12_emit_94 : decode cX12_emit 94 = .ok (.putfield 446, 3) := by decide +kernel
theorem dX12_emit_97 : decode cX12_emit 97 = .ok (.return_, 1) := by decide +kernel
theorem dX12_addJob_0 : decode cX12_addJob 0 = .ok (.aload_n 0, 1) := by decide +kernel
theorem dX12_addJob_1 : decode cX12_addJob 1 = .ok (.getfield 126, 3) := by decide +kernel
theorem dX12_addJob_4 : decode cX12_addJob 4 = .ok (.aload_n 0, 1) := by decide +kernel
theorem dX12_addJob_5 : decode cX12_addJob 5 = .ok (.getfield 449, 3) := by decide +kernel
theorem dX12_addJob_8 : decode cX12_addJob 8 = .ok (.iload_n 1, 1) := by decide +kernel
theorem dX12_addJob_9 : decode cX12_addJob 9 = .ok (.iastore, 1) := by decide +kernel
theorem dX12_addJob_10 : decode cX12_addJob 10 = .ok (.aload_n 0, 1) := by decide +kernel
theorem dX12_addJob_11 : decode cX12_addJob 11 = .ok (.getfield 129, 3) := by decide +kernel
theorem dX12_addJob_14 : decode cX12_addJob 14 = .ok (.aload_n 0, 1) := by decide +kernel
theorem dX12_addJob_15 : decode cX12_addJob 15 = .ok (.getfield 449, 3) := by decide +kernel
theorem dX12_addJob_18 : decode cX12_addJob 18 = .ok (.iload_n 2, 1) := by decide +kernel
theorem dX12_addJob_19 : decode cX12_addJob 19 = .ok (.iastore, 1) := by decide +kernel
theorem dX12_addJob_20 : decode cX12_addJob 20 = .ok (.aload_n 0, 1) := by decide +kernel
theorem dX12_addJob_21 : decode cX12_addJob 21 = .ok (.getfield 132, 3) := by decide +kernel
theorem dX12_addJob_24 : decode cX12_addJob 24 = .ok (.aload_n 0, 1) := by decide +kernel
theorem dX12_addJob_25 : decode cX12_addJob 25 = .ok (.getfield 449, 3) := by decide +kernel
theorem dX12_addJob_28 : decode cX12_addJob 28 = .ok (.iconst 0, 1) := by decide +kernel
theorem dX12_addJob_29 : decode cX12_addJob 29 = .ok (.iastore, 1) := by decide +kernel
theorem dX12_addJob_30 : decode cX12_addJob 30 = .ok (.aload_n 0, 1) := by decide +kernel
theorem dX12_addJob_31 : decode cX12_addJob 31 = .ok (.dup, 1) := by decide +kernel
theorem dX12_addJob_32 : decode cX12_addJob 32 = .ok (.getfield 449, 3) := by decide +kernel
theorem dX12_addJob_35 : decode cX12_addJob 35 = .ok (.iconst 1, 1) := by decide +kernel
theorem dX12_addJob_36 : decode cX12_addJob 36 = .ok (.iadd, 1) := by decide +kernel
theorem dX12_addJob_37 : decode cX12_addJob 37 = .ok (.putfield 449, 3) := by decide +kernel
theorem dX12_addJob_40 : decode cX12_addJob 40 = .ok (.return_, 1) := by decide +kernel
theorem dX12_doJob_0 : decode cX12_doJob 0 = .ok (.aload_n 0, 1) := by decide +kernel
theorem dX12_doJob_1 : decode cX12_doJob 1 = .ok (.getfield 449, 3) := by decide +kernel
theorem dX12_doJob_4 : decode cX12_doJob 4 = .ok (.iconst 1, 1) := by decide +kernel
theorem dX12_doJob_5 : decode cX12_doJob 5 = .ok (.isub, 1) := by decide +kernel
theorem dX12_doJob_6 : decode cX12_doJob 6 = .ok (.istore_n 1, 1) := by decide +kernel
theorem dX12_doJob_7 : decode cX12_doJob 7 = .ok (.aload_n 0, 1) := by decide +kernel
theorem dX12_doJob_8 : decode cX12_doJob 8 = .ok (.getfield 126, 3) := by decide +kernel
theorem dX12_doJob_11 : decode cX12_doJob 11 = .ok (.iload_n 1, 1) := by decide +kernel
theorem dX12_doJob_12 : decode cX12_doJob 12 = .ok (.iaload, 1) := by decide +kernel
theorem dX12_doJob_13 : decode cX12_doJob 13 = .ok (.istore_n 2, 1) := by decide +kernel
theorem dX12_doJob_14 : decode cX12_doJob 14 = .ok (.aload_n 0, 1) := by decide +kernel
theorem dX12_doJob_15 : decode cX12_doJob 15 = .ok (.getfield 129, 3) := by decide +kernel
theorem dX12_doJob_18 : decode cX12_doJob 18 = .ok (.iload_n 1, 1) := by decide +kernel
theorem dX12_doJob_19 : decode cX12_doJob 19 = .ok (.iaload, 1) := by decide +kernel
theorem dX12_doJob_20 : decode cX12_doJob 20 = .ok (.istore_n 3, 1) := by decide +kernel
theorem dX12_doJob_21 : decode cX12_doJob 21 = .ok (.aload_n 0, 1) := by decide +kernel
theorem dX12_doJob_22 : decode cX12_doJob 22 = .ok (.getfield 120, 3) := by decide +kernel
theorem dX12_doJob_25 : decode cX12_doJob 25 = .ok (.iload_n 2, 1) := by decide +kernel
theorem dX12_doJob_26 : decode cX12_doJob 26 = .ok (.iaload, 1) := by decide +kernel
theorem dX12_doJob_27 : decode cX12_doJob 27 = .ok (.istore 4, 2) := by decide +kernel
theorem dX12_doJob_29 : decode cX12_doJob 29 = .ok (.aload_n 0, 1) := by decide +kernel
theorem dX12_doJob_30 : decode cX12_doJob 30 = .ok (.getfield 87, 3) := by decide +kernel
theorem dX12_doJob_33 : decode cX12_doJob 33 = .ok (.iload_n 2, 1) := by decide +kernel
theorem dX12_doJob_34 : decode cX12_doJob 34 = .ok (.iaload, 1) := by decide +kernel
theorem dX12_doJob_35 : decode cX12_doJob 35 = .ok (.iconst 1, 1) := by decide +kernel
theorem dX12_doJob_36 : decode cX12_doJob 36 = .ok (.if_icmp .ne 29, 3) := by decide +kernel
theorem dX12_doJob_39 : decode cX12_doJob 39 = .ok (.aload_n 0, 1) := by decide +kernel
theorem dX12_doJob_40 : decode cX12_doJob 40 = .ok (.iload 4, 2) := by decide +kernel
theorem dX12_doJob_42 : decode cX12_doJob 42 = .ok (.iload_n 3, 1) := by decide +kernel
theorem dX12_doJob_43 : decode cX12_doJob 43 = .ok (.iconst 0, 1) := by decide +kernel
theorem dX12_doJob_44 : decode cX12_doJob 44 = .ok (.iconst 0, 1) := by decide +kernel
theorem dX12_doJob_45 : decode cX12_doJob 45 = .ok (.aload_n 0, 1) := by decide +kernel
theorem dX12_doJob_46 : decode cX12_doJob 46 = .ok (.getfield 90, 3) := by decide +kernel
theorem dX12_doJob_49 : decode cX12_doJob 49 = .ok (.iload_n 2, 1) := by decide +kernel
theorem dX12_doJob_50 : decode cX12_doJob 50 = .ok (.iaload, 1) := by decide +kernel
theorem dX12_doJob_51 : decode cX12_doJob 51 = .ok (.invokevirtual 452, 3) := by decide +kernel
theorem dX12_doJob_54 : decode cX12_doJob 54 = .ok (.aload_n 0, 1) := by decide +kernel
theorem dX12_doJob_55 : decode cX12_doJob 55 = .ok (.dup, 1) := by decide +kernel
theorem dX12_doJob_56 : decode cX12_doJob 56 = .ok (.getfield 449, 3) := by decide +kernel
theorem dX12_doJob_59 : decode cX12_doJob 59 = .ok (.iconst 1, 1) := by decide +kernel
theorem dX12_doJob_60 : decode cX12_doJob 60 = .ok (.isub, 1) := by decide +kernel
theorem dX12_doJob_61 : decode cX12_doJob 61 = .ok (.putfield 449, 3) := by decide +kernel
theorem dX12_doJob_64 : decode cX12_doJob 64 = .ok (.return_, 1) := by decide +kernel
theorem dX12_doJob_65 : decode cX12_doJob 65 = .ok (.aload_n 0, 1) := by decide +kernel
theorem dX12_doJob_66 : decode cX12_doJob 66 = .ok (.iload 4, 2) := by decide +kernel
theorem dX12_doJob_68 : decode cX12_doJob 68 = .ok (.invokevirtual 428, 3) := by decide +kernel
theorem dX12_doJob_71 : decode cX12_doJob 71 = .ok (.istore 5, 2) := by decide +kernel
theorem dX12_doJob_73 : decode cX12_doJob 73 = .ok (.aload_n 0, 1) := by decide +kernel
theorem dX12_doJob_74 : decode cX12_doJob 74 = .ok (.getfield 93, 3) := by decide +kernel
theorem dX12_doJob_77 : decode cX12_doJob 77 = .ok (.iload_n 2, 1) := by decide +kernel
theorem dX12_doJob_78 : decode cX12_doJob 78 = .ok (.iaload, 1) := by decide +kernel
theorem dX12_doJob_79 : decode cX12_doJob 79 = .ok (.istore 6, 2) := by decide +kernel
theorem dX12_doJob_81 : decode cX12_doJob 81 = .ok (.aload_n 0, 1) := by decide +kernel
theorem dX12_doJob_82 : decode cX12_doJob 82 = .ok (.getfield 96, 3) := by decide +kernel
theorem dX12_doJob_85 : decode cX12_doJob 85 = .ok (.iload_n 2, 1) := by decide +kernel
theorem dX12_doJob_86 : decode cX12_doJob 86 = .ok (.iaload, 1) := by decide +kernel
theorem dX12_doJob_87 : decode cX12_doJob 87 = .ok (.istore 7, 2) := by decide +kernel
theorem dX12_doJob_89 : decode cX12_doJob 89 = .ok (.aload_n 0, 1) := by decide +kernel
theorem dX12_doJob_90 : decode cX12_doJob 90 = .ok (.getfield 87, 3) := by decide +kernel
theorem dX12_doJob_93 : decode cX12_doJob 93 = .ok (.iload 6, 2) := by decide +kernel
theorem dX12_doJob_95 : decode cX12_doJob 95 = .ok (.iaload, 1) := by decide +kernel
theorem dX12_doJob_96 : decode cX12_doJob 96 = .ok (.ifCond .ne 13, 3) := by decide +kernel
theorem dX12_doJob_99 : decode cX12_doJob 99 = .ok (.iload 5, 2) := by decide +kernel
theorem dX12_doJob_101 : decode cX12_doJob 101 = .ok (.iconst 5, 1) := by decide +kernel
theorem dX12_doJob_102 : decode cX12_doJob 102 = .ok (.if_icmp .ge 7, 3) := by decide +kernel
theorem dX12_doJob_105 : decode cX12_doJob 105 = .ok (.iconst 1, 1) := by decide +kernel
theorem dX12_doJob_106 : decode cX12_doJob 106 = .ok (.goto 4, 3) := by decide +kernel
theorem dX12_doJob_109 : decode cX12_doJob 109 = .ok (.iconst 0, 1) := by decide +kernel
theorem dX12_doJob_110 : decode cX12_doJob 110 = .ok (.istore 8, 2) := by decide +kernel
theorem dX12_doJob_112 : decode cX12_doJob 112 = .ok (.aload_n 0, 1) := by decide +kernel
theorem dX12_doJob_113 : decode cX12_doJob 113 = .ok (.getfield 87, 3) := by decide +kernel
theorem dX12_doJob_116 : decode cX12_doJob 116 = .ok (.iload 7, 2) := by decide +kernel
theorem dX12_doJob_118 : decode cX12_doJob 118 = .ok (.iaload, 1) := by decide +kernel
theorem dX12_doJob_119 : decode cX12_doJob 119 = .ok (.ifCond .ne 7, 3) := by decide +kernel
theorem dX12_doJob_122 : decode cX12_doJob 122 = .ok (.iconst 1, 1) := by decide +kernel
theorem dX12_doJob_123 : decode cX12_doJob 123 = .ok (.goto 4, 3) := by decide +kernel
theorem dX12_doJob_126 : decode cX12_doJob 126 = .ok (.iconst 0, 1) := by decide +kernel
theorem dX12_doJob_127 : decode cX12_doJob 127 = .ok (.istore 9, 2) := by decide +kernel
theorem dX12_doJob_129 : decode cX12_doJob 129 = .ok (.iload 8, 2) := by decide +kernel
theorem dX12_doJob_131 : decode cX12_doJob 131 = .ok (.ifCond .eq 7, 3) := by decide +kernel
theorem dX12_doJob_134 : decode cX12_doJob 134 = .ok (.iload_n 3, 1) := by decide +kernel
theorem dX12_doJob_135 : decode cX12_doJob 135 = .ok (.goto 6, 3) := by decide +kernel
theorem dX12_doJob_138 : decode cX12_doJob 138 = .ok (.iload_n 3, 1) := by decide +kernel
theorem dX12_doJob_139 : decode cX12_doJob 139 = .ok (.iconst 1, 1) := by decide +kernel
theorem dX12_doJob_140 : decode cX12_doJob 140 = .ok (.iadd, 1) := by decide +kernel
theorem dX12_doJob_141 : decode cX12_doJob 141 = .ok (.istore 10, 2) := by decide +kernel
theorem dX12_doJob_143 : decode cX12_doJob 143 = .ok (.aload_n 0, 1) := by decide +kernel
theorem dX12_doJob_144 : decode cX12_doJob 144 = .ok (.getfield 132, 3) := by decide +kernel
theorem dX12_doJob_147 : decode cX12_doJob 147 = .ok (.iload_n 1, 1) := by decide +kernel
theorem dX12_doJob_148 : decode cX12_doJob 148 = .ok (.dup2, 1) := by decide +kernel
theorem dX12_doJob_149 : decode cX12_doJob 149 = .ok (.iaload, 1) := by decide +kernel
theorem dX12_doJob_150 : decode cX12_doJob 150 = .ok (.iconst 1, 1) := by decide +kernel
theorem dX12_doJob_151 : decode cX12_doJob 151 = .ok (.iadd, 1) := by decide +kernel
theorem dX12_doJob_152 : decode cX12_doJob 152 = .ok (.iastore, 1) := by decide +kernel
theorem dX12_doJob_153 : decode cX12_doJob 153 = .ok (.aload_n 0, 1) := by decide +kernel
theorem dX12_doJob_154 : decode cX12_doJob 154 = .ok (.getfield 132, 3) := by decide +kernel
theorem dX12_doJob_157 : decode cX12_doJob 157 = .ok (.iload_n 1, 1) := by decide +kernel
theorem dX12_doJob_158 : decode cX12_doJob 158 = .ok (.iaload, 1) := by decide +kernel
theorem dX12_doJob_159 : decode cX12_doJob 159 = .ok (.iconst 1, 1) := by decide +kernel
theorem dX12_doJob_160 : decode cX12_doJob 160 = .ok (.if_icmp .ne 50, 3) := by decide +kernel
theorem dX12_doJob_163 : decode cX12_doJob 163 = .ok (.aload_n 0, 1) := by decide +kernel
theorem dX12_doJob_164 : decode cX12_doJob 164 = .ok (.getfield 87, 3) := by decide +kernel
theorem dX12_doJob_167 : decode cX12_doJob 167 = .ok (.iload 6, 2) := by decide +kernel
theorem dX12_doJob_169 : decode cX12_doJob 169 = .ok (.iaload, 1) := by decide +kernel
theorem dX12_doJob_170 : decode cX12_doJob 170 = .ok (.ifCond .eq 13, 3) := by decide +kernel
theorem dX12_doJob_173 : decode cX12_doJob 173 = .ok (.aload_n 0, 1) := by decide +kernel
theorem dX12_doJob_174 : decode cX12_doJob 174 = .ok (.iload 6, 2) := by decide +kernel
theorem dX12_doJob_176 : decode cX12_doJob 176 = .ok (.iload_n 3, 1) := by decide +kernel
theorem dX12_doJob_177 : decode cX12_doJob 177 = .ok (.invokevirtual 456, 3) := by decide +kernel
theorem dX12_doJob_180 : decode cX12_doJob 180 = .ok (.goto 198, 3) := by decide +kernel
theorem dX12_doJob_183 : decode cX12_doJob 183 = .ok (.iload 5, 2) := by decide +kernel
theorem dX12_doJob_185 : decode cX12_doJob 185 = .ok (.iconst 5, 1) := by decide +kernel
theorem dX12_doJob_186 : decode cX12_doJob 186 = .ok (.if_icmp .lt 192, 3) := by decide +kernel
theorem dX12_doJob_189 : decode cX12_doJob 189 = .ok (.aload_n 0, 1) := by decide +kernel
theorem dX12_doJob_190 : decode cX12_doJob 190 = .ok (.aload_n 0, 1) := by decide +kernel
theorem dX12_doJob_191 : decode cX12_doJob 191 = .ok (.invokevirtual 434, 3) := by decide +kernel
theorem dX12_doJob_194 : decode cX12_doJob 194 = .ok (.iload_n 3, 1) := by decide +kernel
theorem dX12_doJob_195 : decode cX12_doJob 195 = .ok (.aload_n 0, 1) := by decide +kernel
theorem dX12_doJob_196 : decode cX12_doJob 196 = .ok (.getfield 90, 3) := by decide +kernel
theorem dX12_doJob_199 : decode cX12_doJob 199 = .ok (.iload 6, 2) := by decide +kernel
theorem dX12_doJob_201 : decode cX12_doJob 201 = .ok (.iaload, 1) := by decide +kernel
theorem dX12_doJob_202 : decode cX12_doJob 202 = .ok (.iconst 0, 1) := by decide +kernel
theorem dX12_doJob_203 : decode cX12_doJob 203 = .ok (.iconst 0, 1) := by decide +kernel
theorem dX12_doJob_204 : decode cX12_doJob 204 = .ok (.invokevirtual 452, 3) := by decide +kernel
theorem dX12_doJob_207 : decode cX12_doJob 207 = .ok (.goto 171, 3) := by decide +kernel
theorem dX12_doJob_210 : decode cX12_doJob 210 = .ok (.aload_n 0, 1) := by decide +kernel
theorem dX12_doJob_211 : decode cX12_doJob 211 = .ok (.getfield 132, 3) := by decide +kernel
theorem dX12_doJob_214 : decode cX12_doJob 214 = .ok (.iload_n 1, 1) := by decide +kernel
theorem dX12_doJob_215 : decode cX12_doJob 215 = .ok (.iaload, 1) := by decide +kernel
theorem dX12_doJob_216 : decode cX12_doJob 216 = .ok (.iconst 2, 1) := by decide +kernel
theorem dX12_doJob_217 : decode cX12_doJob 217 = .ok (.if_icmp .ne 31, 3) := by decide +kernel
theorem dX12_doJob_220 : decode cX12_doJob 220 = .ok (.iload 5, 2) := by decide +kernel
theorem dX12_doJob_222 : decode cX12_doJob 222 = .ok (.iconst 3, 1) := by decide +kernel
theorem dX12_doJob_223 : decode cX12_doJob 223 = .ok (.if_icmp .eq 9, 3) := by decide +kernel
theorem dX12_doJob_226 : decode cX12_doJob 226 = .ok (.iload 5, 2) := by decide +kernel
theorem dX12_doJob_228 : decode cX12_doJob 228 = .ok (.iconst 5, 1) := by decide +kernel
theorem dX12_doJob_229 : decode cX12_doJob 229 = .ok (.if_icmp .ne 149, 3) := by decide +kernel
theorem dX12_doJob_232 : decode cX12_doJob 232 = .ok (.iload 9, 2) := by decide +kernel
theorem dX12_doJob_234 : decode cX12_doJob 234 = .ok (.ifCond .ne 144, 3) := by decide +kernel
theorem dX12_doJob_237 : decode cX12_doJob 237 = .ok (.aload_n 0, 1) := by decide +kernel
theorem dX12_doJob_238 : decode cX12_doJob 238 = .ok (.iload 7, 2) := by decide +kernel
theorem dX12_doJob_240 : decode cX12_doJob 240 = .ok (.iload 10, 2) := by decide +kernel
theorem dX12_doJob_242 : decode cX12_doJob 242 = .ok (.invokevirtual 456, 3) := by decide +kernel
theorem dX12_doJob_245 : decode cX12_doJob 245 = .ok (.goto 133, 3) := by decide +kernel
theorem dX12_doJob_248 : decode cX12_doJob 248 = .ok (.iload 8, 2) := by decide +kernel
theorem dX12_doJob_250 : decode cX12_doJob 250 = .ok (.ifCond .eq 13, 3) := by decide +kernel
theorem dX12_doJob_253 : decode cX12_doJob 253 = .ok (.aload_n 0, 1) := by decide +kernel
theorem dX12_doJob_254 : decode cX12_doJob 254 = .ok (.getfield 90, 3) := by decide +kernel
theorem dX12_doJob_257 : decode cX12_doJob 257 = .ok (.iload 6, 2) := by decide +kernel
theorem dX12_doJob_259 : decode cX12_doJob 259 = .ok (.iaload, 1) := by decide +kernel
theorem dX12_doJob_260 : decode cX12_doJob 260 = .ok (.goto 4, 3) := by decide +kernel
theorem dX12_doJob_263 : decode cX12_doJob 263 = .ok (.iload_n 3, 1) := by decide +kernel
theorem dX12_doJob_264 : decode cX12_doJob 264 = .ok (.istore 11, 2) := by decide +kernel
theorem dX12_doJob_266 : decode cX12_doJob 266 = .ok (.iload 9, 2) := by decide +kernel
theorem dX12_doJob_268 : decode cX12_doJob 268 = .ok (.ifCond .eq 13, 3) := by decide +kernel
theorem dX12_doJob_271 : decode cX12_doJob 271 = .ok (.aload_n 0, 1) := by decide +kernel
theorem dX12_doJob_272 : decode cX12_doJob 272 = .ok (.getfield 90, 3) := by decide +kernel
theorem dX12_doJob_275 : decode cX12_doJob 275 = .ok (.iload 7, 2) := by decide +kernel
theorem dX12_doJob_277 : decode cX12_doJob 277 = .ok (.iaload, 1) := by decide +kernel
theorem dX12_doJob_278 : decode cX12_doJob 278 = .ok (.goto 5, 3) := by decide +kernel
theorem dX12_doJob_281 : decode cX12_doJob 281 = .ok (.iload 10, 2) := by decide +kernel
theorem dX12_doJob_283 : decode cX12_doJob 283 = .ok (.istore 12, 2) := by decide +kernel
theorem dX12_doJob_285 : decode cX12_doJob 285 = .ok (.aload_n 0, 1) := by decide +kernel
theorem dX12_doJob_286 : decode cX12_doJob 286 = .ok (.dup, 1) := by decide +kernel
theorem dX12_doJob_287 : decode cX12_doJob 287 = .ok (.getfield 449, 3) := by decide +kernel
theorem dX12_doJob_290 : decode cX12_doJob 290 = .ok (.iconst 1, 1) := by decide +kernel
theorem dX12_doJob_291 : decode cX12_doJob 291 = .ok (.isub, 1) := by decide +kernel
theorem dX12_doJob_292 : decode cX12_doJob 292 = .ok (.putfield 449, 3) := by decide +kernel
theorem dX12_doJob_295 : decode cX12_doJob 295 = .ok (.iload 5, 2) := by decide +kernel
theorem dX12_doJob_297 : decode cX12_doJob 297 = .ok (.iconst 3, 1) := by decide +kernel
theorem dX12_doJob_298 : decode cX12_doJob 298 = .ok (.if_icmp .ne 18, 3) := by decide +kernel
theorem dX12_doJob_301 : decode cX12_doJob 301 = .ok (.aload_n 0, 1) := by decide +kernel
theorem dX12_doJob_302 : decode cX12_doJob 302 = .ok (.iload 4, 2) := by decide +kernel
theorem dX12_doJob_304 : decode cX12_doJob 304 = .ok (.iload_n 3, 1) := by decide +kernel
theorem dX12_doJob_305 : decode cX12_doJob 305 = .ok (.iload 11, 2) := by decide +kernel
theorem dX12_doJob_307 : decode cX12_doJob 307 = .ok (.iload 12, 2) := by decide +kernel
theorem dX12_doJob_309 : decode cX12_doJob 309 = .ok (.iconst 0, 1) := by decide +kernel
theorem dX12_doJob_310 : decode cX12_doJob 310 = .ok (.invokevirtual 452, 3) := by decide +kernel
theorem dX12_doJob_313 : decode cX12_doJob 313 = .ok (.goto 65, 3) := by decide +kernel
theorem dX12_doJob_316 : decode cX12_doJob 316 = .ok (.iload 5, 2) := by decide +kernel
theorem dX12_doJob_318 : decode cX12_doJob 318 = .ok (.iconst 4, 1) := by decide +kernel
theorem dX12_doJob_319 : decode cX12_doJob 319 = .ok (.if_icmp .ne 23, 3) := by decide +kernel
theorem dX12_doJob_322 : decode cX12_doJob 322 = .ok (.aload_n 0, 1) := by decide +kernel
theorem dX12_doJob_323 : decode cX12_doJob 323 = .ok (.iload 4, 2) := by decide +kernel
theorem dX12_doJob_325 : decode cX12_doJob 325 = .ok (.iload_n 3, 1) := by decide +kernel
theorem dX12_doJob_326 : decode cX12_doJob 326 = .ok (.iload 11, 2) := by decide +kernel
theorem dX12_doJob_328 : decode cX12_doJob 328 = .ok (.iconst 0, 1) := by decide +kernel
theorem dX12_doJob_329 : decode cX12_doJob 329 = .ok (.aload_n 0, 1) := by decide +kernel
theorem dX12_doJob_330 : decode cX12_doJob 330 = .ok (.getfield 90, 3) := by decide +kernel
theorem dX12_doJob_333 : decode cX12_doJob 333 = .ok (.iload 7, 2) := by decide +kernel
theorem dX12_doJob_335 : decode cX12_doJob 335 = .ok (.iaload, 1) := by decide +kernel
theorem dX12_doJob_336 : decode cX12_doJob 336 = .ok (.invokevirtual 452, 3) := by decide +kernel
theorem dX12_doJob_339 : decode cX12_doJob 339 = .ok (.goto 39, 3) := by decide +kernel
theorem dX12_doJob_342 : decode cX12_doJob 342 = .ok (.iload 5, 2) := by decide +kernel
theorem dX12_doJob_344 : decode cX12_doJob 344 = .ok (.iconst 5, 1) := by decide +kernel
theorem dX12_doJob_345 : decode cX12_doJob 345 = .ok (.if_icmp .ne 17, 3) := by decide +kernel
theorem dX12_doJob_348 : decode cX12_doJob 348 = .ok (.aload_n 0, 1) := by decide +kernel
theorem dX12_doJob_349 : decode cX12_doJob 349 = .ok (.iload 4, 2) := by decide +kernel
theorem dX12_doJob_351 : decode cX12_doJob 351 = .ok (.iload_n 3, 1) := by decide +kernel
theorem dX12_doJob_352 : decode cX12_doJob 352 = .ok (.iload 12, 2) := by decide +kernel
theorem dX12_doJob_354 : decode cX12_doJob 354 = .ok (.iconst 0, 1) := by decide +kernel
theorem dX12_doJob_355 : decode cX12_doJob 355 = .ok (.iconst 0, 1) := by decide +kernel
theorem dX12_doJob_356 : decode cX12_doJob 356 = .ok (.invokevirtual 452, 3) := by decide +kernel
theorem dX12_doJob_359 : decode cX12_doJob 359 = .ok (.goto 19, 3) := by decide +kernel
theorem dX12_doJob_362 : decode cX12_doJob 362 = .ok (.aload_n 0, 1) := by decide +kernel
theorem dX12_doJob_363 : decode cX12_doJob 363 = .ok (.iload 4, 2) := by decide +kernel
theorem dX12_doJob_365 : decode cX12_doJob 365 = .ok (.iload_n 3, 1) := by decide +kernel
theorem dX12_doJob_366 : decode cX12_doJob 366 = .ok (.iconst 0, 1) := by decide +kernel
theorem dX12_doJob_367 : decode cX12_doJob 367 = .ok (.iconst 0, 1) := by decide +kernel
theorem dX12_doJob_368 : decode cX12_doJob 368 = .ok (.aload_n 0, 1) := by decide +kernel
theorem dX12_doJob_369 : decode cX12_doJob 369 = .ok (.getfield 90, 3) := by decide +kernel
theorem dX12_doJob_372 : decode cX12_doJob 372 = .ok (.iload 7, 2) := by decide +kernel
theorem dX12_doJob_374 : decode cX12_doJob 374 = .ok (.iaload, 1) := by decide +kernel
theorem dX12_doJob_375 : decode cX12_doJob 375 = .ok (.invokevirtual 452, 3) := by decide +kernel
theorem dX12_doJob_378 : decode cX12_doJob 378 = .ok (.return_, 1) := by decide +kernel
theorem dX12_make_0 : decode cX12_make 0 = .ok (.iload_n 1, 1) := by decide +kernel
theorem dX12_make_1 : decode cX12_make 1 = .ok (.i2l, 1) := by decide +kernel
theorem dX12_make_2 : decode cX12_make 2 = .ok (.lconst 0, 1) := by decide +kernel
theorem dX12_make_3 : decode cX12_make 3 = .ok (.ldc2_w 344, 3) := by decide +kernel
theorem dX12_make_6 : decode cX12_make 6 = .ok (.invokestatic 170, 3) := by decide +kernel
theorem dX12_make_9 : decode cX12_make 9 = .ok (.ifCond .ne 5, 3) := by decide +kernel
theorem dX12_make_12 : decode cX12_make 12 = .ok (.iconst (-1), 1) := by decide +kernel
theorem dX12_make_13 : decode cX12_make 13 = .ok (.ireturn, 1) := by decide +kernel
theorem dX12_make_14 : decode cX12_make 14 = .ok (.aload_n 0, 1) := by decide +kernel
theorem dX12_make_15 : decode cX12_make 15 = .ok (.getfield 160, 3) := by decide +kernel
theorem dX12_make_18 : decode cX12_make 18 = .ok (.ifCond .ne 6, 3) := by decide +kernel
theorem dX12_make_21 : decode cX12_make 21 = .ok (.bipush (-2), 2) := by decide +kernel
theorem dX12_make_23 : decode cX12_make 23 = .ok (.ireturn, 1) := by decide +kernel
theorem dX12_make_24 : decode cX12_make 24 = .ok (.aload_n 0, 1) := by decide +kernel
theorem dX12_make_25 : decode cX12_make 25 = .ok (.invokevirtual 440, 3) := by decide +kernel
theorem dX12_make_28 : decode cX12_make 28 = .ok (.ifCond .ge 6, 3) := by decide +kernel
theorem dX12_make_31 : decode cX12_make 31 = .ok (.bipush (-4), 2) := by decide +kernel
theorem dX12_make_33 : decode cX12_make 33 = .ok (.ireturn, 1) := by decide +kernel
theorem dX12_make_34 : decode cX12_make 34 = .ok (.aload_n 0, 1) := by decide +kernel
theorem dX12_make_35 : decode cX12_make 35 = .ok (.iconst 0, 1) := by decide +kernel
theorem dX12_make_36 : decode cX12_make 36 = .ok (.putfield 446, 3) := by decide +kernel
theorem dX12_make_39 : decode cX12_make 39 = .ok (.aload_n 0, 1) := by decide +kernel
theorem dX12_make_40 : decode cX12_make 40 = .ok (.iconst 1, 1) := by decide +kernel
theorem dX12_make_41 : decode cX12_make 41 = .ok (.putfield 443, 3) := by decide +kernel
theorem dX12_make_44 : decode cX12_make 44 = .ok (.aload_n 0, 1) := by decide +kernel
theorem dX12_make_45 : decode cX12_make 45 = .ok (.getfield 422, 3) := by decide +kernel
theorem dX12_make_48 : decode cX12_make 48 = .ok (.iconst 1, 1) := by decide +kernel
theorem dX12_make_49 : decode cX12_make 49 = .ok (.isub, 1) := by decide +kernel
theorem dX12_make_50 : decode cX12_make 50 = .ok (.istore_n 2, 1) := by decide +kernel
theorem dX12_make_51 : decode cX12_make 51 = .ok (.aload_n 0, 1) := by decide +kernel
theorem dX12_make_52 : decode cX12_make 52 = .ok (.getfield 87, 3) := by decide +kernel
theorem dX12_make_55 : decode cX12_make 55 = .ok (.iload_n 2, 1) := by decide +kernel
theorem dX12_make_56 : decode cX12_make 56 = .ok (.iaload, 1) := by decide +kernel
theorem dX12_make_57 : decode cX12_make 57 = .ok (.ifCond .ne 28, 3) := by decide +kernel
theorem dX12_make_60 : decode cX12_make 60 = .ok (.aload_n 0, 1) := by decide +kernel
theorem dX12_make_61 : decode cX12_make 61 = .ok (.aload_n 0, 1) := by decide +kernel
theorem dX12_make_62 : decode cX12_make 62 = .ok (.getfield 120, 3) := by decide +kernel
theorem dX12_make_65 : decode cX12_make 65 = .ok (.iload_n 2, 1) := by decide +kernel
theorem dX12_make_66 : decode cX12_make 66 = .ok (.iaload, 1) := by decide +kernel
theorem dX12_make_67 : decode cX12_make 67 = .ok (.aload_n 0, 1) := by decide +kernel
theorem dX12_make_68 : decode cX12_make 68 = .ok (.getfield 84, 3) := by decide +kernel
theorem dX12_make_71 : decode cX12_make 71 = .ok (.aload_n 0, 1) := by decide +kernel
theorem dX12_make_72 : decode cX12_make 72 = .ok (.getfield 90, 3) := by decide +kernel
theorem dX12_make_75 : decode cX12_make 75 = .ok (.iload_n 2, 1) := by decide +kernel
theorem dX12_make_76 : decode cX12_make 76 = .ok (.iaload, 1) := by decide +kernel
theorem dX12_make_77 : decode cX12_make 77 = .ok (.iconst 0, 1) := by decide +kernel
theorem dX12_make_78 : decode cX12_make 78 = .ok (.iconst 0, 1) := by decide +kernel
theorem dX12_make_79 : decode cX12_make 79 = .ok (.invokevirtual 452, 3) := by decide +kernel
theorem dX12_make_82 : decode cX12_make 82 = .ok (.goto 38, 3) := by decide +kernel
theorem dX12_make_85 : decode cX12_make 85 = .ok (.aload_n 0, 1) := by decide +kernel
theorem dX12_make_86 : decode cX12_make 86 = .ok (.iconst 0, 1) := by decide +kernel
theorem dX12_make_87 : decode cX12_make 87 = .ok (.putfield 449, 3) := by decide +kernel
theorem dX12_make_90 : decode cX12_make 90 = .ok (.aload_n 0, 1) := by decide +kernel
theorem dX12_make_91 : decode cX12_make 91 = .ok (.iload_n 2, 1) := by decide +kernel
theorem dX12_make_92 : decode cX12_make 92 = .ok (.aload_n 0, 1) := by decide +kernel
theorem dX12_make_93 : decode cX12_make 93 = .ok (.getfield 84, 3) := by decide +kernel
theorem dX12_make_96 : decode cX12_make 96 = .ok (.invokevirtual 456, 3) := by decide +kernel
theorem dX12_make_99 : decode cX12_make 99 = .ok (.aload_n 0, 1) := by decide +kernel
theorem dX12_make_100 : decode cX12_make 100 = .ok (.getfield 449, 3) := by decide +kernel
theorem dX12_make_103 : decode cX12_make 103 = .ok (.ifCond .le 17, 3) := by decide +kernel
theorem dX12_make_106 : decode cX12_make 106 = .ok (.aload_n 0, 1) := by decide +kernel
theorem dX12_make_107 : decode cX12_make 107 = .ok (.getfield 443, 3) := by decide +kernel
theorem dX12_make_110 : decode cX12_make 110 = .ok (.ifCond .eq 10, 3) := by decide +kernel
theorem dX12_make_113 : decode cX12_make 113 = .ok (.aload_n 0, 1) := by decide +kernel
theorem dX12_make_114 : decode cX12_make 114 = .ok (.invokevirtual 459, 3) := by decide +kernel
theorem dX12_make_117 : decode cX12_make 117 = .ok (.goto (-18), 3) := by decide +kernel
theorem dX12_make_120 : decode cX12_make 120 = .ok (.aload_n 0, 1) := by decide +kernel
theorem dX12_make_121 : decode cX12_make 121 = .ok (.getfield 443, 3) := by decide +kernel
theorem dX12_make_124 : decode cX12_make 124 = .ok (.ifCond .eq 14, 3) := by decide +kernel
theorem dX12_make_127 : decode cX12_make 127 = .ok (.iload_n 1, 1) := by decide +kernel
theorem dX12_make_128 : decode cX12_make 128 = .ok (.aload_n 0, 1) := by decide +kernel
theorem dX12_make_129 : decode cX12_make 129 = .ok (.getfield 446, 3) := by decide +kernel
theorem dX12_make_132 : decode cX12_make 132 = .ok (.iadd, 1) := by decide +kernel
theorem dX12_make_133 : decode cX12_make 133 = .ok (.bipush 64, 2) := by decide +kernel
theorem dX12_make_135 : decode cX12_make 135 = .ok (.if_icmp .le 6, 3) := by decide +kernel
theorem dX12_make_138 : decode cX12_make 138 = .ok (.bipush (-3), 2) := by decide +kernel
theorem dX12_make_140 : decode cX12_make 140 = .ok (.ireturn, 1) := by decide +kernel
theorem dX12_make_141 : decode cX12_make 141 = .ok (.iconst 0, 1) := by decide +kernel
theorem dX12_make_142 : decode cX12_make 142 = .ok (.istore_n 3, 1) := by decide +kernel
theorem dX12_make_143 : decode cX12_make 143 = .ok (.iload_n 3, 1) := by decide +kernel
theorem dX12_make_144 : decode cX12_make 144 = .ok (.aload_n 0, 1) := by decide +kernel
theorem dX12_make_145 : decode cX12_make 145 = .ok (.getfield 446, 3) := by decide +kernel
theorem dX12_make_148 : decode cX12_make 148 = .ok (.if_icmp .ge 23, 3) := by decide +kernel
theorem dX12_make_151 : decode cX12_make 151 = .ok (.aload_n 0, 1) := by decide +kernel
theorem dX12_make_152 : decode cX12_make 152 = .ok (.getfield 59, 3) := by decide +kernel
theorem dX12_make_155 : decode cX12_make 155 = .ok (.iload_n 1, 1) := by decide +kernel
theorem dX12_make_156 : decode cX12_make 156 = .ok (.iload_n 3, 1) := by decide +kernel
theorem dX12_make_157 : decode cX12_make 157 = .ok (.iadd, 1) := by decide +kernel
theorem dX12_make_158 : decode cX12_make 158 = .ok (.aload_n 0, 1) := by decide +kernel
theorem dX12_make_159 : decode cX12_make 159 = .ok (.getfield 123, 3) := by decide +kernel
theorem dX12_make_162 : decode cX12_make 162 = .ok (.iload_n 3, 1) := by decide +kernel
theorem dX12_make_163 : decode cX12_make 163 = .ok (.iaload, 1) := by decide +kernel
theorem dX12_make_164 : decode cX12_make 164 = .ok (.iastore, 1) := by decide +kernel
theorem dX12_make_165 : decode cX12_make 165 = .ok (.iinc 3 1, 3) := by decide +kernel
theorem dX12_make_168 : decode cX12_make 168 = .ok (.goto (-25), 3) := by decide +kernel
theorem dX12_make_171 : decode cX12_make 171 = .ok (.aload_n 0, 1) := by decide +kernel
theorem dX12_make_172 : decode cX12_make 172 = .ok (.getfield 446, 3) := by decide +kernel
theorem dX12_make_175 : decode cX12_make 175 = .ok (.ireturn, 1) := by decide +kernel
theorem dX12_value_0 : decode cX12_value 0 = .ok (.aload_n 0, 1) := by decide +kernel
theorem dX12_value_1 : decode cX12_value 1 = .ok (.getfield 160, 3) := by decide +kernel
theorem dX12_value_4 : decode cX12_value 4 = .ok (.ifCond .ne 6, 3) := by decide +kernel
theorem dX12_value_7 : decode cX12_value 7 = .ok (.bipush (-2), 2) := by decide +kernel
theorem dX12_value_9 : decode cX12_value 9 = .ok (.ireturn, 1) := by decide +kernel
theorem dX12_value_10 : decode cX12_value 10 = .ok (.iconst 0, 1) := by decide +kernel
theorem dX12_value_11 : decode cX12_value 11 = .ok (.istore_n 1, 1) := by decide +kernel
theorem dX12_value_12 : decode cX12_value 12 = .ok (.iload_n 1, 1) := by decide +kernel
theorem dX12_value_13 : decode cX12_value 13 = .ok (.aload_n 0, 1) := by decide +kernel
theorem dX12_value_14 : decode cX12_value 14 = .ok (.getfield 422, 3) := by decide +kernel
theorem dX12_value_17 : decode cX12_value 17 = .ok (.if_icmp .ge 93, 3) := by decide +kernel
theorem dX12_value_20 : decode cX12_value 20 = .ok (.aload_n 0, 1) := by decide +kernel
theorem dX12_value_21 : decode cX12_value 21 = .ok (.getfield 135, 3) := by decide +kernel
theorem dX12_value_24 : decode cX12_value 24 = .ok (.iload_n 1, 1) := by decide +kernel
theorem dX12_value_25 : decode cX12_value 25 = .ok (.aload_n 0, 1) := by decide +kernel
theorem dX12_value_26 : decode cX12_value 26 = .ok (.getfield 87, 3) := by decide +kernel
theorem dX12_value_29 : decode cX12_value 29 = .ok (.iload_n 1, 1) := by decide +kernel
theorem dX12_value_30 : decode cX12_value 30 = .ok (.iaload, 1) := by decide +kernel
theorem dX12_value_31 : decode cX12_value 31 = .ok (.ifCond .ne 17, 3) := by decide +kernel
theorem dX12_value_34 : decode cX12_value 34 = .ok (.aload_n 0, 1) := by decide +kernel
theorem dX12_value_35 : decode cX12_value 35 = .ok (.getfield 62, 3) := by decide +kernel
theorem dX12_value_38 : decode cX12_value 38 = .ok (.aload_n 0, 1) := by decide +kernel
theorem dX12_value_39 : decode cX12_value 39 = .ok (.getfield 90, 3) := by decide +kernel
theorem dX12_value_42 : decode cX12_value 42 = .ok (.iload_n 1, 1) := by decide +kernel
theorem dX12_value_43 : decode cX12_value 43 = .ok (.iaload, 1) := by decide +kernel
theorem dX12_value_44 : decode cX12_value 44 = .ok (.iaload, 1) := by decide +kernel
theorem dX12_value_45 : decode cX12_value 45 = .ok (.goto 58, 3) := by decide +kernel
theorem dX12_value_48 : decode cX12_value 48 = .ok (.aload_n 0, 1) := by decide +kernel
theorem dX12_value_49 : decode cX12_value 49 = .ok (.getfield 87, 3) := by decide +kernel
theorem dX12_value_52 : decode cX12_value 52 = .ok (.iload_n 1, 1) := by decide +kernel
theorem dX12_value_53 : decode cX12_value 53 = .ok (.iaload, 1) := by decide +kernel
theorem dX12_value_54 : decode cX12_value 54 = .ok (.iconst 1, 1) := by decide +kernel
theorem dX12_value_55 : decode cX12_value 55 = .ok (.if_icmp .ne 12, 3) := by decide +kernel
theorem dX12_value_58 : decode cX12_value 58 = .ok (.aload_n 0, 1) := by decide +kernel
theorem dX12_value_59 : decode cX12_value 59 = .ok (.getfield 90, 3) := by decide +kernel
theorem dX12_value_62 : decode cX12_value 62 = .ok (.iload_n 1, 1) := by decide +kernel
theorem dX12_value_63 : decode cX12_value 63 = .ok (.iaload, 1) := by decide +kernel
theorem dX12_value_64 : decode cX12_value 64 = .ok (.goto 39, 3) := by decide +kernel
theorem dX12_value_67 : decode cX12_value 67 = .ok (.aload_n 0, 1) := by decide +kernel
theorem dX12_value_68 : decode cX12_value 68 = .ok (.getfield 90, 3) := by decide +kernel
theorem dX12_value_71 : decode cX12_value 71 = .ok (.iload_n 1, 1) := by decide +kernel
theorem dX12_value_72 : decode cX12_value 72 = .ok (.iaload, 1) := by decide +kernel
theorem dX12_value_73 : decode cX12_value 73 = .ok (.aload_n 0, 1) := by decide +kernel
theorem dX12_value_74 : decode cX12_value 74 = .ok (.getfield 135, 3) := by decide +kernel
theorem dX12_value_77 : decode cX12_value 77 = .ok (.aload_n 0, 1) := by decide +kernel
theorem dX12_value_78 : decode cX12_value 78 = .ok (.getfield 93, 3) := by decide +kernel
theorem dX12_value_81 : decode cX12_value 81 = .ok (.iload_n 1, 1) := by decide +kernel
theorem dX12_value_82 : decode cX12_value 82 = .ok (.iaload, 1) := by decide +kernel
theorem dX12_value_83 : decode cX12_value 83 = .ok (.iaload, 1) := by decide +kernel
theorem dX12_value_84 : decode cX12_value 84 = .ok (.aload_n 0, 1) := by decide +kernel
theorem dX12_value_85 : decode cX12_value 85 = .ok (.getfield 135, 3) := by decide +kernel
theorem dX12_value_88 : decode cX12_value 88 = .ok (.aload_n 0, 1) := by decide +kernel
theorem dX12_value_89 : decode cX12_value 89 = .ok (.getfield 96, 3) := by decide +kernel
theorem dX12_value_92 : decode cX12_value 92 = .ok (.iload_n 1, 1) := by decide +kernel
theorem dX12_value_93 : decode cX12_value 93 = .ok (.iaload, 1) := by decide +kernel
theorem dX12_value_94 : decode cX12_value 94 = .ok (.iaload, 1) := by decide +kernel
theorem dX12_value_95 : decode cX12_value 95 = .ok (.invokestatic 304, 3) := by decide +kernel
theorem dX12_value_98 : decode cX12_value 98 = .ok (.aload_n 0, 1) := by decide +kernel
theorem dX12_value_99 : decode cX12_value 99 = .ok (.invokevirtual 346, 3) := by decide +kernel
theorem dX12_value_102 : decode cX12_value 102 = .ok (.iand, 1) := by decide +kernel
theorem dX12_value_103 : decode cX12_value 103 = .ok (.iastore, 1) := by decide +kernel
theorem dX12_value_104 : decode cX12_value 104 = .ok (.iinc 1 1, 3) := by decide +kernel
theorem dX12_value_107 : decode cX12_value 107 = .ok (.goto (-95), 3) := by decide +kernel
theorem dX12_value_110 : decode cX12_value 110 = .ok (.aload_n 0, 1) := by decide +kernel
theorem dX12_value_111 : decode cX12_value 111 = .ok (.getfield 135, 3) := by decide +kernel
theorem dX12_value_114 : decode cX12_value 114 = .ok (.aload_n 0, 1) := by decide +kernel
theorem dX12_value_115 : decode cX12_value 115 = .ok (.getfield 422, 3) := by decide +kernel
theorem dX12_value_118 : decode cX12_value 118 = .ok (.iconst 1, 1) := by decide +kernel
theorem dX12_value_119 : decode cX12_value 119 = .ok (.isub, 1) := by decide +kernel
theorem dX12_value_120 : decode cX12_value 120 = .ok (.iaload, 1) := by decide +kernel
theorem dX12_value_121 : decode cX12_value 121 = .ok (.ireturn, 1) := by decide +kernel
theorem dX12_likeFields_0 : decode cX12_likeFields 0 = .ok (.aload_n 0, 1) := by decide +kernel
theorem dX12_likeFields_1 : decode cX12_likeFields 1 = .ok (.iload_n 1, 1) := by decide +kernel
theorem dX12_likeFields_2 : decode cX12_likeFields 2 = .ok (.invokevirtual 283, 3) := by decide +kernel
theorem dX12_likeFields_5 : decode cX12_likeFields 5 = .ok (.istore_n 3, 1) := by decide +kernel
theorem dX12_likeFields_6 : decode cX12_likeFields 6 = .ok (.aload_n 0, 1) := by decide +kernel
theorem dX12_likeFields_7 : decode cX12_likeFields 7 = .ok (.iload_n 2, 1) := by decide +kernel
theorem dX12_likeFields_8 : decode cX12_likeFields 8 = .ok (.invokevirtual 283, 3) := by decide +kernel
theorem dX12_likeFields_11 : decode cX12_likeFields 11 = .ok (.istore 4, 2) := by decide +kernel
theorem dX12_likeFields_13 : decode cX12_likeFields 13 = .ok (.iconst 1, 1) := by decide +kernel
theorem dX12_likeFields_14 : decode cX12_likeFields 14 = .ok (.istore 5, 2) := by decide +kernel
theorem dX12_likeFields_16 : decode cX12_likeFields 16 = .ok (.iconst 0, 1) := by decide +kernel
theorem dX12_likeFields_17 : decode cX12_likeFields 17 = .ok (.istore 6, 2) := by decide +kernel
theorem dX12_likeFields_19 : decode cX12_likeFields 19 = .ok (.iload 6, 2) := by decide +kernel
theorem dX12_likeFields_21 : decode cX12_likeFields 21 = .ok (.iconst 4, 1) := by decide +kernel
theorem dX12_likeFields_22 : decode cX12_likeFields 22 = .ok (.if_icmp .ge 62, 3) := by decide +kernel
theorem dX12_likeFields_25 : decode cX12_likeFields 25 = .ok (.iload 5, 2) := by decide +kernel
theorem dX12_likeFields_27 : decode cX12_likeFields 27 = .ok (.ifCond .eq 48, 3) := by decide +kernel
theorem dX12_likeFields_30 : decode cX12_likeFields 30 = .ok (.aload_n 0, 1) := by decide +kernel
theorem dX12_likeFields_31 : decode cX12_likeFields 31 = .ok (.iload_n 3, 1) := by decide +kernel
theorem dX12_likeFields_32 : decode cX12_likeFields 32 = .ok (.iload 6, 2) := by decide +kernel
theorem dX12_likeFields_34 : decode cX12_likeFields 34 = .ok (.invokevirtual 188, 3) := by decide +kernel
theorem dX12_likeFields_37 : decode cX12_likeFields 37 = .ok (.ifCond .eq 34, 3) := by decide +kernel
theorem dX12_likeFields_40 : decode cX12_likeFields 40 = .ok (.aload_n 0, 1) := by decide +kernel
theorem dX12_likeFields_41 : decode cX12_likeFields 41 = .ok (.iload 4, 2) := by decide +kernel
theorem dX12_likeFields_43 : decode cX12_likeFields 43 = .ok (.iload 6, 2) := by decide +kernel
theorem dX12_likeFields_45 : decode cX12_likeFields 45 = .ok (.invokevirtual 188, 3) := by decide +kernel
theorem dX12_likeFields_48 : decode cX12_likeFields 48 = .ok (.ifCond .eq 23, 3) := by decide +kernel
theorem dX12_likeFields_51 : decode cX12_likeFields 51 = .ok (.aload_n 0, 1) := by decide +kernel
theorem dX12_likeFields_52 : decode cX12_likeFields 52 = .ok (.iload_n 3, 1) := by decide +kernel
theorem dX12_likeFields_53 : decode cX12_likeFields 53 = .ok (.iload_n 1, 1) := by decide +kernel
theorem dX12_likeFields_54 : decode cX12_likeFields 54 = .ok (.iload 6, 2) := by decide +kernel
theorem dX12_likeFields_56 : decode cX12_likeFields 56 = .ok (.invokevirtual 289, 3) := by decide +kernel
theorem dX12_likeFields_59 : decode cX12_likeFields 59 = .ok (.aload_n 0, 1) := by decide +kernel
theorem dX12_likeFields_60 : decode cX12_likeFields 60 = .ok (.iload 4, 2) := by decide +kernel
theorem dX12_likeFields_62 : decode cX12_likeFields 62 = .ok (.iload_n 2, 1) := by decide +kernel
theorem dX12_likeFields_63 : decode cX12_likeFields 63 = .ok (.iload 6, 2) := by decide +kernel
theorem dX12_likeFields_65 : decode cX12_likeFields 65 = .ok (.invokevirtual 289, 3) := by decide +kernel
theorem dX12_likeFields_68 : decode cX12_likeFields 68 = .ok (.if_icmp .ne 7, 3) := by decide +kernel
theorem dX12_likeFields_71 : decode cX12_likeFields 71 = .ok (.iconst 1, 1) := by decide +kernel
theorem dX12_likeFields_72 : decode cX12_likeFields 72 = .ok (.goto 4, 3) := by decide +kernel
theorem dX12_likeFields_75 : decode cX12_likeFields 75 = .ok (.iconst 0, 1) := by decide +kernel
theorem dX12_likeFields_76 : decode cX12_likeFields 76 = .ok (.istore 5, 2) := by decide +kernel
theorem dX12_likeFields_78 : decode cX12_likeFields 78 = .ok (.iinc 6 1, 3) := by decide +kernel
theorem dX12_likeFields_81 : decode cX12_likeFields 81 = .ok (.goto (-62), 3) := by decide +kernel
theorem dX12_likeFields_84 : decode cX12_likeFields 84 = .ok (.iload 5, 2) := by decide +kernel
theorem dX12_likeFields_86 : decode cX12_likeFields 86 = .ok (.ireturn, 1) := by decide +kernel
theorem dX12_pairsOf_0 : decode cX12_pairsOf 0 = .ok (.iconst 0, 1) := by decide +kernel
theorem dX12_pairsOf_1 : decode cX12_pairsOf 1 = .ok (.istore 4, 2) := by decide +kernel
theorem dX12_pairsOf_3 : decode cX12_pairsOf 3 = .ok (.iconst 0, 1) := by decide +kernel
theorem dX12_pairsOf_4 : decode cX12_pairsOf 4 = .ok (.istore 5, 2) := by decide +kernel
theorem dX12_pairsOf_6 : decode cX12_pairsOf 6 = .ok (.iload 5, 2) := by decide +kernel
theorem dX12_pairsOf_8 : decode cX12_pairsOf 8 = .ok (.iconst 1, 1) := by decide +kernel
theorem dX12_pairsOf_9 : decode cX12_pairsOf 9 = .ok (.iadd, 1) := by decide +kernel
theorem dX12_pairsOf_10 : decode cX12_pairsOf 10 = .ok (.iload_n 3, 1) := by decide +kernel
theorem dX12_pairsOf_11 : decode cX12_pairsOf 11 = .ok (.if_icmp .ge 98, 3) := by decide +kernel
theorem dX12_pairsOf_14 : decode cX12_pairsOf 14 = .ok (.aload_n 0, 1) := by decide +kernel
theorem dX12_pairsOf_15 : decode cX12_pairsOf 15 = .ok (.aload_n 0, 1) := by decide +kernel
theorem dX12_pairsOf_16 : decode cX12_pairsOf 16 = .ok (.getfield 59, 3) := by decide +kernel
theorem dX12_pairsOf_19 : decode cX12_pairsOf 19 = .ok (.iload 5, 2) := by decide +kernel
theorem dX12_pairsOf_21 : decode cX12_pairsOf 21 = .ok (.iaload, 1) := by decide +kernel
theorem dX12_pairsOf_22 : decode cX12_pairsOf 22 = .ok (.invokevirtual 283, 3) := by decide +kernel
theorem dX12_pairsOf_25 : decode cX12_pairsOf 25 = .ok (.iload_n 1, 1) := by decide +kernel
theorem dX12_pairsOf_26 : decode cX12_pairsOf 26 = .ok (.if_icmp .ne 47, 3) := by decide +kernel
theorem dX12_pairsOf_29 : decode cX12_pairsOf 29 = .ok (.aload_n 0, 1) := by decide +kernel
theorem dX12_pairsOf_30 : decode cX12_pairsOf 30 = .ok (.aload_n 0, 1) := by decide +kernel
theorem dX12_pairsOf_31 : decode cX12_pairsOf 31 = .ok (.getfield 59, 3) := by decide +kernel
theorem dX12_pairsOf_34 : decode cX12_pairsOf 34 = .ok (.iload 5, 2) := by decide +kernel
theorem dX12_pairsOf_36 : decode cX12_pairsOf 36 = .ok (.iconst 1, 1) := by decide +kernel
theorem dX12_pairsOf_37 : decode cX12_pairsOf 37 = .ok (.iadd, 1) := by decide +kernel
theorem dX12_pairsOf_38 : decode cX12_pairsOf 38 = .ok (.iaload, 1) := by decide +kernel
theorem dX12_pairsOf_39 : decode cX12_pairsOf 39 = .ok (.invokevirtual 283, 3) := by decide +kernel
theorem dX12_pairsOf_42 : decode cX12_pairsOf 42 = .ok (.iload_n 2, 1) := by decide +kernel
theorem dX12_pairsOf_43 : decode cX12_pairsOf 43 = .ok (.if_icmp .ne 30, 3) := by decide +kernel
theorem dX12_pairsOf_46 : decode cX12_pairsOf 46 = .ok (.aload_n 0, 1) := by decide +kernel
theorem dX12_pairsOf_47 : decode cX12_pairsOf 47 = .ok (.aload_n 0, 1) := by decide +kernel
theorem dX12_pairsOf_48 : decode cX12_pairsOf 48 = .ok (.getfield 59, 3) := by decide +kernel
theorem dX12_pairsOf_51 : decode cX12_pairsOf 51 = .ok (.iload 5, 2) := by decide +kernel
theorem dX12_pairsOf_53 : decode cX12_pairsOf 53 = .ok (.iaload, 1) := by decide +kernel
theorem dX12_pairsOf_54 : decode cX12_pairsOf 54 = .ok (.aload_n 0, 1) := by decide +kernel
theorem dX12_pairsOf_55 : decode cX12_pairsOf 55 = .ok (.getfield 59, 3) := by decide +kernel
theorem dX12_pairsOf_58 : decode cX12_pairsOf 58 = .ok (.iload 5, 2) := by decide +kernel
theorem dX12_pairsOf_60 : decode cX12_pairsOf 60 = .ok (.iconst 1, 1) := by decide +kernel
theorem dX12_pairsOf_61 : decode cX12_pairsOf 61 = .ok (.iadd, 1) := by decide +kernel
theorem dX12_pairsOf_62 : decode cX12_pairsOf 62 = .ok (.iaload, 1) := by decide +kernel
theorem dX12_pairsOf_63 : decode cX12_pairsOf 63 = .ok (.invokevirtual 462, 3) := by decide +kernel
theorem dX12_pairsOf_66 : decode cX12_pairsOf 66 = .ok (.ifCond .eq 7, 3) := by decide +kernel
theorem dX12_pairsOf_69 : decode cX12_pairsOf 69 = .ok (.iconst 1, 1) := by decide +kernel
theorem dX12_pairsOf_70 : decode cX12_pairsOf 70 = .ok (.goto 4, 3) := by decide +kernel
theorem dX12_pairsOf_73 : decode cX12_pairsOf 73 = .ok (.iconst 0, 1) := by decide +kernel
theorem dX12_pairsOf_74 : decode cX12_pairsOf 74 = .ok (.istore 6, 2) := by decide +kernel
theorem dX12_pairsOf_76 : decode cX12_pairsOf 76 = .ok (.iload 4, 2) := by decide +kernel
theorem dX12_pairsOf_78 : decode cX12_pairsOf 78 = .ok (.iload 6, 2) := by decide +kernel
theorem dX12_pairsOf_80 : decode cX12_pairsOf 80 = .ok (.ifCond .eq 7, 3) := by decide +kernel
theorem dX12_pairsOf_83 : decode cX12_pairsOf 83 = .ok (.iconst 1, 1) := by decide +kernel
theorem dX12_pairsOf_84 : decode cX12_pairsOf 84 = .ok (.goto 4, 3) := by decide +kernel
theorem dX12_pairsOf_87 : decode cX12_pairsOf 87 = .ok (.iconst 0, 1) := by decide +kernel
theorem dX12_pairsOf_88 : decode cX12_pairsOf 88 = .ok (.iadd, 1) := by decide +kernel
theorem dX12_pairsOf_89 : decode cX12_pairsOf 89 = .ok (.istore 4, 2) := by decide +kernel
theorem dX12_pairsOf_91 : decode cX12_pairsOf 91 = .ok (.iload 5, 2) := by decide +kernel
theorem dX12_pairsOf_93 : decode cX12_pairsOf 93 = .ok (.iload 6, 2) := by decide +kernel
theorem dX12_pairsOf_95 : decode cX12_pairsOf 95 = .ok (.ifCond .eq 7, 3) := by decide +kernel
theorem dX12_pairsOf_98 : decode cX12_pairsOf 98 = .ok (.iconst 2, 1) := by decide +kernel
theorem dX12_pairsOf_99 : decode cX12_pairsOf 99 = .ok (.goto 4, 3) := by decide +kernel
theorem dX12_pairsOf_102 : decode cX12_pairsOf 102 = .ok (.iconst 1, 1) := by decide +kernel
theorem dX12_pairsOf_103 : decode cX12_pairsOf 103 = .ok (.iadd, 1) := by decide +kernel
theorem dX12_pairsOf_104 : decode cX12_pairsOf 104 = .ok (.istore 5, 2) := by decide +kernel
theorem dX12_pairsOf_106 : decode cX12_pairsOf 106 = .ok (.goto (-100), 3) := by decide +kernel
theorem dX12_pairsOf_109 : decode cX12_pairsOf 109 = .ok (.iload 4, 2) := by decide +kernel
theorem dX12_pairsOf_111 : decode cX12_pairsOf 111 = .ok (.ireturn, 1) := by decide +kernel
theorem dX12_pairs_0 : decode cX12_pairs 0 = .ok (.aload_n 0, 1) := by decide +kernel
theorem dX12_pairs_1 : decode cX12_pairs 1 = .ok (.iload_n 1, 1) := by decide +kernel
theorem dX12_pairs_2 : decode cX12_pairs 2 = .ok (.invokevirtual 271, 3) := by decide +kernel
theorem dX12_pairs_5 : decode cX12_pairs 5 = .ok (.ifCond .eq 33, 3) := by decide +kernel
theorem dX12_pairs_8 : decode cX12_pairs 8 = .ok (.aload_n 0, 1) := by decide +kernel
theorem dX12_pairs_9 : decode cX12_pairs 9 = .ok (.iload_n 2, 1) := by decide +kernel
theorem dX12_pairs_10 : decode cX12_pairs 10 = .ok (.invokevirtual 271, 3) := by decide +kernel
theorem dX12_pairs_13 : decode cX12_pairs 13 = .ok (.ifCond .eq 25, 3) := by decide +kernel
theorem dX12_pairs_16 : decode cX12_pairs 16 = .ok (.iload_n 3, 1) := by decide +kernel
theorem dX12_pairs_17 : decode cX12_pairs 17 = .ok (.i2l, 1) := by decide +kernel
theorem dX12_pairs_18 : decode cX12_pairs 18 = .ok (.lconst 0, 1) := by decide +kernel
theorem dX12_pairs_19 : decode cX12_pairs 19 = .ok (.ldc2_w 465, 3) := by decide +kernel
theorem dX12_pairs_22 : decode cX12_pairs 22 = .ok (.invokestatic 170, 3) := by decide +kernel
theorem dX12_pairs_25 : decode cX12_pairs 25 = .ok (.ifCond .eq 13, 3) := by decide +kernel
theorem dX12_pairs_28 : decode cX12_pairs 28 = .ok (.aload_n 0, 1) := by decide +kernel
theorem dX12_pairs_29 : decode cX12_pairs 29 = .ok (.iload_n 1, 1) := by decide +kernel
theorem dX12_pairs_30 : decode cX12_pairs 30 = .ok (.iload_n 2, 1) := by decide +kernel
theorem dX12_pairs_31 : decode cX12_pairs 31 = .ok (.iload_n 3, 1) := by decide +kernel
theorem dX12_pairs_32 : decode cX12_pairs 32 = .ok (.invokevirtual 467, 3) := by decide +kernel
theorem dX12_pairs_35 : decode cX12_pairs 35 = .ok (.goto 4, 3) := by decide +kernel
theorem dX12_pairs_38 : decode cX12_pairs 38 = .ok (.iconst (-1), 1) := by decide +kernel
theorem dX12_pairs_39 : decode cX12_pairs 39 = .ok (.ireturn, 1) := by decide +kernel
theorem dX12_roomFor_0 : decode cX12_roomFor 0 = .ok (.aload_n 0, 1) := by decide +kernel
theorem dX12_roomFor_1 : decode cX12_roomFor 1 = .ok (.iload_n 1, 1) := by decide +kernel
theorem dX12_roomFor_2 : decode cX12_roomFor 2 = .ok (.invokevirtual 332, 3) := by decide +kernel
theorem dX12_roomFor_5 : decode cX12_roomFor 5 = .ok (.aload_n 0, 1) := by decide +kernel
theorem dX12_roomFor_6 : decode cX12_roomFor 6 = .ok (.iload_n 2, 1) := by decide +kernel
theorem dX12_roomFor_7 : decode cX12_roomFor 7 = .ok (.invokevirtual 332, 3) := by decide +kernel
theorem dX12_roomFor_10 : decode cX12_roomFor 10 = .ok (.ior, 1) := by decide +kernel
theorem dX12_roomFor_11 : decode cX12_roomFor 11 = .ok (.istore_n 3, 1) := by decide +kernel
theorem dX12_roomFor_12 : decode cX12_roomFor 12 = .ok (.aload_n 0, 1) := by decide +kernel
theorem dX12_roomFor_13 : decode cX12_roomFor 13 = .ok (.iload_n 1, 1) := by decide +kernel
theorem dX12_roomFor_14 : decode cX12_roomFor 14 = .ok (.iconst 3, 1) := by decide +kernel
theorem dX12_roomFor_15 : decode cX12_roomFor 15 = .ok (.invokevirtual 184, 3) := by decide +kernel
theorem dX12_roomFor_18 : decode cX12_roomFor 18 = .ok (.istore 4, 2) := by decide +kernel
theorem dX12_roomFor_20 : decode cX12_roomFor 20 = .ok (.aload_n 0, 1) := by decide +kernel
theorem dX12_roomFor_21 : decode cX12_roomFor 21 = .ok (.iload_n 2, 1) := by decide +kernel
theorem dX12_roomFor_22 : decode cX12_roomFor 22 = .ok (.iconst 3, 1) := by decide +kernel
theorem dX12_roomFor_23 : decode cX12_roomFor 23 = .ok (.invokevirtual 184, 3) := by decide +kernel
theorem dX12_roomFor_26 : decode cX12_roomFor 26 = .ok (.istore 5, 2) := by decide +kernel
theorem dX12_roomFor_28 : decode cX12_roomFor 28 = .ok (.aload_n 0, 1) := by decide +kernel
theorem dX12_roomFor_29 : decode cX12_roomFor 29 = .ok (.getfield 26, 3) := by decide +kernel
theorem dX12_roomFor_32 : decode cX12_roomFor 32 = .ok (.iload_n 1, 1) := by decide +kernel
theorem dX12_roomFor_33 : decode cX12_roomFor 33 = .ok (.iaload, 1) := by decide +kernel
theorem dX12_roomFor_34 : decode cX12_roomFor 34 = .ok (.ifCond .ne 75, 3) := by decide +kernel
theorem dX12_roomFor_37 : decode cX12_roomFor 37 = .ok (.aload_n 0, 1) := by decide +kernel
theorem dX12_roomFor_38 : decode cX12_roomFor 38 = .ok (.getfield 26, 3) := by decide +kernel
theorem dX12_roomFor_41 : decode cX12_roomFor 41 = .ok (.iload_n 2, 1) := by decide +kernel
theorem dX12_roomFor_42 : decode cX12_roomFor 42 = .ok (.iaload, 1) := by decide +kernel
theorem dX12_roomFor_43 : decode cX12_roomFor 43 = .ok (.ifCond .ne 66, 3) := by decide +kernel
theorem dX12_roomFor_46 : decode cX12_roomFor 46 = .ok (.iload_n 3, 1) := by decide +kernel
theorem dX12_roomFor_47 : decode cX12_roomFor 47 = .ok (.bipush 16, 2) := by decide +kernel
theorem dX12_roomFor_49 : decode cX12_roomFor 49 = .ok (.iand, 1) := by decide +kernel
theorem dX12_roomFor_50 : decode cX12_roomFor 50 = .ok (.ifCond .ne 59, 3) := by decide +kernel
theorem dX12_roomFor_53 : decode cX12_roomFor 53 = .ok (.aload_n 0, 1) := by decide +kernel
theorem dX12_roomFor_54 : decode cX12_roomFor 54 = .ok (.getfield 32, 3) := by decide +kernel
theorem dX12_roomFor_57 : decode cX12_roomFor 57 = .ok (.iload_n 1, 1) := by decide +kernel
theorem dX12_roomFor_58 : decode cX12_roomFor 58 = .ok (.iaload, 1) := by decide +kernel
theorem dX12_roomFor_59 : decode cX12_roomFor 59 = .ok (.aload_n 0, 1) := by decide +kernel
theorem dX12_roomFor_60 : decode cX12_roomFor 60 = .ok (.getfield 32, 3) := by decide +kernel
theorem dX12_roomFor_63 : decode cX12_roomFor 63 = .ok (.iload_n 2, 1) := by decide +kernel
theorem dX12_roomFor_64 : decode cX12_roomFor 64 = .ok (.iaload, 1) := by decide +kernel
theorem dX12_roomFor_65 : decode cX12_roomFor 65 = .ok (.iadd, 1) := by decide +kernel
theorem dX12_roomFor_66 : decode cX12_roomFor 66 = .ok (.iconst 3, 1) := by decide +kernel
theorem dX12_roomFor_67 : decode cX12_roomFor 67 = .ok (.if_icmp .gt 42, 3) := by decide +kernel
theorem dX12_roomFor_70 : decode cX12_roomFor 70 = .ok (.aload_n 0, 1) := by decide +kernel
theorem dX12_roomFor_71 : decode cX12_roomFor 71 = .ok (.getfield 38, 3) := by decide +kernel
theorem dX12_roomFor_74 : decode cX12_roomFor 74 = .ok (.iload_n 1, 1) := by decide +kernel
theorem dX12_roomFor_75 : decode cX12_roomFor 75 = .ok (.iaload, 1) := by decide +kernel
theorem dX12_roomFor_76 : decode cX12_roomFor 76 = .ok (.aload_n 0, 1) := by decide +kernel
theorem dX12_roomFor_77 : decode cX12_roomFor 77 = .ok (.getfield 38, 3) := by decide +kernel
theorem dX12_roomFor_80 : decode cX12_roomFor 80 = .ok (.iload_n 2, 1) := by decide +kernel
theorem dX12_roomFor_81 : decode cX12_roomFor 81 = .ok (.iaload, 1) := by decide +kernel
theorem dX12_roomFor_82 : decode cX12_roomFor 82 = .ok (.iadd, 1) := by decide +kernel
theorem dX12_roomFor_83 : decode cX12_roomFor 83 = .ok (.bipush 10, 2) := by decide +kernel
theorem dX12_roomFor_85 : decode cX12_roomFor 85 = .ok (.if_icmp .gt 24, 3) := by decide +kernel
theorem dX12_roomFor_88 : decode cX12_roomFor 88 = .ok (.iload 4, 2) := by decide +kernel
theorem dX12_roomFor_90 : decode cX12_roomFor 90 = .ok (.ifCond .eq 15, 3) := by decide +kernel
theorem dX12_roomFor_93 : decode cX12_roomFor 93 = .ok (.iload 5, 2) := by decide +kernel
theorem dX12_roomFor_95 : decode cX12_roomFor 95 = .ok (.ifCond .eq 10, 3) := by decide +kernel
theorem dX12_roomFor_98 : decode cX12_roomFor 98 = .ok (.iload 4, 2) := by decide +kernel
theorem dX12_roomFor_100 : decode cX12_roomFor 100 = .ok (.iload 5, 2) := by decide +kernel
theorem dX12_roomFor_102 : decode cX12_roomFor 102 = .ok (.if_icmp .ne 7, 3) := by decide +kernel
theorem dX12_roomFor_105 : decode cX12_roomFor 105 = .ok (.iconst 1, 1) := by decide +kernel
theorem dX12_roomFor_106 : decode cX12_roomFor 106 = .ok (.goto 4, 3) := by decide +kernel
theorem dX12_roomFor_109 : decode cX12_roomFor 109 = .ok (.iconst 0, 1) := by decide +kernel
theorem dX12_roomFor_110 : decode cX12_roomFor 110 = .ok (.istore 6, 2) := by decide +kernel
theorem dX12_roomFor_112 : decode cX12_roomFor 112 = .ok (.iload 6, 2) := by decide +kernel
theorem dX12_roomFor_114 : decode cX12_roomFor 114 = .ok (.ifCond .ne 6, 3) := by decide +kernel
theorem dX12_roomFor_117 : decode cX12_roomFor 117 = .ok (.bipush (-2), 2) := by decide +kernel
theorem dX12_roomFor_119 : decode cX12_roomFor 119 = .ok (.ireturn, 1) := by decide +kernel
theorem dX12_roomFor_120 : decode cX12_roomFor 120 = .ok (.aload_n 0, 1) := by decide +kernel
theorem dX12_roomFor_121 : decode cX12_roomFor 121 = .ok (.iload_n 1, 1) := by decide +kernel
theorem dX12_roomFor_122 : decode cX12_roomFor 122 = .ok (.invokevirtual 274, 3) := by decide +kernel
theorem dX12_roomFor_125 : decode cX12_roomFor 125 = .ok (.aload_n 0, 1) := by decide +kernel
theorem dX12_roomFor_126 : decode cX12_roomFor 126 = .ok (.iload_n 2, 1) := by decide +kernel
theorem dX12_roomFor_127 : decode cX12_roomFor 127 = .ok (.invokevirtual 274, 3) := by decide +kernel
theorem dX12_roomFor_130 : decode cX12_roomFor 130 = .ok (.ior, 1) := by decide +kernel
theorem dX12_roomFor_131 : decode cX12_roomFor 131 = .ok (.istore 7, 2) := by decide +kernel
theorem dX12_roomFor_133 : decode cX12_roomFor 133 = .ok (.aload_n 0, 1) := by decide +kernel
theorem dX12_roomFor_134 : decode cX12_roomFor 134 = .ok (.iload 7, 2) := by decide +kernel
theorem dX12_roomFor_136 : decode cX12_roomFor 136 = .ok (.bipush 8, 2) := by decide +kernel
theorem dX12_roomFor_138 : decode cX12_roomFor 138 = .ok (.iand, 1) := by decide +kernel
theorem dX12_roomFor_139 : decode cX12_roomFor 139 = .ok (.ifCond .eq 18, 3) := by decide +kernel
theorem dX12_roomFor_142 : decode cX12_roomFor 142 = .ok (.iload 4, 2) := by decide +kernel
theorem dX12_roomFor_144 : decode cX12_roomFor 144 = .ok (.ifCond .le 8, 3) := by decide +kernel
theorem dX12_roomFor_147 : decode cX12_roomFor 147 = .ok (.iload 4, 2) := by decide +kernel
theorem dX12_roomFor_149 : decode cX12_roomFor 149 = .ok (.goto 9, 3) := by decide +kernel
theorem dX12_roomFor_152 : decode cX12_roomFor 152 = .ok (.iload 5, 2) := by decide +kernel
theorem dX12_roomFor_154 : decode cX12_roomFor 154 = .ok (.goto 4, 3) := by decide +kernel
theorem dX12_roomFor_157 : decode cX12_roomFor 157 = .ok (.iconst 0, 1) := by decide +kernel
theorem dX12_roomFor_158 : decode cX12_roomFor 158 = .ok (.putfield 470, 3) := by decide +kernel
theorem dX12_roomFor_161 : decode cX12_roomFor 161 = .ok (.iconst 0, 1) := by decide +kernel
theorem dX12_roomFor_162 : decode cX12_roomFor 162 = .ok (.istore 8, 2) := by decide +kernel
theorem dX12_roomFor_164 : decode cX12_roomFor 164 = .ok (.iload 8, 2) := by decide +kernel
theorem dX12_roomFor_166 : decode cX12_roomFor 166 = .ok (.iconst 3, 1) := by decide +kernel
theorem dX12_roomFor_167 : decode cX12_roomFor 167 = .ok (.if_icmp .ge 30, 3) := by decide +kernel
theorem dX12_roomFor_170 : decode cX12_roomFor 170 = .ok (.aload_n 0, 1) := by decide +kernel
theorem dX12_roomFor_171 : decode cX12_roomFor 171 = .ok (.dup, 1) := by decide +kernel
theorem dX12_roomFor_172 : decode cX12_roomFor 172 = .ok (.getfield 470, 3) := by decide +kernel
theorem dX12_roomFor_175 : decode cX12_roomFor 175 = .ok (.iload 7, 2) := by decide +kernel
theorem dX12_roomFor_177 : decode cX12_roomFor 177 = .ok (.iload 8, 2) := by decide +kernel
theorem dX12_roomFor_179 : decode cX12_roomFor 179 = .ok (.ishr, 1) := by decide +kernel
theorem dX12_roomFor_180 : decode cX12_roomFor 180 = .ok (.iconst 1, 1) := by decide +kernel
theorem dX12_roomFor_181 : decode cX12_roomFor 181 = .ok (.iand, 1) := by decide +kernel
theorem dX12_roomFor_182 : decode cX12_roomFor 182 = .ok (.aload_n 0, 1) := by decide +kernel
theorem dX12_roomFor_183 : decode cX12_roomFor 183 = .ok (.getfield 13, 3) := by decide +kernel
theorem dX12_roomFor_186 : decode cX12_roomFor 186 = .ok (.imul, 1) := by decide +kernel
theorem dX12_roomFor_187 : decode cX12_roomFor 187 = .ok (.iadd, 1) := by decide +kernel
theorem dX12_roomFor_188 : decode cX12_roomFor 188 = .ok (.putfield 470, 3) := by decide +kernel
theorem dX12_roomFor_191 : decode cX12_roomFor 191 = .ok (.iinc 8 1, 3) := by decide +kernel
theorem dX12_roomFor_194 : decode cX12_roomFor 194 = .ok (.goto (-30), 3) := by decide +kernel
theorem dX12_roomFor_197 : decode cX12_roomFor 197 = .ok (.aload_n 0, 1) := by decide +kernel
theorem dX12_roomFor_198 : decode cX12_roomFor 198 = .ok (.getfield 470, 3) := by decide +kernel
theorem dX12_roomFor_201 : decode cX12_roomFor 201 = .ok (.aload_n 0, 1) := by decide +kernel
theorem dX12_roomFor_202 : decode cX12_roomFor 202 = .ok (.getfield 16, 3) := by decide +kernel
theorem dX12_roomFor_205 : decode cX12_roomFor 205 = .ok (.if_icmp .lt 6, 3) := by decide +kernel
theorem dX12_roomFor_208 : decode cX12_roomFor 208 = .ok (.bipush (-2), 2) := by decide +kernel
theorem dX12_roomFor_210 : decode cX12_roomFor 210 = .ok (.ireturn, 1) := by decide +kernel
theorem dX12_roomFor_211 : decode cX12_roomFor 211 = .ok (.iconst 0, 1) := by decide +kernel
theorem dX12_roomFor_212 : decode cX12_roomFor 212 = .ok (.istore 8, 2) := by decide +kernel
theorem dX12_roomFor_214 : decode cX12_roomFor 214 = .ok (.iload 8, 2) := by decide +kernel
theorem dX12_roomFor_216 : decode cX12_roomFor 216 = .ok (.iconst 1, 1) := by decide +kernel
theorem dX12_roomFor_217 : decode cX12_roomFor 217 = .ok (.aload_n 0, 1) := by decide +kernel
theorem dX12_roomFor_218 : decode cX12_roomFor 218 = .ok (.getfield 16, 3) := by decide +kernel
theorem dX12_roomFor_221 : decode cX12_roomFor 221 = .ok (.ishl, 1) := by decide +kernel
theorem dX12_roomFor_222 : decode cX12_roomFor 222 = .ok (.if_icmp .ge 73, 3) := by decide +kernel
theorem dX12_roomFor_225 : decode cX12_roomFor 225 = .ok (.iconst 1, 1) := by decide +kernel
theorem dX12_roomFor_226 : decode cX12_roomFor 226 = .ok (.istore 9, 2) := by decide +kernel
theorem dX12_roomFor_228 : decode cX12_roomFor 228 = .ok (.iload 8, 2) := by decide +kernel
theorem dX12_roomFor_230 : decode cX12_roomFor 230 = .ok (.istore 10, 2) := by decide +kernel
theorem dX12_roomFor_232 : decode cX12_roomFor 232 = .ok (.iload 10, 2) := by decide +kernel
theorem dX12_roomFor_234 : decode cX12_roomFor 234 = .ok (.iload 8, 2) := by decide +kernel
theorem dX12_roomFor_236 : decode cX12_roomFor 236 = .ok (.iconst 1, 1) := by decide +kernel
theorem dX12_roomFor_237 : decode cX12_roomFor 237 = .ok (.aload_n 0, 1) := by decide +kernel
theorem dX12_roomFor_238 : decode cX12_roomFor 238 = .ok (.getfield 470, 3) := by decide +kernel
theorem dX12_roomFor_241 : decode cX12_roomFor 241 = .ok (.ishl, 1) := by decide +kernel
theorem dX12_roomFor_242 : decode cX12_roomFor 242 = .ok (.iadd, 1) := by decide +kernel
theorem dX12_roomFor_243 : decode cX12_roomFor 243 = .ok (.if_icmp .ge 30, 3) := by decide +kernel
theorem dX12_roomFor_246 : decode cX12_roomFor 246 = .ok (.iload 9, 2) := by decide +kernel
theorem dX12_roomFor_248 : decode cX12_roomFor 248 = .ok (.ifCond .eq 25, 3) := by decide +kernel
theorem dX12_roomFor_251 : decode cX12_roomFor 251 = .ok (.aload_n 0, 1) := by decide +kernel
theorem dX12_roomFor_252 : decode cX12_roomFor 252 = .ok (.iload 10, 2) := by decide +kernel
theorem dX12_roomFor_254 : decode cX12_roomFor 254 = .ok (.invokevirtual 283, 3) := by decide +kernel
theorem dX12_roomFor_257 : decode cX12_roomFor 257 = .ok (.ifCond .ge 7, 3) := by decide +kernel
theorem dX12_roomFor_260 : decode cX12_roomFor 260 = .ok (.iconst 1, 1) := by decide +kernel
theorem dX12_roomFor_261 : decode cX12_roomFor 261 = .ok (.goto 4, 3) := by decide +kernel
theorem dX12_roomFor_264 : decode cX12_roomFor 264 = .ok (.iconst 0, 1) := by decide +kernel
theorem dX12_roomFor_265 : decode cX12_roomFor 265 = .ok (.istore 9, 2) := by decide +kernel
theorem dX12_roomFor_267 : decode cX12_roomFor 267 = .ok (.iinc 10 1, 3) := by decide +kernel
theorem dX12_roomFor_270 : decode cX12_roomFor 270 = .ok (.goto (-38), 3) := by decide +kernel
theorem dX12_roomFor_273 : decode cX12_roomFor 273 = .ok (.iload 9, 2) := by decide +kernel
theorem dX12_roomFor_275 : decode cX12_roomFor 275 = .ok (.ifCond .eq 6, 3) := by decide +kernel
theorem dX12_roomFor_278 : decode cX12_roomFor 278 = .ok (.iload 8, 2) := by decide +kernel
theorem dX12_roomFor_280 : decode cX12_roomFor 280 = .ok (.ireturn, 1) := by decide +kernel
theorem dX12_roomFor_281 : decode cX12_roomFor 281 = .ok (.iload 8, 2) := by decide +kernel
theorem dX12_roomFor_283 : decode cX12_roomFor 283 = .ok (.iconst 1, 1) := by decide +kernel
theorem dX12_roomFor_284 : decode cX12_roomFor 284 = .ok (.aload_n 0, 1) := by decide +kernel
theorem dX12_roomFor_285 : decode cX12_roomFor 285 = .ok (.getfield 470, 3) := by decide +kernel
theorem dX12_roomFor_288 : decode cX12_roomFor 288 = .ok (.ishl, 1) := by decide +kernel
theorem dX12_roomFor_289 : decode cX12_roomFor 289 = .ok (.iadd, 1) := by decide +kernel
theorem dX12_roomFor_290 : decode cX12_roomFor 290 = .ok (.istore 8, 2) := by decide +kernel
theorem dX12_roomFor_292 : decode cX12_roomFor 292 = .ok (.goto (-78), 3) := by decide +kernel
theorem dX12_roomFor_295 : decode cX12_roomFor 295 = .ok (.bipush (-2), 2) := by decide +kernel
theorem dX12_roomFor_297 : decode cX12_roomFor 297 = .ok (.ireturn, 1) := by decide +kernel
theorem dX12_room_0 : decode cX12_room 0 = .ok (.aload_n 0, 1) := by decide +kernel
theorem dX12_room_1 : decode cX12_room 1 = .ok (.iload_n 1, 1) := by decide +kernel
theorem dX12_room_2 : decode cX12_room 2 = .ok (.invokevirtual 271, 3) := by decide +kernel
theorem dX12_room_5 : decode cX12_room 5 = .ok (.ifCond .eq 20, 3) := by decide +kernel
theorem dX12_room_8 : decode cX12_room 8 = .ok (.aload_n 0, 1) := by decide +kernel
theorem dX12_room_9 : decode cX12_room 9 = .ok (.iload_n 2, 1) := by decide +kernel
theorem dX12_room_10 : decode cX12_room 10 = .ok (.invokevirtual 271, 3) := by decide +kernel
theorem dX12_room_13 : decode cX12_room 13 = .ok (.ifCond .eq 12, 3) := by decide +kernel
theorem dX12_room_16 : decode cX12_room 16 = .ok (.aload_n 0, 1) := by decide +kernel
theorem dX12_room_17 : decode cX12_room 17 = .ok (.iload_n 1, 1) := by decide +kernel
theorem dX12_room_18 : decode cX12_room 18 = .ok (.iload_n 2, 1) := by decide +kernel
theorem dX12_room_19 : decode cX12_room 19 = .ok (.invokevirtual 473, 3) := by decide +kernel
theorem dX12_room_22 : decode cX12_room 22 = .ok (.goto 4, 3) := by decide +kernel
theorem dX12_room_25 : decode cX12_room 25 = .ok (.iconst (-1), 1) := by decide +kernel
theorem dX12_room_26 : decode cX12_room 26 = .ok (.ireturn, 1) := by decide +kernel
theorem dX12_best_0 : decode cX12_best 0 = .ok (.iload_n 1, 1) := by decide +kernel
theorem dX12_best_1 : decode cX12_best 1 = .ok (.i2l, 1) := by decide +kernel
theorem dX12_best_2 : decode cX12_best 2 = .ok (.lconst 0, 1) := by decide +kernel
theorem dX12_best_3 : decode cX12_best 3 = .ok (.ldc2_w 465, 3) := by decide +kernel
theorem dX12_best_6 : decode cX12_best 6 = .ok (.invokestatic 170, 3) := by decide +kernel
theorem dX12_best_9 : decode cX12_best 9 = .ok (.ifCond .ne 5, 3) := by decide +kernel
theorem dX12_best_12 : decode cX12_best 12 = .ok (.iconst (-1), 1) := by decide +kernel
theorem dX12_best_13 : decode cX12_best 13 = .ok (.ireturn, 1) := by decide +kernel
theorem dX12_best_14 : decode cX12_best 14 = .ok (.bipush (-4), 2) := by decide +kernel
theorem dX12_best_16 : decode cX12_best 16 = .ok (.istore_n 2, 1) := by decide +kernel
theorem dX12_best_17 : decode cX12_best 17 = .ok (.iconst 0, 1) := by decide +kernel
theorem dX12_best_18 : decode cX12_best 18 = .ok (.istore_n 3, 1) := by decide +kernel
theorem dX12_best_19 : decode cX12_best 19 = .ok (.iconst 0, 1) := by decide +kernel
theorem dX12_best_20 : decode cX12_best 20 = .ok (.istore 4, 2) := by decide +kernel
theorem dX12_best_22 : decode cX12_best 22 = .ok (.iload 4, 2) := by decide +kernel
theorem dX12_best_24 : decode cX12_best 24 = .ok (.aload_n 0, 1) := by decide +kernel
theorem dX12_best_25 : decode cX12_best 25 = .ok (.getfield 150, 3) := by decide +kernel
theorem dX12_best_28 : decode cX12_best 28 = .ok (.if_icmp .ge 67, 3) := by decide +kernel
theorem dX12_best_31 : decode cX12_best 31 = .ok (.iconst 0, 1) := by decide +kernel
theorem dX12_best_32 : decode cX12_best 32 = .ok (.istore 5, 2) := by decide +kernel
theorem dX12_best_34 : decode cX12_best 34 = .ok (.iload 5, 2) := by decide +kernel
theorem dX12_best_36 : decode cX12_best 36 = .ok (.aload_n 0, 1) := by decide +kernel
theorem dX12_best_37 : decode cX12_best 37 = .ok (.getfield 150, 3) := by decide +kernel
theorem dX12_best_40 : decode cX12_best 40 = .ok (.if_icmp .ge 49, 3) := by decide +kernel
theorem dX12_best_43 : decode cX12_best 43 = .ok (.aload_n 0, 1) := by decide +kernel
theorem dX12_best_44 : decode cX12_best 44 = .ok (.iload 4, 2) := by decide +kernel
theorem dX12_best_46 : decode cX12_best 46 = .ok (.iload 5, 2) := by decide +kernel
theorem dX12_best_48 : decode cX12_best 48 = .ok (.iload_n 1, 1) := by decide +kernel
theorem dX12_best_49 : decode cX12_best 49 = .ok (.invokevirtual 467, 3) := by decide +kernel
theorem dX12_best_52 : decode cX12_best 52 = .ok (.istore 6, 2) := by decide +kernel
theorem dX12_best_54 : decode cX12_best 54 = .ok (.iload 6, 2) := by decide +kernel
theorem dX12_best_56 : decode cX12_best 56 = .ok (.iload_n 3, 1) := by decide +kernel
theorem dX12_best_57 : decode cX12_best 57 = .ok (.if_icmp .le 26, 3) := by decide +kernel
theorem dX12_best_60 : decode cX12_best 60 = .ok (.aload_n 0, 1) := by decide +kernel
theorem dX12_best_61 : decode cX12_best 61 = .ok (.iload 4, 2) := by decide +kernel
theorem dX12_best_63 : decode cX12_best 63 = .ok (.iload 5, 2) := by decide +kernel
theorem dX12_best_65 : decode cX12_best 65 = .ok (.invokevirtual 473, 3) := by decide +kernel
theorem dX12_best_68 : decode cX12_best 68 = .ok (.ifCond .lt 15, 3) := by decide +kernel
theorem dX12_best_71 : decode cX12_best 71 = .ok (.iload 6, 2) := by decide +kernel
theorem dX12_best_73 : decode cX12_best 73 = .ok (.istore_n 3, 1) := by decide +kernel
theorem dX12_best_74 : decode cX12_best 74 = .ok (.bipush 20, 2) := by decide +kernel
theorem dX12_best_76 : decode cX12_best 76 = .ok (.iload 4, 2) := by decide +kernel
theorem dX12_best_78 : decode cX12_best 78 = .ok (.imul, 1) := by decide +kernel
theorem dX12_best_79 : decode cX12_best 79 = .ok (.iload 5, 2) := by decide +kernel
theorem dX12_best_81 : decode cX12_best 81 = .ok (.iadd, 1) := by decide +kernel
theorem dX12_best_82 : decode cX12_best 82 = .ok (.istore_n 2, 1) := by decide +kernel
theorem dX12_best_83 : decode cX12_best 83 = .ok (.iinc 5 1, 3) := by decide +kernel
theorem dX12_best_86 : decode cX12_best 86 = .ok (.goto (-52), 3) := by decide +kernel
theorem dX12_best_89 : decode cX12_best 89 = .ok (.iinc 4 1, 3) := by decide +kernel
theorem dX12_best_92 : decode cX12_best 92 = .ok (.goto (-70), 3) := by decide +kernel
theorem dX12_best_95 : decode cX12_best 95 = .ok (.iload_n 2, 1) := by decide +kernel
theorem dX12_best_96 : decode cX12_best 96 = .ok (.ireturn, 1) := by decide +kernel
theorem dX12_join_0 : decode cX12_join 0 = .ok (.aload_n 0, 1) := by decide +kernel
theorem dX12_join_1 : decode cX12_join 1 = .ok (.iload_n 1, 1) := by decide +kernel
theorem dX12_join_2 : decode cX12_join 2 = .ok (.invokevirtual 271, 3) := by decide +kernel
theorem dX12_join_5 : decode cX12_join 5 = .ok (.ifCond .eq 11, 3) := by decide +kernel
theorem dX12_join_8 : decode cX12_join 8 = .ok (.aload_n 0, 1) := by decide +kernel
theorem dX12_join_9 : decode cX12_join 9 = .ok (.iload_n 2, 1) := by decide +kernel
theorem dX12_join_10 : decode cX12_join 10 = .ok (.invokevirtual 271, 3) := by decide +kernel
theorem dX12_join_13 : decode cX12_join 13 = .ok (.ifCond .ne 5, 3) := by decide +kernel
theorem dX12_join_16 : decode cX12_join 16 = .ok (.iconst (-1), 1) := by decide +kernel
theorem dX12_join_17 : decode cX12_join 17 = .ok (.ireturn, 1) := by decide +kernel
theorem dX12_join_18 : decode cX12_join 18 = .ok (.aload_n 0, 1) := by decide +kernel
theorem dX12_join_19 : decode cX12_join 19 = .ok (.iconst 0, 1) := by decide +kernel
theorem dX12_join_20 : decode cX12_join 20 = .ok (.putfield 200, 3) := by decide +kernel
theorem dX12_join_23 : decode cX12_join 23 = .ok (.aload_n 0, 1) := by decide +kernel
theorem dX12_join_24 : decode cX12_join 24 = .ok (.invokevirtual 248, 3) := by decide +kernel
theorem dX12_join_27 : decode cX12_join 27 = .ok (.istore_n 3, 1) := by decide +kernel
theorem dX12_join_28 : decode cX12_join 28 = .ok (.iload_n 3, 1) := by decide +kernel
theorem dX12_join_29 : decode cX12_join 29 = .ok (.ifCond .eq 14, 3) := by decide +kernel
theorem dX12_join_32 : decode cX12_join 32 = .ok (.aload_n 0, 1) := by decide +kernel
theorem dX12_join_33 : decode cX12_join 33 = .ok (.invokevirtual 203, 3) := by decide +kernel
theorem dX12_join_36 : decode cX12_join 36 = .ok (.ifCond .ge 7, 3) := by decide +kernel
theorem dX12_join_39 : decode cX12_join 39 = .ok (.iconst 1, 1) := by decide +kernel
theorem dX12_join_40 : decode cX12_join 40 = .ok (.goto 4, 3) := by decide +kernel
theorem dX12_join_43 : decode cX12_join 43 = .ok (.iconst 0, 1) := by decide +kernel
theorem dX12_join_44 : decode cX12_join 44 = .ok (.istore 4, 2) := by decide +kernel
theorem dX12_join_46 : decode cX12_join 46 = .ok (.aload_n 0, 1) := by decide +kernel
theorem dX12_join_47 : decode cX12_join 47 = .ok (.iconst 0, 1) := by decide +kernel
theorem dX12_join_48 : decode cX12_join 48 = .ok (.putfield 197, 3) := by decide +kernel
theorem dX12_join_51 : decode cX12_join 51 = .ok (.iload 4, 2) := by decide +kernel
theorem dX12_join_53 : decode cX12_join 53 = .ok (.ifCond .ne 11, 3) := by decide +kernel
theorem dX12_join_56 : decode cX12_join 56 = .ok (.bipush (-20), 2) := by decide +kernel
theorem dX12_join_58 : decode cX12_join 58 = .ok (.aload_n 0, 1) := by decide +kernel
theorem dX12_join_59 : decode cX12_join 59 = .ok (.getfield 200, 3) := by decide +kernel
theorem dX12_join_62 : decode cX12_join 62 = .ok (.isub, 1) := by decide +kernel
theorem dX12_join_63 : decode cX12_join 63 = .ok (.ireturn, 1) := by decide +kernel
theorem dX12_join_64 : decode cX12_join 64 = .ok (.aload_n 0, 1) := by decide +kernel
theorem dX12_join_65 : decode cX12_join 65 = .ok (.iload_n 1, 1) := by decide +kernel
theorem dX12_join_66 : decode cX12_join 66 = .ok (.iload_n 2, 1) := by decide +kernel
theorem dX12_join_67 : decode cX12_join 67 = .ok (.invokevirtual 473, 3) := by decide +kernel
theorem dX12_join_70 : decode cX12_join 70 = .ok (.istore 5, 2) := by decide +kernel
theorem dX12_join_72 : decode cX12_join 72 = .ok (.iload 5, 2) := by decide +kernel
theorem dX12_join_74 : decode cX12_join 74 = .ok (.ifCond .ge 6, 3) := by decide +kernel
theorem dX12_join_77 : decode cX12_join 77 = .ok (.bipush (-2), 2) := by decide +kernel
theorem dX12_join_79 : decode cX12_join 79 = .ok (.ireturn, 1) := by decide +kernel
theorem dX12_join_80 : decode cX12_join 80 = .ok (.aload_n 0, 1) := by decide +kernel
theorem dX12_join_81 : decode cX12_join 81 = .ok (.getfield 150, 3) := by decide +kernel
theorem dX12_join_84 : decode cX12_join 84 = .ok (.bipush 20, 2) := by decide +kernel
theorem dX12_join_86 : decode cX12_join 86 = .ok (.if_icmp .ne 6, 3) := by decide +kernel
theorem dX12_join_89 : decode cX12_join 89 = .ok (.bipush (-3), 2) := by decide +kernel
theorem dX12_join_91 : decode cX12_join 91 = .ok (.ireturn, 1) := by decide +kernel
theorem dX12_join_92 : decode cX12_join 92 = .ok (.aload_n 0, 1) := by decide +kernel
theorem dX12_join_93 : decode cX12_join 93 = .ok (.iload_n 1, 1) := by decide +kernel
theorem dX12_join_94 : decode cX12_join 94 = .ok (.iload_n 2, 1) := by decide +kernel
theorem dX12_join_95 : decode cX12_join 95 = .ok (.iload 5, 2) := by decide +kernel
theorem dX12_join_97 : decode cX12_join 97 = .ok (.iload_n 3, 1) := by decide +kernel
theorem dX12_join_98 : decode cX12_join 98 = .ok (.invokevirtual 476, 3) := by decide +kernel
theorem dX12_join_101 : decode cX12_join 101 = .ok (.aload_n 0, 1) := by decide +kernel
theorem dX12_join_102 : decode cX12_join 102 = .ok (.invokevirtual 268, 3) := by decide +kernel
theorem dX12_join_105 : decode cX12_join 105 = .ok (.ireturn, 1) := by decide +kernel
theorem dX12_layJoined_0 : decode cX12_layJoined 0 = .ok (.aload_n 0, 1) := by decide +kernel
theorem dX12_layJoined_1 : decode cX12_layJoined 1 = .ok (.getfield 150, 3) := by decide +kernel
theorem dX12_layJoined_4 : decode cX12_layJoined 4 = .ok (.istore 5, 2) := by decide +kernel
theorem dX12_layJoined_6 : decode cX12_layJoined 6 = .ok (.aload_n 0, 1) := by decide +kernel
theorem dX12_layJoined_7 : decode cX12_layJoined 7 = .ok (.getfield 19, 3) := by decide +kernel
theorem dX12_layJoined_10 : decode cX12_layJoined 10 = .ok (.iload 5, 2) := by decide +kernel
theorem dX12_layJoined_12 : decode cX12_layJoined 12 = .ok (.iload 4, 2) := by decide +kernel
theorem dX12_layJoined_14 : decode cX12_layJoined 14 = .ok (.iastore, 1) := by decide +kernel
theorem dX12_layJoined_15 : decode cX12_layJoined 15 = .ok (.aload_n 0, 1) := by decide +kernel
theorem dX12_layJoined_16 : decode cX12_layJoined 16 = .ok (.getfield 26, 3) := by decide +kernel
theorem dX12_layJoined_19 : decode cX12_layJoined 19 = .ok (.iload 5, 2) := by decide +kernel
theorem dX12_layJoined_21 : decode cX12_layJoined 21 = .ok (.iconst 0, 1) := by decide +kernel
theorem dX12_layJoined_22 : decode cX12_layJoined 22 = .ok (.iastore, 1) := by decide +kernel
theorem dX12_layJoined_23 : decode cX12_layJoined 23 = .ok (.aload_n 0, 1) := by decide +kernel
theorem dX12_layJoined_24 : decode cX12_layJoined 24 = .ok (.getfield 29, 3) := by decide +kernel
theorem dX12_layJoined_27 : decode cX12_layJoined 27 = .ok (.iload 5, 2) := by decide +kernel
theorem dX12_layJoined_29 : decode cX12_layJoined 29 = .ok (.iconst 0, 1) := by decide +kernel
theorem dX12_layJoined_30 : decode cX12_layJoined 30 = .ok (.iastore, 1) := by decide +kernel
theorem dX12_layJoined_31 : decode cX12_layJoined 31 = .ok (.aload_n 0, 1) := by decide +kernel
theorem dX12_layJoined_32 : decode cX12_layJoined 32 = .ok (.getfield 32, 3) := by decide +kernel
theorem dX12_layJoined_35 : decode cX12_layJoined 35 = .ok (.iload 5, 2) := by decide +kernel
theorem dX12_layJoined_37 : decode cX12_layJoined 37 = .ok (.aload_n 0, 1) := by decide +kernel
theorem dX12_layJoined_38 : decode cX12_layJoined 38 = .ok (.getfield 32, 3) := by decide +kernel
theorem dX12_layJoined_41 : decode cX12_layJoined 41 = .ok (.iload_n 1, 1) := by decide +kernel
theorem dX12_layJoined_42 : decode cX12_layJoined 42 = .ok (.iaload, 1) := by decide +kernel
theorem dX12_layJoined_43 : decode cX12_layJoined 43 = .ok (.aload_n 0, 1) := by decide +kernel
theorem dX12_layJoined_44 : decode cX12_layJoined 44 = .ok (.getfield 32, 3) := by decide +kernel
theorem dX12_layJoined_47 : decode cX12_layJoined 47 = .ok (.iload_n 2, 1) := by decide +kernel
theorem dX12_layJoined_48 : decode cX12_layJoined 48 = .ok (.iaload, 1) := by decide +kernel
theorem dX12_layJoined_49 : decode cX12_layJoined 49 = .ok (.iadd, 1) := by decide +kernel
theorem dX12_layJoined_50 : decode cX12_layJoined 50 = .ok (.iastore, 1) := by decide +kernel
theorem dX12_layJoined_51 : decode cX12_layJoined 51 = .ok (.aload_n 0, 1) := by decide +kernel
theorem dX12_layJoined_52 : decode cX12_layJoined 52 = .ok (.getfield 38, 3) := by decide +kernel
theorem dX12_layJoined_55 : decode cX12_layJoined 55 = .ok (.iload 5, 2) := by decide +kernel
theorem dX12_layJoined_57 : decode cX12_layJoined 57 = .ok (.aload_n 0, 1) := by decide +kernel
theorem dX12_layJoined_58 : decode cX12_layJoined 58 = .ok (.getfield 38, 3) := by decide +kernel
theorem dX12_layJoined_61 : decode cX12_layJoined 61 = .ok (.iload_n 1, 1) := by decide +kernel
theorem dX12_layJoined_62 : decode cX12_layJoined 62 = .ok (.iaload, 1) := by decide +kernel
theorem dX12_layJoined_63 : decode cX12_layJoined 63 = .ok (.aload_n 0, 1) := by decide +kernel
theorem dX12_layJoined_64 : decode cX12_layJoined 64 = .ok (.getfield 38, 3) := by decide +kernel
theorem dX12_layJoined_67 : decode cX12_layJoined 67 = .ok (.iload_n 2, 1) := by decide +kernel
theorem dX12_layJoined_68 : decode cX12_layJoined 68 = .ok (.iaload, 1) := by decide +kernel
theorem dX12_layJoined_69 : decode cX12_layJoined 69 = .ok (.iadd, 1) := by decide +kernel
theorem dX12_layJoined_70 : decode cX12_layJoined 70 = .ok (.iconst 1, 1) := by decide +kernel
theorem dX12_layJoined_71 : decode cX12_layJoined 71 = .ok (.isub, 1) := by decide +kernel
theorem dX12_layJoined_72 : decode cX12_layJoined 72 = .ok (.iastore, 1) := by decide +kernel
theorem dX12_layJoined_73 : decode cX12_layJoined 73 = .ok (.iconst 0, 1) := by decide +kernel
theorem dX12_layJoined_74 : decode cX12_layJoined 74 = .ok (.istore 6, 2) := by decide +kernel
theorem dX12_layJoined_76 : decode cX12_layJoined 76 = .ok (.iload 6, 2) := by decide +kernel
theorem dX12_layJoined_78 : decode cX12_layJoined 78 = .ok (.bipush 6, 2) := by decide +kernel
theorem dX12_layJoined_80 : decode cX12_layJoined 80 = .ok (.aload_n 0, 1) := by decide +kernel
theorem dX12_layJoined_81 : decode cX12_layJoined 81 = .ok (.getfield 32, 3) := by decide +kernel
theorem dX12_layJoined_84 : decode cX12_layJoined 84 = .ok (.iload 5, 2) := by decide +kernel
theorem dX12_layJoined_86 : decode cX12_layJoined 86 = .ok (.iaload, 1) := by decide +kernel
theorem dX12_layJoined_87 : decode cX12_layJoined 87 = .ok (.imul, 1) := by decide +kernel
theorem dX12_layJoined_88 : decode cX12_layJoined 88 = .ok (.if_icmp .ge 85, 3) := by decide +kernel
theorem dX12_layJoined_91 : decode cX12_layJoined 91 = .ok (.iload 6, 2) := by decide +kernel
theorem dX12_layJoined_93 : decode cX12_layJoined 93 = .ok (.bipush 6, 2) := by decide +kernel
theorem dX12_layJoined_95 : decode cX12_layJoined 95 = .ok (.aload_n 0, 1) := by decide +kernel
theorem dX12_layJoined_96 : decode cX12_layJoined 96 = .ok (.getfield 32, 3) := by decide +kernel
theorem dX12_layJoined_99 : decode cX12_layJoined 99 = .ok (.iload_n 1, 1) := by decide +kernel
theorem dX12_layJoined_100 : decode cX12_layJoined 100 = .ok (.iaload, 1) := by decide +kernel
theorem dX12_layJoined_101 : decode cX12_layJoined 101 = .ok (.imul, 1) := by decide +kernel
theorem dX12_layJoined_102 : decode cX12_layJoined 102 = .ok (.if_icmp .ge 7, 3) := by decide +kernel
theorem dX12_layJoined_105 : decode cX12_layJoined 105 = .ok (.iconst 1, 1) := by decide +kernel
theorem dX12_layJoined_106 : decode cX12_layJoined 106 = .ok (.goto 4, 3) := by decide +kernel
theorem dX12_layJoined_109 : decode cX12_layJoined 109 = .ok (.iconst 0, 1) := by decide +kernel
theorem dX12_layJoined_110 : decode cX12_layJoined 110 = .ok (.istore 7, 2) := by decide +kernel
theorem dX12_layJoined_112 : decode cX12_layJoined 112 = .ok (.aload_n 0, 1) := by decide +kernel
theorem dX12_layJoined_113 : decode cX12_layJoined 113 = .ok (.getfield 35, 3) := by decide +kernel
theorem dX12_layJoined_116 : decode cX12_layJoined 116 = .ok (.bipush 18, 2) := by decide +kernel
theorem dX12_layJoined_118 : decode cX12_layJoined 118 = .ok (.iload 5, 2) := by decide +kernel
theorem dX12_layJoined_120 : decode cX12_layJoined 120 = .ok (.imul, 1) := by decide +kernel
theorem dX12_layJoined_121 : decode cX12_layJoined 121 = .ok (.iload 6, 2) := by decide +kernel
theorem dX12_layJoined_123 : decode cX12_layJoined 123 = .ok (.iadd, 1) := by decide +kernel
theorem dX12_layJoined_124 : decode cX12_layJoined 124 = .ok (.iload 7, 2) := by decide +kernel
theorem dX12_layJoined_126 : decode cX12_layJoined 126 = .ok (.ifCond .eq 18, 3) := by decide +kernel
theorem dX12_layJoined_129 : decode cX12_layJoined 129 = .ok (.aload_n 0, 1) := by decide +kernel
theorem dX12_layJoined_130 : decode cX12_layJoined 130 = .ok (.getfield 35, 3) := by decide +kernel
theorem dX12_layJoined_133 : decode cX12_layJoined 133 = .ok (.bipush 18, 2) := by decide +kernel
theorem dX12_layJoined_135 : decode cX12_layJoined 135 = .ok (.iload_n 1, 1) := by decide +kernel
theorem dX12_layJoined_136 : decode cX12_layJoined 136 = .ok (.imul, 1) := by decide +kernel
theorem dX12_layJoined_137 : decode cX12_layJoined 137 = .ok (.iload 6, 2) := by decide +kernel
theorem dX12_layJoined_139 : decode cX12_layJoined 139 = .ok (.iadd, 1) := by decide +kernel
theorem dX12_layJoined_140 : decode cX12_layJoined 140 = .ok (.iaload, 1) := by decide +kernel
theorem dX12_layJoined_141 : decode cX12_layJoined 141 = .ok (.goto 25, 3) := by decide +kernel
theorem dX12_layJoined_144 : decode cX12_layJoined 144 = .ok (.aload_n 0, 1) := by decide +kernel
theorem dX12_layJoined_145 : decode cX12_layJoined 145 = .ok (.getfield 35, 3) := by decide +kernel
theorem dX12_layJoined_148 : decode cX12_layJoined 148 = .ok (.bipush 18, 2) := by decide +kernel
theorem dX12_layJoined_150 : decode cX12_layJoined 150 = .ok (.iload_n 2, 1) := by decide +kernel
theorem dX12_layJoined_151 : decode cX12_layJoined 151 = .ok (.imul, 1) := by decide +kernel
theorem dX12_layJoined_152 : decode cX12_layJoined 152 = .ok (.iload 6, 2) := by decide +kernel
theorem dX12_layJoined_154 : decode cX12_layJoined 154 = .ok (.iadd, 1) := by decide +kernel
theorem dX12_layJoined_155 : decode cX12_layJoined 155 = .ok (.bipush 6, 2) := by decide +kernel
theorem dX12_layJoined_157 : decode cX12_layJoined 157 = .ok (.aload_n 0, 1) := by decide +kernel
theorem dX12_layJoined_158 : decode cX12_layJoined 158 = .ok (.getfield 32, 3) := by decide +kernel
theorem dX12_layJoined_161 : decode cX12_layJoined 161 = .ok (.iload_n 1, 1) := by decide +kernel
theorem dX12_layJoined_162 : decode cX12_layJoined 162 = .ok (.iaload, 1) := by decide +kernel
theorem dX12_layJoined_163 : decode cX12_layJoined 163 = .ok (.imul, 1) := by decide +kernel
theorem dX12_layJoined_164 : decode cX12_layJoined 164 = .ok (.isub, 1) := by decide +kernel
theorem dX12_layJoined_165 : decode cX12_layJoined 165 = .ok (.iaload, 1) := by decide +kernel
theorem dX12_layJoined_166 : decode cX12_layJoined 166 = .ok (.iastore, 1) := by decide +kernel
theorem dX12_layJoined_167 : decode cX12_layJoined 167 = .ok (.iinc 6 1, 3) := by decide +kernel
theorem dX12_layJoined_170 : decode cX12_layJoined 170 = .ok (.goto (-94), 3) := by decide +kernel
theorem dX12_layJoined_173 : decode cX12_layJoined 173 = .ok (.aload_n 0, 1) := by decide +kernel
theorem dX12_layJoined_174 : decode cX12_layJoined 174 = .ok (.iload_n 1, 1) := by decide +kernel
theorem dX12_layJoined_175 : decode cX12_layJoined 175 = .ok (.invokevirtual 274, 3) := by decide +kernel
theorem dX12_layJoined_178 : decode cX12_layJoined 178 = .ok (.aload_n 0, 1) := by decide +kernel
theorem dX12_layJoined_179 : decode cX12_layJoined 179 = .ok (.iload_n 2, 1) := by decide +kernel
theorem dX12_layJoined_180 : decode cX12_layJoined 180 = .ok (.invokevirtual 274, 3) := by decide +kernel
theorem dX12_layJoined_183 : decode cX12_layJoined 183 = .ok (.ior, 1) := by decide +kernel
theorem dX12_layJoined_184 : decode cX12_layJoined 184 = .ok (.istore 6, 2) := by decide +kernel
theorem dX12_layJoined_186 : decode cX12_layJoined 186 = .ok (.aload_n 0, 1) := by decide +kernel
theorem dX12_layJoined_187 : decode cX12_layJoined 187 = .ok (.iload_n 1, 1) := by decide +kernel
theorem dX12_layJoined_188 : decode cX12_layJoined 188 = .ok (.iconst 3, 1) := by decide +kernel
theorem dX12_layJoined_189 : decode cX12_layJoined 189 = .ok (.invokevirtual 184, 3) := by decide +kernel
theorem dX12_layJoined_192 : decode cX12_layJoined 192 = .ok (.ifCond .le 12, 3) := by decide +kernel
theorem dX12_layJoined_195 : decode cX12_layJoined 195 = .ok (.aload_n 0, 1) := by decide +kernel
theorem dX12_layJoined_196 : decode cX12_layJoined 196 = .ok (.iload_n 1, 1) := by decide +kernel
theorem dX12_layJoined_197 : decode cX12_layJoined 197 = .ok (.iconst 3, 1) := by decide +kernel
theorem dX12_layJoined_198 : decode cX12_layJoined 198 = .ok (.invokevirtual 184, 3) := by decide +kernel
theorem dX12_layJoined_201 : decode cX12_layJoined 201 = .ok (.goto 9, 3) := by decide +kernel
theorem dX12_layJoined_204 : decode cX12_layJoined 204 = .ok (.aload_n 0, 1) := by decide +kernel
theorem dX12_layJoined_205 : decode cX12_layJoined 205 = .ok (.iload_n 2, 1) := by decide +kernel
theorem dX12_layJoined_206 : decode cX12_layJoined 206 = .ok (.iconst 3, 1) := by decide +kernel
theorem dX12_layJoined_207 : decode cX12_layJoined 207 = .ok (.invokevirtual 184, 3) := by decide +kernel
theorem dX12_layJoined_210 : decode cX12_layJoined 210 = .ok (.istore 7, 2) := by decide +kernel
theorem dX12_layJoined_212 : decode cX12_layJoined 212 = .ok (.iconst 0, 1) := by decide +kernel
theorem dX12_layJoined_213 : decode cX12_layJoined 213 = .ok (.istore 8, 2) := by decide +kernel
theorem dX12_layJoined_215 : decode cX12_layJoined 215 = .ok (.iload 8, 2) := by decide +kernel
theorem dX12_layJoined_217 : decode cX12_layJoined 217 = .ok (.aload_n 0, 1) := by decide +kernel
theorem dX12_layJoined_218 : decode cX12_layJoined 218 = .ok (.getfield 16, 3) := by decide +kernel
theorem dX12_layJoined_221 : decode cX12_layJoined 221 = .ok (.aload_n 0, 1) := by decide +kernel
theorem dX12_layJoined_222 : decode cX12_layJoined 222 = .ok (.getfield 470, 3) := by decide +kernel
theorem dX12_layJoined_225 : decode cX12_layJoined 225 = .ok (.isub, 1) := by decide +kernel
theorem dX12_layJoined_226 : decode cX12_layJoined 226 = .ok (.if_icmp .ge 35, 3) := by decide +kernel
theorem dX12_layJoined_229 : decode cX12_layJoined 229 = .ok (.aload_n 0, 1) := by decide +kernel
theorem dX12_layJoined_230 : decode cX12_layJoined 230 = .ok (.getfield 23, 3) := by decide +kernel
theorem dX12_layJoined_233 : decode cX12_layJoined 233 = .ok (.bipush 12, 2) := by decide +kernel
theorem dX12_layJoined_235 : decode cX12_layJoined 235 = .ok (.iload 5, 2) := by decide +kernel
theorem dX12_layJoined_237 : decode cX12_layJoined 237 = .ok (.imul, 1) := by decide +kernel
theorem dX12_layJoined_238 : decode cX12_layJoined 238 = .ok (.iload 8, 2) := by decide +kernel
theorem dX12_layJoined_240 : decode cX12_layJoined 240 = .ok (.iadd, 1) := by decide +kernel
theorem dX12_layJoined_241 : decode cX12_layJoined 241 = .ok (.iload_n 3, 1) := by decide +kernel
theorem dX12_layJoined_242 : decode cX12_layJoined 242 = .ok (.aload_n 0, 1) := by decide +kernel
theorem dX12_layJoined_243 : decode cX12_layJoined 243 = .ok (.getfield 16, 3) := by decide +kernel
theorem dX12_layJoined_246 : decode cX12_layJoined 246 = .ok (.iconst 1, 1) := by decide +kernel
theorem dX12_layJoined_247 : decode cX12_layJoined 247 = .ok (.isub, 1) := by decide +kernel
theorem dX12_layJoined_248 : decode cX12_layJoined 248 = .ok (.iload 8, 2) := by decide +kernel
theorem dX12_layJoined_250 : decode cX12_layJoined 250 = .ok (.isub, 1) := by decide +kernel
theorem dX12_layJoined_251 : decode cX12_layJoined 251 = .ok (.ishr, 1) := by decide +kernel
theorem dX12_layJoined_252 : decode cX12_layJoined 252 = .ok (.iconst 1, 1) := by decide +kernel
theorem dX12_layJoined_253 : decode cX12_layJoined 253 = .ok (.iand, 1) := by decide +kernel
theorem dX12_layJoined_254 : decode cX12_layJoined 254 = .ok (.iastore, 1) := by decide +kernel
theorem dX12_layJoined_255 : decode cX12_layJoined 255 = .ok (.iinc 8 1, 3) := by decide +kernel
theorem dX12_layJoined_258 : decode cX12_layJoined 258 = .ok (.goto (-43), 3) := by decide +kernel
theorem dX12_layJoined_261 : decode cX12_layJoined 261 = .ok (.iconst 0, 1) := by decide +kernel
theorem dX12_layJoined_262 : decode cX12_layJoined 262 = .ok (.istore 9, 2) := by decide +kernel
theorem dX12_layJoined_264 : decode cX12_layJoined 264 = .ok (.iload 9, 2) := by decide +kernel
theorem dX12_layJoined_266 : decode cX12_layJoined 266 = .ok (.iconst 4, 1) := by decide +kernel
theorem dX12_layJoined_267 : decode cX12_layJoined 267 = .ok (.if_icmp .ge 76, 3) := by decide +kernel
theorem dX12_layJoined_270 : decode cX12_layJoined 270 = .ok (.iload 6, 2) := by decide +kernel
theorem dX12_layJoined_272 : decode cX12_layJoined 272 = .ok (.iload 9, 2) := by decide +kernel
theorem dX12_layJoined_274 : decode cX12_layJoined 274 = .ok (.ishr, 1) := by decide +kernel
theorem dX12_layJoined_275 : decode cX12_layJoined 275 = .ok (.iconst 1, 1) := by decide +kernel
theorem dX12_layJoined_276 : decode cX12_layJoined 276 = .ok (.iand, 1) := by decide +kernel
theorem dX12_layJoined_277 : decode cX12_layJoined 277 = .ok (.ifCond .ne 7, 3) := by decide +kernel
theorem dX12_layJoined_280 : decode cX12_layJoined 280 = .ok (.iconst 0, 1) := by decide +kernel
theorem dX12_layJoined_281 : decode cX12_layJoined 281 = .ok (.goto 18, 3) := by decide +kernel
theorem dX12_layJoined_284 : decode cX12_layJoined 284 = .ok (.iload 9, 2) := by decide +kernel
theorem dX12_layJoined_286 : decode cX12_layJoined 286 = .ok (.iconst 3, 1) := by decide +kernel
theorem dX12_layJoined_287 : decode cX12_layJoined 287 = .ok (.if_icmp .ne 8, 3) := by decide +kernel
theorem dX12_layJoined_290 : decode cX12_layJoined 290 = .ok (.iload 7, 2) := by decide +kernel
theorem dX12_layJoined_292 : decode cX12_layJoined 292 = .ok (.goto 7, 3) := by decide +kernel
theorem dX12_layJoined_295 : decode cX12_layJoined 295 = .ok (.aload_n 0, 1) := by decide +kernel
theorem dX12_layJoined_296 : decode cX12_layJoined 296 = .ok (.getfield 13, 3) := by decide +kernel
theorem dX12_layJoined_299 : decode cX12_layJoined 299 = .ok (.istore 10, 2) := by decide +kernel
theorem dX12_layJoined_301 : decode cX12_layJoined 301 = .ok (.iconst 0, 1) := by decide +kernel
theorem dX12_layJoined_302 : decode cX12_layJoined 302 = .ok (.istore 11, 2) := by decide +kernel
theorem dX12_layJoined_304 : decode cX12_layJoined 304 = .ok (.iload 11, 2) := by decide +kernel
theorem dX12_layJoined_306 : decode cX12_layJoined 306 = .ok (.iload 10, 2) := by decide +kernel
theorem dX12_layJoined_308 : decode cX12_layJoined 308 = .ok (.if_icmp .ge 29, 3) := by decide +kernel
theorem dX12_layJoined_311 : decode cX12_layJoined 311 = .ok (.aload_n 0, 1) := by decide +kernel
theorem dX12_layJoined_312 : decode cX12_layJoined 312 = .ok (.getfield 23, 3) := by decide +kernel
theorem dX12_layJoined_315 : decode cX12_layJoined 315 = .ok (.bipush 12, 2) := by decide +kernel
theorem dX12_layJoined_317 : decode cX12_layJoined 317 = .ok (.iload 5, 2) := by decide +kernel
theorem dX12_layJoined_319 : decode cX12_layJoined 319 = .ok (.imul, 1) := by decide +kernel
theorem dX12_layJoined_320 : decode cX12_layJoined 320 = .ok (.iload 8, 2) := by decide +kernel
theorem dX12_layJoined_322 : decode cX12_layJoined 322 = .ok (.iadd, 1) := by decide +kernel
theorem dX12_layJoined_323 : decode cX12_layJoined 323 = .ok (.iconst 2, 1) := by decide +kernel
theorem dX12_layJoined_324 : decode cX12_layJoined 324 = .ok (.iload 9, 2) := by decide +kernel
theorem dX12_layJoined_326 : decode cX12_layJoined 326 = .ok (.iadd, 1) := by decide +kernel
theorem dX12_layJoined_327 : decode cX12_layJoined 327 = .ok (.iastore, 1) := by decide +kernel
theorem dX12_layJoined_328 : decode cX12_layJoined 328 = .ok (.iinc 8 1, 3) := by decide +kernel
theorem dX12_layJoined_331 : decode cX12_layJoined 331 = .ok (.iinc 11 1, 3) := by decide +kernel
theorem dX12_layJoined_334 : decode cX12_layJoined 334 = .ok (.goto (-30), 3) := by decide +kernel
theorem dX12_layJoined_337 : decode cX12_layJoined 337 = .ok (.iinc 9 1, 3) := by decide +kernel
theorem dX12_layJoined_340 : decode cX12_layJoined 340 = .ok (.goto (-76), 3) := by decide +kernel
theorem dX12_layJoined_343 : decode cX12_layJoined 343 = .ok (.return_, 1) := by decide +kernel
theorem dX12_isSheet_0 : decode cX12_isSheet 0 = .ok (.iload_n 0, 1) := by decide +kernel
theorem dX12_isSheet_1 : decode cX12_isSheet 1 = .ok (.i2l, 1) := by decide +kernel
theorem dX12_isSheet_2 : decode cX12_isSheet 2 = .ok (.lconst 0, 1) := by decide +kernel
theorem dX12_isSheet_3 : decode cX12_isSheet 3 = .ok (.ldc2_w 174, 3) := by decide +kernel
theorem dX12_isSheet_6 : decode cX12_isSheet 6 = .ok (.invokestatic 170, 3) := by decide +kernel
theorem dX12_isSheet_9 : decode cX12_isSheet 9 = .ok (.ifCond .eq 19, 3) := by decide +kernel
theorem dX12_isSheet_12 : decode cX12_isSheet 12 = .ok (.iload_n 1, 1) := by decide +kernel
theorem dX12_isSheet_13 : decode cX12_isSheet 13 = .ok (.i2l, 1) := by decide +kernel
theorem dX12_isSheet_14 : decode cX12_isSheet 14 = .ok (.lconst 0, 1) := by decide +kernel
theorem dX12_isSheet_15 : decode cX12_isSheet 15 = .ok (.ldc2_w 166, 3) := by decide +kernel
theorem dX12_isSheet_18 : decode cX12_isSheet 18 = .ok (.invokestatic 170, 3) := by decide +kernel
theorem dX12_isSheet_21 : decode cX12_isSheet 21 = .ok (.ifCond .eq 7, 3) := by decide +kernel
theorem dX12_isSheet_24 : decode cX12_isSheet 24 = .ok (.iconst 1, 1) := by decide +kernel
theorem dX12_isSheet_25 : decode cX12_isSheet 25 = .ok (.goto 4, 3) := by decide +kernel
theorem dX12_isSheet_28 : decode cX12_isSheet 28 = .ok (.iconst 0, 1) := by decide +kernel
theorem dX12_isSheet_29 : decode cX12_isSheet 29 = .ok (.ireturn, 1) := by decide +kernel
theorem dX12_against_0 : decode cX12_against 0 = .ok (.aload_n 0, 1) := by decide +kernel
theorem dX12_against_1 : decode cX12_against 1 = .ok (.getfield 138, 3) := by decide +kernel
theorem dX12_against_4 : decode cX12_against 4 = .ok (.iload_n 1, 1) := by decide +kernel
theorem dX12_against_5 : decode cX12_against 5 = .ok (.iaload, 1) := by decide +kernel
theorem dX12_against_6 : decode cX12_against 6 = .ok (.iload_n 2, 1) := by decide +kernel
theorem dX12_against_7 : decode cX12_against 7 = .ok (.if_icmp .eq 20, 3) := by decide +kernel
theorem dX12_against_10 : decode cX12_against 10 = .ok (.aload_n 0, 1) := by decide +kernel
theorem dX12_against_11 : decode cX12_against 11 = .ok (.getfield 138, 3) := by decide +kernel
theorem dX12_against_14 : decode cX12_against 14 = .ok (.iload_n 1, 1) := by decide +kernel
theorem dX12_against_15 : decode cX12_against 15 = .ok (.iaload, 1) := by decide +kernel
theorem dX12_against_16 : decode cX12_against 16 = .ok (.ifCond .ge 8, 3) := by decide +kernel
theorem dX12_against_19 : decode cX12_against 19 = .ok (.bipush (-11), 2) := by decide +kernel
theorem dX12_against_21 : decode cX12_against 21 = .ok (.goto 5, 3) := by decide +kernel
theorem dX12_against_24 : decode cX12_against 24 = .ok (.bipush (-12), 2) := by decide +kernel
theorem dX12_against_26 : decode cX12_against 26 = .ok (.ireturn, 1) := by decide +kernel
theorem dX12_against_27 : decode cX12_against 27 = .ok (.iload_n 3, 1) := by decide +kernel
theorem dX12_against_28 : decode cX12_against 28 = .ok (.i2l, 1) := by decide +kernel
theorem dX12_against_29 : decode cX12_against 29 = .ok (.lconst 0, 1) := by decide +kernel
theorem dX12_against_30 : decode cX12_against 30 = .ok (.aload_n 0, 1) := by decide +kernel
theorem dX12_against_31 : decode cX12_against 31 = .ok (.getfield 141, 3) := by decide +kernel
theorem dX12_against_34 : decode cX12_against 34 = .ok (.iload_n 1, 1) := by decide +kernel
theorem dX12_against_35 : decode cX12_against 35 = .ok (.iaload, 1) := by decide +kernel
theorem dX12_against_36 : decode cX12_against 36 = .ok (.iload 4, 2) := by decide +kernel
theorem dX12_against_38 : decode cX12_against 38 = .ok (.isub, 1) := by decide +kernel
theorem dX12_against_39 : decode cX12_against 39 = .ok (.i2l, 1) := by decide +kernel
theorem dX12_against_40 : decode cX12_against 40 = .ok (.invokestatic 170, 3) := by decide +kernel
theorem dX12_against_43 : decode cX12_against 43 = .ok (.ifCond .eq 7, 3) := by decide +kernel
theorem dX12_against_46 : decode cX12_against 46 = .ok (.iconst 0, 1) := by decide +kernel
theorem dX12_against_47 : decode cX12_against 47 = .ok (.goto 5, 3) := by decide +kernel
theorem dX12_against_50 : decode cX12_against 50 = .ok (.bipush (-13), 2) := by decide +kernel
theorem dX12_against_52 : decode cX12_against 52 = .ok (.ireturn, 1) := by decide +kernel
theorem dX12_isSo_0 : decode cX12_isSo 0 = .ok (.aload_n 0, 1) := by decide +kernel
theorem dX12_isSo_1 : decode cX12_isSo 1 = .ok (.getfield 144, 3) := by decide +kernel
theorem dX12_isSo_4 : decode cX12_isSo 4 = .ok (.iload_n 1, 1) := by decide +kernel
theorem dX12_isSo_5 : decode cX12_isSo 5 = .ok (.iaload, 1) := by decide +kernel
theorem dX12_isSo_6 : decode cX12_isSo 6 = .ok (.istore_n 2, 1) := by decide +kernel
theorem dX12_isSo_7 : decode cX12_isSo 7 = .ok (.aload_n 0, 1) := by decide +kernel
theorem dX12_isSo_8 : decode cX12_isSo 8 = .ok (.getfield 144, 3) := by decide +kernel
theorem dX12_isSo_11 : decode cX12_isSo 11 = .ok (.iload_n 1, 1) := by decide +kernel
theorem dX12_isSo_12 : decode cX12_isSo 12 = .ok (.iconst 1, 1) := by decide +kernel
theorem dX12_isSo_13 : decode cX12_isSo 13 = .ok (.iadd, 1) := by decide +kernel
theorem dX12_isSo_14 : decode cX12_isSo 14 = .ok (.iaload, 1) := by decide +kernel
theorem dX12_isSo_15 : decode cX12_isSo 15 = .ok (.istore_n 3, 1) := by decide +kernel
theorem dX12_isSo_16 : decode cX12_isSo 16 = .ok (.iload_n 2, 1) := by decide +kernel
theorem dX12_isSo_17 : decode cX12_isSo 17 = .ok (.aload_n 0, 1) := by decide +kernel
theorem dX12_isSo_18 : decode cX12_isSo 18 = .ok (.getfield 62, 3) := by decide +kernel
theorem dX12_isSo_21 : decode cX12_isSo 21 = .ok (.sipush 265, 3) := by decide +kernel
theorem dX12_isSo_24 : decode cX12_isSo 24 = .ok (.iaload, 1) := by decide +kernel
theorem dX12_isSo_25 : decode cX12_isSo 25 = .ok (.if_icmp .ne 42, 3) := by decide +kernel
theorem dX12_isSo_28 : decode cX12_isSo 28 = .ok (.iload_n 3, 1) := by decide +kernel
theorem dX12_isSo_29 : decode cX12_isSo 29 = .ok (.i2l, 1) := by decide +kernel
theorem dX12_isSo_30 : decode cX12_isSo 30 = .ok (.lconst 0, 1) := by decide +kernel
theorem dX12_isSo_31 : decode cX12_isSo 31 = .ok (.iconst 1, 1) := by decide +kernel
theorem dX12_isSo_32 : decode cX12_isSo 32 = .ok (.aload_n 0, 1) := by decide +kernel
theorem dX12_isSo_33 : decode cX12_isSo 33 = .ok (.getfield 13, 3) := by decide +kernel
theorem dX12_isSo_36 : decode cX12_isSo 36 = .ok (.ishl, 1) := by decide +kernel
theorem dX12_isSo_37 : decode cX12_isSo 37 = .ok (.iconst 1, 1) := by decide +kernel
theorem dX12_isSo_38 : decode cX12_isSo 38 = .ok (.isub, 1) := by decide +kernel
theorem dX12_isSo_39 : decode cX12_isSo 39 = .ok (.i2l, 1) := by decide +kernel
theorem dX12_isSo_40 : decode cX12_isSo 40 = .ok (.invokestatic 170, 3) := by decide +kernel
theorem dX12_isSo_43 : decode cX12_isSo 43 = .ok (.ifCond .eq 24, 3) := by decide +kernel
theorem dX12_isSo_46 : decode cX12_isSo 46 = .ok (.aload_n 0, 1) := by decide +kernel
theorem dX12_isSo_47 : decode cX12_isSo 47 = .ok (.getfield 144, 3) := by decide +kernel
theorem dX12_isSo_50 : decode cX12_isSo 50 = .ok (.iload_n 1, 1) := by decide +kernel
theorem dX12_isSo_51 : decode cX12_isSo 51 = .ok (.iconst 2, 1) := by decide +kernel
theorem dX12_isSo_52 : decode cX12_isSo 52 = .ok (.iadd, 1) := by decide +kernel
theorem dX12_isSo_53 : decode cX12_isSo 53 = .ok (.iaload, 1) := by decide +kernel
theorem dX12_isSo_54 : decode cX12_isSo 54 = .ok (.aload_n 0, 1) := by decide +kernel
theorem dX12_isSo_55 : decode cX12_isSo 55 = .ok (.getfield 62, 3) := by decide +kernel
theorem dX12_isSo_58 : decode cX12_isSo 58 = .ok (.iload_n 3, 1) := by decide +kernel
theorem dX12_isSo_59 : decode cX12_isSo 59 = .ok (.iaload, 1) := by decide +kernel
theorem dX12_isSo_60 : decode cX12_isSo 60 = .ok (.if_icmp .ne 7, 3) := by decide +kernel
theorem dX12_isSo_63 : decode cX12_isSo 63 = .ok (.iconst 1, 1) := by decide +kernel
theorem dX12_isSo_64 : decode cX12_isSo 64 = .ok (.goto 4, 3) := by decide +kernel
theorem dX12_isSo_67 : decode cX12_isSo 67 = .ok (.iconst 0, 1) := by decide +kernel
theorem dX12_isSo_68 : decode cX12_isSo 68 = .ok (.ireturn, 1) := by decide +kernel
theorem dX12_log_0 : decode cX12_log 0 = .ok (.iload_n 1, 1) := by decide +kernel
theorem dX12_log_1 : decode cX12_log 1 = .ok (.iload_n 2, 1) := by decide +kernel
theorem dX12_log_2 : decode cX12_log 2 = .ok (.invokestatic 480, 3) := by decide +kernel
theorem dX12_log_5 : decode cX12_log 5 = .ok (.ifCond .eq 16, 3) := by decide +kernel
theorem dX12_log_8 : decode cX12_log 8 = .ok (.iload 4, 2) := by decide +kernel
theorem dX12_log_10 : decode cX12_log 10 = .ok (.i2l, 1) := by decide +kernel
theorem dX12_log_11 : decode cX12_log 11 = .ok (.lconst 0, 1) := by decide +kernel
theorem dX12_log_12 : decode cX12_log 12 = .ok (.ldc2_w 483, 3) := by decide +kernel
theorem dX12_log_15 : decode cX12_log 15 = .ok (.invokestatic 170, 3) := by decide +kernel
theorem dX12_log_18 : decode cX12_log 18 = .ok (.ifCond .ne 5, 3) := by decide +kernel
theorem dX12_log_21 : decode cX12_log 21 = .ok (.iconst (-1), 1) := by decide +kernel
theorem dX12_log_22 : decode cX12_log 22 = .ok (.ireturn, 1) := by decide +kernel
theorem dX12_log_23 : decode cX12_log 23 = .ok (.aload_n 0, 1) := by decide +kernel
theorem dX12_log_24 : decode cX12_log 24 = .ok (.iload_n 1, 1) := by decide +kernel
theorem dX12_log_25 : decode cX12_log 25 = .ok (.iload_n 2, 1) := by decide +kernel
theorem dX12_log_26 : decode cX12_log 26 = .ok (.iload_n 3, 1) := by decide +kernel
theorem dX12_log_27 : decode cX12_log 27 = .ok (.iconst 3, 1) := by decide +kernel
theorem dX12_log_28 : decode cX12_log 28 = .ok (.iload 4, 2) := by decide +kernel
theorem dX12_log_30 : decode cX12_log 30 = .ok (.imul, 1) := by decide +kernel
theorem dX12_log_31 : decode cX12_log 31 = .ok (.invokevirtual 485, 3) := by decide +kernel
theorem dX12_log_34 : decode cX12_log 34 = .ok (.istore 5, 2) := by decide +kernel
theorem dX12_log_36 : decode cX12_log 36 = .ok (.iload 5, 2) := by decide +kernel
theorem dX12_log_38 : decode cX12_log 38 = .ok (.ifCond .ge 6, 3) := by decide +kernel
theorem dX12_log_41 : decode cX12_log 41 = .ok (.iload 5, 2) := by decide +kernel
theorem dX12_log_43 : decode cX12_log 43 = .ok (.ireturn, 1) := by decide +kernel
theorem dX12_log_44 : decode cX12_log 44 = .ok (.iconst 0, 1) := by decide +kernel
theorem dX12_log_45 : decode cX12_log 45 = .ok (.istore 6, 2) := by decide +kernel
theorem dX12_log_47 : decode cX12_log 47 = .ok (.iload 6, 2) := by decide +kernel
theorem dX12_log_49 : decode cX12_log 49 = .ok (.sipush 336, 3) := by decide +kernel
theorem dX12_log_52 : decode cX12_log 52 = .ok (.if_icmp .ge 23, 3) := by decide +kernel
theorem dX12_log_55 : decode cX12_log 55 = .ok (.aload_n 0, 1) := by decide +kernel
theorem dX12_log_56 : decode cX12_log 56 = .ok (.getfield 69, 3) := by decide +kernel
theorem dX12_log_59 : decode cX12_log 59 = .ok (.iload 6, 2) := by decide +kernel
theorem dX12_log_61 : decode cX12_log 61 = .ok (.aload_n 0, 1) := by decide +kernel
theorem dX12_log_62 : decode cX12_log 62 = .ok (.getfield 62, 3) := by decide +kernel
theorem dX12_log_65 : decode cX12_log 65 = .ok (.iload 6, 2) := by decide +kernel
theorem dX12_log_67 : decode cX12_log 67 = .ok (.iaload, 1) := by decide +kernel
theorem dX12_log_68 : decode cX12_log 68 = .ok (.iastore, 1) := by decide +kernel
theorem dX12_log_69 : decode cX12_log 69 = .ok (.iinc 6 1, 3) := by decide +kernel
theorem dX12_log_72 : decode cX12_log 72 = .ok (.goto (-25), 3) := by decide +kernel
theorem dX12_log_75 : decode cX12_log 75 = .ok (.iconst 0, 1) := by decide +kernel
theorem dX12_log_76 : decode cX12_log 76 = .ok (.istore 6, 2) := by decide +kernel
theorem dX12_log_78 : decode cX12_log 78 = .ok (.iconst 1, 1) := by decide +kernel
theorem dX12_log_79 : decode cX12_log 79 = .ok (.istore 7, 2) := by decide +kernel
theorem dX12_log_81 : decode cX12_log 81 = .ok (.iload 6, 2) := by decide +kernel
theorem dX12_log_83 : decode cX12_log 83 = .ok (.iload 4, 2) := by decide +kernel
theorem dX12_log_85 : decode cX12_log 85 = .ok (.if_icmp .ge 70, 3) := by decide +kernel
theorem dX12_log_88 : decode cX12_log 88 = .ok (.iload 7, 2) := by decide +kernel
theorem dX12_log_90 : decode cX12_log 90 = .ok (.ifCond .eq 65, 3) := by decide +kernel
theorem dX12_log_93 : decode cX12_log 93 = .ok (.aload_n 0, 1) := by decide +kernel
theorem dX12_log_94 : decode cX12_log 94 = .ok (.bipush 30, 2) := by decide +kernel
theorem dX12_log_96 : decode cX12_log 96 = .ok (.iload_n 1, 1) := by decide +kernel
theorem dX12_log_97 : decode cX12_log 97 = .ok (.imul, 1) := by decide +kernel
theorem dX12_log_98 : decode cX12_log 98 = .ok (.iload_n 3, 1) := by decide +kernel
theorem dX12_log_99 : decode cX12_log 99 = .ok (.iadd, 1) := by decide +kernel
theorem dX12_log_100 : decode cX12_log 100 = .ok (.iconst 3, 1) := by decide +kernel
theorem dX12_log_101 : decode cX12_log 101 = .ok (.iload 6, 2) := by decide +kernel
theorem dX12_log_103 : decode cX12_log 103 = .ok (.imul, 1) := by decide +kernel
theorem dX12_log_104 : decode cX12_log 104 = .ok (.iadd, 1) := by decide +kernel
theorem dX12_log_105 : decode cX12_log 105 = .ok (.invokevirtual 488, 3) := by decide +kernel
theorem dX12_log_108 : decode cX12_log 108 = .ok (.istore 7, 2) := by decide +kernel
theorem dX12_log_110 : decode cX12_log 110 = .ok (.iload 6, 2) := by decide +kernel
theorem dX12_log_112 : decode cX12_log 112 = .ok (.iload 7, 2) := by decide +kernel
theorem dX12_log_114 : decode cX12_log 114 = .ok (.ifCond .eq 7, 3) := by decide +kernel
theorem dX12_log_117 : decode cX12_log 117 = .ok (.iconst 1, 1) := by decide +kernel
theorem dX12_log_118 : decode cX12_log 118 = .ok (.goto 4, 3) := by decide +kernel
theorem dX12_log_121 : decode cX12_log 121 = .ok (.iconst 0, 1) := by decide +kernel
theorem dX12_log_122 : decode cX12_log 122 = .ok (.iadd, 1) := by decide +kernel
theorem dX12_log_123 : decode cX12_log 123 = .ok (.istore 6, 2) := by decide +kernel
theorem dX12_log_125 : decode cX12_log 125 = .ok (.iload 7, 2) := by decide +kernel
theorem dX12_log_127 : decode cX12_log 127 = .ok (.ifCond .eq 22, 3) := by decide +kernel
theorem dX12_log_130 : decode cX12_log 130 = .ok (.iload 6, 2) := by decide +kernel
theorem dX12_log_132 : decode cX12_log 132 = .ok (.iload 4, 2) := by decide +kernel
theorem dX12_log_134 : decode cX12_log 134 = .ok (.if_icmp .eq 11, 3) := by decide +kernel
theorem dX12_log_137 : decode cX12_log 137 = .ok (.aload_n 0, 1) := by decide +kernel
theorem dX12_log_138 : decode cX12_log 138 = .ok (.iconst 0, 1) := by decide +kernel
theorem dX12_log_139 : decode cX12_log 139 = .ok (.invokevirtual 382, 3) := by decide +kernel
theorem dX12_log_142 : decode cX12_log 142 = .ok (.ifCond .eq 7, 3) := by decide +kernel
theorem dX12_log_145 : decode cX12_log 145 = .ok (.iconst 1, 1) := by decide +kernel
theorem dX12_log_146 : decode cX12_log 146 = .ok (.goto 4, 3) := by decide +kernel
theorem dX12_log_149 : decode cX12_log 149 = .ok (.iconst 0, 1) := by decide +kernel
theorem dX12_log_150 : decode cX12_log 150 = .ok (.istore 7, 2) := by decide +kernel
theorem dX12_log_152 : decode cX12_log 152 = .ok (.goto (-71), 3) := by decide +kernel
theorem dX12_log_155 : decode cX12_log 155 = .ok (.iconst 0, 1) := by decide +kernel
theorem dX12_log_156 : decode cX12_log 156 = .ok (.istore 8, 2) := by decide +kernel
theorem dX12_log_158 : decode cX12_log 158 = .ok (.iload 8, 2) := by decide +kernel
theorem dX12_log_160 : decode cX12_log 160 = .ok (.sipush 336, 3) := by decide +kernel
theorem dX12_log_163 : decode cX12_log 163 = .ok (.if_icmp .ge 23, 3) := by decide +kernel
theorem dX12_log_166 : decode cX12_log 166 = .ok (.aload_n 0, 1) := by decide +kernel
theorem dX12_log_167 : decode cX12_log 167 = .ok (.getfield 62, 3) := by decide +kernel
theorem dX12_log_170 : decode cX12_log 170 = .ok (.iload 8, 2) := by decide +kernel
theorem dX12_log_172 : decode cX12_log 172 = .ok (.aload_n 0, 1) := by decide +kernel
theorem dX12_log_173 : decode cX12_log 173 = .ok (.getfield 69, 3) := by decide +kernel
theorem dX12_log_176 : decode cX12_log 176 = .ok (.iload 8, 2) := by decide +kernel
theorem dX12_log_178 : decode cX12_log 178 = .ok (.iaload, 1) := by decide +kernel
theorem dX12_log_179 : decode cX12_log 179 = .ok (.iastore, 1) := by decide +kernel
theorem dX12_log_180 : decode cX12_log 180 = .ok (.iinc 8 1, 3) := by decide +kernel
theorem dX12_log_183 : decode cX12_log 183 = .ok (.goto (-25), 3) := by decide +kernel
theorem dX12_log_186 : decode cX12_log 186 = .ok (.iload 6, 2) := by decide +kernel
theorem dX12_log_188 : decode cX12_log 188 = .ok (.ireturn, 1) := by decide +kernel
theorem dX12_load_0 : decode cX12_load 0 = .ok (.iload_n 1, 1) := by decide +kernel
theorem dX12_load_1 : decode cX12_load 1 = .ok (.iload_n 2, 1) := by decide +kernel
theorem dX12_load_2 : decode cX12_load 2 = .ok (.invokestatic 480, 3) := by decide +kernel
theorem dX12_load_5 : decode cX12_load 5 = .ok (.ifCond .eq 32, 3) := by decide +kernel
theorem dX12_load_8 : decode cX12_load 8 = .ok (.iload 5, 2) := by decide +kernel
theorem dX12_load_10 : decode cX12_load 10 = .ok (.i2l, 1) := by decide +kernel
theorem dX12_load_11 : decode cX12_load 11 = .ok (.lconst 0, 1) := by decide +kernel
theorem dX12_load_12 : decode cX12_load 12 = .ok (.ldc2_w 491, 3) := by decide +kernel
theorem dX12_load_15 : decode cX12_load 15 = .ok (.invokestatic 170, 3) := by decide +kernel
theorem dX12_load_18 : decode cX12_load 18 = .ok (.ifCond .eq 19, 3) := by decide +kernel
theorem dX12_load_21 : decode cX12_load 21 = .ok (.iload 4, 2) := by decide +kernel
theorem dX12_load_23 : decode cX12_load 23 = .ok (.i2l, 1) := by decide +kernel
theorem dX12_load_24 : decode cX12_load 24 = .ok (.lconst 0, 1) := by decide +kernel
theorem dX12_load_25 : decode cX12_load 25 = .ok (.bipush 64, 2) := by decide +kernel
theorem dX12_load_27 : decode cX12_load 27 = .ok (.iload 5, 2) := by decide +kernel
theorem dX12_load_29 : decode cX12_load 29 = .ok (.isub, 1) := by decide +kernel
theorem dX12_load_30 : decode cX12_load 30 = .ok (.i2l, 1) := by decide +kernel
theorem dX12_load_31 : decode cX12_load 31 = .ok (.invokestatic 170, 3) := by decide +kernel
theorem dX12_load_34 : decode cX12_load 34 = .ok (.ifCond .ne 5, 3) := by decide +kernel
theorem dX12_load_37 : decode cX12_load 37 = .ok (.iconst (-1), 1) := by decide +kernel
theorem dX12_load_38 : decode cX12_load 38 = .ok (.ireturn, 1) := by decide +kernel
theorem dX12_load_39 : decode cX12_load 39 = .ok (.aload_n 0, 1) := by decide +kernel
theorem dX12_load_40 : decode cX12_load 40 = .ok (.iload_n 1, 1) := by decide +kernel
theorem dX12_load_41 : decode cX12_load 41 = .ok (.iload_n 2, 1) := by decide +kernel
theorem dX12_load_42 : decode cX12_load 42 = .ok (.iload_n 3, 1) := by decide +kernel
theorem dX12_load_43 : decode cX12_load 43 = .ok (.iload 5, 2) := by decide +kernel
theorem dX12_load_45 : decode cX12_load 45 = .ok (.invokevirtual 485, 3) := by decide +kernel
theorem dX12_load_48 : decode cX12_load 48 = .ok (.istore 6, 2) := by decide +kernel
theorem dX12_load_50 : decode cX12_load 50 = .ok (.iload 6, 2) := by decide +kernel
theorem dX12_load_52 : decode cX12_load 52 = .ok (.ifCond .ge 6, 3) := by decide +kernel
theorem dX12_load_55 : decode cX12_load 55 = .ok (.iload 6, 2) := by decide +kernel
theorem dX12_load_57 : decode cX12_load 57 = .ok (.ireturn, 1) := by decide +kernel
theorem dX12_load_58 : decode cX12_load 58 = .ok (.bipush 30, 2) := by decide +kernel
theorem dX12_load_60 : decode cX12_load 60 = .ok (.iload_n 1, 1) := by decide +kernel
theorem dX12_load_61 : decode cX12_load 61 = .ok (.imul, 1) := by decide +kernel
theorem dX12_load_62 : decode cX12_load 62 = .ok (.iload_n 3, 1) := by decide +kernel
theorem dX12_load_63 : decode cX12_load 63 = .ok (.iadd, 1) := by decide +kernel
theorem dX12_load_64 : decode cX12_load 64 = .ok (.istore 7, 2) := by decide +kernel
theorem dX12_load_66 : decode cX12_load 66 = .ok (.iconst 0, 1) := by decide +kernel
theorem dX12_load_67 : decode cX12_load 67 = .ok (.istore 8, 2) := by decide +kernel
theorem dX12_load_69 : decode cX12_load 69 = .ok (.iload 8, 2) := by decide +kernel
theorem dX12_load_71 : decode cX12_load 71 = .ok (.iload 5, 2) := by decide +kernel
theorem dX12_load_73 : decode cX12_load 73 = .ok (.if_icmp .ge 29, 3) := by decide +kernel
theorem dX12_load_76 : decode cX12_load 76 = .ok (.aload_n 0, 1) := by decide +kernel
theorem dX12_load_77 : decode cX12_load 77 = .ok (.aload_n 0, 1) := by decide +kernel
theorem dX12_load_78 : decode cX12_load 78 = .ok (.getfield 144, 3) := by decide +kernel
theorem dX12_load_81 : decode cX12_load 81 = .ok (.iload 7, 2) := by decide +kernel
theorem dX12_load_83 : decode cX12_load 83 = .ok (.iload 8, 2) := by decide +kernel
theorem dX12_load_85 : decode cX12_load 85 = .ok (.iadd, 1) := by decide +kernel
theorem dX12_load_86 : decode cX12_load 86 = .ok (.iaload, 1) := by decide +kernel
theorem dX12_load_87 : decode cX12_load 87 = .ok (.invokevirtual 280, 3) := by decide +kernel
theorem dX12_load_90 : decode cX12_load 90 = .ok (.ifCond .ne 6, 3) := by decide +kernel
theorem dX12_load_93 : decode cX12_load 93 = .ok (.bipush (-2), 2) := by decide +kernel
theorem dX12_load_95 : decode cX12_load 95 = .ok (.ireturn, 1) := by decide +kernel
theorem dX12_load_96 : decode cX12_load 96 = .ok (.iinc 8 1, 3) := by decide +kernel
theorem dX12_load_99 : decode cX12_load 99 = .ok (.goto (-30), 3) := by decide +kernel
theorem dX12_load_102 : decode cX12_load 102 = .ok (.iconst 0, 1) := by decide +kernel
theorem dX12_load_103 : decode cX12_load 103 = .ok (.istore 8, 2) := by decide +kernel
theorem dX12_load_105 : decode cX12_load 105 = .ok (.iload 8, 2) := by decide +kernel
theorem dX12_load_107 : decode cX12_load 107 = .ok (.iload 5, 2) := by decide +kernel
theorem dX12_load_109 : decode cX12_load 109 = .ok (.if_icmp .ge 29, 3) := by decide +kernel
theorem dX12_load_112 : decode cX12_load 112 = .ok (.aload_n 0, 1) := by decide +kernel
theorem dX12_load_113 : decode cX12_load 113 = .ok (.getfield 59, 3) := by decide +kernel
theorem dX12_load_116 : decode cX12_load 116 = .ok (.iload 4, 2) := by decide +kernel
theorem dX12_load_118 : decode cX12_load 118 = .ok (.iload 8, 2) := by decide +kernel
theorem dX12_load_120 : decode cX12_load 120 = .ok (.iadd, 1) := by decide +kernel
theorem dX12_load_121 : decode cX12_load 121 = .ok (.aload_n 0, 1) := by decide +kernel
theorem dX12_load_122 : decode cX12_load 122 = .ok (.getfield 144, 3) := by decide +kernel
theorem dX12_load_125 : decode cX12_load 125 = .ok (.iload 7, 2) := by decide +kernel
theorem dX12_load_127 : decode cX12_load 127 = .ok (.iload 8, 2) := by decide +kernel
theorem dX12_load_129 : decode cX12_load 129 = .ok (.iadd, 1) := by decide +kernel
theorem dX12_load_130 : decode cX12_load 130 = .ok (.iaload, 1) := by decide +kernel
theorem dX12_load_131 : decode cX12_load 131 = .ok (.iastore, 1) := by decide +kernel
theorem dX12_load_132 : decode cX12_load 132 = .ok (.iinc 8 1, 3) := by decide +kernel
theorem dX12_load_135 : decode cX12_load 135 = .ok (.goto (-30), 3) := by decide +kernel
theorem dX12_load_138 : decode cX12_load 138 = .ok (.iload 5, 2) := by decide +kernel
theorem dX12_load_140 : decode cX12_load 140 = .ok (.ireturn, 1) := by decide +kernel
theorem dX12_sheet_0 : decode cX12_sheet 0 = .ok (.iload_n 1, 1) := by decide +kernel
theorem dX12_sheet_1 : decode cX12_sheet 1 = .ok (.iload_n 2, 1) := by decide +kernel
theorem dX12_sheet_2 : decode cX12_sheet 2 = .ok (.invokestatic 480, 3) := by decide +kernel
theorem dX12_sheet_5 : decode cX12_sheet 5 = .ok (.ifCond .eq 9, 3) := by decide +kernel
theorem dX12_sheet_8 : decode cX12_sheet 8 = .ok (.iload_n 3, 1) := by decide +kernel
theorem dX12_sheet_9 : decode cX12_sheet 9 = .ok (.bipush 30, 2) := by decide +kernel
theorem dX12_sheet_11 : decode cX12_sheet 11 = .ok (.if_icmp .le 5, 3) := by decide +kernel
theorem dX12_sheet_14 : decode cX12_sheet 14 = .ok (.iconst (-1), 1) := by decide +kernel
theorem dX12_sheet_15 : decode cX12_sheet 15 = .ok (.ireturn, 1) := by decide +kernel
theorem dX12_sheet_16 : decode cX12_sheet 16 = .ok (.iload_n 3, 1) := by decide +kernel
theorem dX12_sheet_17 : decode cX12_sheet 17 = .ok (.ifCond .ge 6, 3) := by decide +kernel
theorem dX12_sheet_20 : decode cX12_sheet 20 = .ok (.bipush (-14), 2) := by decide +kernel
theorem dX12_sheet_22 : decode cX12_sheet 22 = .ok (.ireturn, 1) := by decide +kernel
theorem dX12_sheet_23 : decode cX12_sheet 23 = .ok (.aload_n 0, 1) := by decide +kernel
theorem dX12_sheet_24 : decode cX12_sheet 24 = .ok (.getfield 138, 3) := by decide +kernel
theorem dX12_sheet_27 : decode cX12_sheet 27 = .ok (.iload_n 1, 1) := by decide +kernel
theorem dX12_sheet_28 : decode cX12_sheet 28 = .ok (.iload_n 2, 1) := by decide +kernel
theorem dX12_sheet_29 : decode cX12_sheet 29 = .ok (.iastore, 1) := by decide +kernel
theorem dX12_sheet_30 : decode cX12_sheet 30 = .ok (.aload_n 0, 1) := by decide +kernel
theorem dX12_sheet_31 : decode cX12_sheet 31 = .ok (.getfield 141, 3) := by decide +kernel
theorem dX12_sheet_34 : decode cX12_sheet 34 = .ok (.iload_n 1, 1) := by decide +kernel
theorem dX12_sheet_35 : decode cX12_sheet 35 = .ok (.iload_n 3, 1) := by decide +kernel
theorem dX12_sheet_36 : decode cX12_sheet 36 = .ok (.iastore, 1) := by decide +kernel
theorem dX12_sheet_37 : decode cX12_sheet 37 = .ok (.iconst 0, 1) := by decide +kernel
theorem dX12_sheet_38 : decode cX12_sheet 38 = .ok (.istore 4, 2) := by decide +kernel
theorem dX12_sheet_40 : decode cX12_sheet 40 = .ok (.iload 4, 2) := by decide +kernel
theorem dX12_sheet_42 : decode cX12_sheet 42 = .ok (.bipush 30, 2) := by decide +kernel
theorem dX12_sheet_44 : decode cX12_sheet 44 = .ok (.if_icmp .ge 22, 3) := by decide +kernel
theorem dX12_sheet_47 : decode cX12_sheet 47 = .ok (.aload_n 0, 1) := by decide +kernel
theorem dX12_sheet_48 : decode cX12_sheet 48 = .ok (.getfield 144, 3) := by decide +kernel
theorem dX12_sheet_51 : decode cX12_sheet 51 = .ok (.bipush 30, 2) := by decide +kernel
theorem dX12_sheet_53 : decode cX12_sheet 53 = .ok (.iload_n 1, 1) := by decide +kernel
theorem dX12_sheet_54 : decode cX12_sheet 54 = .ok (.imul, 1) := by decide +kernel
theorem dX12_sheet_55 : decode cX12_sheet 55 = .ok (.iload 4, 2) := by decide +kernel
theorem dX12_sheet_57 : decode cX12_sheet 57 = .ok (.iadd, 1) := by decide +kernel
theorem dX12_sheet_58 : decode cX12_sheet 58 = .ok (.iconst 0, 1) := by decide +kernel
theorem dX12_sheet_59 : decode cX12_sheet 59 = .ok (.iastore, 1) := by decide +kernel
theorem dX12_sheet_60 : decode cX12_sheet 60 = .ok (.iinc 4 1, 3) := by decide +kernel
theorem dX12_sheet_63 : decode cX12_sheet 63 = .ok (.goto (-23), 3) := by decide +kernel
theorem dX12_sheet_66 : decode cX12_sheet 66 = .ok (.iload_n 3, 1) := by decide +kernel
theorem dX12_sheet_67 : decode cX12_sheet 67 = .ok (.ireturn, 1) := by decide +kernel
theorem dX12_drop_0 : decode cX12_drop 0 = .ok (.iload_n 1, 1) := by decide +kernel
theorem dX12_drop_1 : decode cX12_drop 1 = .ok (.i2l, 1) := by decide +kernel
theorem dX12_drop_2 : decode cX12_drop 2 = .ok (.lconst 0, 1) := by decide +kernel
theorem dX12_drop_3 : decode cX12_drop 3 = .ok (.ldc2_w 174, 3) := by decide +kernel
theorem dX12_drop_6 : decode cX12_drop 6 = .ok (.invokestatic 170, 3) := by decide +kernel
theorem dX12_drop_9 : decode cX12_drop 9 = .ok (.ifCond .ne 5, 3) := by decide +kernel
theorem dX12_drop_12 : decode cX12_drop 12 = .ok (.iconst (-1), 1) := by decide +kernel
theorem dX12_drop_13 : decode cX12_drop 13 = .ok (.ireturn, 1) := by decide +kernel
theorem dX12_drop_14 : decode cX12_drop 14 = .ok (.aload_n 0, 1) := by decide +kernel
theorem dX12_drop_15 : decode cX12_drop 15 = .ok (.getfield 138, 3) := by decide +kernel
theorem dX12_drop_18 : decode cX12_drop 18 = .ok (.iload_n 1, 1) := by decide +kernel
theorem dX12_drop_19 : decode cX12_drop 19 = .ok (.iaload, 1) := by decide +kernel
theorem dX12_drop_20 : decode cX12_drop 20 = .ok (.ifCond .ge 6, 3) := by decide +kernel
theorem dX12_drop_23 : decode cX12_drop 23 = .ok (.bipush (-11), 2) := by decide +kernel
theorem dX12_drop_25 : decode cX12_drop 25 = .ok (.ireturn, 1) := by decide +kernel
theorem dX12_drop_26 : decode cX12_drop 26 = .ok (.aload_n 0, 1) := by decide +kernel
theorem dX12_drop_27 : decode cX12_drop 27 = .ok (.getfield 138, 3) := by decide +kernel
theorem dX12_drop_30 : decode cX12_drop 30 = .ok (.iload_n 1, 1) := by decide +kernel
theorem dX12_drop_31 : decode cX12_drop 31 = .ok (.iconst (-1), 1) := by decide +kernel
theorem dX12_drop_32 : decode cX12_drop 32 = .ok (.iastore, 1) := by decide +kernel
theorem dX12_drop_33 : decode cX12_drop 33 = .ok (.aload_n 0, 1) := by decide +kernel
theorem dX12_drop_34 : decode cX12_drop 34 = .ok (.getfield 141, 3) := by decide +kernel
theorem dX12_drop_37 : decode cX12_drop 37 = .ok (.iload_n 1, 1) := by decide +kernel
theorem dX12_drop_38 : decode cX12_drop 38 = .ok (.iaload, 1) := by decide +kernel
theorem dX12_drop_39 : decode cX12_drop 39 = .ok (.ireturn, 1) := by decide +kernel
theorem dX12_item_0 : decode cX12_item 0 = .ok (.iload_n 1, 1) := by decide +kernel
theorem dX12_item_1 : decode cX12_item 1 = .ok (.iload_n 2, 1) := by decide +kernel
theorem dX12_item_2 : decode cX12_item 2 = .ok (.invokestatic 480, 3) := by decide +kernel
theorem dX12_item_5 : decode cX12_item 5 = .ok (.ifCond .ne 5, 3) := by decide +kernel
theorem dX12_item_8 : decode cX12_item 8 = .ok (.iconst (-1), 1) := by decide +kernel
theorem dX12_item_9 : decode cX12_item 9 = .ok (.ireturn, 1) := by decide +kernel
theorem dX12_item_10 : decode cX12_item 10 = .ok (.aload_n 0, 1) := by decide +kernel
theorem dX12_item_11 : decode cX12_item 11 = .ok (.iload_n 1, 1) := by decide +kernel
theorem dX12_item_12 : decode cX12_item 12 = .ok (.iload_n 2, 1) := by decide +kernel
theorem dX12_item_13 : decode cX12_item 13 = .ok (.iload_n 3, 1) := by decide +kernel
theorem dX12_item_14 : decode cX12_item 14 = .ok (.iconst 1, 1) := by decide +kernel
theorem dX12_item_15 : decode cX12_item 15 = .ok (.invokevirtual 485, 3) := by decide +kernel
theorem dX12_item_18 : decode cX12_item 18 = .ok (.istore 5, 2) := by decide +kernel
theorem dX12_item_20 : decode cX12_item 20 = .ok (.iload 5, 2) := by decide +kernel
theorem dX12_item_22 : decode cX12_item 22 = .ok (.ifCond .ge 6, 3) := by decide +kernel
theorem dX12_item_25 : decode cX12_item 25 = .ok (.iload 5, 2) := by decide +kernel
theorem dX12_item_27 : decode cX12_item 27 = .ok (.ireturn, 1) := by decide +kernel
theorem dX12_item_28 : decode cX12_item 28 = .ok (.aload_n 0, 1) := by decide +kernel
theorem dX12_item_29 : decode cX12_item 29 = .ok (.getfield 144, 3) := by decide +kernel
theorem dX12_item_32 : decode cX12_item 32 = .ok (.bipush 30, 2) := by decide +kernel
theorem dX12_item_34 : decode cX12_item 34 = .ok (.iload_n 1, 1) := by decide +kernel
theorem dX12_item_35 : decode cX12_item 35 = .ok (.imul, 1) := by decide +kernel
theorem dX12_item_36 : decode cX12_item 36 = .ok (.iload_n 3, 1) := by decide +kernel
theorem dX12_item_37 : decode cX12_item 37 = .ok (.iadd, 1) := by decide +kernel
theorem dX12_item_38 : decode cX12_item 38 = .ok (.iload_n 2, 1) := by decide +kernel
theorem dX12_item_39 : decode cX12_item 39 = .ok (.ifCond .ne 14, 3) := by decide +kernel
theorem dX12_item_42 : decode cX12_item 42 = .ok (.iload 4, 2) := by decide +kernel
theorem dX12_item_44 : decode cX12_item 44 = .ok (.bipush 24, 2) := by decide +kernel
theorem dX12_item_46 : decode cX12_item 46 = .ok (.ishl, 1) := by decide +kernel
theorem dX12_item_47 : decode cX12_item 47 = .ok (.bipush 24, 2) := by decide +kernel
theorem dX12_item_49 : decode cX12_item 49 = .ok (.ishr, 1) := by decide +kernel
theorem dX12_item_50 : decode cX12_item 50 = .ok (.goto 21, 3) := by decide +kernel
theorem dX12_item_53 : decode cX12_item 53 = .ok (.iload_n 2, 1) := by decide +kernel
theorem dX12_item_54 : decode cX12_item 54 = .ok (.iconst 1, 1) := by decide +kernel
theorem dX12_item_55 : decode cX12_item 55 = .ok (.if_icmp .ne 14, 3) := by decide +kernel
theorem dX12_item_58 : decode cX12_item 58 = .ok (.iload 4, 2) := by decide +kernel
theorem dX12_item_60 : decode cX12_item 60 = .ok (.bipush 16, 2) := by decide +kernel
theorem dX12_item_62 : decode cX12_item 62 = .ok (.ishl, 1) := by decide +kernel
theorem dX12_item_63 : decode cX12_item 63 = .ok (.bipush 16, 2) := by decide +kernel
theorem dX12_item_65 : decode cX12_item 65 = .ok (.ishr, 1) := by decide +kernel
theorem dX12_item_66 : decode cX12_item 66 = .ok (.goto 5, 3) := by decide +kernel
theorem dX12_item_69 : decode cX12_item 69 = .ok (.iload 4, 2) := by decide +kernel
theorem dX12_item_71 : decode cX12_item 71 = .ok (.iastore, 1) := by decide +kernel
theorem dX12_item_72 : decode cX12_item 72 = .ok (.iconst 1, 1) := by decide +kernel
theorem dX12_item_73 : decode cX12_item 73 = .ok (.ireturn, 1) := by decide +kernel
