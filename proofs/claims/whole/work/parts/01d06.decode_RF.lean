theorem dRF_init_0 : decode mRF_init.2.1 0 = .ok (.aload_n 0, 1) := by decide +kernel
theorem dRF_init_1 : decode mRF_init.2.1 1 = .ok (.invokespecial 1, 3) := by decide +kernel
theorem dRF_init_4 : decode mRF_init.2.1 4 = .ok (.aload_n 0, 1) := by decide +kernel
theorem dRF_init_5 : decode mRF_init.2.1 5 = .ok (.bipush 15, 2) := by decide +kernel
theorem dRF_init_7 : decode mRF_init.2.1 7 = .ok (.newarray .long, 2) := by decide +kernel
theorem dRF_init_9 : decode mRF_init.2.1 9 = .ok (.dup, 1) := by decide +kernel
theorem dRF_init_10 : decode mRF_init.2.1 10 = .ok (.iconst 0, 1) := by decide +kernel
theorem dRF_init_11 : decode mRF_init.2.1 11 = .ok (.ldc2_w 9, 3) := by decide +kernel
theorem dRF_init_14 : decode mRF_init.2.1 14 = .ok (.lastore, 1) := by decide +kernel
theorem dRF_init_15 : decode mRF_init.2.1 15 = .ok (.dup, 1) := by decide +kernel
theorem dRF_init_16 : decode mRF_init.2.1 16 = .ok (.iconst 1, 1) := by decide +kernel
theorem dRF_init_17 : decode mRF_init.2.1 17 = .ok (.ldc2_w 11, 3) := by decide +kernel
theorem dRF_init_20 : decode mRF_init.2.1 20 = .ok (.lastore, 1) := by decide +kernel
theorem dRF_init_21 : decode mRF_init.2.1 21 = .ok (.dup, 1) := by decide +kernel
theorem dRF_init_22 : decode mRF_init.2.1 22 = .ok (.iconst 2, 1) := by decide +kernel
theorem dRF_init_23 : decode mRF_init.2.1 23 = .ok (.ldc2_w 13, 3) := by decide +kernel
theorem dRF_init_26 : decode mRF_init.2.1 26 = .ok (.lastore, 1) := by decide +kernel
theorem dRF_init_27 : decode mRF_init.2.1 27 = .ok (.dup, 1) := by decide +kernel
theorem dRF_init_28 : decode mRF_init.2.1 28 = .ok (.iconst 3, 1) := by decide +kernel
theorem dRF_init_29 : decode mRF_init.2.1 29 = .ok (.ldc2_w 15, 3) := by decide +kernel
theorem dRF_init_32 : decode mRF_init.2.1 32 = .ok (.lastore, 1) := by decide +kernel
theorem dRF_init_33 : decode mRF_init.2.1 33 = .ok (.dup, 1) := by decide +kernel
theorem dRF_init_34 : decode mRF_init.2.1 34 = .ok (.iconst 4, 1) := by decide +kernel
theorem dRF_init_35 : decode mRF_init.2.1 35 = .ok (.ldc2_w 17, 3) := by decide +kernel
theorem dRF_init_38 : decode mRF_init.2.1 38 = .ok (.lastore, 1) := by decide +kernel
theorem dRF_init_39 : decode mRF_init.2.1 39 = .ok (.dup, 1) := by decide +kernel
theorem dRF_init_40 : decode mRF_init.2.1 40 = .ok (.iconst 5, 1) := by decide +kernel
theorem dRF_init_41 : decode mRF_init.2.1 41 = .ok (.ldc2_w 19, 3) := by decide +kernel
theorem dRF_init_44 : decode mRF_init.2.1 44 = .ok (.lastore, 1) := by decide +kernel
theorem dRF_init_45 : decode mRF_init.2.1 45 = .ok (.dup, 1) := by decide +kernel
theorem dRF_init_46 : decode mRF_init.2.1 46 = .ok (.bipush 6, 2) := by decide +kernel
theorem dRF_init_48 : decode mRF_init.2.1 48 = .ok (.ldc2_w 21, 3) := by decide +kernel
theorem dRF_init_51 : decode mRF_init.2.1 51 = .ok (.lastore, 1) := by decide +kernel
theorem dRF_init_52 : decode mRF_init.2.1 52 = .ok (.dup, 1) := by decide +kernel
theorem dRF_init_53 : decode mRF_init.2.1 53 = .ok (.bipush 7, 2) := by decide +kernel
theorem dRF_init_55 : decode mRF_init.2.1 55 = .ok (.ldc2_w 23, 3) := by decide +kernel
theorem dRF_init_58 : decode mRF_init.2.1 58 = .ok (.lastore, 1) := by decide +kernel
theorem dRF_init_59 : decode mRF_init.2.1 59 = .ok (.dup, 1) := by decide +kernel
theorem dRF_init_60 : decode mRF_init.2.1 60 = .ok (.bipush 8, 2) := by decide +kernel
theorem dRF_init_62 : decode mRF_init.2.1 62 = .ok (.ldc2_w 25, 3) := by decide +kernel
theorem dRF_init_65 : decode mRF_init.2.1 65 = .ok (.lastore, 1) := by decide +kernel
theorem dRF_init_66 : decode mRF_init.2.1 66 = .ok (.dup, 1) := by decide +kernel
theorem dRF_init_67 : decode mRF_init.2.1 67 = .ok (.bipush 9, 2) := by decide +kernel
theorem dRF_init_69 : decode mRF_init.2.1 69 = .ok (.ldc2_w 27, 3) := by decide +kernel
theorem dRF_init_72 : decode mRF_init.2.1 72 = .ok (.lastore, 1) := by decide +kernel
theorem dRF_init_73 : decode mRF_init.2.1 73 = .ok (.dup, 1) := by decide +kernel
theorem dRF_init_74 : decode mRF_init.2.1 74 = .ok (.bipush 10, 2) := by decide +kernel
theorem dRF_init_76 : decode mRF_init.2.1 76 = .ok (.ldc2_w 29, 3) := by decide +kernel
theorem dRF_init_79 : decode mRF_init.2.1 79 = .ok (.lastore, 1) := by decide +kernel
theorem dRF_init_80 : decode mRF_init.2.1 80 = .ok (.dup, 1) := by decide +kernel
theorem dRF_init_81 : decode mRF_init.2.1 81 = .ok (.bipush 11, 2) := by decide +kernel
theorem dRF_init_83 : decode mRF_init.2.1 83 = .ok (.ldc2_w 31, 3) := by decide +kernel
theorem dRF_init_86 : decode mRF_init.2.1 86 = .ok (.lastore, 1) := by decide +kernel
theorem dRF_init_87 : decode mRF_init.2.1 87 = .ok (.dup, 1) := by decide +kernel
theorem dRF_init_88 : decode mRF_init.2.1 88 = .ok (.bipush 12, 2) := by decide +kernel
theorem dRF_init_90 : decode mRF_init.2.1 90 = .ok (.ldc2_w 33, 3) := by decide +kernel
theorem dRF_init_93 : decode mRF_init.2.1 93 = .ok (.lastore, 1) := by decide +kernel
theorem dRF_init_94 : decode mRF_init.2.1 94 = .ok (.dup, 1) := by decide +kernel
theorem dRF_init_95 : decode mRF_init.2.1 95 = .ok (.bipush 13, 2) := by decide +kernel
theorem dRF_init_97 : decode mRF_init.2.1 97 = .ok (.ldc2_w 35, 3) := by decide +kernel
theorem dRF_init_100 : decode mRF_init.2.1 100 = .ok (.lastore, 1) := by decide +kernel
theorem dRF_init_101 : decode mRF_init.2.1 101 = .ok (.dup, 1) := by decide +kernel
theorem dRF_init_102 : decode mRF_init.2.1 102 = .ok (.bipush 14, 2) := by decide +kernel
theorem dRF_init_104 : decode mRF_init.2.1 104 = .ok (.ldc2_w 37, 3) := by decide +kernel
theorem dRF_init_107 : decode mRF_init.2.1 107 = .ok (.lastore, 1) := by decide +kernel
theorem dRF_init_108 : decode mRF_init.2.1 108 = .ok (.putfield 39, 3) := by decide +kernel
theorem dRF_init_111 : decode mRF_init.2.1 111 = .ok (.aload_n 0, 1) := by decide +kernel
theorem dRF_init_112 : decode mRF_init.2.1 112 = .ok (.sipush 600, 3) := by decide +kernel
theorem dRF_init_115 : decode mRF_init.2.1 115 = .ok (.newarray .int, 2) := by decide +kernel
theorem dRF_init_117 : decode mRF_init.2.1 117 = .ok (.putfield 43, 3) := by decide +kernel
theorem dRF_init_120 : decode mRF_init.2.1 120 = .ok (.aload_n 0, 1) := by decide +kernel
theorem dRF_init_121 : decode mRF_init.2.1 121 = .ok (.sipush 186, 3) := by decide +kernel
theorem dRF_init_124 : decode mRF_init.2.1 124 = .ok (.newarray .int, 2) := by decide +kernel
theorem dRF_init_126 : decode mRF_init.2.1 126 = .ok (.putfield 47, 3) := by decide +kernel
theorem dRF_init_129 : decode mRF_init.2.1 129 = .ok (.aload_n 0, 1) := by decide +kernel
theorem dRF_init_130 : decode mRF_init.2.1 130 = .ok (.sipush 186, 3) := by decide +kernel
theorem dRF_init_133 : decode mRF_init.2.1 133 = .ok (.newarray .int, 2) := by decide +kernel
theorem dRF_init_135 : decode mRF_init.2.1 135 = .ok (.putfield 50, 3) := by decide +kernel
theorem dRF_init_138 : decode mRF_init.2.1 138 = .ok (.aload_n 0, 1) := by decide +kernel
theorem dRF_init_139 : decode mRF_init.2.1 139 = .ok (.bipush 15, 2) := by decide +kernel
theorem dRF_init_141 : decode mRF_init.2.1 141 = .ok (.newarray .int, 2) := by decide +kernel
theorem dRF_init_143 : decode mRF_init.2.1 143 = .ok (.putfield 53, 3) := by decide +kernel
theorem dRF_init_146 : decode mRF_init.2.1 146 = .ok (.aload_n 0, 1) := by decide +kernel
theorem dRF_init_147 : decode mRF_init.2.1 147 = .ok (.sipush 400, 3) := by decide +kernel
theorem dRF_init_150 : decode mRF_init.2.1 150 = .ok (.newarray .int, 2) := by decide +kernel
theorem dRF_init_152 : decode mRF_init.2.1 152 = .ok (.putfield 56, 3) := by decide +kernel
theorem dRF_init_155 : decode mRF_init.2.1 155 = .ok (.aload_n 0, 1) := by decide +kernel
theorem dRF_init_156 : decode mRF_init.2.1 156 = .ok (.sipush 400, 3) := by decide +kernel
theorem dRF_init_159 : decode mRF_init.2.1 159 = .ok (.newarray .int, 2) := by decide +kernel
theorem dRF_init_161 : decode mRF_init.2.1 161 = .ok (.putfield 59, 3) := by decide +kernel
theorem dRF_init_164 : decode mRF_init.2.1 164 = .ok (.aload_n 0, 1) := by decide +kernel
theorem dRF_init_165 : decode mRF_init.2.1 165 = .ok (.bipush 15, 2) := by decide +kernel
theorem dRF_init_167 : decode mRF_init.2.1 167 = .ok (.newarray .int, 2) := by decide +kernel
theorem dRF_init_169 : decode mRF_init.2.1 169 = .ok (.putfield 62, 3) := by decide +kernel
theorem dRF_init_172 : decode mRF_init.2.1 172 = .ok (.aload_n 0, 1) := by decide +kernel
theorem dRF_init_173 : decode mRF_init.2.1 173 = .ok (.bipush 15, 2) := by decide +kernel
theorem dRF_init_175 : decode mRF_init.2.1 175 = .ok (.newarray .int, 2) := by decide +kernel
theorem dRF_init_177 : decode mRF_init.2.1 177 = .ok (.putfield 65, 3) := by decide +kernel
theorem dRF_init_180 : decode mRF_init.2.1 180 = .ok (.aload_n 0, 1) := by decide +kernel
theorem dRF_init_181 : decode mRF_init.2.1 181 = .ok (.bipush 15, 2) := by decide +kernel
theorem dRF_init_183 : decode mRF_init.2.1 183 = .ok (.newarray .long, 2) := by decide +kernel
theorem dRF_init_185 : decode mRF_init.2.1 185 = .ok (.putfield 68, 3) := by decide +kernel
theorem dRF_init_188 : decode mRF_init.2.1 188 = .ok (.aload_n 0, 1) := by decide +kernel
theorem dRF_init_189 : decode mRF_init.2.1 189 = .ok (.bipush 80, 2) := by decide +kernel
theorem dRF_init_191 : decode mRF_init.2.1 191 = .ok (.newarray .byte, 2) := by decide +kernel
theorem dRF_init_193 : decode mRF_init.2.1 193 = .ok (.putfield 71, 3) := by decide +kernel
theorem dRF_init_196 : decode mRF_init.2.1 196 = .ok (.aload_n 0, 1) := by decide +kernel
theorem dRF_init_197 : decode mRF_init.2.1 197 = .ok (.bipush 60, 2) := by decide +kernel
theorem dRF_init_199 : decode mRF_init.2.1 199 = .ok (.newarray .byte, 2) := by decide +kernel
theorem dRF_init_201 : decode mRF_init.2.1 201 = .ok (.putfield 75, 3) := by decide +kernel
theorem dRF_init_204 : decode mRF_init.2.1 204 = .ok (.aload_n 0, 1) := by decide +kernel
theorem dRF_init_205 : decode mRF_init.2.1 205 = .ok (.iconst (-1), 1) := by decide +kernel
theorem dRF_init_206 : decode mRF_init.2.1 206 = .ok (.putfield 78, 3) := by decide +kernel
theorem dRF_init_209 : decode mRF_init.2.1 209 = .ok (.aload_n 0, 1) := by decide +kernel
theorem dRF_init_210 : decode mRF_init.2.1 210 = .ok (.sipush 6000, 3) := by decide +kernel
theorem dRF_init_213 : decode mRF_init.2.1 213 = .ok (.newarray .int, 2) := by decide +kernel
theorem dRF_init_215 : decode mRF_init.2.1 215 = .ok (.putfield 82, 3) := by decide +kernel
theorem dRF_init_218 : decode mRF_init.2.1 218 = .ok (.aload_n 0, 1) := by decide +kernel
theorem dRF_init_219 : decode mRF_init.2.1 219 = .ok (.iload_n 1, 1) := by decide +kernel
theorem dRF_init_220 : decode mRF_init.2.1 220 = .ok (.iconst 3, 1) := by decide +kernel
theorem dRF_init_221 : decode mRF_init.2.1 221 = .ok (.if_icmp .ge 7, 3) := by decide +kernel
theorem dRF_init_224 : decode mRF_init.2.1 224 = .ok (.iconst 3, 1) := by decide +kernel
theorem dRF_init_225 : decode mRF_init.2.1 225 = .ok (.goto 13, 3) := by decide +kernel
theorem dRF_init_228 : decode mRF_init.2.1 228 = .ok (.iload_n 1, 1) := by decide +kernel
theorem dRF_init_229 : decode mRF_init.2.1 229 = .ok (.iconst 5, 1) := by decide +kernel
theorem dRF_init_230 : decode mRF_init.2.1 230 = .ok (.if_icmp .le 7, 3) := by decide +kernel
theorem dRF_init_233 : decode mRF_init.2.1 233 = .ok (.iconst 5, 1) := by decide +kernel
theorem dRF_init_234 : decode mRF_init.2.1 234 = .ok (.goto 4, 3) := by decide +kernel
theorem dRF_init_237 : decode mRF_init.2.1 237 = .ok (.iload_n 1, 1) := by decide +kernel
theorem dRF_init_238 : decode mRF_init.2.1 238 = .ok (.putfield 85, 3) := by decide +kernel
theorem dRF_init_241 : decode mRF_init.2.1 241 = .ok (.iload_n 2, 1) := by decide +kernel
theorem dRF_init_242 : decode mRF_init.2.1 242 = .ok (.iconst 1, 1) := by decide +kernel
theorem dRF_init_243 : decode mRF_init.2.1 243 = .ok (.if_icmp .ge 7, 3) := by decide +kernel
theorem dRF_init_246 : decode mRF_init.2.1 246 = .ok (.iconst 1, 1) := by decide +kernel
theorem dRF_init_247 : decode mRF_init.2.1 247 = .ok (.goto 13, 3) := by decide +kernel
theorem dRF_init_250 : decode mRF_init.2.1 250 = .ok (.iload_n 2, 1) := by decide +kernel
theorem dRF_init_251 : decode mRF_init.2.1 251 = .ok (.iconst 3, 1) := by decide +kernel
theorem dRF_init_252 : decode mRF_init.2.1 252 = .ok (.if_icmp .le 7, 3) := by decide +kernel
theorem dRF_init_255 : decode mRF_init.2.1 255 = .ok (.iconst 3, 1) := by decide +kernel
theorem dRF_init_256 : decode mRF_init.2.1 256 = .ok (.goto 4, 3) := by decide +kernel
theorem dRF_init_259 : decode mRF_init.2.1 259 = .ok (.iload_n 2, 1) := by decide +kernel
theorem dRF_init_260 : decode mRF_init.2.1 260 = .ok (.istore_n 3, 1) := by decide +kernel
theorem dRF_init_261 : decode mRF_init.2.1 261 = .ok (.aload_n 0, 1) := by decide +kernel
theorem dRF_init_262 : decode mRF_init.2.1 262 = .ok (.aload_n 0, 1) := by decide +kernel
theorem dRF_init_263 : decode mRF_init.2.1 263 = .ok (.getfield 85, 3) := by decide +kernel
theorem dRF_init_266 : decode mRF_init.2.1 266 = .ok (.iconst 5, 1) := by decide +kernel
theorem dRF_init_267 : decode mRF_init.2.1 267 = .ok (.if_icmp .ne 12, 3) := by decide +kernel
theorem dRF_init_270 : decode mRF_init.2.1 270 = .ok (.iload_n 3, 1) := by decide +kernel
theorem dRF_init_271 : decode mRF_init.2.1 271 = .ok (.iconst 3, 1) := by decide +kernel
theorem dRF_init_272 : decode mRF_init.2.1 272 = .ok (.if_icmp .ne 7, 3) := by decide +kernel
theorem dRF_init_275 : decode mRF_init.2.1 275 = .ok (.iconst 2, 1) := by decide +kernel
theorem dRF_init_276 : decode mRF_init.2.1 276 = .ok (.goto 4, 3) := by decide +kernel
theorem dRF_init_279 : decode mRF_init.2.1 279 = .ok (.iload_n 3, 1) := by decide +kernel
theorem dRF_init_280 : decode mRF_init.2.1 280 = .ok (.putfield 88, 3) := by decide +kernel
theorem dRF_init_283 : decode mRF_init.2.1 283 = .ok (.iconst 1, 1) := by decide +kernel
theorem dRF_init_284 : decode mRF_init.2.1 284 = .ok (.istore 4, 2) := by decide +kernel
theorem dRF_init_286 : decode mRF_init.2.1 286 = .ok (.iconst 0, 1) := by decide +kernel
theorem dRF_init_287 : decode mRF_init.2.1 287 = .ok (.istore 5, 2) := by decide +kernel
theorem dRF_init_289 : decode mRF_init.2.1 289 = .ok (.iload 5, 2) := by decide +kernel
theorem dRF_init_291 : decode mRF_init.2.1 291 = .ok (.aload_n 0, 1) := by decide +kernel
theorem dRF_init_292 : decode mRF_init.2.1 292 = .ok (.getfield 85, 3) := by decide +kernel
theorem dRF_init_295 : decode mRF_init.2.1 295 = .ok (.if_icmp .ge 18, 3) := by decide +kernel
theorem dRF_init_298 : decode mRF_init.2.1 298 = .ok (.iload 4, 2) := by decide +kernel
theorem dRF_init_300 : decode mRF_init.2.1 300 = .ok (.aload_n 0, 1) := by decide +kernel
theorem dRF_init_301 : decode mRF_init.2.1 301 = .ok (.getfield 85, 3) := by decide +kernel
theorem dRF_init_304 : decode mRF_init.2.1 304 = .ok (.imul, 1) := by decide +kernel
theorem dRF_init_305 : decode mRF_init.2.1 305 = .ok (.istore 4, 2) := by decide +kernel
theorem dRF_init_307 : decode mRF_init.2.1 307 = .ok (.iinc 5 1, 3) := by decide +kernel
theorem dRF_init_310 : decode mRF_init.2.1 310 = .ok (.goto (-21), 3) := by decide +kernel
theorem dRF_init_313 : decode mRF_init.2.1 313 = .ok (.iconst 0, 1) := by decide +kernel
theorem dRF_init_314 : decode mRF_init.2.1 314 = .ok (.istore 5, 2) := by decide +kernel
theorem dRF_init_316 : decode mRF_init.2.1 316 = .ok (.iload 5, 2) := by decide +kernel
theorem dRF_init_318 : decode mRF_init.2.1 318 = .ok (.iload 4, 2) := by decide +kernel
theorem dRF_init_320 : decode mRF_init.2.1 320 = .ok (.if_icmp .ge 135, 3) := by decide +kernel
theorem dRF_init_323 : decode mRF_init.2.1 323 = .ok (.iconst 0, 1) := by decide +kernel
theorem dRF_init_324 : decode mRF_init.2.1 324 = .ok (.istore 6, 2) := by decide +kernel
theorem dRF_init_326 : decode mRF_init.2.1 326 = .ok (.iload 5, 2) := by decide +kernel
theorem dRF_init_328 : decode mRF_init.2.1 328 = .ok (.istore 7, 2) := by decide +kernel
theorem dRF_init_330 : decode mRF_init.2.1 330 = .ok (.iconst 0, 1) := by decide +kernel
theorem dRF_init_331 : decode mRF_init.2.1 331 = .ok (.istore 8, 2) := by decide +kernel
theorem dRF_init_333 : decode mRF_init.2.1 333 = .ok (.iload 8, 2) := by decide +kernel
theorem dRF_init_335 : decode mRF_init.2.1 335 = .ok (.aload_n 0, 1) := by decide +kernel
theorem dRF_init_336 : decode mRF_init.2.1 336 = .ok (.getfield 85, 3) := by decide +kernel
theorem dRF_init_339 : decode mRF_init.2.1 339 = .ok (.if_icmp .ge 32, 3) := by decide +kernel
theorem dRF_init_342 : decode mRF_init.2.1 342 = .ok (.iload 6, 2) := by decide +kernel
theorem dRF_init_344 : decode mRF_init.2.1 344 = .ok (.iconst 1, 1) := by decide +kernel
theorem dRF_init_345 : decode mRF_init.2.1 345 = .ok (.iload 7, 2) := by decide +kernel
theorem dRF_init_347 : decode mRF_init.2.1 347 = .ok (.aload_n 0, 1) := by decide +kernel
theorem dRF_init_348 : decode mRF_init.2.1 348 = .ok (.getfield 85, 3) := by decide +kernel
theorem dRF_init_351 : decode mRF_init.2.1 351 = .ok (.irem, 1) := by decide +kernel
theorem dRF_init_352 : decode mRF_init.2.1 352 = .ok (.ishl, 1) := by decide +kernel
theorem dRF_init_353 : decode mRF_init.2.1 353 = .ok (.ior, 1) := by decide +kernel
theorem dRF_init_354 : decode mRF_init.2.1 354 = .ok (.istore 6, 2) := by decide +kernel
theorem dRF_init_356 : decode mRF_init.2.1 356 = .ok (.iload 7, 2) := by decide +kernel
theorem dRF_init_358 : decode mRF_init.2.1 358 = .ok (.aload_n 0, 1) := by decide +kernel
theorem dRF_init_359 : decode mRF_init.2.1 359 = .ok (.getfield 85, 3) := by decide +kernel
theorem dRF_init_362 : decode mRF_init.2.1 362 = .ok (.idiv, 1) := by decide +kernel
theorem dRF_init_363 : decode mRF_init.2.1 363 = .ok (.istore 7, 2) := by decide +kernel
theorem dRF_init_365 : decode mRF_init.2.1 365 = .ok (.iinc 8 1, 3) := by decide +kernel
theorem dRF_init_368 : decode mRF_init.2.1 368 = .ok (.goto (-35), 3) := by decide +kernel
theorem dRF_init_371 : decode mRF_init.2.1 371 = .ok (.iload 6, 2) := by decide +kernel
theorem dRF_init_373 : decode mRF_init.2.1 373 = .ok (.iconst 1, 1) := by decide +kernel
theorem dRF_init_374 : decode mRF_init.2.1 374 = .ok (.aload_n 0, 1) := by decide +kernel
theorem dRF_init_375 : decode mRF_init.2.1 375 = .ok (.getfield 85, 3) := by decide +kernel
theorem dRF_init_378 : decode mRF_init.2.1 378 = .ok (.ishl, 1) := by decide +kernel
theorem dRF_init_379 : decode mRF_init.2.1 379 = .ok (.iconst 1, 1) := by decide +kernel
theorem dRF_init_380 : decode mRF_init.2.1 380 = .ok (.isub, 1) := by decide +kernel
theorem dRF_init_381 : decode mRF_init.2.1 381 = .ok (.if_icmp .eq 6, 3) := by decide +kernel
theorem dRF_init_384 : decode mRF_init.2.1 384 = .ok (.goto 65, 3) := by decide +kernel
theorem dRF_init_387 : decode mRF_init.2.1 387 = .ok (.iload 5, 2) := by decide +kernel
theorem dRF_init_389 : decode mRF_init.2.1 389 = .ok (.istore 7, 2) := by decide +kernel
theorem dRF_init_391 : decode mRF_init.2.1 391 = .ok (.iconst 0, 1) := by decide +kernel
theorem dRF_init_392 : decode mRF_init.2.1 392 = .ok (.istore 8, 2) := by decide +kernel
theorem dRF_init_394 : decode mRF_init.2.1 394 = .ok (.iload 8, 2) := by decide +kernel
theorem dRF_init_396 : decode mRF_init.2.1 396 = .ok (.aload_n 0, 1) := by decide +kernel
theorem dRF_init_397 : decode mRF_init.2.1 397 = .ok (.getfield 85, 3) := by decide +kernel
theorem dRF_init_400 : decode mRF_init.2.1 400 = .ok (.if_icmp .ge 39, 3) := by decide +kernel
theorem dRF_init_403 : decode mRF_init.2.1 403 = .ok (.aload_n 0, 1) := by decide +kernel
theorem dRF_init_404 : decode mRF_init.2.1 404 = .ok (.getfield 43, 3) := by decide +kernel
theorem dRF_init_407 : decode mRF_init.2.1 407 = .ok (.iconst 5, 1) := by decide +kernel
theorem dRF_init_408 : decode mRF_init.2.1 408 = .ok (.aload_n 0, 1) := by decide +kernel
theorem dRF_init_409 : decode mRF_init.2.1 409 = .ok (.getfield 91, 3) := by decide +kernel
theorem dRF_init_412 : decode mRF_init.2.1 412 = .ok (.imul, 1) := by decide +kernel
theorem dRF_init_413 : decode mRF_init.2.1 413 = .ok (.iload 8, 2) := by decide +kernel
theorem dRF_init_415 : decode mRF_init.2.1 415 = .ok (.iadd, 1) := by decide +kernel
theorem dRF_init_416 : decode mRF_init.2.1 416 = .ok (.iload 7, 2) := by decide +kernel
theorem dRF_init_418 : decode mRF_init.2.1 418 = .ok (.aload_n 0, 1) := by decide +kernel
theorem dRF_init_419 : decode mRF_init.2.1 419 = .ok (.getfield 85, 3) := by decide +kernel
theorem dRF_init_422 : decode mRF_init.2.1 422 = .ok (.irem, 1) := by decide +kernel
theorem dRF_init_423 : decode mRF_init.2.1 423 = .ok (.iastore, 1) := by decide +kernel
theorem dRF_init_424 : decode mRF_init.2.1 424 = .ok (.iload 7, 2) := by decide +kernel
theorem dRF_init_426 : decode mRF_init.2.1 426 = .ok (.aload_n 0, 1) := by decide +kernel
theorem dRF_init_427 : decode mRF_init.2.1 427 = .ok (.getfield 85, 3) := by decide +kernel
theorem dRF_init_430 : decode mRF_init.2.1 430 = .ok (.idiv, 1) := by decide +kernel
theorem dRF_init_431 : decode mRF_init.2.1 431 = .ok (.istore 7, 2) := by decide +kernel
theorem dRF_init_433 : decode mRF_init.2.1 433 = .ok (.iinc 8 1, 3) := by decide +kernel
theorem dRF_init_436 : decode mRF_init.2.1 436 = .ok (.goto (-42), 3) := by decide +kernel
theorem dRF_init_439 : decode mRF_init.2.1 439 = .ok (.aload_n 0, 1) := by decide +kernel
theorem dRF_init_440 : decode mRF_init.2.1 440 = .ok (.dup, 1) := by decide +kernel
theorem dRF_init_441 : decode mRF_init.2.1 441 = .ok (.getfield 91, 3) := by decide +kernel
theorem dRF_init_444 : decode mRF_init.2.1 444 = .ok (.iconst 1, 1) := by decide +kernel
theorem dRF_init_445 : decode mRF_init.2.1 445 = .ok (.iadd, 1) := by decide +kernel
theorem dRF_init_446 : decode mRF_init.2.1 446 = .ok (.putfield 91, 3) := by decide +kernel
theorem dRF_init_449 : decode mRF_init.2.1 449 = .ok (.iinc 5 1, 3) := by decide +kernel
theorem dRF_init_452 : decode mRF_init.2.1 452 = .ok (.goto (-136), 3) := by decide +kernel
theorem dRF_init_455 : decode mRF_init.2.1 455 = .ok (.return_, 1) := by decide +kernel
theorem dRF_thrown_0 : decode mRF_thrown.2.1 0 = .ok (.aload_n 0, 1) := by decide +kernel
theorem dRF_thrown_1 : decode mRF_thrown.2.1 1 = .ok (.getfield 94, 3) := by decide +kernel
theorem dRF_thrown_4 : decode mRF_thrown.2.1 4 = .ok (.ireturn, 1) := by decide +kernel
theorem dRF_clue_0 : decode mRF_clue.2.1 0 = .ok (.aload_n 0, 1) := by decide +kernel
theorem dRF_clue_1 : decode mRF_clue.2.1 1 = .ok (.aload_n 0, 1) := by decide +kernel
theorem dRF_clue_2 : decode mRF_clue.2.1 2 = .ok (.iload_n 1, 1) := by decide +kernel
theorem dRF_clue_3 : decode mRF_clue.2.1 3 = .ok (.iload_n 2, 1) := by decide +kernel
theorem dRF_clue_4 : decode mRF_clue.2.1 4 = .ok (.iload_n 3, 1) := by decide +kernel
theorem dRF_clue_5 : decode mRF_clue.2.1 5 = .ok (.iload 4, 2) := by decide +kernel
theorem dRF_clue_7 : decode mRF_clue.2.1 7 = .ok (.iload 5, 2) := by decide +kernel
theorem dRF_clue_9 : decode mRF_clue.2.1 9 = .ok (.iload 6, 2) := by decide +kernel
theorem dRF_clue_11 : decode mRF_clue.2.1 11 = .ok (.invokevirtual 104, 3) := by decide +kernel
theorem dRF_clue_14 : decode mRF_clue.2.1 14 = .ok (.ifCond .ne 7, 3) := by decide +kernel
theorem dRF_clue_17 : decode mRF_clue.2.1 17 = .ok (.iconst 1, 1) := by decide +kernel
theorem dRF_clue_18 : decode mRF_clue.2.1 18 = .ok (.goto 33, 3) := by decide +kernel
theorem dRF_clue_21 : decode mRF_clue.2.1 21 = .ok (.aload_n 0, 1) := by decide +kernel
theorem dRF_clue_22 : decode mRF_clue.2.1 22 = .ok (.getfield 101, 3) := by decide +kernel
theorem dRF_clue_25 : decode mRF_clue.2.1 25 = .ok (.bipush 30, 2) := by decide +kernel
theorem dRF_clue_27 : decode mRF_clue.2.1 27 = .ok (.if_icmp .eq 19, 3) := by decide +kernel
theorem dRF_clue_30 : decode mRF_clue.2.1 30 = .ok (.aload_n 0, 1) := by decide +kernel
theorem dRF_clue_31 : decode mRF_clue.2.1 31 = .ok (.iload_n 1, 1) := by decide +kernel
theorem dRF_clue_32 : decode mRF_clue.2.1 32 = .ok (.iload_n 2, 1) := by decide +kernel
theorem dRF_clue_33 : decode mRF_clue.2.1 33 = .ok (.iload_n 3, 1) := by decide +kernel
theorem dRF_clue_34 : decode mRF_clue.2.1 34 = .ok (.iload 4, 2) := by decide +kernel
theorem dRF_clue_36 : decode mRF_clue.2.1 36 = .ok (.iload 5, 2) := by decide +kernel
theorem dRF_clue_38 : decode mRF_clue.2.1 38 = .ok (.iload 6, 2) := by decide +kernel
theorem dRF_clue_40 : decode mRF_clue.2.1 40 = .ok (.invokevirtual 108, 3) := by decide +kernel
theorem dRF_clue_43 : decode mRF_clue.2.1 43 = .ok (.ifCond .eq 7, 3) := by decide +kernel
theorem dRF_clue_46 : decode mRF_clue.2.1 46 = .ok (.iconst 2, 1) := by decide +kernel
theorem dRF_clue_47 : decode mRF_clue.2.1 47 = .ok (.goto 4, 3) := by decide +kernel
theorem dRF_clue_50 : decode mRF_clue.2.1 50 = .ok (.iconst 0, 1) := by decide +kernel
theorem dRF_clue_51 : decode mRF_clue.2.1 51 = .ok (.putfield 94, 3) := by decide +kernel
theorem dRF_clue_54 : decode mRF_clue.2.1 54 = .ok (.aload_n 0, 1) := by decide +kernel
theorem dRF_clue_55 : decode mRF_clue.2.1 55 = .ok (.getfield 94, 3) := by decide +kernel
theorem dRF_clue_58 : decode mRF_clue.2.1 58 = .ok (.ifCond .le 5, 3) := by decide +kernel
theorem dRF_clue_61 : decode mRF_clue.2.1 61 = .ok (.iconst 0, 1) := by decide +kernel
theorem dRF_clue_62 : decode mRF_clue.2.1 62 = .ok (.ireturn, 1) := by decide +kernel
theorem dRF_clue_63 : decode mRF_clue.2.1 63 = .ok (.aload_n 0, 1) := by decide +kernel
theorem dRF_clue_64 : decode mRF_clue.2.1 64 = .ok (.aload_n 0, 1) := by decide +kernel
theorem dRF_clue_65 : decode mRF_clue.2.1 65 = .ok (.getfield 101, 3) := by decide +kernel
theorem dRF_clue_68 : decode mRF_clue.2.1 68 = .ok (.iload_n 1, 1) := by decide +kernel
theorem dRF_clue_69 : decode mRF_clue.2.1 69 = .ok (.iload_n 2, 1) := by decide +kernel
theorem dRF_clue_70 : decode mRF_clue.2.1 70 = .ok (.iload_n 3, 1) := by decide +kernel
theorem dRF_clue_71 : decode mRF_clue.2.1 71 = .ok (.iload 4, 2) := by decide +kernel
theorem dRF_clue_73 : decode mRF_clue.2.1 73 = .ok (.iload 5, 2) := by decide +kernel
theorem dRF_clue_75 : decode mRF_clue.2.1 75 = .ok (.iload 6, 2) := by decide +kernel
theorem dRF_clue_77 : decode mRF_clue.2.1 77 = .ok (.invokevirtual 111, 3) := by decide +kernel
theorem dRF_clue_80 : decode mRF_clue.2.1 80 = .ok (.aload_n 0, 1) := by decide +kernel
theorem dRF_clue_81 : decode mRF_clue.2.1 81 = .ok (.dup, 1) := by decide +kernel
theorem dRF_clue_82 : decode mRF_clue.2.1 82 = .ok (.getfield 101, 3) := by decide +kernel
theorem dRF_clue_85 : decode mRF_clue.2.1 85 = .ok (.iconst 1, 1) := by decide +kernel
theorem dRF_clue_86 : decode mRF_clue.2.1 86 = .ok (.iadd, 1) := by decide +kernel
theorem dRF_clue_87 : decode mRF_clue.2.1 87 = .ok (.putfield 101, 3) := by decide +kernel
theorem dRF_clue_90 : decode mRF_clue.2.1 90 = .ok (.aload_n 0, 1) := by decide +kernel
theorem dRF_clue_91 : decode mRF_clue.2.1 91 = .ok (.getfield 101, 3) := by decide +kernel
theorem dRF_clue_94 : decode mRF_clue.2.1 94 = .ok (.iconst 1, 1) := by decide +kernel
theorem dRF_clue_95 : decode mRF_clue.2.1 95 = .ok (.isub, 1) := by decide +kernel
theorem dRF_clue_96 : decode mRF_clue.2.1 96 = .ok (.ireturn, 1) := by decide +kernel
theorem dRF_isClue_0 : decode mRF_isClue.2.1 0 = .ok (.iload_n 1, 1) := by decide +kernel
theorem dRF_isClue_1 : decode mRF_isClue.2.1 1 = .ok (.ifCond .lt 29, 3) := by decide +kernel
theorem dRF_isClue_4 : decode mRF_isClue.2.1 4 = .ok (.iload_n 1, 1) := by decide +kernel
theorem dRF_isClue_5 : decode mRF_isClue.2.1 5 = .ok (.bipush 9, 2) := by decide +kernel
theorem dRF_isClue_7 : decode mRF_isClue.2.1 7 = .ok (.if_icmp .gt 23, 3) := by decide +kernel
theorem dRF_isClue_10 : decode mRF_isClue.2.1 10 = .ok (.iload 6, 2) := by decide +kernel
theorem dRF_isClue_12 : decode mRF_isClue.2.1 12 = .ok (.iconst (-1), 1) := by decide +kernel
theorem dRF_isClue_13 : decode mRF_isClue.2.1 13 = .ok (.if_icmp .lt 17, 3) := by decide +kernel
theorem dRF_isClue_16 : decode mRF_isClue.2.1 16 = .ok (.iload 6, 2) := by decide +kernel
theorem dRF_isClue_18 : decode mRF_isClue.2.1 18 = .ok (.iconst 1, 1) := by decide +kernel
theorem dRF_isClue_19 : decode mRF_isClue.2.1 19 = .ok (.if_icmp .gt 11, 3) := by decide +kernel
theorem dRF_isClue_22 : decode mRF_isClue.2.1 22 = .ok (.aload_n 0, 1) := by decide +kernel
theorem dRF_isClue_23 : decode mRF_isClue.2.1 23 = .ok (.iload_n 2, 1) := by decide +kernel
theorem dRF_isClue_24 : decode mRF_isClue.2.1 24 = .ok (.invokevirtual 97, 3) := by decide +kernel
theorem dRF_isClue_27 : decode mRF_isClue.2.1 27 = .ok (.ifCond .ne 5, 3) := by decide +kernel
theorem dRF_isClue_30 : decode mRF_isClue.2.1 30 = .ok (.iconst 0, 1) := by decide +kernel
theorem dRF_isClue_31 : decode mRF_isClue.2.1 31 = .ok (.ireturn, 1) := by decide +kernel
theorem dRF_isClue_32 : decode mRF_isClue.2.1 32 = .ok (.iload_n 1, 1) := by decide +kernel
theorem dRF_isClue_33 : decode mRF_isClue.2.1 33 = .ok (.bipush 6, 2) := by decide +kernel
theorem dRF_isClue_35 : decode mRF_isClue.2.1 35 = .ok (.if_icmp .eq 7, 3) := by decide +kernel
theorem dRF_isClue_38 : decode mRF_isClue.2.1 38 = .ok (.iconst 1, 1) := by decide +kernel
theorem dRF_isClue_39 : decode mRF_isClue.2.1 39 = .ok (.goto 4, 3) := by decide +kernel
theorem dRF_isClue_42 : decode mRF_isClue.2.1 42 = .ok (.iconst 0, 1) := by decide +kernel
theorem dRF_isClue_43 : decode mRF_isClue.2.1 43 = .ok (.istore 7, 2) := by decide +kernel
theorem dRF_isClue_45 : decode mRF_isClue.2.1 45 = .ok (.iload_n 1, 1) := by decide +kernel
theorem dRF_isClue_46 : decode mRF_isClue.2.1 46 = .ok (.iconst 5, 1) := by decide +kernel
theorem dRF_isClue_47 : decode mRF_isClue.2.1 47 = .ok (.if_icmp .eq 15, 3) := by decide +kernel
theorem dRF_isClue_50 : decode mRF_isClue.2.1 50 = .ok (.iload_n 1, 1) := by decide +kernel
theorem dRF_isClue_51 : decode mRF_isClue.2.1 51 = .ok (.bipush 7, 2) := by decide +kernel
theorem dRF_isClue_53 : decode mRF_isClue.2.1 53 = .ok (.if_icmp .eq 9, 3) := by decide +kernel
theorem dRF_isClue_56 : decode mRF_isClue.2.1 56 = .ok (.iload_n 1, 1) := by decide +kernel
theorem dRF_isClue_57 : decode mRF_isClue.2.1 57 = .ok (.bipush 8, 2) := by decide +kernel
theorem dRF_isClue_59 : decode mRF_isClue.2.1 59 = .ok (.if_icmp .ne 7, 3) := by decide +kernel
theorem dRF_isClue_62 : decode mRF_isClue.2.1 62 = .ok (.iconst 1, 1) := by decide +kernel
theorem dRF_isClue_63 : decode mRF_isClue.2.1 63 = .ok (.goto 4, 3) := by decide +kernel
theorem dRF_isClue_66 : decode mRF_isClue.2.1 66 = .ok (.iconst 0, 1) := by decide +kernel
theorem dRF_isClue_67 : decode mRF_isClue.2.1 67 = .ok (.istore 8, 2) := by decide +kernel
theorem dRF_isClue_69 : decode mRF_isClue.2.1 69 = .ok (.iload 7, 2) := by decide +kernel
theorem dRF_isClue_71 : decode mRF_isClue.2.1 71 = .ok (.ifCond .eq 19, 3) := by decide +kernel
theorem dRF_isClue_74 : decode mRF_isClue.2.1 74 = .ok (.aload_n 0, 1) := by decide +kernel
theorem dRF_isClue_75 : decode mRF_isClue.2.1 75 = .ok (.iload_n 3, 1) := by decide +kernel
theorem dRF_isClue_76 : decode mRF_isClue.2.1 76 = .ok (.invokevirtual 97, 3) := by decide +kernel
theorem dRF_isClue_79 : decode mRF_isClue.2.1 79 = .ok (.ifCond .eq 15, 3) := by decide +kernel
theorem dRF_isClue_82 : decode mRF_isClue.2.1 82 = .ok (.iload_n 3, 1) := by decide +kernel
theorem dRF_isClue_83 : decode mRF_isClue.2.1 83 = .ok (.iload_n 2, 1) := by decide +kernel
theorem dRF_isClue_84 : decode mRF_isClue.2.1 84 = .ok (.if_icmp .ne 12, 3) := by decide +kernel
theorem dRF_isClue_87 : decode mRF_isClue.2.1 87 = .ok (.goto 7, 3) := by decide +kernel
theorem dRF_isClue_90 : decode mRF_isClue.2.1 90 = .ok (.iload_n 3, 1) := by decide +kernel
theorem dRF_isClue_91 : decode mRF_isClue.2.1 91 = .ok (.ifCond .eq 5, 3) := by decide +kernel
theorem dRF_isClue_94 : decode mRF_isClue.2.1 94 = .ok (.iconst 0, 1) := by decide +kernel
theorem dRF_isClue_95 : decode mRF_isClue.2.1 95 = .ok (.ireturn, 1) := by decide +kernel
theorem dRF_isClue_96 : decode mRF_isClue.2.1 96 = .ok (.iload 8, 2) := by decide +kernel
theorem dRF_isClue_98 : decode mRF_isClue.2.1 98 = .ok (.ifCond .eq 27, 3) := by decide +kernel
theorem dRF_isClue_101 : decode mRF_isClue.2.1 101 = .ok (.aload_n 0, 1) := by decide +kernel
theorem dRF_isClue_102 : decode mRF_isClue.2.1 102 = .ok (.iload 4, 2) := by decide +kernel
theorem dRF_isClue_104 : decode mRF_isClue.2.1 104 = .ok (.invokevirtual 97, 3) := by decide +kernel
theorem dRF_isClue_107 : decode mRF_isClue.2.1 107 = .ok (.ifCond .eq 23, 3) := by decide +kernel
theorem dRF_isClue_110 : decode mRF_isClue.2.1 110 = .ok (.iload 4, 2) := by decide +kernel
theorem dRF_isClue_112 : decode mRF_isClue.2.1 112 = .ok (.iload_n 2, 1) := by decide +kernel
theorem dRF_isClue_113 : decode mRF_isClue.2.1 113 = .ok (.if_icmp .eq 17, 3) := by decide +kernel
theorem dRF_isClue_116 : decode mRF_isClue.2.1 116 = .ok (.iload 4, 2) := by decide +kernel
theorem dRF_isClue_118 : decode mRF_isClue.2.1 118 = .ok (.iload_n 3, 1) := by decide +kernel
theorem dRF_isClue_119 : decode mRF_isClue.2.1 119 = .ok (.if_icmp .ne 13, 3) := by decide +kernel
theorem dRF_isClue_122 : decode mRF_isClue.2.1 122 = .ok (.goto 8, 3) := by decide +kernel
theorem dRF_isClue_125 : decode mRF_isClue.2.1 125 = .ok (.iload 4, 2) := by decide +kernel
theorem dRF_isClue_127 : decode mRF_isClue.2.1 127 = .ok (.ifCond .eq 5, 3) := by decide +kernel
theorem dRF_isClue_130 : decode mRF_isClue.2.1 130 = .ok (.iconst 0, 1) := by decide +kernel
theorem dRF_isClue_131 : decode mRF_isClue.2.1 131 = .ok (.ireturn, 1) := by decide +kernel
theorem dRF_isClue_132 : decode mRF_isClue.2.1 132 = .ok (.iload_n 1, 1) := by decide +kernel
theorem dRF_isClue_133 : decode mRF_isClue.2.1 133 = .ok (.lookupswitch 97 #[(4, 35), (6, 56), (9, 76)], 35) := by decide +kernel
theorem dRF_isClue_168 : decode mRF_isClue.2.1 168 = .ok (.iload 5, 2) := by decide +kernel
theorem dRF_isClue_170 : decode mRF_isClue.2.1 170 = .ok (.iconst 1, 1) := by decide +kernel
theorem dRF_isClue_171 : decode mRF_isClue.2.1 171 = .ok (.if_icmp .lt 16, 3) := by decide +kernel
theorem dRF_isClue_174 : decode mRF_isClue.2.1 174 = .ok (.iload 5, 2) := by decide +kernel
theorem dRF_isClue_176 : decode mRF_isClue.2.1 176 = .ok (.aload_n 0, 1) := by decide +kernel
theorem dRF_isClue_177 : decode mRF_isClue.2.1 177 = .ok (.getfield 85, 3) := by decide +kernel
theorem dRF_isClue_180 : decode mRF_isClue.2.1 180 = .ok (.if_icmp .ge 7, 3) := by decide +kernel
theorem dRF_isClue_183 : decode mRF_isClue.2.1 183 = .ok (.iconst 1, 1) := by decide +kernel
theorem dRF_isClue_184 : decode mRF_isClue.2.1 184 = .ok (.goto 4, 3) := by decide +kernel
theorem dRF_isClue_187 : decode mRF_isClue.2.1 187 = .ok (.iconst 0, 1) := by decide +kernel
theorem dRF_isClue_188 : decode mRF_isClue.2.1 188 = .ok (.ireturn, 1) := by decide +kernel
theorem dRF_isClue_189 : decode mRF_isClue.2.1 189 = .ok (.iload 5, 2) := by decide +kernel
theorem dRF_isClue_191 : decode mRF_isClue.2.1 191 = .ok (.ifCond .lt 16, 3) := by decide +kernel
theorem dRF_isClue_194 : decode mRF_isClue.2.1 194 = .ok (.iload 5, 2) := by decide +kernel
theorem dRF_isClue_196 : decode mRF_isClue.2.1 196 = .ok (.aload_n 0, 1) := by decide +kernel
theorem dRF_isClue_197 : decode mRF_isClue.2.1 197 = .ok (.getfield 85, 3) := by decide +kernel
theorem dRF_isClue_200 : decode mRF_isClue.2.1 200 = .ok (.if_icmp .ge 7, 3) := by decide +kernel
theorem dRF_isClue_203 : decode mRF_isClue.2.1 203 = .ok (.iconst 1, 1) := by decide +kernel
theorem dRF_isClue_204 : decode mRF_isClue.2.1 204 = .ok (.goto 4, 3) := by decide +kernel
theorem dRF_isClue_207 : decode mRF_isClue.2.1 207 = .ok (.iconst 0, 1) := by decide +kernel
theorem dRF_isClue_208 : decode mRF_isClue.2.1 208 = .ok (.ireturn, 1) := by decide +kernel
theorem dRF_isClue_209 : decode mRF_isClue.2.1 209 = .ok (.iload 5, 2) := by decide +kernel
theorem dRF_isClue_211 : decode mRF_isClue.2.1 211 = .ok (.iconst 1, 1) := by decide +kernel
theorem dRF_isClue_212 : decode mRF_isClue.2.1 212 = .ok (.if_icmp .lt 16, 3) := by decide +kernel
theorem dRF_isClue_215 : decode mRF_isClue.2.1 215 = .ok (.iload 5, 2) := by decide +kernel
theorem dRF_isClue_217 : decode mRF_isClue.2.1 217 = .ok (.aload_n 0, 1) := by decide +kernel
theorem dRF_isClue_218 : decode mRF_isClue.2.1 218 = .ok (.getfield 88, 3) := by decide +kernel
theorem dRF_isClue_221 : decode mRF_isClue.2.1 221 = .ok (.if_icmp .gt 7, 3) := by decide +kernel
theorem dRF_isClue_224 : decode mRF_isClue.2.1 224 = .ok (.iconst 1, 1) := by decide +kernel
theorem dRF_isClue_225 : decode mRF_isClue.2.1 225 = .ok (.goto 4, 3) := by decide +kernel
theorem dRF_isClue_228 : decode mRF_isClue.2.1 228 = .ok (.iconst 0, 1) := by decide +kernel
theorem dRF_isClue_229 : decode mRF_isClue.2.1 229 = .ok (.ireturn, 1) := by decide +kernel
theorem dRF_isClue_230 : decode mRF_isClue.2.1 230 = .ok (.iload 5, 2) := by decide +kernel
theorem dRF_isClue_232 : decode mRF_isClue.2.1 232 = .ok (.ifCond .ne 7, 3) := by decide +kernel
theorem dRF_isClue_235 : decode mRF_isClue.2.1 235 = .ok (.iconst 1, 1) := by decide +kernel
theorem dRF_isClue_236 : decode mRF_isClue.2.1 236 = .ok (.goto 4, 3) := by decide +kernel
theorem dRF_isClue_239 : decode mRF_isClue.2.1 239 = .ok (.iconst 0, 1) := by decide +kernel
theorem dRF_isClue_240 : decode mRF_isClue.2.1 240 = .ok (.ireturn, 1) := by decide +kernel
theorem dRF_isThing_0 : decode mRF_isThing.2.1 0 = .ok (.iload_n 1, 1) := by decide +kernel
theorem dRF_isThing_1 : decode mRF_isThing.2.1 1 = .ok (.bipush 10, 2) := by decide +kernel
theorem dRF_isThing_3 : decode mRF_isThing.2.1 3 = .ok (.if_icmp .lt 29, 3) := by decide +kernel
theorem dRF_isThing_6 : decode mRF_isThing.2.1 6 = .ok (.iload_n 1, 1) := by decide +kernel
theorem dRF_isThing_7 : decode mRF_isThing.2.1 7 = .ok (.bipush 10, 2) := by decide +kernel
theorem dRF_isThing_9 : decode mRF_isThing.2.1 9 = .ok (.idiv, 1) := by decide +kernel
theorem dRF_isThing_10 : decode mRF_isThing.2.1 10 = .ok (.aload_n 0, 1) := by decide +kernel
theorem dRF_isThing_11 : decode mRF_isThing.2.1 11 = .ok (.getfield 88, 3) := by decide +kernel
theorem dRF_isThing_14 : decode mRF_isThing.2.1 14 = .ok (.if_icmp .gt 18, 3) := by decide +kernel
theorem dRF_isThing_17 : decode mRF_isThing.2.1 17 = .ok (.iload_n 1, 1) := by decide +kernel
theorem dRF_isThing_18 : decode mRF_isThing.2.1 18 = .ok (.bipush 10, 2) := by decide +kernel
theorem dRF_isThing_20 : decode mRF_isThing.2.1 20 = .ok (.irem, 1) := by decide +kernel
theorem dRF_isThing_21 : decode mRF_isThing.2.1 21 = .ok (.aload_n 0, 1) := by decide +kernel
theorem dRF_isThing_22 : decode mRF_isThing.2.1 22 = .ok (.getfield 85, 3) := by decide +kernel
theorem dRF_isThing_25 : decode mRF_isThing.2.1 25 = .ok (.if_icmp .ge 7, 3) := by decide +kernel
theorem dRF_isThing_28 : decode mRF_isThing.2.1 28 = .ok (.iconst 1, 1) := by decide +kernel
theorem dRF_isThing_29 : decode mRF_isThing.2.1 29 = .ok (.goto 4, 3) := by decide +kernel
theorem dRF_isThing_32 : decode mRF_isThing.2.1 32 = .ok (.iconst 0, 1) := by decide +kernel
theorem dRF_isThing_33 : decode mRF_isThing.2.1 33 = .ok (.ireturn, 1) := by decide +kernel
theorem dRF_isThere_0 : decode mRF_isThere.2.1 0 = .ok (.iconst 0, 1) := by decide +kernel
theorem dRF_isThere_1 : decode mRF_isThere.2.1 1 = .ok (.istore 7, 2) := by decide +kernel
theorem dRF_isThere_3 : decode mRF_isThere.2.1 3 = .ok (.iload 7, 2) := by decide +kernel
theorem dRF_isThere_5 : decode mRF_isThere.2.1 5 = .ok (.aload_n 0, 1) := by decide +kernel
theorem dRF_isThere_6 : decode mRF_isThere.2.1 6 = .ok (.getfield 101, 3) := by decide +kernel
theorem dRF_isThere_9 : decode mRF_isThere.2.1 9 = .ok (.if_icmp .ge 108, 3) := by decide +kernel
theorem dRF_isThere_12 : decode mRF_isThere.2.1 12 = .ok (.aload_n 0, 1) := by decide +kernel
theorem dRF_isThere_13 : decode mRF_isThere.2.1 13 = .ok (.getfield 47, 3) := by decide +kernel
theorem dRF_isThere_16 : decode mRF_isThere.2.1 16 = .ok (.bipush 6, 2) := by decide +kernel
theorem dRF_isThere_18 : decode mRF_isThere.2.1 18 = .ok (.iload 7, 2) := by decide +kernel
theorem dRF_isThere_20 : decode mRF_isThere.2.1 20 = .ok (.imul, 1) := by decide +kernel
theorem dRF_isThere_21 : decode mRF_isThere.2.1 21 = .ok (.iaload, 1) := by decide +kernel
theorem dRF_isThere_22 : decode mRF_isThere.2.1 22 = .ok (.iload_n 1, 1) := by decide +kernel
theorem dRF_isThere_23 : decode mRF_isThere.2.1 23 = .ok (.if_icmp .ne 88, 3) := by decide +kernel
theorem dRF_isThere_26 : decode mRF_isThere.2.1 26 = .ok (.aload_n 0, 1) := by decide +kernel
theorem dRF_isThere_27 : decode mRF_isThere.2.1 27 = .ok (.getfield 47, 3) := by decide +kernel
theorem dRF_isThere_30 : decode mRF_isThere.2.1 30 = .ok (.bipush 6, 2) := by decide +kernel
theorem dRF_isThere_32 : decode mRF_isThere.2.1 32 = .ok (.iload 7, 2) := by decide +kernel
theorem dRF_isThere_34 : decode mRF_isThere.2.1 34 = .ok (.imul, 1) := by decide +kernel
theorem dRF_isThere_35 : decode mRF_isThere.2.1 35 = .ok (.iconst 1, 1) := by decide +kernel
theorem dRF_isThere_36 : decode mRF_isThere.2.1 36 = .ok (.iadd, 1) := by decide +kernel
theorem dRF_isThere_37 : decode mRF_isThere.2.1 37 = .ok (.iaload, 1) := by decide +kernel
theorem dRF_isThere_38 : decode mRF_isThere.2.1 38 = .ok (.iload_n 2, 1) := by decide +kernel
theorem dRF_isThere_39 : decode mRF_isThere.2.1 39 = .ok (.if_icmp .ne 72, 3) := by decide +kernel
theorem dRF_isThere_42 : decode mRF_isThere.2.1 42 = .ok (.aload_n 0, 1) := by decide +kernel
theorem dRF_isThere_43 : decode mRF_isThere.2.1 43 = .ok (.getfield 47, 3) := by decide +kernel
theorem dRF_isThere_46 : decode mRF_isThere.2.1 46 = .ok (.bipush 6, 2) := by decide +kernel
theorem dRF_isThere_48 : decode mRF_isThere.2.1 48 = .ok (.iload 7, 2) := by decide +kernel
theorem dRF_isThere_50 : decode mRF_isThere.2.1 50 = .ok (.imul, 1) := by decide +kernel
theorem dRF_isThere_51 : decode mRF_isThere.2.1 51 = .ok (.iconst 2, 1) := by decide +kernel
theorem dRF_isThere_52 : decode mRF_isThere.2.1 52 = .ok (.iadd, 1) := by decide +kernel
theorem dRF_isThere_53 : decode mRF_isThere.2.1 53 = .ok (.iaload, 1) := by decide +kernel
theorem dRF_isThere_54 : decode mRF_isThere.2.1 54 = .ok (.iload_n 3, 1) := by decide +kernel
theorem dRF_isThere_55 : decode mRF_isThere.2.1 55 = .ok (.if_icmp .ne 56, 3) := by decide +kernel
theorem dRF_isThere_58 : decode mRF_isThere.2.1 58 = .ok (.aload_n 0, 1) := by decide +kernel
theorem dRF_isThere_59 : decode mRF_isThere.2.1 59 = .ok (.getfield 47, 3) := by decide +kernel
theorem dRF_isThere_62 : decode mRF_isThere.2.1 62 = .ok (.bipush 6, 2) := by decide +kernel
theorem dRF_isThere_64 : decode mRF_isThere.2.1 64 = .ok (.iload 7, 2) := by decide +kernel
theorem dRF_isThere_66 : decode mRF_isThere.2.1 66 = .ok (.imul, 1) := by decide +kernel
theorem dRF_isThere_67 : decode mRF_isThere.2.1 67 = .ok (.iconst 3, 1) := by decide +kernel
theorem dRF_isThere_68 : decode mRF_isThere.2.1 68 = .ok (.iadd, 1) := by decide +kernel
theorem dRF_isThere_69 : decode mRF_isThere.2.1 69 = .ok (.iaload, 1) := by decide +kernel
theorem dRF_isThere_70 : decode mRF_isThere.2.1 70 = .ok (.iload 4, 2) := by decide +kernel
theorem dRF_isThere_72 : decode mRF_isThere.2.1 72 = .ok (.if_icmp .ne 39, 3) := by decide +kernel
theorem dRF_isThere_75 : decode mRF_isThere.2.1 75 = .ok (.aload_n 0, 1) := by decide +kernel
theorem dRF_isThere_76 : decode mRF_isThere.2.1 76 = .ok (.getfield 47, 3) := by decide +kernel
theorem dRF_isThere_79 : decode mRF_isThere.2.1 79 = .ok (.bipush 6, 2) := by decide +kernel
theorem dRF_isThere_81 : decode mRF_isThere.2.1 81 = .ok (.iload 7, 2) := by decide +kernel
theorem dRF_isThere_83 : decode mRF_isThere.2.1 83 = .ok (.imul, 1) := by decide +kernel
theorem dRF_isThere_84 : decode mRF_isThere.2.1 84 = .ok (.iconst 4, 1) := by decide +kernel
theorem dRF_isThere_85 : decode mRF_isThere.2.1 85 = .ok (.iadd, 1) := by decide +kernel
theorem dRF_isThere_86 : decode mRF_isThere.2.1 86 = .ok (.iaload, 1) := by decide +kernel
theorem dRF_isThere_87 : decode mRF_isThere.2.1 87 = .ok (.iload 5, 2) := by decide +kernel
theorem dRF_isThere_89 : decode mRF_isThere.2.1 89 = .ok (.if_icmp .ne 22, 3) := by decide +kernel
theorem dRF_isThere_92 : decode mRF_isThere.2.1 92 = .ok (.aload_n 0, 1) := by decide +kernel
theorem dRF_isThere_93 : decode mRF_isThere.2.1 93 = .ok (.getfield 47, 3) := by decide +kernel
theorem dRF_isThere_96 : decode mRF_isThere.2.1 96 = .ok (.bipush 6, 2) := by decide +kernel
theorem dRF_isThere_98 : decode mRF_isThere.2.1 98 = .ok (.iload 7, 2) := by decide +kernel
theorem dRF_isThere_100 : decode mRF_isThere.2.1 100 = .ok (.imul, 1) := by decide +kernel
theorem dRF_isThere_101 : decode mRF_isThere.2.1 101 = .ok (.iconst 5, 1) := by decide +kernel
theorem dRF_isThere_102 : decode mRF_isThere.2.1 102 = .ok (.iadd, 1) := by decide +kernel
theorem dRF_isThere_103 : decode mRF_isThere.2.1 103 = .ok (.iaload, 1) := by decide +kernel
theorem dRF_isThere_104 : decode mRF_isThere.2.1 104 = .ok (.iload 6, 2) := by decide +kernel
theorem dRF_isThere_106 : decode mRF_isThere.2.1 106 = .ok (.if_icmp .ne 5, 3) := by decide +kernel
theorem dRF_isThere_109 : decode mRF_isThere.2.1 109 = .ok (.iconst 1, 1) := by decide +kernel
theorem dRF_isThere_110 : decode mRF_isThere.2.1 110 = .ok (.ireturn, 1) := by decide +kernel
theorem dRF_isThere_111 : decode mRF_isThere.2.1 111 = .ok (.iinc 7 1, 3) := by decide +kernel
theorem dRF_isThere_114 : decode mRF_isThere.2.1 114 = .ok (.goto (-111), 3) := by decide +kernel
theorem dRF_isThere_117 : decode mRF_isThere.2.1 117 = .ok (.iconst 0, 1) := by decide +kernel
theorem dRF_isThere_118 : decode mRF_isThere.2.1 118 = .ok (.ireturn, 1) := by decide +kernel
theorem dRF_put_0 : decode mRF_put.2.1 0 = .ok (.aload_n 0, 1) := by decide +kernel
theorem dRF_put_1 : decode mRF_put.2.1 1 = .ok (.getfield 47, 3) := by decide +kernel
theorem dRF_put_4 : decode mRF_put.2.1 4 = .ok (.bipush 6, 2) := by decide +kernel
theorem dRF_put_6 : decode mRF_put.2.1 6 = .ok (.iload_n 1, 1) := by decide +kernel
theorem dRF_put_7 : decode mRF_put.2.1 7 = .ok (.imul, 1) := by decide +kernel
theorem dRF_put_8 : decode mRF_put.2.1 8 = .ok (.iload_n 2, 1) := by decide +kernel
theorem dRF_put_9 : decode mRF_put.2.1 9 = .ok (.iastore, 1) := by decide +kernel
theorem dRF_put_10 : decode mRF_put.2.1 10 = .ok (.aload_n 0, 1) := by decide +kernel
theorem dRF_put_11 : decode mRF_put.2.1 11 = .ok (.getfield 47, 3) := by decide +kernel
theorem dRF_put_14 : decode mRF_put.2.1 14 = .ok (.bipush 6, 2) := by decide +kernel
theorem dRF_put_16 : decode mRF_put.2.1 16 = .ok (.iload_n 1, 1) := by decide +kernel
theorem dRF_put_17 : decode mRF_put.2.1 17 = .ok (.imul, 1) := by decide +kernel
theorem dRF_put_18 : decode mRF_put.2.1 18 = .ok (.iconst 1, 1) := by decide +kernel
theorem dRF_put_19 : decode mRF_put.2.1 19 = .ok (.iadd, 1) := by decide +kernel
theorem dRF_put_20 : decode mRF_put.2.1 20 = .ok (.iload_n 3, 1) := by decide +kernel
theorem dRF_put_21 : decode mRF_put.2.1 21 = .ok (.iastore, 1) := by decide +kernel
theorem dRF_put_22 : decode mRF_put.2.1 22 = .ok (.aload_n 0, 1) := by decide +kernel
theorem dRF_put_23 : decode mRF_put.2.1 23 = .ok (.getfield 47, 3) := by decide +kernel
theorem dRF_put_26 : decode mRF_put.2.1 26 = .ok (.bipush 6, 2) := by decide +kernel
theorem dRF_put_28 : decode mRF_put.2.1 28 = .ok (.iload_n 1, 1) := by decide +kernel
theorem dRF_put_29 : decode mRF_put.2.1 29 = .ok (.imul, 1) := by decide +kernel
theorem dRF_put_30 : decode mRF_put.2.1 30 = .ok (.iconst 2, 1) := by decide +kernel
theorem dRF_put_31 : decode mRF_put.2.1 31 = .ok (.iadd, 1) := by decide +kernel
theorem dRF_put_32 : decode mRF_put.2.1 32 = .ok (.iload 4, 2) := by decide +kernel
theorem dRF_put_34 : decode mRF_put.2.1 34 = .ok (.iastore, 1) := by decide +kernel
theorem dRF_put_35 : decode mRF_put.2.1 35 = .ok (.aload_n 0, 1) := by decide +kernel
theorem dRF_put_36 : decode mRF_put.2.1 36 = .ok (.getfield 47, 3) := by decide +kernel
theorem dRF_put_39 : decode mRF_put.2.1 39 = .ok (.bipush 6, 2) := by decide +kernel
theorem dRF_put_41 : decode mRF_put.2.1 41 = .ok (.iload_n 1, 1) := by decide +kernel
theorem dRF_put_42 : decode mRF_put.2.1 42 = .ok (.imul, 1) := by decide +kernel
theorem dRF_put_43 : decode mRF_put.2.1 43 = .ok (.iconst 3, 1) := by decide +kernel
theorem dRF_put_44 : decode mRF_put.2.1 44 = .ok (.iadd, 1) := by decide +kernel
theorem dRF_put_45 : decode mRF_put.2.1 45 = .ok (.iload 5, 2) := by decide +kernel
theorem dRF_put_47 : decode mRF_put.2.1 47 = .ok (.iastore, 1) := by decide +kernel
theorem dRF_put_48 : decode mRF_put.2.1 48 = .ok (.aload_n 0, 1) := by decide +kernel
theorem dRF_put_49 : decode mRF_put.2.1 49 = .ok (.getfield 47, 3) := by decide +kernel
theorem dRF_put_52 : decode mRF_put.2.1 52 = .ok (.bipush 6, 2) := by decide +kernel
theorem dRF_put_54 : decode mRF_put.2.1 54 = .ok (.iload_n 1, 1) := by decide +kernel
theorem dRF_put_55 : decode mRF_put.2.1 55 = .ok (.imul, 1) := by decide +kernel
theorem dRF_put_56 : decode mRF_put.2.1 56 = .ok (.iconst 4, 1) := by decide +kernel
theorem dRF_put_57 : decode mRF_put.2.1 57 = .ok (.iadd, 1) := by decide +kernel
theorem dRF_put_58 : decode mRF_put.2.1 58 = .ok (.iload 6, 2) := by decide +kernel
theorem dRF_put_60 : decode mRF_put.2.1 60 = .ok (.iastore, 1) := by decide +kernel
theorem dRF_put_61 : decode mRF_put.2.1 61 = .ok (.aload_n 0, 1) := by decide +kernel
theorem dRF_put_62 : decode mRF_put.2.1 62 = .ok (.getfield 47, 3) := by decide +kernel
theorem dRF_put_65 : decode mRF_put.2.1 65 = .ok (.bipush 6, 2) := by decide +kernel
theorem dRF_put_67 : decode mRF_put.2.1 67 = .ok (.iload_n 1, 1) := by decide +kernel
theorem dRF_put_68 : decode mRF_put.2.1 68 = .ok (.imul, 1) := by decide +kernel
theorem dRF_put_69 : decode mRF_put.2.1 69 = .ok (.iconst 5, 1) := by decide +kernel
theorem dRF_put_70 : decode mRF_put.2.1 70 = .ok (.iadd, 1) := by decide +kernel
theorem dRF_put_71 : decode mRF_put.2.1 71 = .ok (.iload 7, 2) := by decide +kernel
theorem dRF_put_73 : decode mRF_put.2.1 73 = .ok (.iastore, 1) := by decide +kernel
theorem dRF_put_74 : decode mRF_put.2.1 74 = .ok (.return_, 1) := by decide +kernel
theorem dRF_drop_0 : decode mRF_drop.2.1 0 = .ok (.aload_n 0, 1) := by decide +kernel
theorem dRF_drop_1 : decode mRF_drop.2.1 1 = .ok (.iload_n 1, 1) := by decide +kernel
theorem dRF_drop_2 : decode mRF_drop.2.1 2 = .ok (.ifCond .lt 11, 3) := by decide +kernel
theorem dRF_drop_5 : decode mRF_drop.2.1 5 = .ok (.iload_n 1, 1) := by decide +kernel
theorem dRF_drop_6 : decode mRF_drop.2.1 6 = .ok (.aload_n 0, 1) := by decide +kernel
theorem dRF_drop_7 : decode mRF_drop.2.1 7 = .ok (.getfield 101, 3) := by decide +kernel
theorem dRF_drop_10 : decode mRF_drop.2.1 10 = .ok (.if_icmp .lt 7, 3) := by decide +kernel
theorem dRF_drop_13 : decode mRF_drop.2.1 13 = .ok (.iconst 1, 1) := by decide +kernel
theorem dRF_drop_14 : decode mRF_drop.2.1 14 = .ok (.goto 4, 3) := by decide +kernel
theorem dRF_drop_17 : decode mRF_drop.2.1 17 = .ok (.iconst 0, 1) := by decide +kernel
theorem dRF_drop_18 : decode mRF_drop.2.1 18 = .ok (.putfield 94, 3) := by decide +kernel
theorem dRF_drop_21 : decode mRF_drop.2.1 21 = .ok (.aload_n 0, 1) := by decide +kernel
theorem dRF_drop_22 : decode mRF_drop.2.1 22 = .ok (.getfield 94, 3) := by decide +kernel
theorem dRF_drop_25 : decode mRF_drop.2.1 25 = .ok (.ifCond .ne 8, 3) := by decide +kernel
theorem dRF_drop_28 : decode mRF_drop.2.1 28 = .ok (.aload_n 0, 1) := by decide +kernel
theorem dRF_drop_29 : decode mRF_drop.2.1 29 = .ok (.iload_n 1, 1) := by decide +kernel
theorem dRF_drop_30 : decode mRF_drop.2.1 30 = .ok (.invokevirtual 115, 3) := by decide +kernel
theorem dRF_drop_33 : decode mRF_drop.2.1 33 = .ok (.return_, 1) := by decide +kernel
theorem dRF_remove_0 : decode mRF_remove.2.1 0 = .ok (.aload_n 0, 1) := by decide +kernel
theorem dRF_remove_1 : decode mRF_remove.2.1 1 = .ok (.dup, 1) := by decide +kernel
theorem dRF_remove_2 : decode mRF_remove.2.1 2 = .ok (.getfield 101, 3) := by decide +kernel
theorem dRF_remove_5 : decode mRF_remove.2.1 5 = .ok (.iconst 1, 1) := by decide +kernel
theorem dRF_remove_6 : decode mRF_remove.2.1 6 = .ok (.isub, 1) := by decide +kernel
theorem dRF_remove_7 : decode mRF_remove.2.1 7 = .ok (.putfield 101, 3) := by decide +kernel
theorem dRF_remove_10 : decode mRF_remove.2.1 10 = .ok (.bipush 6, 2) := by decide +kernel
theorem dRF_remove_12 : decode mRF_remove.2.1 12 = .ok (.iload_n 1, 1) := by decide +kernel
theorem dRF_remove_13 : decode mRF_remove.2.1 13 = .ok (.imul, 1) := by decide +kernel
theorem dRF_remove_14 : decode mRF_remove.2.1 14 = .ok (.istore_n 2, 1) := by decide +kernel
theorem dRF_remove_15 : decode mRF_remove.2.1 15 = .ok (.iload_n 2, 1) := by decide +kernel
theorem dRF_remove_16 : decode mRF_remove.2.1 16 = .ok (.bipush 6, 2) := by decide +kernel
theorem dRF_remove_18 : decode mRF_remove.2.1 18 = .ok (.aload_n 0, 1) := by decide +kernel
theorem dRF_remove_19 : decode mRF_remove.2.1 19 = .ok (.getfield 101, 3) := by decide +kernel
theorem dRF_remove_22 : decode mRF_remove.2.1 22 = .ok (.imul, 1) := by decide +kernel
theorem dRF_remove_23 : decode mRF_remove.2.1 23 = .ok (.if_icmp .ge 24, 3) := by decide +kernel
theorem dRF_remove_26 : decode mRF_remove.2.1 26 = .ok (.aload_n 0, 1) := by decide +kernel
theorem dRF_remove_27 : decode mRF_remove.2.1 27 = .ok (.getfield 47, 3) := by decide +kernel
theorem dRF_remove_30 : decode mRF_remove.2.1 30 = .ok (.iload_n 2, 1) := by decide +kernel
theorem dRF_remove_31 : decode mRF_remove.2.1 31 = .ok (.aload_n 0, 1) := by decide +kernel
theorem dRF_remove_32 : decode mRF_remove.2.1 32 = .ok (.getfield 47, 3) := by decide +kernel
theorem dRF_remove_35 : decode mRF_remove.2.1 35 = .ok (.iload_n 2, 1) := by decide +kernel
theorem dRF_remove_36 : decode mRF_remove.2.1 36 = .ok (.bipush 6, 2) := by decide +kernel
theorem dRF_remove_38 : decode mRF_remove.2.1 38 = .ok (.iadd, 1) := by decide +kernel
theorem dRF_remove_39 : decode mRF_remove.2.1 39 = .ok (.iaload, 1) := by decide +kernel
theorem dRF_remove_40 : decode mRF_remove.2.1 40 = .ok (.iastore, 1) := by decide +kernel
theorem dRF_remove_41 : decode mRF_remove.2.1 41 = .ok (.iinc 2 1, 3) := by decide +kernel
theorem dRF_remove_44 : decode mRF_remove.2.1 44 = .ok (.goto (-29), 3) := by decide +kernel
theorem dRF_remove_47 : decode mRF_remove.2.1 47 = .ok (.return_, 1) := by decide +kernel
theorem dRF_clueAt_0 : decode mRF_clueAt.2.1 0 = .ok (.aload_n 0, 1) := by decide +kernel
theorem dRF_clueAt_1 : decode mRF_clueAt.2.1 1 = .ok (.iconst 0, 1) := by decide +kernel
theorem dRF_clueAt_2 : decode mRF_clueAt.2.1 2 = .ok (.putfield 94, 3) := by decide +kernel
theorem dRF_clueAt_5 : decode mRF_clueAt.2.1 5 = .ok (.iload_n 1, 1) := by decide +kernel
theorem dRF_clueAt_6 : decode mRF_clueAt.2.1 6 = .ok (.ifCond .lt 20, 3) := by decide +kernel
theorem dRF_clueAt_9 : decode mRF_clueAt.2.1 9 = .ok (.iload_n 1, 1) := by decide +kernel
theorem dRF_clueAt_10 : decode mRF_clueAt.2.1 10 = .ok (.aload_n 0, 1) := by decide +kernel
theorem dRF_clueAt_11 : decode mRF_clueAt.2.1 11 = .ok (.getfield 101, 3) := by decide +kernel
theorem dRF_clueAt_14 : decode mRF_clueAt.2.1 14 = .ok (.if_icmp .ge 12, 3) := by decide +kernel
theorem dRF_clueAt_17 : decode mRF_clueAt.2.1 17 = .ok (.iload_n 2, 1) := by decide +kernel
theorem dRF_clueAt_18 : decode mRF_clueAt.2.1 18 = .ok (.ifCond .lt 8, 3) := by decide +kernel
theorem dRF_clueAt_21 : decode mRF_clueAt.2.1 21 = .ok (.iload_n 2, 1) := by decide +kernel
theorem dRF_clueAt_22 : decode mRF_clueAt.2.1 22 = .ok (.iconst 5, 1) := by decide +kernel
theorem dRF_clueAt_23 : decode mRF_clueAt.2.1 23 = .ok (.if_icmp .le 7, 3) := by decide +kernel
theorem dRF_clueAt_26 : decode mRF_clueAt.2.1 26 = .ok (.iconst (-1), 1) := by decide +kernel
theorem dRF_clueAt_27 : decode mRF_clueAt.2.1 27 = .ok (.goto 14, 3) := by decide +kernel
theorem dRF_clueAt_30 : decode mRF_clueAt.2.1 30 = .ok (.aload_n 0, 1) := by decide +kernel
theorem dRF_clueAt_31 : decode mRF_clueAt.2.1 31 = .ok (.getfield 47, 3) := by decide +kernel
theorem dRF_clueAt_34 : decode mRF_clueAt.2.1 34 = .ok (.bipush 6, 2) := by decide +kernel
theorem dRF_clueAt_36 : decode mRF_clueAt.2.1 36 = .ok (.iload_n 1, 1) := by decide +kernel
theorem dRF_clueAt_37 : decode mRF_clueAt.2.1 37 = .ok (.imul, 1) := by decide +kernel
theorem dRF_clueAt_38 : decode mRF_clueAt.2.1 38 = .ok (.iload_n 2, 1) := by decide +kernel
theorem dRF_clueAt_39 : decode mRF_clueAt.2.1 39 = .ok (.iadd, 1) := by decide +kernel
theorem dRF_clueAt_40 : decode mRF_clueAt.2.1 40 = .ok (.iaload, 1) := by decide +kernel
theorem dRF_clueAt_41 : decode mRF_clueAt.2.1 41 = .ok (.ireturn, 1) := by decide +kernel
theorem dRF_count_0 : decode mRF_count.2.1 0 = .ok (.aload_n 0, 1) := by decide +kernel
theorem dRF_count_1 : decode mRF_count.2.1 1 = .ok (.iload_n 1, 1) := by decide +kernel
theorem dRF_count_2 : decode mRF_count.2.1 2 = .ok (.ifCond .ge 7, 3) := by decide +kernel
theorem dRF_count_5 : decode mRF_count.2.1 5 = .ok (.iconst 1, 1) := by decide +kernel
theorem dRF_count_6 : decode mRF_count.2.1 6 = .ok (.goto 4, 3) := by decide +kernel
theorem dRF_count_9 : decode mRF_count.2.1 9 = .ok (.iconst 0, 1) := by decide +kernel
theorem dRF_count_10 : decode mRF_count.2.1 10 = .ok (.putfield 94, 3) := by decide +kernel
theorem dRF_count_13 : decode mRF_count.2.1 13 = .ok (.iconst 0, 1) := by decide +kernel
theorem dRF_count_14 : decode mRF_count.2.1 14 = .ok (.istore_n 2, 1) := by decide +kernel
theorem dRF_count_15 : decode mRF_count.2.1 15 = .ok (.iconst 0, 1) := by decide +kernel
theorem dRF_count_16 : decode mRF_count.2.1 16 = .ok (.istore_n 3, 1) := by decide +kernel
theorem dRF_count_17 : decode mRF_count.2.1 17 = .ok (.aload_n 0, 1) := by decide +kernel
theorem dRF_count_18 : decode mRF_count.2.1 18 = .ok (.getfield 94, 3) := by decide +kernel
theorem dRF_count_21 : decode mRF_count.2.1 21 = .ok (.ifCond .ne 57, 3) := by decide +kernel
theorem dRF_count_24 : decode mRF_count.2.1 24 = .ok (.iload_n 3, 1) := by decide +kernel
theorem dRF_count_25 : decode mRF_count.2.1 25 = .ok (.aload_n 0, 1) := by decide +kernel
theorem dRF_count_26 : decode mRF_count.2.1 26 = .ok (.invokevirtual 134, 3) := by decide +kernel
theorem dRF_count_29 : decode mRF_count.2.1 29 = .ok (.if_icmp .ge 49, 3) := by decide +kernel
theorem dRF_count_32 : decode mRF_count.2.1 32 = .ok (.iload_n 2, 1) := by decide +kernel
theorem dRF_count_33 : decode mRF_count.2.1 33 = .ok (.iload_n 1, 1) := by decide +kernel
theorem dRF_count_34 : decode mRF_count.2.1 34 = .ok (.if_icmp .ge 44, 3) := by decide +kernel
theorem dRF_count_37 : decode mRF_count.2.1 37 = .ok (.aload_n 0, 1) := by decide +kernel
theorem dRF_count_38 : decode mRF_count.2.1 38 = .ok (.iload_n 3, 1) := by decide +kernel
theorem dRF_count_39 : decode mRF_count.2.1 39 = .ok (.invokevirtual 138, 3) := by decide +kernel
theorem dRF_count_42 : decode mRF_count.2.1 42 = .ok (.aload_n 0, 1) := by decide +kernel
theorem dRF_count_43 : decode mRF_count.2.1 43 = .ok (.iconst (-1), 1) := by decide +kernel
theorem dRF_count_44 : decode mRF_count.2.1 44 = .ok (.invokevirtual 141, 3) := by decide +kernel
theorem dRF_count_47 : decode mRF_count.2.1 47 = .ok (.istore 4, 2) := by decide +kernel
theorem dRF_count_49 : decode mRF_count.2.1 49 = .ok (.iload 4, 2) := by decide +kernel
theorem dRF_count_51 : decode mRF_count.2.1 51 = .ok (.ifCond .le 21, 3) := by decide +kernel
theorem dRF_count_54 : decode mRF_count.2.1 54 = .ok (.iload_n 2, 1) := by decide +kernel
theorem dRF_count_55 : decode mRF_count.2.1 55 = .ok (.iload 4, 2) := by decide +kernel
theorem dRF_count_57 : decode mRF_count.2.1 57 = .ok (.iconst 3, 1) := by decide +kernel
theorem dRF_count_58 : decode mRF_count.2.1 58 = .ok (.iand, 1) := by decide +kernel
theorem dRF_count_59 : decode mRF_count.2.1 59 = .ok (.invokestatic 144, 3) := by decide +kernel
theorem dRF_count_62 : decode mRF_count.2.1 62 = .ok (.iload 4, 2) := by decide +kernel
theorem dRF_count_64 : decode mRF_count.2.1 64 = .ok (.iconst 2, 1) := by decide +kernel
theorem dRF_count_65 : decode mRF_count.2.1 65 = .ok (.ishr, 1) := by decide +kernel
theorem dRF_count_66 : decode mRF_count.2.1 66 = .ok (.invokestatic 144, 3) := by decide +kernel
theorem dRF_count_69 : decode mRF_count.2.1 69 = .ok (.imul, 1) := by decide +kernel
theorem dRF_count_70 : decode mRF_count.2.1 70 = .ok (.iadd, 1) := by decide +kernel
theorem dRF_count_71 : decode mRF_count.2.1 71 = .ok (.istore_n 2, 1) := by decide +kernel
theorem dRF_count_72 : decode mRF_count.2.1 72 = .ok (.iinc 3 1, 3) := by decide +kernel
theorem dRF_count_75 : decode mRF_count.2.1 75 = .ok (.goto (-58), 3) := by decide +kernel
theorem dRF_count_78 : decode mRF_count.2.1 78 = .ok (.iload_n 2, 1) := by decide +kernel
theorem dRF_count_79 : decode mRF_count.2.1 79 = .ok (.iload_n 1, 1) := by decide +kernel
theorem dRF_count_80 : decode mRF_count.2.1 80 = .ok (.if_icmp .le 14, 3) := by decide +kernel
theorem dRF_count_83 : decode mRF_count.2.1 83 = .ok (.aload_n 0, 1) := by decide +kernel
theorem dRF_count_84 : decode mRF_count.2.1 84 = .ok (.getfield 94, 3) := by decide +kernel
theorem dRF_count_87 : decode mRF_count.2.1 87 = .ok (.ifCond .ne 7, 3) := by decide +kernel
theorem dRF_count_90 : decode mRF_count.2.1 90 = .ok (.iload_n 1, 1) := by decide +kernel
theorem dRF_count_91 : decode mRF_count.2.1 91 = .ok (.goto 4, 3) := by decide +kernel
theorem dRF_count_94 : decode mRF_count.2.1 94 = .ok (.iload_n 2, 1) := by decide +kernel
theorem dRF_count_95 : decode mRF_count.2.1 95 = .ok (.ireturn, 1) := by decide +kernel
theorem dRF_worlds_0 : decode mRF_worlds.2.1 0 = .ok (.iconst 1, 1) := by decide +kernel
theorem dRF_worlds_1 : decode mRF_worlds.2.1 1 = .ok (.istore_n 1, 1) := by decide +kernel
theorem dRF_worlds_2 : decode mRF_worlds.2.1 2 = .ok (.iconst 0, 1) := by decide +kernel
theorem dRF_worlds_3 : decode mRF_worlds.2.1 3 = .ok (.istore_n 2, 1) := by decide +kernel
theorem dRF_worlds_4 : decode mRF_worlds.2.1 4 = .ok (.iload_n 2, 1) := by decide +kernel
theorem dRF_worlds_5 : decode mRF_worlds.2.1 5 = .ok (.aload_n 0, 1) := by decide +kernel
theorem dRF_worlds_6 : decode mRF_worlds.2.1 6 = .ok (.getfield 88, 3) := by decide +kernel
theorem dRF_worlds_9 : decode mRF_worlds.2.1 9 = .ok (.if_icmp .ge 16, 3) := by decide +kernel
theorem dRF_worlds_12 : decode mRF_worlds.2.1 12 = .ok (.iload_n 1, 1) := by decide +kernel
theorem dRF_worlds_13 : decode mRF_worlds.2.1 13 = .ok (.aload_n 0, 1) := by decide +kernel
theorem dRF_worlds_14 : decode mRF_worlds.2.1 14 = .ok (.getfield 91, 3) := by decide +kernel
theorem dRF_worlds_17 : decode mRF_worlds.2.1 17 = .ok (.imul, 1) := by decide +kernel
theorem dRF_worlds_18 : decode mRF_worlds.2.1 18 = .ok (.istore_n 1, 1) := by decide +kernel
theorem dRF_worlds_19 : decode mRF_worlds.2.1 19 = .ok (.iinc 2 1, 3) := by decide +kernel
theorem dRF_worlds_22 : decode mRF_worlds.2.1 22 = .ok (.goto (-18), 3) := by decide +kernel
theorem dRF_worlds_25 : decode mRF_worlds.2.1 25 = .ok (.iload_n 1, 1) := by decide +kernel
theorem dRF_worlds_26 : decode mRF_worlds.2.1 26 = .ok (.ireturn, 1) := by decide +kernel
theorem dRF_lay_0 : decode mRF_lay.2.1 0 = .ok (.iload_n 1, 1) := by decide +kernel
theorem dRF_lay_1 : decode mRF_lay.2.1 1 = .ok (.istore_n 2, 1) := by decide +kernel
theorem dRF_lay_2 : decode mRF_lay.2.1 2 = .ok (.iconst 0, 1) := by decide +kernel
theorem dRF_lay_3 : decode mRF_lay.2.1 3 = .ok (.istore_n 3, 1) := by decide +kernel
theorem dRF_lay_4 : decode mRF_lay.2.1 4 = .ok (.iload_n 3, 1) := by decide +kernel
theorem dRF_lay_5 : decode mRF_lay.2.1 5 = .ok (.aload_n 0, 1) := by decide +kernel
theorem dRF_lay_6 : decode mRF_lay.2.1 6 = .ok (.getfield 88, 3) := by decide +kernel
theorem dRF_lay_9 : decode mRF_lay.2.1 9 = .ok (.if_icmp .ge 61, 3) := by decide +kernel
theorem dRF_lay_12 : decode mRF_lay.2.1 12 = .ok (.iconst 0, 1) := by decide +kernel
theorem dRF_lay_13 : decode mRF_lay.2.1 13 = .ok (.istore 4, 2) := by decide +kernel
theorem dRF_lay_15 : decode mRF_lay.2.1 15 = .ok (.iload 4, 2) := by decide +kernel
theorem dRF_lay_17 : decode mRF_lay.2.1 17 = .ok (.aload_n 0, 1) := by decide +kernel
theorem dRF_lay_18 : decode mRF_lay.2.1 18 = .ok (.getfield 85, 3) := by decide +kernel
theorem dRF_lay_21 : decode mRF_lay.2.1 21 = .ok (.if_icmp .ge 36, 3) := by decide +kernel
theorem dRF_lay_24 : decode mRF_lay.2.1 24 = .ok (.aload_n 0, 1) := by decide +kernel
theorem dRF_lay_25 : decode mRF_lay.2.1 25 = .ok (.getfield 53, 3) := by decide +kernel
theorem dRF_lay_28 : decode mRF_lay.2.1 28 = .ok (.iconst 5, 1) := by decide +kernel
theorem dRF_lay_29 : decode mRF_lay.2.1 29 = .ok (.iload_n 3, 1) := by decide +kernel
theorem dRF_lay_30 : decode mRF_lay.2.1 30 = .ok (.imul, 1) := by decide +kernel
theorem dRF_lay_31 : decode mRF_lay.2.1 31 = .ok (.iload 4, 2) := by decide +kernel
theorem dRF_lay_33 : decode mRF_lay.2.1 33 = .ok (.iadd, 1) := by decide +kernel
theorem dRF_lay_34 : decode mRF_lay.2.1 34 = .ok (.aload_n 0, 1) := by decide +kernel
theorem dRF_lay_35 : decode mRF_lay.2.1 35 = .ok (.getfield 43, 3) := by decide +kernel
theorem dRF_lay_38 : decode mRF_lay.2.1 38 = .ok (.iconst 5, 1) := by decide +kernel
theorem dRF_lay_39 : decode mRF_lay.2.1 39 = .ok (.iload_n 2, 1) := by decide +kernel
theorem dRF_lay_40 : decode mRF_lay.2.1 40 = .ok (.aload_n 0, 1) := by decide +kernel
theorem dRF_lay_41 : decode mRF_lay.2.1 41 = .ok (.getfield 91, 3) := by decide +kernel
theorem dRF_lay_44 : decode mRF_lay.2.1 44 = .ok (.irem, 1) := by decide +kernel
theorem dRF_lay_45 : decode mRF_lay.2.1 45 = .ok (.imul, 1) := by decide +kernel
theorem dRF_lay_46 : decode mRF_lay.2.1 46 = .ok (.iload 4, 2) := by decide +kernel
theorem dRF_lay_48 : decode mRF_lay.2.1 48 = .ok (.iadd, 1) := by decide +kernel
theorem dRF_lay_49 : decode mRF_lay.2.1 49 = .ok (.iaload, 1) := by decide +kernel
theorem dRF_lay_50 : decode mRF_lay.2.1 50 = .ok (.iastore, 1) := by decide +kernel
theorem dRF_lay_51 : decode mRF_lay.2.1 51 = .ok (.iinc 4 1, 3) := by decide +kernel
theorem dRF_lay_54 : decode mRF_lay.2.1 54 = .ok (.goto (-39), 3) := by decide +kernel
theorem dRF_lay_57 : decode mRF_lay.2.1 57 = .ok (.iload_n 2, 1) := by decide +kernel
theorem dRF_lay_58 : decode mRF_lay.2.1 58 = .ok (.aload_n 0, 1) := by decide +kernel
theorem dRF_lay_59 : decode mRF_lay.2.1 59 = .ok (.getfield 91, 3) := by decide +kernel
theorem dRF_lay_62 : decode mRF_lay.2.1 62 = .ok (.idiv, 1) := by decide +kernel
theorem dRF_lay_63 : decode mRF_lay.2.1 63 = .ok (.istore_n 2, 1) := by decide +kernel
theorem dRF_lay_64 : decode mRF_lay.2.1 64 = .ok (.iinc 3 1, 3) := by decide +kernel
theorem dRF_lay_67 : decode mRF_lay.2.1 67 = .ok (.goto (-63), 3) := by decide +kernel
theorem dRF_lay_70 : decode mRF_lay.2.1 70 = .ok (.return_, 1) := by decide +kernel
theorem dRF_speakers_0 : decode mRF_speakers.2.1 0 = .ok (.bipush 15, 2) := by decide +kernel
theorem dRF_speakers_2 : decode mRF_speakers.2.1 2 = .ok (.istore_n 2, 1) := by decide +kernel
theorem dRF_speakers_3 : decode mRF_speakers.2.1 3 = .ok (.iconst 0, 1) := by decide +kernel
theorem dRF_speakers_4 : decode mRF_speakers.2.1 4 = .ok (.istore_n 3, 1) := by decide +kernel
theorem dRF_speakers_5 : decode mRF_speakers.2.1 5 = .ok (.iload_n 3, 1) := by decide +kernel
theorem dRF_speakers_6 : decode mRF_speakers.2.1 6 = .ok (.aload_n 0, 1) := by decide +kernel
theorem dRF_speakers_7 : decode mRF_speakers.2.1 7 = .ok (.getfield 101, 3) := by decide +kernel
theorem dRF_speakers_10 : decode mRF_speakers.2.1 10 = .ok (.if_icmp .ge 78, 3) := by decide +kernel
theorem dRF_speakers_13 : decode mRF_speakers.2.1 13 = .ok (.iload_n 3, 1) := by decide +kernel
theorem dRF_speakers_14 : decode mRF_speakers.2.1 14 = .ok (.iload_n 1, 1) := by decide +kernel
theorem dRF_speakers_15 : decode mRF_speakers.2.1 15 = .ok (.if_icmp .ne 6, 3) := by decide +kernel
theorem dRF_speakers_18 : decode mRF_speakers.2.1 18 = .ok (.goto 64, 3) := by decide +kernel
theorem dRF_speakers_21 : decode mRF_speakers.2.1 21 = .ok (.aload_n 0, 1) := by decide +kernel
theorem dRF_speakers_22 : decode mRF_speakers.2.1 22 = .ok (.iload_n 3, 1) := by decide +kernel
theorem dRF_speakers_23 : decode mRF_speakers.2.1 23 = .ok (.invokevirtual 131, 3) := by decide +kernel
theorem dRF_speakers_26 : decode mRF_speakers.2.1 26 = .ok (.istore 4, 2) := by decide +kernel
theorem dRF_speakers_28 : decode mRF_speakers.2.1 28 = .ok (.aload_n 0, 1) := by decide +kernel
theorem dRF_speakers_29 : decode mRF_speakers.2.1 29 = .ok (.getfield 47, 3) := by decide +kernel
theorem dRF_speakers_32 : decode mRF_speakers.2.1 32 = .ok (.bipush 6, 2) := by decide +kernel
theorem dRF_speakers_34 : decode mRF_speakers.2.1 34 = .ok (.iload_n 3, 1) := by decide +kernel
theorem dRF_speakers_35 : decode mRF_speakers.2.1 35 = .ok (.imul, 1) := by decide +kernel
theorem dRF_speakers_36 : decode mRF_speakers.2.1 36 = .ok (.iconst 5, 1) := by decide +kernel
theorem dRF_speakers_37 : decode mRF_speakers.2.1 37 = .ok (.iadd, 1) := by decide +kernel
theorem dRF_speakers_38 : decode mRF_speakers.2.1 38 = .ok (.iaload, 1) := by decide +kernel
theorem dRF_speakers_39 : decode mRF_speakers.2.1 39 = .ok (.istore 5, 2) := by decide +kernel
theorem dRF_speakers_41 : decode mRF_speakers.2.1 41 = .ok (.iload 5, 2) := by decide +kernel
theorem dRF_speakers_43 : decode mRF_speakers.2.1 43 = .ok (.iconst (-1), 1) := by decide +kernel
theorem dRF_speakers_44 : decode mRF_speakers.2.1 44 = .ok (.if_icmp .ne 10, 3) := by decide +kernel
theorem dRF_speakers_47 : decode mRF_speakers.2.1 47 = .ok (.iload 4, 2) := by decide +kernel
theorem dRF_speakers_49 : decode mRF_speakers.2.1 49 = .ok (.ifCond .ne 5, 3) := by decide +kernel
theorem dRF_speakers_52 : decode mRF_speakers.2.1 52 = .ok (.iconst 0, 1) := by decide +kernel
theorem dRF_speakers_53 : decode mRF_speakers.2.1 53 = .ok (.ireturn, 1) := by decide +kernel
theorem dRF_speakers_54 : decode mRF_speakers.2.1 54 = .ok (.iload 5, 2) := by decide +kernel
theorem dRF_speakers_56 : decode mRF_speakers.2.1 56 = .ok (.iconst (-1), 1) := by decide +kernel
theorem dRF_speakers_57 : decode mRF_speakers.2.1 57 = .ok (.if_icmp .eq 25, 3) := by decide +kernel
theorem dRF_speakers_60 : decode mRF_speakers.2.1 60 = .ok (.iload_n 2, 1) := by decide +kernel
theorem dRF_speakers_61 : decode mRF_speakers.2.1 61 = .ok (.iconst 1, 1) := by decide +kernel
theorem dRF_speakers_62 : decode mRF_speakers.2.1 62 = .ok (.iconst 2, 1) := by decide +kernel
theorem dRF_speakers_63 : decode mRF_speakers.2.1 63 = .ok (.iload 5, 2) := by decide +kernel
theorem dRF_speakers_65 : decode mRF_speakers.2.1 65 = .ok (.imul, 1) := by decide +kernel
theorem dRF_speakers_66 : decode mRF_speakers.2.1 66 = .ok (.iload 4, 2) := by decide +kernel
theorem dRF_speakers_68 : decode mRF_speakers.2.1 68 = .ok (.ifCond .eq 7, 3) := by decide +kernel
theorem dRF_speakers_71 : decode mRF_speakers.2.1 71 = .ok (.iconst 0, 1) := by decide +kernel
theorem dRF_speakers_72 : decode mRF_speakers.2.1 72 = .ok (.goto 4, 3) := by decide +kernel
theorem dRF_speakers_75 : decode mRF_speakers.2.1 75 = .ok (.iconst 1, 1) := by decide +kernel
theorem dRF_speakers_76 : decode mRF_speakers.2.1 76 = .ok (.iadd, 1) := by decide +kernel
theorem dRF_speakers_77 : decode mRF_speakers.2.1 77 = .ok (.ishl, 1) := by decide +kernel
theorem dRF_speakers_78 : decode mRF_speakers.2.1 78 = .ok (.iconst (-1), 1) := by decide +kernel
theorem dRF_speakers_79 : decode mRF_speakers.2.1 79 = .ok (.ixor, 1) := by decide +kernel
theorem dRF_speakers_80 : decode mRF_speakers.2.1 80 = .ok (.iand, 1) := by decide +kernel
theorem dRF_speakers_81 : decode mRF_speakers.2.1 81 = .ok (.istore_n 2, 1) := by decide +kernel
theorem dRF_speakers_82 : decode mRF_speakers.2.1 82 = .ok (.iinc 3 1, 3) := by decide +kernel
theorem dRF_speakers_85 : decode mRF_speakers.2.1 85 = .ok (.goto (-80), 3) := by decide +kernel
theorem dRF_speakers_88 : decode mRF_speakers.2.1 88 = .ok (.iload_n 2, 1) := by decide +kernel
theorem dRF_speakers_89 : decode mRF_speakers.2.1 89 = .ok (.iconst 3, 1) := by decide +kernel
theorem dRF_speakers_90 : decode mRF_speakers.2.1 90 = .ok (.iand, 1) := by decide +kernel
theorem dRF_speakers_91 : decode mRF_speakers.2.1 91 = .ok (.ifCond .eq 8, 3) := by decide +kernel
theorem dRF_speakers_94 : decode mRF_speakers.2.1 94 = .ok (.iload_n 2, 1) := by decide +kernel
theorem dRF_speakers_95 : decode mRF_speakers.2.1 95 = .ok (.iconst 4, 1) := by decide +kernel
theorem dRF_speakers_96 : decode mRF_speakers.2.1 96 = .ok (.if_icmp .ge 7, 3) := by decide +kernel
theorem dRF_speakers_99 : decode mRF_speakers.2.1 99 = .ok (.iconst 0, 1) := by decide +kernel
theorem dRF_speakers_100 : decode mRF_speakers.2.1 100 = .ok (.goto 4, 3) := by decide +kernel
theorem dRF_speakers_103 : decode mRF_speakers.2.1 103 = .ok (.iload_n 2, 1) := by decide +kernel
theorem dRF_speakers_104 : decode mRF_speakers.2.1 104 = .ok (.ireturn, 1) := by decide +kernel
theorem dRF_isSo_0 : decode mRF_isSo.2.1 0 = .ok (.aload_n 0, 1) := by decide +kernel
theorem dRF_isSo_1 : decode mRF_isSo.2.1 1 = .ok (.aload_n 0, 1) := by decide +kernel
theorem dRF_isSo_2 : decode mRF_isSo.2.1 2 = .ok (.getfield 47, 3) := by decide +kernel
theorem dRF_isSo_5 : decode mRF_isSo.2.1 5 = .ok (.bipush 6, 2) := by decide +kernel
theorem dRF_isSo_7 : decode mRF_isSo.2.1 7 = .ok (.iload_n 1, 1) := by decide +kernel
theorem dRF_isSo_8 : decode mRF_isSo.2.1 8 = .ok (.imul, 1) := by decide +kernel
theorem dRF_isSo_9 : decode mRF_isSo.2.1 9 = .ok (.iaload, 1) := by decide +kernel
theorem dRF_isSo_10 : decode mRF_isSo.2.1 10 = .ok (.aload_n 0, 1) := by decide +kernel
theorem dRF_isSo_11 : decode mRF_isSo.2.1 11 = .ok (.getfield 53, 3) := by decide +kernel
theorem dRF_isSo_14 : decode mRF_isSo.2.1 14 = .ok (.aload_n 0, 1) := by decide +kernel
theorem dRF_isSo_15 : decode mRF_isSo.2.1 15 = .ok (.getfield 47, 3) := by decide +kernel
theorem dRF_isSo_18 : decode mRF_isSo.2.1 18 = .ok (.bipush 6, 2) := by decide +kernel
theorem dRF_isSo_20 : decode mRF_isSo.2.1 20 = .ok (.iload_n 1, 1) := by decide +kernel
theorem dRF_isSo_21 : decode mRF_isSo.2.1 21 = .ok (.imul, 1) := by decide +kernel
theorem dRF_isSo_22 : decode mRF_isSo.2.1 22 = .ok (.iconst 1, 1) := by decide +kernel
theorem dRF_isSo_23 : decode mRF_isSo.2.1 23 = .ok (.iadd, 1) := by decide +kernel
theorem dRF_isSo_24 : decode mRF_isSo.2.1 24 = .ok (.iaload, 1) := by decide +kernel
theorem dRF_isSo_25 : decode mRF_isSo.2.1 25 = .ok (.invokestatic 123, 3) := by decide +kernel
theorem dRF_isSo_28 : decode mRF_isSo.2.1 28 = .ok (.iaload, 1) := by decide +kernel
theorem dRF_isSo_29 : decode mRF_isSo.2.1 29 = .ok (.aload_n 0, 1) := by decide +kernel
theorem dRF_isSo_30 : decode mRF_isSo.2.1 30 = .ok (.getfield 47, 3) := by decide +kernel
theorem dRF_isSo_33 : decode mRF_isSo.2.1 33 = .ok (.bipush 6, 2) := by decide +kernel
theorem dRF_isSo_35 : decode mRF_isSo.2.1 35 = .ok (.iload_n 1, 1) := by decide +kernel
theorem dRF_isSo_36 : decode mRF_isSo.2.1 36 = .ok (.imul, 1) := by decide +kernel
theorem dRF_isSo_37 : decode mRF_isSo.2.1 37 = .ok (.iconst 2, 1) := by decide +kernel
theorem dRF_isSo_38 : decode mRF_isSo.2.1 38 = .ok (.iadd, 1) := by decide +kernel
theorem dRF_isSo_39 : decode mRF_isSo.2.1 39 = .ok (.iaload, 1) := by decide +kernel
theorem dRF_isSo_40 : decode mRF_isSo.2.1 40 = .ok (.ifCond .ne 7, 3) := by decide +kernel
theorem dRF_isSo_43 : decode mRF_isSo.2.1 43 = .ok (.iconst 0, 1) := by decide +kernel
theorem dRF_isSo_44 : decode mRF_isSo.2.1 44 = .ok (.goto 22, 3) := by decide +kernel
theorem dRF_isSo_47 : decode mRF_isSo.2.1 47 = .ok (.aload_n 0, 1) := by decide +kernel
theorem dRF_isSo_48 : decode mRF_isSo.2.1 48 = .ok (.getfield 53, 3) := by decide +kernel
theorem dRF_isSo_51 : decode mRF_isSo.2.1 51 = .ok (.aload_n 0, 1) := by decide +kernel
theorem dRF_isSo_52 : decode mRF_isSo.2.1 52 = .ok (.getfield 47, 3) := by decide +kernel
theorem dRF_isSo_55 : decode mRF_isSo.2.1 55 = .ok (.bipush 6, 2) := by decide +kernel
theorem dRF_isSo_57 : decode mRF_isSo.2.1 57 = .ok (.iload_n 1, 1) := by decide +kernel
theorem dRF_isSo_58 : decode mRF_isSo.2.1 58 = .ok (.imul, 1) := by decide +kernel
theorem dRF_isSo_59 : decode mRF_isSo.2.1 59 = .ok (.iconst 2, 1) := by decide +kernel
theorem dRF_isSo_60 : decode mRF_isSo.2.1 60 = .ok (.iadd, 1) := by decide +kernel
theorem dRF_isSo_61 : decode mRF_isSo.2.1 61 = .ok (.iaload, 1) := by decide +kernel
theorem dRF_isSo_62 : decode mRF_isSo.2.1 62 = .ok (.invokestatic 123, 3) := by decide +kernel
theorem dRF_isSo_65 : decode mRF_isSo.2.1 65 = .ok (.iaload, 1) := by decide +kernel
theorem dRF_isSo_66 : decode mRF_isSo.2.1 66 = .ok (.aload_n 0, 1) := by decide +kernel
theorem dRF_isSo_67 : decode mRF_isSo.2.1 67 = .ok (.getfield 47, 3) := by decide +kernel
theorem dRF_isSo_70 : decode mRF_isSo.2.1 70 = .ok (.bipush 6, 2) := by decide +kernel
theorem dRF_isSo_72 : decode mRF_isSo.2.1 72 = .ok (.iload_n 1, 1) := by decide +kernel
theorem dRF_isSo_73 : decode mRF_isSo.2.1 73 = .ok (.imul, 1) := by decide +kernel
theorem dRF_isSo_74 : decode mRF_isSo.2.1 74 = .ok (.iconst 3, 1) := by decide +kernel
theorem dRF_isSo_75 : decode mRF_isSo.2.1 75 = .ok (.iadd, 1) := by decide +kernel
theorem dRF_isSo_76 : decode mRF_isSo.2.1 76 = .ok (.iaload, 1) := by decide +kernel
theorem dRF_isSo_77 : decode mRF_isSo.2.1 77 = .ok (.ifCond .ne 7, 3) := by decide +kernel
theorem dRF_isSo_80 : decode mRF_isSo.2.1 80 = .ok (.iconst 0, 1) := by decide +kernel
theorem dRF_isSo_81 : decode mRF_isSo.2.1 81 = .ok (.goto 22, 3) := by decide +kernel
theorem dRF_isSo_84 : decode mRF_isSo.2.1 84 = .ok (.aload_n 0, 1) := by decide +kernel
theorem dRF_isSo_85 : decode mRF_isSo.2.1 85 = .ok (.getfield 53, 3) := by decide +kernel
theorem dRF_isSo_88 : decode mRF_isSo.2.1 88 = .ok (.aload_n 0, 1) := by decide +kernel
theorem dRF_isSo_89 : decode mRF_isSo.2.1 89 = .ok (.getfield 47, 3) := by decide +kernel
theorem dRF_isSo_92 : decode mRF_isSo.2.1 92 = .ok (.bipush 6, 2) := by decide +kernel
theorem dRF_isSo_94 : decode mRF_isSo.2.1 94 = .ok (.iload_n 1, 1) := by decide +kernel
theorem dRF_isSo_95 : decode mRF_isSo.2.1 95 = .ok (.imul, 1) := by decide +kernel
theorem dRF_isSo_96 : decode mRF_isSo.2.1 96 = .ok (.iconst 3, 1) := by decide +kernel
theorem dRF_isSo_97 : decode mRF_isSo.2.1 97 = .ok (.iadd, 1) := by decide +kernel
theorem dRF_isSo_98 : decode mRF_isSo.2.1 98 = .ok (.iaload, 1) := by decide +kernel
theorem dRF_isSo_99 : decode mRF_isSo.2.1 99 = .ok (.invokestatic 123, 3) := by decide +kernel
theorem dRF_isSo_102 : decode mRF_isSo.2.1 102 = .ok (.iaload, 1) := by decide +kernel
theorem dRF_isSo_103 : decode mRF_isSo.2.1 103 = .ok (.aload_n 0, 1) := by decide +kernel
theorem dRF_isSo_104 : decode mRF_isSo.2.1 104 = .ok (.getfield 47, 3) := by decide +kernel
theorem dRF_isSo_107 : decode mRF_isSo.2.1 107 = .ok (.bipush 6, 2) := by decide +kernel
theorem dRF_isSo_109 : decode mRF_isSo.2.1 109 = .ok (.iload_n 1, 1) := by decide +kernel
theorem dRF_isSo_110 : decode mRF_isSo.2.1 110 = .ok (.imul, 1) := by decide +kernel
theorem dRF_isSo_111 : decode mRF_isSo.2.1 111 = .ok (.iconst 4, 1) := by decide +kernel
theorem dRF_isSo_112 : decode mRF_isSo.2.1 112 = .ok (.iadd, 1) := by decide +kernel
theorem dRF_isSo_113 : decode mRF_isSo.2.1 113 = .ok (.iaload, 1) := by decide +kernel
theorem dRF_isSo_114 : decode mRF_isSo.2.1 114 = .ok (.invokevirtual 127, 3) := by decide +kernel
theorem dRF_isSo_117 : decode mRF_isSo.2.1 117 = .ok (.ireturn, 1) := by decide +kernel
theorem dRF_index_0 : decode mRF_index.2.1 0 = .ok (.iconst 5, 1) := by decide +kernel
theorem dRF_index_1 : decode mRF_index.2.1 1 = .ok (.iload_n 0, 1) := by decide +kernel
theorem dRF_index_2 : decode mRF_index.2.1 2 = .ok (.bipush 10, 2) := by decide +kernel
theorem dRF_index_4 : decode mRF_index.2.1 4 = .ok (.idiv, 1) := by decide +kernel
theorem dRF_index_5 : decode mRF_index.2.1 5 = .ok (.iconst 1, 1) := by decide +kernel
theorem dRF_index_6 : decode mRF_index.2.1 6 = .ok (.isub, 1) := by decide +kernel
theorem dRF_index_7 : decode mRF_index.2.1 7 = .ok (.imul, 1) := by decide +kernel
theorem dRF_index_8 : decode mRF_index.2.1 8 = .ok (.iload_n 0, 1) := by decide +kernel
theorem dRF_index_9 : decode mRF_index.2.1 9 = .ok (.bipush 10, 2) := by decide +kernel
theorem dRF_index_11 : decode mRF_index.2.1 11 = .ok (.irem, 1) := by decide +kernel
theorem dRF_index_12 : decode mRF_index.2.1 12 = .ok (.iadd, 1) := by decide +kernel
theorem dRF_index_13 : decode mRF_index.2.1 13 = .ok (.ireturn, 1) := by decide +kernel
theorem dRF_says_0 : decode mRF_says.2.1 0 = .ok (.iload_n 1, 1) := by decide +kernel
theorem dRF_says_1 : decode mRF_says.2.1 1 = .ok (.tableswitch 213 0 8 #[51, 62, 73, 84, 104, 126, 154, 166, 183], 51) := by decide +kernel
theorem dRF_says_52 : decode mRF_says.2.1 52 = .ok (.iload_n 2, 1) := by decide +kernel
theorem dRF_says_53 : decode mRF_says.2.1 53 = .ok (.iload_n 3, 1) := by decide +kernel
theorem dRF_says_54 : decode mRF_says.2.1 54 = .ok (.if_icmp .ne 7, 3) := by decide +kernel
theorem dRF_says_57 : decode mRF_says.2.1 57 = .ok (.iconst 1, 1) := by decide +kernel
theorem dRF_says_58 : decode mRF_says.2.1 58 = .ok (.goto 4, 3) := by decide +kernel
theorem dRF_says_61 : decode mRF_says.2.1 61 = .ok (.iconst 0, 1) := by decide +kernel
theorem dRF_says_62 : decode mRF_says.2.1 62 = .ok (.ireturn, 1) := by decide +kernel
theorem dRF_says_63 : decode mRF_says.2.1 63 = .ok (.iload_n 2, 1) := by decide +kernel
theorem dRF_says_64 : decode mRF_says.2.1 64 = .ok (.iload_n 3, 1) := by decide +kernel
theorem dRF_says_65 : decode mRF_says.2.1 65 = .ok (.if_icmp .eq 7, 3) := by decide +kernel
theorem dRF_says_68 : decode mRF_says.2.1 68 = .ok (.iconst 1, 1) := by decide +kernel
theorem dRF_says_69 : decode mRF_says.2.1 69 = .ok (.goto 4, 3) := by decide +kernel
theorem dRF_says_72 : decode mRF_says.2.1 72 = .ok (.iconst 0, 1) := by decide +kernel
theorem dRF_says_73 : decode mRF_says.2.1 73 = .ok (.ireturn, 1) := by decide +kernel
theorem dRF_says_74 : decode mRF_says.2.1 74 = .ok (.iload_n 2, 1) := by decide +kernel
theorem dRF_says_75 : decode mRF_says.2.1 75 = .ok (.iload_n 3, 1) := by decide +kernel
theorem dRF_says_76 : decode mRF_says.2.1 76 = .ok (.if_icmp .ge 7, 3) := by decide +kernel
theorem dRF_says_79 : decode mRF_says.2.1 79 = .ok (.iconst 1, 1) := by decide +kernel
theorem dRF_says_80 : decode mRF_says.2.1 80 = .ok (.goto 4, 3) := by decide +kernel
theorem dRF_says_83 : decode mRF_says.2.1 83 = .ok (.iconst 0, 1) := by decide +kernel
theorem dRF_says_84 : decode mRF_says.2.1 84 = .ok (.ireturn, 1) := by decide +kernel
theorem dRF_says_85 : decode mRF_says.2.1 85 = .ok (.iload_n 2, 1) := by decide +kernel
theorem dRF_says_86 : decode mRF_says.2.1 86 = .ok (.iload_n 3, 1) := by decide +kernel
theorem dRF_says_87 : decode mRF_says.2.1 87 = .ok (.isub, 1) := by decide +kernel
theorem dRF_says_88 : decode mRF_says.2.1 88 = .ok (.iconst 1, 1) := by decide +kernel
theorem dRF_says_89 : decode mRF_says.2.1 89 = .ok (.if_icmp .eq 10, 3) := by decide +kernel
theorem dRF_says_92 : decode mRF_says.2.1 92 = .ok (.iload_n 3, 1) := by decide +kernel
theorem dRF_says_93 : decode mRF_says.2.1 93 = .ok (.iload_n 2, 1) := by decide +kernel
theorem dRF_says_94 : decode mRF_says.2.1 94 = .ok (.isub, 1) := by decide +kernel
theorem dRF_says_95 : decode mRF_says.2.1 95 = .ok (.iconst 1, 1) := by decide +kernel
theorem dRF_says_96 : decode mRF_says.2.1 96 = .ok (.if_icmp .ne 7, 3) := by decide +kernel
theorem dRF_says_99 : decode mRF_says.2.1 99 = .ok (.iconst 1, 1) := by decide +kernel
theorem dRF_says_100 : decode mRF_says.2.1 100 = .ok (.goto 4, 3) := by decide +kernel
theorem dRF_says_103 : decode mRF_says.2.1 103 = .ok (.iconst 0, 1) := by decide +kernel
theorem dRF_says_104 : decode mRF_says.2.1 104 = .ok (.ireturn, 1) := by decide +kernel
theorem dRF_says_105 : decode mRF_says.2.1 105 = .ok (.iload_n 2, 1) := by decide +kernel
theorem dRF_says_106 : decode mRF_says.2.1 106 = .ok (.iload_n 3, 1) := by decide +kernel
theorem dRF_says_107 : decode mRF_says.2.1 107 = .ok (.isub, 1) := by decide +kernel
theorem dRF_says_108 : decode mRF_says.2.1 108 = .ok (.iload 5, 2) := by decide +kernel
theorem dRF_says_110 : decode mRF_says.2.1 110 = .ok (.if_icmp .eq 11, 3) := by decide +kernel
theorem dRF_says_113 : decode mRF_says.2.1 113 = .ok (.iload_n 3, 1) := by decide +kernel
theorem dRF_says_114 : decode mRF_says.2.1 114 = .ok (.iload_n 2, 1) := by decide +kernel
theorem dRF_says_115 : decode mRF_says.2.1 115 = .ok (.isub, 1) := by decide +kernel
theorem dRF_says_116 : decode mRF_says.2.1 116 = .ok (.iload 5, 2) := by decide +kernel
theorem dRF_says_118 : decode mRF_says.2.1 118 = .ok (.if_icmp .ne 7, 3) := by decide +kernel
theorem dRF_says_121 : decode mRF_says.2.1 121 = .ok (.iconst 1, 1) := by decide +kernel
theorem dRF_says_122 : decode mRF_says.2.1 122 = .ok (.goto 4, 3) := by decide +kernel
theorem dRF_says_125 : decode mRF_says.2.1 125 = .ok (.iconst 0, 1) := by decide +kernel
theorem dRF_says_126 : decode mRF_says.2.1 126 = .ok (.ireturn, 1) := by decide +kernel
theorem dRF_says_127 : decode mRF_says.2.1 127 = .ok (.iload_n 3, 1) := by decide +kernel
theorem dRF_says_128 : decode mRF_says.2.1 128 = .ok (.iload_n 2, 1) := by decide +kernel
theorem dRF_says_129 : decode mRF_says.2.1 129 = .ok (.if_icmp .ge 9, 3) := by decide +kernel
theorem dRF_says_132 : decode mRF_says.2.1 132 = .ok (.iload_n 2, 1) := by decide +kernel
theorem dRF_says_133 : decode mRF_says.2.1 133 = .ok (.iload 4, 2) := by decide +kernel
theorem dRF_says_135 : decode mRF_says.2.1 135 = .ok (.if_icmp .lt 14, 3) := by decide +kernel
theorem dRF_says_138 : decode mRF_says.2.1 138 = .ok (.iload 4, 2) := by decide +kernel
theorem dRF_says_140 : decode mRF_says.2.1 140 = .ok (.iload_n 2, 1) := by decide +kernel
theorem dRF_says_141 : decode mRF_says.2.1 141 = .ok (.if_icmp .ge 12, 3) := by decide +kernel
theorem dRF_says_144 : decode mRF_says.2.1 144 = .ok (.iload_n 2, 1) := by decide +kernel
theorem dRF_says_145 : decode mRF_says.2.1 145 = .ok (.iload_n 3, 1) := by decide +kernel
theorem dRF_says_146 : decode mRF_says.2.1 146 = .ok (.if_icmp .ge 7, 3) := by decide +kernel
theorem dRF_says_149 : decode mRF_says.2.1 149 = .ok (.iconst 1, 1) := by decide +kernel
theorem dRF_says_150 : decode mRF_says.2.1 150 = .ok (.goto 4, 3) := by decide +kernel
theorem dRF_says_153 : decode mRF_says.2.1 153 = .ok (.iconst 0, 1) := by decide +kernel
theorem dRF_says_154 : decode mRF_says.2.1 154 = .ok (.ireturn, 1) := by decide +kernel
theorem dRF_says_155 : decode mRF_says.2.1 155 = .ok (.iload_n 2, 1) := by decide +kernel
theorem dRF_says_156 : decode mRF_says.2.1 156 = .ok (.iload 5, 2) := by decide +kernel
theorem dRF_says_158 : decode mRF_says.2.1 158 = .ok (.if_icmp .ne 7, 3) := by decide +kernel
theorem dRF_says_161 : decode mRF_says.2.1 161 = .ok (.iconst 1, 1) := by decide +kernel
theorem dRF_says_162 : decode mRF_says.2.1 162 = .ok (.goto 4, 3) := by decide +kernel
theorem dRF_says_165 : decode mRF_says.2.1 165 = .ok (.iconst 0, 1) := by decide +kernel
theorem dRF_says_166 : decode mRF_says.2.1 166 = .ok (.ireturn, 1) := by decide +kernel
theorem dRF_says_167 : decode mRF_says.2.1 167 = .ok (.iload_n 2, 1) := by decide +kernel
theorem dRF_says_168 : decode mRF_says.2.1 168 = .ok (.iload_n 3, 1) := by decide +kernel
theorem dRF_says_169 : decode mRF_says.2.1 169 = .ok (.if_icmp .eq 9, 3) := by decide +kernel
theorem dRF_says_172 : decode mRF_says.2.1 172 = .ok (.iload_n 2, 1) := by decide +kernel
theorem dRF_says_173 : decode mRF_says.2.1 173 = .ok (.iload 4, 2) := by decide +kernel
theorem dRF_says_175 : decode mRF_says.2.1 175 = .ok (.if_icmp .ne 7, 3) := by decide +kernel
theorem dRF_says_178 : decode mRF_says.2.1 178 = .ok (.iconst 1, 1) := by decide +kernel
theorem dRF_says_179 : decode mRF_says.2.1 179 = .ok (.goto 4, 3) := by decide +kernel
theorem dRF_says_182 : decode mRF_says.2.1 182 = .ok (.iconst 0, 1) := by decide +kernel
theorem dRF_says_183 : decode mRF_says.2.1 183 = .ok (.ireturn, 1) := by decide +kernel
theorem dRF_says_184 : decode mRF_says.2.1 184 = .ok (.iload_n 2, 1) := by decide +kernel
theorem dRF_says_185 : decode mRF_says.2.1 185 = .ok (.iload_n 3, 1) := by decide +kernel
theorem dRF_says_186 : decode mRF_says.2.1 186 = .ok (.if_icmp .ne 7, 3) := by decide +kernel
theorem dRF_says_189 : decode mRF_says.2.1 189 = .ok (.iconst 1, 1) := by decide +kernel
theorem dRF_says_190 : decode mRF_says.2.1 190 = .ok (.goto 4, 3) := by decide +kernel
theorem dRF_says_193 : decode mRF_says.2.1 193 = .ok (.iconst 0, 1) := by decide +kernel
theorem dRF_says_194 : decode mRF_says.2.1 194 = .ok (.iload_n 2, 1) := by decide +kernel
theorem dRF_says_195 : decode mRF_says.2.1 195 = .ok (.iload 4, 2) := by decide +kernel
theorem dRF_says_197 : decode mRF_says.2.1 197 = .ok (.if_icmp .ne 7, 3) := by decide +kernel
theorem dRF_says_200 : decode mRF_says.2.1 200 = .ok (.iconst 1, 1) := by decide +kernel
theorem dRF_says_201 : decode mRF_says.2.1 201 = .ok (.goto 4, 3) := by decide +kernel
theorem dRF_says_204 : decode mRF_says.2.1 204 = .ok (.iconst 0, 1) := by decide +kernel
theorem dRF_says_205 : decode mRF_says.2.1 205 = .ok (.if_icmp .eq 7, 3) := by decide +kernel
theorem dRF_says_208 : decode mRF_says.2.1 208 = .ok (.iconst 1, 1) := by decide +kernel
theorem dRF_says_209 : decode mRF_says.2.1 209 = .ok (.goto 4, 3) := by decide +kernel
theorem dRF_says_212 : decode mRF_says.2.1 212 = .ok (.iconst 0, 1) := by decide +kernel
theorem dRF_says_213 : decode mRF_says.2.1 213 = .ok (.ireturn, 1) := by decide +kernel
theorem dRF_says_214 : decode mRF_says.2.1 214 = .ok (.aload_n 0, 1) := by decide +kernel
theorem dRF_says_215 : decode mRF_says.2.1 215 = .ok (.iload 5, 2) := by decide +kernel
theorem dRF_says_217 : decode mRF_says.2.1 217 = .ok (.iload_n 2, 1) := by decide +kernel
theorem dRF_says_218 : decode mRF_says.2.1 218 = .ok (.invokevirtual 119, 3) := by decide +kernel
theorem dRF_says_221 : decode mRF_says.2.1 221 = .ok (.aload_n 0, 1) := by decide +kernel
theorem dRF_says_222 : decode mRF_says.2.1 222 = .ok (.iload 5, 2) := by decide +kernel
theorem dRF_says_224 : decode mRF_says.2.1 224 = .ok (.iload_n 3, 1) := by decide +kernel
theorem dRF_says_225 : decode mRF_says.2.1 225 = .ok (.invokevirtual 119, 3) := by decide +kernel
theorem dRF_says_228 : decode mRF_says.2.1 228 = .ok (.if_icmp .ge 7, 3) := by decide +kernel
theorem dRF_says_231 : decode mRF_says.2.1 231 = .ok (.iconst 1, 1) := by decide +kernel
theorem dRF_says_232 : decode mRF_says.2.1 232 = .ok (.goto 4, 3) := by decide +kernel
theorem dRF_says_235 : decode mRF_says.2.1 235 = .ok (.iconst 0, 1) := by decide +kernel
theorem dRF_says_236 : decode mRF_says.2.1 236 = .ok (.ireturn, 1) := by decide +kernel
theorem dRF_standing_0 : decode mRF_standing.2.1 0 = .ok (.iconst 0, 1) := by decide +kernel
theorem dRF_standing_1 : decode mRF_standing.2.1 1 = .ok (.istore_n 3, 1) := by decide +kernel
theorem dRF_standing_2 : decode mRF_standing.2.1 2 = .ok (.aload_n 0, 1) := by decide +kernel
theorem dRF_standing_3 : decode mRF_standing.2.1 3 = .ok (.getfield 53, 3) := by decide +kernel
theorem dRF_standing_6 : decode mRF_standing.2.1 6 = .ok (.iconst 5, 1) := by decide +kernel
theorem dRF_standing_7 : decode mRF_standing.2.1 7 = .ok (.iload_n 1, 1) := by decide +kernel
theorem dRF_standing_8 : decode mRF_standing.2.1 8 = .ok (.iconst 1, 1) := by decide +kernel
theorem dRF_standing_9 : decode mRF_standing.2.1 9 = .ok (.isub, 1) := by decide +kernel
theorem dRF_standing_10 : decode mRF_standing.2.1 10 = .ok (.imul, 1) := by decide +kernel
theorem dRF_standing_11 : decode mRF_standing.2.1 11 = .ok (.iload_n 3, 1) := by decide +kernel
theorem dRF_standing_12 : decode mRF_standing.2.1 12 = .ok (.iadd, 1) := by decide +kernel
theorem dRF_standing_13 : decode mRF_standing.2.1 13 = .ok (.iaload, 1) := by decide +kernel
theorem dRF_standing_14 : decode mRF_standing.2.1 14 = .ok (.iload_n 2, 1) := by decide +kernel
theorem dRF_standing_15 : decode mRF_standing.2.1 15 = .ok (.if_icmp .eq 9, 3) := by decide +kernel
theorem dRF_standing_18 : decode mRF_standing.2.1 18 = .ok (.iinc 3 1, 3) := by decide +kernel
theorem dRF_standing_21 : decode mRF_standing.2.1 21 = .ok (.goto (-19), 3) := by decide +kernel
theorem dRF_standing_24 : decode mRF_standing.2.1 24 = .ok (.iload_n 3, 1) := by decide +kernel
theorem dRF_standing_25 : decode mRF_standing.2.1 25 = .ok (.ireturn, 1) := by decide +kernel
theorem dRF_many_0 : decode mRF_many.2.1 0 = .ok (.iload_n 0, 1) := by decide +kernel
theorem dRF_many_1 : decode mRF_many.2.1 1 = .ok (.iconst 3, 1) := by decide +kernel
theorem dRF_many_2 : decode mRF_many.2.1 2 = .ok (.if_icmp .ne 7, 3) := by decide +kernel
theorem dRF_many_5 : decode mRF_many.2.1 5 = .ok (.iconst 2, 1) := by decide +kernel
theorem dRF_many_6 : decode mRF_many.2.1 6 = .ok (.goto 4, 3) := by decide +kernel
theorem dRF_many_9 : decode mRF_many.2.1 9 = .ok (.iconst 1, 1) := by decide +kernel
theorem dRF_many_10 : decode mRF_many.2.1 10 = .ok (.ireturn, 1) := by decide +kernel
theorem dRF_answer_0 : decode mRF_answer.2.1 0 = .ok (.aload_n 0, 1) := by decide +kernel
theorem dRF_answer_1 : decode mRF_answer.2.1 1 = .ok (.iconst 0, 1) := by decide +kernel
theorem dRF_answer_2 : decode mRF_answer.2.1 2 = .ok (.putfield 94, 3) := by decide +kernel
theorem dRF_answer_5 : decode mRF_answer.2.1 5 = .ok (.iload_n 1, 1) := by decide +kernel
theorem dRF_answer_6 : decode mRF_answer.2.1 6 = .ok (.ifCond .eq 18, 3) := by decide +kernel
theorem dRF_answer_9 : decode mRF_answer.2.1 9 = .ok (.iload_n 1, 1) := by decide +kernel
theorem dRF_answer_10 : decode mRF_answer.2.1 10 = .ok (.iconst 1, 1) := by decide +kernel
theorem dRF_answer_11 : decode mRF_answer.2.1 11 = .ok (.if_icmp .eq 13, 3) := by decide +kernel
theorem dRF_answer_14 : decode mRF_answer.2.1 14 = .ok (.aload_n 0, 1) := by decide +kernel
theorem dRF_answer_15 : decode mRF_answer.2.1 15 = .ok (.iload_n 1, 1) := by decide +kernel
theorem dRF_answer_16 : decode mRF_answer.2.1 16 = .ok (.invokevirtual 97, 3) := by decide +kernel
theorem dRF_answer_19 : decode mRF_answer.2.1 19 = .ok (.ifCond .ne 5, 3) := by decide +kernel
theorem dRF_answer_22 : decode mRF_answer.2.1 22 = .ok (.iconst (-1), 1) := by decide +kernel
theorem dRF_answer_23 : decode mRF_answer.2.1 23 = .ok (.ireturn, 1) := by decide +kernel
theorem dRF_answer_24 : decode mRF_answer.2.1 24 = .ok (.iconst (-1), 1) := by decide +kernel
theorem dRF_answer_25 : decode mRF_answer.2.1 25 = .ok (.istore_n 2, 1) := by decide +kernel
theorem dRF_answer_26 : decode mRF_answer.2.1 26 = .ok (.iconst 0, 1) := by decide +kernel
theorem dRF_answer_27 : decode mRF_answer.2.1 27 = .ok (.istore_n 3, 1) := by decide +kernel
theorem dRF_answer_28 : decode mRF_answer.2.1 28 = .ok (.iload_n 3, 1) := by decide +kernel
theorem dRF_answer_29 : decode mRF_answer.2.1 29 = .ok (.aload_n 0, 1) := by decide +kernel
theorem dRF_answer_30 : decode mRF_answer.2.1 30 = .ok (.invokevirtual 134, 3) := by decide +kernel
theorem dRF_answer_33 : decode mRF_answer.2.1 33 = .ok (.if_icmp .ge 102, 3) := by decide +kernel
theorem dRF_answer_36 : decode mRF_answer.2.1 36 = .ok (.aload_n 0, 1) := by decide +kernel
theorem dRF_answer_37 : decode mRF_answer.2.1 37 = .ok (.iload_n 3, 1) := by decide +kernel
theorem dRF_answer_38 : decode mRF_answer.2.1 38 = .ok (.invokevirtual 138, 3) := by decide +kernel
theorem dRF_answer_41 : decode mRF_answer.2.1 41 = .ok (.aload_n 0, 1) := by decide +kernel
theorem dRF_answer_42 : decode mRF_answer.2.1 42 = .ok (.iconst (-1), 1) := by decide +kernel
theorem dRF_answer_43 : decode mRF_answer.2.1 43 = .ok (.invokevirtual 141, 3) := by decide +kernel
theorem dRF_answer_46 : decode mRF_answer.2.1 46 = .ok (.istore 4, 2) := by decide +kernel
theorem dRF_answer_48 : decode mRF_answer.2.1 48 = .ok (.iload 4, 2) := by decide +kernel
theorem dRF_answer_50 : decode mRF_answer.2.1 50 = .ok (.ifCond .ne 6, 3) := by decide +kernel
theorem dRF_answer_53 : decode mRF_answer.2.1 53 = .ok (.goto 76, 3) := by decide +kernel
theorem dRF_answer_56 : decode mRF_answer.2.1 56 = .ok (.iload_n 1, 1) := by decide +kernel
theorem dRF_answer_57 : decode mRF_answer.2.1 57 = .ok (.iconst 1, 1) := by decide +kernel
theorem dRF_answer_58 : decode mRF_answer.2.1 58 = .ok (.if_icmp .le 7, 3) := by decide +kernel
theorem dRF_answer_61 : decode mRF_answer.2.1 61 = .ok (.iconst 0, 1) := by decide +kernel
theorem dRF_answer_62 : decode mRF_answer.2.1 62 = .ok (.goto 11, 3) := by decide +kernel
theorem dRF_answer_65 : decode mRF_answer.2.1 65 = .ok (.iload 4, 2) := by decide +kernel
theorem dRF_answer_67 : decode mRF_answer.2.1 67 = .ok (.iconst 2, 1) := by decide +kernel
theorem dRF_answer_68 : decode mRF_answer.2.1 68 = .ok (.iload_n 1, 1) := by decide +kernel
theorem dRF_answer_69 : decode mRF_answer.2.1 69 = .ok (.imul, 1) := by decide +kernel
theorem dRF_answer_70 : decode mRF_answer.2.1 70 = .ok (.ishr, 1) := by decide +kernel
theorem dRF_answer_71 : decode mRF_answer.2.1 71 = .ok (.iconst 3, 1) := by decide +kernel
theorem dRF_answer_72 : decode mRF_answer.2.1 72 = .ok (.iand, 1) := by decide +kernel
theorem dRF_answer_73 : decode mRF_answer.2.1 73 = .ok (.istore 5, 2) := by decide +kernel
theorem dRF_answer_75 : decode mRF_answer.2.1 75 = .ok (.iload 5, 2) := by decide +kernel
theorem dRF_answer_77 : decode mRF_answer.2.1 77 = .ok (.iconst 3, 1) := by decide +kernel
theorem dRF_answer_78 : decode mRF_answer.2.1 78 = .ok (.if_icmp .ne 5, 3) := by decide +kernel
theorem dRF_answer_81 : decode mRF_answer.2.1 81 = .ok (.iconst (-1), 1) := by decide +kernel
theorem dRF_answer_82 : decode mRF_answer.2.1 82 = .ok (.ireturn, 1) := by decide +kernel
theorem dRF_answer_83 : decode mRF_answer.2.1 83 = .ok (.iload_n 1, 1) := by decide +kernel
theorem dRF_answer_84 : decode mRF_answer.2.1 84 = .ok (.iconst 1, 1) := by decide +kernel
theorem dRF_answer_85 : decode mRF_answer.2.1 85 = .ok (.if_icmp .le 15, 3) := by decide +kernel
theorem dRF_answer_88 : decode mRF_answer.2.1 88 = .ok (.aload_n 0, 1) := by decide +kernel
theorem dRF_answer_89 : decode mRF_answer.2.1 89 = .ok (.getfield 53, 3) := by decide +kernel
theorem dRF_answer_92 : decode mRF_answer.2.1 92 = .ok (.iload_n 1, 1) := by decide +kernel
theorem dRF_answer_93 : decode mRF_answer.2.1 93 = .ok (.invokestatic 123, 3) := by decide +kernel
theorem dRF_answer_96 : decode mRF_answer.2.1 96 = .ok (.iaload, 1) := by decide +kernel
theorem dRF_answer_97 : decode mRF_answer.2.1 97 = .ok (.goto 14, 3) := by decide +kernel
theorem dRF_answer_100 : decode mRF_answer.2.1 100 = .ok (.iload 5, 2) := by decide +kernel
theorem dRF_answer_102 : decode mRF_answer.2.1 102 = .ok (.iconst 2, 1) := by decide +kernel
theorem dRF_answer_103 : decode mRF_answer.2.1 103 = .ok (.if_icmp .ne 7, 3) := by decide +kernel
theorem dRF_answer_106 : decode mRF_answer.2.1 106 = .ok (.iconst 1, 1) := by decide +kernel
theorem dRF_answer_107 : decode mRF_answer.2.1 107 = .ok (.goto 4, 3) := by decide +kernel
theorem dRF_answer_110 : decode mRF_answer.2.1 110 = .ok (.iconst 0, 1) := by decide +kernel
theorem dRF_answer_111 : decode mRF_answer.2.1 111 = .ok (.istore 6, 2) := by decide +kernel
theorem dRF_answer_113 : decode mRF_answer.2.1 113 = .ok (.iload_n 2, 1) := by decide +kernel
theorem dRF_answer_114 : decode mRF_answer.2.1 114 = .ok (.iconst (-1), 1) := by decide +kernel
theorem dRF_answer_115 : decode mRF_answer.2.1 115 = .ok (.if_icmp .eq 11, 3) := by decide +kernel
theorem dRF_answer_118 : decode mRF_answer.2.1 118 = .ok (.iload_n 2, 1) := by decide +kernel
theorem dRF_answer_119 : decode mRF_answer.2.1 119 = .ok (.iload 6, 2) := by decide +kernel
theorem dRF_answer_121 : decode mRF_answer.2.1 121 = .ok (.if_icmp .eq 5, 3) := by decide +kernel
theorem dRF_answer_124 : decode mRF_answer.2.1 124 = .ok (.iconst (-1), 1) := by decide +kernel
theorem dRF_answer_125 : decode mRF_answer.2.1 125 = .ok (.ireturn, 1) := by decide +kernel
theorem dRF_answer_126 : decode mRF_answer.2.1 126 = .ok (.iload 6, 2) := by decide +kernel
theorem dRF_answer_128 : decode mRF_answer.2.1 128 = .ok (.istore_n 2, 1) := by decide +kernel
theorem dRF_answer_129 : decode mRF_answer.2.1 129 = .ok (.iinc 3 1, 3) := by decide +kernel
theorem dRF_answer_132 : decode mRF_answer.2.1 132 = .ok (.goto (-104), 3) := by decide +kernel
theorem dRF_answer_135 : decode mRF_answer.2.1 135 = .ok (.iload_n 2, 1) := by decide +kernel
theorem dRF_answer_136 : decode mRF_answer.2.1 136 = .ok (.ireturn, 1) := by decide +kernel
theorem dRF_needed_0 : decode mRF_needed.2.1 0 = .ok (.aload_n 0, 1) := by decide +kernel
theorem dRF_needed_1 : decode mRF_needed.2.1 1 = .ok (.iload_n 1, 1) := by decide +kernel
theorem dRF_needed_2 : decode mRF_needed.2.1 2 = .ok (.ifCond .lt 11, 3) := by decide +kernel
theorem dRF_needed_5 : decode mRF_needed.2.1 5 = .ok (.iload_n 1, 1) := by decide +kernel
theorem dRF_needed_6 : decode mRF_needed.2.1 6 = .ok (.aload_n 0, 1) := by decide +kernel
theorem dRF_needed_7 : decode mRF_needed.2.1 7 = .ok (.getfield 101, 3) := by decide +kernel
theorem dRF_needed_10 : decode mRF_needed.2.1 10 = .ok (.if_icmp .lt 7, 3) := by decide +kernel
theorem dRF_needed_13 : decode mRF_needed.2.1 13 = .ok (.iconst 1, 1) := by decide +kernel
theorem dRF_needed_14 : decode mRF_needed.2.1 14 = .ok (.goto 4, 3) := by decide +kernel
theorem dRF_needed_17 : decode mRF_needed.2.1 17 = .ok (.iconst 0, 1) := by decide +kernel
theorem dRF_needed_18 : decode mRF_needed.2.1 18 = .ok (.putfield 94, 3) := by decide +kernel
theorem dRF_needed_21 : decode mRF_needed.2.1 21 = .ok (.aload_n 0, 1) := by decide +kernel
theorem dRF_needed_22 : decode mRF_needed.2.1 22 = .ok (.getfield 94, 3) := by decide +kernel
theorem dRF_needed_25 : decode mRF_needed.2.1 25 = .ok (.ifCond .ne 15, 3) := by decide +kernel
theorem dRF_needed_28 : decode mRF_needed.2.1 28 = .ok (.aload_n 0, 1) := by decide +kernel
theorem dRF_needed_29 : decode mRF_needed.2.1 29 = .ok (.iload_n 1, 1) := by decide +kernel
theorem dRF_needed_30 : decode mRF_needed.2.1 30 = .ok (.invokevirtual 147, 3) := by decide +kernel
theorem dRF_needed_33 : decode mRF_needed.2.1 33 = .ok (.ifCond .eq 7, 3) := by decide +kernel
theorem dRF_needed_36 : decode mRF_needed.2.1 36 = .ok (.iconst 1, 1) := by decide +kernel
theorem dRF_needed_37 : decode mRF_needed.2.1 37 = .ok (.goto 4, 3) := by decide +kernel
theorem dRF_needed_40 : decode mRF_needed.2.1 40 = .ok (.iconst 0, 1) := by decide +kernel
theorem dRF_needed_41 : decode mRF_needed.2.1 41 = .ok (.ireturn, 1) := by decide +kernel
theorem dRF_differ_0 : decode mRF_differ.2.1 0 = .ok (.iconst 0, 1) := by decide +kernel
theorem dRF_differ_1 : decode mRF_differ.2.1 1 = .ok (.istore_n 2, 1) := by decide +kernel
theorem dRF_differ_2 : decode mRF_differ.2.1 2 = .ok (.iconst 0, 1) := by decide +kernel
theorem dRF_differ_3 : decode mRF_differ.2.1 3 = .ok (.istore_n 3, 1) := by decide +kernel
theorem dRF_differ_4 : decode mRF_differ.2.1 4 = .ok (.iload_n 3, 1) := by decide +kernel
theorem dRF_differ_5 : decode mRF_differ.2.1 5 = .ok (.aload_n 0, 1) := by decide +kernel
theorem dRF_differ_6 : decode mRF_differ.2.1 6 = .ok (.invokevirtual 134, 3) := by decide +kernel
theorem dRF_differ_9 : decode mRF_differ.2.1 9 = .ok (.if_icmp .ge 33, 3) := by decide +kernel
theorem dRF_differ_12 : decode mRF_differ.2.1 12 = .ok (.aload_n 0, 1) := by decide +kernel
theorem dRF_differ_13 : decode mRF_differ.2.1 13 = .ok (.iload_n 3, 1) := by decide +kernel
theorem dRF_differ_14 : decode mRF_differ.2.1 14 = .ok (.invokevirtual 138, 3) := by decide +kernel
theorem dRF_differ_17 : decode mRF_differ.2.1 17 = .ok (.aload_n 0, 1) := by decide +kernel
theorem dRF_differ_18 : decode mRF_differ.2.1 18 = .ok (.iload_n 1, 1) := by decide +kernel
theorem dRF_differ_19 : decode mRF_differ.2.1 19 = .ok (.invokevirtual 141, 3) := by decide +kernel
theorem dRF_differ_22 : decode mRF_differ.2.1 22 = .ok (.ifCond .ne 6, 3) := by decide +kernel
theorem dRF_differ_25 : decode mRF_differ.2.1 25 = .ok (.goto 11, 3) := by decide +kernel
theorem dRF_differ_28 : decode mRF_differ.2.1 28 = .ok (.iload_n 2, 1) := by decide +kernel
theorem dRF_differ_29 : decode mRF_differ.2.1 29 = .ok (.ifCond .eq 5, 3) := by decide +kernel
theorem dRF_differ_32 : decode mRF_differ.2.1 32 = .ok (.iconst 1, 1) := by decide +kernel
theorem dRF_differ_33 : decode mRF_differ.2.1 33 = .ok (.ireturn, 1) := by decide +kernel
theorem dRF_differ_34 : decode mRF_differ.2.1 34 = .ok (.iconst 1, 1) := by decide +kernel
theorem dRF_differ_35 : decode mRF_differ.2.1 35 = .ok (.istore_n 2, 1) := by decide +kernel
theorem dRF_differ_36 : decode mRF_differ.2.1 36 = .ok (.iinc 3 1, 3) := by decide +kernel
theorem dRF_differ_39 : decode mRF_differ.2.1 39 = .ok (.goto (-35), 3) := by decide +kernel
theorem dRF_differ_42 : decode mRF_differ.2.1 42 = .ok (.iconst 0, 1) := by decide +kernel
theorem dRF_differ_43 : decode mRF_differ.2.1 43 = .ok (.ireturn, 1) := by decide +kernel
theorem dRF_prove_0 : decode mRF_prove.2.1 0 = .ok (.aload_n 0, 1) := by decide +kernel
theorem dRF_prove_1 : decode mRF_prove.2.1 1 = .ok (.iconst 0, 1) := by decide +kernel
theorem dRF_prove_2 : decode mRF_prove.2.1 2 = .ok (.putfield 94, 3) := by decide +kernel
theorem dRF_prove_5 : decode mRF_prove.2.1 5 = .ok (.aload_n 0, 1) := by decide +kernel
theorem dRF_prove_6 : decode mRF_prove.2.1 6 = .ok (.invokevirtual 196, 3) := by decide +kernel
theorem dRF_prove_9 : decode mRF_prove.2.1 9 = .ok (.aload_n 0, 1) := by decide +kernel
theorem dRF_prove_10 : decode mRF_prove.2.1 10 = .ok (.aload_n 0, 1) := by decide +kernel
theorem dRF_prove_11 : decode mRF_prove.2.1 11 = .ok (.getfield 180, 3) := by decide +kernel
theorem dRF_prove_14 : decode mRF_prove.2.1 14 = .ok (.putfield 199, 3) := by decide +kernel
theorem dRF_prove_17 : decode mRF_prove.2.1 17 = .ok (.iconst 0, 1) := by decide +kernel
theorem dRF_prove_18 : decode mRF_prove.2.1 18 = .ok (.istore_n 1, 1) := by decide +kernel
theorem dRF_prove_19 : decode mRF_prove.2.1 19 = .ok (.iload_n 1, 1) := by decide +kernel
theorem dRF_prove_20 : decode mRF_prove.2.1 20 = .ok (.iconst 4, 1) := by decide +kernel
theorem dRF_prove_21 : decode mRF_prove.2.1 21 = .ok (.aload_n 0, 1) := by decide +kernel
theorem dRF_prove_22 : decode mRF_prove.2.1 22 = .ok (.getfield 180, 3) := by decide +kernel
theorem dRF_prove_25 : decode mRF_prove.2.1 25 = .ok (.imul, 1) := by decide +kernel
theorem dRF_prove_26 : decode mRF_prove.2.1 26 = .ok (.if_icmp .ge 21, 3) := by decide +kernel
theorem dRF_prove_29 : decode mRF_prove.2.1 29 = .ok (.aload_n 0, 1) := by decide +kernel
theorem dRF_prove_30 : decode mRF_prove.2.1 30 = .ok (.getfield 59, 3) := by decide +kernel
theorem dRF_prove_33 : decode mRF_prove.2.1 33 = .ok (.iload_n 1, 1) := by decide +kernel
theorem dRF_prove_34 : decode mRF_prove.2.1 34 = .ok (.aload_n 0, 1) := by decide +kernel
theorem dRF_prove_35 : decode mRF_prove.2.1 35 = .ok (.getfield 56, 3) := by decide +kernel
theorem dRF_prove_38 : decode mRF_prove.2.1 38 = .ok (.iload_n 1, 1) := by decide +kernel
theorem dRF_prove_39 : decode mRF_prove.2.1 39 = .ok (.iaload, 1) := by decide +kernel
theorem dRF_prove_40 : decode mRF_prove.2.1 40 = .ok (.iastore, 1) := by decide +kernel
theorem dRF_prove_41 : decode mRF_prove.2.1 41 = .ok (.iinc 1 1, 3) := by decide +kernel
theorem dRF_prove_44 : decode mRF_prove.2.1 44 = .ok (.goto (-25), 3) := by decide +kernel
theorem dRF_prove_47 : decode mRF_prove.2.1 47 = .ok (.iconst 0, 1) := by decide +kernel
theorem dRF_prove_48 : decode mRF_prove.2.1 48 = .ok (.istore_n 1, 1) := by decide +kernel
theorem dRF_prove_49 : decode mRF_prove.2.1 49 = .ok (.iload_n 1, 1) := by decide +kernel
theorem dRF_prove_50 : decode mRF_prove.2.1 50 = .ok (.bipush 15, 2) := by decide +kernel
theorem dRF_prove_52 : decode mRF_prove.2.1 52 = .ok (.if_icmp .ge 21, 3) := by decide +kernel
theorem dRF_prove_55 : decode mRF_prove.2.1 55 = .ok (.aload_n 0, 1) := by decide +kernel
theorem dRF_prove_56 : decode mRF_prove.2.1 56 = .ok (.getfield 65, 3) := by decide +kernel
theorem dRF_prove_59 : decode mRF_prove.2.1 59 = .ok (.iload_n 1, 1) := by decide +kernel
theorem dRF_prove_60 : decode mRF_prove.2.1 60 = .ok (.aload_n 0, 1) := by decide +kernel
theorem dRF_prove_61 : decode mRF_prove.2.1 61 = .ok (.getfield 62, 3) := by decide +kernel
theorem dRF_prove_64 : decode mRF_prove.2.1 64 = .ok (.iload_n 1, 1) := by decide +kernel
theorem dRF_prove_65 : decode mRF_prove.2.1 65 = .ok (.iaload, 1) := by decide +kernel
theorem dRF_prove_66 : decode mRF_prove.2.1 66 = .ok (.iastore, 1) := by decide +kernel
theorem dRF_prove_67 : decode mRF_prove.2.1 67 = .ok (.iinc 1 1, 3) := by decide +kernel
theorem dRF_prove_70 : decode mRF_prove.2.1 70 = .ok (.goto (-21), 3) := by decide +kernel
theorem dRF_prove_73 : decode mRF_prove.2.1 73 = .ok (.aload_n 0, 1) := by decide +kernel
theorem dRF_prove_74 : decode mRF_prove.2.1 74 = .ok (.getfield 180, 3) := by decide +kernel
theorem dRF_prove_77 : decode mRF_prove.2.1 77 = .ok (.ireturn, 1) := by decide +kernel
theorem dRF_work_0 : decode mRF_work.2.1 0 = .ok (.aload_n 0, 1) := by decide +kernel
theorem dRF_work_1 : decode mRF_work.2.1 1 = .ok (.iconst 0, 1) := by decide +kernel
theorem dRF_work_2 : decode mRF_work.2.1 2 = .ok (.putfield 180, 3) := by decide +kernel
theorem dRF_work_5 : decode mRF_work.2.1 5 = .ok (.iconst 0, 1) := by decide +kernel
theorem dRF_work_6 : decode mRF_work.2.1 6 = .ok (.istore_n 1, 1) := by decide +kernel
theorem dRF_work_7 : decode mRF_work.2.1 7 = .ok (.iload_n 1, 1) := by decide +kernel
theorem dRF_work_8 : decode mRF_work.2.1 8 = .ok (.bipush 15, 2) := by decide +kernel
theorem dRF_work_10 : decode mRF_work.2.1 10 = .ok (.if_icmp .ge 23, 3) := by decide +kernel
theorem dRF_work_13 : decode mRF_work.2.1 13 = .ok (.aload_n 0, 1) := by decide +kernel
theorem dRF_work_14 : decode mRF_work.2.1 14 = .ok (.getfield 62, 3) := by decide +kernel
theorem dRF_work_17 : decode mRF_work.2.1 17 = .ok (.iload_n 1, 1) := by decide +kernel
theorem dRF_work_18 : decode mRF_work.2.1 18 = .ok (.iconst 1, 1) := by decide +kernel
theorem dRF_work_19 : decode mRF_work.2.1 19 = .ok (.aload_n 0, 1) := by decide +kernel
theorem dRF_work_20 : decode mRF_work.2.1 20 = .ok (.getfield 85, 3) := by decide +kernel
theorem dRF_work_23 : decode mRF_work.2.1 23 = .ok (.ishl, 1) := by decide +kernel
theorem dRF_work_24 : decode mRF_work.2.1 24 = .ok (.iconst 1, 1) := by decide +kernel
theorem dRF_work_25 : decode mRF_work.2.1 25 = .ok (.isub, 1) := by decide +kernel
theorem dRF_work_26 : decode mRF_work.2.1 26 = .ok (.iastore, 1) := by decide +kernel
theorem dRF_work_27 : decode mRF_work.2.1 27 = .ok (.iinc 1 1, 3) := by decide +kernel
theorem dRF_work_30 : decode mRF_work.2.1 30 = .ok (.goto (-23), 3) := by decide +kernel
theorem dRF_work_33 : decode mRF_work.2.1 33 = .ok (.iconst 1, 1) := by decide +kernel
theorem dRF_work_34 : decode mRF_work.2.1 34 = .ok (.istore_n 1, 1) := by decide +kernel
theorem dRF_work_35 : decode mRF_work.2.1 35 = .ok (.iload_n 1, 1) := by decide +kernel
theorem dRF_work_36 : decode mRF_work.2.1 36 = .ok (.ifCond .eq 18, 3) := by decide +kernel
theorem dRF_work_39 : decode mRF_work.2.1 39 = .ok (.aload_n 0, 1) := by decide +kernel
theorem dRF_work_40 : decode mRF_work.2.1 40 = .ok (.invokevirtual 189, 3) := by decide +kernel
theorem dRF_work_43 : decode mRF_work.2.1 43 = .ok (.ifCond .ne 11, 3) := by decide +kernel
theorem dRF_work_46 : decode mRF_work.2.1 46 = .ok (.aload_n 0, 1) := by decide +kernel
theorem dRF_work_47 : decode mRF_work.2.1 47 = .ok (.invokevirtual 193, 3) := by decide +kernel
theorem dRF_work_50 : decode mRF_work.2.1 50 = .ok (.istore_n 1, 1) := by decide +kernel
theorem dRF_work_51 : decode mRF_work.2.1 51 = .ok (.goto (-16), 3) := by decide +kernel
theorem dRF_work_54 : decode mRF_work.2.1 54 = .ok (.return_, 1) := by decide +kernel
theorem dRF_isStuck_0 : decode mRF_isStuck.2.1 0 = .ok (.iconst 0, 1) := by decide +kernel
theorem dRF_isStuck_1 : decode mRF_isStuck.2.1 1 = .ok (.istore_n 1, 1) := by decide +kernel
theorem dRF_isStuck_2 : decode mRF_isStuck.2.1 2 = .ok (.iload_n 1, 1) := by decide +kernel
theorem dRF_isStuck_3 : decode mRF_isStuck.2.1 3 = .ok (.iconst 5, 1) := by decide +kernel
theorem dRF_isStuck_4 : decode mRF_isStuck.2.1 4 = .ok (.aload_n 0, 1) := by decide +kernel
theorem dRF_isStuck_5 : decode mRF_isStuck.2.1 5 = .ok (.getfield 88, 3) := by decide +kernel
theorem dRF_isStuck_8 : decode mRF_isStuck.2.1 8 = .ok (.imul, 1) := by decide +kernel
theorem dRF_isStuck_9 : decode mRF_isStuck.2.1 9 = .ok (.if_icmp .ge 30, 3) := by decide +kernel
theorem dRF_isStuck_12 : decode mRF_isStuck.2.1 12 = .ok (.iload_n 1, 1) := by decide +kernel
theorem dRF_isStuck_13 : decode mRF_isStuck.2.1 13 = .ok (.iconst 5, 1) := by decide +kernel
theorem dRF_isStuck_14 : decode mRF_isStuck.2.1 14 = .ok (.irem, 1) := by decide +kernel
theorem dRF_isStuck_15 : decode mRF_isStuck.2.1 15 = .ok (.aload_n 0, 1) := by decide +kernel
theorem dRF_isStuck_16 : decode mRF_isStuck.2.1 16 = .ok (.getfield 85, 3) := by decide +kernel
theorem dRF_isStuck_19 : decode mRF_isStuck.2.1 19 = .ok (.if_icmp .ge 14, 3) := by decide +kernel
theorem dRF_isStuck_22 : decode mRF_isStuck.2.1 22 = .ok (.aload_n 0, 1) := by decide +kernel
theorem dRF_isStuck_23 : decode mRF_isStuck.2.1 23 = .ok (.getfield 62, 3) := by decide +kernel
theorem dRF_isStuck_26 : decode mRF_isStuck.2.1 26 = .ok (.iload_n 1, 1) := by decide +kernel
theorem dRF_isStuck_27 : decode mRF_isStuck.2.1 27 = .ok (.iaload, 1) := by decide +kernel
theorem dRF_isStuck_28 : decode mRF_isStuck.2.1 28 = .ok (.ifCond .ne 5, 3) := by decide +kernel
theorem dRF_isStuck_31 : decode mRF_isStuck.2.1 31 = .ok (.iconst 1, 1) := by decide +kernel
theorem dRF_isStuck_32 : decode mRF_isStuck.2.1 32 = .ok (.ireturn, 1) := by decide +kernel
theorem dRF_isStuck_33 : decode mRF_isStuck.2.1 33 = .ok (.iinc 1 1, 3) := by decide +kernel
theorem dRF_isStuck_36 : decode mRF_isStuck.2.1 36 = .ok (.goto (-34), 3) := by decide +kernel
theorem dRF_isStuck_39 : decode mRF_isStuck.2.1 39 = .ok (.iconst 0, 1) := by decide +kernel
theorem dRF_isStuck_40 : decode mRF_isStuck.2.1 40 = .ok (.ireturn, 1) := by decide +kernel
theorem dRF_stepped_0 : decode mRF_stepped.2.1 0 = .ok (.iconst 1, 1) := by decide +kernel
theorem dRF_stepped_1 : decode mRF_stepped.2.1 1 = .ok (.istore_n 1, 1) := by decide +kernel
theorem dRF_stepped_2 : decode mRF_stepped.2.1 2 = .ok (.iload_n 1, 1) := by decide +kernel
theorem dRF_stepped_3 : decode mRF_stepped.2.1 3 = .ok (.bipush 6, 2) := by decide +kernel
theorem dRF_stepped_5 : decode mRF_stepped.2.1 5 = .ok (.if_icmp .ge 73, 3) := by decide +kernel
theorem dRF_stepped_8 : decode mRF_stepped.2.1 8 = .ok (.iload_n 1, 1) := by decide +kernel
theorem dRF_stepped_9 : decode mRF_stepped.2.1 9 = .ok (.iconst 3, 1) := by decide +kernel
theorem dRF_stepped_10 : decode mRF_stepped.2.1 10 = .ok (.if_icmp .eq 8, 3) := by decide +kernel
theorem dRF_stepped_13 : decode mRF_stepped.2.1 13 = .ok (.iload_n 1, 1) := by decide +kernel
theorem dRF_stepped_14 : decode mRF_stepped.2.1 14 = .ok (.iconst 5, 1) := by decide +kernel
theorem dRF_stepped_15 : decode mRF_stepped.2.1 15 = .ok (.if_icmp .ne 7, 3) := by decide +kernel
theorem dRF_stepped_18 : decode mRF_stepped.2.1 18 = .ok (.iconst 1, 1) := by decide +kernel
theorem dRF_stepped_19 : decode mRF_stepped.2.1 19 = .ok (.goto 4, 3) := by decide +kernel
theorem dRF_stepped_22 : decode mRF_stepped.2.1 22 = .ok (.iconst 0, 1) := by decide +kernel
theorem dRF_stepped_23 : decode mRF_stepped.2.1 23 = .ok (.istore_n 2, 1) := by decide +kernel
theorem dRF_stepped_24 : decode mRF_stepped.2.1 24 = .ok (.iconst 0, 1) := by decide +kernel
theorem dRF_stepped_25 : decode mRF_stepped.2.1 25 = .ok (.istore_n 3, 1) := by decide +kernel
theorem dRF_stepped_26 : decode mRF_stepped.2.1 26 = .ok (.iload_n 3, 1) := by decide +kernel
theorem dRF_stepped_27 : decode mRF_stepped.2.1 27 = .ok (.iload_n 2, 1) := by decide +kernel
theorem dRF_stepped_28 : decode mRF_stepped.2.1 28 = .ok (.ifCond .eq 10, 3) := by decide +kernel
theorem dRF_stepped_31 : decode mRF_stepped.2.1 31 = .ok (.aload_n 0, 1) := by decide +kernel
theorem dRF_stepped_32 : decode mRF_stepped.2.1 32 = .ok (.getfield 101, 3) := by decide +kernel
theorem dRF_stepped_35 : decode mRF_stepped.2.1 35 = .ok (.goto 4, 3) := by decide +kernel
theorem dRF_stepped_38 : decode mRF_stepped.2.1 38 = .ok (.iconst 1, 1) := by decide +kernel
theorem dRF_stepped_39 : decode mRF_stepped.2.1 39 = .ok (.if_icmp .ge 33, 3) := by decide +kernel
theorem dRF_stepped_42 : decode mRF_stepped.2.1 42 = .ok (.iload_n 2, 1) := by decide +kernel
theorem dRF_stepped_43 : decode mRF_stepped.2.1 43 = .ok (.ifCond .eq 12, 3) := by decide +kernel
theorem dRF_stepped_46 : decode mRF_stepped.2.1 46 = .ok (.aload_n 0, 1) := by decide +kernel
theorem dRF_stepped_47 : decode mRF_stepped.2.1 47 = .ok (.iload_n 1, 1) := by decide +kernel
theorem dRF_stepped_48 : decode mRF_stepped.2.1 48 = .ok (.iload_n 3, 1) := by decide +kernel
theorem dRF_stepped_49 : decode mRF_stepped.2.1 49 = .ok (.invokevirtual 183, 3) := by decide +kernel
theorem dRF_stepped_52 : decode mRF_stepped.2.1 52 = .ok (.ifCond .eq 14, 3) := by decide +kernel
theorem dRF_stepped_55 : decode mRF_stepped.2.1 55 = .ok (.aload_n 0, 1) := by decide +kernel
theorem dRF_stepped_56 : decode mRF_stepped.2.1 56 = .ok (.iload_n 1, 1) := by decide +kernel
theorem dRF_stepped_57 : decode mRF_stepped.2.1 57 = .ok (.iload_n 3, 1) := by decide +kernel
theorem dRF_stepped_58 : decode mRF_stepped.2.1 58 = .ok (.invokevirtual 186, 3) := by decide +kernel
theorem dRF_stepped_61 : decode mRF_stepped.2.1 61 = .ok (.ifCond .eq 5, 3) := by decide +kernel
theorem dRF_stepped_64 : decode mRF_stepped.2.1 64 = .ok (.iconst 1, 1) := by decide +kernel
theorem dRF_stepped_65 : decode mRF_stepped.2.1 65 = .ok (.ireturn, 1) := by decide +kernel
theorem dRF_stepped_66 : decode mRF_stepped.2.1 66 = .ok (.iinc 3 1, 3) := by decide +kernel
theorem dRF_stepped_69 : decode mRF_stepped.2.1 69 = .ok (.goto (-43), 3) := by decide +kernel
theorem dRF_stepped_72 : decode mRF_stepped.2.1 72 = .ok (.iinc 1 1, 3) := by decide +kernel
theorem dRF_stepped_75 : decode mRF_stepped.2.1 75 = .ok (.goto (-73), 3) := by decide +kernel
theorem dRF_stepped_78 : decode mRF_stepped.2.1 78 = .ok (.iconst 0, 1) := by decide +kernel
theorem dRF_stepped_79 : decode mRF_stepped.2.1 79 = .ok (.ireturn, 1) := by decide +kernel
theorem dRF_isOf_0 : decode mRF_isOf.2.1 0 = .ok (.aload_n 0, 1) := by decide +kernel
theorem dRF_isOf_1 : decode mRF_isOf.2.1 1 = .ok (.getfield 47, 3) := by decide +kernel
theorem dRF_isOf_4 : decode mRF_isOf.2.1 4 = .ok (.bipush 6, 2) := by decide +kernel
theorem dRF_isOf_6 : decode mRF_isOf.2.1 6 = .ok (.iload_n 2, 1) := by decide +kernel
theorem dRF_isOf_7 : decode mRF_isOf.2.1 7 = .ok (.imul, 1) := by decide +kernel
theorem dRF_isOf_8 : decode mRF_isOf.2.1 8 = .ok (.iaload, 1) := by decide +kernel
theorem dRF_isOf_9 : decode mRF_isOf.2.1 9 = .ok (.istore_n 3, 1) := by decide +kernel
theorem dRF_isOf_10 : decode mRF_isOf.2.1 10 = .ok (.aload_n 0, 1) := by decide +kernel
theorem dRF_isOf_11 : decode mRF_isOf.2.1 11 = .ok (.getfield 47, 3) := by decide +kernel
theorem dRF_isOf_14 : decode mRF_isOf.2.1 14 = .ok (.bipush 6, 2) := by decide +kernel
theorem dRF_isOf_16 : decode mRF_isOf.2.1 16 = .ok (.iload_n 2, 1) := by decide +kernel
theorem dRF_isOf_17 : decode mRF_isOf.2.1 17 = .ok (.imul, 1) := by decide +kernel
theorem dRF_isOf_18 : decode mRF_isOf.2.1 18 = .ok (.iconst 5, 1) := by decide +kernel
theorem dRF_isOf_19 : decode mRF_isOf.2.1 19 = .ok (.iadd, 1) := by decide +kernel
theorem dRF_isOf_20 : decode mRF_isOf.2.1 20 = .ok (.iaload, 1) := by decide +kernel
theorem dRF_isOf_21 : decode mRF_isOf.2.1 21 = .ok (.iconst (-1), 1) := by decide +kernel
theorem dRF_isOf_22 : decode mRF_isOf.2.1 22 = .ok (.if_icmp .ne 43, 3) := by decide +kernel
theorem dRF_isOf_25 : decode mRF_isOf.2.1 25 = .ok (.iload_n 1, 1) := by decide +kernel
theorem dRF_isOf_26 : decode mRF_isOf.2.1 26 = .ok (.iconst 3, 1) := by decide +kernel
theorem dRF_isOf_27 : decode mRF_isOf.2.1 27 = .ok (.if_icmp .ne 17, 3) := by decide +kernel
theorem dRF_isOf_30 : decode mRF_isOf.2.1 30 = .ok (.iload_n 3, 1) := by decide +kernel
theorem dRF_isOf_31 : decode mRF_isOf.2.1 31 = .ok (.iconst 5, 1) := by decide +kernel
theorem dRF_isOf_32 : decode mRF_isOf.2.1 32 = .ok (.if_icmp .lt 29, 3) := by decide +kernel
theorem dRF_isOf_35 : decode mRF_isOf.2.1 35 = .ok (.iload_n 3, 1) := by decide +kernel
theorem dRF_isOf_36 : decode mRF_isOf.2.1 36 = .ok (.bipush 6, 2) := by decide +kernel
theorem dRF_isOf_38 : decode mRF_isOf.2.1 38 = .ok (.if_icmp .ne 27, 3) := by decide +kernel
theorem dRF_isOf_41 : decode mRF_isOf.2.1 41 = .ok (.goto 20, 3) := by decide +kernel
theorem dRF_isOf_44 : decode mRF_isOf.2.1 44 = .ok (.iload_n 3, 1) := by decide +kernel
theorem dRF_isOf_45 : decode mRF_isOf.2.1 45 = .ok (.iconst 5, 1) := by decide +kernel
theorem dRF_isOf_46 : decode mRF_isOf.2.1 46 = .ok (.if_icmp .eq 15, 3) := by decide +kernel
theorem dRF_isOf_49 : decode mRF_isOf.2.1 49 = .ok (.iload_n 3, 1) := by decide +kernel
theorem dRF_isOf_50 : decode mRF_isOf.2.1 50 = .ok (.bipush 7, 2) := by decide +kernel
theorem dRF_isOf_52 : decode mRF_isOf.2.1 52 = .ok (.if_icmp .eq 9, 3) := by decide +kernel
theorem dRF_isOf_55 : decode mRF_isOf.2.1 55 = .ok (.iload_n 3, 1) := by decide +kernel
theorem dRF_isOf_56 : decode mRF_isOf.2.1 56 = .ok (.bipush 8, 2) := by decide +kernel
theorem dRF_isOf_58 : decode mRF_isOf.2.1 58 = .ok (.if_icmp .ne 7, 3) := by decide +kernel
theorem dRF_isOf_61 : decode mRF_isOf.2.1 61 = .ok (.iconst 1, 1) := by decide +kernel
theorem dRF_isOf_62 : decode mRF_isOf.2.1 62 = .ok (.goto 4, 3) := by decide +kernel
theorem dRF_isOf_65 : decode mRF_isOf.2.1 65 = .ok (.iconst 0, 1) := by decide +kernel
theorem dRF_isOf_66 : decode mRF_isOf.2.1 66 = .ok (.ireturn, 1) := by decide +kernel
theorem dRF_stepBy_0 : decode mRF_stepBy.2.1 0 = .ok (.iconst 0, 1) := by decide +kernel
theorem dRF_stepBy_1 : decode mRF_stepBy.2.1 1 = .ok (.istore_n 3, 1) := by decide +kernel
theorem dRF_stepBy_2 : decode mRF_stepBy.2.1 2 = .ok (.iload_n 3, 1) := by decide +kernel
theorem dRF_stepBy_3 : decode mRF_stepBy.2.1 3 = .ok (.iconst 5, 1) := by decide +kernel
theorem dRF_stepBy_4 : decode mRF_stepBy.2.1 4 = .ok (.aload_n 0, 1) := by decide +kernel
theorem dRF_stepBy_5 : decode mRF_stepBy.2.1 5 = .ok (.getfield 88, 3) := by decide +kernel
theorem dRF_stepBy_8 : decode mRF_stepBy.2.1 8 = .ok (.imul, 1) := by decide +kernel
theorem dRF_stepBy_9 : decode mRF_stepBy.2.1 9 = .ok (.if_icmp .ge 173, 3) := by decide +kernel
theorem dRF_stepBy_12 : decode mRF_stepBy.2.1 12 = .ok (.iconst 0, 1) := by decide +kernel
theorem dRF_stepBy_13 : decode mRF_stepBy.2.1 13 = .ok (.istore 4, 2) := by decide +kernel
theorem dRF_stepBy_15 : decode mRF_stepBy.2.1 15 = .ok (.iload 4, 2) := by decide +kernel
theorem dRF_stepBy_17 : decode mRF_stepBy.2.1 17 = .ok (.aload_n 0, 1) := by decide +kernel
theorem dRF_stepBy_18 : decode mRF_stepBy.2.1 18 = .ok (.getfield 85, 3) := by decide +kernel
theorem dRF_stepBy_21 : decode mRF_stepBy.2.1 21 = .ok (.if_icmp .ge 155, 3) := by decide +kernel
theorem dRF_stepBy_24 : decode mRF_stepBy.2.1 24 = .ok (.iload_n 3, 1) := by decide +kernel
theorem dRF_stepBy_25 : decode mRF_stepBy.2.1 25 = .ok (.iconst 5, 1) := by decide +kernel
theorem dRF_stepBy_26 : decode mRF_stepBy.2.1 26 = .ok (.irem, 1) := by decide +kernel
theorem dRF_stepBy_27 : decode mRF_stepBy.2.1 27 = .ok (.aload_n 0, 1) := by decide +kernel
theorem dRF_stepBy_28 : decode mRF_stepBy.2.1 28 = .ok (.getfield 85, 3) := by decide +kernel
theorem dRF_stepBy_31 : decode mRF_stepBy.2.1 31 = .ok (.if_icmp .ge 145, 3) := by decide +kernel
theorem dRF_stepBy_34 : decode mRF_stepBy.2.1 34 = .ok (.aload_n 0, 1) := by decide +kernel
theorem dRF_stepBy_35 : decode mRF_stepBy.2.1 35 = .ok (.getfield 62, 3) := by decide +kernel
theorem dRF_stepBy_38 : decode mRF_stepBy.2.1 38 = .ok (.iload_n 3, 1) := by decide +kernel
theorem dRF_stepBy_39 : decode mRF_stepBy.2.1 39 = .ok (.iaload, 1) := by decide +kernel
theorem dRF_stepBy_40 : decode mRF_stepBy.2.1 40 = .ok (.iload 4, 2) := by decide +kernel
theorem dRF_stepBy_42 : decode mRF_stepBy.2.1 42 = .ok (.ishr, 1) := by decide +kernel
theorem dRF_stepBy_43 : decode mRF_stepBy.2.1 43 = .ok (.iconst 1, 1) := by decide +kernel
theorem dRF_stepBy_44 : decode mRF_stepBy.2.1 44 = .ok (.iand, 1) := by decide +kernel
theorem dRF_stepBy_45 : decode mRF_stepBy.2.1 45 = .ok (.ifCond .eq 125, 3) := by decide +kernel
theorem dRF_stepBy_48 : decode mRF_stepBy.2.1 48 = .ok (.aload_n 0, 1) := by decide +kernel
theorem dRF_stepBy_49 : decode mRF_stepBy.2.1 49 = .ok (.iload_n 1, 1) := by decide +kernel
theorem dRF_stepBy_50 : decode mRF_stepBy.2.1 50 = .ok (.iload_n 2, 1) := by decide +kernel
theorem dRF_stepBy_51 : decode mRF_stepBy.2.1 51 = .ok (.iload_n 3, 1) := by decide +kernel
theorem dRF_stepBy_52 : decode mRF_stepBy.2.1 52 = .ok (.iload 4, 2) := by decide +kernel
theorem dRF_stepBy_54 : decode mRF_stepBy.2.1 54 = .ok (.invokevirtual 177, 3) := by decide +kernel
theorem dRF_stepBy_57 : decode mRF_stepBy.2.1 57 = .ok (.ifCond .ne 6, 3) := by decide +kernel
theorem dRF_stepBy_60 : decode mRF_stepBy.2.1 60 = .ok (.goto 110, 3) := by decide +kernel
theorem dRF_stepBy_63 : decode mRF_stepBy.2.1 63 = .ok (.aload_n 0, 1) := by decide +kernel
theorem dRF_stepBy_64 : decode mRF_stepBy.2.1 64 = .ok (.getfield 62, 3) := by decide +kernel
theorem dRF_stepBy_67 : decode mRF_stepBy.2.1 67 = .ok (.iload_n 3, 1) := by decide +kernel
theorem dRF_stepBy_68 : decode mRF_stepBy.2.1 68 = .ok (.dup2, 1) := by decide +kernel
theorem dRF_stepBy_69 : decode mRF_stepBy.2.1 69 = .ok (.iaload, 1) := by decide +kernel
theorem dRF_stepBy_70 : decode mRF_stepBy.2.1 70 = .ok (.iconst 1, 1) := by decide +kernel
theorem dRF_stepBy_71 : decode mRF_stepBy.2.1 71 = .ok (.iload 4, 2) := by decide +kernel
theorem dRF_stepBy_73 : decode mRF_stepBy.2.1 73 = .ok (.ishl, 1) := by decide +kernel
theorem dRF_stepBy_74 : decode mRF_stepBy.2.1 74 = .ok (.iconst (-1), 1) := by decide +kernel
theorem dRF_stepBy_75 : decode mRF_stepBy.2.1 75 = .ok (.ixor, 1) := by decide +kernel
theorem dRF_stepBy_76 : decode mRF_stepBy.2.1 76 = .ok (.iand, 1) := by decide +kernel
theorem dRF_stepBy_77 : decode mRF_stepBy.2.1 77 = .ok (.iastore, 1) := by decide +kernel
theorem dRF_stepBy_78 : decode mRF_stepBy.2.1 78 = .ok (.aload_n 0, 1) := by decide +kernel
theorem dRF_stepBy_79 : decode mRF_stepBy.2.1 79 = .ok (.getfield 56, 3) := by decide +kernel
theorem dRF_stepBy_82 : decode mRF_stepBy.2.1 82 = .ok (.iconst 4, 1) := by decide +kernel
theorem dRF_stepBy_83 : decode mRF_stepBy.2.1 83 = .ok (.aload_n 0, 1) := by decide +kernel
theorem dRF_stepBy_84 : decode mRF_stepBy.2.1 84 = .ok (.getfield 180, 3) := by decide +kernel
theorem dRF_stepBy_87 : decode mRF_stepBy.2.1 87 = .ok (.imul, 1) := by decide +kernel
theorem dRF_stepBy_88 : decode mRF_stepBy.2.1 88 = .ok (.iload_n 1, 1) := by decide +kernel
theorem dRF_stepBy_89 : decode mRF_stepBy.2.1 89 = .ok (.iastore, 1) := by decide +kernel
theorem dRF_stepBy_90 : decode mRF_stepBy.2.1 90 = .ok (.aload_n 0, 1) := by decide +kernel
theorem dRF_stepBy_91 : decode mRF_stepBy.2.1 91 = .ok (.getfield 56, 3) := by decide +kernel
theorem dRF_stepBy_94 : decode mRF_stepBy.2.1 94 = .ok (.iconst 4, 1) := by decide +kernel
theorem dRF_stepBy_95 : decode mRF_stepBy.2.1 95 = .ok (.aload_n 0, 1) := by decide +kernel
theorem dRF_stepBy_96 : decode mRF_stepBy.2.1 96 = .ok (.getfield 180, 3) := by decide +kernel
theorem dRF_stepBy_99 : decode mRF_stepBy.2.1 99 = .ok (.imul, 1) := by decide +kernel
theorem dRF_stepBy_100 : decode mRF_stepBy.2.1 100 = .ok (.iconst 1, 1) := by decide +kernel
theorem dRF_stepBy_101 : decode mRF_stepBy.2.1 101 = .ok (.iadd, 1) := by decide +kernel
theorem dRF_stepBy_102 : decode mRF_stepBy.2.1 102 = .ok (.iload_n 1, 1) := by decide +kernel
theorem dRF_stepBy_103 : decode mRF_stepBy.2.1 103 = .ok (.iconst 3, 1) := by decide +kernel
theorem dRF_stepBy_104 : decode mRF_stepBy.2.1 104 = .ok (.if_icmp .eq 8, 3) := by decide +kernel
theorem dRF_stepBy_107 : decode mRF_stepBy.2.1 107 = .ok (.iload_n 1, 1) := by decide +kernel
theorem dRF_stepBy_108 : decode mRF_stepBy.2.1 108 = .ok (.iconst 5, 1) := by decide +kernel
theorem dRF_stepBy_109 : decode mRF_stepBy.2.1 109 = .ok (.if_icmp .ne 7, 3) := by decide +kernel
theorem dRF_stepBy_112 : decode mRF_stepBy.2.1 112 = .ok (.iload_n 2, 1) := by decide +kernel
theorem dRF_stepBy_113 : decode mRF_stepBy.2.1 113 = .ok (.goto 4, 3) := by decide +kernel
theorem dRF_stepBy_116 : decode mRF_stepBy.2.1 116 = .ok (.iconst (-1), 1) := by decide +kernel
theorem dRF_stepBy_117 : decode mRF_stepBy.2.1 117 = .ok (.iastore, 1) := by decide +kernel
theorem dRF_stepBy_118 : decode mRF_stepBy.2.1 118 = .ok (.aload_n 0, 1) := by decide +kernel
theorem dRF_stepBy_119 : decode mRF_stepBy.2.1 119 = .ok (.getfield 56, 3) := by decide +kernel
theorem dRF_stepBy_122 : decode mRF_stepBy.2.1 122 = .ok (.iconst 4, 1) := by decide +kernel
theorem dRF_stepBy_123 : decode mRF_stepBy.2.1 123 = .ok (.aload_n 0, 1) := by decide +kernel
theorem dRF_stepBy_124 : decode mRF_stepBy.2.1 124 = .ok (.getfield 180, 3) := by decide +kernel
theorem dRF_stepBy_127 : decode mRF_stepBy.2.1 127 = .ok (.imul, 1) := by decide +kernel
theorem dRF_stepBy_128 : decode mRF_stepBy.2.1 128 = .ok (.iconst 2, 1) := by decide +kernel
theorem dRF_stepBy_129 : decode mRF_stepBy.2.1 129 = .ok (.iadd, 1) := by decide +kernel
theorem dRF_stepBy_130 : decode mRF_stepBy.2.1 130 = .ok (.bipush 10, 2) := by decide +kernel
theorem dRF_stepBy_132 : decode mRF_stepBy.2.1 132 = .ok (.iload_n 3, 1) := by decide +kernel
theorem dRF_stepBy_133 : decode mRF_stepBy.2.1 133 = .ok (.iconst 5, 1) := by decide +kernel
theorem dRF_stepBy_134 : decode mRF_stepBy.2.1 134 = .ok (.idiv, 1) := by decide +kernel
theorem dRF_stepBy_135 : decode mRF_stepBy.2.1 135 = .ok (.iconst 1, 1) := by decide +kernel
theorem dRF_stepBy_136 : decode mRF_stepBy.2.1 136 = .ok (.iadd, 1) := by decide +kernel
theorem dRF_stepBy_137 : decode mRF_stepBy.2.1 137 = .ok (.imul, 1) := by decide +kernel
theorem dRF_stepBy_138 : decode mRF_stepBy.2.1 138 = .ok (.iload_n 3, 1) := by decide +kernel
theorem dRF_stepBy_139 : decode mRF_stepBy.2.1 139 = .ok (.iconst 5, 1) := by decide +kernel
theorem dRF_stepBy_140 : decode mRF_stepBy.2.1 140 = .ok (.irem, 1) := by decide +kernel
theorem dRF_stepBy_141 : decode mRF_stepBy.2.1 141 = .ok (.iadd, 1) := by decide +kernel
theorem dRF_stepBy_142 : decode mRF_stepBy.2.1 142 = .ok (.iastore, 1) := by decide +kernel
theorem dRF_stepBy_143 : decode mRF_stepBy.2.1 143 = .ok (.aload_n 0, 1) := by decide +kernel
theorem dRF_stepBy_144 : decode mRF_stepBy.2.1 144 = .ok (.getfield 56, 3) := by decide +kernel
theorem dRF_stepBy_147 : decode mRF_stepBy.2.1 147 = .ok (.iconst 4, 1) := by decide +kernel
theorem dRF_stepBy_148 : decode mRF_stepBy.2.1 148 = .ok (.aload_n 0, 1) := by decide +kernel
theorem dRF_stepBy_149 : decode mRF_stepBy.2.1 149 = .ok (.getfield 180, 3) := by decide +kernel
theorem dRF_stepBy_152 : decode mRF_stepBy.2.1 152 = .ok (.imul, 1) := by decide +kernel
theorem dRF_stepBy_153 : decode mRF_stepBy.2.1 153 = .ok (.iconst 3, 1) := by decide +kernel
theorem dRF_stepBy_154 : decode mRF_stepBy.2.1 154 = .ok (.iadd, 1) := by decide +kernel
theorem dRF_stepBy_155 : decode mRF_stepBy.2.1 155 = .ok (.iload 4, 2) := by decide +kernel
theorem dRF_stepBy_157 : decode mRF_stepBy.2.1 157 = .ok (.iastore, 1) := by decide +kernel
theorem dRF_stepBy_158 : decode mRF_stepBy.2.1 158 = .ok (.aload_n 0, 1) := by decide +kernel
theorem dRF_stepBy_159 : decode mRF_stepBy.2.1 159 = .ok (.dup, 1) := by decide +kernel
theorem dRF_stepBy_160 : decode mRF_stepBy.2.1 160 = .ok (.getfield 180, 3) := by decide +kernel
theorem dRF_stepBy_163 : decode mRF_stepBy.2.1 163 = .ok (.iconst 1, 1) := by decide +kernel
theorem dRF_stepBy_164 : decode mRF_stepBy.2.1 164 = .ok (.iadd, 1) := by decide +kernel
theorem dRF_stepBy_165 : decode mRF_stepBy.2.1 165 = .ok (.putfield 180, 3) := by decide +kernel
theorem dRF_stepBy_168 : decode mRF_stepBy.2.1 168 = .ok (.iconst 1, 1) := by decide +kernel
theorem dRF_stepBy_169 : decode mRF_stepBy.2.1 169 = .ok (.ireturn, 1) := by decide +kernel
theorem dRF_stepBy_170 : decode mRF_stepBy.2.1 170 = .ok (.iinc 4 1, 3) := by decide +kernel
theorem dRF_stepBy_173 : decode mRF_stepBy.2.1 173 = .ok (.goto (-158), 3) := by decide +kernel
theorem dRF_stepBy_176 : decode mRF_stepBy.2.1 176 = .ok (.iinc 3 1, 3) := by decide +kernel
theorem dRF_stepBy_179 : decode mRF_stepBy.2.1 179 = .ok (.goto (-177), 3) := by decide +kernel
theorem dRF_stepBy_182 : decode mRF_stepBy.2.1 182 = .ok (.iconst 0, 1) := by decide +kernel
theorem dRF_stepBy_183 : decode mRF_stepBy.2.1 183 = .ok (.ireturn, 1) := by decide +kernel
theorem dRF_takes_0 : decode mRF_takes.2.1 0 = .ok (.iload_n 1, 1) := by decide +kernel
theorem dRF_takes_1 : decode mRF_takes.2.1 1 = .ok (.tableswitch 55 1 4 #[31, 39, 55, 47], 31) := by decide +kernel
theorem dRF_takes_32 : decode mRF_takes.2.1 32 = .ok (.aload_n 0, 1) := by decide +kernel
theorem dRF_takes_33 : decode mRF_takes.2.1 33 = .ok (.iload_n 3, 1) := by decide +kernel
theorem dRF_takes_34 : decode mRF_takes.2.1 34 = .ok (.iload 4, 2) := by decide +kernel
theorem dRF_takes_36 : decode mRF_takes.2.1 36 = .ok (.invokevirtual 160, 3) := by decide +kernel
theorem dRF_takes_39 : decode mRF_takes.2.1 39 = .ok (.ireturn, 1) := by decide +kernel
theorem dRF_takes_40 : decode mRF_takes.2.1 40 = .ok (.aload_n 0, 1) := by decide +kernel
theorem dRF_takes_41 : decode mRF_takes.2.1 41 = .ok (.iload_n 3, 1) := by decide +kernel
theorem dRF_takes_42 : decode mRF_takes.2.1 42 = .ok (.iload 4, 2) := by decide +kernel
theorem dRF_takes_44 : decode mRF_takes.2.1 44 = .ok (.invokevirtual 164, 3) := by decide +kernel
theorem dRF_takes_47 : decode mRF_takes.2.1 47 = .ok (.ireturn, 1) := by decide +kernel
theorem dRF_takes_48 : decode mRF_takes.2.1 48 = .ok (.aload_n 0, 1) := by decide +kernel
theorem dRF_takes_49 : decode mRF_takes.2.1 49 = .ok (.iload_n 3, 1) := by decide +kernel
theorem dRF_takes_50 : decode mRF_takes.2.1 50 = .ok (.iload 4, 2) := by decide +kernel
theorem dRF_takes_52 : decode mRF_takes.2.1 52 = .ok (.invokevirtual 167, 3) := by decide +kernel
theorem dRF_takes_55 : decode mRF_takes.2.1 55 = .ok (.ireturn, 1) := by decide +kernel
theorem dRF_takes_56 : decode mRF_takes.2.1 56 = .ok (.aload_n 0, 1) := by decide +kernel
theorem dRF_takes_57 : decode mRF_takes.2.1 57 = .ok (.iload_n 2, 1) := by decide +kernel
theorem dRF_takes_58 : decode mRF_takes.2.1 58 = .ok (.iload_n 3, 1) := by decide +kernel
theorem dRF_takes_59 : decode mRF_takes.2.1 59 = .ok (.invokevirtual 170, 3) := by decide +kernel
theorem dRF_takes_62 : decode mRF_takes.2.1 62 = .ok (.ifCond .eq 18, 3) := by decide +kernel
theorem dRF_takes_65 : decode mRF_takes.2.1 65 = .ok (.aload_n 0, 1) := by decide +kernel
theorem dRF_takes_66 : decode mRF_takes.2.1 66 = .ok (.iload_n 2, 1) := by decide +kernel
theorem dRF_takes_67 : decode mRF_takes.2.1 67 = .ok (.iload_n 3, 1) := by decide +kernel
theorem dRF_takes_68 : decode mRF_takes.2.1 68 = .ok (.iload 4, 2) := by decide +kernel
theorem dRF_takes_70 : decode mRF_takes.2.1 70 = .ok (.invokevirtual 173, 3) := by decide +kernel
theorem dRF_takes_73 : decode mRF_takes.2.1 73 = .ok (.ifCond .ne 7, 3) := by decide +kernel
theorem dRF_takes_76 : decode mRF_takes.2.1 76 = .ok (.iconst 1, 1) := by decide +kernel
theorem dRF_takes_77 : decode mRF_takes.2.1 77 = .ok (.goto 4, 3) := by decide +kernel
theorem dRF_takes_80 : decode mRF_takes.2.1 80 = .ok (.iconst 0, 1) := by decide +kernel
theorem dRF_takes_81 : decode mRF_takes.2.1 81 = .ok (.ireturn, 1) := by decide +kernel
theorem dRF_byOther_0 : decode mRF_byOther.2.1 0 = .ok (.iload_n 1, 1) := by decide +kernel
theorem dRF_byOther_1 : decode mRF_byOther.2.1 1 = .ok (.iconst 5, 1) := by decide +kernel
theorem dRF_byOther_2 : decode mRF_byOther.2.1 2 = .ok (.idiv, 1) := by decide +kernel
theorem dRF_byOther_3 : decode mRF_byOther.2.1 3 = .ok (.iconst 5, 1) := by decide +kernel
theorem dRF_byOther_4 : decode mRF_byOther.2.1 4 = .ok (.imul, 1) := by decide +kernel
theorem dRF_byOther_5 : decode mRF_byOther.2.1 5 = .ok (.istore_n 3, 1) := by decide +kernel
theorem dRF_byOther_6 : decode mRF_byOther.2.1 6 = .ok (.iload_n 3, 1) := by decide +kernel
theorem dRF_byOther_7 : decode mRF_byOther.2.1 7 = .ok (.iload_n 1, 1) := by decide +kernel
theorem dRF_byOther_8 : decode mRF_byOther.2.1 8 = .ok (.iconst 5, 1) := by decide +kernel
theorem dRF_byOther_9 : decode mRF_byOther.2.1 9 = .ok (.idiv, 1) := by decide +kernel
theorem dRF_byOther_10 : decode mRF_byOther.2.1 10 = .ok (.iconst 5, 1) := by decide +kernel
theorem dRF_byOther_11 : decode mRF_byOther.2.1 11 = .ok (.imul, 1) := by decide +kernel
theorem dRF_byOther_12 : decode mRF_byOther.2.1 12 = .ok (.aload_n 0, 1) := by decide +kernel
theorem dRF_byOther_13 : decode mRF_byOther.2.1 13 = .ok (.getfield 85, 3) := by decide +kernel
theorem dRF_byOther_16 : decode mRF_byOther.2.1 16 = .ok (.iadd, 1) := by decide +kernel
theorem dRF_byOther_17 : decode mRF_byOther.2.1 17 = .ok (.if_icmp .ge 28, 3) := by decide +kernel
theorem dRF_byOther_20 : decode mRF_byOther.2.1 20 = .ok (.iload_n 3, 1) := by decide +kernel
theorem dRF_byOther_21 : decode mRF_byOther.2.1 21 = .ok (.iload_n 1, 1) := by decide +kernel
theorem dRF_byOther_22 : decode mRF_byOther.2.1 22 = .ok (.if_icmp .eq 17, 3) := by decide +kernel
theorem dRF_byOther_25 : decode mRF_byOther.2.1 25 = .ok (.aload_n 0, 1) := by decide +kernel
theorem dRF_byOther_26 : decode mRF_byOther.2.1 26 = .ok (.getfield 62, 3) := by decide +kernel
theorem dRF_byOther_29 : decode mRF_byOther.2.1 29 = .ok (.iload_n 3, 1) := by decide +kernel
theorem dRF_byOther_30 : decode mRF_byOther.2.1 30 = .ok (.iaload, 1) := by decide +kernel
theorem dRF_byOther_31 : decode mRF_byOther.2.1 31 = .ok (.iconst 1, 1) := by decide +kernel
theorem dRF_byOther_32 : decode mRF_byOther.2.1 32 = .ok (.iload_n 2, 1) := by decide +kernel
theorem dRF_byOther_33 : decode mRF_byOther.2.1 33 = .ok (.ishl, 1) := by decide +kernel
theorem dRF_byOther_34 : decode mRF_byOther.2.1 34 = .ok (.if_icmp .ne 5, 3) := by decide +kernel
theorem dRF_byOther_37 : decode mRF_byOther.2.1 37 = .ok (.iconst 1, 1) := by decide +kernel
theorem dRF_byOther_38 : decode mRF_byOther.2.1 38 = .ok (.ireturn, 1) := by decide +kernel
theorem dRF_byOther_39 : decode mRF_byOther.2.1 39 = .ok (.iinc 3 1, 3) := by decide +kernel
theorem dRF_byOther_42 : decode mRF_byOther.2.1 42 = .ok (.goto (-36), 3) := by decide +kernel
theorem dRF_byOther_45 : decode mRF_byOther.2.1 45 = .ok (.iconst 0, 1) := by decide +kernel
theorem dRF_byOther_46 : decode mRF_byOther.2.1 46 = .ok (.ireturn, 1) := by decide +kernel
theorem dRF_byOnly_0 : decode mRF_byOnly.2.1 0 = .ok (.iconst 0, 1) := by decide +kernel
theorem dRF_byOnly_1 : decode mRF_byOnly.2.1 1 = .ok (.istore_n 3, 1) := by decide +kernel
theorem dRF_byOnly_2 : decode mRF_byOnly.2.1 2 = .ok (.iload_n 3, 1) := by decide +kernel
theorem dRF_byOnly_3 : decode mRF_byOnly.2.1 3 = .ok (.aload_n 0, 1) := by decide +kernel
theorem dRF_byOnly_4 : decode mRF_byOnly.2.1 4 = .ok (.getfield 85, 3) := by decide +kernel
theorem dRF_byOnly_7 : decode mRF_byOnly.2.1 7 = .ok (.if_icmp .ge 100, 3) := by decide +kernel
theorem dRF_byOnly_10 : decode mRF_byOnly.2.1 10 = .ok (.iload_n 3, 1) := by decide +kernel
theorem dRF_byOnly_11 : decode mRF_byOnly.2.1 11 = .ok (.iload_n 2, 1) := by decide +kernel
theorem dRF_byOnly_12 : decode mRF_byOnly.2.1 12 = .ok (.if_icmp .eq 89, 3) := by decide +kernel
theorem dRF_byOnly_15 : decode mRF_byOnly.2.1 15 = .ok (.aload_n 0, 1) := by decide +kernel
theorem dRF_byOnly_16 : decode mRF_byOnly.2.1 16 = .ok (.getfield 62, 3) := by decide +kernel
theorem dRF_byOnly_19 : decode mRF_byOnly.2.1 19 = .ok (.iload_n 1, 1) := by decide +kernel
theorem dRF_byOnly_20 : decode mRF_byOnly.2.1 20 = .ok (.iaload, 1) := by decide +kernel
theorem dRF_byOnly_21 : decode mRF_byOnly.2.1 21 = .ok (.iload_n 3, 1) := by decide +kernel
theorem dRF_byOnly_22 : decode mRF_byOnly.2.1 22 = .ok (.ishr, 1) := by decide +kernel
theorem dRF_byOnly_23 : decode mRF_byOnly.2.1 23 = .ok (.iconst 1, 1) := by decide +kernel
theorem dRF_byOnly_24 : decode mRF_byOnly.2.1 24 = .ok (.iand, 1) := by decide +kernel
theorem dRF_byOnly_25 : decode mRF_byOnly.2.1 25 = .ok (.ifCond .ne 6, 3) := by decide +kernel
theorem dRF_byOnly_28 : decode mRF_byOnly.2.1 28 = .ok (.goto 73, 3) := by decide +kernel
theorem dRF_byOnly_31 : decode mRF_byOnly.2.1 31 = .ok (.iconst 1, 1) := by decide +kernel
theorem dRF_byOnly_32 : decode mRF_byOnly.2.1 32 = .ok (.istore 4, 2) := by decide +kernel
theorem dRF_byOnly_34 : decode mRF_byOnly.2.1 34 = .ok (.iload_n 1, 1) := by decide +kernel
theorem dRF_byOnly_35 : decode mRF_byOnly.2.1 35 = .ok (.iconst 5, 1) := by decide +kernel
theorem dRF_byOnly_36 : decode mRF_byOnly.2.1 36 = .ok (.idiv, 1) := by decide +kernel
theorem dRF_byOnly_37 : decode mRF_byOnly.2.1 37 = .ok (.iconst 5, 1) := by decide +kernel
theorem dRF_byOnly_38 : decode mRF_byOnly.2.1 38 = .ok (.imul, 1) := by decide +kernel
theorem dRF_byOnly_39 : decode mRF_byOnly.2.1 39 = .ok (.istore 5, 2) := by decide +kernel
theorem dRF_byOnly_41 : decode mRF_byOnly.2.1 41 = .ok (.iload 5, 2) := by decide +kernel
theorem dRF_byOnly_43 : decode mRF_byOnly.2.1 43 = .ok (.iload_n 1, 1) := by decide +kernel
theorem dRF_byOnly_44 : decode mRF_byOnly.2.1 44 = .ok (.iconst 5, 1) := by decide +kernel
theorem dRF_byOnly_45 : decode mRF_byOnly.2.1 45 = .ok (.idiv, 1) := by decide +kernel
theorem dRF_byOnly_46 : decode mRF_byOnly.2.1 46 = .ok (.iconst 5, 1) := by decide +kernel
theorem dRF_byOnly_47 : decode mRF_byOnly.2.1 47 = .ok (.imul, 1) := by decide +kernel
theorem dRF_byOnly_48 : decode mRF_byOnly.2.1 48 = .ok (.aload_n 0, 1) := by decide +kernel
theorem dRF_byOnly_49 : decode mRF_byOnly.2.1 49 = .ok (.getfield 85, 3) := by decide +kernel
theorem dRF_byOnly_52 : decode mRF_byOnly.2.1 52 = .ok (.iadd, 1) := by decide +kernel
theorem dRF_byOnly_53 : decode mRF_byOnly.2.1 53 = .ok (.if_icmp .ge 41, 3) := by decide +kernel
theorem dRF_byOnly_56 : decode mRF_byOnly.2.1 56 = .ok (.iload 4, 2) := by decide +kernel
theorem dRF_byOnly_58 : decode mRF_byOnly.2.1 58 = .ok (.ifCond .eq 27, 3) := by decide +kernel
theorem dRF_byOnly_61 : decode mRF_byOnly.2.1 61 = .ok (.iload 5, 2) := by decide +kernel
theorem dRF_byOnly_63 : decode mRF_byOnly.2.1 63 = .ok (.iload_n 1, 1) := by decide +kernel
theorem dRF_byOnly_64 : decode mRF_byOnly.2.1 64 = .ok (.if_icmp .eq 17, 3) := by decide +kernel
theorem dRF_byOnly_67 : decode mRF_byOnly.2.1 67 = .ok (.aload_n 0, 1) := by decide +kernel
theorem dRF_byOnly_68 : decode mRF_byOnly.2.1 68 = .ok (.getfield 62, 3) := by decide +kernel
theorem dRF_byOnly_71 : decode mRF_byOnly.2.1 71 = .ok (.iload 5, 2) := by decide +kernel
theorem dRF_byOnly_73 : decode mRF_byOnly.2.1 73 = .ok (.iaload, 1) := by decide +kernel
theorem dRF_byOnly_74 : decode mRF_byOnly.2.1 74 = .ok (.iload_n 3, 1) := by decide +kernel
theorem dRF_byOnly_75 : decode mRF_byOnly.2.1 75 = .ok (.ishr, 1) := by decide +kernel
theorem dRF_byOnly_76 : decode mRF_byOnly.2.1 76 = .ok (.iconst 1, 1) := by decide +kernel
theorem dRF_byOnly_77 : decode mRF_byOnly.2.1 77 = .ok (.iand, 1) := by decide +kernel
theorem dRF_byOnly_78 : decode mRF_byOnly.2.1 78 = .ok (.ifCond .ne 7, 3) := by decide +kernel
theorem dRF_byOnly_81 : decode mRF_byOnly.2.1 81 = .ok (.iconst 1, 1) := by decide +kernel
theorem dRF_byOnly_82 : decode mRF_byOnly.2.1 82 = .ok (.goto 4, 3) := by decide +kernel
theorem dRF_byOnly_85 : decode mRF_byOnly.2.1 85 = .ok (.iconst 0, 1) := by decide +kernel
theorem dRF_byOnly_86 : decode mRF_byOnly.2.1 86 = .ok (.istore 4, 2) := by decide +kernel
theorem dRF_byOnly_88 : decode mRF_byOnly.2.1 88 = .ok (.iinc 5 1, 3) := by decide +kernel
theorem dRF_byOnly_91 : decode mRF_byOnly.2.1 91 = .ok (.goto (-50), 3) := by decide +kernel
theorem dRF_byOnly_94 : decode mRF_byOnly.2.1 94 = .ok (.iload 4, 2) := by decide +kernel
theorem dRF_byOnly_96 : decode mRF_byOnly.2.1 96 = .ok (.ifCond .eq 5, 3) := by decide +kernel
theorem dRF_byOnly_99 : decode mRF_byOnly.2.1 99 = .ok (.iconst 1, 1) := by decide +kernel
theorem dRF_byOnly_100 : decode mRF_byOnly.2.1 100 = .ok (.ireturn, 1) := by decide +kernel
theorem dRF_byOnly_101 : decode mRF_byOnly.2.1 101 = .ok (.iinc 3 1, 3) := by decide +kernel
theorem dRF_byOnly_104 : decode mRF_byOnly.2.1 104 = .ok (.goto (-102), 3) := by decide +kernel
theorem dRF_byOnly_107 : decode mRF_byOnly.2.1 107 = .ok (.iconst 0, 1) := by decide +kernel
theorem dRF_byOnly_108 : decode mRF_byOnly.2.1 108 = .ok (.ireturn, 1) := by decide +kernel
theorem dRF_byPair_0 : decode mRF_byPair.2.1 0 = .ok (.iload_n 1, 1) := by decide +kernel
theorem dRF_byPair_1 : decode mRF_byPair.2.1 1 = .ok (.iconst 5, 1) := by decide +kernel
theorem dRF_byPair_2 : decode mRF_byPair.2.1 2 = .ok (.idiv, 1) := by decide +kernel
theorem dRF_byPair_3 : decode mRF_byPair.2.1 3 = .ok (.iconst 5, 1) := by decide +kernel
theorem dRF_byPair_4 : decode mRF_byPair.2.1 4 = .ok (.imul, 1) := by decide +kernel
theorem dRF_byPair_5 : decode mRF_byPair.2.1 5 = .ok (.istore_n 3, 1) := by decide +kernel
theorem dRF_byPair_6 : decode mRF_byPair.2.1 6 = .ok (.iload_n 3, 1) := by decide +kernel
theorem dRF_byPair_7 : decode mRF_byPair.2.1 7 = .ok (.iload_n 1, 1) := by decide +kernel
theorem dRF_byPair_8 : decode mRF_byPair.2.1 8 = .ok (.iconst 5, 1) := by decide +kernel
theorem dRF_byPair_9 : decode mRF_byPair.2.1 9 = .ok (.idiv, 1) := by decide +kernel
theorem dRF_byPair_10 : decode mRF_byPair.2.1 10 = .ok (.iconst 5, 1) := by decide +kernel
theorem dRF_byPair_11 : decode mRF_byPair.2.1 11 = .ok (.imul, 1) := by decide +kernel
theorem dRF_byPair_12 : decode mRF_byPair.2.1 12 = .ok (.aload_n 0, 1) := by decide +kernel
theorem dRF_byPair_13 : decode mRF_byPair.2.1 13 = .ok (.getfield 85, 3) := by decide +kernel
theorem dRF_byPair_16 : decode mRF_byPair.2.1 16 = .ok (.iadd, 1) := by decide +kernel
theorem dRF_byPair_17 : decode mRF_byPair.2.1 17 = .ok (.if_icmp .ge 91, 3) := by decide +kernel
theorem dRF_byPair_20 : decode mRF_byPair.2.1 20 = .ok (.iload_n 3, 1) := by decide +kernel
theorem dRF_byPair_21 : decode mRF_byPair.2.1 21 = .ok (.iconst 1, 1) := by decide +kernel
theorem dRF_byPair_22 : decode mRF_byPair.2.1 22 = .ok (.iadd, 1) := by decide +kernel
theorem dRF_byPair_23 : decode mRF_byPair.2.1 23 = .ok (.istore 4, 2) := by decide +kernel
theorem dRF_byPair_25 : decode mRF_byPair.2.1 25 = .ok (.iload 4, 2) := by decide +kernel
theorem dRF_byPair_27 : decode mRF_byPair.2.1 27 = .ok (.iload_n 1, 1) := by decide +kernel
theorem dRF_byPair_28 : decode mRF_byPair.2.1 28 = .ok (.iconst 5, 1) := by decide +kernel
theorem dRF_byPair_29 : decode mRF_byPair.2.1 29 = .ok (.idiv, 1) := by decide +kernel
theorem dRF_byPair_30 : decode mRF_byPair.2.1 30 = .ok (.iconst 5, 1) := by decide +kernel
theorem dRF_byPair_31 : decode mRF_byPair.2.1 31 = .ok (.imul, 1) := by decide +kernel
theorem dRF_byPair_32 : decode mRF_byPair.2.1 32 = .ok (.aload_n 0, 1) := by decide +kernel
theorem dRF_byPair_33 : decode mRF_byPair.2.1 33 = .ok (.getfield 85, 3) := by decide +kernel
theorem dRF_byPair_36 : decode mRF_byPair.2.1 36 = .ok (.iadd, 1) := by decide +kernel
theorem dRF_byPair_37 : decode mRF_byPair.2.1 37 = .ok (.if_icmp .ge 65, 3) := by decide +kernel
theorem dRF_byPair_40 : decode mRF_byPair.2.1 40 = .ok (.iload_n 3, 1) := by decide +kernel
theorem dRF_byPair_41 : decode mRF_byPair.2.1 41 = .ok (.iload_n 1, 1) := by decide +kernel
theorem dRF_byPair_42 : decode mRF_byPair.2.1 42 = .ok (.if_icmp .eq 54, 3) := by decide +kernel
theorem dRF_byPair_45 : decode mRF_byPair.2.1 45 = .ok (.iload 4, 2) := by decide +kernel
theorem dRF_byPair_47 : decode mRF_byPair.2.1 47 = .ok (.iload_n 1, 1) := by decide +kernel
theorem dRF_byPair_48 : decode mRF_byPair.2.1 48 = .ok (.if_icmp .eq 48, 3) := by decide +kernel
theorem dRF_byPair_51 : decode mRF_byPair.2.1 51 = .ok (.aload_n 0, 1) := by decide +kernel
theorem dRF_byPair_52 : decode mRF_byPair.2.1 52 = .ok (.getfield 62, 3) := by decide +kernel
theorem dRF_byPair_55 : decode mRF_byPair.2.1 55 = .ok (.iload_n 3, 1) := by decide +kernel
theorem dRF_byPair_56 : decode mRF_byPair.2.1 56 = .ok (.iaload, 1) := by decide +kernel
theorem dRF_byPair_57 : decode mRF_byPair.2.1 57 = .ok (.aload_n 0, 1) := by decide +kernel
theorem dRF_byPair_58 : decode mRF_byPair.2.1 58 = .ok (.getfield 62, 3) := by decide +kernel
theorem dRF_byPair_61 : decode mRF_byPair.2.1 61 = .ok (.iload 4, 2) := by decide +kernel
theorem dRF_byPair_63 : decode mRF_byPair.2.1 63 = .ok (.iaload, 1) := by decide +kernel
theorem dRF_byPair_64 : decode mRF_byPair.2.1 64 = .ok (.if_icmp .ne 32, 3) := by decide +kernel
theorem dRF_byPair_67 : decode mRF_byPair.2.1 67 = .ok (.aload_n 0, 1) := by decide +kernel
theorem dRF_byPair_68 : decode mRF_byPair.2.1 68 = .ok (.getfield 62, 3) := by decide +kernel
theorem dRF_byPair_71 : decode mRF_byPair.2.1 71 = .ok (.iload_n 3, 1) := by decide +kernel
theorem dRF_byPair_72 : decode mRF_byPair.2.1 72 = .ok (.iaload, 1) := by decide +kernel
theorem dRF_byPair_73 : decode mRF_byPair.2.1 73 = .ok (.invokestatic 150, 3) := by decide +kernel
theorem dRF_byPair_76 : decode mRF_byPair.2.1 76 = .ok (.iconst 2, 1) := by decide +kernel
theorem dRF_byPair_77 : decode mRF_byPair.2.1 77 = .ok (.if_icmp .ne 19, 3) := by decide +kernel
theorem dRF_byPair_80 : decode mRF_byPair.2.1 80 = .ok (.aload_n 0, 1) := by decide +kernel
theorem dRF_byPair_81 : decode mRF_byPair.2.1 81 = .ok (.getfield 62, 3) := by decide +kernel
theorem dRF_byPair_84 : decode mRF_byPair.2.1 84 = .ok (.iload_n 3, 1) := by decide +kernel
theorem dRF_byPair_85 : decode mRF_byPair.2.1 85 = .ok (.iaload, 1) := by decide +kernel
theorem dRF_byPair_86 : decode mRF_byPair.2.1 86 = .ok (.iload_n 2, 1) := by decide +kernel
theorem dRF_byPair_87 : decode mRF_byPair.2.1 87 = .ok (.ishr, 1) := by decide +kernel
theorem dRF_byPair_88 : decode mRF_byPair.2.1 88 = .ok (.iconst 1, 1) := by decide +kernel
theorem dRF_byPair_89 : decode mRF_byPair.2.1 89 = .ok (.iand, 1) := by decide +kernel
theorem dRF_byPair_90 : decode mRF_byPair.2.1 90 = .ok (.iconst 1, 1) := by decide +kernel
theorem dRF_byPair_91 : decode mRF_byPair.2.1 91 = .ok (.if_icmp .ne 5, 3) := by decide +kernel
theorem dRF_byPair_94 : decode mRF_byPair.2.1 94 = .ok (.iconst 1, 1) := by decide +kernel
theorem dRF_byPair_95 : decode mRF_byPair.2.1 95 = .ok (.ireturn, 1) := by decide +kernel
theorem dRF_byPair_96 : decode mRF_byPair.2.1 96 = .ok (.iinc 4 1, 3) := by decide +kernel
theorem dRF_byPair_99 : decode mRF_byPair.2.1 99 = .ok (.goto (-74), 3) := by decide +kernel
theorem dRF_byPair_102 : decode mRF_byPair.2.1 102 = .ok (.iinc 3 1, 3) := by decide +kernel
theorem dRF_byPair_105 : decode mRF_byPair.2.1 105 = .ok (.goto (-99), 3) := by decide +kernel
theorem dRF_byPair_108 : decode mRF_byPair.2.1 108 = .ok (.iconst 0, 1) := by decide +kernel
theorem dRF_byPair_109 : decode mRF_byPair.2.1 109 = .ok (.ireturn, 1) := by decide +kernel
theorem dRF_size_0 : decode mRF_size.2.1 0 = .ok (.iconst 0, 1) := by decide +kernel
theorem dRF_size_1 : decode mRF_size.2.1 1 = .ok (.istore_n 1, 1) := by decide +kernel
theorem dRF_size_2 : decode mRF_size.2.1 2 = .ok (.iconst 0, 1) := by decide +kernel
theorem dRF_size_3 : decode mRF_size.2.1 3 = .ok (.istore_n 2, 1) := by decide +kernel
theorem dRF_size_4 : decode mRF_size.2.1 4 = .ok (.iload_n 2, 1) := by decide +kernel
theorem dRF_size_5 : decode mRF_size.2.1 5 = .ok (.iconst 5, 1) := by decide +kernel
theorem dRF_size_6 : decode mRF_size.2.1 6 = .ok (.if_icmp .ge 17, 3) := by decide +kernel
theorem dRF_size_9 : decode mRF_size.2.1 9 = .ok (.iload_n 1, 1) := by decide +kernel
theorem dRF_size_10 : decode mRF_size.2.1 10 = .ok (.iload_n 0, 1) := by decide +kernel
theorem dRF_size_11 : decode mRF_size.2.1 11 = .ok (.iload_n 2, 1) := by decide +kernel
theorem dRF_size_12 : decode mRF_size.2.1 12 = .ok (.ishr, 1) := by decide +kernel
theorem dRF_size_13 : decode mRF_size.2.1 13 = .ok (.iconst 1, 1) := by decide +kernel
theorem dRF_size_14 : decode mRF_size.2.1 14 = .ok (.iand, 1) := by decide +kernel
theorem dRF_size_15 : decode mRF_size.2.1 15 = .ok (.iadd, 1) := by decide +kernel
theorem dRF_size_16 : decode mRF_size.2.1 16 = .ok (.istore_n 1, 1) := by decide +kernel
theorem dRF_size_17 : decode mRF_size.2.1 17 = .ok (.iinc 2 1, 3) := by decide +kernel
theorem dRF_size_20 : decode mRF_size.2.1 20 = .ok (.goto (-16), 3) := by decide +kernel
theorem dRF_size_23 : decode mRF_size.2.1 23 = .ok (.iload_n 1, 1) := by decide +kernel
theorem dRF_size_24 : decode mRF_size.2.1 24 = .ok (.ireturn, 1) := by decide +kernel
theorem dRF_isIn_0 : decode mRF_isIn.2.1 0 = .ok (.iconst 0, 1) := by decide +kernel
theorem dRF_isIn_1 : decode mRF_isIn.2.1 1 = .ok (.istore_n 3, 1) := by decide +kernel
theorem dRF_isIn_2 : decode mRF_isIn.2.1 2 = .ok (.iconst 1, 1) := by decide +kernel
theorem dRF_isIn_3 : decode mRF_isIn.2.1 3 = .ok (.istore 4, 2) := by decide +kernel
theorem dRF_isIn_5 : decode mRF_isIn.2.1 5 = .ok (.iload 4, 2) := by decide +kernel
theorem dRF_isIn_7 : decode mRF_isIn.2.1 7 = .ok (.iconst 4, 1) := by decide +kernel
theorem dRF_isIn_8 : decode mRF_isIn.2.1 8 = .ok (.if_icmp .ge 53, 3) := by decide +kernel
theorem dRF_isIn_11 : decode mRF_isIn.2.1 11 = .ok (.iload_n 3, 1) := by decide +kernel
theorem dRF_isIn_12 : decode mRF_isIn.2.1 12 = .ok (.ifCond .ne 37, 3) := by decide +kernel
theorem dRF_isIn_15 : decode mRF_isIn.2.1 15 = .ok (.aload_n 0, 1) := by decide +kernel
theorem dRF_isIn_16 : decode mRF_isIn.2.1 16 = .ok (.getfield 47, 3) := by decide +kernel
theorem dRF_isIn_19 : decode mRF_isIn.2.1 19 = .ok (.bipush 6, 2) := by decide +kernel
theorem dRF_isIn_21 : decode mRF_isIn.2.1 21 = .ok (.iload_n 1, 1) := by decide +kernel
theorem dRF_isIn_22 : decode mRF_isIn.2.1 22 = .ok (.imul, 1) := by decide +kernel
theorem dRF_isIn_23 : decode mRF_isIn.2.1 23 = .ok (.iload 4, 2) := by decide +kernel
theorem dRF_isIn_25 : decode mRF_isIn.2.1 25 = .ok (.iadd, 1) := by decide +kernel
theorem dRF_isIn_26 : decode mRF_isIn.2.1 26 = .ok (.iaload, 1) := by decide +kernel
theorem dRF_isIn_27 : decode mRF_isIn.2.1 27 = .ok (.ifCond .eq 26, 3) := by decide +kernel
theorem dRF_isIn_30 : decode mRF_isIn.2.1 30 = .ok (.aload_n 0, 1) := by decide +kernel
theorem dRF_isIn_31 : decode mRF_isIn.2.1 31 = .ok (.getfield 47, 3) := by decide +kernel
theorem dRF_isIn_34 : decode mRF_isIn.2.1 34 = .ok (.bipush 6, 2) := by decide +kernel
theorem dRF_isIn_36 : decode mRF_isIn.2.1 36 = .ok (.iload_n 1, 1) := by decide +kernel
theorem dRF_isIn_37 : decode mRF_isIn.2.1 37 = .ok (.imul, 1) := by decide +kernel
theorem dRF_isIn_38 : decode mRF_isIn.2.1 38 = .ok (.iload 4, 2) := by decide +kernel
theorem dRF_isIn_40 : decode mRF_isIn.2.1 40 = .ok (.iadd, 1) := by decide +kernel
theorem dRF_isIn_41 : decode mRF_isIn.2.1 41 = .ok (.iaload, 1) := by decide +kernel
theorem dRF_isIn_42 : decode mRF_isIn.2.1 42 = .ok (.invokestatic 123, 3) := by decide +kernel
theorem dRF_isIn_45 : decode mRF_isIn.2.1 45 = .ok (.iload_n 2, 1) := by decide +kernel
theorem dRF_isIn_46 : decode mRF_isIn.2.1 46 = .ok (.if_icmp .ne 7, 3) := by decide +kernel
theorem dRF_isIn_49 : decode mRF_isIn.2.1 49 = .ok (.iconst 1, 1) := by decide +kernel
theorem dRF_isIn_50 : decode mRF_isIn.2.1 50 = .ok (.goto 4, 3) := by decide +kernel
theorem dRF_isIn_53 : decode mRF_isIn.2.1 53 = .ok (.iconst 0, 1) := by decide +kernel
theorem dRF_isIn_54 : decode mRF_isIn.2.1 54 = .ok (.istore_n 3, 1) := by decide +kernel
theorem dRF_isIn_55 : decode mRF_isIn.2.1 55 = .ok (.iinc 4 1, 3) := by decide +kernel
theorem dRF_isIn_58 : decode mRF_isIn.2.1 58 = .ok (.goto (-53), 3) := by decide +kernel
theorem dRF_isIn_61 : decode mRF_isIn.2.1 61 = .ok (.iload_n 3, 1) := by decide +kernel
theorem dRF_isIn_62 : decode mRF_isIn.2.1 62 = .ok (.ireturn, 1) := by decide +kernel
theorem dRF_canBe_0 : decode mRF_canBe.2.1 0 = .ok (.aload_n 0, 1) := by decide +kernel
theorem dRF_canBe_1 : decode mRF_canBe.2.1 1 = .ok (.getfield 47, 3) := by decide +kernel
theorem dRF_canBe_4 : decode mRF_canBe.2.1 4 = .ok (.bipush 6, 2) := by decide +kernel
theorem dRF_canBe_6 : decode mRF_canBe.2.1 6 = .ok (.iload_n 1, 1) := by decide +kernel
theorem dRF_canBe_7 : decode mRF_canBe.2.1 7 = .ok (.imul, 1) := by decide +kernel
theorem dRF_canBe_8 : decode mRF_canBe.2.1 8 = .ok (.iaload, 1) := by decide +kernel
theorem dRF_canBe_9 : decode mRF_canBe.2.1 9 = .ok (.istore 4, 2) := by decide +kernel
theorem dRF_canBe_11 : decode mRF_canBe.2.1 11 = .ok (.aload_n 0, 1) := by decide +kernel
theorem dRF_canBe_12 : decode mRF_canBe.2.1 12 = .ok (.getfield 47, 3) := by decide +kernel
theorem dRF_canBe_15 : decode mRF_canBe.2.1 15 = .ok (.bipush 6, 2) := by decide +kernel
theorem dRF_canBe_17 : decode mRF_canBe.2.1 17 = .ok (.iload_n 1, 1) := by decide +kernel
theorem dRF_canBe_18 : decode mRF_canBe.2.1 18 = .ok (.imul, 1) := by decide +kernel
theorem dRF_canBe_19 : decode mRF_canBe.2.1 19 = .ok (.iconst 1, 1) := by decide +kernel
theorem dRF_canBe_20 : decode mRF_canBe.2.1 20 = .ok (.iadd, 1) := by decide +kernel
theorem dRF_canBe_21 : decode mRF_canBe.2.1 21 = .ok (.iaload, 1) := by decide +kernel
theorem dRF_canBe_22 : decode mRF_canBe.2.1 22 = .ok (.invokestatic 123, 3) := by decide +kernel
theorem dRF_canBe_25 : decode mRF_canBe.2.1 25 = .ok (.istore 5, 2) := by decide +kernel
theorem dRF_canBe_27 : decode mRF_canBe.2.1 27 = .ok (.iload 4, 2) := by decide +kernel
theorem dRF_canBe_29 : decode mRF_canBe.2.1 29 = .ok (.bipush 6, 2) := by decide +kernel
theorem dRF_canBe_31 : decode mRF_canBe.2.1 31 = .ok (.if_icmp .ne 7, 3) := by decide +kernel
theorem dRF_canBe_34 : decode mRF_canBe.2.1 34 = .ok (.iconst (-1), 1) := by decide +kernel
theorem dRF_canBe_35 : decode mRF_canBe.2.1 35 = .ok (.goto 17, 3) := by decide +kernel
theorem dRF_canBe_38 : decode mRF_canBe.2.1 38 = .ok (.aload_n 0, 1) := by decide +kernel
theorem dRF_canBe_39 : decode mRF_canBe.2.1 39 = .ok (.getfield 47, 3) := by decide +kernel
theorem dRF_canBe_42 : decode mRF_canBe.2.1 42 = .ok (.bipush 6, 2) := by decide +kernel
theorem dRF_canBe_44 : decode mRF_canBe.2.1 44 = .ok (.iload_n 1, 1) := by decide +kernel
theorem dRF_canBe_45 : decode mRF_canBe.2.1 45 = .ok (.imul, 1) := by decide +kernel
theorem dRF_canBe_46 : decode mRF_canBe.2.1 46 = .ok (.iconst 2, 1) := by decide +kernel
theorem dRF_canBe_47 : decode mRF_canBe.2.1 47 = .ok (.iadd, 1) := by decide +kernel
theorem dRF_canBe_48 : decode mRF_canBe.2.1 48 = .ok (.iaload, 1) := by decide +kernel
theorem dRF_canBe_49 : decode mRF_canBe.2.1 49 = .ok (.invokestatic 123, 3) := by decide +kernel
theorem dRF_canBe_52 : decode mRF_canBe.2.1 52 = .ok (.istore 6, 2) := by decide +kernel
theorem dRF_canBe_54 : decode mRF_canBe.2.1 54 = .ok (.iload 4, 2) := by decide +kernel
theorem dRF_canBe_56 : decode mRF_canBe.2.1 56 = .ok (.iconst 5, 1) := by decide +kernel
theorem dRF_canBe_57 : decode mRF_canBe.2.1 57 = .ok (.if_icmp .eq 17, 3) := by decide +kernel
theorem dRF_canBe_60 : decode mRF_canBe.2.1 60 = .ok (.iload 4, 2) := by decide +kernel
theorem dRF_canBe_62 : decode mRF_canBe.2.1 62 = .ok (.bipush 7, 2) := by decide +kernel
theorem dRF_canBe_64 : decode mRF_canBe.2.1 64 = .ok (.if_icmp .eq 10, 3) := by decide +kernel
theorem dRF_canBe_67 : decode mRF_canBe.2.1 67 = .ok (.iload 4, 2) := by decide +kernel
theorem dRF_canBe_69 : decode mRF_canBe.2.1 69 = .ok (.bipush 8, 2) := by decide +kernel
theorem dRF_canBe_71 : decode mRF_canBe.2.1 71 = .ok (.if_icmp .ne 7, 3) := by decide +kernel
theorem dRF_canBe_74 : decode mRF_canBe.2.1 74 = .ok (.iconst 1, 1) := by decide +kernel
theorem dRF_canBe_75 : decode mRF_canBe.2.1 75 = .ok (.goto 4, 3) := by decide +kernel
theorem dRF_canBe_78 : decode mRF_canBe.2.1 78 = .ok (.iconst 0, 1) := by decide +kernel
theorem dRF_canBe_79 : decode mRF_canBe.2.1 79 = .ok (.istore 7, 2) := by decide +kernel
theorem dRF_canBe_81 : decode mRF_canBe.2.1 81 = .ok (.iload 7, 2) := by decide +kernel
theorem dRF_canBe_83 : decode mRF_canBe.2.1 83 = .ok (.ifCond .eq 20, 3) := by decide +kernel
theorem dRF_canBe_86 : decode mRF_canBe.2.1 86 = .ok (.aload_n 0, 1) := by decide +kernel
theorem dRF_canBe_87 : decode mRF_canBe.2.1 87 = .ok (.getfield 47, 3) := by decide +kernel
theorem dRF_canBe_90 : decode mRF_canBe.2.1 90 = .ok (.bipush 6, 2) := by decide +kernel
theorem dRF_canBe_92 : decode mRF_canBe.2.1 92 = .ok (.iload_n 1, 1) := by decide +kernel
theorem dRF_canBe_93 : decode mRF_canBe.2.1 93 = .ok (.imul, 1) := by decide +kernel
theorem dRF_canBe_94 : decode mRF_canBe.2.1 94 = .ok (.iconst 3, 1) := by decide +kernel
theorem dRF_canBe_95 : decode mRF_canBe.2.1 95 = .ok (.iadd, 1) := by decide +kernel
theorem dRF_canBe_96 : decode mRF_canBe.2.1 96 = .ok (.iaload, 1) := by decide +kernel
theorem dRF_canBe_97 : decode mRF_canBe.2.1 97 = .ok (.invokestatic 123, 3) := by decide +kernel
theorem dRF_canBe_100 : decode mRF_canBe.2.1 100 = .ok (.goto 4, 3) := by decide +kernel
theorem dRF_canBe_103 : decode mRF_canBe.2.1 103 = .ok (.iconst (-1), 1) := by decide +kernel
theorem dRF_canBe_104 : decode mRF_canBe.2.1 104 = .ok (.istore 8, 2) := by decide +kernel
theorem dRF_canBe_106 : decode mRF_canBe.2.1 106 = .ok (.iconst 0, 1) := by decide +kernel
theorem dRF_canBe_107 : decode mRF_canBe.2.1 107 = .ok (.istore 9, 2) := by decide +kernel
theorem dRF_canBe_109 : decode mRF_canBe.2.1 109 = .ok (.iload 9, 2) := by decide +kernel
theorem dRF_canBe_111 : decode mRF_canBe.2.1 111 = .ok (.aload_n 0, 1) := by decide +kernel
theorem dRF_canBe_112 : decode mRF_canBe.2.1 112 = .ok (.getfield 85, 3) := by decide +kernel
theorem dRF_canBe_115 : decode mRF_canBe.2.1 115 = .ok (.if_icmp .ge 192, 3) := by decide +kernel
theorem dRF_canBe_118 : decode mRF_canBe.2.1 118 = .ok (.iconst 0, 1) := by decide +kernel
theorem dRF_canBe_119 : decode mRF_canBe.2.1 119 = .ok (.istore 10, 2) := by decide +kernel
theorem dRF_canBe_121 : decode mRF_canBe.2.1 121 = .ok (.iload 10, 2) := by decide +kernel
theorem dRF_canBe_123 : decode mRF_canBe.2.1 123 = .ok (.iload 6, 2) := by decide +kernel
theorem dRF_canBe_125 : decode mRF_canBe.2.1 125 = .ok (.iconst (-1), 1) := by decide +kernel
theorem dRF_canBe_126 : decode mRF_canBe.2.1 126 = .ok (.if_icmp .ne 7, 3) := by decide +kernel
theorem dRF_canBe_129 : decode mRF_canBe.2.1 129 = .ok (.iconst 1, 1) := by decide +kernel
theorem dRF_canBe_130 : decode mRF_canBe.2.1 130 = .ok (.goto 7, 3) := by decide +kernel
theorem dRF_canBe_133 : decode mRF_canBe.2.1 133 = .ok (.aload_n 0, 1) := by decide +kernel
theorem dRF_canBe_134 : decode mRF_canBe.2.1 134 = .ok (.getfield 85, 3) := by decide +kernel
theorem dRF_canBe_137 : decode mRF_canBe.2.1 137 = .ok (.if_icmp .ge 164, 3) := by decide +kernel
theorem dRF_canBe_140 : decode mRF_canBe.2.1 140 = .ok (.aload_n 0, 1) := by decide +kernel
theorem dRF_canBe_141 : decode mRF_canBe.2.1 141 = .ok (.iload 5, 2) := by decide +kernel
theorem dRF_canBe_143 : decode mRF_canBe.2.1 143 = .ok (.iload 9, 2) := by decide +kernel
theorem dRF_canBe_145 : decode mRF_canBe.2.1 145 = .ok (.iload_n 2, 1) := by decide +kernel
theorem dRF_canBe_146 : decode mRF_canBe.2.1 146 = .ok (.iload_n 3, 1) := by decide +kernel
theorem dRF_canBe_147 : decode mRF_canBe.2.1 147 = .ok (.invokevirtual 153, 3) := by decide +kernel
theorem dRF_canBe_150 : decode mRF_canBe.2.1 150 = .ok (.ifCond .eq 151, 3) := by decide +kernel
theorem dRF_canBe_153 : decode mRF_canBe.2.1 153 = .ok (.iload 6, 2) := by decide +kernel
theorem dRF_canBe_155 : decode mRF_canBe.2.1 155 = .ok (.iconst (-1), 1) := by decide +kernel
theorem dRF_canBe_156 : decode mRF_canBe.2.1 156 = .ok (.if_icmp .eq 33, 3) := by decide +kernel
theorem dRF_canBe_159 : decode mRF_canBe.2.1 159 = .ok (.aload_n 0, 1) := by decide +kernel
theorem dRF_canBe_160 : decode mRF_canBe.2.1 160 = .ok (.iload 6, 2) := by decide +kernel
theorem dRF_canBe_162 : decode mRF_canBe.2.1 162 = .ok (.iload 10, 2) := by decide +kernel
theorem dRF_canBe_164 : decode mRF_canBe.2.1 164 = .ok (.iload_n 2, 1) := by decide +kernel
theorem dRF_canBe_165 : decode mRF_canBe.2.1 165 = .ok (.iload_n 3, 1) := by decide +kernel
theorem dRF_canBe_166 : decode mRF_canBe.2.1 166 = .ok (.invokevirtual 153, 3) := by decide +kernel
theorem dRF_canBe_169 : decode mRF_canBe.2.1 169 = .ok (.ifCond .eq 126, 3) := by decide +kernel
theorem dRF_canBe_172 : decode mRF_canBe.2.1 172 = .ok (.iload 5, 2) := by decide +kernel
theorem dRF_canBe_174 : decode mRF_canBe.2.1 174 = .ok (.iload 6, 2) := by decide +kernel
theorem dRF_canBe_176 : decode mRF_canBe.2.1 176 = .ok (.iload 9, 2) := by decide +kernel
theorem dRF_canBe_178 : decode mRF_canBe.2.1 178 = .ok (.iload 10, 2) := by decide +kernel
theorem dRF_canBe_180 : decode mRF_canBe.2.1 180 = .ok (.invokestatic 157, 3) := by decide +kernel
theorem dRF_canBe_183 : decode mRF_canBe.2.1 183 = .ok (.ifCond .eq 6, 3) := by decide +kernel
theorem dRF_canBe_186 : decode mRF_canBe.2.1 186 = .ok (.goto 109, 3) := by decide +kernel
theorem dRF_canBe_189 : decode mRF_canBe.2.1 189 = .ok (.iconst 0, 1) := by decide +kernel
theorem dRF_canBe_190 : decode mRF_canBe.2.1 190 = .ok (.istore 11, 2) := by decide +kernel
theorem dRF_canBe_192 : decode mRF_canBe.2.1 192 = .ok (.iload 11, 2) := by decide +kernel
theorem dRF_canBe_194 : decode mRF_canBe.2.1 194 = .ok (.iload 8, 2) := by decide +kernel
theorem dRF_canBe_196 : decode mRF_canBe.2.1 196 = .ok (.iconst (-1), 1) := by decide +kernel
theorem dRF_canBe_197 : decode mRF_canBe.2.1 197 = .ok (.if_icmp .ne 7, 3) := by decide +kernel
theorem dRF_canBe_200 : decode mRF_canBe.2.1 200 = .ok (.iconst 1, 1) := by decide +kernel
theorem dRF_canBe_201 : decode mRF_canBe.2.1 201 = .ok (.goto 7, 3) := by decide +kernel
theorem dRF_canBe_204 : decode mRF_canBe.2.1 204 = .ok (.aload_n 0, 1) := by decide +kernel
theorem dRF_canBe_205 : decode mRF_canBe.2.1 205 = .ok (.getfield 85, 3) := by decide +kernel
theorem dRF_canBe_208 : decode mRF_canBe.2.1 208 = .ok (.if_icmp .ge 87, 3) := by decide +kernel
theorem dRF_canBe_211 : decode mRF_canBe.2.1 211 = .ok (.iload 8, 2) := by decide +kernel
theorem dRF_canBe_213 : decode mRF_canBe.2.1 213 = .ok (.iconst (-1), 1) := by decide +kernel
theorem dRF_canBe_214 : decode mRF_canBe.2.1 214 = .ok (.if_icmp .eq 47, 3) := by decide +kernel
theorem dRF_canBe_217 : decode mRF_canBe.2.1 217 = .ok (.aload_n 0, 1) := by decide +kernel
theorem dRF_canBe_218 : decode mRF_canBe.2.1 218 = .ok (.iload 8, 2) := by decide +kernel
theorem dRF_canBe_220 : decode mRF_canBe.2.1 220 = .ok (.iload 11, 2) := by decide +kernel
theorem dRF_canBe_222 : decode mRF_canBe.2.1 222 = .ok (.iload_n 2, 1) := by decide +kernel
theorem dRF_canBe_223 : decode mRF_canBe.2.1 223 = .ok (.iload_n 3, 1) := by decide +kernel
theorem dRF_canBe_224 : decode mRF_canBe.2.1 224 = .ok (.invokevirtual 153, 3) := by decide +kernel
theorem dRF_canBe_227 : decode mRF_canBe.2.1 227 = .ok (.ifCond .eq 62, 3) := by decide +kernel
theorem dRF_canBe_230 : decode mRF_canBe.2.1 230 = .ok (.iload 5, 2) := by decide +kernel
theorem dRF_canBe_232 : decode mRF_canBe.2.1 232 = .ok (.iload 8, 2) := by decide +kernel
theorem dRF_canBe_234 : decode mRF_canBe.2.1 234 = .ok (.iload 9, 2) := by decide +kernel
theorem dRF_canBe_236 : decode mRF_canBe.2.1 236 = .ok (.iload 11, 2) := by decide +kernel
theorem dRF_canBe_238 : decode mRF_canBe.2.1 238 = .ok (.invokestatic 157, 3) := by decide +kernel
theorem dRF_canBe_241 : decode mRF_canBe.2.1 241 = .ok (.ifCond .ne 48, 3) := by decide +kernel
theorem dRF_canBe_244 : decode mRF_canBe.2.1 244 = .ok (.iload 6, 2) := by decide +kernel
theorem dRF_canBe_246 : decode mRF_canBe.2.1 246 = .ok (.iload 8, 2) := by decide +kernel
theorem dRF_canBe_248 : decode mRF_canBe.2.1 248 = .ok (.iload 10, 2) := by decide +kernel
theorem dRF_canBe_250 : decode mRF_canBe.2.1 250 = .ok (.iload 11, 2) := by decide +kernel
theorem dRF_canBe_252 : decode mRF_canBe.2.1 252 = .ok (.invokestatic 157, 3) := by decide +kernel
theorem dRF_canBe_255 : decode mRF_canBe.2.1 255 = .ok (.ifCond .eq 6, 3) := by decide +kernel
theorem dRF_canBe_258 : decode mRF_canBe.2.1 258 = .ok (.goto 31, 3) := by decide +kernel
theorem dRF_canBe_261 : decode mRF_canBe.2.1 261 = .ok (.aload_n 0, 1) := by decide +kernel
theorem dRF_canBe_262 : decode mRF_canBe.2.1 262 = .ok (.iload 4, 2) := by decide +kernel
theorem dRF_canBe_264 : decode mRF_canBe.2.1 264 = .ok (.iload 9, 2) := by decide +kernel
theorem dRF_canBe_266 : decode mRF_canBe.2.1 266 = .ok (.iload 10, 2) := by decide +kernel
theorem dRF_canBe_268 : decode mRF_canBe.2.1 268 = .ok (.iload 11, 2) := by decide +kernel
theorem dRF_canBe_270 : decode mRF_canBe.2.1 270 = .ok (.aload_n 0, 1) := by decide +kernel
theorem dRF_canBe_271 : decode mRF_canBe.2.1 271 = .ok (.getfield 47, 3) := by decide +kernel
theorem dRF_canBe_274 : decode mRF_canBe.2.1 274 = .ok (.bipush 6, 2) := by decide +kernel
theorem dRF_canBe_276 : decode mRF_canBe.2.1 276 = .ok (.iload_n 1, 1) := by decide +kernel
theorem dRF_canBe_277 : decode mRF_canBe.2.1 277 = .ok (.imul, 1) := by decide +kernel
theorem dRF_canBe_278 : decode mRF_canBe.2.1 278 = .ok (.iconst 4, 1) := by decide +kernel
theorem dRF_canBe_279 : decode mRF_canBe.2.1 279 = .ok (.iadd, 1) := by decide +kernel
theorem dRF_canBe_280 : decode mRF_canBe.2.1 280 = .ok (.iaload, 1) := by decide +kernel
theorem dRF_canBe_281 : decode mRF_canBe.2.1 281 = .ok (.invokevirtual 127, 3) := by decide +kernel
theorem dRF_canBe_284 : decode mRF_canBe.2.1 284 = .ok (.ifCond .eq 5, 3) := by decide +kernel
theorem dRF_canBe_287 : decode mRF_canBe.2.1 287 = .ok (.iconst 1, 1) := by decide +kernel
theorem dRF_canBe_288 : decode mRF_canBe.2.1 288 = .ok (.ireturn, 1) := by decide +kernel
theorem dRF_canBe_289 : decode mRF_canBe.2.1 289 = .ok (.iinc 11 1, 3) := by decide +kernel
theorem dRF_canBe_292 : decode mRF_canBe.2.1 292 = .ok (.goto (-100), 3) := by decide +kernel
theorem dRF_canBe_295 : decode mRF_canBe.2.1 295 = .ok (.iinc 10 1, 3) := by decide +kernel
theorem dRF_canBe_298 : decode mRF_canBe.2.1 298 = .ok (.goto (-177), 3) := by decide +kernel
theorem dRF_canBe_301 : decode mRF_canBe.2.1 301 = .ok (.iinc 9 1, 3) := by decide +kernel
theorem dRF_canBe_304 : decode mRF_canBe.2.1 304 = .ok (.goto (-195), 3) := by decide +kernel
theorem dRF_canBe_307 : decode mRF_canBe.2.1 307 = .ok (.iconst 0, 1) := by decide +kernel
theorem dRF_canBe_308 : decode mRF_canBe.2.1 308 = .ok (.ireturn, 1) := by decide +kernel
theorem dRF_mayBe_0 : decode mRF_mayBe.2.1 0 = .ok (.iload_n 1, 1) := by decide +kernel
theorem dRF_mayBe_1 : decode mRF_mayBe.2.1 1 = .ok (.iload_n 3, 1) := by decide +kernel
theorem dRF_mayBe_2 : decode mRF_mayBe.2.1 2 = .ok (.if_icmp .ne 17, 3) := by decide +kernel
theorem dRF_mayBe_5 : decode mRF_mayBe.2.1 5 = .ok (.iload_n 2, 1) := by decide +kernel
theorem dRF_mayBe_6 : decode mRF_mayBe.2.1 6 = .ok (.iload 4, 2) := by decide +kernel
theorem dRF_mayBe_8 : decode mRF_mayBe.2.1 8 = .ok (.if_icmp .ne 7, 3) := by decide +kernel
theorem dRF_mayBe_11 : decode mRF_mayBe.2.1 11 = .ok (.iconst 1, 1) := by decide +kernel
theorem dRF_mayBe_12 : decode mRF_mayBe.2.1 12 = .ok (.goto 26, 3) := by decide +kernel
theorem dRF_mayBe_15 : decode mRF_mayBe.2.1 15 = .ok (.iconst 0, 1) := by decide +kernel
theorem dRF_mayBe_16 : decode mRF_mayBe.2.1 16 = .ok (.goto 22, 3) := by decide +kernel
theorem dRF_mayBe_19 : decode mRF_mayBe.2.1 19 = .ok (.aload_n 0, 1) := by decide +kernel
theorem dRF_mayBe_20 : decode mRF_mayBe.2.1 20 = .ok (.getfield 62, 3) := by decide +kernel
theorem dRF_mayBe_23 : decode mRF_mayBe.2.1 23 = .ok (.iload_n 1, 1) := by decide +kernel
theorem dRF_mayBe_24 : decode mRF_mayBe.2.1 24 = .ok (.iaload, 1) := by decide +kernel
theorem dRF_mayBe_25 : decode mRF_mayBe.2.1 25 = .ok (.iload_n 2, 1) := by decide +kernel
theorem dRF_mayBe_26 : decode mRF_mayBe.2.1 26 = .ok (.ishr, 1) := by decide +kernel
theorem dRF_mayBe_27 : decode mRF_mayBe.2.1 27 = .ok (.iconst 1, 1) := by decide +kernel
theorem dRF_mayBe_28 : decode mRF_mayBe.2.1 28 = .ok (.iand, 1) := by decide +kernel
theorem dRF_mayBe_29 : decode mRF_mayBe.2.1 29 = .ok (.iconst 1, 1) := by decide +kernel
theorem dRF_mayBe_30 : decode mRF_mayBe.2.1 30 = .ok (.if_icmp .ne 7, 3) := by decide +kernel
theorem dRF_mayBe_33 : decode mRF_mayBe.2.1 33 = .ok (.iconst 1, 1) := by decide +kernel
theorem dRF_mayBe_34 : decode mRF_mayBe.2.1 34 = .ok (.goto 4, 3) := by decide +kernel
theorem dRF_mayBe_37 : decode mRF_mayBe.2.1 37 = .ok (.iconst 0, 1) := by decide +kernel
theorem dRF_mayBe_38 : decode mRF_mayBe.2.1 38 = .ok (.ireturn, 1) := by decide +kernel
theorem dRF_clash_0 : decode mRF_clash.2.1 0 = .ok (.iload_n 0, 1) := by decide +kernel
theorem dRF_clash_1 : decode mRF_clash.2.1 1 = .ok (.iconst 5, 1) := by decide +kernel
theorem dRF_clash_2 : decode mRF_clash.2.1 2 = .ok (.idiv, 1) := by decide +kernel
theorem dRF_clash_3 : decode mRF_clash.2.1 3 = .ok (.iload_n 1, 1) := by decide +kernel
theorem dRF_clash_4 : decode mRF_clash.2.1 4 = .ok (.iconst 5, 1) := by decide +kernel
theorem dRF_clash_5 : decode mRF_clash.2.1 5 = .ok (.idiv, 1) := by decide +kernel
theorem dRF_clash_6 : decode mRF_clash.2.1 6 = .ok (.if_icmp .ne 12, 3) := by decide +kernel
theorem dRF_clash_9 : decode mRF_clash.2.1 9 = .ok (.iload_n 2, 1) := by decide +kernel
theorem dRF_clash_10 : decode mRF_clash.2.1 10 = .ok (.iload_n 3, 1) := by decide +kernel
theorem dRF_clash_11 : decode mRF_clash.2.1 11 = .ok (.if_icmp .ne 7, 3) := by decide +kernel
theorem dRF_clash_14 : decode mRF_clash.2.1 14 = .ok (.iconst 1, 1) := by decide +kernel
theorem dRF_clash_15 : decode mRF_clash.2.1 15 = .ok (.goto 4, 3) := by decide +kernel
theorem dRF_clash_18 : decode mRF_clash.2.1 18 = .ok (.iconst 0, 1) := by decide +kernel
theorem dRF_clash_19 : decode mRF_clash.2.1 19 = .ok (.ireturn, 1) := by decide +kernel
theorem dRF_step_0 : decode mRF_step.2.1 0 = .ok (.aload_n 0, 1) := by decide +kernel
theorem dRF_step_1 : decode mRF_step.2.1 1 = .ok (.iconst 0, 1) := by decide +kernel
theorem dRF_step_2 : decode mRF_step.2.1 2 = .ok (.putfield 94, 3) := by decide +kernel
theorem dRF_step_5 : decode mRF_step.2.1 5 = .ok (.iload_n 1, 1) := by decide +kernel
theorem dRF_step_6 : decode mRF_step.2.1 6 = .ok (.ifCond .lt 20, 3) := by decide +kernel
theorem dRF_step_9 : decode mRF_step.2.1 9 = .ok (.iload_n 1, 1) := by decide +kernel
theorem dRF_step_10 : decode mRF_step.2.1 10 = .ok (.aload_n 0, 1) := by decide +kernel
theorem dRF_step_11 : decode mRF_step.2.1 11 = .ok (.getfield 199, 3) := by decide +kernel
theorem dRF_step_14 : decode mRF_step.2.1 14 = .ok (.if_icmp .ge 12, 3) := by decide +kernel
theorem dRF_step_17 : decode mRF_step.2.1 17 = .ok (.iload_n 2, 1) := by decide +kernel
theorem dRF_step_18 : decode mRF_step.2.1 18 = .ok (.ifCond .lt 8, 3) := by decide +kernel
theorem dRF_step_21 : decode mRF_step.2.1 21 = .ok (.iload_n 2, 1) := by decide +kernel
theorem dRF_step_22 : decode mRF_step.2.1 22 = .ok (.iconst 3, 1) := by decide +kernel
theorem dRF_step_23 : decode mRF_step.2.1 23 = .ok (.if_icmp .le 7, 3) := by decide +kernel
theorem dRF_step_26 : decode mRF_step.2.1 26 = .ok (.iconst (-1), 1) := by decide +kernel
theorem dRF_step_27 : decode mRF_step.2.1 27 = .ok (.goto 13, 3) := by decide +kernel
theorem dRF_step_30 : decode mRF_step.2.1 30 = .ok (.aload_n 0, 1) := by decide +kernel
theorem dRF_step_31 : decode mRF_step.2.1 31 = .ok (.getfield 59, 3) := by decide +kernel
theorem dRF_step_34 : decode mRF_step.2.1 34 = .ok (.iconst 4, 1) := by decide +kernel
theorem dRF_step_35 : decode mRF_step.2.1 35 = .ok (.iload_n 1, 1) := by decide +kernel
theorem dRF_step_36 : decode mRF_step.2.1 36 = .ok (.imul, 1) := by decide +kernel
theorem dRF_step_37 : decode mRF_step.2.1 37 = .ok (.iload_n 2, 1) := by decide +kernel
theorem dRF_step_38 : decode mRF_step.2.1 38 = .ok (.iadd, 1) := by decide +kernel
theorem dRF_step_39 : decode mRF_step.2.1 39 = .ok (.iaload, 1) := by decide +kernel
theorem dRF_step_40 : decode mRF_step.2.1 40 = .ok (.ireturn, 1) := by decide +kernel
theorem dRF_may_0 : decode mRF_may.2.1 0 = .ok (.aload_n 0, 1) := by decide +kernel
theorem dRF_may_1 : decode mRF_may.2.1 1 = .ok (.iconst 0, 1) := by decide +kernel
theorem dRF_may_2 : decode mRF_may.2.1 2 = .ok (.putfield 94, 3) := by decide +kernel
theorem dRF_may_5 : decode mRF_may.2.1 5 = .ok (.aload_n 0, 1) := by decide +kernel
theorem dRF_may_6 : decode mRF_may.2.1 6 = .ok (.iload_n 1, 1) := by decide +kernel
theorem dRF_may_7 : decode mRF_may.2.1 7 = .ok (.invokevirtual 97, 3) := by decide +kernel
theorem dRF_may_10 : decode mRF_may.2.1 10 = .ok (.ifCond .eq 15, 3) := by decide +kernel
theorem dRF_may_13 : decode mRF_may.2.1 13 = .ok (.aload_n 0, 1) := by decide +kernel
theorem dRF_may_14 : decode mRF_may.2.1 14 = .ok (.getfield 65, 3) := by decide +kernel
theorem dRF_may_17 : decode mRF_may.2.1 17 = .ok (.iload_n 1, 1) := by decide +kernel
theorem dRF_may_18 : decode mRF_may.2.1 18 = .ok (.invokestatic 123, 3) := by decide +kernel
theorem dRF_may_21 : decode mRF_may.2.1 21 = .ok (.iaload, 1) := by decide +kernel
theorem dRF_may_22 : decode mRF_may.2.1 22 = .ok (.goto 4, 3) := by decide +kernel
theorem dRF_may_25 : decode mRF_may.2.1 25 = .ok (.iconst 0, 1) := by decide +kernel
theorem dRF_may_26 : decode mRF_may.2.1 26 = .ok (.ireturn, 1) := by decide +kernel
theorem dRF_rating_0 : decode mRF_rating.2.1 0 = .ok (.aload_n 0, 1) := by decide +kernel
theorem dRF_rating_1 : decode mRF_rating.2.1 1 = .ok (.iconst 0, 1) := by decide +kernel
theorem dRF_rating_2 : decode mRF_rating.2.1 2 = .ok (.putfield 94, 3) := by decide +kernel
theorem dRF_rating_5 : decode mRF_rating.2.1 5 = .ok (.aload_n 0, 1) := by decide +kernel
theorem dRF_rating_6 : decode mRF_rating.2.1 6 = .ok (.invokevirtual 202, 3) := by decide +kernel
theorem dRF_rating_9 : decode mRF_rating.2.1 9 = .ok (.ireturn, 1) := by decide +kernel
theorem dRF_rated_0 : decode mRF_rated.2.1 0 = .ok (.aload_n 0, 1) := by decide +kernel
theorem dRF_rated_1 : decode mRF_rated.2.1 1 = .ok (.invokevirtual 196, 3) := by decide +kernel
theorem dRF_rated_4 : decode mRF_rated.2.1 4 = .ok (.iconst 0, 1) := by decide +kernel
theorem dRF_rated_5 : decode mRF_rated.2.1 5 = .ok (.istore_n 1, 1) := by decide +kernel
theorem dRF_rated_6 : decode mRF_rated.2.1 6 = .ok (.iconst 0, 1) := by decide +kernel
theorem dRF_rated_7 : decode mRF_rated.2.1 7 = .ok (.istore_n 2, 1) := by decide +kernel
theorem dRF_rated_8 : decode mRF_rated.2.1 8 = .ok (.iload_n 2, 1) := by decide +kernel
theorem dRF_rated_9 : decode mRF_rated.2.1 9 = .ok (.aload_n 0, 1) := by decide +kernel
theorem dRF_rated_10 : decode mRF_rated.2.1 10 = .ok (.getfield 180, 3) := by decide +kernel
theorem dRF_rated_13 : decode mRF_rated.2.1 13 = .ok (.if_icmp .ge 34, 3) := by decide +kernel
theorem dRF_rated_16 : decode mRF_rated.2.1 16 = .ok (.aload_n 0, 1) := by decide +kernel
theorem dRF_rated_17 : decode mRF_rated.2.1 17 = .ok (.getfield 56, 3) := by decide +kernel
theorem dRF_rated_20 : decode mRF_rated.2.1 20 = .ok (.iconst 4, 1) := by decide +kernel
theorem dRF_rated_21 : decode mRF_rated.2.1 21 = .ok (.iload_n 2, 1) := by decide +kernel
theorem dRF_rated_22 : decode mRF_rated.2.1 22 = .ok (.imul, 1) := by decide +kernel
theorem dRF_rated_23 : decode mRF_rated.2.1 23 = .ok (.iaload, 1) := by decide +kernel
theorem dRF_rated_24 : decode mRF_rated.2.1 24 = .ok (.iload_n 1, 1) := by decide +kernel
theorem dRF_rated_25 : decode mRF_rated.2.1 25 = .ok (.if_icmp .le 14, 3) := by decide +kernel
theorem dRF_rated_28 : decode mRF_rated.2.1 28 = .ok (.aload_n 0, 1) := by decide +kernel
theorem dRF_rated_29 : decode mRF_rated.2.1 29 = .ok (.getfield 56, 3) := by decide +kernel
theorem dRF_rated_32 : decode mRF_rated.2.1 32 = .ok (.iconst 4, 1) := by decide +kernel
theorem dRF_rated_33 : decode mRF_rated.2.1 33 = .ok (.iload_n 2, 1) := by decide +kernel
theorem dRF_rated_34 : decode mRF_rated.2.1 34 = .ok (.imul, 1) := by decide +kernel
theorem dRF_rated_35 : decode mRF_rated.2.1 35 = .ok (.iaload, 1) := by decide +kernel
theorem dRF_rated_36 : decode mRF_rated.2.1 36 = .ok (.goto 4, 3) := by decide +kernel
theorem dRF_rated_39 : decode mRF_rated.2.1 39 = .ok (.iload_n 1, 1) := by decide +kernel
theorem dRF_rated_40 : decode mRF_rated.2.1 40 = .ok (.istore_n 1, 1) := by decide +kernel
theorem dRF_rated_41 : decode mRF_rated.2.1 41 = .ok (.iinc 2 1, 3) := by decide +kernel
theorem dRF_rated_44 : decode mRF_rated.2.1 44 = .ok (.goto (-36), 3) := by decide +kernel
theorem dRF_rated_47 : decode mRF_rated.2.1 47 = .ok (.iconst 0, 1) := by decide +kernel
theorem dRF_rated_48 : decode mRF_rated.2.1 48 = .ok (.istore_n 2, 1) := by decide +kernel
theorem dRF_rated_49 : decode mRF_rated.2.1 49 = .ok (.iload_n 2, 1) := by decide +kernel
theorem dRF_rated_50 : decode mRF_rated.2.1 50 = .ok (.iconst 5, 1) := by decide +kernel
theorem dRF_rated_51 : decode mRF_rated.2.1 51 = .ok (.aload_n 0, 1) := by decide +kernel
theorem dRF_rated_52 : decode mRF_rated.2.1 52 = .ok (.getfield 88, 3) := by decide +kernel
theorem dRF_rated_55 : decode mRF_rated.2.1 55 = .ok (.imul, 1) := by decide +kernel
theorem dRF_rated_56 : decode mRF_rated.2.1 56 = .ok (.if_icmp .ge 34, 3) := by decide +kernel
theorem dRF_rated_59 : decode mRF_rated.2.1 59 = .ok (.iload_n 2, 1) := by decide +kernel
theorem dRF_rated_60 : decode mRF_rated.2.1 60 = .ok (.iconst 5, 1) := by decide +kernel
theorem dRF_rated_61 : decode mRF_rated.2.1 61 = .ok (.irem, 1) := by decide +kernel
theorem dRF_rated_62 : decode mRF_rated.2.1 62 = .ok (.aload_n 0, 1) := by decide +kernel
theorem dRF_rated_63 : decode mRF_rated.2.1 63 = .ok (.getfield 85, 3) := by decide +kernel
theorem dRF_rated_66 : decode mRF_rated.2.1 66 = .ok (.if_icmp .ge 18, 3) := by decide +kernel
theorem dRF_rated_69 : decode mRF_rated.2.1 69 = .ok (.aload_n 0, 1) := by decide +kernel
theorem dRF_rated_70 : decode mRF_rated.2.1 70 = .ok (.getfield 62, 3) := by decide +kernel
theorem dRF_rated_73 : decode mRF_rated.2.1 73 = .ok (.iload_n 2, 1) := by decide +kernel
theorem dRF_rated_74 : decode mRF_rated.2.1 74 = .ok (.iaload, 1) := by decide +kernel
theorem dRF_rated_75 : decode mRF_rated.2.1 75 = .ok (.invokestatic 150, 3) := by decide +kernel
theorem dRF_rated_78 : decode mRF_rated.2.1 78 = .ok (.iconst 1, 1) := by decide +kernel
theorem dRF_rated_79 : decode mRF_rated.2.1 79 = .ok (.if_icmp .eq 5, 3) := by decide +kernel
theorem dRF_rated_82 : decode mRF_rated.2.1 82 = .ok (.iconst 0, 1) := by decide +kernel
theorem dRF_rated_83 : decode mRF_rated.2.1 83 = .ok (.ireturn, 1) := by decide +kernel
theorem dRF_rated_84 : decode mRF_rated.2.1 84 = .ok (.iinc 2 1, 3) := by decide +kernel
theorem dRF_rated_87 : decode mRF_rated.2.1 87 = .ok (.goto (-38), 3) := by decide +kernel
theorem dRF_rated_90 : decode mRF_rated.2.1 90 = .ok (.iload_n 1, 1) := by decide +kernel
theorem dRF_rated_91 : decode mRF_rated.2.1 91 = .ok (.ireturn, 1) := by decide +kernel
theorem dRF_make_0 : decode mRF_make.2.1 0 = .ok (.aload_n 0, 1) := by decide +kernel
theorem dRF_make_1 : decode mRF_make.2.1 1 = .ok (.iload_n 1, 1) := by decide +kernel
theorem dRF_make_2 : decode mRF_make.2.1 2 = .ok (.iconst 1, 1) := by decide +kernel
theorem dRF_make_3 : decode mRF_make.2.1 3 = .ok (.if_icmp .lt 19, 3) := by decide +kernel
theorem dRF_make_6 : decode mRF_make.2.1 6 = .ok (.iload_n 1, 1) := by decide +kernel
theorem dRF_make_7 : decode mRF_make.2.1 7 = .ok (.ldc 233, 2) := by decide +kernel
theorem dRF_make_9 : decode mRF_make.2.1 9 = .ok (.if_icmp .gt 13, 3) := by decide +kernel
theorem dRF_make_12 : decode mRF_make.2.1 12 = .ok (.iload_n 2, 1) := by decide +kernel
theorem dRF_make_13 : decode mRF_make.2.1 13 = .ok (.iconst 1, 1) := by decide +kernel
theorem dRF_make_14 : decode mRF_make.2.1 14 = .ok (.if_icmp .lt 8, 3) := by decide +kernel
theorem dRF_make_17 : decode mRF_make.2.1 17 = .ok (.iload_n 2, 1) := by decide +kernel
theorem dRF_make_18 : decode mRF_make.2.1 18 = .ok (.iconst 5, 1) := by decide +kernel
theorem dRF_make_19 : decode mRF_make.2.1 19 = .ok (.if_icmp .le 7, 3) := by decide +kernel
theorem dRF_make_22 : decode mRF_make.2.1 22 = .ok (.iconst 1, 1) := by decide +kernel
theorem dRF_make_23 : decode mRF_make.2.1 23 = .ok (.goto 4, 3) := by decide +kernel
theorem dRF_make_26 : decode mRF_make.2.1 26 = .ok (.iconst 0, 1) := by decide +kernel
theorem dRF_make_27 : decode mRF_make.2.1 27 = .ok (.putfield 94, 3) := by decide +kernel
theorem dRF_make_30 : decode mRF_make.2.1 30 = .ok (.aload_n 0, 1) := by decide +kernel
theorem dRF_make_31 : decode mRF_make.2.1 31 = .ok (.getfield 94, 3) := by decide +kernel
theorem dRF_make_34 : decode mRF_make.2.1 34 = .ok (.ifCond .le 5, 3) := by decide +kernel
theorem dRF_make_37 : decode mRF_make.2.1 37 = .ok (.iconst 0, 1) := by decide +kernel
theorem dRF_make_38 : decode mRF_make.2.1 38 = .ok (.ireturn, 1) := by decide +kernel
theorem dRF_make_39 : decode mRF_make.2.1 39 = .ok (.aload_n 0, 1) := by decide +kernel
theorem dRF_make_40 : decode mRF_make.2.1 40 = .ok (.aload_n 0, 1) := by decide +kernel
theorem dRF_make_41 : decode mRF_make.2.1 41 = .ok (.getfield 101, 3) := by decide +kernel
theorem dRF_make_44 : decode mRF_make.2.1 44 = .ok (.putfield 234, 3) := by decide +kernel
theorem dRF_make_47 : decode mRF_make.2.1 47 = .ok (.iconst 0, 1) := by decide +kernel
theorem dRF_make_48 : decode mRF_make.2.1 48 = .ok (.istore_n 3, 1) := by decide +kernel
theorem dRF_make_49 : decode mRF_make.2.1 49 = .ok (.iload_n 3, 1) := by decide +kernel
theorem dRF_make_50 : decode mRF_make.2.1 50 = .ok (.sipush 180, 3) := by decide +kernel
theorem dRF_make_53 : decode mRF_make.2.1 53 = .ok (.if_icmp .ge 21, 3) := by decide +kernel
theorem dRF_make_56 : decode mRF_make.2.1 56 = .ok (.aload_n 0, 1) := by decide +kernel
theorem dRF_make_57 : decode mRF_make.2.1 57 = .ok (.getfield 50, 3) := by decide +kernel
theorem dRF_make_60 : decode mRF_make.2.1 60 = .ok (.iload_n 3, 1) := by decide +kernel
theorem dRF_make_61 : decode mRF_make.2.1 61 = .ok (.aload_n 0, 1) := by decide +kernel
theorem dRF_make_62 : decode mRF_make.2.1 62 = .ok (.getfield 47, 3) := by decide +kernel
theorem dRF_make_65 : decode mRF_make.2.1 65 = .ok (.iload_n 3, 1) := by decide +kernel
theorem dRF_make_66 : decode mRF_make.2.1 66 = .ok (.iaload, 1) := by decide +kernel
theorem dRF_make_67 : decode mRF_make.2.1 67 = .ok (.iastore, 1) := by decide +kernel
theorem dRF_make_68 : decode mRF_make.2.1 68 = .ok (.iinc 3 1, 3) := by decide +kernel
theorem dRF_make_71 : decode mRF_make.2.1 71 = .ok (.goto (-22), 3) := by decide +kernel
theorem dRF_make_74 : decode mRF_make.2.1 74 = .ok (.aload_n 0, 1) := by decide +kernel
theorem dRF_make_75 : decode mRF_make.2.1 75 = .ok (.iload_n 1, 1) := by decide +kernel
theorem dRF_make_76 : decode mRF_make.2.1 76 = .ok (.i2l, 1) := by decide +kernel
theorem dRF_make_77 : decode mRF_make.2.1 77 = .ok (.putfield 207, 3) := by decide +kernel
theorem dRF_make_80 : decode mRF_make.2.1 80 = .ok (.iconst 1, 1) := by decide +kernel
theorem dRF_make_81 : decode mRF_make.2.1 81 = .ok (.istore_n 3, 1) := by decide +kernel
theorem dRF_make_82 : decode mRF_make.2.1 82 = .ok (.iload_n 3, 1) := by decide +kernel
theorem dRF_make_83 : decode mRF_make.2.1 83 = .ok (.iconst 5, 1) := by decide +kernel
theorem dRF_make_84 : decode mRF_make.2.1 84 = .ok (.if_icmp .ge 31, 3) := by decide +kernel
theorem dRF_make_87 : decode mRF_make.2.1 87 = .ok (.aload_n 0, 1) := by decide +kernel
theorem dRF_make_88 : decode mRF_make.2.1 88 = .ok (.invokevirtual 237, 3) := by decide +kernel
theorem dRF_make_91 : decode mRF_make.2.1 91 = .ok (.aload_n 0, 1) := by decide +kernel
theorem dRF_make_92 : decode mRF_make.2.1 92 = .ok (.iconst (-1), 1) := by decide +kernel
theorem dRF_make_93 : decode mRF_make.2.1 93 = .ok (.invokevirtual 147, 3) := by decide +kernel
theorem dRF_make_96 : decode mRF_make.2.1 96 = .ok (.ifCond .ne 13, 3) := by decide +kernel
theorem dRF_make_99 : decode mRF_make.2.1 99 = .ok (.aload_n 0, 1) := by decide +kernel
theorem dRF_make_100 : decode mRF_make.2.1 100 = .ok (.invokevirtual 202, 3) := by decide +kernel
theorem dRF_make_103 : decode mRF_make.2.1 103 = .ok (.iload_n 2, 1) := by decide +kernel
theorem dRF_make_104 : decode mRF_make.2.1 104 = .ok (.if_icmp .ne 5, 3) := by decide +kernel
theorem dRF_make_107 : decode mRF_make.2.1 107 = .ok (.iload_n 3, 1) := by decide +kernel
theorem dRF_make_108 : decode mRF_make.2.1 108 = .ok (.ireturn, 1) := by decide +kernel
theorem dRF_make_109 : decode mRF_make.2.1 109 = .ok (.iinc 3 1, 3) := by decide +kernel
theorem dRF_make_112 : decode mRF_make.2.1 112 = .ok (.goto (-30), 3) := by decide +kernel
theorem dRF_make_115 : decode mRF_make.2.1 115 = .ok (.aload_n 0, 1) := by decide +kernel
theorem dRF_make_116 : decode mRF_make.2.1 116 = .ok (.aload_n 0, 1) := by decide +kernel
theorem dRF_make_117 : decode mRF_make.2.1 117 = .ok (.getfield 234, 3) := by decide +kernel
theorem dRF_make_120 : decode mRF_make.2.1 120 = .ok (.putfield 101, 3) := by decide +kernel
theorem dRF_make_123 : decode mRF_make.2.1 123 = .ok (.iconst 0, 1) := by decide +kernel
theorem dRF_make_124 : decode mRF_make.2.1 124 = .ok (.istore_n 3, 1) := by decide +kernel
theorem dRF_make_125 : decode mRF_make.2.1 125 = .ok (.iload_n 3, 1) := by decide +kernel
theorem dRF_make_126 : decode mRF_make.2.1 126 = .ok (.sipush 180, 3) := by decide +kernel
theorem dRF_make_129 : decode mRF_make.2.1 129 = .ok (.if_icmp .ge 21, 3) := by decide +kernel
theorem dRF_make_132 : decode mRF_make.2.1 132 = .ok (.aload_n 0, 1) := by decide +kernel
theorem dRF_make_133 : decode mRF_make.2.1 133 = .ok (.getfield 47, 3) := by decide +kernel
theorem dRF_make_136 : decode mRF_make.2.1 136 = .ok (.iload_n 3, 1) := by decide +kernel
theorem dRF_make_137 : decode mRF_make.2.1 137 = .ok (.aload_n 0, 1) := by decide +kernel
theorem dRF_make_138 : decode mRF_make.2.1 138 = .ok (.getfield 50, 3) := by decide +kernel
theorem dRF_make_141 : decode mRF_make.2.1 141 = .ok (.iload_n 3, 1) := by decide +kernel
theorem dRF_make_142 : decode mRF_make.2.1 142 = .ok (.iaload, 1) := by decide +kernel
theorem dRF_make_143 : decode mRF_make.2.1 143 = .ok (.iastore, 1) := by decide +kernel
theorem dRF_make_144 : decode mRF_make.2.1 144 = .ok (.iinc 3 1, 3) := by decide +kernel
theorem dRF_make_147 : decode mRF_make.2.1 147 = .ok (.goto (-22), 3) := by decide +kernel
theorem dRF_make_150 : decode mRF_make.2.1 150 = .ok (.iconst 0, 1) := by decide +kernel
theorem dRF_make_151 : decode mRF_make.2.1 151 = .ok (.ireturn, 1) := by decide +kernel
theorem dRF_once_0 : decode mRF_once.2.1 0 = .ok (.iconst 0, 1) := by decide +kernel
theorem dRF_once_1 : decode mRF_once.2.1 1 = .ok (.istore_n 1, 1) := by decide +kernel
theorem dRF_once_2 : decode mRF_once.2.1 2 = .ok (.iload_n 1, 1) := by decide +kernel
theorem dRF_once_3 : decode mRF_once.2.1 3 = .ok (.aload_n 0, 1) := by decide +kernel
theorem dRF_once_4 : decode mRF_once.2.1 4 = .ok (.getfield 88, 3) := by decide +kernel
theorem dRF_once_7 : decode mRF_once.2.1 7 = .ok (.if_icmp .ge 73, 3) := by decide +kernel
theorem dRF_once_10 : decode mRF_once.2.1 10 = .ok (.iconst 0, 1) := by decide +kernel
theorem dRF_once_11 : decode mRF_once.2.1 11 = .ok (.istore_n 2, 1) := by decide +kernel
theorem dRF_once_12 : decode mRF_once.2.1 12 = .ok (.iload_n 2, 1) := by decide +kernel
theorem dRF_once_13 : decode mRF_once.2.1 13 = .ok (.aload_n 0, 1) := by decide +kernel
theorem dRF_once_14 : decode mRF_once.2.1 14 = .ok (.getfield 85, 3) := by decide +kernel
theorem dRF_once_17 : decode mRF_once.2.1 17 = .ok (.if_icmp .ge 20, 3) := by decide +kernel
theorem dRF_once_20 : decode mRF_once.2.1 20 = .ok (.aload_n 0, 1) := by decide +kernel
theorem dRF_once_21 : decode mRF_once.2.1 21 = .ok (.getfield 53, 3) := by decide +kernel
theorem dRF_once_24 : decode mRF_once.2.1 24 = .ok (.iconst 5, 1) := by decide +kernel
theorem dRF_once_25 : decode mRF_once.2.1 25 = .ok (.iload_n 1, 1) := by decide +kernel
theorem dRF_once_26 : decode mRF_once.2.1 26 = .ok (.imul, 1) := by decide +kernel
theorem dRF_once_27 : decode mRF_once.2.1 27 = .ok (.iload_n 2, 1) := by decide +kernel
theorem dRF_once_28 : decode mRF_once.2.1 28 = .ok (.iadd, 1) := by decide +kernel
theorem dRF_once_29 : decode mRF_once.2.1 29 = .ok (.iload_n 2, 1) := by decide +kernel
theorem dRF_once_30 : decode mRF_once.2.1 30 = .ok (.iastore, 1) := by decide +kernel
theorem dRF_once_31 : decode mRF_once.2.1 31 = .ok (.iinc 2 1, 3) := by decide +kernel
theorem dRF_once_34 : decode mRF_once.2.1 34 = .ok (.goto (-22), 3) := by decide +kernel
theorem dRF_once_37 : decode mRF_once.2.1 37 = .ok (.aload_n 0, 1) := by decide +kernel
theorem dRF_once_38 : decode mRF_once.2.1 38 = .ok (.getfield 85, 3) := by decide +kernel
theorem dRF_once_41 : decode mRF_once.2.1 41 = .ok (.iconst 1, 1) := by decide +kernel
theorem dRF_once_42 : decode mRF_once.2.1 42 = .ok (.isub, 1) := by decide +kernel
theorem dRF_once_43 : decode mRF_once.2.1 43 = .ok (.istore_n 2, 1) := by decide +kernel
theorem dRF_once_44 : decode mRF_once.2.1 44 = .ok (.iload_n 2, 1) := by decide +kernel
theorem dRF_once_45 : decode mRF_once.2.1 45 = .ok (.ifCond .le 29, 3) := by decide +kernel
theorem dRF_once_48 : decode mRF_once.2.1 48 = .ok (.aload_n 0, 1) := by decide +kernel
theorem dRF_once_49 : decode mRF_once.2.1 49 = .ok (.iconst 5, 1) := by decide +kernel
theorem dRF_once_50 : decode mRF_once.2.1 50 = .ok (.iload_n 1, 1) := by decide +kernel
theorem dRF_once_51 : decode mRF_once.2.1 51 = .ok (.imul, 1) := by decide +kernel
theorem dRF_once_52 : decode mRF_once.2.1 52 = .ok (.iload_n 2, 1) := by decide +kernel
theorem dRF_once_53 : decode mRF_once.2.1 53 = .ok (.iadd, 1) := by decide +kernel
theorem dRF_once_54 : decode mRF_once.2.1 54 = .ok (.iconst 5, 1) := by decide +kernel
theorem dRF_once_55 : decode mRF_once.2.1 55 = .ok (.iload_n 1, 1) := by decide +kernel
theorem dRF_once_56 : decode mRF_once.2.1 56 = .ok (.imul, 1) := by decide +kernel
theorem dRF_once_57 : decode mRF_once.2.1 57 = .ok (.aload_n 0, 1) := by decide +kernel
theorem dRF_once_58 : decode mRF_once.2.1 58 = .ok (.iload_n 2, 1) := by decide +kernel
theorem dRF_once_59 : decode mRF_once.2.1 59 = .ok (.iconst 1, 1) := by decide +kernel
theorem dRF_once_60 : decode mRF_once.2.1 60 = .ok (.iadd, 1) := by decide +kernel
theorem dRF_once_61 : decode mRF_once.2.1 61 = .ok (.invokevirtual 224, 3) := by decide +kernel
theorem dRF_once_64 : decode mRF_once.2.1 64 = .ok (.iadd, 1) := by decide +kernel
theorem dRF_once_65 : decode mRF_once.2.1 65 = .ok (.invokevirtual 227, 3) := by decide +kernel
theorem dRF_once_68 : decode mRF_once.2.1 68 = .ok (.iinc 2 (-1), 3) := by decide +kernel
theorem dRF_once_71 : decode mRF_once.2.1 71 = .ok (.goto (-27), 3) := by decide +kernel
theorem dRF_once_74 : decode mRF_once.2.1 74 = .ok (.iinc 1 1, 3) := by decide +kernel
theorem dRF_once_77 : decode mRF_once.2.1 77 = .ok (.goto (-75), 3) := by decide +kernel
theorem dRF_once_80 : decode mRF_once.2.1 80 = .ok (.aload_n 0, 1) := by decide +kernel
theorem dRF_once_81 : decode mRF_once.2.1 81 = .ok (.invokevirtual 230, 3) := by decide +kernel
theorem dRF_once_84 : decode mRF_once.2.1 84 = .ok (.aload_n 0, 1) := by decide +kernel
theorem dRF_once_85 : decode mRF_once.2.1 85 = .ok (.getfield 213, 3) := by decide +kernel
theorem dRF_once_88 : decode mRF_once.2.1 88 = .ok (.iconst 1, 1) := by decide +kernel
theorem dRF_once_89 : decode mRF_once.2.1 89 = .ok (.isub, 1) := by decide +kernel
theorem dRF_once_90 : decode mRF_once.2.1 90 = .ok (.istore_n 1, 1) := by decide +kernel
theorem dRF_once_91 : decode mRF_once.2.1 91 = .ok (.iload_n 1, 1) := by decide +kernel
theorem dRF_once_92 : decode mRF_once.2.1 92 = .ok (.ifCond .le 74, 3) := by decide +kernel
theorem dRF_once_95 : decode mRF_once.2.1 95 = .ok (.aload_n 0, 1) := by decide +kernel
theorem dRF_once_96 : decode mRF_once.2.1 96 = .ok (.iload_n 1, 1) := by decide +kernel
theorem dRF_once_97 : decode mRF_once.2.1 97 = .ok (.iconst 1, 1) := by decide +kernel
theorem dRF_once_98 : decode mRF_once.2.1 98 = .ok (.iadd, 1) := by decide +kernel
theorem dRF_once_99 : decode mRF_once.2.1 99 = .ok (.invokevirtual 224, 3) := by decide +kernel
theorem dRF_once_102 : decode mRF_once.2.1 102 = .ok (.istore_n 2, 1) := by decide +kernel
theorem dRF_once_103 : decode mRF_once.2.1 103 = .ok (.iconst 0, 1) := by decide +kernel
theorem dRF_once_104 : decode mRF_once.2.1 104 = .ok (.istore_n 3, 1) := by decide +kernel
theorem dRF_once_105 : decode mRF_once.2.1 105 = .ok (.iload_n 3, 1) := by decide +kernel
theorem dRF_once_106 : decode mRF_once.2.1 106 = .ok (.iconst 5, 1) := by decide +kernel
theorem dRF_once_107 : decode mRF_once.2.1 107 = .ok (.if_icmp .ge 53, 3) := by decide +kernel
theorem dRF_once_110 : decode mRF_once.2.1 110 = .ok (.aload_n 0, 1) := by decide +kernel
theorem dRF_once_111 : decode mRF_once.2.1 111 = .ok (.getfield 82, 3) := by decide +kernel
theorem dRF_once_114 : decode mRF_once.2.1 114 = .ok (.iconst 5, 1) := by decide +kernel
theorem dRF_once_115 : decode mRF_once.2.1 115 = .ok (.iload_n 1, 1) := by decide +kernel
theorem dRF_once_116 : decode mRF_once.2.1 116 = .ok (.imul, 1) := by decide +kernel
theorem dRF_once_117 : decode mRF_once.2.1 117 = .ok (.iload_n 3, 1) := by decide +kernel
theorem dRF_once_118 : decode mRF_once.2.1 118 = .ok (.iadd, 1) := by decide +kernel
theorem dRF_once_119 : decode mRF_once.2.1 119 = .ok (.iaload, 1) := by decide +kernel
theorem dRF_once_120 : decode mRF_once.2.1 120 = .ok (.istore 4, 2) := by decide +kernel
theorem dRF_once_122 : decode mRF_once.2.1 122 = .ok (.aload_n 0, 1) := by decide +kernel
theorem dRF_once_123 : decode mRF_once.2.1 123 = .ok (.getfield 82, 3) := by decide +kernel
theorem dRF_once_126 : decode mRF_once.2.1 126 = .ok (.iconst 5, 1) := by decide +kernel
theorem dRF_once_127 : decode mRF_once.2.1 127 = .ok (.iload_n 1, 1) := by decide +kernel
theorem dRF_once_128 : decode mRF_once.2.1 128 = .ok (.imul, 1) := by decide +kernel
theorem dRF_once_129 : decode mRF_once.2.1 129 = .ok (.iload_n 3, 1) := by decide +kernel
theorem dRF_once_130 : decode mRF_once.2.1 130 = .ok (.iadd, 1) := by decide +kernel
theorem dRF_once_131 : decode mRF_once.2.1 131 = .ok (.aload_n 0, 1) := by decide +kernel
theorem dRF_once_132 : decode mRF_once.2.1 132 = .ok (.getfield 82, 3) := by decide +kernel
theorem dRF_once_135 : decode mRF_once.2.1 135 = .ok (.iconst 5, 1) := by decide +kernel
theorem dRF_once_136 : decode mRF_once.2.1 136 = .ok (.iload_n 2, 1) := by decide +kernel
theorem dRF_once_137 : decode mRF_once.2.1 137 = .ok (.imul, 1) := by decide +kernel
theorem dRF_once_138 : decode mRF_once.2.1 138 = .ok (.iload_n 3, 1) := by decide +kernel
theorem dRF_once_139 : decode mRF_once.2.1 139 = .ok (.iadd, 1) := by decide +kernel
theorem dRF_once_140 : decode mRF_once.2.1 140 = .ok (.iaload, 1) := by decide +kernel
theorem dRF_once_141 : decode mRF_once.2.1 141 = .ok (.iastore, 1) := by decide +kernel
theorem dRF_once_142 : decode mRF_once.2.1 142 = .ok (.aload_n 0, 1) := by decide +kernel
theorem dRF_once_143 : decode mRF_once.2.1 143 = .ok (.getfield 82, 3) := by decide +kernel
theorem dRF_once_146 : decode mRF_once.2.1 146 = .ok (.iconst 5, 1) := by decide +kernel
theorem dRF_once_147 : decode mRF_once.2.1 147 = .ok (.iload_n 2, 1) := by decide +kernel
theorem dRF_once_148 : decode mRF_once.2.1 148 = .ok (.imul, 1) := by decide +kernel
theorem dRF_once_149 : decode mRF_once.2.1 149 = .ok (.iload_n 3, 1) := by decide +kernel
theorem dRF_once_150 : decode mRF_once.2.1 150 = .ok (.iadd, 1) := by decide +kernel
theorem dRF_once_151 : decode mRF_once.2.1 151 = .ok (.iload 4, 2) := by decide +kernel
theorem dRF_once_153 : decode mRF_once.2.1 153 = .ok (.iastore, 1) := by decide +kernel
theorem dRF_once_154 : decode mRF_once.2.1 154 = .ok (.iinc 3 1, 3) := by decide +kernel
theorem dRF_once_157 : decode mRF_once.2.1 157 = .ok (.goto (-52), 3) := by decide +kernel
theorem dRF_once_160 : decode mRF_once.2.1 160 = .ok (.iinc 1 (-1), 3) := by decide +kernel
theorem dRF_once_163 : decode mRF_once.2.1 163 = .ok (.goto (-72), 3) := by decide +kernel
theorem dRF_once_166 : decode mRF_once.2.1 166 = .ok (.aload_n 0, 1) := by decide +kernel
theorem dRF_once_167 : decode mRF_once.2.1 167 = .ok (.aload_n 0, 1) := by decide +kernel
theorem dRF_once_168 : decode mRF_once.2.1 168 = .ok (.getfield 213, 3) := by decide +kernel
theorem dRF_once_171 : decode mRF_once.2.1 171 = .ok (.bipush 24, 2) := by decide +kernel
theorem dRF_once_173 : decode mRF_once.2.1 173 = .ok (.if_icmp .ge 10, 3) := by decide +kernel
theorem dRF_once_176 : decode mRF_once.2.1 176 = .ok (.aload_n 0, 1) := by decide +kernel
theorem dRF_once_177 : decode mRF_once.2.1 177 = .ok (.getfield 213, 3) := by decide +kernel
theorem dRF_once_180 : decode mRF_once.2.1 180 = .ok (.goto 5, 3) := by decide +kernel
theorem dRF_once_183 : decode mRF_once.2.1 183 = .ok (.bipush 24, 2) := by decide +kernel
theorem dRF_once_185 : decode mRF_once.2.1 185 = .ok (.putfield 101, 3) := by decide +kernel
theorem dRF_once_188 : decode mRF_once.2.1 188 = .ok (.iconst 0, 1) := by decide +kernel
theorem dRF_once_189 : decode mRF_once.2.1 189 = .ok (.istore_n 1, 1) := by decide +kernel
theorem dRF_once_190 : decode mRF_once.2.1 190 = .ok (.iload_n 1, 1) := by decide +kernel
theorem dRF_once_191 : decode mRF_once.2.1 191 = .ok (.aload_n 0, 1) := by decide +kernel
theorem dRF_once_192 : decode mRF_once.2.1 192 = .ok (.getfield 101, 3) := by decide +kernel
theorem dRF_once_195 : decode mRF_once.2.1 195 = .ok (.if_icmp .ge 63, 3) := by decide +kernel
theorem dRF_once_198 : decode mRF_once.2.1 198 = .ok (.aload_n 0, 1) := by decide +kernel
theorem dRF_once_199 : decode mRF_once.2.1 199 = .ok (.iload_n 1, 1) := by decide +kernel
theorem dRF_once_200 : decode mRF_once.2.1 200 = .ok (.aload_n 0, 1) := by decide +kernel
theorem dRF_once_201 : decode mRF_once.2.1 201 = .ok (.getfield 82, 3) := by decide +kernel
theorem dRF_once_204 : decode mRF_once.2.1 204 = .ok (.iconst 5, 1) := by decide +kernel
theorem dRF_once_205 : decode mRF_once.2.1 205 = .ok (.iload_n 1, 1) := by decide +kernel
theorem dRF_once_206 : decode mRF_once.2.1 206 = .ok (.imul, 1) := by decide +kernel
theorem dRF_once_207 : decode mRF_once.2.1 207 = .ok (.iaload, 1) := by decide +kernel
theorem dRF_once_208 : decode mRF_once.2.1 208 = .ok (.aload_n 0, 1) := by decide +kernel
theorem dRF_once_209 : decode mRF_once.2.1 209 = .ok (.getfield 82, 3) := by decide +kernel
theorem dRF_once_212 : decode mRF_once.2.1 212 = .ok (.iconst 5, 1) := by decide +kernel
theorem dRF_once_213 : decode mRF_once.2.1 213 = .ok (.iload_n 1, 1) := by decide +kernel
theorem dRF_once_214 : decode mRF_once.2.1 214 = .ok (.imul, 1) := by decide +kernel
theorem dRF_once_215 : decode mRF_once.2.1 215 = .ok (.iconst 1, 1) := by decide +kernel
theorem dRF_once_216 : decode mRF_once.2.1 216 = .ok (.iadd, 1) := by decide +kernel
theorem dRF_once_217 : decode mRF_once.2.1 217 = .ok (.iaload, 1) := by decide +kernel
theorem dRF_once_218 : decode mRF_once.2.1 218 = .ok (.aload_n 0, 1) := by decide +kernel
theorem dRF_once_219 : decode mRF_once.2.1 219 = .ok (.getfield 82, 3) := by decide +kernel
theorem dRF_once_222 : decode mRF_once.2.1 222 = .ok (.iconst 5, 1) := by decide +kernel
theorem dRF_once_223 : decode mRF_once.2.1 223 = .ok (.iload_n 1, 1) := by decide +kernel
theorem dRF_once_224 : decode mRF_once.2.1 224 = .ok (.imul, 1) := by decide +kernel
theorem dRF_once_225 : decode mRF_once.2.1 225 = .ok (.iconst 2, 1) := by decide +kernel
theorem dRF_once_226 : decode mRF_once.2.1 226 = .ok (.iadd, 1) := by decide +kernel
theorem dRF_once_227 : decode mRF_once.2.1 227 = .ok (.iaload, 1) := by decide +kernel
theorem dRF_once_228 : decode mRF_once.2.1 228 = .ok (.aload_n 0, 1) := by decide +kernel
theorem dRF_once_229 : decode mRF_once.2.1 229 = .ok (.getfield 82, 3) := by decide +kernel
theorem dRF_once_232 : decode mRF_once.2.1 232 = .ok (.iconst 5, 1) := by decide +kernel
theorem dRF_once_233 : decode mRF_once.2.1 233 = .ok (.iload_n 1, 1) := by decide +kernel
theorem dRF_once_234 : decode mRF_once.2.1 234 = .ok (.imul, 1) := by decide +kernel
theorem dRF_once_235 : decode mRF_once.2.1 235 = .ok (.iconst 3, 1) := by decide +kernel
theorem dRF_once_236 : decode mRF_once.2.1 236 = .ok (.iadd, 1) := by decide +kernel
theorem dRF_once_237 : decode mRF_once.2.1 237 = .ok (.iaload, 1) := by decide +kernel
theorem dRF_once_238 : decode mRF_once.2.1 238 = .ok (.aload_n 0, 1) := by decide +kernel
theorem dRF_once_239 : decode mRF_once.2.1 239 = .ok (.getfield 82, 3) := by decide +kernel
theorem dRF_once_242 : decode mRF_once.2.1 242 = .ok (.iconst 5, 1) := by decide +kernel
theorem dRF_once_243 : decode mRF_once.2.1 243 = .ok (.iload_n 1, 1) := by decide +kernel
theorem dRF_once_244 : decode mRF_once.2.1 244 = .ok (.imul, 1) := by decide +kernel
theorem dRF_once_245 : decode mRF_once.2.1 245 = .ok (.iconst 4, 1) := by decide +kernel
theorem dRF_once_246 : decode mRF_once.2.1 246 = .ok (.iadd, 1) := by decide +kernel
theorem dRF_once_247 : decode mRF_once.2.1 247 = .ok (.iaload, 1) := by decide +kernel
theorem dRF_once_248 : decode mRF_once.2.1 248 = .ok (.iconst (-1), 1) := by decide +kernel
theorem dRF_once_249 : decode mRF_once.2.1 249 = .ok (.invokevirtual 111, 3) := by decide +kernel
theorem dRF_once_252 : decode mRF_once.2.1 252 = .ok (.iinc 1 1, 3) := by decide +kernel
theorem dRF_once_255 : decode mRF_once.2.1 255 = .ok (.goto (-65), 3) := by decide +kernel
theorem dRF_once_258 : decode mRF_once.2.1 258 = .ok (.aload_n 0, 1) := by decide +kernel
theorem dRF_once_259 : decode mRF_once.2.1 259 = .ok (.iconst (-1), 1) := by decide +kernel
theorem dRF_once_260 : decode mRF_once.2.1 260 = .ok (.invokevirtual 147, 3) := by decide +kernel
theorem dRF_once_263 : decode mRF_once.2.1 263 = .ok (.ifCond .eq 4, 3) := by decide +kernel
theorem dRF_once_266 : decode mRF_once.2.1 266 = .ok (.return_, 1) := by decide +kernel
theorem dRF_once_267 : decode mRF_once.2.1 267 = .ok (.aload_n 0, 1) := by decide +kernel
theorem dRF_once_268 : decode mRF_once.2.1 268 = .ok (.getfield 101, 3) := by decide +kernel
theorem dRF_once_271 : decode mRF_once.2.1 271 = .ok (.iconst 1, 1) := by decide +kernel
theorem dRF_once_272 : decode mRF_once.2.1 272 = .ok (.isub, 1) := by decide +kernel
theorem dRF_once_273 : decode mRF_once.2.1 273 = .ok (.istore_n 1, 1) := by decide +kernel
theorem dRF_once_274 : decode mRF_once.2.1 274 = .ok (.iload_n 1, 1) := by decide +kernel
theorem dRF_once_275 : decode mRF_once.2.1 275 = .ok (.ifCond .lt 22, 3) := by decide +kernel
theorem dRF_once_278 : decode mRF_once.2.1 278 = .ok (.aload_n 0, 1) := by decide +kernel
theorem dRF_once_279 : decode mRF_once.2.1 279 = .ok (.iload_n 1, 1) := by decide +kernel
theorem dRF_once_280 : decode mRF_once.2.1 280 = .ok (.invokevirtual 147, 3) := by decide +kernel
theorem dRF_once_283 : decode mRF_once.2.1 283 = .ok (.ifCond .ne 8, 3) := by decide +kernel
theorem dRF_once_286 : decode mRF_once.2.1 286 = .ok (.aload_n 0, 1) := by decide +kernel
theorem dRF_once_287 : decode mRF_once.2.1 287 = .ok (.iload_n 1, 1) := by decide +kernel
theorem dRF_once_288 : decode mRF_once.2.1 288 = .ok (.invokevirtual 115, 3) := by decide +kernel
theorem dRF_once_291 : decode mRF_once.2.1 291 = .ok (.iinc 1 (-1), 3) := by decide +kernel
theorem dRF_once_294 : decode mRF_once.2.1 294 = .ok (.goto (-20), 3) := by decide +kernel
theorem dRF_once_297 : decode mRF_once.2.1 297 = .ok (.return_, 1) := by decide +kernel
theorem dRF_draw_0 : decode mRF_draw.2.1 0 = .ok (.aload_n 0, 1) := by decide +kernel
theorem dRF_draw_1 : decode mRF_draw.2.1 1 = .ok (.ldc2_w 205, 3) := by decide +kernel
theorem dRF_draw_4 : decode mRF_draw.2.1 4 = .ok (.aload_n 0, 1) := by decide +kernel
theorem dRF_draw_5 : decode mRF_draw.2.1 5 = .ok (.getfield 207, 3) := by decide +kernel
theorem dRF_draw_8 : decode mRF_draw.2.1 8 = .ok (.lmul, 1) := by decide +kernel
theorem dRF_draw_9 : decode mRF_draw.2.1 9 = .ok (.ldc2_w 211, 3) := by decide +kernel
theorem dRF_draw_12 : decode mRF_draw.2.1 12 = .ok (.lrem, 1) := by decide +kernel
theorem dRF_draw_13 : decode mRF_draw.2.1 13 = .ok (.putfield 207, 3) := by decide +kernel
theorem dRF_draw_16 : decode mRF_draw.2.1 16 = .ok (.aload_n 0, 1) := by decide +kernel
theorem dRF_draw_17 : decode mRF_draw.2.1 17 = .ok (.getfield 207, 3) := by decide +kernel
theorem dRF_draw_20 : decode mRF_draw.2.1 20 = .ok (.iload_n 1, 1) := by decide +kernel
theorem dRF_draw_21 : decode mRF_draw.2.1 21 = .ok (.i2l, 1) := by decide +kernel
theorem dRF_draw_22 : decode mRF_draw.2.1 22 = .ok (.lrem, 1) := by decide +kernel
theorem dRF_draw_23 : decode mRF_draw.2.1 23 = .ok (.l2i, 1) := by decide +kernel
theorem dRF_draw_24 : decode mRF_draw.2.1 24 = .ok (.ireturn, 1) := by decide +kernel
theorem dRF_swapPlaces_0 : decode mRF_swapPlaces.2.1 0 = .ok (.aload_n 0, 1) := by decide +kernel
theorem dRF_swapPlaces_1 : decode mRF_swapPlaces.2.1 1 = .ok (.getfield 53, 3) := by decide +kernel
theorem dRF_swapPlaces_4 : decode mRF_swapPlaces.2.1 4 = .ok (.iload_n 1, 1) := by decide +kernel
theorem dRF_swapPlaces_5 : decode mRF_swapPlaces.2.1 5 = .ok (.iaload, 1) := by decide +kernel
theorem dRF_swapPlaces_6 : decode mRF_swapPlaces.2.1 6 = .ok (.istore_n 3, 1) := by decide +kernel
theorem dRF_swapPlaces_7 : decode mRF_swapPlaces.2.1 7 = .ok (.aload_n 0, 1) := by decide +kernel
theorem dRF_swapPlaces_8 : decode mRF_swapPlaces.2.1 8 = .ok (.getfield 53, 3) := by decide +kernel
theorem dRF_swapPlaces_11 : decode mRF_swapPlaces.2.1 11 = .ok (.iload_n 1, 1) := by decide +kernel
theorem dRF_swapPlaces_12 : decode mRF_swapPlaces.2.1 12 = .ok (.aload_n 0, 1) := by decide +kernel
theorem dRF_swapPlaces_13 : decode mRF_swapPlaces.2.1 13 = .ok (.getfield 53, 3) := by decide +kernel
theorem dRF_swapPlaces_16 : decode mRF_swapPlaces.2.1 16 = .ok (.iload_n 2, 1) := by decide +kernel
theorem dRF_swapPlaces_17 : decode mRF_swapPlaces.2.1 17 = .ok (.iaload, 1) := by decide +kernel
theorem dRF_swapPlaces_18 : decode mRF_swapPlaces.2.1 18 = .ok (.iastore, 1) := by decide +kernel
theorem dRF_swapPlaces_19 : decode mRF_swapPlaces.2.1 19 = .ok (.aload_n 0, 1) := by decide +kernel
theorem dRF_swapPlaces_20 : decode mRF_swapPlaces.2.1 20 = .ok (.getfield 53, 3) := by decide +kernel
theorem dRF_swapPlaces_23 : decode mRF_swapPlaces.2.1 23 = .ok (.iload_n 2, 1) := by decide +kernel
theorem dRF_swapPlaces_24 : decode mRF_swapPlaces.2.1 24 = .ok (.iload_n 3, 1) := by decide +kernel
theorem dRF_swapPlaces_25 : decode mRF_swapPlaces.2.1 25 = .ok (.iastore, 1) := by decide +kernel
theorem dRF_swapPlaces_26 : decode mRF_swapPlaces.2.1 26 = .ok (.return_, 1) := by decide +kernel
theorem dRF_gather_0 : decode mRF_gather.2.1 0 = .ok (.aload_n 0, 1) := by decide +kernel
theorem dRF_gather_1 : decode mRF_gather.2.1 1 = .ok (.iconst 0, 1) := by decide +kernel
theorem dRF_gather_2 : decode mRF_gather.2.1 2 = .ok (.putfield 213, 3) := by decide +kernel
theorem dRF_gather_5 : decode mRF_gather.2.1 5 = .ok (.iconst 0, 1) := by decide +kernel
theorem dRF_gather_6 : decode mRF_gather.2.1 6 = .ok (.istore_n 1, 1) := by decide +kernel
theorem dRF_gather_7 : decode mRF_gather.2.1 7 = .ok (.iload_n 1, 1) := by decide +kernel
theorem dRF_gather_8 : decode mRF_gather.2.1 8 = .ok (.bipush 7, 2) := by decide +kernel
theorem dRF_gather_10 : decode mRF_gather.2.1 10 = .ok (.if_icmp .ge 184, 3) := by decide +kernel
theorem dRF_gather_13 : decode mRF_gather.2.1 13 = .ok (.bipush 10, 2) := by decide +kernel
theorem dRF_gather_15 : decode mRF_gather.2.1 15 = .ok (.istore_n 2, 1) := by decide +kernel
theorem dRF_gather_16 : decode mRF_gather.2.1 16 = .ok (.iload_n 2, 1) := by decide +kernel
theorem dRF_gather_17 : decode mRF_gather.2.1 17 = .ok (.bipush 10, 2) := by decide +kernel
theorem dRF_gather_19 : decode mRF_gather.2.1 19 = .ok (.aload_n 0, 1) := by decide +kernel
theorem dRF_gather_20 : decode mRF_gather.2.1 20 = .ok (.getfield 88, 3) := by decide +kernel
theorem dRF_gather_23 : decode mRF_gather.2.1 23 = .ok (.imul, 1) := by decide +kernel
theorem dRF_gather_24 : decode mRF_gather.2.1 24 = .ok (.aload_n 0, 1) := by decide +kernel
theorem dRF_gather_25 : decode mRF_gather.2.1 25 = .ok (.getfield 85, 3) := by decide +kernel
theorem dRF_gather_28 : decode mRF_gather.2.1 28 = .ok (.iadd, 1) := by decide +kernel
theorem dRF_gather_29 : decode mRF_gather.2.1 29 = .ok (.if_icmp .ge 159, 3) := by decide +kernel
theorem dRF_gather_32 : decode mRF_gather.2.1 32 = .ok (.aload_n 0, 1) := by decide +kernel
theorem dRF_gather_33 : decode mRF_gather.2.1 33 = .ok (.iload_n 2, 1) := by decide +kernel
theorem dRF_gather_34 : decode mRF_gather.2.1 34 = .ok (.invokevirtual 97, 3) := by decide +kernel
theorem dRF_gather_37 : decode mRF_gather.2.1 37 = .ok (.ifCond .ne 6, 3) := by decide +kernel
theorem dRF_gather_40 : decode mRF_gather.2.1 40 = .ok (.goto 142, 3) := by decide +kernel
theorem dRF_gather_43 : decode mRF_gather.2.1 43 = .ok (.iload_n 1, 1) := by decide +kernel
theorem dRF_gather_44 : decode mRF_gather.2.1 44 = .ok (.iconst 5, 1) := by decide +kernel
theorem dRF_gather_45 : decode mRF_gather.2.1 45 = .ok (.if_icmp .ge 9, 3) := by decide +kernel
theorem dRF_gather_48 : decode mRF_gather.2.1 48 = .ok (.aload_n 0, 1) := by decide +kernel
theorem dRF_gather_49 : decode mRF_gather.2.1 49 = .ok (.iload_n 1, 1) := by decide +kernel
theorem dRF_gather_50 : decode mRF_gather.2.1 50 = .ok (.iload_n 2, 1) := by decide +kernel
theorem dRF_gather_51 : decode mRF_gather.2.1 51 = .ok (.invokevirtual 220, 3) := by decide +kernel
theorem dRF_gather_54 : decode mRF_gather.2.1 54 = .ok (.bipush 10, 2) := by decide +kernel
theorem dRF_gather_56 : decode mRF_gather.2.1 56 = .ok (.istore_n 3, 1) := by decide +kernel
theorem dRF_gather_57 : decode mRF_gather.2.1 57 = .ok (.iload_n 1, 1) := by decide +kernel
theorem dRF_gather_58 : decode mRF_gather.2.1 58 = .ok (.iconst 5, 1) := by decide +kernel
theorem dRF_gather_59 : decode mRF_gather.2.1 59 = .ok (.if_icmp .ne 91, 3) := by decide +kernel
theorem dRF_gather_62 : decode mRF_gather.2.1 62 = .ok (.iload_n 3, 1) := by decide +kernel
theorem dRF_gather_63 : decode mRF_gather.2.1 63 = .ok (.bipush 10, 2) := by decide +kernel
theorem dRF_gather_65 : decode mRF_gather.2.1 65 = .ok (.aload_n 0, 1) := by decide +kernel
theorem dRF_gather_66 : decode mRF_gather.2.1 66 = .ok (.getfield 88, 3) := by decide +kernel
theorem dRF_gather_69 : decode mRF_gather.2.1 69 = .ok (.imul, 1) := by decide +kernel
theorem dRF_gather_70 : decode mRF_gather.2.1 70 = .ok (.aload_n 0, 1) := by decide +kernel
theorem dRF_gather_71 : decode mRF_gather.2.1 71 = .ok (.getfield 85, 3) := by decide +kernel
theorem dRF_gather_74 : decode mRF_gather.2.1 74 = .ok (.iadd, 1) := by decide +kernel
theorem dRF_gather_75 : decode mRF_gather.2.1 75 = .ok (.if_icmp .ge 75, 3) := by decide +kernel
theorem dRF_gather_78 : decode mRF_gather.2.1 78 = .ok (.iload_n 3, 1) := by decide +kernel
theorem dRF_gather_79 : decode mRF_gather.2.1 79 = .ok (.iconst 1, 1) := by decide +kernel
theorem dRF_gather_80 : decode mRF_gather.2.1 80 = .ok (.iadd, 1) := by decide +kernel
theorem dRF_gather_81 : decode mRF_gather.2.1 81 = .ok (.istore 4, 2) := by decide +kernel
theorem dRF_gather_83 : decode mRF_gather.2.1 83 = .ok (.iload 4, 2) := by decide +kernel
theorem dRF_gather_85 : decode mRF_gather.2.1 85 = .ok (.bipush 10, 2) := by decide +kernel
theorem dRF_gather_87 : decode mRF_gather.2.1 87 = .ok (.aload_n 0, 1) := by decide +kernel
theorem dRF_gather_88 : decode mRF_gather.2.1 88 = .ok (.getfield 88, 3) := by decide +kernel
theorem dRF_gather_91 : decode mRF_gather.2.1 91 = .ok (.imul, 1) := by decide +kernel
theorem dRF_gather_92 : decode mRF_gather.2.1 92 = .ok (.aload_n 0, 1) := by decide +kernel
theorem dRF_gather_93 : decode mRF_gather.2.1 93 = .ok (.getfield 85, 3) := by decide +kernel
theorem dRF_gather_96 : decode mRF_gather.2.1 96 = .ok (.iadd, 1) := by decide +kernel
theorem dRF_gather_97 : decode mRF_gather.2.1 97 = .ok (.if_icmp .ge 47, 3) := by decide +kernel
theorem dRF_gather_100 : decode mRF_gather.2.1 100 = .ok (.aload_n 0, 1) := by decide +kernel
theorem dRF_gather_101 : decode mRF_gather.2.1 101 = .ok (.iload_n 3, 1) := by decide +kernel
theorem dRF_gather_102 : decode mRF_gather.2.1 102 = .ok (.invokevirtual 97, 3) := by decide +kernel
theorem dRF_gather_105 : decode mRF_gather.2.1 105 = .ok (.ifCond .eq 33, 3) := by decide +kernel
theorem dRF_gather_108 : decode mRF_gather.2.1 108 = .ok (.aload_n 0, 1) := by decide +kernel
theorem dRF_gather_109 : decode mRF_gather.2.1 109 = .ok (.iload 4, 2) := by decide +kernel
theorem dRF_gather_111 : decode mRF_gather.2.1 111 = .ok (.invokevirtual 97, 3) := by decide +kernel
theorem dRF_gather_114 : decode mRF_gather.2.1 114 = .ok (.ifCond .eq 24, 3) := by decide +kernel
theorem dRF_gather_117 : decode mRF_gather.2.1 117 = .ok (.iload_n 2, 1) := by decide +kernel
theorem dRF_gather_118 : decode mRF_gather.2.1 118 = .ok (.iload_n 3, 1) := by decide +kernel
theorem dRF_gather_119 : decode mRF_gather.2.1 119 = .ok (.if_icmp .eq 19, 3) := by decide +kernel
theorem dRF_gather_122 : decode mRF_gather.2.1 122 = .ok (.iload_n 2, 1) := by decide +kernel
theorem dRF_gather_123 : decode mRF_gather.2.1 123 = .ok (.iload 4, 2) := by decide +kernel
theorem dRF_gather_125 : decode mRF_gather.2.1 125 = .ok (.if_icmp .eq 13, 3) := by decide +kernel
theorem dRF_gather_128 : decode mRF_gather.2.1 128 = .ok (.aload_n 0, 1) := by decide +kernel
theorem dRF_gather_129 : decode mRF_gather.2.1 129 = .ok (.iconst 5, 1) := by decide +kernel
theorem dRF_gather_130 : decode mRF_gather.2.1 130 = .ok (.iload_n 2, 1) := by decide +kernel
theorem dRF_gather_131 : decode mRF_gather.2.1 131 = .ok (.iload_n 3, 1) := by decide +kernel
theorem dRF_gather_132 : decode mRF_gather.2.1 132 = .ok (.iload 4, 2) := by decide +kernel
theorem dRF_gather_134 : decode mRF_gather.2.1 134 = .ok (.iconst 0, 1) := by decide +kernel
theorem dRF_gather_135 : decode mRF_gather.2.1 135 = .ok (.invokevirtual 216, 3) := by decide +kernel
theorem dRF_gather_138 : decode mRF_gather.2.1 138 = .ok (.iinc 4 1, 3) := by decide +kernel
theorem dRF_gather_141 : decode mRF_gather.2.1 141 = .ok (.goto (-58), 3) := by decide +kernel
theorem dRF_gather_144 : decode mRF_gather.2.1 144 = .ok (.iinc 3 1, 3) := by decide +kernel
theorem dRF_gather_147 : decode mRF_gather.2.1 147 = .ok (.goto (-90), 3) := by decide +kernel
theorem dRF_gather_150 : decode mRF_gather.2.1 150 = .ok (.iconst 0, 1) := by decide +kernel
theorem dRF_gather_151 : decode mRF_gather.2.1 151 = .ok (.istore_n 3, 1) := by decide +kernel
theorem dRF_gather_152 : decode mRF_gather.2.1 152 = .ok (.iload_n 1, 1) := by decide +kernel
theorem dRF_gather_153 : decode mRF_gather.2.1 153 = .ok (.bipush 6, 2) := by decide +kernel
theorem dRF_gather_155 : decode mRF_gather.2.1 155 = .ok (.if_icmp .ne 27, 3) := by decide +kernel
theorem dRF_gather_158 : decode mRF_gather.2.1 158 = .ok (.iload_n 3, 1) := by decide +kernel
theorem dRF_gather_159 : decode mRF_gather.2.1 159 = .ok (.aload_n 0, 1) := by decide +kernel
theorem dRF_gather_160 : decode mRF_gather.2.1 160 = .ok (.getfield 85, 3) := by decide +kernel
theorem dRF_gather_163 : decode mRF_gather.2.1 163 = .ok (.if_icmp .ge 19, 3) := by decide +kernel
theorem dRF_gather_166 : decode mRF_gather.2.1 166 = .ok (.aload_n 0, 1) := by decide +kernel
theorem dRF_gather_167 : decode mRF_gather.2.1 167 = .ok (.bipush 6, 2) := by decide +kernel
theorem dRF_gather_169 : decode mRF_gather.2.1 169 = .ok (.iload_n 2, 1) := by decide +kernel
theorem dRF_gather_170 : decode mRF_gather.2.1 170 = .ok (.iconst 0, 1) := by decide +kernel
theorem dRF_gather_171 : decode mRF_gather.2.1 171 = .ok (.iconst 0, 1) := by decide +kernel
theorem dRF_gather_172 : decode mRF_gather.2.1 172 = .ok (.iload_n 3, 1) := by decide +kernel
theorem dRF_gather_173 : decode mRF_gather.2.1 173 = .ok (.invokevirtual 216, 3) := by decide +kernel
theorem dRF_gather_176 : decode mRF_gather.2.1 176 = .ok (.iinc 3 1, 3) := by decide +kernel
theorem dRF_gather_179 : decode mRF_gather.2.1 179 = .ok (.goto (-27), 3) := by decide +kernel
theorem dRF_gather_182 : decode mRF_gather.2.1 182 = .ok (.iinc 2 1, 3) := by decide +kernel
theorem dRF_gather_185 : decode mRF_gather.2.1 185 = .ok (.goto (-169), 3) := by decide +kernel
theorem dRF_gather_188 : decode mRF_gather.2.1 188 = .ok (.iinc 1 1, 3) := by decide +kernel
theorem dRF_gather_191 : decode mRF_gather.2.1 191 = .ok (.goto (-184), 3) := by decide +kernel
theorem dRF_gather_194 : decode mRF_gather.2.1 194 = .ok (.return_, 1) := by decide +kernel
theorem dRF_gatherTwo_0 : decode mRF_gatherTwo.2.1 0 = .ok (.bipush 10, 2) := by decide +kernel
theorem dRF_gatherTwo_2 : decode mRF_gatherTwo.2.1 2 = .ok (.istore_n 3, 1) := by decide +kernel
theorem dRF_gatherTwo_3 : decode mRF_gatherTwo.2.1 3 = .ok (.iload_n 3, 1) := by decide +kernel
theorem dRF_gatherTwo_4 : decode mRF_gatherTwo.2.1 4 = .ok (.bipush 10, 2) := by decide +kernel
theorem dRF_gatherTwo_6 : decode mRF_gatherTwo.2.1 6 = .ok (.aload_n 0, 1) := by decide +kernel
theorem dRF_gatherTwo_7 : decode mRF_gatherTwo.2.1 7 = .ok (.getfield 88, 3) := by decide +kernel
theorem dRF_gatherTwo_10 : decode mRF_gatherTwo.2.1 10 = .ok (.imul, 1) := by decide +kernel
theorem dRF_gatherTwo_11 : decode mRF_gatherTwo.2.1 11 = .ok (.aload_n 0, 1) := by decide +kernel
theorem dRF_gatherTwo_12 : decode mRF_gatherTwo.2.1 12 = .ok (.getfield 85, 3) := by decide +kernel
theorem dRF_gatherTwo_15 : decode mRF_gatherTwo.2.1 15 = .ok (.iadd, 1) := by decide +kernel
theorem dRF_gatherTwo_16 : decode mRF_gatherTwo.2.1 16 = .ok (.if_icmp .ge 97, 3) := by decide +kernel
theorem dRF_gatherTwo_19 : decode mRF_gatherTwo.2.1 19 = .ok (.aload_n 0, 1) := by decide +kernel
theorem dRF_gatherTwo_20 : decode mRF_gatherTwo.2.1 20 = .ok (.iload_n 3, 1) := by decide +kernel
theorem dRF_gatherTwo_21 : decode mRF_gatherTwo.2.1 21 = .ok (.invokevirtual 97, 3) := by decide +kernel
theorem dRF_gatherTwo_24 : decode mRF_gatherTwo.2.1 24 = .ok (.ifCond .eq 83, 3) := by decide +kernel
theorem dRF_gatherTwo_27 : decode mRF_gatherTwo.2.1 27 = .ok (.iload_n 3, 1) := by decide +kernel
theorem dRF_gatherTwo_28 : decode mRF_gatherTwo.2.1 28 = .ok (.iload_n 2, 1) := by decide +kernel
theorem dRF_gatherTwo_29 : decode mRF_gatherTwo.2.1 29 = .ok (.if_icmp .eq 78, 3) := by decide +kernel
theorem dRF_gatherTwo_32 : decode mRF_gatherTwo.2.1 32 = .ok (.iload_n 1, 1) := by decide +kernel
theorem dRF_gatherTwo_33 : decode mRF_gatherTwo.2.1 33 = .ok (.iconst 2, 1) := by decide +kernel
theorem dRF_gatherTwo_34 : decode mRF_gatherTwo.2.1 34 = .ok (.if_icmp .eq 8, 3) := by decide +kernel
theorem dRF_gatherTwo_37 : decode mRF_gatherTwo.2.1 37 = .ok (.iload_n 3, 1) := by decide +kernel
theorem dRF_gatherTwo_38 : decode mRF_gatherTwo.2.1 38 = .ok (.iload_n 2, 1) := by decide +kernel
theorem dRF_gatherTwo_39 : decode mRF_gatherTwo.2.1 39 = .ok (.if_icmp .lt 68, 3) := by decide +kernel
theorem dRF_gatherTwo_42 : decode mRF_gatherTwo.2.1 42 = .ok (.iload_n 1, 1) := by decide +kernel
theorem dRF_gatherTwo_43 : decode mRF_gatherTwo.2.1 43 = .ok (.iconst 2, 1) := by decide +kernel
theorem dRF_gatherTwo_44 : decode mRF_gatherTwo.2.1 44 = .ok (.if_icmp .ge 17, 3) := by decide +kernel
theorem dRF_gatherTwo_47 : decode mRF_gatherTwo.2.1 47 = .ok (.iload_n 2, 1) := by decide +kernel
theorem dRF_gatherTwo_48 : decode mRF_gatherTwo.2.1 48 = .ok (.bipush 10, 2) := by decide +kernel
theorem dRF_gatherTwo_50 : decode mRF_gatherTwo.2.1 50 = .ok (.idiv, 1) := by decide +kernel
theorem dRF_gatherTwo_51 : decode mRF_gatherTwo.2.1 51 = .ok (.iload_n 3, 1) := by decide +kernel
theorem dRF_gatherTwo_52 : decode mRF_gatherTwo.2.1 52 = .ok (.bipush 10, 2) := by decide +kernel
theorem dRF_gatherTwo_54 : decode mRF_gatherTwo.2.1 54 = .ok (.idiv, 1) := by decide +kernel
theorem dRF_gatherTwo_55 : decode mRF_gatherTwo.2.1 55 = .ok (.if_icmp .ne 6, 3) := by decide +kernel
theorem dRF_gatherTwo_58 : decode mRF_gatherTwo.2.1 58 = .ok (.goto 49, 3) := by decide +kernel
theorem dRF_gatherTwo_61 : decode mRF_gatherTwo.2.1 61 = .ok (.iload_n 1, 1) := by decide +kernel
theorem dRF_gatherTwo_62 : decode mRF_gatherTwo.2.1 62 = .ok (.iconst 4, 1) := by decide +kernel
theorem dRF_gatherTwo_63 : decode mRF_gatherTwo.2.1 63 = .ok (.if_icmp .ne 7, 3) := by decide +kernel
theorem dRF_gatherTwo_66 : decode mRF_gatherTwo.2.1 66 = .ok (.iconst 1, 1) := by decide +kernel
theorem dRF_gatherTwo_67 : decode mRF_gatherTwo.2.1 67 = .ok (.goto 4, 3) := by decide +kernel
theorem dRF_gatherTwo_70 : decode mRF_gatherTwo.2.1 70 = .ok (.iconst 0, 1) := by decide +kernel
theorem dRF_gatherTwo_71 : decode mRF_gatherTwo.2.1 71 = .ok (.istore 4, 2) := by decide +kernel
theorem dRF_gatherTwo_73 : decode mRF_gatherTwo.2.1 73 = .ok (.iload 4, 2) := by decide +kernel
theorem dRF_gatherTwo_75 : decode mRF_gatherTwo.2.1 75 = .ok (.iload_n 1, 1) := by decide +kernel
theorem dRF_gatherTwo_76 : decode mRF_gatherTwo.2.1 76 = .ok (.iconst 4, 1) := by decide +kernel
theorem dRF_gatherTwo_77 : decode mRF_gatherTwo.2.1 77 = .ok (.if_icmp .ne 10, 3) := by decide +kernel
theorem dRF_gatherTwo_80 : decode mRF_gatherTwo.2.1 80 = .ok (.aload_n 0, 1) := by decide +kernel
theorem dRF_gatherTwo_81 : decode mRF_gatherTwo.2.1 81 = .ok (.getfield 85, 3) := by decide +kernel
theorem dRF_gatherTwo_84 : decode mRF_gatherTwo.2.1 84 = .ok (.goto 4, 3) := by decide +kernel
theorem dRF_gatherTwo_87 : decode mRF_gatherTwo.2.1 87 = .ok (.iconst 1, 1) := by decide +kernel
theorem dRF_gatherTwo_88 : decode mRF_gatherTwo.2.1 88 = .ok (.if_icmp .ge 19, 3) := by decide +kernel
theorem dRF_gatherTwo_91 : decode mRF_gatherTwo.2.1 91 = .ok (.aload_n 0, 1) := by decide +kernel
theorem dRF_gatherTwo_92 : decode mRF_gatherTwo.2.1 92 = .ok (.iload_n 1, 1) := by decide +kernel
theorem dRF_gatherTwo_93 : decode mRF_gatherTwo.2.1 93 = .ok (.iload_n 2, 1) := by decide +kernel
theorem dRF_gatherTwo_94 : decode mRF_gatherTwo.2.1 94 = .ok (.iload_n 3, 1) := by decide +kernel
theorem dRF_gatherTwo_95 : decode mRF_gatherTwo.2.1 95 = .ok (.iconst 0, 1) := by decide +kernel
theorem dRF_gatherTwo_96 : decode mRF_gatherTwo.2.1 96 = .ok (.iload 4, 2) := by decide +kernel
theorem dRF_gatherTwo_98 : decode mRF_gatherTwo.2.1 98 = .ok (.invokevirtual 216, 3) := by decide +kernel
theorem dRF_gatherTwo_101 : decode mRF_gatherTwo.2.1 101 = .ok (.iinc 4 1, 3) := by decide +kernel
theorem dRF_gatherTwo_104 : decode mRF_gatherTwo.2.1 104 = .ok (.goto (-31), 3) := by decide +kernel
theorem dRF_gatherTwo_107 : decode mRF_gatherTwo.2.1 107 = .ok (.iinc 3 1, 3) := by decide +kernel
theorem dRF_gatherTwo_110 : decode mRF_gatherTwo.2.1 110 = .ok (.goto (-107), 3) := by decide +kernel
theorem dRF_gatherTwo_113 : decode mRF_gatherTwo.2.1 113 = .ok (.return_, 1) := by decide +kernel
theorem dRF_possibly_0 : decode mRF_possibly.2.1 0 = .ok (.aload_n 0, 1) := by decide +kernel
theorem dRF_possibly_1 : decode mRF_possibly.2.1 1 = .ok (.iload_n 1, 1) := by decide +kernel
theorem dRF_possibly_2 : decode mRF_possibly.2.1 2 = .ok (.aload_n 0, 1) := by decide +kernel
theorem dRF_possibly_3 : decode mRF_possibly.2.1 3 = .ok (.getfield 53, 3) := by decide +kernel
theorem dRF_possibly_6 : decode mRF_possibly.2.1 6 = .ok (.iload_n 2, 1) := by decide +kernel
theorem dRF_possibly_7 : decode mRF_possibly.2.1 7 = .ok (.invokestatic 123, 3) := by decide +kernel
theorem dRF_possibly_10 : decode mRF_possibly.2.1 10 = .ok (.iaload, 1) := by decide +kernel
theorem dRF_possibly_11 : decode mRF_possibly.2.1 11 = .ok (.iload_n 3, 1) := by decide +kernel
theorem dRF_possibly_12 : decode mRF_possibly.2.1 12 = .ok (.ifCond .ne 7, 3) := by decide +kernel
theorem dRF_possibly_15 : decode mRF_possibly.2.1 15 = .ok (.iconst 0, 1) := by decide +kernel
theorem dRF_possibly_16 : decode mRF_possibly.2.1 16 = .ok (.goto 12, 3) := by decide +kernel
theorem dRF_possibly_19 : decode mRF_possibly.2.1 19 = .ok (.aload_n 0, 1) := by decide +kernel
theorem dRF_possibly_20 : decode mRF_possibly.2.1 20 = .ok (.getfield 53, 3) := by decide +kernel
theorem dRF_possibly_23 : decode mRF_possibly.2.1 23 = .ok (.iload_n 3, 1) := by decide +kernel
theorem dRF_possibly_24 : decode mRF_possibly.2.1 24 = .ok (.invokestatic 123, 3) := by decide +kernel
theorem dRF_possibly_27 : decode mRF_possibly.2.1 27 = .ok (.iaload, 1) := by decide +kernel
theorem dRF_possibly_28 : decode mRF_possibly.2.1 28 = .ok (.iload 4, 2) := by decide +kernel
theorem dRF_possibly_30 : decode mRF_possibly.2.1 30 = .ok (.ifCond .ne 7, 3) := by decide +kernel
theorem dRF_possibly_33 : decode mRF_possibly.2.1 33 = .ok (.iconst 0, 1) := by decide +kernel
theorem dRF_possibly_34 : decode mRF_possibly.2.1 34 = .ok (.goto 13, 3) := by decide +kernel
theorem dRF_possibly_37 : decode mRF_possibly.2.1 37 = .ok (.aload_n 0, 1) := by decide +kernel
theorem dRF_possibly_38 : decode mRF_possibly.2.1 38 = .ok (.getfield 53, 3) := by decide +kernel
theorem dRF_possibly_41 : decode mRF_possibly.2.1 41 = .ok (.iload 4, 2) := by decide +kernel
theorem dRF_possibly_43 : decode mRF_possibly.2.1 43 = .ok (.invokestatic 123, 3) := by decide +kernel
theorem dRF_possibly_46 : decode mRF_possibly.2.1 46 = .ok (.iaload, 1) := by decide +kernel
theorem dRF_possibly_47 : decode mRF_possibly.2.1 47 = .ok (.iload 5, 2) := by decide +kernel
theorem dRF_possibly_49 : decode mRF_possibly.2.1 49 = .ok (.invokevirtual 127, 3) := by decide +kernel
theorem dRF_possibly_52 : decode mRF_possibly.2.1 52 = .ok (.ifCond .ne 4, 3) := by decide +kernel
theorem dRF_possibly_55 : decode mRF_possibly.2.1 55 = .ok (.return_, 1) := by decide +kernel
theorem dRF_possibly_56 : decode mRF_possibly.2.1 56 = .ok (.iconst 5, 1) := by decide +kernel
theorem dRF_possibly_57 : decode mRF_possibly.2.1 57 = .ok (.aload_n 0, 1) := by decide +kernel
theorem dRF_possibly_58 : decode mRF_possibly.2.1 58 = .ok (.getfield 213, 3) := by decide +kernel
theorem dRF_possibly_61 : decode mRF_possibly.2.1 61 = .ok (.imul, 1) := by decide +kernel
theorem dRF_possibly_62 : decode mRF_possibly.2.1 62 = .ok (.istore 6, 2) := by decide +kernel
theorem dRF_possibly_64 : decode mRF_possibly.2.1 64 = .ok (.aload_n 0, 1) := by decide +kernel
theorem dRF_possibly_65 : decode mRF_possibly.2.1 65 = .ok (.getfield 82, 3) := by decide +kernel
theorem dRF_possibly_68 : decode mRF_possibly.2.1 68 = .ok (.iload 6, 2) := by decide +kernel
theorem dRF_possibly_70 : decode mRF_possibly.2.1 70 = .ok (.iload_n 1, 1) := by decide +kernel
theorem dRF_possibly_71 : decode mRF_possibly.2.1 71 = .ok (.iastore, 1) := by decide +kernel
theorem dRF_possibly_72 : decode mRF_possibly.2.1 72 = .ok (.aload_n 0, 1) := by decide +kernel
theorem dRF_possibly_73 : decode mRF_possibly.2.1 73 = .ok (.getfield 82, 3) := by decide +kernel
theorem dRF_possibly_76 : decode mRF_possibly.2.1 76 = .ok (.iload 6, 2) := by decide +kernel
theorem dRF_possibly_78 : decode mRF_possibly.2.1 78 = .ok (.iconst 1, 1) := by decide +kernel
theorem dRF_possibly_79 : decode mRF_possibly.2.1 79 = .ok (.iadd, 1) := by decide +kernel
theorem dRF_possibly_80 : decode mRF_possibly.2.1 80 = .ok (.iload_n 2, 1) := by decide +kernel
theorem dRF_possibly_81 : decode mRF_possibly.2.1 81 = .ok (.iastore, 1) := by decide +kernel
theorem dRF_possibly_82 : decode mRF_possibly.2.1 82 = .ok (.aload_n 0, 1) := by decide +kernel
theorem dRF_possibly_83 : decode mRF_possibly.2.1 83 = .ok (.getfield 82, 3) := by decide +kernel
theorem dRF_possibly_86 : decode mRF_possibly.2.1 86 = .ok (.iload 6, 2) := by decide +kernel
theorem dRF_possibly_88 : decode mRF_possibly.2.1 88 = .ok (.iconst 2, 1) := by decide +kernel
theorem dRF_possibly_89 : decode mRF_possibly.2.1 89 = .ok (.iadd, 1) := by decide +kernel
theorem dRF_possibly_90 : decode mRF_possibly.2.1 90 = .ok (.iload_n 3, 1) := by decide +kernel
theorem dRF_possibly_91 : decode mRF_possibly.2.1 91 = .ok (.iastore, 1) := by decide +kernel
theorem dRF_possibly_92 : decode mRF_possibly.2.1 92 = .ok (.aload_n 0, 1) := by decide +kernel
theorem dRF_possibly_93 : decode mRF_possibly.2.1 93 = .ok (.getfield 82, 3) := by decide +kernel
theorem dRF_possibly_96 : decode mRF_possibly.2.1 96 = .ok (.iload 6, 2) := by decide +kernel
theorem dRF_possibly_98 : decode mRF_possibly.2.1 98 = .ok (.iconst 3, 1) := by decide +kernel
theorem dRF_possibly_99 : decode mRF_possibly.2.1 99 = .ok (.iadd, 1) := by decide +kernel
theorem dRF_possibly_100 : decode mRF_possibly.2.1 100 = .ok (.iload 4, 2) := by decide +kernel
theorem dRF_possibly_102 : decode mRF_possibly.2.1 102 = .ok (.iastore, 1) := by decide +kernel
theorem dRF_possibly_103 : decode mRF_possibly.2.1 103 = .ok (.aload_n 0, 1) := by decide +kernel
theorem dRF_possibly_104 : decode mRF_possibly.2.1 104 = .ok (.getfield 82, 3) := by decide +kernel
theorem dRF_possibly_107 : decode mRF_possibly.2.1 107 = .ok (.iload 6, 2) := by decide +kernel
theorem dRF_possibly_109 : decode mRF_possibly.2.1 109 = .ok (.iconst 4, 1) := by decide +kernel
theorem dRF_possibly_110 : decode mRF_possibly.2.1 110 = .ok (.iadd, 1) := by decide +kernel
theorem dRF_possibly_111 : decode mRF_possibly.2.1 111 = .ok (.iload 5, 2) := by decide +kernel
theorem dRF_possibly_113 : decode mRF_possibly.2.1 113 = .ok (.iastore, 1) := by decide +kernel
theorem dRF_possibly_114 : decode mRF_possibly.2.1 114 = .ok (.aload_n 0, 1) := by decide +kernel
theorem dRF_possibly_115 : decode mRF_possibly.2.1 115 = .ok (.dup, 1) := by decide +kernel
theorem dRF_possibly_116 : decode mRF_possibly.2.1 116 = .ok (.getfield 213, 3) := by decide +kernel
theorem dRF_possibly_119 : decode mRF_possibly.2.1 119 = .ok (.iconst 1, 1) := by decide +kernel
theorem dRF_possibly_120 : decode mRF_possibly.2.1 120 = .ok (.iadd, 1) := by decide +kernel
theorem dRF_possibly_121 : decode mRF_possibly.2.1 121 = .ok (.putfield 213, 3) := by decide +kernel
theorem dRF_possibly_124 : decode mRF_possibly.2.1 124 = .ok (.return_, 1) := by decide +kernel
theorem dRF_name_0 : decode mRF_name.2.1 0 = .ok (.aload_n 0, 1) := by decide +kernel
theorem dRF_name_1 : decode mRF_name.2.1 1 = .ok (.iconst 0, 1) := by decide +kernel
theorem dRF_name_2 : decode mRF_name.2.1 2 = .ok (.putfield 94, 3) := by decide +kernel
theorem dRF_name_5 : decode mRF_name.2.1 5 = .ok (.lload_n 2, 1) := by decide +kernel
theorem dRF_name_6 : decode mRF_name.2.1 6 = .ok (.invokestatic 242, 3) := by decide +kernel
theorem dRF_name_9 : decode mRF_name.2.1 9 = .ok (.lstore 4, 2) := by decide +kernel
theorem dRF_name_11 : decode mRF_name.2.1 11 = .ok (.iconst 0, 1) := by decide +kernel
theorem dRF_name_12 : decode mRF_name.2.1 12 = .ok (.istore 6, 2) := by decide +kernel
theorem dRF_name_14 : decode mRF_name.2.1 14 = .ok (.lload 4, 2) := by decide +kernel
theorem dRF_name_16 : decode mRF_name.2.1 16 = .ok (.lstore 7, 2) := by decide +kernel
theorem dRF_name_18 : decode mRF_name.2.1 18 = .ok (.lload 7, 2) := by decide +kernel
theorem dRF_name_20 : decode mRF_name.2.1 20 = .ok (.lconst 0, 1) := by decide +kernel
theorem dRF_name_21 : decode mRF_name.2.1 21 = .ok (.lcmp, 1) := by decide +kernel
theorem dRF_name_22 : decode mRF_name.2.1 22 = .ok (.ifCond .eq 44, 3) := by decide +kernel
theorem dRF_name_25 : decode mRF_name.2.1 25 = .ok (.lload 7, 2) := by decide +kernel
theorem dRF_name_27 : decode mRF_name.2.1 27 = .ok (.ldc2_w 240, 3) := by decide +kernel
theorem dRF_name_30 : decode mRF_name.2.1 30 = .ok (.land, 1) := by decide +kernel
theorem dRF_name_31 : decode mRF_name.2.1 31 = .ok (.lstore 9, 2) := by decide +kernel
theorem dRF_name_33 : decode mRF_name.2.1 33 = .ok (.lload 9, 2) := by decide +kernel
theorem dRF_name_35 : decode mRF_name.2.1 35 = .ok (.ldc2_w 246, 3) := by decide +kernel
theorem dRF_name_38 : decode mRF_name.2.1 38 = .ok (.lcmp, 1) := by decide +kernel
theorem dRF_name_39 : decode mRF_name.2.1 39 = .ok (.ifCond .lt 12, 3) := by decide +kernel
theorem dRF_name_42 : decode mRF_name.2.1 42 = .ok (.lload 9, 2) := by decide +kernel
theorem dRF_name_44 : decode mRF_name.2.1 44 = .ok (.ldc2_w 248, 3) := by decide +kernel
theorem dRF_name_47 : decode mRF_name.2.1 47 = .ok (.lcmp, 1) := by decide +kernel
theorem dRF_name_48 : decode mRF_name.2.1 48 = .ok (.ifCond .le 5, 3) := by decide +kernel
theorem dRF_name_51 : decode mRF_name.2.1 51 = .ok (.iconst 0, 1) := by decide +kernel
theorem dRF_name_52 : decode mRF_name.2.1 52 = .ok (.ireturn, 1) := by decide +kernel
theorem dRF_name_53 : decode mRF_name.2.1 53 = .ok (.iinc 6 1, 3) := by decide +kernel
theorem dRF_name_56 : decode mRF_name.2.1 56 = .ok (.lload 7, 2) := by decide +kernel
theorem dRF_name_58 : decode mRF_name.2.1 58 = .ok (.bipush 8, 2) := by decide +kernel
theorem dRF_name_60 : decode mRF_name.2.1 60 = .ok (.lushr, 1) := by decide +kernel
theorem dRF_name_61 : decode mRF_name.2.1 61 = .ok (.lstore 7, 2) := by decide +kernel
theorem dRF_name_63 : decode mRF_name.2.1 63 = .ok (.goto (-45), 3) := by decide +kernel
theorem dRF_name_66 : decode mRF_name.2.1 66 = .ok (.aload_n 0, 1) := by decide +kernel
theorem dRF_name_67 : decode mRF_name.2.1 67 = .ok (.iload_n 1, 1) := by decide +kernel
theorem dRF_name_68 : decode mRF_name.2.1 68 = .ok (.invokevirtual 97, 3) := by decide +kernel
theorem dRF_name_71 : decode mRF_name.2.1 71 = .ok (.ifCond .eq 16, 3) := by decide +kernel
theorem dRF_name_74 : decode mRF_name.2.1 74 = .ok (.iload 6, 2) := by decide +kernel
theorem dRF_name_76 : decode mRF_name.2.1 76 = .ok (.iconst 1, 1) := by decide +kernel
theorem dRF_name_77 : decode mRF_name.2.1 77 = .ok (.if_icmp .lt 10, 3) := by decide +kernel
theorem dRF_name_80 : decode mRF_name.2.1 80 = .ok (.iload 6, 2) := by decide +kernel
theorem dRF_name_82 : decode mRF_name.2.1 82 = .ok (.bipush 6, 2) := by decide +kernel
theorem dRF_name_84 : decode mRF_name.2.1 84 = .ok (.if_icmp .le 5, 3) := by decide +kernel
theorem dRF_name_87 : decode mRF_name.2.1 87 = .ok (.iconst 0, 1) := by decide +kernel
theorem dRF_name_88 : decode mRF_name.2.1 88 = .ok (.ireturn, 1) := by decide +kernel
theorem dRF_name_89 : decode mRF_name.2.1 89 = .ok (.iconst 0, 1) := by decide +kernel
theorem dRF_name_90 : decode mRF_name.2.1 90 = .ok (.istore 7, 2) := by decide +kernel
theorem dRF_name_92 : decode mRF_name.2.1 92 = .ok (.iload 7, 2) := by decide +kernel
theorem dRF_name_94 : decode mRF_name.2.1 94 = .ok (.bipush 15, 2) := by decide +kernel
theorem dRF_name_96 : decode mRF_name.2.1 96 = .ok (.if_icmp .ge 46, 3) := by decide +kernel
theorem dRF_name_99 : decode mRF_name.2.1 99 = .ok (.aload_n 0, 1) := by decide +kernel
theorem dRF_name_100 : decode mRF_name.2.1 100 = .ok (.getfield 39, 3) := by decide +kernel
theorem dRF_name_103 : decode mRF_name.2.1 103 = .ok (.iload 7, 2) := by decide +kernel
theorem dRF_name_105 : decode mRF_name.2.1 105 = .ok (.laload, 1) := by decide +kernel
theorem dRF_name_106 : decode mRF_name.2.1 106 = .ok (.lload 4, 2) := by decide +kernel
theorem dRF_name_108 : decode mRF_name.2.1 108 = .ok (.lcmp, 1) := by decide +kernel
theorem dRF_name_109 : decode mRF_name.2.1 109 = .ok (.ifCond .eq 25, 3) := by decide +kernel
theorem dRF_name_112 : decode mRF_name.2.1 112 = .ok (.aload_n 0, 1) := by decide +kernel
theorem dRF_name_113 : decode mRF_name.2.1 113 = .ok (.getfield 68, 3) := by decide +kernel
theorem dRF_name_116 : decode mRF_name.2.1 116 = .ok (.iload 7, 2) := by decide +kernel
theorem dRF_name_118 : decode mRF_name.2.1 118 = .ok (.laload, 1) := by decide +kernel
theorem dRF_name_119 : decode mRF_name.2.1 119 = .ok (.lload 4, 2) := by decide +kernel
theorem dRF_name_121 : decode mRF_name.2.1 121 = .ok (.lcmp, 1) := by decide +kernel
theorem dRF_name_122 : decode mRF_name.2.1 122 = .ok (.ifCond .ne 14, 3) := by decide +kernel
theorem dRF_name_125 : decode mRF_name.2.1 125 = .ok (.iload 7, 2) := by decide +kernel
theorem dRF_name_127 : decode mRF_name.2.1 127 = .ok (.iload_n 1, 1) := by decide +kernel
theorem dRF_name_128 : decode mRF_name.2.1 128 = .ok (.invokestatic 123, 3) := by decide +kernel
theorem dRF_name_131 : decode mRF_name.2.1 131 = .ok (.if_icmp .eq 5, 3) := by decide +kernel
theorem dRF_name_134 : decode mRF_name.2.1 134 = .ok (.iconst 0, 1) := by decide +kernel
theorem dRF_name_135 : decode mRF_name.2.1 135 = .ok (.ireturn, 1) := by decide +kernel
theorem dRF_name_136 : decode mRF_name.2.1 136 = .ok (.iinc 7 1, 3) := by decide +kernel
theorem dRF_name_139 : decode mRF_name.2.1 139 = .ok (.goto (-47), 3) := by decide +kernel
theorem dRF_name_142 : decode mRF_name.2.1 142 = .ok (.aload_n 0, 1) := by decide +kernel
theorem dRF_name_143 : decode mRF_name.2.1 143 = .ok (.getfield 68, 3) := by decide +kernel
theorem dRF_name_146 : decode mRF_name.2.1 146 = .ok (.iload_n 1, 1) := by decide +kernel
theorem dRF_name_147 : decode mRF_name.2.1 147 = .ok (.invokestatic 123, 3) := by decide +kernel
theorem dRF_name_150 : decode mRF_name.2.1 150 = .ok (.lload 4, 2) := by decide +kernel
theorem dRF_name_152 : decode mRF_name.2.1 152 = .ok (.lastore, 1) := by decide +kernel
theorem dRF_name_153 : decode mRF_name.2.1 153 = .ok (.iconst 1, 1) := by decide +kernel
theorem dRF_name_154 : decode mRF_name.2.1 154 = .ok (.ireturn, 1) := by decide +kernel
theorem dRF_letters_0 : decode mRF_letters.2.1 0 = .ok (.lconst 0, 1) := by decide +kernel
theorem dRF_letters_1 : decode mRF_letters.2.1 1 = .ok (.lstore_n 2, 1) := by decide +kernel
theorem dRF_letters_2 : decode mRF_letters.2.1 2 = .ok (.bipush 56, 2) := by decide +kernel
theorem dRF_letters_4 : decode mRF_letters.2.1 4 = .ok (.istore 4, 2) := by decide +kernel
theorem dRF_letters_6 : decode mRF_letters.2.1 6 = .ok (.iload 4, 2) := by decide +kernel
theorem dRF_letters_8 : decode mRF_letters.2.1 8 = .ok (.ifCond .lt 40, 3) := by decide +kernel
theorem dRF_letters_11 : decode mRF_letters.2.1 11 = .ok (.lload_n 0, 1) := by decide +kernel
theorem dRF_letters_12 : decode mRF_letters.2.1 12 = .ok (.iload 4, 2) := by decide +kernel
theorem dRF_letters_14 : decode mRF_letters.2.1 14 = .ok (.lshr, 1) := by decide +kernel
theorem dRF_letters_15 : decode mRF_letters.2.1 15 = .ok (.ldc2_w 240, 3) := by decide +kernel
theorem dRF_letters_18 : decode mRF_letters.2.1 18 = .ok (.land, 1) := by decide +kernel
theorem dRF_letters_19 : decode mRF_letters.2.1 19 = .ok (.lconst 0, 1) := by decide +kernel
theorem dRF_letters_20 : decode mRF_letters.2.1 20 = .ok (.lcmp, 1) := by decide +kernel
theorem dRF_letters_21 : decode mRF_letters.2.1 21 = .ok (.ifCond .ne 7, 3) := by decide +kernel
theorem dRF_letters_24 : decode mRF_letters.2.1 24 = .ok (.lload_n 2, 1) := by decide +kernel
theorem dRF_letters_25 : decode mRF_letters.2.1 25 = .ok (.goto 16, 3) := by decide +kernel
theorem dRF_letters_28 : decode mRF_letters.2.1 28 = .ok (.lload_n 2, 1) := by decide +kernel
theorem dRF_letters_29 : decode mRF_letters.2.1 29 = .ok (.bipush 8, 2) := by decide +kernel
theorem dRF_letters_31 : decode mRF_letters.2.1 31 = .ok (.lshl, 1) := by decide +kernel
theorem dRF_letters_32 : decode mRF_letters.2.1 32 = .ok (.lload_n 0, 1) := by decide +kernel
theorem dRF_letters_33 : decode mRF_letters.2.1 33 = .ok (.iload 4, 2) := by decide +kernel
theorem dRF_letters_35 : decode mRF_letters.2.1 35 = .ok (.lshr, 1) := by decide +kernel
theorem dRF_letters_36 : decode mRF_letters.2.1 36 = .ok (.ldc2_w 240, 3) := by decide +kernel
theorem dRF_letters_39 : decode mRF_letters.2.1 39 = .ok (.land, 1) := by decide +kernel
theorem dRF_letters_40 : decode mRF_letters.2.1 40 = .ok (.lor, 1) := by decide +kernel
theorem dRF_letters_41 : decode mRF_letters.2.1 41 = .ok (.lstore_n 2, 1) := by decide +kernel
theorem dRF_letters_42 : decode mRF_letters.2.1 42 = .ok (.iinc 4 (-8), 3) := by decide +kernel
theorem dRF_letters_45 : decode mRF_letters.2.1 45 = .ok (.goto (-39), 3) := by decide +kernel
theorem dRF_letters_48 : decode mRF_letters.2.1 48 = .ok (.lload_n 2, 1) := by decide +kernel
theorem dRF_letters_49 : decode mRF_letters.2.1 49 = .ok (.lreturn, 1) := by decide +kernel
theorem dRF_print_0 : decode mRF_print.2.1 0 = .ok (.aload_n 0, 1) := by decide +kernel
theorem dRF_print_1 : decode mRF_print.2.1 1 = .ok (.iconst 0, 1) := by decide +kernel
theorem dRF_print_2 : decode mRF_print.2.1 2 = .ok (.putfield 94, 3) := by decide +kernel
theorem dRF_print_5 : decode mRF_print.2.1 5 = .ok (.iload_n 1, 1) := by decide +kernel
theorem dRF_print_6 : decode mRF_print.2.1 6 = .ok (.ifCond .lt 65, 3) := by decide +kernel
theorem dRF_print_9 : decode mRF_print.2.1 9 = .ok (.iload_n 1, 1) := by decide +kernel
theorem dRF_print_10 : decode mRF_print.2.1 10 = .ok (.aload_n 0, 1) := by decide +kernel
theorem dRF_print_11 : decode mRF_print.2.1 11 = .ok (.getfield 101, 3) := by decide +kernel
theorem dRF_print_14 : decode mRF_print.2.1 14 = .ok (.if_icmp .ge 57, 3) := by decide +kernel
theorem dRF_print_17 : decode mRF_print.2.1 17 = .ok (.aload_n 0, 1) := by decide +kernel
theorem dRF_print_18 : decode mRF_print.2.1 18 = .ok (.aload_n 0, 1) := by decide +kernel
theorem dRF_print_19 : decode mRF_print.2.1 19 = .ok (.getfield 47, 3) := by decide +kernel
theorem dRF_print_22 : decode mRF_print.2.1 22 = .ok (.bipush 6, 2) := by decide +kernel
theorem dRF_print_24 : decode mRF_print.2.1 24 = .ok (.iload_n 1, 1) := by decide +kernel
theorem dRF_print_25 : decode mRF_print.2.1 25 = .ok (.imul, 1) := by decide +kernel
theorem dRF_print_26 : decode mRF_print.2.1 26 = .ok (.iconst 1, 1) := by decide +kernel
theorem dRF_print_27 : decode mRF_print.2.1 27 = .ok (.iadd, 1) := by decide +kernel
theorem dRF_print_28 : decode mRF_print.2.1 28 = .ok (.iaload, 1) := by decide +kernel
theorem dRF_print_29 : decode mRF_print.2.1 29 = .ok (.invokevirtual 257, 3) := by decide +kernel
theorem dRF_print_32 : decode mRF_print.2.1 32 = .ok (.ifCond .eq 39, 3) := by decide +kernel
theorem dRF_print_35 : decode mRF_print.2.1 35 = .ok (.aload_n 0, 1) := by decide +kernel
theorem dRF_print_36 : decode mRF_print.2.1 36 = .ok (.aload_n 0, 1) := by decide +kernel
theorem dRF_print_37 : decode mRF_print.2.1 37 = .ok (.getfield 47, 3) := by decide +kernel
theorem dRF_print_40 : decode mRF_print.2.1 40 = .ok (.bipush 6, 2) := by decide +kernel
theorem dRF_print_42 : decode mRF_print.2.1 42 = .ok (.iload_n 1, 1) := by decide +kernel
theorem dRF_print_43 : decode mRF_print.2.1 43 = .ok (.imul, 1) := by decide +kernel
theorem dRF_print_44 : decode mRF_print.2.1 44 = .ok (.iconst 2, 1) := by decide +kernel
theorem dRF_print_45 : decode mRF_print.2.1 45 = .ok (.iadd, 1) := by decide +kernel
theorem dRF_print_46 : decode mRF_print.2.1 46 = .ok (.iaload, 1) := by decide +kernel
theorem dRF_print_47 : decode mRF_print.2.1 47 = .ok (.invokevirtual 257, 3) := by decide +kernel
theorem dRF_print_50 : decode mRF_print.2.1 50 = .ok (.ifCond .eq 21, 3) := by decide +kernel
theorem dRF_print_53 : decode mRF_print.2.1 53 = .ok (.aload_n 0, 1) := by decide +kernel
theorem dRF_print_54 : decode mRF_print.2.1 54 = .ok (.aload_n 0, 1) := by decide +kernel
theorem dRF_print_55 : decode mRF_print.2.1 55 = .ok (.getfield 47, 3) := by decide +kernel
theorem dRF_print_58 : decode mRF_print.2.1 58 = .ok (.bipush 6, 2) := by decide +kernel
theorem dRF_print_60 : decode mRF_print.2.1 60 = .ok (.iload_n 1, 1) := by decide +kernel
theorem dRF_print_61 : decode mRF_print.2.1 61 = .ok (.imul, 1) := by decide +kernel
theorem dRF_print_62 : decode mRF_print.2.1 62 = .ok (.iconst 3, 1) := by decide +kernel
theorem dRF_print_63 : decode mRF_print.2.1 63 = .ok (.iadd, 1) := by decide +kernel
theorem dRF_print_64 : decode mRF_print.2.1 64 = .ok (.iaload, 1) := by decide +kernel
theorem dRF_print_65 : decode mRF_print.2.1 65 = .ok (.invokevirtual 257, 3) := by decide +kernel
theorem dRF_print_68 : decode mRF_print.2.1 68 = .ok (.ifCond .ne 5, 3) := by decide +kernel
theorem dRF_print_71 : decode mRF_print.2.1 71 = .ok (.iconst 0, 1) := by decide +kernel
theorem dRF_print_72 : decode mRF_print.2.1 72 = .ok (.ireturn, 1) := by decide +kernel
theorem dRF_print_73 : decode mRF_print.2.1 73 = .ok (.aload_n 0, 1) := by decide +kernel
theorem dRF_print_74 : decode mRF_print.2.1 74 = .ok (.getfield 47, 3) := by decide +kernel
theorem dRF_print_77 : decode mRF_print.2.1 77 = .ok (.bipush 6, 2) := by decide +kernel
theorem dRF_print_79 : decode mRF_print.2.1 79 = .ok (.iload_n 1, 1) := by decide +kernel
theorem dRF_print_80 : decode mRF_print.2.1 80 = .ok (.imul, 1) := by decide +kernel
theorem dRF_print_81 : decode mRF_print.2.1 81 = .ok (.iconst 2, 1) := by decide +kernel
theorem dRF_print_82 : decode mRF_print.2.1 82 = .ok (.iadd, 1) := by decide +kernel
theorem dRF_print_83 : decode mRF_print.2.1 83 = .ok (.iaload, 1) := by decide +kernel
theorem dRF_print_84 : decode mRF_print.2.1 84 = .ok (.istore_n 2, 1) := by decide +kernel
theorem dRF_print_85 : decode mRF_print.2.1 85 = .ok (.aload_n 0, 1) := by decide +kernel
theorem dRF_print_86 : decode mRF_print.2.1 86 = .ok (.getfield 47, 3) := by decide +kernel
theorem dRF_print_89 : decode mRF_print.2.1 89 = .ok (.bipush 6, 2) := by decide +kernel
theorem dRF_print_91 : decode mRF_print.2.1 91 = .ok (.iload_n 1, 1) := by decide +kernel
theorem dRF_print_92 : decode mRF_print.2.1 92 = .ok (.imul, 1) := by decide +kernel
theorem dRF_print_93 : decode mRF_print.2.1 93 = .ok (.iconst 3, 1) := by decide +kernel
theorem dRF_print_94 : decode mRF_print.2.1 94 = .ok (.iadd, 1) := by decide +kernel
theorem dRF_print_95 : decode mRF_print.2.1 95 = .ok (.iaload, 1) := by decide +kernel
theorem dRF_print_96 : decode mRF_print.2.1 96 = .ok (.istore_n 3, 1) := by decide +kernel
theorem dRF_print_97 : decode mRF_print.2.1 97 = .ok (.bipush 48, 2) := by decide +kernel
theorem dRF_print_99 : decode mRF_print.2.1 99 = .ok (.aload_n 0, 1) := by decide +kernel
theorem dRF_print_100 : decode mRF_print.2.1 100 = .ok (.getfield 47, 3) := by decide +kernel
theorem dRF_print_103 : decode mRF_print.2.1 103 = .ok (.bipush 6, 2) := by decide +kernel
theorem dRF_print_105 : decode mRF_print.2.1 105 = .ok (.iload_n 1, 1) := by decide +kernel
theorem dRF_print_106 : decode mRF_print.2.1 106 = .ok (.imul, 1) := by decide +kernel
theorem dRF_print_107 : decode mRF_print.2.1 107 = .ok (.iconst 4, 1) := by decide +kernel
theorem dRF_print_108 : decode mRF_print.2.1 108 = .ok (.iadd, 1) := by decide +kernel
theorem dRF_print_109 : decode mRF_print.2.1 109 = .ok (.iaload, 1) := by decide +kernel
theorem dRF_print_110 : decode mRF_print.2.1 110 = .ok (.iadd, 1) := by decide +kernel
theorem dRF_print_111 : decode mRF_print.2.1 111 = .ok (.i2l, 1) := by decide +kernel
theorem dRF_print_112 : decode mRF_print.2.1 112 = .ok (.lstore 4, 2) := by decide +kernel
theorem dRF_print_114 : decode mRF_print.2.1 114 = .ok (.aload_n 0, 1) := by decide +kernel
theorem dRF_print_115 : decode mRF_print.2.1 115 = .ok (.iconst 0, 1) := by decide +kernel
theorem dRF_print_116 : decode mRF_print.2.1 116 = .ok (.putfield 250, 3) := by decide +kernel
theorem dRF_print_119 : decode mRF_print.2.1 119 = .ok (.aload_n 0, 1) := by decide +kernel
theorem dRF_print_120 : decode mRF_print.2.1 120 = .ok (.getfield 47, 3) := by decide +kernel
theorem dRF_print_123 : decode mRF_print.2.1 123 = .ok (.bipush 6, 2) := by decide +kernel
theorem dRF_print_125 : decode mRF_print.2.1 125 = .ok (.iload_n 1, 1) := by decide +kernel
theorem dRF_print_126 : decode mRF_print.2.1 126 = .ok (.imul, 1) := by decide +kernel
theorem dRF_print_127 : decode mRF_print.2.1 127 = .ok (.iconst 5, 1) := by decide +kernel
theorem dRF_print_128 : decode mRF_print.2.1 128 = .ok (.iadd, 1) := by decide +kernel
theorem dRF_print_129 : decode mRF_print.2.1 129 = .ok (.iaload, 1) := by decide +kernel
theorem dRF_print_130 : decode mRF_print.2.1 130 = .ok (.iconst (-1), 1) := by decide +kernel
theorem dRF_print_131 : decode mRF_print.2.1 131 = .ok (.if_icmp .eq 29, 3) := by decide +kernel
theorem dRF_print_134 : decode mRF_print.2.1 134 = .ok (.aload_n 0, 1) := by decide +kernel
theorem dRF_print_135 : decode mRF_print.2.1 135 = .ok (.bipush 48, 2) := by decide +kernel
theorem dRF_print_137 : decode mRF_print.2.1 137 = .ok (.aload_n 0, 1) := by decide +kernel
theorem dRF_print_138 : decode mRF_print.2.1 138 = .ok (.getfield 47, 3) := by decide +kernel
theorem dRF_print_141 : decode mRF_print.2.1 141 = .ok (.bipush 6, 2) := by decide +kernel
theorem dRF_print_143 : decode mRF_print.2.1 143 = .ok (.iload_n 1, 1) := by decide +kernel
theorem dRF_print_144 : decode mRF_print.2.1 144 = .ok (.imul, 1) := by decide +kernel
theorem dRF_print_145 : decode mRF_print.2.1 145 = .ok (.iconst 5, 1) := by decide +kernel
theorem dRF_print_146 : decode mRF_print.2.1 146 = .ok (.iadd, 1) := by decide +kernel
theorem dRF_print_147 : decode mRF_print.2.1 147 = .ok (.iaload, 1) := by decide +kernel
theorem dRF_print_148 : decode mRF_print.2.1 148 = .ok (.iadd, 1) := by decide +kernel
theorem dRF_print_149 : decode mRF_print.2.1 149 = .ok (.i2l, 1) := by decide +kernel
theorem dRF_print_150 : decode mRF_print.2.1 150 = .ok (.invokevirtual 253, 3) := by decide +kernel
theorem dRF_print_153 : decode mRF_print.2.1 153 = .ok (.aload_n 0, 1) := by decide +kernel
theorem dRF_print_154 : decode mRF_print.2.1 154 = .ok (.ldc2_w 37, 3) := by decide +kernel
theorem dRF_print_157 : decode mRF_print.2.1 157 = .ok (.invokevirtual 253, 3) := by decide +kernel
theorem dRF_print_160 : decode mRF_print.2.1 160 = .ok (.aload_n 0, 1) := by decide +kernel
theorem dRF_print_161 : decode mRF_print.2.1 161 = .ok (.aload_n 0, 1) := by decide +kernel
theorem dRF_print_162 : decode mRF_print.2.1 162 = .ok (.getfield 47, 3) := by decide +kernel
theorem dRF_print_165 : decode mRF_print.2.1 165 = .ok (.bipush 6, 2) := by decide +kernel
theorem dRF_print_167 : decode mRF_print.2.1 167 = .ok (.iload_n 1, 1) := by decide +kernel
theorem dRF_print_168 : decode mRF_print.2.1 168 = .ok (.imul, 1) := by decide +kernel
theorem dRF_print_169 : decode mRF_print.2.1 169 = .ok (.iconst 1, 1) := by decide +kernel
theorem dRF_print_170 : decode mRF_print.2.1 170 = .ok (.iadd, 1) := by decide +kernel
theorem dRF_print_171 : decode mRF_print.2.1 171 = .ok (.iaload, 1) := by decide +kernel
theorem dRF_print_172 : decode mRF_print.2.1 172 = .ok (.invokevirtual 260, 3) := by decide +kernel
theorem dRF_print_175 : decode mRF_print.2.1 175 = .ok (.aload_n 0, 1) := by decide +kernel
theorem dRF_print_176 : decode mRF_print.2.1 176 = .ok (.ldc2_w 9, 3) := by decide +kernel
theorem dRF_print_179 : decode mRF_print.2.1 179 = .ok (.invokevirtual 253, 3) := by decide +kernel
theorem dRF_print_182 : decode mRF_print.2.1 182 = .ok (.aload_n 0, 1) := by decide +kernel
theorem dRF_print_183 : decode mRF_print.2.1 183 = .ok (.getfield 47, 3) := by decide +kernel
theorem dRF_print_186 : decode mRF_print.2.1 186 = .ok (.bipush 6, 2) := by decide +kernel
theorem dRF_print_188 : decode mRF_print.2.1 188 = .ok (.iload_n 1, 1) := by decide +kernel
theorem dRF_print_189 : decode mRF_print.2.1 189 = .ok (.imul, 1) := by decide +kernel
theorem dRF_print_190 : decode mRF_print.2.1 190 = .ok (.iaload, 1) := by decide +kernel
theorem dRF_print_191 : decode mRF_print.2.1 191 = .ok (.tableswitch 227 0 8 #[49, 57, 72, 94, 116, 137, 164, 180, 200], 49) := by decide +kernel
theorem dRF_print_240 : decode mRF_print.2.1 240 = .ok (.aload_n 0, 1) := by decide +kernel
theorem dRF_print_241 : decode mRF_print.2.1 241 = .ok (.iload_n 2, 1) := by decide +kernel
theorem dRF_print_242 : decode mRF_print.2.1 242 = .ok (.invokevirtual 260, 3) := by decide +kernel
theorem dRF_print_245 : decode mRF_print.2.1 245 = .ok (.goto 198, 3) := by decide +kernel
theorem dRF_print_248 : decode mRF_print.2.1 248 = .ok (.aload_n 0, 1) := by decide +kernel
theorem dRF_print_249 : decode mRF_print.2.1 249 = .ok (.ldc2_w 11, 3) := by decide +kernel
theorem dRF_print_252 : decode mRF_print.2.1 252 = .ok (.invokevirtual 253, 3) := by decide +kernel
theorem dRF_print_255 : decode mRF_print.2.1 255 = .ok (.aload_n 0, 1) := by decide +kernel
theorem dRF_print_256 : decode mRF_print.2.1 256 = .ok (.iload_n 2, 1) := by decide +kernel
theorem dRF_print_257 : decode mRF_print.2.1 257 = .ok (.invokevirtual 260, 3) := by decide +kernel
theorem dRF_print_260 : decode mRF_print.2.1 260 = .ok (.goto 183, 3) := by decide +kernel
theorem dRF_print_263 : decode mRF_print.2.1 263 = .ok (.aload_n 0, 1) := by decide +kernel
theorem dRF_print_264 : decode mRF_print.2.1 264 = .ok (.ldc2_w 13, 3) := by decide +kernel
theorem dRF_print_267 : decode mRF_print.2.1 267 = .ok (.invokevirtual 253, 3) := by decide +kernel
theorem dRF_print_270 : decode mRF_print.2.1 270 = .ok (.aload_n 0, 1) := by decide +kernel
theorem dRF_print_271 : decode mRF_print.2.1 271 = .ok (.ldc2_w 17, 3) := by decide +kernel
theorem dRF_print_274 : decode mRF_print.2.1 274 = .ok (.invokevirtual 253, 3) := by decide +kernel
theorem dRF_print_277 : decode mRF_print.2.1 277 = .ok (.aload_n 0, 1) := by decide +kernel
theorem dRF_print_278 : decode mRF_print.2.1 278 = .ok (.iload_n 2, 1) := by decide +kernel
theorem dRF_print_279 : decode mRF_print.2.1 279 = .ok (.invokevirtual 260, 3) := by decide +kernel
theorem dRF_print_282 : decode mRF_print.2.1 282 = .ok (.goto 161, 3) := by decide +kernel
theorem dRF_print_285 : decode mRF_print.2.1 285 = .ok (.aload_n 0, 1) := by decide +kernel
theorem dRF_print_286 : decode mRF_print.2.1 286 = .ok (.ldc2_w 15, 3) := by decide +kernel
theorem dRF_print_289 : decode mRF_print.2.1 289 = .ok (.invokevirtual 253, 3) := by decide +kernel
theorem dRF_print_292 : decode mRF_print.2.1 292 = .ok (.aload_n 0, 1) := by decide +kernel
theorem dRF_print_293 : decode mRF_print.2.1 293 = .ok (.ldc2_w 19, 3) := by decide +kernel
theorem dRF_print_296 : decode mRF_print.2.1 296 = .ok (.invokevirtual 253, 3) := by decide +kernel
theorem dRF_print_299 : decode mRF_print.2.1 299 = .ok (.aload_n 0, 1) := by decide +kernel
theorem dRF_print_300 : decode mRF_print.2.1 300 = .ok (.iload_n 2, 1) := by decide +kernel
theorem dRF_print_301 : decode mRF_print.2.1 301 = .ok (.invokevirtual 260, 3) := by decide +kernel
theorem dRF_print_304 : decode mRF_print.2.1 304 = .ok (.goto 139, 3) := by decide +kernel
theorem dRF_print_307 : decode mRF_print.2.1 307 = .ok (.aload_n 0, 1) := by decide +kernel
theorem dRF_print_308 : decode mRF_print.2.1 308 = .ok (.lload 4, 2) := by decide +kernel
theorem dRF_print_310 : decode mRF_print.2.1 310 = .ok (.invokevirtual 253, 3) := by decide +kernel
theorem dRF_print_313 : decode mRF_print.2.1 313 = .ok (.aload_n 0, 1) := by decide +kernel
theorem dRF_print_314 : decode mRF_print.2.1 314 = .ok (.ldc2_w 21, 3) := by decide +kernel
theorem dRF_print_317 : decode mRF_print.2.1 317 = .ok (.invokevirtual 253, 3) := by decide +kernel
theorem dRF_print_320 : decode mRF_print.2.1 320 = .ok (.aload_n 0, 1) := by decide +kernel
theorem dRF_print_321 : decode mRF_print.2.1 321 = .ok (.iload_n 2, 1) := by decide +kernel
theorem dRF_print_322 : decode mRF_print.2.1 322 = .ok (.invokevirtual 260, 3) := by decide +kernel
theorem dRF_print_325 : decode mRF_print.2.1 325 = .ok (.goto 118, 3) := by decide +kernel
theorem dRF_print_328 : decode mRF_print.2.1 328 = .ok (.aload_n 0, 1) := by decide +kernel
theorem dRF_print_329 : decode mRF_print.2.1 329 = .ok (.ldc2_w 23, 3) := by decide +kernel
theorem dRF_print_332 : decode mRF_print.2.1 332 = .ok (.invokevirtual 253, 3) := by decide +kernel
theorem dRF_print_335 : decode mRF_print.2.1 335 = .ok (.aload_n 0, 1) := by decide +kernel
theorem dRF_print_336 : decode mRF_print.2.1 336 = .ok (.iload_n 2, 1) := by decide +kernel
theorem dRF_print_337 : decode mRF_print.2.1 337 = .ok (.invokevirtual 260, 3) := by decide +kernel
theorem dRF_print_340 : decode mRF_print.2.1 340 = .ok (.aload_n 0, 1) := by decide +kernel
theorem dRF_print_341 : decode mRF_print.2.1 341 = .ok (.ldc2_w 25, 3) := by decide +kernel
theorem dRF_print_344 : decode mRF_print.2.1 344 = .ok (.invokevirtual 253, 3) := by decide +kernel
theorem dRF_print_347 : decode mRF_print.2.1 347 = .ok (.aload_n 0, 1) := by decide +kernel
theorem dRF_print_348 : decode mRF_print.2.1 348 = .ok (.iload_n 3, 1) := by decide +kernel
theorem dRF_print_349 : decode mRF_print.2.1 349 = .ok (.invokevirtual 260, 3) := by decide +kernel
theorem dRF_print_352 : decode mRF_print.2.1 352 = .ok (.goto 91, 3) := by decide +kernel
theorem dRF_print_355 : decode mRF_print.2.1 355 = .ok (.aload_n 0, 1) := by decide +kernel
theorem dRF_print_356 : decode mRF_print.2.1 356 = .ok (.ldc2_w 27, 3) := by decide +kernel
theorem dRF_print_359 : decode mRF_print.2.1 359 = .ok (.invokevirtual 253, 3) := by decide +kernel
theorem dRF_print_362 : decode mRF_print.2.1 362 = .ok (.aload_n 0, 1) := by decide +kernel
theorem dRF_print_363 : decode mRF_print.2.1 363 = .ok (.lload 4, 2) := by decide +kernel
theorem dRF_print_365 : decode mRF_print.2.1 365 = .ok (.invokevirtual 253, 3) := by decide +kernel
theorem dRF_print_368 : decode mRF_print.2.1 368 = .ok (.goto 75, 3) := by decide +kernel
theorem dRF_print_371 : decode mRF_print.2.1 371 = .ok (.aload_n 0, 1) := by decide +kernel
theorem dRF_print_372 : decode mRF_print.2.1 372 = .ok (.iload_n 2, 1) := by decide +kernel
theorem dRF_print_373 : decode mRF_print.2.1 373 = .ok (.invokevirtual 260, 3) := by decide +kernel
theorem dRF_print_376 : decode mRF_print.2.1 376 = .ok (.aload_n 0, 1) := by decide +kernel
theorem dRF_print_377 : decode mRF_print.2.1 377 = .ok (.ldc2_w 29, 3) := by decide +kernel
theorem dRF_print_380 : decode mRF_print.2.1 380 = .ok (.invokevirtual 253, 3) := by decide +kernel
theorem dRF_print_383 : decode mRF_print.2.1 383 = .ok (.aload_n 0, 1) := by decide +kernel
theorem dRF_print_384 : decode mRF_print.2.1 384 = .ok (.iload_n 3, 1) := by decide +kernel
theorem dRF_print_385 : decode mRF_print.2.1 385 = .ok (.invokevirtual 260, 3) := by decide +kernel
theorem dRF_print_388 : decode mRF_print.2.1 388 = .ok (.goto 55, 3) := by decide +kernel
theorem dRF_print_391 : decode mRF_print.2.1 391 = .ok (.aload_n 0, 1) := by decide +kernel
theorem dRF_print_392 : decode mRF_print.2.1 392 = .ok (.ldc2_w 31, 3) := by decide +kernel
theorem dRF_print_395 : decode mRF_print.2.1 395 = .ok (.invokevirtual 253, 3) := by decide +kernel
theorem dRF_print_398 : decode mRF_print.2.1 398 = .ok (.aload_n 0, 1) := by decide +kernel
theorem dRF_print_399 : decode mRF_print.2.1 399 = .ok (.iload_n 2, 1) := by decide +kernel
theorem dRF_print_400 : decode mRF_print.2.1 400 = .ok (.invokevirtual 260, 3) := by decide +kernel
theorem dRF_print_403 : decode mRF_print.2.1 403 = .ok (.aload_n 0, 1) := by decide +kernel
theorem dRF_print_404 : decode mRF_print.2.1 404 = .ok (.ldc2_w 29, 3) := by decide +kernel
theorem dRF_print_407 : decode mRF_print.2.1 407 = .ok (.invokevirtual 253, 3) := by decide +kernel
theorem dRF_print_410 : decode mRF_print.2.1 410 = .ok (.aload_n 0, 1) := by decide +kernel
theorem dRF_print_411 : decode mRF_print.2.1 411 = .ok (.iload_n 3, 1) := by decide +kernel
theorem dRF_print_412 : decode mRF_print.2.1 412 = .ok (.invokevirtual 260, 3) := by decide +kernel
theorem dRF_print_415 : decode mRF_print.2.1 415 = .ok (.goto 28, 3) := by decide +kernel
theorem dRF_print_418 : decode mRF_print.2.1 418 = .ok (.aload_n 0, 1) := by decide +kernel
theorem dRF_print_419 : decode mRF_print.2.1 419 = .ok (.ldc2_w 33, 3) := by decide +kernel
theorem dRF_print_422 : decode mRF_print.2.1 422 = .ok (.invokevirtual 253, 3) := by decide +kernel
theorem dRF_print_425 : decode mRF_print.2.1 425 = .ok (.aload_n 0, 1) := by decide +kernel
theorem dRF_print_426 : decode mRF_print.2.1 426 = .ok (.iload_n 2, 1) := by decide +kernel
theorem dRF_print_427 : decode mRF_print.2.1 427 = .ok (.invokevirtual 260, 3) := by decide +kernel
theorem dRF_print_430 : decode mRF_print.2.1 430 = .ok (.aload_n 0, 1) := by decide +kernel
theorem dRF_print_431 : decode mRF_print.2.1 431 = .ok (.ldc2_w 35, 3) := by decide +kernel
theorem dRF_print_434 : decode mRF_print.2.1 434 = .ok (.invokevirtual 253, 3) := by decide +kernel
theorem dRF_print_437 : decode mRF_print.2.1 437 = .ok (.aload_n 0, 1) := by decide +kernel
theorem dRF_print_438 : decode mRF_print.2.1 438 = .ok (.lload 4, 2) := by decide +kernel
theorem dRF_print_440 : decode mRF_print.2.1 440 = .ok (.invokevirtual 253, 3) := by decide +kernel
theorem dRF_print_443 : decode mRF_print.2.1 443 = .ok (.aload_n 0, 1) := by decide +kernel
theorem dRF_print_444 : decode mRF_print.2.1 444 = .ok (.getfield 250, 3) := by decide +kernel
theorem dRF_print_447 : decode mRF_print.2.1 447 = .ok (.ireturn, 1) := by decide +kernel
theorem dRF_isNamed_0 : decode mRF_isNamed.2.1 0 = .ok (.iload_n 1, 1) := by decide +kernel
theorem dRF_isNamed_1 : decode mRF_isNamed.2.1 1 = .ok (.ifCond .eq 17, 3) := by decide +kernel
theorem dRF_isNamed_4 : decode mRF_isNamed.2.1 4 = .ok (.aload_n 0, 1) := by decide +kernel
theorem dRF_isNamed_5 : decode mRF_isNamed.2.1 5 = .ok (.getfield 68, 3) := by decide +kernel
theorem dRF_isNamed_8 : decode mRF_isNamed.2.1 8 = .ok (.iload_n 1, 1) := by decide +kernel
theorem dRF_isNamed_9 : decode mRF_isNamed.2.1 9 = .ok (.invokestatic 123, 3) := by decide +kernel
theorem dRF_isNamed_12 : decode mRF_isNamed.2.1 12 = .ok (.laload, 1) := by decide +kernel
theorem dRF_isNamed_13 : decode mRF_isNamed.2.1 13 = .ok (.lconst 0, 1) := by decide +kernel
theorem dRF_isNamed_14 : decode mRF_isNamed.2.1 14 = .ok (.lcmp, 1) := by decide +kernel
theorem dRF_isNamed_15 : decode mRF_isNamed.2.1 15 = .ok (.ifCond .eq 7, 3) := by decide +kernel
theorem dRF_isNamed_18 : decode mRF_isNamed.2.1 18 = .ok (.iconst 1, 1) := by decide +kernel
theorem dRF_isNamed_19 : decode mRF_isNamed.2.1 19 = .ok (.goto 4, 3) := by decide +kernel
theorem dRF_isNamed_22 : decode mRF_isNamed.2.1 22 = .ok (.iconst 0, 1) := by decide +kernel
theorem dRF_isNamed_23 : decode mRF_isNamed.2.1 23 = .ok (.ireturn, 1) := by decide +kernel
theorem dRF_show_0 : decode mRF_show.2.1 0 = .ok (.aload_n 0, 1) := by decide +kernel
theorem dRF_show_1 : decode mRF_show.2.1 1 = .ok (.getfield 250, 3) := by decide +kernel
theorem dRF_show_4 : decode mRF_show.2.1 4 = .ok (.ifCond .le 24, 3) := by decide +kernel
theorem dRF_show_7 : decode mRF_show.2.1 7 = .ok (.aload_n 0, 1) := by decide +kernel
theorem dRF_show_8 : decode mRF_show.2.1 8 = .ok (.getfield 71, 3) := by decide +kernel
theorem dRF_show_11 : decode mRF_show.2.1 11 = .ok (.aload_n 0, 1) := by decide +kernel
theorem dRF_show_12 : decode mRF_show.2.1 12 = .ok (.getfield 250, 3) := by decide +kernel
theorem dRF_show_15 : decode mRF_show.2.1 15 = .ok (.bipush 32, 2) := by decide +kernel
theorem dRF_show_17 : decode mRF_show.2.1 17 = .ok (.bastore, 1) := by decide +kernel
theorem dRF_show_18 : decode mRF_show.2.1 18 = .ok (.aload_n 0, 1) := by decide +kernel
theorem dRF_show_19 : decode mRF_show.2.1 19 = .ok (.dup, 1) := by decide +kernel
theorem dRF_show_20 : decode mRF_show.2.1 20 = .ok (.getfield 250, 3) := by decide +kernel
theorem dRF_show_23 : decode mRF_show.2.1 23 = .ok (.iconst 1, 1) := by decide +kernel
theorem dRF_show_24 : decode mRF_show.2.1 24 = .ok (.iadd, 1) := by decide +kernel
theorem dRF_show_25 : decode mRF_show.2.1 25 = .ok (.putfield 250, 3) := by decide +kernel
theorem dRF_show_28 : decode mRF_show.2.1 28 = .ok (.bipush 56, 2) := by decide +kernel
theorem dRF_show_30 : decode mRF_show.2.1 30 = .ok (.istore_n 3, 1) := by decide +kernel
theorem dRF_show_31 : decode mRF_show.2.1 31 = .ok (.iload_n 3, 1) := by decide +kernel
theorem dRF_show_32 : decode mRF_show.2.1 32 = .ok (.ifCond .lt 48, 3) := by decide +kernel
theorem dRF_show_35 : decode mRF_show.2.1 35 = .ok (.lload_n 1, 1) := by decide +kernel
theorem dRF_show_36 : decode mRF_show.2.1 36 = .ok (.iload_n 3, 1) := by decide +kernel
theorem dRF_show_37 : decode mRF_show.2.1 37 = .ok (.lshr, 1) := by decide +kernel
theorem dRF_show_38 : decode mRF_show.2.1 38 = .ok (.ldc2_w 240, 3) := by decide +kernel
theorem dRF_show_41 : decode mRF_show.2.1 41 = .ok (.land, 1) := by decide +kernel
theorem dRF_show_42 : decode mRF_show.2.1 42 = .ok (.lconst 0, 1) := by decide +kernel
theorem dRF_show_43 : decode mRF_show.2.1 43 = .ok (.lcmp, 1) := by decide +kernel
theorem dRF_show_44 : decode mRF_show.2.1 44 = .ok (.ifCond .ne 6, 3) := by decide +kernel
theorem dRF_show_47 : decode mRF_show.2.1 47 = .ok (.goto 27, 3) := by decide +kernel
theorem dRF_show_50 : decode mRF_show.2.1 50 = .ok (.aload_n 0, 1) := by decide +kernel
theorem dRF_show_51 : decode mRF_show.2.1 51 = .ok (.getfield 71, 3) := by decide +kernel
theorem dRF_show_54 : decode mRF_show.2.1 54 = .ok (.aload_n 0, 1) := by decide +kernel
theorem dRF_show_55 : decode mRF_show.2.1 55 = .ok (.getfield 250, 3) := by decide +kernel
theorem dRF_show_58 : decode mRF_show.2.1 58 = .ok (.lload_n 1, 1) := by decide +kernel
theorem dRF_show_59 : decode mRF_show.2.1 59 = .ok (.iload_n 3, 1) := by decide +kernel
theorem dRF_show_60 : decode mRF_show.2.1 60 = .ok (.lshr, 1) := by decide +kernel
theorem dRF_show_61 : decode mRF_show.2.1 61 = .ok (.l2i, 1) := by decide +kernel
theorem dRF_show_62 : decode mRF_show.2.1 62 = .ok (.i2b, 1) := by decide +kernel
theorem dRF_show_63 : decode mRF_show.2.1 63 = .ok (.bastore, 1) := by decide +kernel
theorem dRF_show_64 : decode mRF_show.2.1 64 = .ok (.aload_n 0, 1) := by decide +kernel
theorem dRF_show_65 : decode mRF_show.2.1 65 = .ok (.dup, 1) := by decide +kernel
theorem dRF_show_66 : decode mRF_show.2.1 66 = .ok (.getfield 250, 3) := by decide +kernel
theorem dRF_show_69 : decode mRF_show.2.1 69 = .ok (.iconst 1, 1) := by decide +kernel
theorem dRF_show_70 : decode mRF_show.2.1 70 = .ok (.iadd, 1) := by decide +kernel
theorem dRF_show_71 : decode mRF_show.2.1 71 = .ok (.putfield 250, 3) := by decide +kernel
theorem dRF_show_74 : decode mRF_show.2.1 74 = .ok (.iinc 3 (-8), 3) := by decide +kernel
theorem dRF_show_77 : decode mRF_show.2.1 77 = .ok (.goto (-46), 3) := by decide +kernel
theorem dRF_show_80 : decode mRF_show.2.1 80 = .ok (.return_, 1) := by decide +kernel
theorem dRF_showThing_0 : decode mRF_showThing.2.1 0 = .ok (.aload_n 0, 1) := by decide +kernel
theorem dRF_showThing_1 : decode mRF_showThing.2.1 1 = .ok (.aload_n 0, 1) := by decide +kernel
theorem dRF_showThing_2 : decode mRF_showThing.2.1 2 = .ok (.getfield 68, 3) := by decide +kernel
theorem dRF_showThing_5 : decode mRF_showThing.2.1 5 = .ok (.iload_n 1, 1) := by decide +kernel
theorem dRF_showThing_6 : decode mRF_showThing.2.1 6 = .ok (.invokestatic 123, 3) := by decide +kernel
theorem dRF_showThing_9 : decode mRF_showThing.2.1 9 = .ok (.laload, 1) := by decide +kernel
theorem dRF_showThing_10 : decode mRF_showThing.2.1 10 = .ok (.invokevirtual 253, 3) := by decide +kernel
theorem dRF_showThing_13 : decode mRF_showThing.2.1 13 = .ok (.return_, 1) := by decide +kernel
theorem dRF_shown_0 : decode mRF_shown.2.1 0 = .ok (.aload_n 0, 1) := by decide +kernel
theorem dRF_shown_1 : decode mRF_shown.2.1 1 = .ok (.iconst 0, 1) := by decide +kernel
theorem dRF_shown_2 : decode mRF_shown.2.1 2 = .ok (.putfield 94, 3) := by decide +kernel
theorem dRF_shown_5 : decode mRF_shown.2.1 5 = .ok (.iload_n 1, 1) := by decide +kernel
theorem dRF_shown_6 : decode mRF_shown.2.1 6 = .ok (.ifCond .lt 11, 3) := by decide +kernel
theorem dRF_shown_9 : decode mRF_shown.2.1 9 = .ok (.iload_n 1, 1) := by decide +kernel
theorem dRF_shown_10 : decode mRF_shown.2.1 10 = .ok (.aload_n 0, 1) := by decide +kernel
theorem dRF_shown_11 : decode mRF_shown.2.1 11 = .ok (.getfield 250, 3) := by decide +kernel
theorem dRF_shown_14 : decode mRF_shown.2.1 14 = .ok (.if_icmp .lt 7, 3) := by decide +kernel
theorem dRF_shown_17 : decode mRF_shown.2.1 17 = .ok (.iconst (-1), 1) := by decide +kernel
theorem dRF_shown_18 : decode mRF_shown.2.1 18 = .ok (.goto 9, 3) := by decide +kernel
theorem dRF_shown_21 : decode mRF_shown.2.1 21 = .ok (.aload_n 0, 1) := by decide +kernel
theorem dRF_shown_22 : decode mRF_shown.2.1 22 = .ok (.getfield 71, 3) := by decide +kernel
theorem dRF_shown_25 : decode mRF_shown.2.1 25 = .ok (.iload_n 1, 1) := by decide +kernel
theorem dRF_shown_26 : decode mRF_shown.2.1 26 = .ok (.baload, 1) := by decide +kernel
theorem dRF_shown_27 : decode mRF_shown.2.1 27 = .ok (.ireturn, 1) := by decide +kernel
theorem dRF_type_0 : decode mRF_type.2.1 0 = .ok (.aload_n 0, 1) := by decide +kernel
theorem dRF_type_1 : decode mRF_type.2.1 1 = .ok (.iconst 0, 1) := by decide +kernel
theorem dRF_type_2 : decode mRF_type.2.1 2 = .ok (.putfield 94, 3) := by decide +kernel
theorem dRF_type_5 : decode mRF_type.2.1 5 = .ok (.iconst 0, 1) := by decide +kernel
theorem dRF_type_6 : decode mRF_type.2.1 6 = .ok (.istore_n 3, 1) := by decide +kernel
theorem dRF_type_7 : decode mRF_type.2.1 7 = .ok (.bipush 56, 2) := by decide +kernel
theorem dRF_type_9 : decode mRF_type.2.1 9 = .ok (.istore 4, 2) := by decide +kernel
theorem dRF_type_11 : decode mRF_type.2.1 11 = .ok (.iload 4, 2) := by decide +kernel
theorem dRF_type_13 : decode mRF_type.2.1 13 = .ok (.ifCond .lt 61, 3) := by decide +kernel
theorem dRF_type_16 : decode mRF_type.2.1 16 = .ok (.lload_n 1, 1) := by decide +kernel
theorem dRF_type_17 : decode mRF_type.2.1 17 = .ok (.iload 4, 2) := by decide +kernel
theorem dRF_type_19 : decode mRF_type.2.1 19 = .ok (.lshr, 1) := by decide +kernel
theorem dRF_type_20 : decode mRF_type.2.1 20 = .ok (.ldc2_w 240, 3) := by decide +kernel
theorem dRF_type_23 : decode mRF_type.2.1 23 = .ok (.land, 1) := by decide +kernel
theorem dRF_type_24 : decode mRF_type.2.1 24 = .ok (.lstore 5, 2) := by decide +kernel
theorem dRF_type_26 : decode mRF_type.2.1 26 = .ok (.lload 5, 2) := by decide +kernel
theorem dRF_type_28 : decode mRF_type.2.1 28 = .ok (.lconst 0, 1) := by decide +kernel
theorem dRF_type_29 : decode mRF_type.2.1 29 = .ok (.lcmp, 1) := by decide +kernel
theorem dRF_type_30 : decode mRF_type.2.1 30 = .ok (.ifCond .eq 23, 3) := by decide +kernel
theorem dRF_type_33 : decode mRF_type.2.1 33 = .ok (.lload 5, 2) := by decide +kernel
theorem dRF_type_35 : decode mRF_type.2.1 35 = .ok (.ldc2_w 263, 3) := by decide +kernel
theorem dRF_type_38 : decode mRF_type.2.1 38 = .ok (.lcmp, 1) := by decide +kernel
theorem dRF_type_39 : decode mRF_type.2.1 39 = .ok (.ifCond .lt 12, 3) := by decide +kernel
theorem dRF_type_42 : decode mRF_type.2.1 42 = .ok (.lload 5, 2) := by decide +kernel
theorem dRF_type_44 : decode mRF_type.2.1 44 = .ok (.ldc2_w 265, 3) := by decide +kernel
theorem dRF_type_47 : decode mRF_type.2.1 47 = .ok (.lcmp, 1) := by decide +kernel
theorem dRF_type_48 : decode mRF_type.2.1 48 = .ok (.ifCond .le 5, 3) := by decide +kernel
theorem dRF_type_51 : decode mRF_type.2.1 51 = .ok (.iconst (-1), 1) := by decide +kernel
theorem dRF_type_52 : decode mRF_type.2.1 52 = .ok (.ireturn, 1) := by decide +kernel
theorem dRF_type_53 : decode mRF_type.2.1 53 = .ok (.iload_n 3, 1) := by decide +kernel
theorem dRF_type_54 : decode mRF_type.2.1 54 = .ok (.lload 5, 2) := by decide +kernel
theorem dRF_type_56 : decode mRF_type.2.1 56 = .ok (.lconst 0, 1) := by decide +kernel
theorem dRF_type_57 : decode mRF_type.2.1 57 = .ok (.lcmp, 1) := by decide +kernel
theorem dRF_type_58 : decode mRF_type.2.1 58 = .ok (.ifCond .eq 7, 3) := by decide +kernel
theorem dRF_type_61 : decode mRF_type.2.1 61 = .ok (.iconst 1, 1) := by decide +kernel
theorem dRF_type_62 : decode mRF_type.2.1 62 = .ok (.goto 4, 3) := by decide +kernel
theorem dRF_type_65 : decode mRF_type.2.1 65 = .ok (.iconst 0, 1) := by decide +kernel
theorem dRF_type_66 : decode mRF_type.2.1 66 = .ok (.iadd, 1) := by decide +kernel
theorem dRF_type_67 : decode mRF_type.2.1 67 = .ok (.istore_n 3, 1) := by decide +kernel
theorem dRF_type_68 : decode mRF_type.2.1 68 = .ok (.iinc 4 (-8), 3) := by decide +kernel
theorem dRF_type_71 : decode mRF_type.2.1 71 = .ok (.goto (-60), 3) := by decide +kernel
theorem dRF_type_74 : decode mRF_type.2.1 74 = .ok (.aload_n 0, 1) := by decide +kernel
theorem dRF_type_75 : decode mRF_type.2.1 75 = .ok (.getfield 267, 3) := by decide +kernel
theorem dRF_type_78 : decode mRF_type.2.1 78 = .ok (.iload_n 3, 1) := by decide +kernel
theorem dRF_type_79 : decode mRF_type.2.1 79 = .ok (.iadd, 1) := by decide +kernel
theorem dRF_type_80 : decode mRF_type.2.1 80 = .ok (.bipush 60, 2) := by decide +kernel
theorem dRF_type_82 : decode mRF_type.2.1 82 = .ok (.if_icmp .le 5, 3) := by decide +kernel
theorem dRF_type_85 : decode mRF_type.2.1 85 = .ok (.iconst (-1), 1) := by decide +kernel
theorem dRF_type_86 : decode mRF_type.2.1 86 = .ok (.ireturn, 1) := by decide +kernel
theorem dRF_type_87 : decode mRF_type.2.1 87 = .ok (.bipush 56, 2) := by decide +kernel
theorem dRF_type_89 : decode mRF_type.2.1 89 = .ok (.istore 4, 2) := by decide +kernel
theorem dRF_type_91 : decode mRF_type.2.1 91 = .ok (.iload 4, 2) := by decide +kernel
theorem dRF_type_93 : decode mRF_type.2.1 93 = .ok (.ifCond .lt 50, 3) := by decide +kernel
theorem dRF_type_96 : decode mRF_type.2.1 96 = .ok (.lload_n 1, 1) := by decide +kernel
theorem dRF_type_97 : decode mRF_type.2.1 97 = .ok (.iload 4, 2) := by decide +kernel
theorem dRF_type_99 : decode mRF_type.2.1 99 = .ok (.lshr, 1) := by decide +kernel
theorem dRF_type_100 : decode mRF_type.2.1 100 = .ok (.ldc2_w 240, 3) := by decide +kernel
theorem dRF_type_103 : decode mRF_type.2.1 103 = .ok (.land, 1) := by decide +kernel
theorem dRF_type_104 : decode mRF_type.2.1 104 = .ok (.lconst 0, 1) := by decide +kernel
theorem dRF_type_105 : decode mRF_type.2.1 105 = .ok (.lcmp, 1) := by decide +kernel
theorem dRF_type_106 : decode mRF_type.2.1 106 = .ok (.ifCond .ne 6, 3) := by decide +kernel
theorem dRF_type_109 : decode mRF_type.2.1 109 = .ok (.goto 28, 3) := by decide +kernel
theorem dRF_type_112 : decode mRF_type.2.1 112 = .ok (.aload_n 0, 1) := by decide +kernel
theorem dRF_type_113 : decode mRF_type.2.1 113 = .ok (.getfield 75, 3) := by decide +kernel
theorem dRF_type_116 : decode mRF_type.2.1 116 = .ok (.aload_n 0, 1) := by decide +kernel
theorem dRF_type_117 : decode mRF_type.2.1 117 = .ok (.getfield 267, 3) := by decide +kernel
theorem dRF_type_120 : decode mRF_type.2.1 120 = .ok (.lload_n 1, 1) := by decide +kernel
theorem dRF_type_121 : decode mRF_type.2.1 121 = .ok (.iload 4, 2) := by decide +kernel
theorem dRF_type_123 : decode mRF_type.2.1 123 = .ok (.lshr, 1) := by decide +kernel
theorem dRF_type_124 : decode mRF_type.2.1 124 = .ok (.l2i, 1) := by decide +kernel
theorem dRF_type_125 : decode mRF_type.2.1 125 = .ok (.i2b, 1) := by decide +kernel
theorem dRF_type_126 : decode mRF_type.2.1 126 = .ok (.bastore, 1) := by decide +kernel
theorem dRF_type_127 : decode mRF_type.2.1 127 = .ok (.aload_n 0, 1) := by decide +kernel
theorem dRF_type_128 : decode mRF_type.2.1 128 = .ok (.dup, 1) := by decide +kernel
theorem dRF_type_129 : decode mRF_type.2.1 129 = .ok (.getfield 267, 3) := by decide +kernel
theorem dRF_type_132 : decode mRF_type.2.1 132 = .ok (.iconst 1, 1) := by decide +kernel
theorem dRF_type_133 : decode mRF_type.2.1 133 = .ok (.iadd, 1) := by decide +kernel
theorem dRF_type_134 : decode mRF_type.2.1 134 = .ok (.putfield 267, 3) := by decide +kernel
theorem dRF_type_137 : decode mRF_type.2.1 137 = .ok (.iinc 4 (-8), 3) := by decide +kernel
theorem dRF_type_140 : decode mRF_type.2.1 140 = .ok (.goto (-49), 3) := by decide +kernel
theorem dRF_type_143 : decode mRF_type.2.1 143 = .ok (.aload_n 0, 1) := by decide +kernel
theorem dRF_type_144 : decode mRF_type.2.1 144 = .ok (.getfield 267, 3) := by decide +kernel
theorem dRF_type_147 : decode mRF_type.2.1 147 = .ok (.ireturn, 1) := by decide +kernel
theorem dRF_read_0 : decode mRF_read.2.1 0 = .ok (.aload_n 0, 1) := by decide +kernel
theorem dRF_read_1 : decode mRF_read.2.1 1 = .ok (.iconst (-1), 1) := by decide +kernel
theorem dRF_read_2 : decode mRF_read.2.1 2 = .ok (.putfield 78, 3) := by decide +kernel
theorem dRF_read_5 : decode mRF_read.2.1 5 = .ok (.aload_n 0, 1) := by decide +kernel
theorem dRF_read_6 : decode mRF_read.2.1 6 = .ok (.iconst 0, 1) := by decide +kernel
theorem dRF_read_7 : decode mRF_read.2.1 7 = .ok (.putfield 270, 3) := by decide +kernel
theorem dRF_read_10 : decode mRF_read.2.1 10 = .ok (.aload_n 0, 1) := by decide +kernel
theorem dRF_read_11 : decode mRF_read.2.1 11 = .ok (.iconst 0, 1) := by decide +kernel
theorem dRF_read_12 : decode mRF_read.2.1 12 = .ok (.putfield 314, 3) := by decide +kernel
theorem dRF_read_15 : decode mRF_read.2.1 15 = .ok (.aload_n 0, 1) := by decide +kernel
theorem dRF_read_16 : decode mRF_read.2.1 16 = .ok (.iconst 0, 1) := by decide +kernel
theorem dRF_read_17 : decode mRF_read.2.1 17 = .ok (.putfield 317, 3) := by decide +kernel
theorem dRF_read_20 : decode mRF_read.2.1 20 = .ok (.aload_n 0, 1) := by decide +kernel
theorem dRF_read_21 : decode mRF_read.2.1 21 = .ok (.iconst 0, 1) := by decide +kernel
theorem dRF_read_22 : decode mRF_read.2.1 22 = .ok (.putfield 308, 3) := by decide +kernel
theorem dRF_read_25 : decode mRF_read.2.1 25 = .ok (.aload_n 0, 1) := by decide +kernel
theorem dRF_read_26 : decode mRF_read.2.1 26 = .ok (.iconst (-1), 1) := by decide +kernel
theorem dRF_read_27 : decode mRF_read.2.1 27 = .ok (.putfield 320, 3) := by decide +kernel
theorem dRF_read_30 : decode mRF_read.2.1 30 = .ok (.aload_n 0, 1) := by decide +kernel
theorem dRF_read_31 : decode mRF_read.2.1 31 = .ok (.ldc2_w 288, 3) := by decide +kernel
theorem dRF_read_34 : decode mRF_read.2.1 34 = .ok (.invokevirtual 295, 3) := by decide +kernel
theorem dRF_read_37 : decode mRF_read.2.1 37 = .ok (.ifCond .ne 13, 3) := by decide +kernel
theorem dRF_read_40 : decode mRF_read.2.1 40 = .ok (.aload_n 0, 1) := by decide +kernel
theorem dRF_read_41 : decode mRF_read.2.1 41 = .ok (.ldc2_w 323, 3) := by decide +kernel
theorem dRF_read_44 : decode mRF_read.2.1 44 = .ok (.invokevirtual 295, 3) := by decide +kernel
theorem dRF_read_47 : decode mRF_read.2.1 47 = .ok (.ifCond .eq 18, 3) := by decide +kernel
theorem dRF_read_50 : decode mRF_read.2.1 50 = .ok (.aload_n 0, 1) := by decide +kernel
theorem dRF_read_51 : decode mRF_read.2.1 51 = .ok (.aload_n 0, 1) := by decide +kernel
theorem dRF_read_52 : decode mRF_read.2.1 52 = .ok (.invokevirtual 305, 3) := by decide +kernel
theorem dRF_read_55 : decode mRF_read.2.1 55 = .ok (.putfield 320, 3) := by decide +kernel
theorem dRF_read_58 : decode mRF_read.2.1 58 = .ok (.aload_n 0, 1) := by decide +kernel
theorem dRF_read_59 : decode mRF_read.2.1 59 = .ok (.ldc2_w 37, 3) := by decide +kernel
theorem dRF_read_62 : decode mRF_read.2.1 62 = .ok (.invokevirtual 302, 3) := by decide +kernel
theorem dRF_read_65 : decode mRF_read.2.1 65 = .ok (.aload_n 0, 1) := by decide +kernel
theorem dRF_read_66 : decode mRF_read.2.1 66 = .ok (.aload_n 0, 1) := by decide +kernel
theorem dRF_read_67 : decode mRF_read.2.1 67 = .ok (.invokevirtual 311, 3) := by decide +kernel
theorem dRF_read_70 : decode mRF_read.2.1 70 = .ok (.putfield 325, 3) := by decide +kernel
theorem dRF_read_73 : decode mRF_read.2.1 73 = .ok (.aload_n 0, 1) := by decide +kernel
theorem dRF_read_74 : decode mRF_read.2.1 74 = .ok (.ldc2_w 9, 3) := by decide +kernel
theorem dRF_read_77 : decode mRF_read.2.1 77 = .ok (.invokevirtual 302, 3) := by decide +kernel
theorem dRF_read_80 : decode mRF_read.2.1 80 = .ok (.aload_n 0, 1) := by decide +kernel
theorem dRF_read_81 : decode mRF_read.2.1 81 = .ok (.getfield 78, 3) := by decide +kernel
theorem dRF_read_84 : decode mRF_read.2.1 84 = .ok (.iconst (-1), 1) := by decide +kernel
theorem dRF_read_85 : decode mRF_read.2.1 85 = .ok (.if_icmp .ne 7, 3) := by decide +kernel
theorem dRF_read_88 : decode mRF_read.2.1 88 = .ok (.aload_n 0, 1) := by decide +kernel
theorem dRF_read_89 : decode mRF_read.2.1 89 = .ok (.invokevirtual 328, 3) := by decide +kernel
theorem dRF_read_92 : decode mRF_read.2.1 92 = .ok (.aload_n 0, 1) := by decide +kernel
theorem dRF_read_93 : decode mRF_read.2.1 93 = .ok (.getfield 78, 3) := by decide +kernel
theorem dRF_read_96 : decode mRF_read.2.1 96 = .ok (.iconst (-1), 1) := by decide +kernel
theorem dRF_read_97 : decode mRF_read.2.1 97 = .ok (.if_icmp .ne 14, 3) := by decide +kernel
theorem dRF_read_100 : decode mRF_read.2.1 100 = .ok (.aload_n 0, 1) := by decide +kernel
theorem dRF_read_101 : decode mRF_read.2.1 101 = .ok (.invokevirtual 275, 3) := by decide +kernel
theorem dRF_read_104 : decode mRF_read.2.1 104 = .ok (.ifCond .ne 7, 3) := by decide +kernel
theorem dRF_read_107 : decode mRF_read.2.1 107 = .ok (.aload_n 0, 1) := by decide +kernel
theorem dRF_read_108 : decode mRF_read.2.1 108 = .ok (.invokevirtual 282, 3) := by decide +kernel
theorem dRF_read_111 : decode mRF_read.2.1 111 = .ok (.aload_n 0, 1) := by decide +kernel
theorem dRF_read_112 : decode mRF_read.2.1 112 = .ok (.iconst 0, 1) := by decide +kernel
theorem dRF_read_113 : decode mRF_read.2.1 113 = .ok (.putfield 267, 3) := by decide +kernel
theorem dRF_read_116 : decode mRF_read.2.1 116 = .ok (.aload_n 0, 1) := by decide +kernel
theorem dRF_read_117 : decode mRF_read.2.1 117 = .ok (.getfield 78, 3) := by decide +kernel
theorem dRF_read_120 : decode mRF_read.2.1 120 = .ok (.iconst (-1), 1) := by decide +kernel
theorem dRF_read_121 : decode mRF_read.2.1 121 = .ok (.if_icmp .ne 38, 3) := by decide +kernel
theorem dRF_read_124 : decode mRF_read.2.1 124 = .ok (.aload_n 0, 1) := by decide +kernel
theorem dRF_read_125 : decode mRF_read.2.1 125 = .ok (.aload_n 0, 1) := by decide +kernel
theorem dRF_read_126 : decode mRF_read.2.1 126 = .ok (.getfield 299, 3) := by decide +kernel
theorem dRF_read_129 : decode mRF_read.2.1 129 = .ok (.aload_n 0, 1) := by decide +kernel
theorem dRF_read_130 : decode mRF_read.2.1 130 = .ok (.getfield 325, 3) := by decide +kernel
theorem dRF_read_133 : decode mRF_read.2.1 133 = .ok (.aload_n 0, 1) := by decide +kernel
theorem dRF_read_134 : decode mRF_read.2.1 134 = .ok (.getfield 314, 3) := by decide +kernel
theorem dRF_read_137 : decode mRF_read.2.1 137 = .ok (.aload_n 0, 1) := by decide +kernel
theorem dRF_read_138 : decode mRF_read.2.1 138 = .ok (.getfield 317, 3) := by decide +kernel
theorem dRF_read_141 : decode mRF_read.2.1 141 = .ok (.aload_n 0, 1) := by decide +kernel
theorem dRF_read_142 : decode mRF_read.2.1 142 = .ok (.getfield 308, 3) := by decide +kernel
theorem dRF_read_145 : decode mRF_read.2.1 145 = .ok (.aload_n 0, 1) := by decide +kernel
theorem dRF_read_146 : decode mRF_read.2.1 146 = .ok (.getfield 320, 3) := by decide +kernel
theorem dRF_read_149 : decode mRF_read.2.1 149 = .ok (.invokevirtual 104, 3) := by decide +kernel
theorem dRF_read_152 : decode mRF_read.2.1 152 = .ok (.ifCond .eq 7, 3) := by decide +kernel
theorem dRF_read_155 : decode mRF_read.2.1 155 = .ok (.iconst 1, 1) := by decide +kernel
theorem dRF_read_156 : decode mRF_read.2.1 156 = .ok (.goto 4, 3) := by decide +kernel
theorem dRF_read_159 : decode mRF_read.2.1 159 = .ok (.iconst 0, 1) := by decide +kernel
theorem dRF_read_160 : decode mRF_read.2.1 160 = .ok (.istore_n 1, 1) := by decide +kernel
theorem dRF_read_161 : decode mRF_read.2.1 161 = .ok (.aload_n 0, 1) := by decide +kernel
theorem dRF_read_162 : decode mRF_read.2.1 162 = .ok (.getfield 78, 3) := by decide +kernel
theorem dRF_read_165 : decode mRF_read.2.1 165 = .ok (.iconst (-1), 1) := by decide +kernel
theorem dRF_read_166 : decode mRF_read.2.1 166 = .ok (.if_icmp .ne 13, 3) := by decide +kernel
theorem dRF_read_169 : decode mRF_read.2.1 169 = .ok (.iload_n 1, 1) := by decide +kernel
theorem dRF_read_170 : decode mRF_read.2.1 170 = .ok (.ifCond .ne 9, 3) := by decide +kernel
theorem dRF_read_173 : decode mRF_read.2.1 173 = .ok (.aload_n 0, 1) := by decide +kernel
theorem dRF_read_174 : decode mRF_read.2.1 174 = .ok (.bipush (-2), 2) := by decide +kernel
theorem dRF_read_176 : decode mRF_read.2.1 176 = .ok (.putfield 78, 3) := by decide +kernel
theorem dRF_read_179 : decode mRF_read.2.1 179 = .ok (.aload_n 0, 1) := by decide +kernel
theorem dRF_read_180 : decode mRF_read.2.1 180 = .ok (.iload_n 1, 1) := by decide +kernel
theorem dRF_read_181 : decode mRF_read.2.1 181 = .ok (.ifCond .eq 7, 3) := by decide +kernel
theorem dRF_read_184 : decode mRF_read.2.1 184 = .ok (.iconst 0, 1) := by decide +kernel
theorem dRF_read_185 : decode mRF_read.2.1 185 = .ok (.goto 4, 3) := by decide +kernel
theorem dRF_read_188 : decode mRF_read.2.1 188 = .ok (.iconst 1, 1) := by decide +kernel
theorem dRF_read_189 : decode mRF_read.2.1 189 = .ok (.putfield 94, 3) := by decide +kernel
theorem dRF_read_192 : decode mRF_read.2.1 192 = .ok (.iload_n 1, 1) := by decide +kernel
theorem dRF_read_193 : decode mRF_read.2.1 193 = .ok (.ifCond .eq 34, 3) := by decide +kernel
theorem dRF_read_196 : decode mRF_read.2.1 196 = .ok (.aload_n 0, 1) := by decide +kernel
theorem dRF_read_197 : decode mRF_read.2.1 197 = .ok (.aload_n 0, 1) := by decide +kernel
theorem dRF_read_198 : decode mRF_read.2.1 198 = .ok (.getfield 299, 3) := by decide +kernel
theorem dRF_read_201 : decode mRF_read.2.1 201 = .ok (.aload_n 0, 1) := by decide +kernel
theorem dRF_read_202 : decode mRF_read.2.1 202 = .ok (.getfield 325, 3) := by decide +kernel
theorem dRF_read_205 : decode mRF_read.2.1 205 = .ok (.aload_n 0, 1) := by decide +kernel
theorem dRF_read_206 : decode mRF_read.2.1 206 = .ok (.getfield 314, 3) := by decide +kernel
theorem dRF_read_209 : decode mRF_read.2.1 209 = .ok (.aload_n 0, 1) := by decide +kernel
theorem dRF_read_210 : decode mRF_read.2.1 210 = .ok (.getfield 317, 3) := by decide +kernel
theorem dRF_read_213 : decode mRF_read.2.1 213 = .ok (.aload_n 0, 1) := by decide +kernel
theorem dRF_read_214 : decode mRF_read.2.1 214 = .ok (.getfield 308, 3) := by decide +kernel
theorem dRF_read_217 : decode mRF_read.2.1 217 = .ok (.aload_n 0, 1) := by decide +kernel
theorem dRF_read_218 : decode mRF_read.2.1 218 = .ok (.getfield 320, 3) := by decide +kernel
theorem dRF_read_221 : decode mRF_read.2.1 221 = .ok (.invokevirtual 331, 3) := by decide +kernel
theorem dRF_read_224 : decode mRF_read.2.1 224 = .ok (.goto 4, 3) := by decide +kernel
theorem dRF_read_227 : decode mRF_read.2.1 227 = .ok (.iconst 0, 1) := by decide +kernel
theorem dRF_read_228 : decode mRF_read.2.1 228 = .ok (.ireturn, 1) := by decide +kernel
theorem dRF_is_0 : decode mRF_is.2.1 0 = .ok (.aload_n 0, 1) := by decide +kernel
theorem dRF_is_1 : decode mRF_is.2.1 1 = .ok (.invokevirtual 275, 3) := by decide +kernel
theorem dRF_is_4 : decode mRF_is.2.1 4 = .ok (.ifCond .ne 16, 3) := by decide +kernel
theorem dRF_is_7 : decode mRF_is.2.1 7 = .ok (.aload_n 0, 1) := by decide +kernel
theorem dRF_is_8 : decode mRF_is.2.1 8 = .ok (.invokevirtual 278, 3) := by decide +kernel
theorem dRF_is_11 : decode mRF_is.2.1 11 = .ok (.lload_n 1, 1) := by decide +kernel
theorem dRF_is_12 : decode mRF_is.2.1 12 = .ok (.lcmp, 1) := by decide +kernel
theorem dRF_is_13 : decode mRF_is.2.1 13 = .ok (.ifCond .ne 7, 3) := by decide +kernel
theorem dRF_is_16 : decode mRF_is.2.1 16 = .ok (.iconst 1, 1) := by decide +kernel
theorem dRF_is_17 : decode mRF_is.2.1 17 = .ok (.goto 4, 3) := by decide +kernel
theorem dRF_is_20 : decode mRF_is.2.1 20 = .ok (.iconst 0, 1) := by decide +kernel
theorem dRF_is_21 : decode mRF_is.2.1 21 = .ok (.ireturn, 1) := by decide +kernel
theorem dRF_isAtEnd_0 : decode mRF_isAtEnd.2.1 0 = .ok (.aload_n 0, 1) := by decide +kernel
theorem dRF_isAtEnd_1 : decode mRF_isAtEnd.2.1 1 = .ok (.getfield 270, 3) := by decide +kernel
theorem dRF_isAtEnd_4 : decode mRF_isAtEnd.2.1 4 = .ok (.bipush 61, 2) := by decide +kernel
theorem dRF_isAtEnd_6 : decode mRF_isAtEnd.2.1 6 = .ok (.if_icmp .ne 7, 3) := by decide +kernel
theorem dRF_isAtEnd_9 : decode mRF_isAtEnd.2.1 9 = .ok (.iconst 1, 1) := by decide +kernel
theorem dRF_isAtEnd_10 : decode mRF_isAtEnd.2.1 10 = .ok (.goto 4, 3) := by decide +kernel
theorem dRF_isAtEnd_13 : decode mRF_isAtEnd.2.1 13 = .ok (.iconst 0, 1) := by decide +kernel
theorem dRF_isAtEnd_14 : decode mRF_isAtEnd.2.1 14 = .ok (.ireturn, 1) := by decide +kernel
theorem dRF_word_0 : decode mRF_word.2.1 0 = .ok (.lconst 0, 1) := by decide +kernel
theorem dRF_word_1 : decode mRF_word.2.1 1 = .ok (.lstore_n 1, 1) := by decide +kernel
theorem dRF_word_2 : decode mRF_word.2.1 2 = .ok (.iconst 0, 1) := by decide +kernel
theorem dRF_word_3 : decode mRF_word.2.1 3 = .ok (.istore_n 3, 1) := by decide +kernel
theorem dRF_word_4 : decode mRF_word.2.1 4 = .ok (.aload_n 0, 1) := by decide +kernel
theorem dRF_word_5 : decode mRF_word.2.1 5 = .ok (.getfield 270, 3) := by decide +kernel
theorem dRF_word_8 : decode mRF_word.2.1 8 = .ok (.istore 4, 2) := by decide +kernel
theorem dRF_word_10 : decode mRF_word.2.1 10 = .ok (.iload 4, 2) := by decide +kernel
theorem dRF_word_12 : decode mRF_word.2.1 12 = .ok (.aload_n 0, 1) := by decide +kernel
theorem dRF_word_13 : decode mRF_word.2.1 13 = .ok (.getfield 267, 3) := by decide +kernel
theorem dRF_word_16 : decode mRF_word.2.1 16 = .ok (.if_icmp .ge 38, 3) := by decide +kernel
theorem dRF_word_19 : decode mRF_word.2.1 19 = .ok (.aload_n 0, 1) := by decide +kernel
theorem dRF_word_20 : decode mRF_word.2.1 20 = .ok (.getfield 75, 3) := by decide +kernel
theorem dRF_word_23 : decode mRF_word.2.1 23 = .ok (.iload 4, 2) := by decide +kernel
theorem dRF_word_25 : decode mRF_word.2.1 25 = .ok (.baload, 1) := by decide +kernel
theorem dRF_word_26 : decode mRF_word.2.1 26 = .ok (.bipush 32, 2) := by decide +kernel
theorem dRF_word_28 : decode mRF_word.2.1 28 = .ok (.if_icmp .eq 26, 3) := by decide +kernel
theorem dRF_word_31 : decode mRF_word.2.1 31 = .ok (.lload_n 1, 1) := by decide +kernel
theorem dRF_word_32 : decode mRF_word.2.1 32 = .ok (.bipush 8, 2) := by decide +kernel
theorem dRF_word_34 : decode mRF_word.2.1 34 = .ok (.lshl, 1) := by decide +kernel
theorem dRF_word_35 : decode mRF_word.2.1 35 = .ok (.aload_n 0, 1) := by decide +kernel
theorem dRF_word_36 : decode mRF_word.2.1 36 = .ok (.getfield 75, 3) := by decide +kernel
theorem dRF_word_39 : decode mRF_word.2.1 39 = .ok (.iload 4, 2) := by decide +kernel
theorem dRF_word_41 : decode mRF_word.2.1 41 = .ok (.baload, 1) := by decide +kernel
theorem dRF_word_42 : decode mRF_word.2.1 42 = .ok (.i2l, 1) := by decide +kernel
theorem dRF_word_43 : decode mRF_word.2.1 43 = .ok (.lor, 1) := by decide +kernel
theorem dRF_word_44 : decode mRF_word.2.1 44 = .ok (.lstore_n 1, 1) := by decide +kernel
theorem dRF_word_45 : decode mRF_word.2.1 45 = .ok (.iinc 3 1, 3) := by decide +kernel
theorem dRF_word_48 : decode mRF_word.2.1 48 = .ok (.iinc 4 1, 3) := by decide +kernel
theorem dRF_word_51 : decode mRF_word.2.1 51 = .ok (.goto (-41), 3) := by decide +kernel
theorem dRF_word_54 : decode mRF_word.2.1 54 = .ok (.iload_n 3, 1) := by decide +kernel
theorem dRF_word_55 : decode mRF_word.2.1 55 = .ok (.bipush 8, 2) := by decide +kernel
theorem dRF_word_57 : decode mRF_word.2.1 57 = .ok (.if_icmp .le 9, 3) := by decide +kernel
theorem dRF_word_60 : decode mRF_word.2.1 60 = .ok (.ldc2_w 273, 3) := by decide +kernel
theorem dRF_word_63 : decode mRF_word.2.1 63 = .ok (.goto 4, 3) := by decide +kernel
theorem dRF_word_66 : decode mRF_word.2.1 66 = .ok (.lload_n 1, 1) := by decide +kernel
theorem dRF_word_67 : decode mRF_word.2.1 67 = .ok (.lreturn, 1) := by decide +kernel
theorem dRF_digit_0 : decode mRF_digit.2.1 0 = .ok (.aload_n 0, 1) := by decide +kernel
theorem dRF_digit_1 : decode mRF_digit.2.1 1 = .ok (.getfield 78, 3) := by decide +kernel
theorem dRF_digit_4 : decode mRF_digit.2.1 4 = .ok (.iconst (-1), 1) := by decide +kernel
theorem dRF_digit_5 : decode mRF_digit.2.1 5 = .ok (.if_icmp .eq 5, 3) := by decide +kernel
theorem dRF_digit_8 : decode mRF_digit.2.1 8 = .ok (.iconst 0, 1) := by decide +kernel
theorem dRF_digit_9 : decode mRF_digit.2.1 9 = .ok (.ireturn, 1) := by decide +kernel
theorem dRF_digit_10 : decode mRF_digit.2.1 10 = .ok (.aload_n 0, 1) := by decide +kernel
theorem dRF_digit_11 : decode mRF_digit.2.1 11 = .ok (.invokevirtual 292, 3) := by decide +kernel
theorem dRF_digit_14 : decode mRF_digit.2.1 14 = .ok (.ifCond .ne 9, 3) := by decide +kernel
theorem dRF_digit_17 : decode mRF_digit.2.1 17 = .ok (.aload_n 0, 1) := by decide +kernel
theorem dRF_digit_18 : decode mRF_digit.2.1 18 = .ok (.invokevirtual 282, 3) := by decide +kernel
theorem dRF_digit_21 : decode mRF_digit.2.1 21 = .ok (.iconst 0, 1) := by decide +kernel
theorem dRF_digit_22 : decode mRF_digit.2.1 22 = .ok (.ireturn, 1) := by decide +kernel
theorem dRF_digit_23 : decode mRF_digit.2.1 23 = .ok (.aload_n 0, 1) := by decide +kernel
theorem dRF_digit_24 : decode mRF_digit.2.1 24 = .ok (.invokevirtual 278, 3) := by decide +kernel
theorem dRF_digit_27 : decode mRF_digit.2.1 27 = .ok (.l2i, 1) := by decide +kernel
theorem dRF_digit_28 : decode mRF_digit.2.1 28 = .ok (.bipush 48, 2) := by decide +kernel
theorem dRF_digit_30 : decode mRF_digit.2.1 30 = .ok (.isub, 1) := by decide +kernel
theorem dRF_digit_31 : decode mRF_digit.2.1 31 = .ok (.istore_n 1, 1) := by decide +kernel
theorem dRF_digit_32 : decode mRF_digit.2.1 32 = .ok (.aload_n 0, 1) := by decide +kernel
theorem dRF_digit_33 : decode mRF_digit.2.1 33 = .ok (.invokevirtual 285, 3) := by decide +kernel
theorem dRF_digit_36 : decode mRF_digit.2.1 36 = .ok (.iload_n 1, 1) := by decide +kernel
theorem dRF_digit_37 : decode mRF_digit.2.1 37 = .ok (.ireturn, 1) := by decide +kernel
theorem dRF_isDigit_0 : decode mRF_isDigit.2.1 0 = .ok (.aload_n 0, 1) := by decide +kernel
theorem dRF_isDigit_1 : decode mRF_isDigit.2.1 1 = .ok (.invokevirtual 275, 3) := by decide +kernel
theorem dRF_isDigit_4 : decode mRF_isDigit.2.1 4 = .ok (.ifCond .ne 29, 3) := by decide +kernel
theorem dRF_isDigit_7 : decode mRF_isDigit.2.1 7 = .ok (.aload_n 0, 1) := by decide +kernel
theorem dRF_isDigit_8 : decode mRF_isDigit.2.1 8 = .ok (.invokevirtual 278, 3) := by decide +kernel
theorem dRF_isDigit_11 : decode mRF_isDigit.2.1 11 = .ok (.ldc2_w 288, 3) := by decide +kernel
theorem dRF_isDigit_14 : decode mRF_isDigit.2.1 14 = .ok (.lcmp, 1) := by decide +kernel
theorem dRF_isDigit_15 : decode mRF_isDigit.2.1 15 = .ok (.ifCond .lt 18, 3) := by decide +kernel
theorem dRF_isDigit_18 : decode mRF_isDigit.2.1 18 = .ok (.aload_n 0, 1) := by decide +kernel
theorem dRF_isDigit_19 : decode mRF_isDigit.2.1 19 = .ok (.invokevirtual 278, 3) := by decide +kernel
theorem dRF_isDigit_22 : decode mRF_isDigit.2.1 22 = .ok (.ldc2_w 290, 3) := by decide +kernel
theorem dRF_isDigit_25 : decode mRF_isDigit.2.1 25 = .ok (.lcmp, 1) := by decide +kernel
theorem dRF_isDigit_26 : decode mRF_isDigit.2.1 26 = .ok (.ifCond .gt 7, 3) := by decide +kernel
theorem dRF_isDigit_29 : decode mRF_isDigit.2.1 29 = .ok (.iconst 1, 1) := by decide +kernel
theorem dRF_isDigit_30 : decode mRF_isDigit.2.1 30 = .ok (.goto 4, 3) := by decide +kernel
theorem dRF_isDigit_33 : decode mRF_isDigit.2.1 33 = .ok (.iconst 0, 1) := by decide +kernel
theorem dRF_isDigit_34 : decode mRF_isDigit.2.1 34 = .ok (.ireturn, 1) := by decide +kernel
theorem dRF_bad_0 : decode mRF_bad.2.1 0 = .ok (.aload_n 0, 1) := by decide +kernel
theorem dRF_bad_1 : decode mRF_bad.2.1 1 = .ok (.aload_n 0, 1) := by decide +kernel
theorem dRF_bad_2 : decode mRF_bad.2.1 2 = .ok (.getfield 270, 3) := by decide +kernel
theorem dRF_bad_5 : decode mRF_bad.2.1 5 = .ok (.aload_n 0, 1) := by decide +kernel
theorem dRF_bad_6 : decode mRF_bad.2.1 6 = .ok (.getfield 267, 3) := by decide +kernel
theorem dRF_bad_9 : decode mRF_bad.2.1 9 = .ok (.if_icmp .le 10, 3) := by decide +kernel
theorem dRF_bad_12 : decode mRF_bad.2.1 12 = .ok (.aload_n 0, 1) := by decide +kernel
theorem dRF_bad_13 : decode mRF_bad.2.1 13 = .ok (.getfield 267, 3) := by decide +kernel
theorem dRF_bad_16 : decode mRF_bad.2.1 16 = .ok (.goto 7, 3) := by decide +kernel
theorem dRF_bad_19 : decode mRF_bad.2.1 19 = .ok (.aload_n 0, 1) := by decide +kernel
theorem dRF_bad_20 : decode mRF_bad.2.1 20 = .ok (.getfield 270, 3) := by decide +kernel
theorem dRF_bad_23 : decode mRF_bad.2.1 23 = .ok (.putfield 78, 3) := by decide +kernel
theorem dRF_bad_26 : decode mRF_bad.2.1 26 = .ok (.return_, 1) := by decide +kernel
theorem dRF_next_0 : decode mRF_next.2.1 0 = .ok (.aload_n 0, 1) := by decide +kernel
theorem dRF_next_1 : decode mRF_next.2.1 1 = .ok (.getfield 270, 3) := by decide +kernel
theorem dRF_next_4 : decode mRF_next.2.1 4 = .ok (.aload_n 0, 1) := by decide +kernel
theorem dRF_next_5 : decode mRF_next.2.1 5 = .ok (.getfield 267, 3) := by decide +kernel
theorem dRF_next_8 : decode mRF_next.2.1 8 = .ok (.if_icmp .ge 30, 3) := by decide +kernel
theorem dRF_next_11 : decode mRF_next.2.1 11 = .ok (.aload_n 0, 1) := by decide +kernel
theorem dRF_next_12 : decode mRF_next.2.1 12 = .ok (.getfield 75, 3) := by decide +kernel
theorem dRF_next_15 : decode mRF_next.2.1 15 = .ok (.aload_n 0, 1) := by decide +kernel
theorem dRF_next_16 : decode mRF_next.2.1 16 = .ok (.getfield 270, 3) := by decide +kernel
theorem dRF_next_19 : decode mRF_next.2.1 19 = .ok (.baload, 1) := by decide +kernel
theorem dRF_next_20 : decode mRF_next.2.1 20 = .ok (.bipush 32, 2) := by decide +kernel
theorem dRF_next_22 : decode mRF_next.2.1 22 = .ok (.if_icmp .eq 16, 3) := by decide +kernel
theorem dRF_next_25 : decode mRF_next.2.1 25 = .ok (.aload_n 0, 1) := by decide +kernel
theorem dRF_next_26 : decode mRF_next.2.1 26 = .ok (.dup, 1) := by decide +kernel
theorem dRF_next_27 : decode mRF_next.2.1 27 = .ok (.getfield 270, 3) := by decide +kernel
theorem dRF_next_30 : decode mRF_next.2.1 30 = .ok (.iconst 1, 1) := by decide +kernel
theorem dRF_next_31 : decode mRF_next.2.1 31 = .ok (.iadd, 1) := by decide +kernel
theorem dRF_next_32 : decode mRF_next.2.1 32 = .ok (.putfield 270, 3) := by decide +kernel
theorem dRF_next_35 : decode mRF_next.2.1 35 = .ok (.goto (-35), 3) := by decide +kernel
theorem dRF_next_38 : decode mRF_next.2.1 38 = .ok (.aload_n 0, 1) := by decide +kernel
theorem dRF_next_39 : decode mRF_next.2.1 39 = .ok (.getfield 270, 3) := by decide +kernel
theorem dRF_next_42 : decode mRF_next.2.1 42 = .ok (.aload_n 0, 1) := by decide +kernel
theorem dRF_next_43 : decode mRF_next.2.1 43 = .ok (.getfield 267, 3) := by decide +kernel
theorem dRF_next_46 : decode mRF_next.2.1 46 = .ok (.if_icmp .ge 16, 3) := by decide +kernel
theorem dRF_next_49 : decode mRF_next.2.1 49 = .ok (.aload_n 0, 1) := by decide +kernel
theorem dRF_next_50 : decode mRF_next.2.1 50 = .ok (.dup, 1) := by decide +kernel
theorem dRF_next_51 : decode mRF_next.2.1 51 = .ok (.getfield 270, 3) := by decide +kernel
theorem dRF_next_54 : decode mRF_next.2.1 54 = .ok (.iconst 1, 1) := by decide +kernel
theorem dRF_next_55 : decode mRF_next.2.1 55 = .ok (.iadd, 1) := by decide +kernel
theorem dRF_next_56 : decode mRF_next.2.1 56 = .ok (.putfield 270, 3) := by decide +kernel
theorem dRF_next_59 : decode mRF_next.2.1 59 = .ok (.goto 9, 3) := by decide +kernel
theorem dRF_next_62 : decode mRF_next.2.1 62 = .ok (.aload_n 0, 1) := by decide +kernel
theorem dRF_next_63 : decode mRF_next.2.1 63 = .ok (.bipush 61, 2) := by decide +kernel
theorem dRF_next_65 : decode mRF_next.2.1 65 = .ok (.putfield 270, 3) := by decide +kernel
theorem dRF_next_68 : decode mRF_next.2.1 68 = .ok (.return_, 1) := by decide +kernel
theorem dRF_must_0 : decode mRF_must.2.1 0 = .ok (.aload_n 0, 1) := by decide +kernel
theorem dRF_must_1 : decode mRF_must.2.1 1 = .ok (.getfield 78, 3) := by decide +kernel
theorem dRF_must_4 : decode mRF_must.2.1 4 = .ok (.iconst (-1), 1) := by decide +kernel
theorem dRF_must_5 : decode mRF_must.2.1 5 = .ok (.if_icmp .eq 4, 3) := by decide +kernel
theorem dRF_must_8 : decode mRF_must.2.1 8 = .ok (.return_, 1) := by decide +kernel
theorem dRF_must_9 : decode mRF_must.2.1 9 = .ok (.aload_n 0, 1) := by decide +kernel
theorem dRF_must_10 : decode mRF_must.2.1 10 = .ok (.invokevirtual 275, 3) := by decide +kernel
theorem dRF_must_13 : decode mRF_must.2.1 13 = .ok (.ifCond .ne 12, 3) := by decide +kernel
theorem dRF_must_16 : decode mRF_must.2.1 16 = .ok (.aload_n 0, 1) := by decide +kernel
theorem dRF_must_17 : decode mRF_must.2.1 17 = .ok (.invokevirtual 278, 3) := by decide +kernel
theorem dRF_must_20 : decode mRF_must.2.1 20 = .ok (.lload_n 1, 1) := by decide +kernel
theorem dRF_must_21 : decode mRF_must.2.1 21 = .ok (.lcmp, 1) := by decide +kernel
theorem dRF_must_22 : decode mRF_must.2.1 22 = .ok (.ifCond .eq 10, 3) := by decide +kernel
theorem dRF_must_25 : decode mRF_must.2.1 25 = .ok (.aload_n 0, 1) := by decide +kernel
theorem dRF_must_26 : decode mRF_must.2.1 26 = .ok (.invokevirtual 282, 3) := by decide +kernel
theorem dRF_must_29 : decode mRF_must.2.1 29 = .ok (.goto 7, 3) := by decide +kernel
theorem dRF_must_32 : decode mRF_must.2.1 32 = .ok (.aload_n 0, 1) := by decide +kernel
theorem dRF_must_33 : decode mRF_must.2.1 33 = .ok (.invokevirtual 285, 3) := by decide +kernel
theorem dRF_must_36 : decode mRF_must.2.1 36 = .ok (.return_, 1) := by decide +kernel
theorem dRF_thing_0 : decode mRF_thing.2.1 0 = .ok (.aload_n 0, 1) := by decide +kernel
theorem dRF_thing_1 : decode mRF_thing.2.1 1 = .ok (.getfield 78, 3) := by decide +kernel
theorem dRF_thing_4 : decode mRF_thing.2.1 4 = .ok (.iconst (-1), 1) := by decide +kernel
theorem dRF_thing_5 : decode mRF_thing.2.1 5 = .ok (.if_icmp .eq 5, 3) := by decide +kernel
theorem dRF_thing_8 : decode mRF_thing.2.1 8 = .ok (.iconst 0, 1) := by decide +kernel
theorem dRF_thing_9 : decode mRF_thing.2.1 9 = .ok (.ireturn, 1) := by decide +kernel
theorem dRF_thing_10 : decode mRF_thing.2.1 10 = .ok (.iconst 0, 1) := by decide +kernel
theorem dRF_thing_11 : decode mRF_thing.2.1 11 = .ok (.istore_n 1, 1) := by decide +kernel
theorem dRF_thing_12 : decode mRF_thing.2.1 12 = .ok (.iload_n 1, 1) := by decide +kernel
theorem dRF_thing_13 : decode mRF_thing.2.1 13 = .ok (.bipush 15, 2) := by decide +kernel
theorem dRF_thing_15 : decode mRF_thing.2.1 15 = .ok (.if_icmp .ge 61, 3) := by decide +kernel
theorem dRF_thing_18 : decode mRF_thing.2.1 18 = .ok (.aload_n 0, 1) := by decide +kernel
theorem dRF_thing_19 : decode mRF_thing.2.1 19 = .ok (.invokevirtual 275, 3) := by decide +kernel
theorem dRF_thing_22 : decode mRF_thing.2.1 22 = .ok (.ifCond .ne 48, 3) := by decide +kernel
theorem dRF_thing_25 : decode mRF_thing.2.1 25 = .ok (.aload_n 0, 1) := by decide +kernel
theorem dRF_thing_26 : decode mRF_thing.2.1 26 = .ok (.getfield 68, 3) := by decide +kernel
theorem dRF_thing_29 : decode mRF_thing.2.1 29 = .ok (.iload_n 1, 1) := by decide +kernel
theorem dRF_thing_30 : decode mRF_thing.2.1 30 = .ok (.laload, 1) := by decide +kernel
theorem dRF_thing_31 : decode mRF_thing.2.1 31 = .ok (.lconst 0, 1) := by decide +kernel
theorem dRF_thing_32 : decode mRF_thing.2.1 32 = .ok (.lcmp, 1) := by decide +kernel
theorem dRF_thing_33 : decode mRF_thing.2.1 33 = .ok (.ifCond .eq 37, 3) := by decide +kernel
theorem dRF_thing_36 : decode mRF_thing.2.1 36 = .ok (.aload_n 0, 1) := by decide +kernel
theorem dRF_thing_37 : decode mRF_thing.2.1 37 = .ok (.invokevirtual 278, 3) := by decide +kernel
theorem dRF_thing_40 : decode mRF_thing.2.1 40 = .ok (.aload_n 0, 1) := by decide +kernel
theorem dRF_thing_41 : decode mRF_thing.2.1 41 = .ok (.getfield 68, 3) := by decide +kernel
theorem dRF_thing_44 : decode mRF_thing.2.1 44 = .ok (.iload_n 1, 1) := by decide +kernel
theorem dRF_thing_45 : decode mRF_thing.2.1 45 = .ok (.laload, 1) := by decide +kernel
theorem dRF_thing_46 : decode mRF_thing.2.1 46 = .ok (.lcmp, 1) := by decide +kernel
theorem dRF_thing_47 : decode mRF_thing.2.1 47 = .ok (.ifCond .eq 6, 3) := by decide +kernel
theorem dRF_thing_50 : decode mRF_thing.2.1 50 = .ok (.goto 20, 3) := by decide +kernel
theorem dRF_thing_53 : decode mRF_thing.2.1 53 = .ok (.aload_n 0, 1) := by decide +kernel
theorem dRF_thing_54 : decode mRF_thing.2.1 54 = .ok (.invokevirtual 285, 3) := by decide +kernel
theorem dRF_thing_57 : decode mRF_thing.2.1 57 = .ok (.bipush 10, 2) := by decide +kernel
theorem dRF_thing_59 : decode mRF_thing.2.1 59 = .ok (.iload_n 1, 1) := by decide +kernel
theorem dRF_thing_60 : decode mRF_thing.2.1 60 = .ok (.iconst 5, 1) := by decide +kernel
theorem dRF_thing_61 : decode mRF_thing.2.1 61 = .ok (.idiv, 1) := by decide +kernel
theorem dRF_thing_62 : decode mRF_thing.2.1 62 = .ok (.iconst 1, 1) := by decide +kernel
theorem dRF_thing_63 : decode mRF_thing.2.1 63 = .ok (.iadd, 1) := by decide +kernel
theorem dRF_thing_64 : decode mRF_thing.2.1 64 = .ok (.imul, 1) := by decide +kernel
theorem dRF_thing_65 : decode mRF_thing.2.1 65 = .ok (.iload_n 1, 1) := by decide +kernel
theorem dRF_thing_66 : decode mRF_thing.2.1 66 = .ok (.iconst 5, 1) := by decide +kernel
theorem dRF_thing_67 : decode mRF_thing.2.1 67 = .ok (.irem, 1) := by decide +kernel
theorem dRF_thing_68 : decode mRF_thing.2.1 68 = .ok (.iadd, 1) := by decide +kernel
theorem dRF_thing_69 : decode mRF_thing.2.1 69 = .ok (.ireturn, 1) := by decide +kernel
theorem dRF_thing_70 : decode mRF_thing.2.1 70 = .ok (.iinc 1 1, 3) := by decide +kernel
theorem dRF_thing_73 : decode mRF_thing.2.1 73 = .ok (.goto (-61), 3) := by decide +kernel
theorem dRF_thing_76 : decode mRF_thing.2.1 76 = .ok (.aload_n 0, 1) := by decide +kernel
theorem dRF_thing_77 : decode mRF_thing.2.1 77 = .ok (.invokevirtual 282, 3) := by decide +kernel
theorem dRF_thing_80 : decode mRF_thing.2.1 80 = .ok (.iconst 0, 1) := by decide +kernel
theorem dRF_thing_81 : decode mRF_thing.2.1 81 = .ok (.ireturn, 1) := by decide +kernel
theorem dRF_rest_0 : decode mRF_rest.2.1 0 = .ok (.aload_n 0, 1) := by decide +kernel
theorem dRF_rest_1 : decode mRF_rest.2.1 1 = .ok (.aload_n 0, 1) := by decide +kernel
theorem dRF_rest_2 : decode mRF_rest.2.1 2 = .ok (.ldc2_w 11, 3) := by decide +kernel
theorem dRF_rest_5 : decode mRF_rest.2.1 5 = .ok (.invokevirtual 295, 3) := by decide +kernel
theorem dRF_rest_8 : decode mRF_rest.2.1 8 = .ok (.ifCond .eq 7, 3) := by decide +kernel
theorem dRF_rest_11 : decode mRF_rest.2.1 11 = .ok (.iconst 1, 1) := by decide +kernel
theorem dRF_rest_12 : decode mRF_rest.2.1 12 = .ok (.goto 102, 3) := by decide +kernel
theorem dRF_rest_15 : decode mRF_rest.2.1 15 = .ok (.aload_n 0, 1) := by decide +kernel
theorem dRF_rest_16 : decode mRF_rest.2.1 16 = .ok (.ldc2_w 13, 3) := by decide +kernel
theorem dRF_rest_19 : decode mRF_rest.2.1 19 = .ok (.invokevirtual 295, 3) := by decide +kernel
theorem dRF_rest_22 : decode mRF_rest.2.1 22 = .ok (.ifCond .eq 7, 3) := by decide +kernel
theorem dRF_rest_25 : decode mRF_rest.2.1 25 = .ok (.iconst 2, 1) := by decide +kernel
theorem dRF_rest_26 : decode mRF_rest.2.1 26 = .ok (.goto 88, 3) := by decide +kernel
theorem dRF_rest_29 : decode mRF_rest.2.1 29 = .ok (.aload_n 0, 1) := by decide +kernel
theorem dRF_rest_30 : decode mRF_rest.2.1 30 = .ok (.ldc2_w 15, 3) := by decide +kernel
theorem dRF_rest_33 : decode mRF_rest.2.1 33 = .ok (.invokevirtual 295, 3) := by decide +kernel
theorem dRF_rest_36 : decode mRF_rest.2.1 36 = .ok (.ifCond .eq 7, 3) := by decide +kernel
theorem dRF_rest_39 : decode mRF_rest.2.1 39 = .ok (.iconst 3, 1) := by decide +kernel
theorem dRF_rest_40 : decode mRF_rest.2.1 40 = .ok (.goto 74, 3) := by decide +kernel
theorem dRF_rest_43 : decode mRF_rest.2.1 43 = .ok (.aload_n 0, 1) := by decide +kernel
theorem dRF_rest_44 : decode mRF_rest.2.1 44 = .ok (.invokevirtual 292, 3) := by decide +kernel
theorem dRF_rest_47 : decode mRF_rest.2.1 47 = .ok (.ifCond .eq 7, 3) := by decide +kernel
theorem dRF_rest_50 : decode mRF_rest.2.1 50 = .ok (.iconst 4, 1) := by decide +kernel
theorem dRF_rest_51 : decode mRF_rest.2.1 51 = .ok (.goto 63, 3) := by decide +kernel
theorem dRF_rest_54 : decode mRF_rest.2.1 54 = .ok (.aload_n 0, 1) := by decide +kernel
theorem dRF_rest_55 : decode mRF_rest.2.1 55 = .ok (.ldc2_w 23, 3) := by decide +kernel
theorem dRF_rest_58 : decode mRF_rest.2.1 58 = .ok (.invokevirtual 295, 3) := by decide +kernel
theorem dRF_rest_61 : decode mRF_rest.2.1 61 = .ok (.ifCond .eq 7, 3) := by decide +kernel
theorem dRF_rest_64 : decode mRF_rest.2.1 64 = .ok (.iconst 5, 1) := by decide +kernel
theorem dRF_rest_65 : decode mRF_rest.2.1 65 = .ok (.goto 49, 3) := by decide +kernel
theorem dRF_rest_68 : decode mRF_rest.2.1 68 = .ok (.aload_n 0, 1) := by decide +kernel
theorem dRF_rest_69 : decode mRF_rest.2.1 69 = .ok (.ldc2_w 27, 3) := by decide +kernel
theorem dRF_rest_72 : decode mRF_rest.2.1 72 = .ok (.invokevirtual 295, 3) := by decide +kernel
theorem dRF_rest_75 : decode mRF_rest.2.1 75 = .ok (.ifCond .eq 8, 3) := by decide +kernel
theorem dRF_rest_78 : decode mRF_rest.2.1 78 = .ok (.bipush 6, 2) := by decide +kernel
theorem dRF_rest_80 : decode mRF_rest.2.1 80 = .ok (.goto 34, 3) := by decide +kernel
theorem dRF_rest_83 : decode mRF_rest.2.1 83 = .ok (.aload_n 0, 1) := by decide +kernel
theorem dRF_rest_84 : decode mRF_rest.2.1 84 = .ok (.ldc2_w 31, 3) := by decide +kernel
theorem dRF_rest_87 : decode mRF_rest.2.1 87 = .ok (.invokevirtual 295, 3) := by decide +kernel
theorem dRF_rest_90 : decode mRF_rest.2.1 90 = .ok (.ifCond .eq 8, 3) := by decide +kernel
theorem dRF_rest_93 : decode mRF_rest.2.1 93 = .ok (.bipush 8, 2) := by decide +kernel
theorem dRF_rest_95 : decode mRF_rest.2.1 95 = .ok (.goto 19, 3) := by decide +kernel
theorem dRF_rest_98 : decode mRF_rest.2.1 98 = .ok (.aload_n 0, 1) := by decide +kernel
theorem dRF_rest_99 : decode mRF_rest.2.1 99 = .ok (.ldc2_w 33, 3) := by decide +kernel
theorem dRF_rest_102 : decode mRF_rest.2.1 102 = .ok (.invokevirtual 295, 3) := by decide +kernel
theorem dRF_rest_105 : decode mRF_rest.2.1 105 = .ok (.ifCond .eq 8, 3) := by decide +kernel
theorem dRF_rest_108 : decode mRF_rest.2.1 108 = .ok (.bipush 9, 2) := by decide +kernel
theorem dRF_rest_110 : decode mRF_rest.2.1 110 = .ok (.goto 4, 3) := by decide +kernel
theorem dRF_rest_113 : decode mRF_rest.2.1 113 = .ok (.iconst 0, 1) := by decide +kernel
theorem dRF_rest_114 : decode mRF_rest.2.1 114 = .ok (.putfield 299, 3) := by decide +kernel
theorem dRF_rest_117 : decode mRF_rest.2.1 117 = .ok (.aload_n 0, 1) := by decide +kernel
theorem dRF_rest_118 : decode mRF_rest.2.1 118 = .ok (.getfield 299, 3) := by decide +kernel
theorem dRF_rest_121 : decode mRF_rest.2.1 121 = .ok (.ifCond .eq 15, 3) := by decide +kernel
theorem dRF_rest_124 : decode mRF_rest.2.1 124 = .ok (.aload_n 0, 1) := by decide +kernel
theorem dRF_rest_125 : decode mRF_rest.2.1 125 = .ok (.getfield 299, 3) := by decide +kernel
theorem dRF_rest_128 : decode mRF_rest.2.1 128 = .ok (.iconst 4, 1) := by decide +kernel
theorem dRF_rest_129 : decode mRF_rest.2.1 129 = .ok (.if_icmp .eq 7, 3) := by decide +kernel
theorem dRF_rest_132 : decode mRF_rest.2.1 132 = .ok (.aload_n 0, 1) := by decide +kernel
theorem dRF_rest_133 : decode mRF_rest.2.1 133 = .ok (.invokevirtual 285, 3) := by decide +kernel
theorem dRF_rest_136 : decode mRF_rest.2.1 136 = .ok (.aload_n 0, 1) := by decide +kernel
theorem dRF_rest_137 : decode mRF_rest.2.1 137 = .ok (.getfield 299, 3) := by decide +kernel
theorem dRF_rest_140 : decode mRF_rest.2.1 140 = .ok (.iconst 2, 1) := by decide +kernel
theorem dRF_rest_141 : decode mRF_rest.2.1 141 = .ok (.if_icmp .ne 10, 3) := by decide +kernel
theorem dRF_rest_144 : decode mRF_rest.2.1 144 = .ok (.aload_n 0, 1) := by decide +kernel
theorem dRF_rest_145 : decode mRF_rest.2.1 145 = .ok (.ldc2_w 17, 3) := by decide +kernel
theorem dRF_rest_148 : decode mRF_rest.2.1 148 = .ok (.invokevirtual 302, 3) := by decide +kernel
theorem dRF_rest_151 : decode mRF_rest.2.1 151 = .ok (.aload_n 0, 1) := by decide +kernel
theorem dRF_rest_152 : decode mRF_rest.2.1 152 = .ok (.getfield 299, 3) := by decide +kernel
theorem dRF_rest_155 : decode mRF_rest.2.1 155 = .ok (.iconst 3, 1) := by decide +kernel
theorem dRF_rest_156 : decode mRF_rest.2.1 156 = .ok (.if_icmp .ne 10, 3) := by decide +kernel
theorem dRF_rest_159 : decode mRF_rest.2.1 159 = .ok (.aload_n 0, 1) := by decide +kernel
theorem dRF_rest_160 : decode mRF_rest.2.1 160 = .ok (.ldc2_w 19, 3) := by decide +kernel
theorem dRF_rest_163 : decode mRF_rest.2.1 163 = .ok (.invokevirtual 302, 3) := by decide +kernel
theorem dRF_rest_166 : decode mRF_rest.2.1 166 = .ok (.aload_n 0, 1) := by decide +kernel
theorem dRF_rest_167 : decode mRF_rest.2.1 167 = .ok (.getfield 299, 3) := by decide +kernel
theorem dRF_rest_170 : decode mRF_rest.2.1 170 = .ok (.iconst 4, 1) := by decide +kernel
theorem dRF_rest_171 : decode mRF_rest.2.1 171 = .ok (.if_icmp .eq 12, 3) := by decide +kernel
theorem dRF_rest_174 : decode mRF_rest.2.1 174 = .ok (.aload_n 0, 1) := by decide +kernel
theorem dRF_rest_175 : decode mRF_rest.2.1 175 = .ok (.getfield 299, 3) := by decide +kernel
theorem dRF_rest_178 : decode mRF_rest.2.1 178 = .ok (.bipush 6, 2) := by decide +kernel
theorem dRF_rest_180 : decode mRF_rest.2.1 180 = .ok (.if_icmp .ne 11, 3) := by decide +kernel
theorem dRF_rest_183 : decode mRF_rest.2.1 183 = .ok (.aload_n 0, 1) := by decide +kernel
theorem dRF_rest_184 : decode mRF_rest.2.1 184 = .ok (.aload_n 0, 1) := by decide +kernel
theorem dRF_rest_185 : decode mRF_rest.2.1 185 = .ok (.invokevirtual 305, 3) := by decide +kernel
theorem dRF_rest_188 : decode mRF_rest.2.1 188 = .ok (.putfield 308, 3) := by decide +kernel
theorem dRF_rest_191 : decode mRF_rest.2.1 191 = .ok (.aload_n 0, 1) := by decide +kernel
theorem dRF_rest_192 : decode mRF_rest.2.1 192 = .ok (.getfield 299, 3) := by decide +kernel
theorem dRF_rest_195 : decode mRF_rest.2.1 195 = .ok (.iconst 4, 1) := by decide +kernel
theorem dRF_rest_196 : decode mRF_rest.2.1 196 = .ok (.if_icmp .ne 10, 3) := by decide +kernel
theorem dRF_rest_199 : decode mRF_rest.2.1 199 = .ok (.aload_n 0, 1) := by decide +kernel
theorem dRF_rest_200 : decode mRF_rest.2.1 200 = .ok (.ldc2_w 21, 3) := by decide +kernel
theorem dRF_rest_203 : decode mRF_rest.2.1 203 = .ok (.invokevirtual 302, 3) := by decide +kernel
theorem dRF_rest_206 : decode mRF_rest.2.1 206 = .ok (.aload_n 0, 1) := by decide +kernel
theorem dRF_rest_207 : decode mRF_rest.2.1 207 = .ok (.getfield 299, 3) := by decide +kernel
theorem dRF_rest_210 : decode mRF_rest.2.1 210 = .ok (.bipush 6, 2) := by decide +kernel
theorem dRF_rest_212 : decode mRF_rest.2.1 212 = .ok (.if_icmp .ne 4, 3) := by decide +kernel
theorem dRF_rest_215 : decode mRF_rest.2.1 215 = .ok (.return_, 1) := by decide +kernel
theorem dRF_rest_216 : decode mRF_rest.2.1 216 = .ok (.aload_n 0, 1) := by decide +kernel
theorem dRF_rest_217 : decode mRF_rest.2.1 217 = .ok (.aload_n 0, 1) := by decide +kernel
theorem dRF_rest_218 : decode mRF_rest.2.1 218 = .ok (.invokevirtual 311, 3) := by decide +kernel
theorem dRF_rest_221 : decode mRF_rest.2.1 221 = .ok (.putfield 314, 3) := by decide +kernel
theorem dRF_rest_224 : decode mRF_rest.2.1 224 = .ok (.aload_n 0, 1) := by decide +kernel
theorem dRF_rest_225 : decode mRF_rest.2.1 225 = .ok (.getfield 299, 3) := by decide +kernel
theorem dRF_rest_228 : decode mRF_rest.2.1 228 = .ok (.ifCond .ne 27, 3) := by decide +kernel
theorem dRF_rest_231 : decode mRF_rest.2.1 231 = .ok (.aload_n 0, 1) := by decide +kernel
theorem dRF_rest_232 : decode mRF_rest.2.1 232 = .ok (.getfield 78, 3) := by decide +kernel
theorem dRF_rest_235 : decode mRF_rest.2.1 235 = .ok (.iconst (-1), 1) := by decide +kernel
theorem dRF_rest_236 : decode mRF_rest.2.1 236 = .ok (.if_icmp .ne 19, 3) := by decide +kernel
theorem dRF_rest_239 : decode mRF_rest.2.1 239 = .ok (.aload_n 0, 1) := by decide +kernel
theorem dRF_rest_240 : decode mRF_rest.2.1 240 = .ok (.ldc2_w 29, 3) := by decide +kernel
theorem dRF_rest_243 : decode mRF_rest.2.1 243 = .ok (.invokevirtual 295, 3) := by decide +kernel
theorem dRF_rest_246 : decode mRF_rest.2.1 246 = .ok (.ifCond .eq 9, 3) := by decide +kernel
theorem dRF_rest_249 : decode mRF_rest.2.1 249 = .ok (.aload_n 0, 1) := by decide +kernel
theorem dRF_rest_250 : decode mRF_rest.2.1 250 = .ok (.bipush 7, 2) := by decide +kernel
theorem dRF_rest_252 : decode mRF_rest.2.1 252 = .ok (.putfield 299, 3) := by decide +kernel
theorem dRF_rest_255 : decode mRF_rest.2.1 255 = .ok (.aload_n 0, 1) := by decide +kernel
theorem dRF_rest_256 : decode mRF_rest.2.1 256 = .ok (.getfield 299, 3) := by decide +kernel
theorem dRF_rest_259 : decode mRF_rest.2.1 259 = .ok (.iconst 5, 1) := by decide +kernel
theorem dRF_rest_260 : decode mRF_rest.2.1 260 = .ok (.if_icmp .ne 10, 3) := by decide +kernel
theorem dRF_rest_263 : decode mRF_rest.2.1 263 = .ok (.aload_n 0, 1) := by decide +kernel
theorem dRF_rest_264 : decode mRF_rest.2.1 264 = .ok (.ldc2_w 25, 3) := by decide +kernel
theorem dRF_rest_267 : decode mRF_rest.2.1 267 = .ok (.invokevirtual 302, 3) := by decide +kernel
theorem dRF_rest_270 : decode mRF_rest.2.1 270 = .ok (.aload_n 0, 1) := by decide +kernel
theorem dRF_rest_271 : decode mRF_rest.2.1 271 = .ok (.getfield 299, 3) := by decide +kernel
theorem dRF_rest_274 : decode mRF_rest.2.1 274 = .ok (.bipush 6, 2) := by decide +kernel
theorem dRF_rest_276 : decode mRF_rest.2.1 276 = .ok (.if_icmp .le 19, 3) := by decide +kernel
theorem dRF_rest_279 : decode mRF_rest.2.1 279 = .ok (.aload_n 0, 1) := by decide +kernel
theorem dRF_rest_280 : decode mRF_rest.2.1 280 = .ok (.getfield 299, 3) := by decide +kernel
theorem dRF_rest_283 : decode mRF_rest.2.1 283 = .ok (.bipush 9, 2) := by decide +kernel
theorem dRF_rest_285 : decode mRF_rest.2.1 285 = .ok (.if_icmp .ge 10, 3) := by decide +kernel
theorem dRF_rest_288 : decode mRF_rest.2.1 288 = .ok (.aload_n 0, 1) := by decide +kernel
theorem dRF_rest_289 : decode mRF_rest.2.1 289 = .ok (.ldc2_w 29, 3) := by decide +kernel
theorem dRF_rest_292 : decode mRF_rest.2.1 292 = .ok (.invokevirtual 302, 3) := by decide +kernel
theorem dRF_rest_295 : decode mRF_rest.2.1 295 = .ok (.aload_n 0, 1) := by decide +kernel
theorem dRF_rest_296 : decode mRF_rest.2.1 296 = .ok (.getfield 299, 3) := by decide +kernel
theorem dRF_rest_299 : decode mRF_rest.2.1 299 = .ok (.iconst 5, 1) := by decide +kernel
theorem dRF_rest_300 : decode mRF_rest.2.1 300 = .ok (.if_icmp .eq 21, 3) := by decide +kernel
theorem dRF_rest_303 : decode mRF_rest.2.1 303 = .ok (.aload_n 0, 1) := by decide +kernel
theorem dRF_rest_304 : decode mRF_rest.2.1 304 = .ok (.getfield 299, 3) := by decide +kernel
theorem dRF_rest_307 : decode mRF_rest.2.1 307 = .ok (.bipush 7, 2) := by decide +kernel
theorem dRF_rest_309 : decode mRF_rest.2.1 309 = .ok (.if_icmp .eq 12, 3) := by decide +kernel
theorem dRF_rest_312 : decode mRF_rest.2.1 312 = .ok (.aload_n 0, 1) := by decide +kernel
theorem dRF_rest_313 : decode mRF_rest.2.1 313 = .ok (.getfield 299, 3) := by decide +kernel
theorem dRF_rest_316 : decode mRF_rest.2.1 316 = .ok (.bipush 8, 2) := by decide +kernel
theorem dRF_rest_318 : decode mRF_rest.2.1 318 = .ok (.if_icmp .ne 11, 3) := by decide +kernel
theorem dRF_rest_321 : decode mRF_rest.2.1 321 = .ok (.aload_n 0, 1) := by decide +kernel
theorem dRF_rest_322 : decode mRF_rest.2.1 322 = .ok (.aload_n 0, 1) := by decide +kernel
theorem dRF_rest_323 : decode mRF_rest.2.1 323 = .ok (.invokevirtual 311, 3) := by decide +kernel
theorem dRF_rest_326 : decode mRF_rest.2.1 326 = .ok (.putfield 317, 3) := by decide +kernel
theorem dRF_rest_329 : decode mRF_rest.2.1 329 = .ok (.aload_n 0, 1) := by decide +kernel
theorem dRF_rest_330 : decode mRF_rest.2.1 330 = .ok (.getfield 299, 3) := by decide +kernel
theorem dRF_rest_333 : decode mRF_rest.2.1 333 = .ok (.bipush 9, 2) := by decide +kernel
theorem dRF_rest_335 : decode mRF_rest.2.1 335 = .ok (.if_icmp .ne 18, 3) := by decide +kernel
theorem dRF_rest_338 : decode mRF_rest.2.1 338 = .ok (.aload_n 0, 1) := by decide +kernel
theorem dRF_rest_339 : decode mRF_rest.2.1 339 = .ok (.ldc2_w 35, 3) := by decide +kernel
theorem dRF_rest_342 : decode mRF_rest.2.1 342 = .ok (.invokevirtual 302, 3) := by decide +kernel
theorem dRF_rest_345 : decode mRF_rest.2.1 345 = .ok (.aload_n 0, 1) := by decide +kernel
theorem dRF_rest_346 : decode mRF_rest.2.1 346 = .ok (.aload_n 0, 1) := by decide +kernel
theorem dRF_rest_347 : decode mRF_rest.2.1 347 = .ok (.invokevirtual 305, 3) := by decide +kernel
theorem dRF_rest_350 : decode mRF_rest.2.1 350 = .ok (.putfield 308, 3) := by decide +kernel
theorem dRF_rest_353 : decode mRF_rest.2.1 353 = .ok (.return_, 1) := by decide +kernel
theorem dRF_fault_0 : decode mRF_fault.2.1 0 = .ok (.aload_n 0, 1) := by decide +kernel
theorem dRF_fault_1 : decode mRF_fault.2.1 1 = .ok (.iconst 0, 1) := by decide +kernel
theorem dRF_fault_2 : decode mRF_fault.2.1 2 = .ok (.putfield 94, 3) := by decide +kernel
theorem dRF_fault_5 : decode mRF_fault.2.1 5 = .ok (.aload_n 0, 1) := by decide +kernel
theorem dRF_fault_6 : decode mRF_fault.2.1 6 = .ok (.getfield 78, 3) := by decide +kernel
theorem dRF_fault_9 : decode mRF_fault.2.1 9 = .ok (.ireturn, 1) := by decide +kernel
theorem dRF_about_0 : decode mRF_about.2.1 0 = .ok (.aload_n 0, 1) := by decide +kernel
theorem dRF_about_1 : decode mRF_about.2.1 1 = .ok (.iconst 0, 1) := by decide +kernel
theorem dRF_about_2 : decode mRF_about.2.1 2 = .ok (.putfield 94, 3) := by decide +kernel
theorem dRF_about_5 : decode mRF_about.2.1 5 = .ok (.iload_n 1, 1) := by decide +kernel
theorem dRF_about_6 : decode mRF_about.2.1 6 = .ok (.tableswitch 41 0 2 #[26, 31, 36], 26) := by decide +kernel
theorem dRF_about_32 : decode mRF_about.2.1 32 = .ok (.aload_n 0, 1) := by decide +kernel
theorem dRF_about_33 : decode mRF_about.2.1 33 = .ok (.getfield 85, 3) := by decide +kernel
theorem dRF_about_36 : decode mRF_about.2.1 36 = .ok (.ireturn, 1) := by decide +kernel
theorem dRF_about_37 : decode mRF_about.2.1 37 = .ok (.aload_n 0, 1) := by decide +kernel
theorem dRF_about_38 : decode mRF_about.2.1 38 = .ok (.getfield 88, 3) := by decide +kernel
theorem dRF_about_41 : decode mRF_about.2.1 41 = .ok (.ireturn, 1) := by decide +kernel
theorem dRF_about_42 : decode mRF_about.2.1 42 = .ok (.aload_n 0, 1) := by decide +kernel
theorem dRF_about_43 : decode mRF_about.2.1 43 = .ok (.getfield 101, 3) := by decide +kernel
theorem dRF_about_46 : decode mRF_about.2.1 46 = .ok (.ireturn, 1) := by decide +kernel
theorem dRF_about_47 : decode mRF_about.2.1 47 = .ok (.iconst (-1), 1) := by decide +kernel
theorem dRF_about_48 : decode mRF_about.2.1 48 = .ok (.ireturn, 1) := by decide +kernel
