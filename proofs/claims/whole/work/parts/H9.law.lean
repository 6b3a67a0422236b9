-- the law and its catchers, printed by wip/whole/gen_law.py
def mLW_law : gI := (⟨"RiddleMillLaw", "law", "([I)Z"⟩, code, 7, ret)
theorem dLW_law_0 : decode mLW_law.2.1 0 = .ok (.new 8, 3) := by decide +kernel
theorem dLW_law_3 : decode mLW_law.2.1 3 = .ok (.dup, 1) := by decide +kernel
theorem dLW_law_4 : decode mLW_law.2.1 4 = .ok (.aload_n 0, 1) := by decide +kernel
theorem dLW_law_5 : decode mLW_law.2.1 5 = .ok (.iconst 0, 1) := by decide +kernel
theorem dLW_law_6 : decode mLW_law.2.1 6 = .ok (.invokestatic 39, 3) := by decide +kernel
theorem dLW_law_9 : decode mLW_law.2.1 9 = .ok (.aload_n 0, 1) := by decide +kernel
theorem dLW_law_10 : decode mLW_law.2.1 10 = .ok (.iconst 1, 1) := by decide +kernel
theorem dLW_law_11 : decode mLW_law.2.1 11 = .ok (.invokestatic 39, 3) := by decide +kernel
theorem dLW_law_14 : decode mLW_law.2.1 14 = .ok (.invokespecial 45, 3) := by decide +kernel
theorem dLW_law_17 : decode mLW_law.2.1 17 = .ok (.astore_n 1, 1) := by decide +kernel
theorem dLW_law_18 : decode mLW_law.2.1 18 = .ok (.new 48, 3) := by decide +kernel
theorem dLW_law_21 : decode mLW_law.2.1 21 = .ok (.dup, 1) := by decide +kernel
theorem dLW_law_22 : decode mLW_law.2.1 22 = .ok (.aload_n 0, 1) := by decide +kernel
theorem dLW_law_23 : decode mLW_law.2.1 23 = .ok (.iconst 0, 1) := by decide +kernel
theorem dLW_law_24 : decode mLW_law.2.1 24 = .ok (.invokestatic 39, 3) := by decide +kernel
theorem dLW_law_27 : decode mLW_law.2.1 27 = .ok (.aload_n 0, 1) := by decide +kernel
theorem dLW_law_28 : decode mLW_law.2.1 28 = .ok (.iconst 1, 1) := by decide +kernel
theorem dLW_law_29 : decode mLW_law.2.1 29 = .ok (.invokestatic 39, 3) := by decide +kernel
theorem dLW_law_32 : decode mLW_law.2.1 32 = .ok (.invokespecial 50, 3) := by decide +kernel
theorem dLW_law_35 : decode mLW_law.2.1 35 = .ok (.astore_n 2, 1) := by decide +kernel
theorem dLW_law_36 : decode mLW_law.2.1 36 = .ok (.iconst 1, 1) := by decide +kernel
theorem dLW_law_37 : decode mLW_law.2.1 37 = .ok (.newarray .long, 2) := by decide +kernel
theorem dLW_law_39 : decode mLW_law.2.1 39 = .ok (.astore_n 3, 1) := by decide +kernel
theorem dLW_law_40 : decode mLW_law.2.1 40 = .ok (.iconst 2, 1) := by decide +kernel
theorem dLW_law_41 : decode mLW_law.2.1 41 = .ok (.istore 4, 2) := by decide +kernel
theorem dLW_law_43 : decode mLW_law.2.1 43 = .ok (.iload 4, 2) := by decide +kernel
theorem dLW_law_45 : decode mLW_law.2.1 45 = .ok (.aload_n 0, 1) := by decide +kernel
theorem dLW_law_46 : decode mLW_law.2.1 46 = .ok (.arraylength, 1) := by decide +kernel
theorem dLW_law_47 : decode mLW_law.2.1 47 = .ok (.bipush 7, 2) := by decide +kernel
theorem dLW_law_49 : decode mLW_law.2.1 49 = .ok (.isub, 1) := by decide +kernel
theorem dLW_law_50 : decode mLW_law.2.1 50 = .ok (.if_icmp .gt 853, 3) := by decide +kernel
theorem dLW_law_53 : decode mLW_law.2.1 53 = .ok (.aload_n 0, 1) := by decide +kernel
theorem dLW_law_54 : decode mLW_law.2.1 54 = .ok (.iload 4, 2) := by decide +kernel
theorem dLW_law_56 : decode mLW_law.2.1 56 = .ok (.iaload, 1) := by decide +kernel
theorem dLW_law_57 : decode mLW_law.2.1 57 = .ok (.bipush 31, 2) := by decide +kernel
theorem dLW_law_59 : decode mLW_law.2.1 59 = .ok (.iand, 1) := by decide +kernel
theorem dLW_law_60 : decode mLW_law.2.1 60 = .ok (.tableswitch 837 0 17 #[88, 206, 242, 279, 335, 360, 423, 436, 473, 498, 511, 579, 648, 673, 698, 755, 799, 812], 88) := by decide +kernel
theorem dLW_law_148 : decode mLW_law.2.1 148 = .ok (.aload_n 1, 1) := by decide +kernel
theorem dLW_law_149 : decode mLW_law.2.1 149 = .ok (.aload_n 0, 1) := by decide +kernel
theorem dLW_law_150 : decode mLW_law.2.1 150 = .ok (.iload 4, 2) := by decide +kernel
theorem dLW_law_152 : decode mLW_law.2.1 152 = .ok (.iconst 1, 1) := by decide +kernel
theorem dLW_law_153 : decode mLW_law.2.1 153 = .ok (.iadd, 1) := by decide +kernel
theorem dLW_law_154 : decode mLW_law.2.1 154 = .ok (.iaload, 1) := by decide +kernel
theorem dLW_law_155 : decode mLW_law.2.1 155 = .ok (.aload_n 0, 1) := by decide +kernel
theorem dLW_law_156 : decode mLW_law.2.1 156 = .ok (.iload 4, 2) := by decide +kernel
theorem dLW_law_158 : decode mLW_law.2.1 158 = .ok (.iconst 2, 1) := by decide +kernel
theorem dLW_law_159 : decode mLW_law.2.1 159 = .ok (.iadd, 1) := by decide +kernel
theorem dLW_law_160 : decode mLW_law.2.1 160 = .ok (.iaload, 1) := by decide +kernel
theorem dLW_law_161 : decode mLW_law.2.1 161 = .ok (.aload_n 0, 1) := by decide +kernel
theorem dLW_law_162 : decode mLW_law.2.1 162 = .ok (.iload 4, 2) := by decide +kernel
theorem dLW_law_164 : decode mLW_law.2.1 164 = .ok (.iconst 3, 1) := by decide +kernel
theorem dLW_law_165 : decode mLW_law.2.1 165 = .ok (.iadd, 1) := by decide +kernel
theorem dLW_law_166 : decode mLW_law.2.1 166 = .ok (.iaload, 1) := by decide +kernel
theorem dLW_law_167 : decode mLW_law.2.1 167 = .ok (.aload_n 0, 1) := by decide +kernel
theorem dLW_law_168 : decode mLW_law.2.1 168 = .ok (.iload 4, 2) := by decide +kernel
theorem dLW_law_170 : decode mLW_law.2.1 170 = .ok (.iconst 4, 1) := by decide +kernel
theorem dLW_law_171 : decode mLW_law.2.1 171 = .ok (.iadd, 1) := by decide +kernel
theorem dLW_law_172 : decode mLW_law.2.1 172 = .ok (.iaload, 1) := by decide +kernel
theorem dLW_law_173 : decode mLW_law.2.1 173 = .ok (.aload_n 0, 1) := by decide +kernel
theorem dLW_law_174 : decode mLW_law.2.1 174 = .ok (.iload 4, 2) := by decide +kernel
theorem dLW_law_176 : decode mLW_law.2.1 176 = .ok (.iconst 5, 1) := by decide +kernel
theorem dLW_law_177 : decode mLW_law.2.1 177 = .ok (.iadd, 1) := by decide +kernel
theorem dLW_law_178 : decode mLW_law.2.1 178 = .ok (.iaload, 1) := by decide +kernel
theorem dLW_law_179 : decode mLW_law.2.1 179 = .ok (.aload_n 0, 1) := by decide +kernel
theorem dLW_law_180 : decode mLW_law.2.1 180 = .ok (.iload 4, 2) := by decide +kernel
theorem dLW_law_182 : decode mLW_law.2.1 182 = .ok (.bipush 6, 2) := by decide +kernel
theorem dLW_law_184 : decode mLW_law.2.1 184 = .ok (.iadd, 1) := by decide +kernel
theorem dLW_law_185 : decode mLW_law.2.1 185 = .ok (.iaload, 1) := by decide +kernel
theorem dLW_law_186 : decode mLW_law.2.1 186 = .ok (.aload_n 3, 1) := by decide +kernel
theorem dLW_law_187 : decode mLW_law.2.1 187 = .ok (.invokestatic 51, 3) := by decide +kernel
theorem dLW_law_190 : decode mLW_law.2.1 190 = .ok (.istore 5, 2) := by decide +kernel
theorem dLW_law_192 : decode mLW_law.2.1 192 = .ok (.aload_n 2, 1) := by decide +kernel
theorem dLW_law_193 : decode mLW_law.2.1 193 = .ok (.aload_n 0, 1) := by decide +kernel
theorem dLW_law_194 : decode mLW_law.2.1 194 = .ok (.iload 4, 2) := by decide +kernel
theorem dLW_law_196 : decode mLW_law.2.1 196 = .ok (.iconst 1, 1) := by decide +kernel
theorem dLW_law_197 : decode mLW_law.2.1 197 = .ok (.iadd, 1) := by decide +kernel
theorem dLW_law_198 : decode mLW_law.2.1 198 = .ok (.iaload, 1) := by decide +kernel
theorem dLW_law_199 : decode mLW_law.2.1 199 = .ok (.aload_n 0, 1) := by decide +kernel
theorem dLW_law_200 : decode mLW_law.2.1 200 = .ok (.iload 4, 2) := by decide +kernel
theorem dLW_law_202 : decode mLW_law.2.1 202 = .ok (.iconst 2, 1) := by decide +kernel
theorem dLW_law_203 : decode mLW_law.2.1 203 = .ok (.iadd, 1) := by decide +kernel
theorem dLW_law_204 : decode mLW_law.2.1 204 = .ok (.iaload, 1) := by decide +kernel
theorem dLW_law_205 : decode mLW_law.2.1 205 = .ok (.aload_n 0, 1) := by decide +kernel
theorem dLW_law_206 : decode mLW_law.2.1 206 = .ok (.iload 4, 2) := by decide +kernel
theorem dLW_law_208 : decode mLW_law.2.1 208 = .ok (.iconst 3, 1) := by decide +kernel
theorem dLW_law_209 : decode mLW_law.2.1 209 = .ok (.iadd, 1) := by decide +kernel
theorem dLW_law_210 : decode mLW_law.2.1 210 = .ok (.iaload, 1) := by decide +kernel
theorem dLW_law_211 : decode mLW_law.2.1 211 = .ok (.aload_n 0, 1) := by decide +kernel
theorem dLW_law_212 : decode mLW_law.2.1 212 = .ok (.iload 4, 2) := by decide +kernel
theorem dLW_law_214 : decode mLW_law.2.1 214 = .ok (.iconst 4, 1) := by decide +kernel
theorem dLW_law_215 : decode mLW_law.2.1 215 = .ok (.iadd, 1) := by decide +kernel
theorem dLW_law_216 : decode mLW_law.2.1 216 = .ok (.iaload, 1) := by decide +kernel
theorem dLW_law_217 : decode mLW_law.2.1 217 = .ok (.aload_n 0, 1) := by decide +kernel
theorem dLW_law_218 : decode mLW_law.2.1 218 = .ok (.iload 4, 2) := by decide +kernel
theorem dLW_law_220 : decode mLW_law.2.1 220 = .ok (.iconst 5, 1) := by decide +kernel
theorem dLW_law_221 : decode mLW_law.2.1 221 = .ok (.iadd, 1) := by decide +kernel
theorem dLW_law_222 : decode mLW_law.2.1 222 = .ok (.iaload, 1) := by decide +kernel
theorem dLW_law_223 : decode mLW_law.2.1 223 = .ok (.aload_n 0, 1) := by decide +kernel
theorem dLW_law_224 : decode mLW_law.2.1 224 = .ok (.iload 4, 2) := by decide +kernel
theorem dLW_law_226 : decode mLW_law.2.1 226 = .ok (.bipush 6, 2) := by decide +kernel
theorem dLW_law_228 : decode mLW_law.2.1 228 = .ok (.iadd, 1) := by decide +kernel
theorem dLW_law_229 : decode mLW_law.2.1 229 = .ok (.iaload, 1) := by decide +kernel
theorem dLW_law_230 : decode mLW_law.2.1 230 = .ok (.invokevirtual 54, 3) := by decide +kernel
theorem dLW_law_233 : decode mLW_law.2.1 233 = .ok (.istore 6, 2) := by decide +kernel
theorem dLW_law_235 : decode mLW_law.2.1 235 = .ok (.aload_n 2, 1) := by decide +kernel
theorem dLW_law_236 : decode mLW_law.2.1 236 = .ok (.invokevirtual 55, 3) := by decide +kernel
theorem dLW_law_239 : decode mLW_law.2.1 239 = .ok (.iload 5, 2) := by decide +kernel
theorem dLW_law_241 : decode mLW_law.2.1 241 = .ok (.if_icmp .eq 5, 3) := by decide +kernel
theorem dLW_law_244 : decode mLW_law.2.1 244 = .ok (.iconst 0, 1) := by decide +kernel
theorem dLW_law_245 : decode mLW_law.2.1 245 = .ok (.ireturn, 1) := by decide +kernel
theorem dLW_law_246 : decode mLW_law.2.1 246 = .ok (.iload 5, 2) := by decide +kernel
theorem dLW_law_248 : decode mLW_law.2.1 248 = .ok (.ifCond .ne 15, 3) := by decide +kernel
theorem dLW_law_251 : decode mLW_law.2.1 251 = .ok (.aload_n 3, 1) := by decide +kernel
theorem dLW_law_252 : decode mLW_law.2.1 252 = .ok (.iconst 0, 1) := by decide +kernel
theorem dLW_law_253 : decode mLW_law.2.1 253 = .ok (.laload, 1) := by decide +kernel
theorem dLW_law_254 : decode mLW_law.2.1 254 = .ok (.iload 6, 2) := by decide +kernel
theorem dLW_law_256 : decode mLW_law.2.1 256 = .ok (.i2l, 1) := by decide +kernel
theorem dLW_law_257 : decode mLW_law.2.1 257 = .ok (.lcmp, 1) := by decide +kernel
theorem dLW_law_258 : decode mLW_law.2.1 258 = .ok (.ifCond .eq 5, 3) := by decide +kernel
theorem dLW_law_261 : decode mLW_law.2.1 261 = .ok (.iconst 0, 1) := by decide +kernel
theorem dLW_law_262 : decode mLW_law.2.1 262 = .ok (.ireturn, 1) := by decide +kernel
theorem dLW_law_263 : decode mLW_law.2.1 263 = .ok (.goto 634, 3) := by decide +kernel
theorem dLW_law_266 : decode mLW_law.2.1 266 = .ok (.aload_n 1, 1) := by decide +kernel
theorem dLW_law_267 : decode mLW_law.2.1 267 = .ok (.aload_n 0, 1) := by decide +kernel
theorem dLW_law_268 : decode mLW_law.2.1 268 = .ok (.iload 4, 2) := by decide +kernel
theorem dLW_law_270 : decode mLW_law.2.1 270 = .ok (.iconst 1, 1) := by decide +kernel
theorem dLW_law_271 : decode mLW_law.2.1 271 = .ok (.iadd, 1) := by decide +kernel
theorem dLW_law_272 : decode mLW_law.2.1 272 = .ok (.iaload, 1) := by decide +kernel
theorem dLW_law_273 : decode mLW_law.2.1 273 = .ok (.invokestatic 58, 3) := by decide +kernel
theorem dLW_law_276 : decode mLW_law.2.1 276 = .ok (.istore 5, 2) := by decide +kernel
theorem dLW_law_278 : decode mLW_law.2.1 278 = .ok (.aload_n 2, 1) := by decide +kernel
theorem dLW_law_279 : decode mLW_law.2.1 279 = .ok (.aload_n 0, 1) := by decide +kernel
theorem dLW_law_280 : decode mLW_law.2.1 280 = .ok (.iload 4, 2) := by decide +kernel
theorem dLW_law_282 : decode mLW_law.2.1 282 = .ok (.iconst 1, 1) := by decide +kernel
theorem dLW_law_283 : decode mLW_law.2.1 283 = .ok (.iadd, 1) := by decide +kernel
theorem dLW_law_284 : decode mLW_law.2.1 284 = .ok (.iaload, 1) := by decide +kernel
theorem dLW_law_285 : decode mLW_law.2.1 285 = .ok (.invokevirtual 61, 3) := by decide +kernel
theorem dLW_law_288 : decode mLW_law.2.1 288 = .ok (.aload_n 2, 1) := by decide +kernel
theorem dLW_law_289 : decode mLW_law.2.1 289 = .ok (.invokevirtual 55, 3) := by decide +kernel
theorem dLW_law_292 : decode mLW_law.2.1 292 = .ok (.iload 5, 2) := by decide +kernel
theorem dLW_law_294 : decode mLW_law.2.1 294 = .ok (.if_icmp .eq 5, 3) := by decide +kernel
theorem dLW_law_297 : decode mLW_law.2.1 297 = .ok (.iconst 0, 1) := by decide +kernel
theorem dLW_law_298 : decode mLW_law.2.1 298 = .ok (.ireturn, 1) := by decide +kernel
theorem dLW_law_299 : decode mLW_law.2.1 299 = .ok (.goto 598, 3) := by decide +kernel
theorem dLW_law_302 : decode mLW_law.2.1 302 = .ok (.aload_n 1, 1) := by decide +kernel
theorem dLW_law_303 : decode mLW_law.2.1 303 = .ok (.aload_n 0, 1) := by decide +kernel
theorem dLW_law_304 : decode mLW_law.2.1 304 = .ok (.iload 4, 2) := by decide +kernel
theorem dLW_law_306 : decode mLW_law.2.1 306 = .ok (.iconst 1, 1) := by decide +kernel
theorem dLW_law_307 : decode mLW_law.2.1 307 = .ok (.iadd, 1) := by decide +kernel
theorem dLW_law_308 : decode mLW_law.2.1 308 = .ok (.iaload, 1) := by decide +kernel
theorem dLW_law_309 : decode mLW_law.2.1 309 = .ok (.aload_n 0, 1) := by decide +kernel
theorem dLW_law_310 : decode mLW_law.2.1 310 = .ok (.iload 4, 2) := by decide +kernel
theorem dLW_law_312 : decode mLW_law.2.1 312 = .ok (.iconst 2, 1) := by decide +kernel
theorem dLW_law_313 : decode mLW_law.2.1 313 = .ok (.iadd, 1) := by decide +kernel
theorem dLW_law_314 : decode mLW_law.2.1 314 = .ok (.iaload, 1) := by decide +kernel
theorem dLW_law_315 : decode mLW_law.2.1 315 = .ok (.invokevirtual 62, 3) := by decide +kernel
theorem dLW_law_318 : decode mLW_law.2.1 318 = .ok (.aload_n 2, 1) := by decide +kernel
theorem dLW_law_319 : decode mLW_law.2.1 319 = .ok (.aload_n 0, 1) := by decide +kernel
theorem dLW_law_320 : decode mLW_law.2.1 320 = .ok (.iload 4, 2) := by decide +kernel
theorem dLW_law_322 : decode mLW_law.2.1 322 = .ok (.iconst 1, 1) := by decide +kernel
theorem dLW_law_323 : decode mLW_law.2.1 323 = .ok (.iadd, 1) := by decide +kernel
theorem dLW_law_324 : decode mLW_law.2.1 324 = .ok (.iaload, 1) := by decide +kernel
theorem dLW_law_325 : decode mLW_law.2.1 325 = .ok (.aload_n 0, 1) := by decide +kernel
theorem dLW_law_326 : decode mLW_law.2.1 326 = .ok (.iload 4, 2) := by decide +kernel
theorem dLW_law_328 : decode mLW_law.2.1 328 = .ok (.iconst 2, 1) := by decide +kernel
theorem dLW_law_329 : decode mLW_law.2.1 329 = .ok (.iadd, 1) := by decide +kernel
theorem dLW_law_330 : decode mLW_law.2.1 330 = .ok (.iaload, 1) := by decide +kernel
theorem dLW_law_331 : decode mLW_law.2.1 331 = .ok (.invokevirtual 65, 3) := by decide +kernel
theorem dLW_law_334 : decode mLW_law.2.1 334 = .ok (.if_icmp .eq 563, 3) := by decide +kernel
theorem dLW_law_337 : decode mLW_law.2.1 337 = .ok (.iconst 0, 1) := by decide +kernel
theorem dLW_law_338 : decode mLW_law.2.1 338 = .ok (.ireturn, 1) := by decide +kernel
theorem dLW_law_339 : decode mLW_law.2.1 339 = .ok (.aload_n 1, 1) := by decide +kernel
theorem dLW_law_340 : decode mLW_law.2.1 340 = .ok (.aload_n 0, 1) := by decide +kernel
theorem dLW_law_341 : decode mLW_law.2.1 341 = .ok (.iload 4, 2) := by decide +kernel
theorem dLW_law_343 : decode mLW_law.2.1 343 = .ok (.iconst 1, 1) := by decide +kernel
theorem dLW_law_344 : decode mLW_law.2.1 344 = .ok (.iadd, 1) := by decide +kernel
theorem dLW_law_345 : decode mLW_law.2.1 345 = .ok (.iaload, 1) := by decide +kernel
theorem dLW_law_346 : decode mLW_law.2.1 346 = .ok (.aload_n 3, 1) := by decide +kernel
theorem dLW_law_347 : decode mLW_law.2.1 347 = .ok (.invokestatic 66, 3) := by decide +kernel
theorem dLW_law_350 : decode mLW_law.2.1 350 = .ok (.istore 5, 2) := by decide +kernel
theorem dLW_law_352 : decode mLW_law.2.1 352 = .ok (.aload_n 2, 1) := by decide +kernel
theorem dLW_law_353 : decode mLW_law.2.1 353 = .ok (.aload_n 0, 1) := by decide +kernel
theorem dLW_law_354 : decode mLW_law.2.1 354 = .ok (.iload 4, 2) := by decide +kernel
theorem dLW_law_356 : decode mLW_law.2.1 356 = .ok (.iconst 1, 1) := by decide +kernel
theorem dLW_law_357 : decode mLW_law.2.1 357 = .ok (.iadd, 1) := by decide +kernel
theorem dLW_law_358 : decode mLW_law.2.1 358 = .ok (.iaload, 1) := by decide +kernel
theorem dLW_law_359 : decode mLW_law.2.1 359 = .ok (.invokevirtual 69, 3) := by decide +kernel
theorem dLW_law_362 : decode mLW_law.2.1 362 = .ok (.istore 6, 2) := by decide +kernel
theorem dLW_law_364 : decode mLW_law.2.1 364 = .ok (.aload_n 2, 1) := by decide +kernel
theorem dLW_law_365 : decode mLW_law.2.1 365 = .ok (.invokevirtual 55, 3) := by decide +kernel
theorem dLW_law_368 : decode mLW_law.2.1 368 = .ok (.iload 5, 2) := by decide +kernel
theorem dLW_law_370 : decode mLW_law.2.1 370 = .ok (.if_icmp .eq 5, 3) := by decide +kernel
theorem dLW_law_373 : decode mLW_law.2.1 373 = .ok (.iconst 0, 1) := by decide +kernel
theorem dLW_law_374 : decode mLW_law.2.1 374 = .ok (.ireturn, 1) := by decide +kernel
theorem dLW_law_375 : decode mLW_law.2.1 375 = .ok (.iload 5, 2) := by decide +kernel
theorem dLW_law_377 : decode mLW_law.2.1 377 = .ok (.ifCond .ne 15, 3) := by decide +kernel
theorem dLW_law_380 : decode mLW_law.2.1 380 = .ok (.aload_n 3, 1) := by decide +kernel
theorem dLW_law_381 : decode mLW_law.2.1 381 = .ok (.iconst 0, 1) := by decide +kernel
theorem dLW_law_382 : decode mLW_law.2.1 382 = .ok (.laload, 1) := by decide +kernel
theorem dLW_law_383 : decode mLW_law.2.1 383 = .ok (.iload 6, 2) := by decide +kernel
theorem dLW_law_385 : decode mLW_law.2.1 385 = .ok (.i2l, 1) := by decide +kernel
theorem dLW_law_386 : decode mLW_law.2.1 386 = .ok (.lcmp, 1) := by decide +kernel
theorem dLW_law_387 : decode mLW_law.2.1 387 = .ok (.ifCond .eq 5, 3) := by decide +kernel
theorem dLW_law_390 : decode mLW_law.2.1 390 = .ok (.iconst 0, 1) := by decide +kernel
theorem dLW_law_391 : decode mLW_law.2.1 391 = .ok (.ireturn, 1) := by decide +kernel
theorem dLW_law_392 : decode mLW_law.2.1 392 = .ok (.goto 505, 3) := by decide +kernel
theorem dLW_law_395 : decode mLW_law.2.1 395 = .ok (.aload_n 1, 1) := by decide +kernel
theorem dLW_law_396 : decode mLW_law.2.1 396 = .ok (.aload_n 0, 1) := by decide +kernel
theorem dLW_law_397 : decode mLW_law.2.1 397 = .ok (.iload 4, 2) := by decide +kernel
theorem dLW_law_399 : decode mLW_law.2.1 399 = .ok (.iconst 1, 1) := by decide +kernel
theorem dLW_law_400 : decode mLW_law.2.1 400 = .ok (.iadd, 1) := by decide +kernel
theorem dLW_law_401 : decode mLW_law.2.1 401 = .ok (.iaload, 1) := by decide +kernel
theorem dLW_law_402 : decode mLW_law.2.1 402 = .ok (.invokevirtual 70, 3) := by decide +kernel
theorem dLW_law_405 : decode mLW_law.2.1 405 = .ok (.aload_n 2, 1) := by decide +kernel
theorem dLW_law_406 : decode mLW_law.2.1 406 = .ok (.aload_n 0, 1) := by decide +kernel
theorem dLW_law_407 : decode mLW_law.2.1 407 = .ok (.iload 4, 2) := by decide +kernel
theorem dLW_law_409 : decode mLW_law.2.1 409 = .ok (.iconst 1, 1) := by decide +kernel
theorem dLW_law_410 : decode mLW_law.2.1 410 = .ok (.iadd, 1) := by decide +kernel
theorem dLW_law_411 : decode mLW_law.2.1 411 = .ok (.iaload, 1) := by decide +kernel
theorem dLW_law_412 : decode mLW_law.2.1 412 = .ok (.invokevirtual 73, 3) := by decide +kernel
theorem dLW_law_415 : decode mLW_law.2.1 415 = .ok (.if_icmp .eq 482, 3) := by decide +kernel
theorem dLW_law_418 : decode mLW_law.2.1 418 = .ok (.iconst 0, 1) := by decide +kernel
theorem dLW_law_419 : decode mLW_law.2.1 419 = .ok (.ireturn, 1) := by decide +kernel
theorem dLW_law_420 : decode mLW_law.2.1 420 = .ok (.aload_n 1, 1) := by decide +kernel
theorem dLW_law_421 : decode mLW_law.2.1 421 = .ok (.aload_n 0, 1) := by decide +kernel
theorem dLW_law_422 : decode mLW_law.2.1 422 = .ok (.iload 4, 2) := by decide +kernel
theorem dLW_law_424 : decode mLW_law.2.1 424 = .ok (.iconst 1, 1) := by decide +kernel
theorem dLW_law_425 : decode mLW_law.2.1 425 = .ok (.iadd, 1) := by decide +kernel
theorem dLW_law_426 : decode mLW_law.2.1 426 = .ok (.iaload, 1) := by decide +kernel
theorem dLW_law_427 : decode mLW_law.2.1 427 = .ok (.aload_n 3, 1) := by decide +kernel
theorem dLW_law_428 : decode mLW_law.2.1 428 = .ok (.invokestatic 74, 3) := by decide +kernel
theorem dLW_law_431 : decode mLW_law.2.1 431 = .ok (.istore 5, 2) := by decide +kernel
theorem dLW_law_433 : decode mLW_law.2.1 433 = .ok (.aload_n 2, 1) := by decide +kernel
theorem dLW_law_434 : decode mLW_law.2.1 434 = .ok (.aload_n 0, 1) := by decide +kernel
theorem dLW_law_435 : decode mLW_law.2.1 435 = .ok (.iload 4, 2) := by decide +kernel
theorem dLW_law_437 : decode mLW_law.2.1 437 = .ok (.iconst 1, 1) := by decide +kernel
theorem dLW_law_438 : decode mLW_law.2.1 438 = .ok (.iadd, 1) := by decide +kernel
theorem dLW_law_439 : decode mLW_law.2.1 439 = .ok (.iaload, 1) := by decide +kernel
theorem dLW_law_440 : decode mLW_law.2.1 440 = .ok (.invokevirtual 76, 3) := by decide +kernel
theorem dLW_law_443 : decode mLW_law.2.1 443 = .ok (.istore 6, 2) := by decide +kernel
theorem dLW_law_445 : decode mLW_law.2.1 445 = .ok (.aload_n 2, 1) := by decide +kernel
theorem dLW_law_446 : decode mLW_law.2.1 446 = .ok (.invokevirtual 55, 3) := by decide +kernel
theorem dLW_law_449 : decode mLW_law.2.1 449 = .ok (.iload 5, 2) := by decide +kernel
theorem dLW_law_451 : decode mLW_law.2.1 451 = .ok (.if_icmp .eq 5, 3) := by decide +kernel
theorem dLW_law_454 : decode mLW_law.2.1 454 = .ok (.iconst 0, 1) := by decide +kernel
theorem dLW_law_455 : decode mLW_law.2.1 455 = .ok (.ireturn, 1) := by decide +kernel
theorem dLW_law_456 : decode mLW_law.2.1 456 = .ok (.iload 5, 2) := by decide +kernel
theorem dLW_law_458 : decode mLW_law.2.1 458 = .ok (.ifCond .ne 22, 3) := by decide +kernel
theorem dLW_law_461 : decode mLW_law.2.1 461 = .ok (.aload_n 3, 1) := by decide +kernel
theorem dLW_law_462 : decode mLW_law.2.1 462 = .ok (.iconst 0, 1) := by decide +kernel
theorem dLW_law_463 : decode mLW_law.2.1 463 = .ok (.laload, 1) := by decide +kernel
theorem dLW_law_464 : decode mLW_law.2.1 464 = .ok (.iload 6, 2) := by decide +kernel
theorem dLW_law_466 : decode mLW_law.2.1 466 = .ok (.ifCond .eq 7, 3) := by decide +kernel
theorem dLW_law_469 : decode mLW_law.2.1 469 = .ok (.lconst 1, 1) := by decide +kernel
theorem dLW_law_470 : decode mLW_law.2.1 470 = .ok (.goto 4, 3) := by decide +kernel
theorem dLW_law_473 : decode mLW_law.2.1 473 = .ok (.lconst 0, 1) := by decide +kernel
theorem dLW_law_474 : decode mLW_law.2.1 474 = .ok (.lcmp, 1) := by decide +kernel
theorem dLW_law_475 : decode mLW_law.2.1 475 = .ok (.ifCond .eq 5, 3) := by decide +kernel
theorem dLW_law_478 : decode mLW_law.2.1 478 = .ok (.iconst 0, 1) := by decide +kernel
theorem dLW_law_479 : decode mLW_law.2.1 479 = .ok (.ireturn, 1) := by decide +kernel
theorem dLW_law_480 : decode mLW_law.2.1 480 = .ok (.goto 417, 3) := by decide +kernel
theorem dLW_law_483 : decode mLW_law.2.1 483 = .ok (.aload_n 1, 1) := by decide +kernel
theorem dLW_law_484 : decode mLW_law.2.1 484 = .ok (.invokevirtual 77, 3) := by decide +kernel
theorem dLW_law_487 : decode mLW_law.2.1 487 = .ok (.aload_n 2, 1) := by decide +kernel
theorem dLW_law_488 : decode mLW_law.2.1 488 = .ok (.invokevirtual 80, 3) := by decide +kernel
theorem dLW_law_491 : decode mLW_law.2.1 491 = .ok (.if_icmp .eq 406, 3) := by decide +kernel
theorem dLW_law_494 : decode mLW_law.2.1 494 = .ok (.iconst 0, 1) := by decide +kernel
theorem dLW_law_495 : decode mLW_law.2.1 495 = .ok (.ireturn, 1) := by decide +kernel
theorem dLW_law_496 : decode mLW_law.2.1 496 = .ok (.aload_n 1, 1) := by decide +kernel
theorem dLW_law_497 : decode mLW_law.2.1 497 = .ok (.aload_n 0, 1) := by decide +kernel
theorem dLW_law_498 : decode mLW_law.2.1 498 = .ok (.iload 4, 2) := by decide +kernel
theorem dLW_law_500 : decode mLW_law.2.1 500 = .ok (.iconst 1, 1) := by decide +kernel
theorem dLW_law_501 : decode mLW_law.2.1 501 = .ok (.iadd, 1) := by decide +kernel
theorem dLW_law_502 : decode mLW_law.2.1 502 = .ok (.iaload, 1) := by decide +kernel
theorem dLW_law_503 : decode mLW_law.2.1 503 = .ok (.aload_n 0, 1) := by decide +kernel
theorem dLW_law_504 : decode mLW_law.2.1 504 = .ok (.iload 4, 2) := by decide +kernel
theorem dLW_law_506 : decode mLW_law.2.1 506 = .ok (.iconst 2, 1) := by decide +kernel
theorem dLW_law_507 : decode mLW_law.2.1 507 = .ok (.iadd, 1) := by decide +kernel
theorem dLW_law_508 : decode mLW_law.2.1 508 = .ok (.iaload, 1) := by decide +kernel
theorem dLW_law_509 : decode mLW_law.2.1 509 = .ok (.invokevirtual 81, 3) := by decide +kernel
theorem dLW_law_512 : decode mLW_law.2.1 512 = .ok (.aload_n 2, 1) := by decide +kernel
theorem dLW_law_513 : decode mLW_law.2.1 513 = .ok (.aload_n 0, 1) := by decide +kernel
theorem dLW_law_514 : decode mLW_law.2.1 514 = .ok (.iload 4, 2) := by decide +kernel
theorem dLW_law_516 : decode mLW_law.2.1 516 = .ok (.iconst 1, 1) := by decide +kernel
theorem dLW_law_517 : decode mLW_law.2.1 517 = .ok (.iadd, 1) := by decide +kernel
theorem dLW_law_518 : decode mLW_law.2.1 518 = .ok (.iaload, 1) := by decide +kernel
theorem dLW_law_519 : decode mLW_law.2.1 519 = .ok (.aload_n 0, 1) := by decide +kernel
theorem dLW_law_520 : decode mLW_law.2.1 520 = .ok (.iload 4, 2) := by decide +kernel
theorem dLW_law_522 : decode mLW_law.2.1 522 = .ok (.iconst 2, 1) := by decide +kernel
theorem dLW_law_523 : decode mLW_law.2.1 523 = .ok (.iadd, 1) := by decide +kernel
theorem dLW_law_524 : decode mLW_law.2.1 524 = .ok (.iaload, 1) := by decide +kernel
theorem dLW_law_525 : decode mLW_law.2.1 525 = .ok (.invokevirtual 84, 3) := by decide +kernel
theorem dLW_law_528 : decode mLW_law.2.1 528 = .ok (.if_icmp .eq 369, 3) := by decide +kernel
theorem dLW_law_531 : decode mLW_law.2.1 531 = .ok (.iconst 0, 1) := by decide +kernel
theorem dLW_law_532 : decode mLW_law.2.1 532 = .ok (.ireturn, 1) := by decide +kernel
theorem dLW_law_533 : decode mLW_law.2.1 533 = .ok (.aload_n 1, 1) := by decide +kernel
theorem dLW_law_534 : decode mLW_law.2.1 534 = .ok (.aload_n 0, 1) := by decide +kernel
theorem dLW_law_535 : decode mLW_law.2.1 535 = .ok (.iload 4, 2) := by decide +kernel
theorem dLW_law_537 : decode mLW_law.2.1 537 = .ok (.iconst 1, 1) := by decide +kernel
theorem dLW_law_538 : decode mLW_law.2.1 538 = .ok (.iadd, 1) := by decide +kernel
theorem dLW_law_539 : decode mLW_law.2.1 539 = .ok (.iaload, 1) := by decide +kernel
theorem dLW_law_540 : decode mLW_law.2.1 540 = .ok (.invokevirtual 85, 3) := by decide +kernel
theorem dLW_law_543 : decode mLW_law.2.1 543 = .ok (.aload_n 2, 1) := by decide +kernel
theorem dLW_law_544 : decode mLW_law.2.1 544 = .ok (.aload_n 0, 1) := by decide +kernel
theorem dLW_law_545 : decode mLW_law.2.1 545 = .ok (.iload 4, 2) := by decide +kernel
theorem dLW_law_547 : decode mLW_law.2.1 547 = .ok (.iconst 1, 1) := by decide +kernel
theorem dLW_law_548 : decode mLW_law.2.1 548 = .ok (.iadd, 1) := by decide +kernel
theorem dLW_law_549 : decode mLW_law.2.1 549 = .ok (.iaload, 1) := by decide +kernel
theorem dLW_law_550 : decode mLW_law.2.1 550 = .ok (.invokevirtual 88, 3) := by decide +kernel
theorem dLW_law_553 : decode mLW_law.2.1 553 = .ok (.if_icmp .eq 344, 3) := by decide +kernel
theorem dLW_law_556 : decode mLW_law.2.1 556 = .ok (.iconst 0, 1) := by decide +kernel
theorem dLW_law_557 : decode mLW_law.2.1 557 = .ok (.ireturn, 1) := by decide +kernel
theorem dLW_law_558 : decode mLW_law.2.1 558 = .ok (.aload_n 1, 1) := by decide +kernel
theorem dLW_law_559 : decode mLW_law.2.1 559 = .ok (.invokevirtual 89, 3) := by decide +kernel
theorem dLW_law_562 : decode mLW_law.2.1 562 = .ok (.aload_n 2, 1) := by decide +kernel
theorem dLW_law_563 : decode mLW_law.2.1 563 = .ok (.invokevirtual 92, 3) := by decide +kernel
theorem dLW_law_566 : decode mLW_law.2.1 566 = .ok (.if_icmp .eq 331, 3) := by decide +kernel
theorem dLW_law_569 : decode mLW_law.2.1 569 = .ok (.iconst 0, 1) := by decide +kernel
theorem dLW_law_570 : decode mLW_law.2.1 570 = .ok (.ireturn, 1) := by decide +kernel
theorem dLW_law_571 : decode mLW_law.2.1 571 = .ok (.aload_n 1, 1) := by decide +kernel
theorem dLW_law_572 : decode mLW_law.2.1 572 = .ok (.aload_n 0, 1) := by decide +kernel
theorem dLW_law_573 : decode mLW_law.2.1 573 = .ok (.iload 4, 2) := by decide +kernel
theorem dLW_law_575 : decode mLW_law.2.1 575 = .ok (.iconst 1, 1) := by decide +kernel
theorem dLW_law_576 : decode mLW_law.2.1 576 = .ok (.iadd, 1) := by decide +kernel
theorem dLW_law_577 : decode mLW_law.2.1 577 = .ok (.iaload, 1) := by decide +kernel
theorem dLW_law_578 : decode mLW_law.2.1 578 = .ok (.aload_n 0, 1) := by decide +kernel
theorem dLW_law_579 : decode mLW_law.2.1 579 = .ok (.iload 4, 2) := by decide +kernel
theorem dLW_law_581 : decode mLW_law.2.1 581 = .ok (.iconst 2, 1) := by decide +kernel
theorem dLW_law_582 : decode mLW_law.2.1 582 = .ok (.iadd, 1) := by decide +kernel
theorem dLW_law_583 : decode mLW_law.2.1 583 = .ok (.iaload, 1) := by decide +kernel
theorem dLW_law_584 : decode mLW_law.2.1 584 = .ok (.aload_n 3, 1) := by decide +kernel
theorem dLW_law_585 : decode mLW_law.2.1 585 = .ok (.invokestatic 93, 3) := by decide +kernel
theorem dLW_law_588 : decode mLW_law.2.1 588 = .ok (.istore 5, 2) := by decide +kernel
theorem dLW_law_590 : decode mLW_law.2.1 590 = .ok (.aload_n 2, 1) := by decide +kernel
theorem dLW_law_591 : decode mLW_law.2.1 591 = .ok (.aload_n 0, 1) := by decide +kernel
theorem dLW_law_592 : decode mLW_law.2.1 592 = .ok (.iload 4, 2) := by decide +kernel
theorem dLW_law_594 : decode mLW_law.2.1 594 = .ok (.iconst 1, 1) := by decide +kernel
theorem dLW_law_595 : decode mLW_law.2.1 595 = .ok (.iadd, 1) := by decide +kernel
theorem dLW_law_596 : decode mLW_law.2.1 596 = .ok (.iaload, 1) := by decide +kernel
theorem dLW_law_597 : decode mLW_law.2.1 597 = .ok (.aload_n 0, 1) := by decide +kernel
theorem dLW_law_598 : decode mLW_law.2.1 598 = .ok (.iload 4, 2) := by decide +kernel
theorem dLW_law_600 : decode mLW_law.2.1 600 = .ok (.iconst 2, 1) := by decide +kernel
theorem dLW_law_601 : decode mLW_law.2.1 601 = .ok (.iadd, 1) := by decide +kernel
theorem dLW_law_602 : decode mLW_law.2.1 602 = .ok (.iaload, 1) := by decide +kernel
theorem dLW_law_603 : decode mLW_law.2.1 603 = .ok (.invokevirtual 96, 3) := by decide +kernel
theorem dLW_law_606 : decode mLW_law.2.1 606 = .ok (.istore 6, 2) := by decide +kernel
theorem dLW_law_608 : decode mLW_law.2.1 608 = .ok (.aload_n 2, 1) := by decide +kernel
theorem dLW_law_609 : decode mLW_law.2.1 609 = .ok (.invokevirtual 55, 3) := by decide +kernel
theorem dLW_law_612 : decode mLW_law.2.1 612 = .ok (.iload 5, 2) := by decide +kernel
theorem dLW_law_614 : decode mLW_law.2.1 614 = .ok (.if_icmp .eq 5, 3) := by decide +kernel
theorem dLW_law_617 : decode mLW_law.2.1 617 = .ok (.iconst 0, 1) := by decide +kernel
theorem dLW_law_618 : decode mLW_law.2.1 618 = .ok (.ireturn, 1) := by decide +kernel
theorem dLW_law_619 : decode mLW_law.2.1 619 = .ok (.iload 5, 2) := by decide +kernel
theorem dLW_law_621 : decode mLW_law.2.1 621 = .ok (.ifCond .ne 15, 3) := by decide +kernel
theorem dLW_law_624 : decode mLW_law.2.1 624 = .ok (.aload_n 3, 1) := by decide +kernel
theorem dLW_law_625 : decode mLW_law.2.1 625 = .ok (.iconst 0, 1) := by decide +kernel
theorem dLW_law_626 : decode mLW_law.2.1 626 = .ok (.laload, 1) := by decide +kernel
theorem dLW_law_627 : decode mLW_law.2.1 627 = .ok (.iload 6, 2) := by decide +kernel
theorem dLW_law_629 : decode mLW_law.2.1 629 = .ok (.i2l, 1) := by decide +kernel
theorem dLW_law_630 : decode mLW_law.2.1 630 = .ok (.lcmp, 1) := by decide +kernel
theorem dLW_law_631 : decode mLW_law.2.1 631 = .ok (.ifCond .eq 5, 3) := by decide +kernel
theorem dLW_law_634 : decode mLW_law.2.1 634 = .ok (.iconst 0, 1) := by decide +kernel
theorem dLW_law_635 : decode mLW_law.2.1 635 = .ok (.ireturn, 1) := by decide +kernel
theorem dLW_law_636 : decode mLW_law.2.1 636 = .ok (.goto 261, 3) := by decide +kernel
theorem dLW_law_639 : decode mLW_law.2.1 639 = .ok (.aload_n 1, 1) := by decide +kernel
theorem dLW_law_640 : decode mLW_law.2.1 640 = .ok (.aload_n 0, 1) := by decide +kernel
theorem dLW_law_641 : decode mLW_law.2.1 641 = .ok (.iload 4, 2) := by decide +kernel
theorem dLW_law_643 : decode mLW_law.2.1 643 = .ok (.iconst 1, 1) := by decide +kernel
theorem dLW_law_644 : decode mLW_law.2.1 644 = .ok (.iadd, 1) := by decide +kernel
theorem dLW_law_645 : decode mLW_law.2.1 645 = .ok (.iaload, 1) := by decide +kernel
theorem dLW_law_646 : decode mLW_law.2.1 646 = .ok (.aload_n 0, 1) := by decide +kernel
theorem dLW_law_647 : decode mLW_law.2.1 647 = .ok (.iload 4, 2) := by decide +kernel
theorem dLW_law_649 : decode mLW_law.2.1 649 = .ok (.iconst 2, 1) := by decide +kernel
theorem dLW_law_650 : decode mLW_law.2.1 650 = .ok (.iadd, 1) := by decide +kernel
theorem dLW_law_651 : decode mLW_law.2.1 651 = .ok (.iaload, 1) := by decide +kernel
theorem dLW_law_652 : decode mLW_law.2.1 652 = .ok (.i2l, 1) := by decide +kernel
theorem dLW_law_653 : decode mLW_law.2.1 653 = .ok (.bipush 32, 2) := by decide +kernel
theorem dLW_law_655 : decode mLW_law.2.1 655 = .ok (.lshl, 1) := by decide +kernel
theorem dLW_law_656 : decode mLW_law.2.1 656 = .ok (.aload_n 0, 1) := by decide +kernel
theorem dLW_law_657 : decode mLW_law.2.1 657 = .ok (.iload 4, 2) := by decide +kernel
theorem dLW_law_659 : decode mLW_law.2.1 659 = .ok (.iconst 3, 1) := by decide +kernel
theorem dLW_law_660 : decode mLW_law.2.1 660 = .ok (.iadd, 1) := by decide +kernel
theorem dLW_law_661 : decode mLW_law.2.1 661 = .ok (.iaload, 1) := by decide +kernel
theorem dLW_law_662 : decode mLW_law.2.1 662 = .ok (.i2l, 1) := by decide +kernel
theorem dLW_law_663 : decode mLW_law.2.1 663 = .ok (.ldc2_w 97, 3) := by decide +kernel
theorem dLW_law_666 : decode mLW_law.2.1 666 = .ok (.land, 1) := by decide +kernel
theorem dLW_law_667 : decode mLW_law.2.1 667 = .ok (.lor, 1) := by decide +kernel
theorem dLW_law_668 : decode mLW_law.2.1 668 = .ok (.invokevirtual 99, 3) := by decide +kernel
theorem dLW_law_671 : decode mLW_law.2.1 671 = .ok (.aload_n 2, 1) := by decide +kernel
theorem dLW_law_672 : decode mLW_law.2.1 672 = .ok (.aload_n 0, 1) := by decide +kernel
theorem dLW_law_673 : decode mLW_law.2.1 673 = .ok (.iload 4, 2) := by decide +kernel
theorem dLW_law_675 : decode mLW_law.2.1 675 = .ok (.iconst 1, 1) := by decide +kernel
theorem dLW_law_676 : decode mLW_law.2.1 676 = .ok (.iadd, 1) := by decide +kernel
theorem dLW_law_677 : decode mLW_law.2.1 677 = .ok (.iaload, 1) := by decide +kernel
theorem dLW_law_678 : decode mLW_law.2.1 678 = .ok (.aload_n 0, 1) := by decide +kernel
theorem dLW_law_679 : decode mLW_law.2.1 679 = .ok (.iload 4, 2) := by decide +kernel
theorem dLW_law_681 : decode mLW_law.2.1 681 = .ok (.iconst 2, 1) := by decide +kernel
theorem dLW_law_682 : decode mLW_law.2.1 682 = .ok (.iadd, 1) := by decide +kernel
theorem dLW_law_683 : decode mLW_law.2.1 683 = .ok (.iaload, 1) := by decide +kernel
theorem dLW_law_684 : decode mLW_law.2.1 684 = .ok (.i2l, 1) := by decide +kernel
theorem dLW_law_685 : decode mLW_law.2.1 685 = .ok (.bipush 32, 2) := by decide +kernel
theorem dLW_law_687 : decode mLW_law.2.1 687 = .ok (.lshl, 1) := by decide +kernel
theorem dLW_law_688 : decode mLW_law.2.1 688 = .ok (.aload_n 0, 1) := by decide +kernel
theorem dLW_law_689 : decode mLW_law.2.1 689 = .ok (.iload 4, 2) := by decide +kernel
theorem dLW_law_691 : decode mLW_law.2.1 691 = .ok (.iconst 3, 1) := by decide +kernel
theorem dLW_law_692 : decode mLW_law.2.1 692 = .ok (.iadd, 1) := by decide +kernel
theorem dLW_law_693 : decode mLW_law.2.1 693 = .ok (.iaload, 1) := by decide +kernel
theorem dLW_law_694 : decode mLW_law.2.1 694 = .ok (.i2l, 1) := by decide +kernel
theorem dLW_law_695 : decode mLW_law.2.1 695 = .ok (.ldc2_w 97, 3) := by decide +kernel
theorem dLW_law_698 : decode mLW_law.2.1 698 = .ok (.land, 1) := by decide +kernel
theorem dLW_law_699 : decode mLW_law.2.1 699 = .ok (.lor, 1) := by decide +kernel
theorem dLW_law_700 : decode mLW_law.2.1 700 = .ok (.invokevirtual 103, 3) := by decide +kernel
theorem dLW_law_703 : decode mLW_law.2.1 703 = .ok (.if_icmp .eq 194, 3) := by decide +kernel
theorem dLW_law_706 : decode mLW_law.2.1 706 = .ok (.iconst 0, 1) := by decide +kernel
theorem dLW_law_707 : decode mLW_law.2.1 707 = .ok (.ireturn, 1) := by decide +kernel
theorem dLW_law_708 : decode mLW_law.2.1 708 = .ok (.aload_n 1, 1) := by decide +kernel
theorem dLW_law_709 : decode mLW_law.2.1 709 = .ok (.aload_n 0, 1) := by decide +kernel
theorem dLW_law_710 : decode mLW_law.2.1 710 = .ok (.iload 4, 2) := by decide +kernel
theorem dLW_law_712 : decode mLW_law.2.1 712 = .ok (.iconst 1, 1) := by decide +kernel
theorem dLW_law_713 : decode mLW_law.2.1 713 = .ok (.iadd, 1) := by decide +kernel
theorem dLW_law_714 : decode mLW_law.2.1 714 = .ok (.iaload, 1) := by decide +kernel
theorem dLW_law_715 : decode mLW_law.2.1 715 = .ok (.invokevirtual 104, 3) := by decide +kernel
theorem dLW_law_718 : decode mLW_law.2.1 718 = .ok (.aload_n 2, 1) := by decide +kernel
theorem dLW_law_719 : decode mLW_law.2.1 719 = .ok (.aload_n 0, 1) := by decide +kernel
theorem dLW_law_720 : decode mLW_law.2.1 720 = .ok (.iload 4, 2) := by decide +kernel
theorem dLW_law_722 : decode mLW_law.2.1 722 = .ok (.iconst 1, 1) := by decide +kernel
theorem dLW_law_723 : decode mLW_law.2.1 723 = .ok (.iadd, 1) := by decide +kernel
theorem dLW_law_724 : decode mLW_law.2.1 724 = .ok (.iaload, 1) := by decide +kernel
theorem dLW_law_725 : decode mLW_law.2.1 725 = .ok (.invokevirtual 107, 3) := by decide +kernel
theorem dLW_law_728 : decode mLW_law.2.1 728 = .ok (.if_icmp .eq 169, 3) := by decide +kernel
theorem dLW_law_731 : decode mLW_law.2.1 731 = .ok (.iconst 0, 1) := by decide +kernel
theorem dLW_law_732 : decode mLW_law.2.1 732 = .ok (.ireturn, 1) := by decide +kernel
theorem dLW_law_733 : decode mLW_law.2.1 733 = .ok (.aload_n 1, 1) := by decide +kernel
theorem dLW_law_734 : decode mLW_law.2.1 734 = .ok (.aload_n 0, 1) := by decide +kernel
theorem dLW_law_735 : decode mLW_law.2.1 735 = .ok (.iload 4, 2) := by decide +kernel
theorem dLW_law_737 : decode mLW_law.2.1 737 = .ok (.iconst 1, 1) := by decide +kernel
theorem dLW_law_738 : decode mLW_law.2.1 738 = .ok (.iadd, 1) := by decide +kernel
theorem dLW_law_739 : decode mLW_law.2.1 739 = .ok (.iaload, 1) := by decide +kernel
theorem dLW_law_740 : decode mLW_law.2.1 740 = .ok (.invokevirtual 108, 3) := by decide +kernel
theorem dLW_law_743 : decode mLW_law.2.1 743 = .ok (.aload_n 2, 1) := by decide +kernel
theorem dLW_law_744 : decode mLW_law.2.1 744 = .ok (.aload_n 0, 1) := by decide +kernel
theorem dLW_law_745 : decode mLW_law.2.1 745 = .ok (.iload 4, 2) := by decide +kernel
theorem dLW_law_747 : decode mLW_law.2.1 747 = .ok (.iconst 1, 1) := by decide +kernel
theorem dLW_law_748 : decode mLW_law.2.1 748 = .ok (.iadd, 1) := by decide +kernel
theorem dLW_law_749 : decode mLW_law.2.1 749 = .ok (.iaload, 1) := by decide +kernel
theorem dLW_law_750 : decode mLW_law.2.1 750 = .ok (.invokevirtual 111, 3) := by decide +kernel
theorem dLW_law_753 : decode mLW_law.2.1 753 = .ok (.if_icmp .eq 144, 3) := by decide +kernel
theorem dLW_law_756 : decode mLW_law.2.1 756 = .ok (.iconst 0, 1) := by decide +kernel
theorem dLW_law_757 : decode mLW_law.2.1 757 = .ok (.ireturn, 1) := by decide +kernel
theorem dLW_law_758 : decode mLW_law.2.1 758 = .ok (.aload_n 1, 1) := by decide +kernel
theorem dLW_law_759 : decode mLW_law.2.1 759 = .ok (.aload_n 0, 1) := by decide +kernel
theorem dLW_law_760 : decode mLW_law.2.1 760 = .ok (.iload 4, 2) := by decide +kernel
theorem dLW_law_762 : decode mLW_law.2.1 762 = .ok (.iconst 1, 1) := by decide +kernel
theorem dLW_law_763 : decode mLW_law.2.1 763 = .ok (.iadd, 1) := by decide +kernel
theorem dLW_law_764 : decode mLW_law.2.1 764 = .ok (.iaload, 1) := by decide +kernel
theorem dLW_law_765 : decode mLW_law.2.1 765 = .ok (.i2l, 1) := by decide +kernel
theorem dLW_law_766 : decode mLW_law.2.1 766 = .ok (.bipush 32, 2) := by decide +kernel
theorem dLW_law_768 : decode mLW_law.2.1 768 = .ok (.lshl, 1) := by decide +kernel
theorem dLW_law_769 : decode mLW_law.2.1 769 = .ok (.aload_n 0, 1) := by decide +kernel
theorem dLW_law_770 : decode mLW_law.2.1 770 = .ok (.iload 4, 2) := by decide +kernel
theorem dLW_law_772 : decode mLW_law.2.1 772 = .ok (.iconst 2, 1) := by decide +kernel
theorem dLW_law_773 : decode mLW_law.2.1 773 = .ok (.iadd, 1) := by decide +kernel
theorem dLW_law_774 : decode mLW_law.2.1 774 = .ok (.iaload, 1) := by decide +kernel
theorem dLW_law_775 : decode mLW_law.2.1 775 = .ok (.i2l, 1) := by decide +kernel
theorem dLW_law_776 : decode mLW_law.2.1 776 = .ok (.ldc2_w 97, 3) := by decide +kernel
theorem dLW_law_779 : decode mLW_law.2.1 779 = .ok (.land, 1) := by decide +kernel
theorem dLW_law_780 : decode mLW_law.2.1 780 = .ok (.lor, 1) := by decide +kernel
theorem dLW_law_781 : decode mLW_law.2.1 781 = .ok (.invokevirtual 112, 3) := by decide +kernel
theorem dLW_law_784 : decode mLW_law.2.1 784 = .ok (.aload_n 2, 1) := by decide +kernel
theorem dLW_law_785 : decode mLW_law.2.1 785 = .ok (.aload_n 0, 1) := by decide +kernel
theorem dLW_law_786 : decode mLW_law.2.1 786 = .ok (.iload 4, 2) := by decide +kernel
theorem dLW_law_788 : decode mLW_law.2.1 788 = .ok (.iconst 1, 1) := by decide +kernel
theorem dLW_law_789 : decode mLW_law.2.1 789 = .ok (.iadd, 1) := by decide +kernel
theorem dLW_law_790 : decode mLW_law.2.1 790 = .ok (.iaload, 1) := by decide +kernel
theorem dLW_law_791 : decode mLW_law.2.1 791 = .ok (.i2l, 1) := by decide +kernel
theorem dLW_law_792 : decode mLW_law.2.1 792 = .ok (.bipush 32, 2) := by decide +kernel
theorem dLW_law_794 : decode mLW_law.2.1 794 = .ok (.lshl, 1) := by decide +kernel
theorem dLW_law_795 : decode mLW_law.2.1 795 = .ok (.aload_n 0, 1) := by decide +kernel
theorem dLW_law_796 : decode mLW_law.2.1 796 = .ok (.iload 4, 2) := by decide +kernel
theorem dLW_law_798 : decode mLW_law.2.1 798 = .ok (.iconst 2, 1) := by decide +kernel
theorem dLW_law_799 : decode mLW_law.2.1 799 = .ok (.iadd, 1) := by decide +kernel
theorem dLW_law_800 : decode mLW_law.2.1 800 = .ok (.iaload, 1) := by decide +kernel
theorem dLW_law_801 : decode mLW_law.2.1 801 = .ok (.i2l, 1) := by decide +kernel
theorem dLW_law_802 : decode mLW_law.2.1 802 = .ok (.ldc2_w 97, 3) := by decide +kernel
theorem dLW_law_805 : decode mLW_law.2.1 805 = .ok (.land, 1) := by decide +kernel
theorem dLW_law_806 : decode mLW_law.2.1 806 = .ok (.lor, 1) := by decide +kernel
theorem dLW_law_807 : decode mLW_law.2.1 807 = .ok (.invokevirtual 116, 3) := by decide +kernel
theorem dLW_law_810 : decode mLW_law.2.1 810 = .ok (.if_icmp .eq 87, 3) := by decide +kernel
theorem dLW_law_813 : decode mLW_law.2.1 813 = .ok (.iconst 0, 1) := by decide +kernel
theorem dLW_law_814 : decode mLW_law.2.1 814 = .ok (.ireturn, 1) := by decide +kernel
theorem dLW_law_815 : decode mLW_law.2.1 815 = .ok (.aload_n 1, 1) := by decide +kernel
theorem dLW_law_816 : decode mLW_law.2.1 816 = .ok (.aload_n 3, 1) := by decide +kernel
theorem dLW_law_817 : decode mLW_law.2.1 817 = .ok (.invokestatic 117, 3) := by decide +kernel
theorem dLW_law_820 : decode mLW_law.2.1 820 = .ok (.istore 5, 2) := by decide +kernel
theorem dLW_law_822 : decode mLW_law.2.1 822 = .ok (.aload_n 2, 1) := by decide +kernel
theorem dLW_law_823 : decode mLW_law.2.1 823 = .ok (.invokevirtual 120, 3) := by decide +kernel
theorem dLW_law_826 : decode mLW_law.2.1 826 = .ok (.istore 6, 2) := by decide +kernel
theorem dLW_law_828 : decode mLW_law.2.1 828 = .ok (.aload_n 2, 1) := by decide +kernel
theorem dLW_law_829 : decode mLW_law.2.1 829 = .ok (.invokevirtual 55, 3) := by decide +kernel
theorem dLW_law_832 : decode mLW_law.2.1 832 = .ok (.iload 5, 2) := by decide +kernel
theorem dLW_law_834 : decode mLW_law.2.1 834 = .ok (.if_icmp .eq 5, 3) := by decide +kernel
theorem dLW_law_837 : decode mLW_law.2.1 837 = .ok (.iconst 0, 1) := by decide +kernel
theorem dLW_law_838 : decode mLW_law.2.1 838 = .ok (.ireturn, 1) := by decide +kernel
theorem dLW_law_839 : decode mLW_law.2.1 839 = .ok (.iload 5, 2) := by decide +kernel
theorem dLW_law_841 : decode mLW_law.2.1 841 = .ok (.ifCond .ne 15, 3) := by decide +kernel
theorem dLW_law_844 : decode mLW_law.2.1 844 = .ok (.aload_n 3, 1) := by decide +kernel
theorem dLW_law_845 : decode mLW_law.2.1 845 = .ok (.iconst 0, 1) := by decide +kernel
theorem dLW_law_846 : decode mLW_law.2.1 846 = .ok (.laload, 1) := by decide +kernel
theorem dLW_law_847 : decode mLW_law.2.1 847 = .ok (.iload 6, 2) := by decide +kernel
theorem dLW_law_849 : decode mLW_law.2.1 849 = .ok (.i2l, 1) := by decide +kernel
theorem dLW_law_850 : decode mLW_law.2.1 850 = .ok (.lcmp, 1) := by decide +kernel
theorem dLW_law_851 : decode mLW_law.2.1 851 = .ok (.ifCond .eq 5, 3) := by decide +kernel
theorem dLW_law_854 : decode mLW_law.2.1 854 = .ok (.iconst 0, 1) := by decide +kernel
theorem dLW_law_855 : decode mLW_law.2.1 855 = .ok (.ireturn, 1) := by decide +kernel
theorem dLW_law_856 : decode mLW_law.2.1 856 = .ok (.goto 41, 3) := by decide +kernel
theorem dLW_law_859 : decode mLW_law.2.1 859 = .ok (.aload_n 1, 1) := by decide +kernel
theorem dLW_law_860 : decode mLW_law.2.1 860 = .ok (.invokevirtual 121, 3) := by decide +kernel
theorem dLW_law_863 : decode mLW_law.2.1 863 = .ok (.aload_n 2, 1) := by decide +kernel
theorem dLW_law_864 : decode mLW_law.2.1 864 = .ok (.invokevirtual 124, 3) := by decide +kernel
theorem dLW_law_867 : decode mLW_law.2.1 867 = .ok (.if_icmp .eq 30, 3) := by decide +kernel
theorem dLW_law_870 : decode mLW_law.2.1 870 = .ok (.iconst 0, 1) := by decide +kernel
theorem dLW_law_871 : decode mLW_law.2.1 871 = .ok (.ireturn, 1) := by decide +kernel
theorem dLW_law_872 : decode mLW_law.2.1 872 = .ok (.aload_n 1, 1) := by decide +kernel
theorem dLW_law_873 : decode mLW_law.2.1 873 = .ok (.aload_n 0, 1) := by decide +kernel
theorem dLW_law_874 : decode mLW_law.2.1 874 = .ok (.iload 4, 2) := by decide +kernel
theorem dLW_law_876 : decode mLW_law.2.1 876 = .ok (.iconst 1, 1) := by decide +kernel
theorem dLW_law_877 : decode mLW_law.2.1 877 = .ok (.iadd, 1) := by decide +kernel
theorem dLW_law_878 : decode mLW_law.2.1 878 = .ok (.iaload, 1) := by decide +kernel
theorem dLW_law_879 : decode mLW_law.2.1 879 = .ok (.invokevirtual 125, 3) := by decide +kernel
theorem dLW_law_882 : decode mLW_law.2.1 882 = .ok (.aload_n 2, 1) := by decide +kernel
theorem dLW_law_883 : decode mLW_law.2.1 883 = .ok (.aload_n 0, 1) := by decide +kernel
theorem dLW_law_884 : decode mLW_law.2.1 884 = .ok (.iload 4, 2) := by decide +kernel
theorem dLW_law_886 : decode mLW_law.2.1 886 = .ok (.iconst 1, 1) := by decide +kernel
theorem dLW_law_887 : decode mLW_law.2.1 887 = .ok (.iadd, 1) := by decide +kernel
theorem dLW_law_888 : decode mLW_law.2.1 888 = .ok (.iaload, 1) := by decide +kernel
theorem dLW_law_889 : decode mLW_law.2.1 889 = .ok (.invokevirtual 128, 3) := by decide +kernel
theorem dLW_law_892 : decode mLW_law.2.1 892 = .ok (.if_icmp .eq 5, 3) := by decide +kernel
theorem dLW_law_895 : decode mLW_law.2.1 895 = .ok (.iconst 0, 1) := by decide +kernel
theorem dLW_law_896 : decode mLW_law.2.1 896 = .ok (.ireturn, 1) := by decide +kernel
theorem dLW_law_897 : decode mLW_law.2.1 897 = .ok (.iinc 4 7, 3) := by decide +kernel
theorem dLW_law_900 : decode mLW_law.2.1 900 = .ok (.goto (-857), 3) := by decide +kernel
theorem dLW_law_903 : decode mLW_law.2.1 903 = .ok (.iconst 1, 1) := by decide +kernel
theorem dLW_law_904 : decode mLW_law.2.1 904 = .ok (.ireturn, 1) := by decide +kernel
def mLW_clue : gI := (⟨"RiddleMillLaw", "clue", "(LRiddleMill;IIIIII[J)I"⟩, method_3_code, 9, (some .int))
def tab_clue : List (Nat × Nat × Nat × Nat) := [(0, 18, 21, 13), (0, 18, 25, 15)]
set_option maxRecDepth 20000 in
theorem wc_LW_clue : Cond.codeWith mLW_clue.1 mLW_clue.2.1 mLW_clue.2.2.1 mLW_clue.2.2.2 tab_clue ∈ gWS := gin 494 rfl rfl
set_option maxRecDepth 20000 in
theorem wt_LW_clue : Cond.static mLW_clue.1 ∈ gWS := gin 493 rfl rfl
set_option maxRecDepth 20000 in
theorem wl_LW_51 : Cond.methodLink "RiddleMillLaw" 51 mLW_clue.1 ∈ gWS := gin 492 rfl rfl
theorem dLW_clue_0 : decode mLW_clue.2.1 0 = .ok (.aload 7, 2) := by decide +kernel
theorem dLW_clue_2 : decode mLW_clue.2.1 2 = .ok (.iconst 0, 1) := by decide +kernel
theorem dLW_clue_3 : decode mLW_clue.2.1 3 = .ok (.aload_n 0, 1) := by decide +kernel
theorem dLW_clue_4 : decode mLW_clue.2.1 4 = .ok (.iload_n 1, 1) := by decide +kernel
theorem dLW_clue_5 : decode mLW_clue.2.1 5 = .ok (.iload_n 2, 1) := by decide +kernel
theorem dLW_clue_6 : decode mLW_clue.2.1 6 = .ok (.iload_n 3, 1) := by decide +kernel
theorem dLW_clue_7 : decode mLW_clue.2.1 7 = .ok (.iload 4, 2) := by decide +kernel
theorem dLW_clue_9 : decode mLW_clue.2.1 9 = .ok (.iload 5, 2) := by decide +kernel
theorem dLW_clue_11 : decode mLW_clue.2.1 11 = .ok (.iload 6, 2) := by decide +kernel
theorem dLW_clue_13 : decode mLW_clue.2.1 13 = .ok (.invokevirtual 7, 3) := by decide +kernel
theorem dLW_clue_16 : decode mLW_clue.2.1 16 = .ok (.i2l, 1) := by decide +kernel
theorem dLW_clue_17 : decode mLW_clue.2.1 17 = .ok (.lastore, 1) := by decide +kernel
theorem dLW_clue_18 : decode mLW_clue.2.1 18 = .ok (.goto 11, 3) := by decide +kernel
theorem dLW_clue_21 : decode mLW_clue.2.1 21 = .ok (.astore 8, 2) := by decide +kernel
theorem dLW_clue_23 : decode mLW_clue.2.1 23 = .ok (.iconst 1, 1) := by decide +kernel
theorem dLW_clue_24 : decode mLW_clue.2.1 24 = .ok (.ireturn, 1) := by decide +kernel
theorem dLW_clue_25 : decode mLW_clue.2.1 25 = .ok (.astore 8, 2) := by decide +kernel
theorem dLW_clue_27 : decode mLW_clue.2.1 27 = .ok (.iconst 2, 1) := by decide +kernel
theorem dLW_clue_28 : decode mLW_clue.2.1 28 = .ok (.ireturn, 1) := by decide +kernel
theorem dLW_clue_29 : decode mLW_clue.2.1 29 = .ok (.iconst 0, 1) := by decide +kernel
theorem dLW_clue_30 : decode mLW_clue.2.1 30 = .ok (.ireturn, 1) := by decide +kernel
def mLW_drop : gI := (⟨"RiddleMillLaw", "drop", "(LRiddleMill;I)I"⟩, method_4_code, 3, (some .int))
def tab_drop : List (Nat × Nat × Nat × Nat) := [(0, 5, 8, 21)]
set_option maxRecDepth 20000 in
theorem wc_LW_drop : Cond.codeWith mLW_drop.1 mLW_drop.2.1 mLW_drop.2.2.1 mLW_drop.2.2.2 tab_drop ∈ gWS := gin 613 rfl rfl
set_option maxRecDepth 20000 in
theorem wt_LW_drop : Cond.static mLW_drop.1 ∈ gWS := gin 612 rfl rfl
set_option maxRecDepth 20000 in
theorem wl_LW_58 : Cond.methodLink "RiddleMillLaw" 58 mLW_drop.1 ∈ gWS := gin 611 rfl rfl
theorem dLW_drop_0 : decode mLW_drop.2.1 0 = .ok (.aload_n 0, 1) := by decide +kernel
theorem dLW_drop_1 : decode mLW_drop.2.1 1 = .ok (.iload_n 1, 1) := by decide +kernel
theorem dLW_drop_2 : decode mLW_drop.2.1 2 = .ok (.invokevirtual 17, 3) := by decide +kernel
theorem dLW_drop_5 : decode mLW_drop.2.1 5 = .ok (.goto 6, 3) := by decide +kernel
theorem dLW_drop_8 : decode mLW_drop.2.1 8 = .ok (.astore_n 2, 1) := by decide +kernel
theorem dLW_drop_9 : decode mLW_drop.2.1 9 = .ok (.iconst 1, 1) := by decide +kernel
theorem dLW_drop_10 : decode mLW_drop.2.1 10 = .ok (.ireturn, 1) := by decide +kernel
theorem dLW_drop_11 : decode mLW_drop.2.1 11 = .ok (.iconst 0, 1) := by decide +kernel
theorem dLW_drop_12 : decode mLW_drop.2.1 12 = .ok (.ireturn, 1) := by decide +kernel
def mLW_count : gI := (⟨"RiddleMillLaw", "count", "(LRiddleMill;I[J)I"⟩, method_5_code, 4, (some .int))
def tab_count : List (Nat × Nat × Nat × Nat) := [(0, 9, 12, 13)]
set_option maxRecDepth 20000 in
theorem wc_LW_count : Cond.codeWith mLW_count.1 mLW_count.2.1 mLW_count.2.2.1 mLW_count.2.2.2 tab_count ∈ gWS := gin 642 rfl rfl
set_option maxRecDepth 20000 in
theorem wt_LW_count : Cond.static mLW_count.1 ∈ gWS := gin 641 rfl rfl
set_option maxRecDepth 20000 in
theorem wl_LW_66 : Cond.methodLink "RiddleMillLaw" 66 mLW_count.1 ∈ gWS := gin 640 rfl rfl
theorem dLW_count_0 : decode mLW_count.2.1 0 = .ok (.aload_n 2, 1) := by decide +kernel
theorem dLW_count_1 : decode mLW_count.2.1 1 = .ok (.iconst 0, 1) := by decide +kernel
theorem dLW_count_2 : decode mLW_count.2.1 2 = .ok (.aload_n 0, 1) := by decide +kernel
theorem dLW_count_3 : decode mLW_count.2.1 3 = .ok (.iload_n 1, 1) := by decide +kernel
theorem dLW_count_4 : decode mLW_count.2.1 4 = .ok (.invokevirtual 23, 3) := by decide +kernel
theorem dLW_count_7 : decode mLW_count.2.1 7 = .ok (.i2l, 1) := by decide +kernel
theorem dLW_count_8 : decode mLW_count.2.1 8 = .ok (.lastore, 1) := by decide +kernel
theorem dLW_count_9 : decode mLW_count.2.1 9 = .ok (.goto 6, 3) := by decide +kernel
theorem dLW_count_12 : decode mLW_count.2.1 12 = .ok (.astore_n 3, 1) := by decide +kernel
theorem dLW_count_13 : decode mLW_count.2.1 13 = .ok (.iconst 1, 1) := by decide +kernel
theorem dLW_count_14 : decode mLW_count.2.1 14 = .ok (.ireturn, 1) := by decide +kernel
theorem dLW_count_15 : decode mLW_count.2.1 15 = .ok (.iconst 0, 1) := by decide +kernel
theorem dLW_count_16 : decode mLW_count.2.1 16 = .ok (.ireturn, 1) := by decide +kernel
def mLW_needed : gI := (⟨"RiddleMillLaw", "needed", "(LRiddleMill;I[J)I"⟩, method_6_code, 4, (some .int))
def tab_needed : List (Nat × Nat × Nat × Nat) := [(0, 16, 19, 21)]
set_option maxRecDepth 20000 in
theorem wc_LW_needed : Cond.codeWith mLW_needed.1 mLW_needed.2.1 mLW_needed.2.2.1 mLW_needed.2.2.2 tab_needed ∈ gWS := gin 655 rfl rfl
set_option maxRecDepth 20000 in
theorem wt_LW_needed : Cond.static mLW_needed.1 ∈ gWS := gin 654 rfl rfl
set_option maxRecDepth 20000 in
theorem wl_LW_74 : Cond.methodLink "RiddleMillLaw" 74 mLW_needed.1 ∈ gWS := gin 653 rfl rfl
theorem dLW_needed_0 : decode mLW_needed.2.1 0 = .ok (.aload_n 2, 1) := by decide +kernel
theorem dLW_needed_1 : decode mLW_needed.2.1 1 = .ok (.iconst 0, 1) := by decide +kernel
theorem dLW_needed_2 : decode mLW_needed.2.1 2 = .ok (.aload_n 0, 1) := by decide +kernel
theorem dLW_needed_3 : decode mLW_needed.2.1 3 = .ok (.iload_n 1, 1) := by decide +kernel
theorem dLW_needed_4 : decode mLW_needed.2.1 4 = .ok (.invokevirtual 27, 3) := by decide +kernel
theorem dLW_needed_7 : decode mLW_needed.2.1 7 = .ok (.ifCond .eq 7, 3) := by decide +kernel
theorem dLW_needed_10 : decode mLW_needed.2.1 10 = .ok (.lconst 1, 1) := by decide +kernel
theorem dLW_needed_11 : decode mLW_needed.2.1 11 = .ok (.goto 4, 3) := by decide +kernel
theorem dLW_needed_14 : decode mLW_needed.2.1 14 = .ok (.lconst 0, 1) := by decide +kernel
theorem dLW_needed_15 : decode mLW_needed.2.1 15 = .ok (.lastore, 1) := by decide +kernel
theorem dLW_needed_16 : decode mLW_needed.2.1 16 = .ok (.goto 6, 3) := by decide +kernel
theorem dLW_needed_19 : decode mLW_needed.2.1 19 = .ok (.astore_n 3, 1) := by decide +kernel
theorem dLW_needed_20 : decode mLW_needed.2.1 20 = .ok (.iconst 1, 1) := by decide +kernel
theorem dLW_needed_21 : decode mLW_needed.2.1 21 = .ok (.ireturn, 1) := by decide +kernel
theorem dLW_needed_22 : decode mLW_needed.2.1 22 = .ok (.iconst 0, 1) := by decide +kernel
theorem dLW_needed_23 : decode mLW_needed.2.1 23 = .ok (.ireturn, 1) := by decide +kernel
def mLW_make : gI := (⟨"RiddleMillLaw", "make", "(LRiddleMill;II[J)I"⟩, method_7_code, 5, (some .int))
def tab_make : List (Nat × Nat × Nat × Nat) := [(0, 10, 13, 13)]
set_option maxRecDepth 20000 in
theorem wc_LW_make : Cond.codeWith mLW_make.1 mLW_make.2.1 mLW_make.2.2.1 mLW_make.2.2.2 tab_make ∈ gWS := gin 666 rfl rfl
set_option maxRecDepth 20000 in
theorem wt_LW_make : Cond.static mLW_make.1 ∈ gWS := gin 665 rfl rfl
set_option maxRecDepth 20000 in
theorem wl_LW_93 : Cond.methodLink "RiddleMillLaw" 93 mLW_make.1 ∈ gWS := gin 664 rfl rfl
theorem dLW_make_0 : decode mLW_make.2.1 0 = .ok (.aload_n 3, 1) := by decide +kernel
theorem dLW_make_1 : decode mLW_make.2.1 1 = .ok (.iconst 0, 1) := by decide +kernel
theorem dLW_make_2 : decode mLW_make.2.1 2 = .ok (.aload_n 0, 1) := by decide +kernel
theorem dLW_make_3 : decode mLW_make.2.1 3 = .ok (.iload_n 1, 1) := by decide +kernel
theorem dLW_make_4 : decode mLW_make.2.1 4 = .ok (.iload_n 2, 1) := by decide +kernel
theorem dLW_make_5 : decode mLW_make.2.1 5 = .ok (.invokevirtual 31, 3) := by decide +kernel
theorem dLW_make_8 : decode mLW_make.2.1 8 = .ok (.i2l, 1) := by decide +kernel
theorem dLW_make_9 : decode mLW_make.2.1 9 = .ok (.lastore, 1) := by decide +kernel
theorem dLW_make_10 : decode mLW_make.2.1 10 = .ok (.goto 7, 3) := by decide +kernel
theorem dLW_make_13 : decode mLW_make.2.1 13 = .ok (.astore 4, 2) := by decide +kernel
theorem dLW_make_15 : decode mLW_make.2.1 15 = .ok (.iconst 1, 1) := by decide +kernel
theorem dLW_make_16 : decode mLW_make.2.1 16 = .ok (.ireturn, 1) := by decide +kernel
theorem dLW_make_17 : decode mLW_make.2.1 17 = .ok (.iconst 0, 1) := by decide +kernel
theorem dLW_make_18 : decode mLW_make.2.1 18 = .ok (.ireturn, 1) := by decide +kernel
def mLW_read : gI := (⟨"RiddleMillLaw", "read", "(LRiddleMill;[J)I"⟩, method_8_code, 3, (some .int))
def tab_read : List (Nat × Nat × Nat × Nat) := [(0, 8, 11, 13), (0, 8, 14, 15)]
set_option maxRecDepth 20000 in
theorem wc_LW_read : Cond.codeWith mLW_read.1 mLW_read.2.1 mLW_read.2.2.1 mLW_read.2.2.2 tab_read ∈ gWS := gin 728 rfl rfl
set_option maxRecDepth 20000 in
theorem wt_LW_read : Cond.static mLW_read.1 ∈ gWS := gin 727 rfl rfl
set_option maxRecDepth 20000 in
theorem wl_LW_117 : Cond.methodLink "RiddleMillLaw" 117 mLW_read.1 ∈ gWS := gin 726 rfl rfl
theorem dLW_read_0 : decode mLW_read.2.1 0 = .ok (.aload_n 1, 1) := by decide +kernel
theorem dLW_read_1 : decode mLW_read.2.1 1 = .ok (.iconst 0, 1) := by decide +kernel
theorem dLW_read_2 : decode mLW_read.2.1 2 = .ok (.aload_n 0, 1) := by decide +kernel
theorem dLW_read_3 : decode mLW_read.2.1 3 = .ok (.invokevirtual 35, 3) := by decide +kernel
theorem dLW_read_6 : decode mLW_read.2.1 6 = .ok (.i2l, 1) := by decide +kernel
theorem dLW_read_7 : decode mLW_read.2.1 7 = .ok (.lastore, 1) := by decide +kernel
theorem dLW_read_8 : decode mLW_read.2.1 8 = .ok (.goto 9, 3) := by decide +kernel
theorem dLW_read_11 : decode mLW_read.2.1 11 = .ok (.astore_n 2, 1) := by decide +kernel
theorem dLW_read_12 : decode mLW_read.2.1 12 = .ok (.iconst 1, 1) := by decide +kernel
theorem dLW_read_13 : decode mLW_read.2.1 13 = .ok (.ireturn, 1) := by decide +kernel
theorem dLW_read_14 : decode mLW_read.2.1 14 = .ok (.astore_n 2, 1) := by decide +kernel
theorem dLW_read_15 : decode mLW_read.2.1 15 = .ok (.iconst 2, 1) := by decide +kernel
theorem dLW_read_16 : decode mLW_read.2.1 16 = .ok (.ireturn, 1) := by decide +kernel
theorem dLW_read_17 : decode mLW_read.2.1 17 = .ok (.iconst 0, 1) := by decide +kernel
theorem dLW_read_18 : decode mLW_read.2.1 18 = .ok (.ireturn, 1) := by decide +kernel
theorem bi_31 : (Int8.ofInt 31).toInt32 = 31 := by decide
theorem ic_7 : Int32.ofInt 7 = 7 := by decide
theorem tg_5_6 : gTg 5 6 = 11 := by decide
theorem tz_5_6 : (0 ≤ ((5 : Nat) : Int) + 6) = True := by decide
theorem tg_7_7 : gTg 7 7 = 14 := by decide
theorem tz_7_7 : (0 ≤ ((7 : Nat) : Int) + 7) = True := by decide
theorem tg_9_6 : gTg 9 6 = 15 := by decide
theorem tz_9_6 : (0 ≤ ((9 : Nat) : Int) + 6) = True := by decide
theorem tg_11_4 : gTg 11 4 = 15 := by decide
theorem tz_11_4 : (0 ≤ ((11 : Nat) : Int) + 4) = True := by decide
theorem tg_16_6 : gTg 16 6 = 22 := by decide
theorem tz_16_6 : (0 ≤ ((16 : Nat) : Int) + 6) = True := by decide
theorem tg_18_11 : gTg 18 11 = 29 := by decide
theorem tz_18_11 : (0 ≤ ((18 : Nat) : Int) + 11) = True := by decide
theorem tg_50_853 : gTg 50 853 = 903 := by decide
theorem tz_50_853 : (0 ≤ ((50 : Nat) : Int) + 853) = True := by decide
theorem tg_60_88 : gTg 60 88 = 148 := by decide
theorem tz_60_88 : (0 ≤ ((60 : Nat) : Int) + 88) = True := by decide
theorem tg_60_206 : gTg 60 206 = 266 := by decide
theorem tz_60_206 : (0 ≤ ((60 : Nat) : Int) + 206) = True := by decide
theorem tg_60_242 : gTg 60 242 = 302 := by decide
theorem tz_60_242 : (0 ≤ ((60 : Nat) : Int) + 242) = True := by decide
theorem tg_60_279 : gTg 60 279 = 339 := by decide
theorem tz_60_279 : (0 ≤ ((60 : Nat) : Int) + 279) = True := by decide
theorem tg_60_335 : gTg 60 335 = 395 := by decide
theorem tz_60_335 : (0 ≤ ((60 : Nat) : Int) + 335) = True := by decide
theorem tg_60_360 : gTg 60 360 = 420 := by decide
theorem tz_60_360 : (0 ≤ ((60 : Nat) : Int) + 360) = True := by decide
theorem tg_60_423 : gTg 60 423 = 483 := by decide
theorem tz_60_423 : (0 ≤ ((60 : Nat) : Int) + 423) = True := by decide
theorem tg_60_436 : gTg 60 436 = 496 := by decide
theorem tz_60_436 : (0 ≤ ((60 : Nat) : Int) + 436) = True := by decide
theorem tg_60_473 : gTg 60 473 = 533 := by decide
theorem tz_60_473 : (0 ≤ ((60 : Nat) : Int) + 473) = True := by decide
theorem tg_60_498 : gTg 60 498 = 558 := by decide
theorem tz_60_498 : (0 ≤ ((60 : Nat) : Int) + 498) = True := by decide
theorem tg_60_511 : gTg 60 511 = 571 := by decide
theorem tz_60_511 : (0 ≤ ((60 : Nat) : Int) + 511) = True := by decide
theorem tg_60_579 : gTg 60 579 = 639 := by decide
theorem tz_60_579 : (0 ≤ ((60 : Nat) : Int) + 579) = True := by decide
theorem tg_60_648 : gTg 60 648 = 708 := by decide
theorem tz_60_648 : (0 ≤ ((60 : Nat) : Int) + 648) = True := by decide
theorem tg_60_673 : gTg 60 673 = 733 := by decide
theorem tz_60_673 : (0 ≤ ((60 : Nat) : Int) + 673) = True := by decide
theorem tg_60_698 : gTg 60 698 = 758 := by decide
theorem tz_60_698 : (0 ≤ ((60 : Nat) : Int) + 698) = True := by decide
theorem tg_60_755 : gTg 60 755 = 815 := by decide
theorem tz_60_755 : (0 ≤ ((60 : Nat) : Int) + 755) = True := by decide
theorem tg_60_799 : gTg 60 799 = 859 := by decide
theorem tz_60_799 : (0 ≤ ((60 : Nat) : Int) + 799) = True := by decide
theorem tg_60_812 : gTg 60 812 = 872 := by decide
theorem tz_60_812 : (0 ≤ ((60 : Nat) : Int) + 812) = True := by decide
theorem tg_60_837 : gTg 60 837 = 897 := by decide
theorem tz_60_837 : (0 ≤ ((60 : Nat) : Int) + 837) = True := by decide
theorem tg_241_5 : gTg 241 5 = 246 := by decide
theorem tz_241_5 : (0 ≤ ((241 : Nat) : Int) + 5) = True := by decide
theorem tg_248_15 : gTg 248 15 = 263 := by decide
theorem tz_248_15 : (0 ≤ ((248 : Nat) : Int) + 15) = True := by decide
theorem tg_258_5 : gTg 258 5 = 263 := by decide
theorem tz_258_5 : (0 ≤ ((258 : Nat) : Int) + 5) = True := by decide
theorem tg_263_634 : gTg 263 634 = 897 := by decide
theorem tz_263_634 : (0 ≤ ((263 : Nat) : Int) + 634) = True := by decide
theorem tg_294_5 : gTg 294 5 = 299 := by decide
theorem tz_294_5 : (0 ≤ ((294 : Nat) : Int) + 5) = True := by decide
theorem tg_299_598 : gTg 299 598 = 897 := by decide
theorem tz_299_598 : (0 ≤ ((299 : Nat) : Int) + 598) = True := by decide
theorem tg_334_563 : gTg 334 563 = 897 := by decide
theorem tz_334_563 : (0 ≤ ((334 : Nat) : Int) + 563) = True := by decide
theorem tg_370_5 : gTg 370 5 = 375 := by decide
theorem tz_370_5 : (0 ≤ ((370 : Nat) : Int) + 5) = True := by decide
theorem tg_377_15 : gTg 377 15 = 392 := by decide
theorem tz_377_15 : (0 ≤ ((377 : Nat) : Int) + 15) = True := by decide
theorem tg_387_5 : gTg 387 5 = 392 := by decide
theorem tz_387_5 : (0 ≤ ((387 : Nat) : Int) + 5) = True := by decide
theorem tg_392_505 : gTg 392 505 = 897 := by decide
theorem tz_392_505 : (0 ≤ ((392 : Nat) : Int) + 505) = True := by decide
theorem tg_415_482 : gTg 415 482 = 897 := by decide
theorem tz_415_482 : (0 ≤ ((415 : Nat) : Int) + 482) = True := by decide
theorem tg_451_5 : gTg 451 5 = 456 := by decide
theorem tz_451_5 : (0 ≤ ((451 : Nat) : Int) + 5) = True := by decide
theorem tg_458_22 : gTg 458 22 = 480 := by decide
theorem tz_458_22 : (0 ≤ ((458 : Nat) : Int) + 22) = True := by decide
theorem tg_466_7 : gTg 466 7 = 473 := by decide
theorem tz_466_7 : (0 ≤ ((466 : Nat) : Int) + 7) = True := by decide
theorem tg_470_4 : gTg 470 4 = 474 := by decide
theorem tz_470_4 : (0 ≤ ((470 : Nat) : Int) + 4) = True := by decide
theorem tg_475_5 : gTg 475 5 = 480 := by decide
theorem tz_475_5 : (0 ≤ ((475 : Nat) : Int) + 5) = True := by decide
theorem tg_480_417 : gTg 480 417 = 897 := by decide
theorem tz_480_417 : (0 ≤ ((480 : Nat) : Int) + 417) = True := by decide
theorem tg_491_406 : gTg 491 406 = 897 := by decide
theorem tz_491_406 : (0 ≤ ((491 : Nat) : Int) + 406) = True := by decide
theorem tg_528_369 : gTg 528 369 = 897 := by decide
theorem tz_528_369 : (0 ≤ ((528 : Nat) : Int) + 369) = True := by decide
theorem tg_553_344 : gTg 553 344 = 897 := by decide
theorem tz_553_344 : (0 ≤ ((553 : Nat) : Int) + 344) = True := by decide
theorem tg_566_331 : gTg 566 331 = 897 := by decide
theorem tz_566_331 : (0 ≤ ((566 : Nat) : Int) + 331) = True := by decide
theorem tg_614_5 : gTg 614 5 = 619 := by decide
theorem tz_614_5 : (0 ≤ ((614 : Nat) : Int) + 5) = True := by decide
theorem tg_621_15 : gTg 621 15 = 636 := by decide
theorem tz_621_15 : (0 ≤ ((621 : Nat) : Int) + 15) = True := by decide
theorem tg_631_5 : gTg 631 5 = 636 := by decide
theorem tz_631_5 : (0 ≤ ((631 : Nat) : Int) + 5) = True := by decide
theorem tg_636_261 : gTg 636 261 = 897 := by decide
theorem tz_636_261 : (0 ≤ ((636 : Nat) : Int) + 261) = True := by decide
theorem tg_703_194 : gTg 703 194 = 897 := by decide
theorem tz_703_194 : (0 ≤ ((703 : Nat) : Int) + 194) = True := by decide
theorem tg_728_169 : gTg 728 169 = 897 := by decide
theorem tz_728_169 : (0 ≤ ((728 : Nat) : Int) + 169) = True := by decide
theorem tg_753_144 : gTg 753 144 = 897 := by decide
theorem tz_753_144 : (0 ≤ ((753 : Nat) : Int) + 144) = True := by decide
theorem tg_810_87 : gTg 810 87 = 897 := by decide
theorem tz_810_87 : (0 ≤ ((810 : Nat) : Int) + 87) = True := by decide
theorem tg_834_5 : gTg 834 5 = 839 := by decide
theorem tz_834_5 : (0 ≤ ((834 : Nat) : Int) + 5) = True := by decide
theorem tg_841_15 : gTg 841 15 = 856 := by decide
theorem tz_841_15 : (0 ≤ ((841 : Nat) : Int) + 15) = True := by decide
theorem tg_851_5 : gTg 851 5 = 856 := by decide
theorem tz_851_5 : (0 ≤ ((851 : Nat) : Int) + 5) = True := by decide
theorem tg_856_41 : gTg 856 41 = 897 := by decide
theorem tz_856_41 : (0 ≤ ((856 : Nat) : Int) + 41) = True := by decide
theorem tg_867_30 : gTg 867 30 = 897 := by decide
theorem tz_867_30 : (0 ≤ ((867 : Nat) : Int) + 30) = True := by decide
theorem tg_892_5 : gTg 892 5 = 897 := by decide
theorem tz_892_5 : (0 ≤ ((892 : Nat) : Int) + 5) = True := by decide
theorem tg_900_m857 : gTg 900 (-857) = 43 := by decide
theorem tz_900_m857 : (0 ≤ ((900 : Nat) : Int) + (-857)) = True := by decide
theorem cls_LW_law : mLW_law.1.cls = "RiddleMillLaw" := rfl
theorem tn_LW_39 : gTn "RiddleMillLaw" 39 = some 63 := by decide +kernel
theorem ms_63 : gMs 63 = true := by decide +kernel
theorem tn_LW_54 : gTn "RiddleMillLaw" 54 = some 105 := by decide +kernel
theorem tn_LW_55 : gTn "RiddleMillLaw" 55 = some 104 := by decide +kernel
theorem ms_104 : gMs 104 = false := by decide +kernel
theorem tn_LW_61 : gTn "RiddleMillLaw" 61 = some 110 := by decide +kernel
theorem ms_110 : gMs 110 = false := by decide +kernel
theorem tn_LW_62 : gTn "RiddleMillLaw" 62 = some 9 := by decide +kernel
theorem ms_9 : gMs 9 = false := by decide +kernel
theorem tn_LW_65 : gTn "RiddleMillLaw" 65 = some 112 := by decide +kernel
theorem ms_112 : gMs 112 = false := by decide +kernel
theorem tn_LW_69 : gTn "RiddleMillLaw" 69 = some 113 := by decide +kernel
theorem ms_113 : gMs 113 = false := by decide +kernel
theorem tn_LW_70 : gTn "RiddleMillLaw" 70 = some 17 := by decide +kernel
theorem ms_17 : gMs 17 = false := by decide +kernel
theorem tn_LW_73 : gTn "RiddleMillLaw" 73 = some 122 := by decide +kernel
theorem ms_122 : gMs 122 = false := by decide +kernel
theorem tn_LW_76 : gTn "RiddleMillLaw" 76 = some 123 := by decide +kernel
theorem ms_123 : gMs 123 = false := by decide +kernel
theorem tn_LW_77 : gTn "RiddleMillLaw" 77 = some 28 := by decide +kernel
theorem ms_28 : gMs 28 = false := by decide +kernel
theorem tn_LW_80 : gTn "RiddleMillLaw" 80 = some 125 := by decide +kernel
theorem ms_125 : gMs 125 = false := by decide +kernel
theorem tn_LW_81 : gTn "RiddleMillLaw" 81 = some 45 := by decide +kernel
theorem ms_45 : gMs 45 = false := by decide +kernel
theorem tn_LW_84 : gTn "RiddleMillLaw" 84 = some 140 := by decide +kernel
theorem ms_140 : gMs 140 = false := by decide +kernel
theorem tn_LW_85 : gTn "RiddleMillLaw" 85 = some 46 := by decide +kernel
theorem ms_46 : gMs 46 = false := by decide +kernel
theorem tn_LW_88 : gTn "RiddleMillLaw" 88 = some 141 := by decide +kernel
theorem ms_141 : gMs 141 = false := by decide +kernel
theorem tn_LW_89 : gTn "RiddleMillLaw" 89 = some 47 := by decide +kernel
theorem ms_47 : gMs 47 = false := by decide +kernel
theorem tn_LW_92 : gTn "RiddleMillLaw" 92 = some 142 := by decide +kernel
theorem ms_142 : gMs 142 = false := by decide +kernel
theorem tn_LW_96 : gTn "RiddleMillLaw" 96 = some 144 := by decide +kernel
theorem ms_144 : gMs 144 = false := by decide +kernel
theorem kl_LW_97 : gKl "RiddleMillLaw" 97 = some 4294967295 := by decide +kernel
theorem tn_LW_99 : gTn "RiddleMillLaw" 99 = some 48 := by decide +kernel
theorem ms_48 : gMs 48 = false := by decide +kernel
theorem tn_LW_103 : gTn "RiddleMillLaw" 103 = some 151 := by decide +kernel
theorem ms_151 : gMs 151 = false := by decide +kernel
theorem tn_LW_104 : gTn "RiddleMillLaw" 104 = some 53 := by decide +kernel
theorem ms_53 : gMs 53 = false := by decide +kernel
theorem tn_LW_107 : gTn "RiddleMillLaw" 107 = some 153 := by decide +kernel
theorem ms_153 : gMs 153 = false := by decide +kernel
theorem tn_LW_108 : gTn "RiddleMillLaw" 108 = some 58 := by decide +kernel
theorem ms_58 : gMs 58 = false := by decide +kernel
theorem tn_LW_111 : gTn "RiddleMillLaw" 111 = some 157 := by decide +kernel
theorem ms_157 : gMs 157 = false := by decide +kernel
theorem tn_LW_112 : gTn "RiddleMillLaw" 112 = some 59 := by decide +kernel
theorem ms_59 : gMs 59 = false := by decide +kernel
theorem tn_LW_116 : gTn "RiddleMillLaw" 116 = some 158 := by decide +kernel
theorem ms_158 : gMs 158 = false := by decide +kernel
theorem tn_LW_120 : gTn "RiddleMillLaw" 120 = some 159 := by decide +kernel
theorem ms_159 : gMs 159 = false := by decide +kernel
theorem tn_LW_121 : gTn "RiddleMillLaw" 121 = some 61 := by decide +kernel
theorem ms_61 : gMs 61 = false := by decide +kernel
theorem tn_LW_124 : gTn "RiddleMillLaw" 124 = some 170 := by decide +kernel
theorem ms_170 : gMs 170 = false := by decide +kernel
theorem tn_LW_125 : gTn "RiddleMillLaw" 125 = some 62 := by decide +kernel
theorem ms_62 : gMs 62 = false := by decide +kernel
theorem tn_LW_128 : gTn "RiddleMillLaw" 128 = some 171 := by decide +kernel
theorem ms_171 : gMs 171 = false := by decide +kernel
theorem cls_LW_clue : mLW_clue.1.cls = "RiddleMillLaw" := rfl
theorem tn_LW_7 : gTn "RiddleMillLaw" 7 = some 64 := by decide +kernel
theorem ms_64 : gMs 64 = false := by decide +kernel
theorem cls_LW_drop : mLW_drop.1.cls = "RiddleMillLaw" := rfl
theorem tn_LW_17 : gTn "RiddleMillLaw" 17 = some 78 := by decide +kernel
theorem ms_78 : gMs 78 = false := by decide +kernel
theorem cls_LW_count : mLW_count.1.cls = "RiddleMillLaw" := rfl
theorem tn_LW_23 : gTn "RiddleMillLaw" 23 = some 81 := by decide +kernel
theorem ms_81 : gMs 81 = false := by decide +kernel
theorem cls_LW_needed : mLW_needed.1.cls = "RiddleMillLaw" := rfl
theorem tn_LW_27 : gTn "RiddleMillLaw" 27 = some 83 := by decide +kernel
theorem ms_83 : gMs 83 = false := by decide +kernel
theorem cls_LW_make : mLW_make.1.cls = "RiddleMillLaw" := rfl
theorem tn_LW_31 : gTn "RiddleMillLaw" 31 = some 85 := by decide +kernel
theorem ms_85 : gMs 85 = false := by decide +kernel
theorem cls_LW_read : mLW_read.1.cls = "RiddleMillLaw" := rfl
theorem tn_LW_35 : gTn "RiddleMillLaw" 35 = some 96 := by decide +kernel
theorem ms_96 : gMs 96 = false := by decide +kernel
