/-! Decode rows. -/
theorem d_L_law_0 : decode b_L_law 0 = .ok (.new 8, 3) := by decide +kernel
theorem d_L_law_3 : decode b_L_law 3 = .ok (.dup, 1) := by decide +kernel
theorem d_L_law_4 : decode b_L_law 4 = .ok (.invokespecial 46, 3) := by decide +kernel
theorem d_L_law_7 : decode b_L_law 7 = .ok (.astore_n 1, 1) := by decide +kernel
theorem d_L_law_8 : decode b_L_law 8 = .ok (.new 47, 3) := by decide +kernel
theorem d_L_law_11 : decode b_L_law 11 = .ok (.dup, 1) := by decide +kernel
theorem d_L_law_12 : decode b_L_law 12 = .ok (.invokespecial 49, 3) := by decide +kernel
theorem d_L_law_15 : decode b_L_law 15 = .ok (.astore_n 2, 1) := by decide +kernel
theorem d_L_law_16 : decode b_L_law 16 = .ok (.iconst 1, 1) := by decide +kernel
theorem d_L_law_17 : decode b_L_law 17 = .ok (.newarray .long, 2) := by decide +kernel
theorem d_L_law_19 : decode b_L_law 19 = .ok (.astore_n 3, 1) := by decide +kernel
theorem d_L_law_20 : decode b_L_law 20 = .ok (.iconst 0, 1) := by decide +kernel
theorem d_L_law_21 : decode b_L_law 21 = .ok (.istore 4, 2) := by decide +kernel
theorem d_L_law_23 : decode b_L_law 23 = .ok (.iload 4, 2) := by decide +kernel
theorem d_L_law_25 : decode b_L_law 25 = .ok (.aload_n 0, 1) := by decide +kernel
theorem d_L_law_26 : decode b_L_law 26 = .ok (.arraylength, 1) := by decide +kernel
theorem d_L_law_27 : decode b_L_law 27 = .ok (.iconst 4, 1) := by decide +kernel
theorem d_L_law_28 : decode b_L_law 28 = .ok (.isub, 1) := by decide +kernel
theorem d_L_law_29 : decode b_L_law 29 = .ok (.if_icmp .gt 756, 3) := by decide +kernel
theorem d_L_law_32 : decode b_L_law 32 = .ok (.aload_n 0, 1) := by decide +kernel
theorem d_L_law_33 : decode b_L_law 33 = .ok (.iload 4, 2) := by decide +kernel
theorem d_L_law_35 : decode b_L_law 35 = .ok (.iaload, 1) := by decide +kernel
theorem d_L_law_36 : decode b_L_law 36 = .ok (.bipush 15, 2) := by decide +kernel
theorem d_L_law_38 : decode b_L_law 38 = .ok (.iand, 1) := by decide +kernel
theorem d_L_law_39 : decode b_L_law 39 = .ok (.tableswitch 740 0 10 #[57, 68, 148, 239, 307, 387, 455, 511, 524, 592, 672], 57) := by decide +kernel
theorem d_L_law_96 : decode b_L_law 96 = .ok (.aload_n 1, 1) := by decide +kernel
theorem d_L_law_97 : decode b_L_law 97 = .ok (.invokevirtual 50, 3) := by decide +kernel
theorem d_L_law_100 : decode b_L_law 100 = .ok (.aload_n 2, 1) := by decide +kernel
theorem d_L_law_101 : decode b_L_law 101 = .ok (.invokevirtual 53, 3) := by decide +kernel
theorem d_L_law_104 : decode b_L_law 104 = .ok (.goto 675, 3) := by decide +kernel
theorem d_L_law_107 : decode b_L_law 107 = .ok (.aload_n 1, 1) := by decide +kernel
theorem d_L_law_108 : decode b_L_law 108 = .ok (.aload_n 0, 1) := by decide +kernel
theorem d_L_law_109 : decode b_L_law 109 = .ok (.iload 4, 2) := by decide +kernel
theorem d_L_law_111 : decode b_L_law 111 = .ok (.iconst 1, 1) := by decide +kernel
theorem d_L_law_112 : decode b_L_law 112 = .ok (.iadd, 1) := by decide +kernel
theorem d_L_law_113 : decode b_L_law 113 = .ok (.iaload, 1) := by decide +kernel
theorem d_L_law_114 : decode b_L_law 114 = .ok (.aload_n 0, 1) := by decide +kernel
theorem d_L_law_115 : decode b_L_law 115 = .ok (.iload 4, 2) := by decide +kernel
theorem d_L_law_117 : decode b_L_law 117 = .ok (.iconst 2, 1) := by decide +kernel
theorem d_L_law_118 : decode b_L_law 118 = .ok (.iadd, 1) := by decide +kernel
theorem d_L_law_119 : decode b_L_law 119 = .ok (.iaload, 1) := by decide +kernel
theorem d_L_law_120 : decode b_L_law 120 = .ok (.aload_n 0, 1) := by decide +kernel
theorem d_L_law_121 : decode b_L_law 121 = .ok (.iload 4, 2) := by decide +kernel
theorem d_L_law_123 : decode b_L_law 123 = .ok (.iconst 3, 1) := by decide +kernel
theorem d_L_law_124 : decode b_L_law 124 = .ok (.iadd, 1) := by decide +kernel
theorem d_L_law_125 : decode b_L_law 125 = .ok (.iaload, 1) := by decide +kernel
theorem d_L_law_126 : decode b_L_law 126 = .ok (.aload_n 3, 1) := by decide +kernel
theorem d_L_law_127 : decode b_L_law 127 = .ok (.invokestatic 54, 3) := by decide +kernel
theorem d_L_law_130 : decode b_L_law 130 = .ok (.istore 5, 2) := by decide +kernel
theorem d_L_law_132 : decode b_L_law 132 = .ok (.aload_n 2, 1) := by decide +kernel
theorem d_L_law_133 : decode b_L_law 133 = .ok (.aload_n 0, 1) := by decide +kernel
theorem d_L_law_134 : decode b_L_law 134 = .ok (.iload 4, 2) := by decide +kernel
theorem d_L_law_136 : decode b_L_law 136 = .ok (.iconst 1, 1) := by decide +kernel
theorem d_L_law_137 : decode b_L_law 137 = .ok (.iadd, 1) := by decide +kernel
theorem d_L_law_138 : decode b_L_law 138 = .ok (.iaload, 1) := by decide +kernel
theorem d_L_law_139 : decode b_L_law 139 = .ok (.aload_n 0, 1) := by decide +kernel
theorem d_L_law_140 : decode b_L_law 140 = .ok (.iload 4, 2) := by decide +kernel
theorem d_L_law_142 : decode b_L_law 142 = .ok (.iconst 2, 1) := by decide +kernel
theorem d_L_law_143 : decode b_L_law 143 = .ok (.iadd, 1) := by decide +kernel
theorem d_L_law_144 : decode b_L_law 144 = .ok (.iaload, 1) := by decide +kernel
theorem d_L_law_145 : decode b_L_law 145 = .ok (.aload_n 0, 1) := by decide +kernel
theorem d_L_law_146 : decode b_L_law 146 = .ok (.iload 4, 2) := by decide +kernel
theorem d_L_law_148 : decode b_L_law 148 = .ok (.iconst 3, 1) := by decide +kernel
theorem d_L_law_149 : decode b_L_law 149 = .ok (.iadd, 1) := by decide +kernel
theorem d_L_law_150 : decode b_L_law 150 = .ok (.iaload, 1) := by decide +kernel
theorem d_L_law_151 : decode b_L_law 151 = .ok (.invokevirtual 59, 3) := by decide +kernel
theorem d_L_law_154 : decode b_L_law 154 = .ok (.istore 6, 2) := by decide +kernel
theorem d_L_law_156 : decode b_L_law 156 = .ok (.aload_n 2, 1) := by decide +kernel
theorem d_L_law_157 : decode b_L_law 157 = .ok (.invokevirtual 60, 3) := by decide +kernel
theorem d_L_law_160 : decode b_L_law 160 = .ok (.iload 5, 2) := by decide +kernel
theorem d_L_law_162 : decode b_L_law 162 = .ok (.if_icmp .eq 5, 3) := by decide +kernel
theorem d_L_law_165 : decode b_L_law 165 = .ok (.iconst 0, 1) := by decide +kernel
theorem d_L_law_166 : decode b_L_law 166 = .ok (.ireturn, 1) := by decide +kernel
theorem d_L_law_167 : decode b_L_law 167 = .ok (.iload 5, 2) := by decide +kernel
theorem d_L_law_169 : decode b_L_law 169 = .ok (.ifCond .ne 15, 3) := by decide +kernel
theorem d_L_law_172 : decode b_L_law 172 = .ok (.aload_n 3, 1) := by decide +kernel
theorem d_L_law_173 : decode b_L_law 173 = .ok (.iconst 0, 1) := by decide +kernel
theorem d_L_law_174 : decode b_L_law 174 = .ok (.laload, 1) := by decide +kernel
theorem d_L_law_175 : decode b_L_law 175 = .ok (.iload 6, 2) := by decide +kernel
theorem d_L_law_177 : decode b_L_law 177 = .ok (.i2l, 1) := by decide +kernel
theorem d_L_law_178 : decode b_L_law 178 = .ok (.lcmp, 1) := by decide +kernel
theorem d_L_law_179 : decode b_L_law 179 = .ok (.ifCond .eq 5, 3) := by decide +kernel
theorem d_L_law_182 : decode b_L_law 182 = .ok (.iconst 0, 1) := by decide +kernel
theorem d_L_law_183 : decode b_L_law 183 = .ok (.ireturn, 1) := by decide +kernel
theorem d_L_law_184 : decode b_L_law 184 = .ok (.goto 595, 3) := by decide +kernel
theorem d_L_law_187 : decode b_L_law 187 = .ok (.aload_n 1, 1) := by decide +kernel
theorem d_L_law_188 : decode b_L_law 188 = .ok (.aload_n 0, 1) := by decide +kernel
theorem d_L_law_189 : decode b_L_law 189 = .ok (.iload 4, 2) := by decide +kernel
theorem d_L_law_191 : decode b_L_law 191 = .ok (.iconst 1, 1) := by decide +kernel
theorem d_L_law_192 : decode b_L_law 192 = .ok (.iadd, 1) := by decide +kernel
theorem d_L_law_193 : decode b_L_law 193 = .ok (.iaload, 1) := by decide +kernel
theorem d_L_law_194 : decode b_L_law 194 = .ok (.aload_n 0, 1) := by decide +kernel
theorem d_L_law_195 : decode b_L_law 195 = .ok (.iload 4, 2) := by decide +kernel
theorem d_L_law_197 : decode b_L_law 197 = .ok (.iconst 2, 1) := by decide +kernel
theorem d_L_law_198 : decode b_L_law 198 = .ok (.iadd, 1) := by decide +kernel
theorem d_L_law_199 : decode b_L_law 199 = .ok (.iaload, 1) := by decide +kernel
theorem d_L_law_200 : decode b_L_law 200 = .ok (.ifCond .eq 7, 3) := by decide +kernel
theorem d_L_law_203 : decode b_L_law 203 = .ok (.iconst 1, 1) := by decide +kernel
theorem d_L_law_204 : decode b_L_law 204 = .ok (.goto 4, 3) := by decide +kernel
theorem d_L_law_207 : decode b_L_law 207 = .ok (.iconst 0, 1) := by decide +kernel
theorem d_L_law_208 : decode b_L_law 208 = .ok (.aload_n 3, 1) := by decide +kernel
theorem d_L_law_209 : decode b_L_law 209 = .ok (.invokestatic 64, 3) := by decide +kernel
theorem d_L_law_212 : decode b_L_law 212 = .ok (.istore 5, 2) := by decide +kernel
theorem d_L_law_214 : decode b_L_law 214 = .ok (.aload_n 2, 1) := by decide +kernel
theorem d_L_law_215 : decode b_L_law 215 = .ok (.aload_n 0, 1) := by decide +kernel
theorem d_L_law_216 : decode b_L_law 216 = .ok (.iload 4, 2) := by decide +kernel
theorem d_L_law_218 : decode b_L_law 218 = .ok (.iconst 1, 1) := by decide +kernel
theorem d_L_law_219 : decode b_L_law 219 = .ok (.iadd, 1) := by decide +kernel
theorem d_L_law_220 : decode b_L_law 220 = .ok (.iaload, 1) := by decide +kernel
theorem d_L_law_221 : decode b_L_law 221 = .ok (.aload_n 0, 1) := by decide +kernel
theorem d_L_law_222 : decode b_L_law 222 = .ok (.iload 4, 2) := by decide +kernel
theorem d_L_law_224 : decode b_L_law 224 = .ok (.iconst 2, 1) := by decide +kernel
theorem d_L_law_225 : decode b_L_law 225 = .ok (.iadd, 1) := by decide +kernel
theorem d_L_law_226 : decode b_L_law 226 = .ok (.iaload, 1) := by decide +kernel
theorem d_L_law_227 : decode b_L_law 227 = .ok (.ifCond .eq 7, 3) := by decide +kernel
theorem d_L_law_230 : decode b_L_law 230 = .ok (.iconst 1, 1) := by decide +kernel
theorem d_L_law_231 : decode b_L_law 231 = .ok (.goto 4, 3) := by decide +kernel
theorem d_L_law_234 : decode b_L_law 234 = .ok (.iconst 0, 1) := by decide +kernel
theorem d_L_law_235 : decode b_L_law 235 = .ok (.invokevirtual 67, 3) := by decide +kernel
theorem d_L_law_238 : decode b_L_law 238 = .ok (.istore 6, 2) := by decide +kernel
theorem d_L_law_240 : decode b_L_law 240 = .ok (.aload_n 2, 1) := by decide +kernel
theorem d_L_law_241 : decode b_L_law 241 = .ok (.invokevirtual 60, 3) := by decide +kernel
theorem d_L_law_244 : decode b_L_law 244 = .ok (.iload 5, 2) := by decide +kernel
theorem d_L_law_246 : decode b_L_law 246 = .ok (.if_icmp .eq 5, 3) := by decide +kernel
theorem d_L_law_249 : decode b_L_law 249 = .ok (.iconst 0, 1) := by decide +kernel
theorem d_L_law_250 : decode b_L_law 250 = .ok (.ireturn, 1) := by decide +kernel
theorem d_L_law_251 : decode b_L_law 251 = .ok (.iload 5, 2) := by decide +kernel
theorem d_L_law_253 : decode b_L_law 253 = .ok (.ifCond .ne 22, 3) := by decide +kernel
theorem d_L_law_256 : decode b_L_law 256 = .ok (.aload_n 3, 1) := by decide +kernel
theorem d_L_law_257 : decode b_L_law 257 = .ok (.iconst 0, 1) := by decide +kernel
theorem d_L_law_258 : decode b_L_law 258 = .ok (.laload, 1) := by decide +kernel
theorem d_L_law_259 : decode b_L_law 259 = .ok (.iload 6, 2) := by decide +kernel
theorem d_L_law_261 : decode b_L_law 261 = .ok (.ifCond .eq 7, 3) := by decide +kernel
theorem d_L_law_264 : decode b_L_law 264 = .ok (.lconst 1, 1) := by decide +kernel
theorem d_L_law_265 : decode b_L_law 265 = .ok (.goto 4, 3) := by decide +kernel
theorem d_L_law_268 : decode b_L_law 268 = .ok (.lconst 0, 1) := by decide +kernel
theorem d_L_law_269 : decode b_L_law 269 = .ok (.lcmp, 1) := by decide +kernel
theorem d_L_law_270 : decode b_L_law 270 = .ok (.ifCond .eq 5, 3) := by decide +kernel
theorem d_L_law_273 : decode b_L_law 273 = .ok (.iconst 0, 1) := by decide +kernel
theorem d_L_law_274 : decode b_L_law 274 = .ok (.ireturn, 1) := by decide +kernel
theorem d_L_law_275 : decode b_L_law 275 = .ok (.goto 504, 3) := by decide +kernel
theorem d_L_law_278 : decode b_L_law 278 = .ok (.aload_n 1, 1) := by decide +kernel
theorem d_L_law_279 : decode b_L_law 279 = .ok (.aload_n 0, 1) := by decide +kernel
theorem d_L_law_280 : decode b_L_law 280 = .ok (.iload 4, 2) := by decide +kernel
theorem d_L_law_282 : decode b_L_law 282 = .ok (.iconst 1, 1) := by decide +kernel
theorem d_L_law_283 : decode b_L_law 283 = .ok (.iadd, 1) := by decide +kernel
theorem d_L_law_284 : decode b_L_law 284 = .ok (.iaload, 1) := by decide +kernel
theorem d_L_law_285 : decode b_L_law 285 = .ok (.aload_n 0, 1) := by decide +kernel
theorem d_L_law_286 : decode b_L_law 286 = .ok (.iload 4, 2) := by decide +kernel
theorem d_L_law_288 : decode b_L_law 288 = .ok (.iconst 2, 1) := by decide +kernel
theorem d_L_law_289 : decode b_L_law 289 = .ok (.iadd, 1) := by decide +kernel
theorem d_L_law_290 : decode b_L_law 290 = .ok (.iaload, 1) := by decide +kernel
theorem d_L_law_291 : decode b_L_law 291 = .ok (.aload_n 3, 1) := by decide +kernel
theorem d_L_law_292 : decode b_L_law 292 = .ok (.invokestatic 68, 3) := by decide +kernel
theorem d_L_law_295 : decode b_L_law 295 = .ok (.istore 5, 2) := by decide +kernel
theorem d_L_law_297 : decode b_L_law 297 = .ok (.aload_n 2, 1) := by decide +kernel
theorem d_L_law_298 : decode b_L_law 298 = .ok (.aload_n 0, 1) := by decide +kernel
theorem d_L_law_299 : decode b_L_law 299 = .ok (.iload 4, 2) := by decide +kernel
theorem d_L_law_301 : decode b_L_law 301 = .ok (.iconst 1, 1) := by decide +kernel
theorem d_L_law_302 : decode b_L_law 302 = .ok (.iadd, 1) := by decide +kernel
theorem d_L_law_303 : decode b_L_law 303 = .ok (.iaload, 1) := by decide +kernel
theorem d_L_law_304 : decode b_L_law 304 = .ok (.aload_n 0, 1) := by decide +kernel
theorem d_L_law_305 : decode b_L_law 305 = .ok (.iload 4, 2) := by decide +kernel
theorem d_L_law_307 : decode b_L_law 307 = .ok (.iconst 2, 1) := by decide +kernel
theorem d_L_law_308 : decode b_L_law 308 = .ok (.iadd, 1) := by decide +kernel
theorem d_L_law_309 : decode b_L_law 309 = .ok (.iaload, 1) := by decide +kernel
theorem d_L_law_310 : decode b_L_law 310 = .ok (.invokevirtual 71, 3) := by decide +kernel
theorem d_L_law_313 : decode b_L_law 313 = .ok (.istore 6, 2) := by decide +kernel
theorem d_L_law_315 : decode b_L_law 315 = .ok (.aload_n 2, 1) := by decide +kernel
theorem d_L_law_316 : decode b_L_law 316 = .ok (.invokevirtual 60, 3) := by decide +kernel
theorem d_L_law_319 : decode b_L_law 319 = .ok (.iload 5, 2) := by decide +kernel
theorem d_L_law_321 : decode b_L_law 321 = .ok (.if_icmp .eq 5, 3) := by decide +kernel
theorem d_L_law_324 : decode b_L_law 324 = .ok (.iconst 0, 1) := by decide +kernel
theorem d_L_law_325 : decode b_L_law 325 = .ok (.ireturn, 1) := by decide +kernel
theorem d_L_law_326 : decode b_L_law 326 = .ok (.iload 5, 2) := by decide +kernel
theorem d_L_law_328 : decode b_L_law 328 = .ok (.ifCond .ne 15, 3) := by decide +kernel
theorem d_L_law_331 : decode b_L_law 331 = .ok (.aload_n 3, 1) := by decide +kernel
theorem d_L_law_332 : decode b_L_law 332 = .ok (.iconst 0, 1) := by decide +kernel
theorem d_L_law_333 : decode b_L_law 333 = .ok (.laload, 1) := by decide +kernel
theorem d_L_law_334 : decode b_L_law 334 = .ok (.iload 6, 2) := by decide +kernel
theorem d_L_law_336 : decode b_L_law 336 = .ok (.i2l, 1) := by decide +kernel
theorem d_L_law_337 : decode b_L_law 337 = .ok (.lcmp, 1) := by decide +kernel
theorem d_L_law_338 : decode b_L_law 338 = .ok (.ifCond .eq 5, 3) := by decide +kernel
theorem d_L_law_341 : decode b_L_law 341 = .ok (.iconst 0, 1) := by decide +kernel
theorem d_L_law_342 : decode b_L_law 342 = .ok (.ireturn, 1) := by decide +kernel
theorem d_L_law_343 : decode b_L_law 343 = .ok (.goto 436, 3) := by decide +kernel
theorem d_L_law_346 : decode b_L_law 346 = .ok (.aload_n 1, 1) := by decide +kernel
theorem d_L_law_347 : decode b_L_law 347 = .ok (.aload_n 0, 1) := by decide +kernel
theorem d_L_law_348 : decode b_L_law 348 = .ok (.iload 4, 2) := by decide +kernel
theorem d_L_law_350 : decode b_L_law 350 = .ok (.iconst 1, 1) := by decide +kernel
theorem d_L_law_351 : decode b_L_law 351 = .ok (.iadd, 1) := by decide +kernel
theorem d_L_law_352 : decode b_L_law 352 = .ok (.iaload, 1) := by decide +kernel
theorem d_L_law_353 : decode b_L_law 353 = .ok (.aload_n 0, 1) := by decide +kernel
theorem d_L_law_354 : decode b_L_law 354 = .ok (.iload 4, 2) := by decide +kernel
theorem d_L_law_356 : decode b_L_law 356 = .ok (.iconst 2, 1) := by decide +kernel
theorem d_L_law_357 : decode b_L_law 357 = .ok (.iadd, 1) := by decide +kernel
theorem d_L_law_358 : decode b_L_law 358 = .ok (.iaload, 1) := by decide +kernel
theorem d_L_law_359 : decode b_L_law 359 = .ok (.aload_n 0, 1) := by decide +kernel
theorem d_L_law_360 : decode b_L_law 360 = .ok (.iload 4, 2) := by decide +kernel
theorem d_L_law_362 : decode b_L_law 362 = .ok (.iconst 3, 1) := by decide +kernel
theorem d_L_law_363 : decode b_L_law 363 = .ok (.iadd, 1) := by decide +kernel
theorem d_L_law_364 : decode b_L_law 364 = .ok (.iaload, 1) := by decide +kernel
theorem d_L_law_365 : decode b_L_law 365 = .ok (.aload_n 3, 1) := by decide +kernel
theorem d_L_law_366 : decode b_L_law 366 = .ok (.invokestatic 72, 3) := by decide +kernel
theorem d_L_law_369 : decode b_L_law 369 = .ok (.istore 5, 2) := by decide +kernel
theorem d_L_law_371 : decode b_L_law 371 = .ok (.aload_n 2, 1) := by decide +kernel
theorem d_L_law_372 : decode b_L_law 372 = .ok (.aload_n 0, 1) := by decide +kernel
theorem d_L_law_373 : decode b_L_law 373 = .ok (.iload 4, 2) := by decide +kernel
theorem d_L_law_375 : decode b_L_law 375 = .ok (.iconst 1, 1) := by decide +kernel
theorem d_L_law_376 : decode b_L_law 376 = .ok (.iadd, 1) := by decide +kernel
theorem d_L_law_377 : decode b_L_law 377 = .ok (.iaload, 1) := by decide +kernel
theorem d_L_law_378 : decode b_L_law 378 = .ok (.aload_n 0, 1) := by decide +kernel
theorem d_L_law_379 : decode b_L_law 379 = .ok (.iload 4, 2) := by decide +kernel
theorem d_L_law_381 : decode b_L_law 381 = .ok (.iconst 2, 1) := by decide +kernel
theorem d_L_law_382 : decode b_L_law 382 = .ok (.iadd, 1) := by decide +kernel
theorem d_L_law_383 : decode b_L_law 383 = .ok (.iaload, 1) := by decide +kernel
theorem d_L_law_384 : decode b_L_law 384 = .ok (.aload_n 0, 1) := by decide +kernel
theorem d_L_law_385 : decode b_L_law 385 = .ok (.iload 4, 2) := by decide +kernel
theorem d_L_law_387 : decode b_L_law 387 = .ok (.iconst 3, 1) := by decide +kernel
theorem d_L_law_388 : decode b_L_law 388 = .ok (.iadd, 1) := by decide +kernel
theorem d_L_law_389 : decode b_L_law 389 = .ok (.iaload, 1) := by decide +kernel
theorem d_L_law_390 : decode b_L_law 390 = .ok (.invokevirtual 74, 3) := by decide +kernel
theorem d_L_law_393 : decode b_L_law 393 = .ok (.istore 6, 2) := by decide +kernel
theorem d_L_law_395 : decode b_L_law 395 = .ok (.aload_n 2, 1) := by decide +kernel
theorem d_L_law_396 : decode b_L_law 396 = .ok (.invokevirtual 60, 3) := by decide +kernel
theorem d_L_law_399 : decode b_L_law 399 = .ok (.iload 5, 2) := by decide +kernel
theorem d_L_law_401 : decode b_L_law 401 = .ok (.if_icmp .eq 5, 3) := by decide +kernel
theorem d_L_law_404 : decode b_L_law 404 = .ok (.iconst 0, 1) := by decide +kernel
theorem d_L_law_405 : decode b_L_law 405 = .ok (.ireturn, 1) := by decide +kernel
theorem d_L_law_406 : decode b_L_law 406 = .ok (.iload 5, 2) := by decide +kernel
theorem d_L_law_408 : decode b_L_law 408 = .ok (.ifCond .ne 15, 3) := by decide +kernel
theorem d_L_law_411 : decode b_L_law 411 = .ok (.aload_n 3, 1) := by decide +kernel
theorem d_L_law_412 : decode b_L_law 412 = .ok (.iconst 0, 1) := by decide +kernel
theorem d_L_law_413 : decode b_L_law 413 = .ok (.laload, 1) := by decide +kernel
theorem d_L_law_414 : decode b_L_law 414 = .ok (.iload 6, 2) := by decide +kernel
theorem d_L_law_416 : decode b_L_law 416 = .ok (.i2l, 1) := by decide +kernel
theorem d_L_law_417 : decode b_L_law 417 = .ok (.lcmp, 1) := by decide +kernel
theorem d_L_law_418 : decode b_L_law 418 = .ok (.ifCond .eq 5, 3) := by decide +kernel
theorem d_L_law_421 : decode b_L_law 421 = .ok (.iconst 0, 1) := by decide +kernel
theorem d_L_law_422 : decode b_L_law 422 = .ok (.ireturn, 1) := by decide +kernel
theorem d_L_law_423 : decode b_L_law 423 = .ok (.goto 356, 3) := by decide +kernel
theorem d_L_law_426 : decode b_L_law 426 = .ok (.aload_n 1, 1) := by decide +kernel
theorem d_L_law_427 : decode b_L_law 427 = .ok (.aload_n 0, 1) := by decide +kernel
theorem d_L_law_428 : decode b_L_law 428 = .ok (.iload 4, 2) := by decide +kernel
theorem d_L_law_430 : decode b_L_law 430 = .ok (.iconst 1, 1) := by decide +kernel
theorem d_L_law_431 : decode b_L_law 431 = .ok (.iadd, 1) := by decide +kernel
theorem d_L_law_432 : decode b_L_law 432 = .ok (.iaload, 1) := by decide +kernel
theorem d_L_law_433 : decode b_L_law 433 = .ok (.aload_n 0, 1) := by decide +kernel
theorem d_L_law_434 : decode b_L_law 434 = .ok (.iload 4, 2) := by decide +kernel
theorem d_L_law_436 : decode b_L_law 436 = .ok (.iconst 2, 1) := by decide +kernel
theorem d_L_law_437 : decode b_L_law 437 = .ok (.iadd, 1) := by decide +kernel
theorem d_L_law_438 : decode b_L_law 438 = .ok (.iaload, 1) := by decide +kernel
theorem d_L_law_439 : decode b_L_law 439 = .ok (.aload_n 3, 1) := by decide +kernel
theorem d_L_law_440 : decode b_L_law 440 = .ok (.invokestatic 75, 3) := by decide +kernel
theorem d_L_law_443 : decode b_L_law 443 = .ok (.istore 5, 2) := by decide +kernel
theorem d_L_law_445 : decode b_L_law 445 = .ok (.aload_n 2, 1) := by decide +kernel
theorem d_L_law_446 : decode b_L_law 446 = .ok (.aload_n 0, 1) := by decide +kernel
theorem d_L_law_447 : decode b_L_law 447 = .ok (.iload 4, 2) := by decide +kernel
theorem d_L_law_449 : decode b_L_law 449 = .ok (.iconst 1, 1) := by decide +kernel
theorem d_L_law_450 : decode b_L_law 450 = .ok (.iadd, 1) := by decide +kernel
theorem d_L_law_451 : decode b_L_law 451 = .ok (.iaload, 1) := by decide +kernel
theorem d_L_law_452 : decode b_L_law 452 = .ok (.aload_n 0, 1) := by decide +kernel
theorem d_L_law_453 : decode b_L_law 453 = .ok (.iload 4, 2) := by decide +kernel
theorem d_L_law_455 : decode b_L_law 455 = .ok (.iconst 2, 1) := by decide +kernel
theorem d_L_law_456 : decode b_L_law 456 = .ok (.iadd, 1) := by decide +kernel
theorem d_L_law_457 : decode b_L_law 457 = .ok (.iaload, 1) := by decide +kernel
theorem d_L_law_458 : decode b_L_law 458 = .ok (.invokevirtual 77, 3) := by decide +kernel
theorem d_L_law_461 : decode b_L_law 461 = .ok (.istore 6, 2) := by decide +kernel
theorem d_L_law_463 : decode b_L_law 463 = .ok (.aload_n 2, 1) := by decide +kernel
theorem d_L_law_464 : decode b_L_law 464 = .ok (.invokevirtual 60, 3) := by decide +kernel
theorem d_L_law_467 : decode b_L_law 467 = .ok (.iload 5, 2) := by decide +kernel
theorem d_L_law_469 : decode b_L_law 469 = .ok (.if_icmp .eq 5, 3) := by decide +kernel
theorem d_L_law_472 : decode b_L_law 472 = .ok (.iconst 0, 1) := by decide +kernel
theorem d_L_law_473 : decode b_L_law 473 = .ok (.ireturn, 1) := by decide +kernel
theorem d_L_law_474 : decode b_L_law 474 = .ok (.iload 5, 2) := by decide +kernel
theorem d_L_law_476 : decode b_L_law 476 = .ok (.ifCond .ne 15, 3) := by decide +kernel
theorem d_L_law_479 : decode b_L_law 479 = .ok (.aload_n 3, 1) := by decide +kernel
theorem d_L_law_480 : decode b_L_law 480 = .ok (.iconst 0, 1) := by decide +kernel
theorem d_L_law_481 : decode b_L_law 481 = .ok (.laload, 1) := by decide +kernel
theorem d_L_law_482 : decode b_L_law 482 = .ok (.iload 6, 2) := by decide +kernel
theorem d_L_law_484 : decode b_L_law 484 = .ok (.i2l, 1) := by decide +kernel
theorem d_L_law_485 : decode b_L_law 485 = .ok (.lcmp, 1) := by decide +kernel
theorem d_L_law_486 : decode b_L_law 486 = .ok (.ifCond .eq 5, 3) := by decide +kernel
theorem d_L_law_489 : decode b_L_law 489 = .ok (.iconst 0, 1) := by decide +kernel
theorem d_L_law_490 : decode b_L_law 490 = .ok (.ireturn, 1) := by decide +kernel
theorem d_L_law_491 : decode b_L_law 491 = .ok (.goto 288, 3) := by decide +kernel
theorem d_L_law_494 : decode b_L_law 494 = .ok (.aload_n 1, 1) := by decide +kernel
theorem d_L_law_495 : decode b_L_law 495 = .ok (.aload_n 0, 1) := by decide +kernel
theorem d_L_law_496 : decode b_L_law 496 = .ok (.iload 4, 2) := by decide +kernel
theorem d_L_law_498 : decode b_L_law 498 = .ok (.iconst 1, 1) := by decide +kernel
theorem d_L_law_499 : decode b_L_law 499 = .ok (.iadd, 1) := by decide +kernel
theorem d_L_law_500 : decode b_L_law 500 = .ok (.iaload, 1) := by decide +kernel
theorem d_L_law_501 : decode b_L_law 501 = .ok (.aload_n 3, 1) := by decide +kernel
theorem d_L_law_502 : decode b_L_law 502 = .ok (.invokestatic 78, 3) := by decide +kernel
theorem d_L_law_505 : decode b_L_law 505 = .ok (.istore 5, 2) := by decide +kernel
theorem d_L_law_507 : decode b_L_law 507 = .ok (.aload_n 2, 1) := by decide +kernel
theorem d_L_law_508 : decode b_L_law 508 = .ok (.aload_n 0, 1) := by decide +kernel
theorem d_L_law_509 : decode b_L_law 509 = .ok (.iload 4, 2) := by decide +kernel
theorem d_L_law_511 : decode b_L_law 511 = .ok (.iconst 1, 1) := by decide +kernel
theorem d_L_law_512 : decode b_L_law 512 = .ok (.iadd, 1) := by decide +kernel
theorem d_L_law_513 : decode b_L_law 513 = .ok (.iaload, 1) := by decide +kernel
theorem d_L_law_514 : decode b_L_law 514 = .ok (.invokevirtual 81, 3) := by decide +kernel
theorem d_L_law_517 : decode b_L_law 517 = .ok (.istore 6, 2) := by decide +kernel
theorem d_L_law_519 : decode b_L_law 519 = .ok (.aload_n 2, 1) := by decide +kernel
theorem d_L_law_520 : decode b_L_law 520 = .ok (.invokevirtual 60, 3) := by decide +kernel
theorem d_L_law_523 : decode b_L_law 523 = .ok (.iload 5, 2) := by decide +kernel
theorem d_L_law_525 : decode b_L_law 525 = .ok (.if_icmp .eq 5, 3) := by decide +kernel
theorem d_L_law_528 : decode b_L_law 528 = .ok (.iconst 0, 1) := by decide +kernel
theorem d_L_law_529 : decode b_L_law 529 = .ok (.ireturn, 1) := by decide +kernel
theorem d_L_law_530 : decode b_L_law 530 = .ok (.iload 5, 2) := by decide +kernel
theorem d_L_law_532 : decode b_L_law 532 = .ok (.ifCond .ne 15, 3) := by decide +kernel
theorem d_L_law_535 : decode b_L_law 535 = .ok (.aload_n 3, 1) := by decide +kernel
theorem d_L_law_536 : decode b_L_law 536 = .ok (.iconst 0, 1) := by decide +kernel
theorem d_L_law_537 : decode b_L_law 537 = .ok (.laload, 1) := by decide +kernel
theorem d_L_law_538 : decode b_L_law 538 = .ok (.iload 6, 2) := by decide +kernel
theorem d_L_law_540 : decode b_L_law 540 = .ok (.i2l, 1) := by decide +kernel
theorem d_L_law_541 : decode b_L_law 541 = .ok (.lcmp, 1) := by decide +kernel
theorem d_L_law_542 : decode b_L_law 542 = .ok (.ifCond .eq 5, 3) := by decide +kernel
theorem d_L_law_545 : decode b_L_law 545 = .ok (.iconst 0, 1) := by decide +kernel
theorem d_L_law_546 : decode b_L_law 546 = .ok (.ireturn, 1) := by decide +kernel
theorem d_L_law_547 : decode b_L_law 547 = .ok (.goto 232, 3) := by decide +kernel
theorem d_L_law_550 : decode b_L_law 550 = .ok (.aload_n 1, 1) := by decide +kernel
theorem d_L_law_551 : decode b_L_law 551 = .ok (.invokevirtual 82, 3) := by decide +kernel
theorem d_L_law_554 : decode b_L_law 554 = .ok (.aload_n 2, 1) := by decide +kernel
theorem d_L_law_555 : decode b_L_law 555 = .ok (.invokevirtual 85, 3) := by decide +kernel
theorem d_L_law_558 : decode b_L_law 558 = .ok (.if_icmp .eq 221, 3) := by decide +kernel
theorem d_L_law_561 : decode b_L_law 561 = .ok (.iconst 0, 1) := by decide +kernel
theorem d_L_law_562 : decode b_L_law 562 = .ok (.ireturn, 1) := by decide +kernel
theorem d_L_law_563 : decode b_L_law 563 = .ok (.aload_n 1, 1) := by decide +kernel
theorem d_L_law_564 : decode b_L_law 564 = .ok (.aload_n 0, 1) := by decide +kernel
theorem d_L_law_565 : decode b_L_law 565 = .ok (.iload 4, 2) := by decide +kernel
theorem d_L_law_567 : decode b_L_law 567 = .ok (.iconst 1, 1) := by decide +kernel
theorem d_L_law_568 : decode b_L_law 568 = .ok (.iadd, 1) := by decide +kernel
theorem d_L_law_569 : decode b_L_law 569 = .ok (.iaload, 1) := by decide +kernel
theorem d_L_law_570 : decode b_L_law 570 = .ok (.aload_n 0, 1) := by decide +kernel
theorem d_L_law_571 : decode b_L_law 571 = .ok (.iload 4, 2) := by decide +kernel
theorem d_L_law_573 : decode b_L_law 573 = .ok (.iconst 2, 1) := by decide +kernel
theorem d_L_law_574 : decode b_L_law 574 = .ok (.iadd, 1) := by decide +kernel
theorem d_L_law_575 : decode b_L_law 575 = .ok (.iaload, 1) := by decide +kernel
theorem d_L_law_576 : decode b_L_law 576 = .ok (.aload_n 3, 1) := by decide +kernel
theorem d_L_law_577 : decode b_L_law 577 = .ok (.invokestatic 86, 3) := by decide +kernel
theorem d_L_law_580 : decode b_L_law 580 = .ok (.istore 5, 2) := by decide +kernel
theorem d_L_law_582 : decode b_L_law 582 = .ok (.aload_n 2, 1) := by decide +kernel
theorem d_L_law_583 : decode b_L_law 583 = .ok (.aload_n 0, 1) := by decide +kernel
theorem d_L_law_584 : decode b_L_law 584 = .ok (.iload 4, 2) := by decide +kernel
theorem d_L_law_586 : decode b_L_law 586 = .ok (.iconst 1, 1) := by decide +kernel
theorem d_L_law_587 : decode b_L_law 587 = .ok (.iadd, 1) := by decide +kernel
theorem d_L_law_588 : decode b_L_law 588 = .ok (.iaload, 1) := by decide +kernel
theorem d_L_law_589 : decode b_L_law 589 = .ok (.aload_n 0, 1) := by decide +kernel
theorem d_L_law_590 : decode b_L_law 590 = .ok (.iload 4, 2) := by decide +kernel
theorem d_L_law_592 : decode b_L_law 592 = .ok (.iconst 2, 1) := by decide +kernel
theorem d_L_law_593 : decode b_L_law 593 = .ok (.iadd, 1) := by decide +kernel
theorem d_L_law_594 : decode b_L_law 594 = .ok (.iaload, 1) := by decide +kernel
theorem d_L_law_595 : decode b_L_law 595 = .ok (.invokevirtual 88, 3) := by decide +kernel
theorem d_L_law_598 : decode b_L_law 598 = .ok (.istore 6, 2) := by decide +kernel
theorem d_L_law_600 : decode b_L_law 600 = .ok (.aload_n 2, 1) := by decide +kernel
theorem d_L_law_601 : decode b_L_law 601 = .ok (.invokevirtual 60, 3) := by decide +kernel
theorem d_L_law_604 : decode b_L_law 604 = .ok (.iload 5, 2) := by decide +kernel
theorem d_L_law_606 : decode b_L_law 606 = .ok (.if_icmp .eq 5, 3) := by decide +kernel
theorem d_L_law_609 : decode b_L_law 609 = .ok (.iconst 0, 1) := by decide +kernel
theorem d_L_law_610 : decode b_L_law 610 = .ok (.ireturn, 1) := by decide +kernel
theorem d_L_law_611 : decode b_L_law 611 = .ok (.iload 5, 2) := by decide +kernel
theorem d_L_law_613 : decode b_L_law 613 = .ok (.ifCond .ne 15, 3) := by decide +kernel
theorem d_L_law_616 : decode b_L_law 616 = .ok (.aload_n 3, 1) := by decide +kernel
theorem d_L_law_617 : decode b_L_law 617 = .ok (.iconst 0, 1) := by decide +kernel
theorem d_L_law_618 : decode b_L_law 618 = .ok (.laload, 1) := by decide +kernel
theorem d_L_law_619 : decode b_L_law 619 = .ok (.iload 6, 2) := by decide +kernel
theorem d_L_law_621 : decode b_L_law 621 = .ok (.i2l, 1) := by decide +kernel
theorem d_L_law_622 : decode b_L_law 622 = .ok (.lcmp, 1) := by decide +kernel
theorem d_L_law_623 : decode b_L_law 623 = .ok (.ifCond .eq 5, 3) := by decide +kernel
theorem d_L_law_626 : decode b_L_law 626 = .ok (.iconst 0, 1) := by decide +kernel
theorem d_L_law_627 : decode b_L_law 627 = .ok (.ireturn, 1) := by decide +kernel
theorem d_L_law_628 : decode b_L_law 628 = .ok (.goto 151, 3) := by decide +kernel
theorem d_L_law_631 : decode b_L_law 631 = .ok (.aload_n 1, 1) := by decide +kernel
theorem d_L_law_632 : decode b_L_law 632 = .ok (.aload_n 0, 1) := by decide +kernel
theorem d_L_law_633 : decode b_L_law 633 = .ok (.iload 4, 2) := by decide +kernel
theorem d_L_law_635 : decode b_L_law 635 = .ok (.iconst 1, 1) := by decide +kernel
theorem d_L_law_636 : decode b_L_law 636 = .ok (.iadd, 1) := by decide +kernel
theorem d_L_law_637 : decode b_L_law 637 = .ok (.iaload, 1) := by decide +kernel
theorem d_L_law_638 : decode b_L_law 638 = .ok (.aload_n 0, 1) := by decide +kernel
theorem d_L_law_639 : decode b_L_law 639 = .ok (.iload 4, 2) := by decide +kernel
theorem d_L_law_641 : decode b_L_law 641 = .ok (.iconst 2, 1) := by decide +kernel
theorem d_L_law_642 : decode b_L_law 642 = .ok (.iadd, 1) := by decide +kernel
theorem d_L_law_643 : decode b_L_law 643 = .ok (.iaload, 1) := by decide +kernel
theorem d_L_law_644 : decode b_L_law 644 = .ok (.aload_n 0, 1) := by decide +kernel
theorem d_L_law_645 : decode b_L_law 645 = .ok (.iload 4, 2) := by decide +kernel
theorem d_L_law_647 : decode b_L_law 647 = .ok (.iconst 3, 1) := by decide +kernel
theorem d_L_law_648 : decode b_L_law 648 = .ok (.iadd, 1) := by decide +kernel
theorem d_L_law_649 : decode b_L_law 649 = .ok (.iaload, 1) := by decide +kernel
theorem d_L_law_650 : decode b_L_law 650 = .ok (.aload_n 3, 1) := by decide +kernel
theorem d_L_law_651 : decode b_L_law 651 = .ok (.invokestatic 89, 3) := by decide +kernel
theorem d_L_law_654 : decode b_L_law 654 = .ok (.istore 5, 2) := by decide +kernel
theorem d_L_law_656 : decode b_L_law 656 = .ok (.aload_n 2, 1) := by decide +kernel
theorem d_L_law_657 : decode b_L_law 657 = .ok (.aload_n 0, 1) := by decide +kernel
theorem d_L_law_658 : decode b_L_law 658 = .ok (.iload 4, 2) := by decide +kernel
theorem d_L_law_660 : decode b_L_law 660 = .ok (.iconst 1, 1) := by decide +kernel
theorem d_L_law_661 : decode b_L_law 661 = .ok (.iadd, 1) := by decide +kernel
theorem d_L_law_662 : decode b_L_law 662 = .ok (.iaload, 1) := by decide +kernel
theorem d_L_law_663 : decode b_L_law 663 = .ok (.aload_n 0, 1) := by decide +kernel
theorem d_L_law_664 : decode b_L_law 664 = .ok (.iload 4, 2) := by decide +kernel
theorem d_L_law_666 : decode b_L_law 666 = .ok (.iconst 2, 1) := by decide +kernel
theorem d_L_law_667 : decode b_L_law 667 = .ok (.iadd, 1) := by decide +kernel
theorem d_L_law_668 : decode b_L_law 668 = .ok (.iaload, 1) := by decide +kernel
theorem d_L_law_669 : decode b_L_law 669 = .ok (.aload_n 0, 1) := by decide +kernel
theorem d_L_law_670 : decode b_L_law 670 = .ok (.iload 4, 2) := by decide +kernel
theorem d_L_law_672 : decode b_L_law 672 = .ok (.iconst 3, 1) := by decide +kernel
theorem d_L_law_673 : decode b_L_law 673 = .ok (.iadd, 1) := by decide +kernel
theorem d_L_law_674 : decode b_L_law 674 = .ok (.iaload, 1) := by decide +kernel
theorem d_L_law_675 : decode b_L_law 675 = .ok (.invokevirtual 91, 3) := by decide +kernel
theorem d_L_law_678 : decode b_L_law 678 = .ok (.istore 6, 2) := by decide +kernel
theorem d_L_law_680 : decode b_L_law 680 = .ok (.aload_n 2, 1) := by decide +kernel
theorem d_L_law_681 : decode b_L_law 681 = .ok (.invokevirtual 60, 3) := by decide +kernel
theorem d_L_law_684 : decode b_L_law 684 = .ok (.iload 5, 2) := by decide +kernel
theorem d_L_law_686 : decode b_L_law 686 = .ok (.if_icmp .eq 5, 3) := by decide +kernel
theorem d_L_law_689 : decode b_L_law 689 = .ok (.iconst 0, 1) := by decide +kernel
theorem d_L_law_690 : decode b_L_law 690 = .ok (.ireturn, 1) := by decide +kernel
theorem d_L_law_691 : decode b_L_law 691 = .ok (.iload 5, 2) := by decide +kernel
theorem d_L_law_693 : decode b_L_law 693 = .ok (.ifCond .ne 15, 3) := by decide +kernel
theorem d_L_law_696 : decode b_L_law 696 = .ok (.aload_n 3, 1) := by decide +kernel
theorem d_L_law_697 : decode b_L_law 697 = .ok (.iconst 0, 1) := by decide +kernel
theorem d_L_law_698 : decode b_L_law 698 = .ok (.laload, 1) := by decide +kernel
theorem d_L_law_699 : decode b_L_law 699 = .ok (.iload 6, 2) := by decide +kernel
theorem d_L_law_701 : decode b_L_law 701 = .ok (.i2l, 1) := by decide +kernel
theorem d_L_law_702 : decode b_L_law 702 = .ok (.lcmp, 1) := by decide +kernel
theorem d_L_law_703 : decode b_L_law 703 = .ok (.ifCond .eq 5, 3) := by decide +kernel
theorem d_L_law_706 : decode b_L_law 706 = .ok (.iconst 0, 1) := by decide +kernel
theorem d_L_law_707 : decode b_L_law 707 = .ok (.ireturn, 1) := by decide +kernel
theorem d_L_law_708 : decode b_L_law 708 = .ok (.goto 71, 3) := by decide +kernel
theorem d_L_law_711 : decode b_L_law 711 = .ok (.aload_n 1, 1) := by decide +kernel
theorem d_L_law_712 : decode b_L_law 712 = .ok (.aload_n 0, 1) := by decide +kernel
theorem d_L_law_713 : decode b_L_law 713 = .ok (.iload 4, 2) := by decide +kernel
theorem d_L_law_715 : decode b_L_law 715 = .ok (.iconst 1, 1) := by decide +kernel
theorem d_L_law_716 : decode b_L_law 716 = .ok (.iadd, 1) := by decide +kernel
theorem d_L_law_717 : decode b_L_law 717 = .ok (.iaload, 1) := by decide +kernel
theorem d_L_law_718 : decode b_L_law 718 = .ok (.aload_n 0, 1) := by decide +kernel
theorem d_L_law_719 : decode b_L_law 719 = .ok (.iload 4, 2) := by decide +kernel
theorem d_L_law_721 : decode b_L_law 721 = .ok (.iconst 2, 1) := by decide +kernel
theorem d_L_law_722 : decode b_L_law 722 = .ok (.iadd, 1) := by decide +kernel
theorem d_L_law_723 : decode b_L_law 723 = .ok (.iaload, 1) := by decide +kernel
theorem d_L_law_724 : decode b_L_law 724 = .ok (.aload_n 3, 1) := by decide +kernel
theorem d_L_law_725 : decode b_L_law 725 = .ok (.invokestatic 92, 3) := by decide +kernel
theorem d_L_law_728 : decode b_L_law 728 = .ok (.istore 5, 2) := by decide +kernel
theorem d_L_law_730 : decode b_L_law 730 = .ok (.aload_n 2, 1) := by decide +kernel
theorem d_L_law_731 : decode b_L_law 731 = .ok (.aload_n 0, 1) := by decide +kernel
theorem d_L_law_732 : decode b_L_law 732 = .ok (.iload 4, 2) := by decide +kernel
theorem d_L_law_734 : decode b_L_law 734 = .ok (.iconst 1, 1) := by decide +kernel
theorem d_L_law_735 : decode b_L_law 735 = .ok (.iadd, 1) := by decide +kernel
theorem d_L_law_736 : decode b_L_law 736 = .ok (.iaload, 1) := by decide +kernel
theorem d_L_law_737 : decode b_L_law 737 = .ok (.aload_n 0, 1) := by decide +kernel
theorem d_L_law_738 : decode b_L_law 738 = .ok (.iload 4, 2) := by decide +kernel
theorem d_L_law_740 : decode b_L_law 740 = .ok (.iconst 2, 1) := by decide +kernel
theorem d_L_law_741 : decode b_L_law 741 = .ok (.iadd, 1) := by decide +kernel
theorem d_L_law_742 : decode b_L_law 742 = .ok (.iaload, 1) := by decide +kernel
theorem d_L_law_743 : decode b_L_law 743 = .ok (.invokevirtual 94, 3) := by decide +kernel
theorem d_L_law_746 : decode b_L_law 746 = .ok (.istore 6, 2) := by decide +kernel
theorem d_L_law_748 : decode b_L_law 748 = .ok (.aload_n 2, 1) := by decide +kernel
theorem d_L_law_749 : decode b_L_law 749 = .ok (.invokevirtual 60, 3) := by decide +kernel
theorem d_L_law_752 : decode b_L_law 752 = .ok (.iload 5, 2) := by decide +kernel
theorem d_L_law_754 : decode b_L_law 754 = .ok (.if_icmp .eq 5, 3) := by decide +kernel
theorem d_L_law_757 : decode b_L_law 757 = .ok (.iconst 0, 1) := by decide +kernel
theorem d_L_law_758 : decode b_L_law 758 = .ok (.ireturn, 1) := by decide +kernel
theorem d_L_law_759 : decode b_L_law 759 = .ok (.iload 5, 2) := by decide +kernel
theorem d_L_law_761 : decode b_L_law 761 = .ok (.ifCond .ne 15, 3) := by decide +kernel
theorem d_L_law_764 : decode b_L_law 764 = .ok (.aload_n 3, 1) := by decide +kernel
theorem d_L_law_765 : decode b_L_law 765 = .ok (.iconst 0, 1) := by decide +kernel
theorem d_L_law_766 : decode b_L_law 766 = .ok (.laload, 1) := by decide +kernel
theorem d_L_law_767 : decode b_L_law 767 = .ok (.iload 6, 2) := by decide +kernel
theorem d_L_law_769 : decode b_L_law 769 = .ok (.i2l, 1) := by decide +kernel
theorem d_L_law_770 : decode b_L_law 770 = .ok (.lcmp, 1) := by decide +kernel
theorem d_L_law_771 : decode b_L_law 771 = .ok (.ifCond .eq 5, 3) := by decide +kernel
theorem d_L_law_774 : decode b_L_law 774 = .ok (.iconst 0, 1) := by decide +kernel
theorem d_L_law_775 : decode b_L_law 775 = .ok (.ireturn, 1) := by decide +kernel
theorem d_L_law_776 : decode b_L_law 776 = .ok (.goto 3, 3) := by decide +kernel
theorem d_L_law_779 : decode b_L_law 779 = .ok (.iinc 4 4, 3) := by decide +kernel
theorem d_L_law_782 : decode b_L_law 782 = .ok (.goto (-759), 3) := by decide +kernel
theorem d_L_law_785 : decode b_L_law 785 = .ok (.iconst 1, 1) := by decide +kernel
theorem d_L_law_786 : decode b_L_law 786 = .ok (.ireturn, 1) := by decide +kernel
