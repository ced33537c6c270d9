/-! The law: its instructions. Written by wip/gen/s_law.py. -/
theorem d_L_law_0 : decode code 0 = .ok (.new 8, 3) := by decide +kernel
theorem d_L_law_3 : decode code 3 = .ok (.dup, 1) := by decide +kernel
theorem d_L_law_4 : decode code 4 = .ok (.invokespecial 51, 3) := by decide +kernel
theorem d_L_law_7 : decode code 7 = .ok (.astore_n 1, 1) := by decide +kernel
theorem d_L_law_8 : decode code 8 = .ok (.new 52, 3) := by decide +kernel
theorem d_L_law_11 : decode code 11 = .ok (.dup, 1) := by decide +kernel
theorem d_L_law_12 : decode code 12 = .ok (.invokespecial 54, 3) := by decide +kernel
theorem d_L_law_15 : decode code 15 = .ok (.astore_n 2, 1) := by decide +kernel
theorem d_L_law_16 : decode code 16 = .ok (.iconst 1, 1) := by decide +kernel
theorem d_L_law_17 : decode code 17 = .ok (.newarray .long, 2) := by decide +kernel
theorem d_L_law_19 : decode code 19 = .ok (.astore_n 3, 1) := by decide +kernel
theorem d_L_law_20 : decode code 20 = .ok (.iconst 0, 1) := by decide +kernel
theorem d_L_law_21 : decode code 21 = .ok (.istore 4, 2) := by decide +kernel
theorem d_L_law_23 : decode code 23 = .ok (.iload 4, 2) := by decide +kernel
theorem d_L_law_25 : decode code 25 = .ok (.aload_n 0, 1) := by decide +kernel
theorem d_L_law_26 : decode code 26 = .ok (.arraylength, 1) := by decide +kernel
theorem d_L_law_27 : decode code 27 = .ok (.iconst 4, 1) := by decide +kernel
theorem d_L_law_28 : decode code 28 = .ok (.isub, 1) := by decide +kernel
theorem d_L_law_29 : decode code 29 = .ok (.if_icmp .gt 719, 3) := by decide +kernel
theorem d_L_law_32 : decode code 32 = .ok (.aload_n 0, 1) := by decide +kernel
theorem d_L_law_33 : decode code 33 = .ok (.iload 4, 2) := by decide +kernel
theorem d_L_law_35 : decode code 35 = .ok (.iaload, 1) := by decide +kernel
theorem d_L_law_36 : decode code 36 = .ok (.bipush 15, 2) := by decide +kernel
theorem d_L_law_38 : decode code 38 = .ok (.iand, 1) := by decide +kernel
theorem d_L_law_39 : decode code 39 = .ok (.tableswitch 703 0 12 #[65, 177, 257, 293, 306, 362, 418, 466, 502, 515, 578, 634, 690], 65) := by decide +kernel
theorem d_L_law_104 : decode code 104 = .ok (.aload_n 1, 1) := by decide +kernel
theorem d_L_law_105 : decode code 105 = .ok (.aload_n 0, 1) := by decide +kernel
theorem d_L_law_106 : decode code 106 = .ok (.iload 4, 2) := by decide +kernel
theorem d_L_law_108 : decode code 108 = .ok (.iconst 1, 1) := by decide +kernel
theorem d_L_law_109 : decode code 109 = .ok (.iadd, 1) := by decide +kernel
theorem d_L_law_110 : decode code 110 = .ok (.iaload, 1) := by decide +kernel
theorem d_L_law_111 : decode code 111 = .ok (.ifCond .eq 7, 3) := by decide +kernel
theorem d_L_law_114 : decode code 114 = .ok (.iconst 1, 1) := by decide +kernel
theorem d_L_law_115 : decode code 115 = .ok (.goto 4, 3) := by decide +kernel
theorem d_L_law_118 : decode code 118 = .ok (.iconst 0, 1) := by decide +kernel
theorem d_L_law_119 : decode code 119 = .ok (.aload_n 0, 1) := by decide +kernel
theorem d_L_law_120 : decode code 120 = .ok (.iload 4, 2) := by decide +kernel
theorem d_L_law_122 : decode code 122 = .ok (.iconst 2, 1) := by decide +kernel
theorem d_L_law_123 : decode code 123 = .ok (.iadd, 1) := by decide +kernel
theorem d_L_law_124 : decode code 124 = .ok (.iaload, 1) := by decide +kernel
theorem d_L_law_125 : decode code 125 = .ok (.aload_n 0, 1) := by decide +kernel
theorem d_L_law_126 : decode code 126 = .ok (.iload 4, 2) := by decide +kernel
theorem d_L_law_128 : decode code 128 = .ok (.iconst 3, 1) := by decide +kernel
theorem d_L_law_129 : decode code 129 = .ok (.iadd, 1) := by decide +kernel
theorem d_L_law_130 : decode code 130 = .ok (.iaload, 1) := by decide +kernel
theorem d_L_law_131 : decode code 131 = .ok (.ifCond .eq 7, 3) := by decide +kernel
theorem d_L_law_134 : decode code 134 = .ok (.iconst 1, 1) := by decide +kernel
theorem d_L_law_135 : decode code 135 = .ok (.goto 4, 3) := by decide +kernel
theorem d_L_law_138 : decode code 138 = .ok (.iconst 0, 1) := by decide +kernel
theorem d_L_law_139 : decode code 139 = .ok (.aload_n 3, 1) := by decide +kernel
theorem d_L_law_140 : decode code 140 = .ok (.invokestatic 55, 3) := by decide +kernel
theorem d_L_law_143 : decode code 143 = .ok (.istore 5, 2) := by decide +kernel
theorem d_L_law_145 : decode code 145 = .ok (.aload_n 2, 1) := by decide +kernel
theorem d_L_law_146 : decode code 146 = .ok (.aload_n 0, 1) := by decide +kernel
theorem d_L_law_147 : decode code 147 = .ok (.iload 4, 2) := by decide +kernel
theorem d_L_law_149 : decode code 149 = .ok (.iconst 1, 1) := by decide +kernel
theorem d_L_law_150 : decode code 150 = .ok (.iadd, 1) := by decide +kernel
theorem d_L_law_151 : decode code 151 = .ok (.iaload, 1) := by decide +kernel
theorem d_L_law_152 : decode code 152 = .ok (.ifCond .eq 7, 3) := by decide +kernel
theorem d_L_law_155 : decode code 155 = .ok (.iconst 1, 1) := by decide +kernel
theorem d_L_law_156 : decode code 156 = .ok (.goto 4, 3) := by decide +kernel
theorem d_L_law_159 : decode code 159 = .ok (.iconst 0, 1) := by decide +kernel
theorem d_L_law_160 : decode code 160 = .ok (.aload_n 0, 1) := by decide +kernel
theorem d_L_law_161 : decode code 161 = .ok (.iload 4, 2) := by decide +kernel
theorem d_L_law_163 : decode code 163 = .ok (.iconst 2, 1) := by decide +kernel
theorem d_L_law_164 : decode code 164 = .ok (.iadd, 1) := by decide +kernel
theorem d_L_law_165 : decode code 165 = .ok (.iaload, 1) := by decide +kernel
theorem d_L_law_166 : decode code 166 = .ok (.aload_n 0, 1) := by decide +kernel
theorem d_L_law_167 : decode code 167 = .ok (.iload 4, 2) := by decide +kernel
theorem d_L_law_169 : decode code 169 = .ok (.iconst 3, 1) := by decide +kernel
theorem d_L_law_170 : decode code 170 = .ok (.iadd, 1) := by decide +kernel
theorem d_L_law_171 : decode code 171 = .ok (.iaload, 1) := by decide +kernel
theorem d_L_law_172 : decode code 172 = .ok (.ifCond .eq 7, 3) := by decide +kernel
theorem d_L_law_175 : decode code 175 = .ok (.iconst 1, 1) := by decide +kernel
theorem d_L_law_176 : decode code 176 = .ok (.goto 4, 3) := by decide +kernel
theorem d_L_law_179 : decode code 179 = .ok (.iconst 0, 1) := by decide +kernel
theorem d_L_law_180 : decode code 180 = .ok (.invokevirtual 60, 3) := by decide +kernel
theorem d_L_law_183 : decode code 183 = .ok (.istore 6, 2) := by decide +kernel
theorem d_L_law_185 : decode code 185 = .ok (.aload_n 2, 1) := by decide +kernel
theorem d_L_law_186 : decode code 186 = .ok (.invokevirtual 61, 3) := by decide +kernel
theorem d_L_law_189 : decode code 189 = .ok (.iload 5, 2) := by decide +kernel
theorem d_L_law_191 : decode code 191 = .ok (.if_icmp .eq 5, 3) := by decide +kernel
theorem d_L_law_194 : decode code 194 = .ok (.iconst 0, 1) := by decide +kernel
theorem d_L_law_195 : decode code 195 = .ok (.ireturn, 1) := by decide +kernel
theorem d_L_law_196 : decode code 196 = .ok (.iload 5, 2) := by decide +kernel
theorem d_L_law_198 : decode code 198 = .ok (.ifCond .ne 15, 3) := by decide +kernel
theorem d_L_law_201 : decode code 201 = .ok (.aload_n 3, 1) := by decide +kernel
theorem d_L_law_202 : decode code 202 = .ok (.iconst 0, 1) := by decide +kernel
theorem d_L_law_203 : decode code 203 = .ok (.laload, 1) := by decide +kernel
theorem d_L_law_204 : decode code 204 = .ok (.iload 6, 2) := by decide +kernel
theorem d_L_law_206 : decode code 206 = .ok (.i2l, 1) := by decide +kernel
theorem d_L_law_207 : decode code 207 = .ok (.lcmp, 1) := by decide +kernel
theorem d_L_law_208 : decode code 208 = .ok (.ifCond .eq 5, 3) := by decide +kernel
theorem d_L_law_211 : decode code 211 = .ok (.iconst 0, 1) := by decide +kernel
theorem d_L_law_212 : decode code 212 = .ok (.ireturn, 1) := by decide +kernel
theorem d_L_law_213 : decode code 213 = .ok (.goto 529, 3) := by decide +kernel
theorem d_L_law_216 : decode code 216 = .ok (.aload_n 1, 1) := by decide +kernel
theorem d_L_law_217 : decode code 217 = .ok (.aload_n 0, 1) := by decide +kernel
theorem d_L_law_218 : decode code 218 = .ok (.iload 4, 2) := by decide +kernel
theorem d_L_law_220 : decode code 220 = .ok (.iconst 1, 1) := by decide +kernel
theorem d_L_law_221 : decode code 221 = .ok (.iadd, 1) := by decide +kernel
theorem d_L_law_222 : decode code 222 = .ok (.iaload, 1) := by decide +kernel
theorem d_L_law_223 : decode code 223 = .ok (.i2l, 1) := by decide +kernel
theorem d_L_law_224 : decode code 224 = .ok (.bipush 32, 2) := by decide +kernel
theorem d_L_law_226 : decode code 226 = .ok (.lshl, 1) := by decide +kernel
theorem d_L_law_227 : decode code 227 = .ok (.aload_n 0, 1) := by decide +kernel
theorem d_L_law_228 : decode code 228 = .ok (.iload 4, 2) := by decide +kernel
theorem d_L_law_230 : decode code 230 = .ok (.iconst 2, 1) := by decide +kernel
theorem d_L_law_231 : decode code 231 = .ok (.iadd, 1) := by decide +kernel
theorem d_L_law_232 : decode code 232 = .ok (.iaload, 1) := by decide +kernel
theorem d_L_law_233 : decode code 233 = .ok (.i2l, 1) := by decide +kernel
theorem d_L_law_234 : decode code 234 = .ok (.ldc2_w 65, 3) := by decide +kernel
theorem d_L_law_237 : decode code 237 = .ok (.land, 1) := by decide +kernel
theorem d_L_law_238 : decode code 238 = .ok (.lor, 1) := by decide +kernel
theorem d_L_law_239 : decode code 239 = .ok (.aload_n 0, 1) := by decide +kernel
theorem d_L_law_240 : decode code 240 = .ok (.iload 4, 2) := by decide +kernel
theorem d_L_law_242 : decode code 242 = .ok (.iconst 3, 1) := by decide +kernel
theorem d_L_law_243 : decode code 243 = .ok (.iadd, 1) := by decide +kernel
theorem d_L_law_244 : decode code 244 = .ok (.iaload, 1) := by decide +kernel
theorem d_L_law_245 : decode code 245 = .ok (.invokestatic 67, 3) := by decide +kernel
theorem d_L_law_248 : decode code 248 = .ok (.istore 5, 2) := by decide +kernel
theorem d_L_law_250 : decode code 250 = .ok (.aload_n 2, 1) := by decide +kernel
theorem d_L_law_251 : decode code 251 = .ok (.aload_n 0, 1) := by decide +kernel
theorem d_L_law_252 : decode code 252 = .ok (.iload 4, 2) := by decide +kernel
theorem d_L_law_254 : decode code 254 = .ok (.iconst 1, 1) := by decide +kernel
theorem d_L_law_255 : decode code 255 = .ok (.iadd, 1) := by decide +kernel
theorem d_L_law_256 : decode code 256 = .ok (.iaload, 1) := by decide +kernel
theorem d_L_law_257 : decode code 257 = .ok (.i2l, 1) := by decide +kernel
theorem d_L_law_258 : decode code 258 = .ok (.bipush 32, 2) := by decide +kernel
theorem d_L_law_260 : decode code 260 = .ok (.lshl, 1) := by decide +kernel
theorem d_L_law_261 : decode code 261 = .ok (.aload_n 0, 1) := by decide +kernel
theorem d_L_law_262 : decode code 262 = .ok (.iload 4, 2) := by decide +kernel
theorem d_L_law_264 : decode code 264 = .ok (.iconst 2, 1) := by decide +kernel
theorem d_L_law_265 : decode code 265 = .ok (.iadd, 1) := by decide +kernel
theorem d_L_law_266 : decode code 266 = .ok (.iaload, 1) := by decide +kernel
theorem d_L_law_267 : decode code 267 = .ok (.i2l, 1) := by decide +kernel
theorem d_L_law_268 : decode code 268 = .ok (.ldc2_w 65, 3) := by decide +kernel
theorem d_L_law_271 : decode code 271 = .ok (.land, 1) := by decide +kernel
theorem d_L_law_272 : decode code 272 = .ok (.lor, 1) := by decide +kernel
theorem d_L_law_273 : decode code 273 = .ok (.aload_n 0, 1) := by decide +kernel
theorem d_L_law_274 : decode code 274 = .ok (.iload 4, 2) := by decide +kernel
theorem d_L_law_276 : decode code 276 = .ok (.iconst 3, 1) := by decide +kernel
theorem d_L_law_277 : decode code 277 = .ok (.iadd, 1) := by decide +kernel
theorem d_L_law_278 : decode code 278 = .ok (.iaload, 1) := by decide +kernel
theorem d_L_law_279 : decode code 279 = .ok (.invokevirtual 70, 3) := by decide +kernel
theorem d_L_law_282 : decode code 282 = .ok (.aload_n 2, 1) := by decide +kernel
theorem d_L_law_283 : decode code 283 = .ok (.invokevirtual 61, 3) := by decide +kernel
theorem d_L_law_286 : decode code 286 = .ok (.iload 5, 2) := by decide +kernel
theorem d_L_law_288 : decode code 288 = .ok (.if_icmp .eq 5, 3) := by decide +kernel
theorem d_L_law_291 : decode code 291 = .ok (.iconst 0, 1) := by decide +kernel
theorem d_L_law_292 : decode code 292 = .ok (.ireturn, 1) := by decide +kernel
theorem d_L_law_293 : decode code 293 = .ok (.goto 449, 3) := by decide +kernel
theorem d_L_law_296 : decode code 296 = .ok (.aload_n 1, 1) := by decide +kernel
theorem d_L_law_297 : decode code 297 = .ok (.aload_n 0, 1) := by decide +kernel
theorem d_L_law_298 : decode code 298 = .ok (.iload 4, 2) := by decide +kernel
theorem d_L_law_300 : decode code 300 = .ok (.iconst 1, 1) := by decide +kernel
theorem d_L_law_301 : decode code 301 = .ok (.iadd, 1) := by decide +kernel
theorem d_L_law_302 : decode code 302 = .ok (.iaload, 1) := by decide +kernel
theorem d_L_law_303 : decode code 303 = .ok (.invokestatic 71, 3) := by decide +kernel
theorem d_L_law_306 : decode code 306 = .ok (.istore 5, 2) := by decide +kernel
theorem d_L_law_308 : decode code 308 = .ok (.aload_n 2, 1) := by decide +kernel
theorem d_L_law_309 : decode code 309 = .ok (.aload_n 0, 1) := by decide +kernel
theorem d_L_law_310 : decode code 310 = .ok (.iload 4, 2) := by decide +kernel
theorem d_L_law_312 : decode code 312 = .ok (.iconst 1, 1) := by decide +kernel
theorem d_L_law_313 : decode code 313 = .ok (.iadd, 1) := by decide +kernel
theorem d_L_law_314 : decode code 314 = .ok (.iaload, 1) := by decide +kernel
theorem d_L_law_315 : decode code 315 = .ok (.invokevirtual 74, 3) := by decide +kernel
theorem d_L_law_318 : decode code 318 = .ok (.aload_n 2, 1) := by decide +kernel
theorem d_L_law_319 : decode code 319 = .ok (.invokevirtual 61, 3) := by decide +kernel
theorem d_L_law_322 : decode code 322 = .ok (.iload 5, 2) := by decide +kernel
theorem d_L_law_324 : decode code 324 = .ok (.if_icmp .eq 5, 3) := by decide +kernel
theorem d_L_law_327 : decode code 327 = .ok (.iconst 0, 1) := by decide +kernel
theorem d_L_law_328 : decode code 328 = .ok (.ireturn, 1) := by decide +kernel
theorem d_L_law_329 : decode code 329 = .ok (.goto 413, 3) := by decide +kernel
theorem d_L_law_332 : decode code 332 = .ok (.aload_n 1, 1) := by decide +kernel
theorem d_L_law_333 : decode code 333 = .ok (.invokevirtual 75, 3) := by decide +kernel
theorem d_L_law_336 : decode code 336 = .ok (.aload_n 2, 1) := by decide +kernel
theorem d_L_law_337 : decode code 337 = .ok (.invokevirtual 78, 3) := by decide +kernel
theorem d_L_law_340 : decode code 340 = .ok (.if_icmp .eq 402, 3) := by decide +kernel
theorem d_L_law_343 : decode code 343 = .ok (.iconst 0, 1) := by decide +kernel
theorem d_L_law_344 : decode code 344 = .ok (.ireturn, 1) := by decide +kernel
theorem d_L_law_345 : decode code 345 = .ok (.aload_n 1, 1) := by decide +kernel
theorem d_L_law_346 : decode code 346 = .ok (.aload_n 0, 1) := by decide +kernel
theorem d_L_law_347 : decode code 347 = .ok (.iload 4, 2) := by decide +kernel
theorem d_L_law_349 : decode code 349 = .ok (.iconst 1, 1) := by decide +kernel
theorem d_L_law_350 : decode code 350 = .ok (.iadd, 1) := by decide +kernel
theorem d_L_law_351 : decode code 351 = .ok (.iaload, 1) := by decide +kernel
theorem d_L_law_352 : decode code 352 = .ok (.aload_n 3, 1) := by decide +kernel
theorem d_L_law_353 : decode code 353 = .ok (.invokestatic 79, 3) := by decide +kernel
theorem d_L_law_356 : decode code 356 = .ok (.istore 5, 2) := by decide +kernel
theorem d_L_law_358 : decode code 358 = .ok (.aload_n 2, 1) := by decide +kernel
theorem d_L_law_359 : decode code 359 = .ok (.aload_n 0, 1) := by decide +kernel
theorem d_L_law_360 : decode code 360 = .ok (.iload 4, 2) := by decide +kernel
theorem d_L_law_362 : decode code 362 = .ok (.iconst 1, 1) := by decide +kernel
theorem d_L_law_363 : decode code 363 = .ok (.iadd, 1) := by decide +kernel
theorem d_L_law_364 : decode code 364 = .ok (.iaload, 1) := by decide +kernel
theorem d_L_law_365 : decode code 365 = .ok (.invokevirtual 82, 3) := by decide +kernel
theorem d_L_law_368 : decode code 368 = .ok (.istore 6, 2) := by decide +kernel
theorem d_L_law_370 : decode code 370 = .ok (.aload_n 2, 1) := by decide +kernel
theorem d_L_law_371 : decode code 371 = .ok (.invokevirtual 61, 3) := by decide +kernel
theorem d_L_law_374 : decode code 374 = .ok (.iload 5, 2) := by decide +kernel
theorem d_L_law_376 : decode code 376 = .ok (.if_icmp .eq 5, 3) := by decide +kernel
theorem d_L_law_379 : decode code 379 = .ok (.iconst 0, 1) := by decide +kernel
theorem d_L_law_380 : decode code 380 = .ok (.ireturn, 1) := by decide +kernel
theorem d_L_law_381 : decode code 381 = .ok (.iload 5, 2) := by decide +kernel
theorem d_L_law_383 : decode code 383 = .ok (.ifCond .ne 15, 3) := by decide +kernel
theorem d_L_law_386 : decode code 386 = .ok (.aload_n 3, 1) := by decide +kernel
theorem d_L_law_387 : decode code 387 = .ok (.iconst 0, 1) := by decide +kernel
theorem d_L_law_388 : decode code 388 = .ok (.laload, 1) := by decide +kernel
theorem d_L_law_389 : decode code 389 = .ok (.iload 6, 2) := by decide +kernel
theorem d_L_law_391 : decode code 391 = .ok (.i2l, 1) := by decide +kernel
theorem d_L_law_392 : decode code 392 = .ok (.lcmp, 1) := by decide +kernel
theorem d_L_law_393 : decode code 393 = .ok (.ifCond .eq 5, 3) := by decide +kernel
theorem d_L_law_396 : decode code 396 = .ok (.iconst 0, 1) := by decide +kernel
theorem d_L_law_397 : decode code 397 = .ok (.ireturn, 1) := by decide +kernel
theorem d_L_law_398 : decode code 398 = .ok (.goto 344, 3) := by decide +kernel
theorem d_L_law_401 : decode code 401 = .ok (.aload_n 1, 1) := by decide +kernel
theorem d_L_law_402 : decode code 402 = .ok (.aload_n 0, 1) := by decide +kernel
theorem d_L_law_403 : decode code 403 = .ok (.iload 4, 2) := by decide +kernel
theorem d_L_law_405 : decode code 405 = .ok (.iconst 1, 1) := by decide +kernel
theorem d_L_law_406 : decode code 406 = .ok (.iadd, 1) := by decide +kernel
theorem d_L_law_407 : decode code 407 = .ok (.iaload, 1) := by decide +kernel
theorem d_L_law_408 : decode code 408 = .ok (.aload_n 3, 1) := by decide +kernel
theorem d_L_law_409 : decode code 409 = .ok (.invokestatic 83, 3) := by decide +kernel
theorem d_L_law_412 : decode code 412 = .ok (.istore 5, 2) := by decide +kernel
theorem d_L_law_414 : decode code 414 = .ok (.aload_n 2, 1) := by decide +kernel
theorem d_L_law_415 : decode code 415 = .ok (.aload_n 0, 1) := by decide +kernel
theorem d_L_law_416 : decode code 416 = .ok (.iload 4, 2) := by decide +kernel
theorem d_L_law_418 : decode code 418 = .ok (.iconst 1, 1) := by decide +kernel
theorem d_L_law_419 : decode code 419 = .ok (.iadd, 1) := by decide +kernel
theorem d_L_law_420 : decode code 420 = .ok (.iaload, 1) := by decide +kernel
theorem d_L_law_421 : decode code 421 = .ok (.invokevirtual 85, 3) := by decide +kernel
theorem d_L_law_424 : decode code 424 = .ok (.istore 6, 2) := by decide +kernel
theorem d_L_law_426 : decode code 426 = .ok (.aload_n 2, 1) := by decide +kernel
theorem d_L_law_427 : decode code 427 = .ok (.invokevirtual 61, 3) := by decide +kernel
theorem d_L_law_430 : decode code 430 = .ok (.iload 5, 2) := by decide +kernel
theorem d_L_law_432 : decode code 432 = .ok (.if_icmp .eq 5, 3) := by decide +kernel
theorem d_L_law_435 : decode code 435 = .ok (.iconst 0, 1) := by decide +kernel
theorem d_L_law_436 : decode code 436 = .ok (.ireturn, 1) := by decide +kernel
theorem d_L_law_437 : decode code 437 = .ok (.iload 5, 2) := by decide +kernel
theorem d_L_law_439 : decode code 439 = .ok (.ifCond .ne 15, 3) := by decide +kernel
theorem d_L_law_442 : decode code 442 = .ok (.aload_n 3, 1) := by decide +kernel
theorem d_L_law_443 : decode code 443 = .ok (.iconst 0, 1) := by decide +kernel
theorem d_L_law_444 : decode code 444 = .ok (.laload, 1) := by decide +kernel
theorem d_L_law_445 : decode code 445 = .ok (.iload 6, 2) := by decide +kernel
theorem d_L_law_447 : decode code 447 = .ok (.i2l, 1) := by decide +kernel
theorem d_L_law_448 : decode code 448 = .ok (.lcmp, 1) := by decide +kernel
theorem d_L_law_449 : decode code 449 = .ok (.ifCond .eq 5, 3) := by decide +kernel
theorem d_L_law_452 : decode code 452 = .ok (.iconst 0, 1) := by decide +kernel
theorem d_L_law_453 : decode code 453 = .ok (.ireturn, 1) := by decide +kernel
theorem d_L_law_454 : decode code 454 = .ok (.goto 288, 3) := by decide +kernel
theorem d_L_law_457 : decode code 457 = .ok (.aload_n 1, 1) := by decide +kernel
theorem d_L_law_458 : decode code 458 = .ok (.aload_n 0, 1) := by decide +kernel
theorem d_L_law_459 : decode code 459 = .ok (.iload 4, 2) := by decide +kernel
theorem d_L_law_461 : decode code 461 = .ok (.iconst 1, 1) := by decide +kernel
theorem d_L_law_462 : decode code 462 = .ok (.iadd, 1) := by decide +kernel
theorem d_L_law_463 : decode code 463 = .ok (.iaload, 1) := by decide +kernel
theorem d_L_law_464 : decode code 464 = .ok (.aload_n 0, 1) := by decide +kernel
theorem d_L_law_465 : decode code 465 = .ok (.iload 4, 2) := by decide +kernel
theorem d_L_law_467 : decode code 467 = .ok (.iconst 2, 1) := by decide +kernel
theorem d_L_law_468 : decode code 468 = .ok (.iadd, 1) := by decide +kernel
theorem d_L_law_469 : decode code 469 = .ok (.iaload, 1) := by decide +kernel
theorem d_L_law_470 : decode code 470 = .ok (.invokestatic 86, 3) := by decide +kernel
theorem d_L_law_473 : decode code 473 = .ok (.istore 5, 2) := by decide +kernel
theorem d_L_law_475 : decode code 475 = .ok (.aload_n 2, 1) := by decide +kernel
theorem d_L_law_476 : decode code 476 = .ok (.aload_n 0, 1) := by decide +kernel
theorem d_L_law_477 : decode code 477 = .ok (.iload 4, 2) := by decide +kernel
theorem d_L_law_479 : decode code 479 = .ok (.iconst 1, 1) := by decide +kernel
theorem d_L_law_480 : decode code 480 = .ok (.iadd, 1) := by decide +kernel
theorem d_L_law_481 : decode code 481 = .ok (.iaload, 1) := by decide +kernel
theorem d_L_law_482 : decode code 482 = .ok (.aload_n 0, 1) := by decide +kernel
theorem d_L_law_483 : decode code 483 = .ok (.iload 4, 2) := by decide +kernel
theorem d_L_law_485 : decode code 485 = .ok (.iconst 2, 1) := by decide +kernel
theorem d_L_law_486 : decode code 486 = .ok (.iadd, 1) := by decide +kernel
theorem d_L_law_487 : decode code 487 = .ok (.iaload, 1) := by decide +kernel
theorem d_L_law_488 : decode code 488 = .ok (.invokevirtual 89, 3) := by decide +kernel
theorem d_L_law_491 : decode code 491 = .ok (.aload_n 2, 1) := by decide +kernel
theorem d_L_law_492 : decode code 492 = .ok (.invokevirtual 61, 3) := by decide +kernel
theorem d_L_law_495 : decode code 495 = .ok (.iload 5, 2) := by decide +kernel
theorem d_L_law_497 : decode code 497 = .ok (.if_icmp .eq 5, 3) := by decide +kernel
theorem d_L_law_500 : decode code 500 = .ok (.iconst 0, 1) := by decide +kernel
theorem d_L_law_501 : decode code 501 = .ok (.ireturn, 1) := by decide +kernel
theorem d_L_law_502 : decode code 502 = .ok (.goto 240, 3) := by decide +kernel
theorem d_L_law_505 : decode code 505 = .ok (.aload_n 1, 1) := by decide +kernel
theorem d_L_law_506 : decode code 506 = .ok (.aload_n 0, 1) := by decide +kernel
theorem d_L_law_507 : decode code 507 = .ok (.iload 4, 2) := by decide +kernel
theorem d_L_law_509 : decode code 509 = .ok (.iconst 1, 1) := by decide +kernel
theorem d_L_law_510 : decode code 510 = .ok (.iadd, 1) := by decide +kernel
theorem d_L_law_511 : decode code 511 = .ok (.iaload, 1) := by decide +kernel
theorem d_L_law_512 : decode code 512 = .ok (.invokestatic 90, 3) := by decide +kernel
theorem d_L_law_515 : decode code 515 = .ok (.istore 5, 2) := by decide +kernel
theorem d_L_law_517 : decode code 517 = .ok (.aload_n 2, 1) := by decide +kernel
theorem d_L_law_518 : decode code 518 = .ok (.aload_n 0, 1) := by decide +kernel
theorem d_L_law_519 : decode code 519 = .ok (.iload 4, 2) := by decide +kernel
theorem d_L_law_521 : decode code 521 = .ok (.iconst 1, 1) := by decide +kernel
theorem d_L_law_522 : decode code 522 = .ok (.iadd, 1) := by decide +kernel
theorem d_L_law_523 : decode code 523 = .ok (.iaload, 1) := by decide +kernel
theorem d_L_law_524 : decode code 524 = .ok (.invokevirtual 92, 3) := by decide +kernel
theorem d_L_law_527 : decode code 527 = .ok (.aload_n 2, 1) := by decide +kernel
theorem d_L_law_528 : decode code 528 = .ok (.invokevirtual 61, 3) := by decide +kernel
theorem d_L_law_531 : decode code 531 = .ok (.iload 5, 2) := by decide +kernel
theorem d_L_law_533 : decode code 533 = .ok (.if_icmp .eq 5, 3) := by decide +kernel
theorem d_L_law_536 : decode code 536 = .ok (.iconst 0, 1) := by decide +kernel
theorem d_L_law_537 : decode code 537 = .ok (.ireturn, 1) := by decide +kernel
theorem d_L_law_538 : decode code 538 = .ok (.goto 204, 3) := by decide +kernel
theorem d_L_law_541 : decode code 541 = .ok (.aload_n 1, 1) := by decide +kernel
theorem d_L_law_542 : decode code 542 = .ok (.invokevirtual 93, 3) := by decide +kernel
theorem d_L_law_545 : decode code 545 = .ok (.aload_n 2, 1) := by decide +kernel
theorem d_L_law_546 : decode code 546 = .ok (.invokevirtual 96, 3) := by decide +kernel
theorem d_L_law_549 : decode code 549 = .ok (.if_icmp .eq 193, 3) := by decide +kernel
theorem d_L_law_552 : decode code 552 = .ok (.iconst 0, 1) := by decide +kernel
theorem d_L_law_553 : decode code 553 = .ok (.ireturn, 1) := by decide +kernel
theorem d_L_law_554 : decode code 554 = .ok (.aload_n 1, 1) := by decide +kernel
theorem d_L_law_555 : decode code 555 = .ok (.aload_n 0, 1) := by decide +kernel
theorem d_L_law_556 : decode code 556 = .ok (.iload 4, 2) := by decide +kernel
theorem d_L_law_558 : decode code 558 = .ok (.iconst 1, 1) := by decide +kernel
theorem d_L_law_559 : decode code 559 = .ok (.iadd, 1) := by decide +kernel
theorem d_L_law_560 : decode code 560 = .ok (.iaload, 1) := by decide +kernel
theorem d_L_law_561 : decode code 561 = .ok (.aload_n 3, 1) := by decide +kernel
theorem d_L_law_562 : decode code 562 = .ok (.invokestatic 97, 3) := by decide +kernel
theorem d_L_law_565 : decode code 565 = .ok (.istore 5, 2) := by decide +kernel
theorem d_L_law_567 : decode code 567 = .ok (.aload_n 2, 1) := by decide +kernel
theorem d_L_law_568 : decode code 568 = .ok (.aload_n 0, 1) := by decide +kernel
theorem d_L_law_569 : decode code 569 = .ok (.iload 4, 2) := by decide +kernel
theorem d_L_law_571 : decode code 571 = .ok (.iconst 1, 1) := by decide +kernel
theorem d_L_law_572 : decode code 572 = .ok (.iadd, 1) := by decide +kernel
theorem d_L_law_573 : decode code 573 = .ok (.iaload, 1) := by decide +kernel
theorem d_L_law_574 : decode code 574 = .ok (.invokevirtual 99, 3) := by decide +kernel
theorem d_L_law_577 : decode code 577 = .ok (.istore 6, 2) := by decide +kernel
theorem d_L_law_579 : decode code 579 = .ok (.aload_n 2, 1) := by decide +kernel
theorem d_L_law_580 : decode code 580 = .ok (.invokevirtual 61, 3) := by decide +kernel
theorem d_L_law_583 : decode code 583 = .ok (.iload 5, 2) := by decide +kernel
theorem d_L_law_585 : decode code 585 = .ok (.if_icmp .eq 5, 3) := by decide +kernel
theorem d_L_law_588 : decode code 588 = .ok (.iconst 0, 1) := by decide +kernel
theorem d_L_law_589 : decode code 589 = .ok (.ireturn, 1) := by decide +kernel
theorem d_L_law_590 : decode code 590 = .ok (.iload 5, 2) := by decide +kernel
theorem d_L_law_592 : decode code 592 = .ok (.ifCond .ne 22, 3) := by decide +kernel
theorem d_L_law_595 : decode code 595 = .ok (.aload_n 3, 1) := by decide +kernel
theorem d_L_law_596 : decode code 596 = .ok (.iconst 0, 1) := by decide +kernel
theorem d_L_law_597 : decode code 597 = .ok (.laload, 1) := by decide +kernel
theorem d_L_law_598 : decode code 598 = .ok (.iload 6, 2) := by decide +kernel
theorem d_L_law_600 : decode code 600 = .ok (.ifCond .eq 7, 3) := by decide +kernel
theorem d_L_law_603 : decode code 603 = .ok (.lconst 1, 1) := by decide +kernel
theorem d_L_law_604 : decode code 604 = .ok (.goto 4, 3) := by decide +kernel
theorem d_L_law_607 : decode code 607 = .ok (.lconst 0, 1) := by decide +kernel
theorem d_L_law_608 : decode code 608 = .ok (.lcmp, 1) := by decide +kernel
theorem d_L_law_609 : decode code 609 = .ok (.ifCond .eq 5, 3) := by decide +kernel
theorem d_L_law_612 : decode code 612 = .ok (.iconst 0, 1) := by decide +kernel
theorem d_L_law_613 : decode code 613 = .ok (.ireturn, 1) := by decide +kernel
theorem d_L_law_614 : decode code 614 = .ok (.goto 128, 3) := by decide +kernel
theorem d_L_law_617 : decode code 617 = .ok (.aload_n 1, 1) := by decide +kernel
theorem d_L_law_618 : decode code 618 = .ok (.aload_n 0, 1) := by decide +kernel
theorem d_L_law_619 : decode code 619 = .ok (.iload 4, 2) := by decide +kernel
theorem d_L_law_621 : decode code 621 = .ok (.iconst 1, 1) := by decide +kernel
theorem d_L_law_622 : decode code 622 = .ok (.iadd, 1) := by decide +kernel
theorem d_L_law_623 : decode code 623 = .ok (.iaload, 1) := by decide +kernel
theorem d_L_law_624 : decode code 624 = .ok (.aload_n 3, 1) := by decide +kernel
theorem d_L_law_625 : decode code 625 = .ok (.invokestatic 100, 3) := by decide +kernel
theorem d_L_law_628 : decode code 628 = .ok (.istore 5, 2) := by decide +kernel
theorem d_L_law_630 : decode code 630 = .ok (.aload_n 2, 1) := by decide +kernel
theorem d_L_law_631 : decode code 631 = .ok (.aload_n 0, 1) := by decide +kernel
theorem d_L_law_632 : decode code 632 = .ok (.iload 4, 2) := by decide +kernel
theorem d_L_law_634 : decode code 634 = .ok (.iconst 1, 1) := by decide +kernel
theorem d_L_law_635 : decode code 635 = .ok (.iadd, 1) := by decide +kernel
theorem d_L_law_636 : decode code 636 = .ok (.iaload, 1) := by decide +kernel
theorem d_L_law_637 : decode code 637 = .ok (.invokevirtual 102, 3) := by decide +kernel
theorem d_L_law_640 : decode code 640 = .ok (.istore 6, 2) := by decide +kernel
theorem d_L_law_642 : decode code 642 = .ok (.aload_n 2, 1) := by decide +kernel
theorem d_L_law_643 : decode code 643 = .ok (.invokevirtual 61, 3) := by decide +kernel
theorem d_L_law_646 : decode code 646 = .ok (.iload 5, 2) := by decide +kernel
theorem d_L_law_648 : decode code 648 = .ok (.if_icmp .eq 5, 3) := by decide +kernel
theorem d_L_law_651 : decode code 651 = .ok (.iconst 0, 1) := by decide +kernel
theorem d_L_law_652 : decode code 652 = .ok (.ireturn, 1) := by decide +kernel
theorem d_L_law_653 : decode code 653 = .ok (.iload 5, 2) := by decide +kernel
theorem d_L_law_655 : decode code 655 = .ok (.ifCond .ne 15, 3) := by decide +kernel
theorem d_L_law_658 : decode code 658 = .ok (.aload_n 3, 1) := by decide +kernel
theorem d_L_law_659 : decode code 659 = .ok (.iconst 0, 1) := by decide +kernel
theorem d_L_law_660 : decode code 660 = .ok (.laload, 1) := by decide +kernel
theorem d_L_law_661 : decode code 661 = .ok (.iload 6, 2) := by decide +kernel
theorem d_L_law_663 : decode code 663 = .ok (.i2l, 1) := by decide +kernel
theorem d_L_law_664 : decode code 664 = .ok (.lcmp, 1) := by decide +kernel
theorem d_L_law_665 : decode code 665 = .ok (.ifCond .eq 5, 3) := by decide +kernel
theorem d_L_law_668 : decode code 668 = .ok (.iconst 0, 1) := by decide +kernel
theorem d_L_law_669 : decode code 669 = .ok (.ireturn, 1) := by decide +kernel
theorem d_L_law_670 : decode code 670 = .ok (.goto 72, 3) := by decide +kernel
theorem d_L_law_673 : decode code 673 = .ok (.aload_n 1, 1) := by decide +kernel
theorem d_L_law_674 : decode code 674 = .ok (.aload_n 0, 1) := by decide +kernel
theorem d_L_law_675 : decode code 675 = .ok (.iload 4, 2) := by decide +kernel
theorem d_L_law_677 : decode code 677 = .ok (.iconst 1, 1) := by decide +kernel
theorem d_L_law_678 : decode code 678 = .ok (.iadd, 1) := by decide +kernel
theorem d_L_law_679 : decode code 679 = .ok (.iaload, 1) := by decide +kernel
theorem d_L_law_680 : decode code 680 = .ok (.aload_n 3, 1) := by decide +kernel
theorem d_L_law_681 : decode code 681 = .ok (.invokestatic 103, 3) := by decide +kernel
theorem d_L_law_684 : decode code 684 = .ok (.istore 5, 2) := by decide +kernel
theorem d_L_law_686 : decode code 686 = .ok (.aload_n 2, 1) := by decide +kernel
theorem d_L_law_687 : decode code 687 = .ok (.aload_n 0, 1) := by decide +kernel
theorem d_L_law_688 : decode code 688 = .ok (.iload 4, 2) := by decide +kernel
theorem d_L_law_690 : decode code 690 = .ok (.iconst 1, 1) := by decide +kernel
theorem d_L_law_691 : decode code 691 = .ok (.iadd, 1) := by decide +kernel
theorem d_L_law_692 : decode code 692 = .ok (.iaload, 1) := by decide +kernel
theorem d_L_law_693 : decode code 693 = .ok (.invokevirtual 105, 3) := by decide +kernel
theorem d_L_law_696 : decode code 696 = .ok (.istore 6, 2) := by decide +kernel
theorem d_L_law_698 : decode code 698 = .ok (.aload_n 2, 1) := by decide +kernel
theorem d_L_law_699 : decode code 699 = .ok (.invokevirtual 61, 3) := by decide +kernel
theorem d_L_law_702 : decode code 702 = .ok (.iload 5, 2) := by decide +kernel
theorem d_L_law_704 : decode code 704 = .ok (.if_icmp .eq 5, 3) := by decide +kernel
theorem d_L_law_707 : decode code 707 = .ok (.iconst 0, 1) := by decide +kernel
theorem d_L_law_708 : decode code 708 = .ok (.ireturn, 1) := by decide +kernel
theorem d_L_law_709 : decode code 709 = .ok (.iload 5, 2) := by decide +kernel
theorem d_L_law_711 : decode code 711 = .ok (.ifCond .ne 15, 3) := by decide +kernel
theorem d_L_law_714 : decode code 714 = .ok (.aload_n 3, 1) := by decide +kernel
theorem d_L_law_715 : decode code 715 = .ok (.iconst 0, 1) := by decide +kernel
theorem d_L_law_716 : decode code 716 = .ok (.laload, 1) := by decide +kernel
theorem d_L_law_717 : decode code 717 = .ok (.iload 6, 2) := by decide +kernel
theorem d_L_law_719 : decode code 719 = .ok (.i2l, 1) := by decide +kernel
theorem d_L_law_720 : decode code 720 = .ok (.lcmp, 1) := by decide +kernel
theorem d_L_law_721 : decode code 721 = .ok (.ifCond .eq 5, 3) := by decide +kernel
theorem d_L_law_724 : decode code 724 = .ok (.iconst 0, 1) := by decide +kernel
theorem d_L_law_725 : decode code 725 = .ok (.ireturn, 1) := by decide +kernel
theorem d_L_law_726 : decode code 726 = .ok (.goto 16, 3) := by decide +kernel
theorem d_L_law_729 : decode code 729 = .ok (.aload_n 1, 1) := by decide +kernel
theorem d_L_law_730 : decode code 730 = .ok (.invokevirtual 106, 3) := by decide +kernel
theorem d_L_law_733 : decode code 733 = .ok (.aload_n 2, 1) := by decide +kernel
theorem d_L_law_734 : decode code 734 = .ok (.invokevirtual 109, 3) := by decide +kernel
theorem d_L_law_737 : decode code 737 = .ok (.if_icmp .eq 5, 3) := by decide +kernel
theorem d_L_law_740 : decode code 740 = .ok (.iconst 0, 1) := by decide +kernel
theorem d_L_law_741 : decode code 741 = .ok (.ireturn, 1) := by decide +kernel
theorem d_L_law_742 : decode code 742 = .ok (.iinc 4 4, 3) := by decide +kernel
theorem d_L_law_745 : decode code 745 = .ok (.goto (-722), 3) := by decide +kernel
theorem d_L_law_748 : decode code 748 = .ok (.iconst 1, 1) := by decide +kernel
theorem d_L_law_749 : decode code 749 = .ok (.ireturn, 1) := by decide +kernel
