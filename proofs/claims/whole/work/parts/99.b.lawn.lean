theorem d_law_0 : decode code 0 = .ok (.new 8, 3) := by decide +kernel
theorem d_law_3 : decode code 3 = .ok (.dup, 1) := by decide +kernel
theorem d_law_4 : decode code 4 = .ok (.invokespecial 15, 3) := by decide +kernel
theorem d_law_7 : decode code 7 = .ok (.astore_n 1, 1) := by decide +kernel
theorem d_law_8 : decode code 8 = .ok (.new 16, 3) := by decide +kernel
theorem d_law_11 : decode code 11 = .ok (.dup, 1) := by decide +kernel
theorem d_law_12 : decode code 12 = .ok (.invokespecial 18, 3) := by decide +kernel
theorem d_law_15 : decode code 15 = .ok (.astore_n 2, 1) := by decide +kernel
theorem d_law_16 : decode code 16 = .ok (.iconst 1, 1) := by decide +kernel
theorem d_law_17 : decode code 17 = .ok (.newarray .long, 2) := by decide +kernel
theorem d_law_19 : decode code 19 = .ok (.astore_n 3, 1) := by decide +kernel
theorem d_law_20 : decode code 20 = .ok (.iconst 0, 1) := by decide +kernel
theorem d_law_21 : decode code 21 = .ok (.istore 4, 2) := by decide +kernel
theorem d_law_23 : decode code 23 = .ok (.iload 4, 2) := by decide +kernel
theorem d_law_25 : decode code 25 = .ok (.aload_n 0, 1) := by decide +kernel
theorem d_law_26 : decode code 26 = .ok (.arraylength, 1) := by decide +kernel
theorem d_law_27 : decode code 27 = .ok (.bipush 6, 2) := by decide +kernel
theorem d_law_29 : decode code 29 = .ok (.isub, 1) := by decide +kernel
theorem d_law_30 : decode code 30 = .ok (.if_icmp .gt 454, 3) := by decide +kernel
theorem d_law_33 : decode code 33 = .ok (.aload_n 0, 1) := by decide +kernel
theorem d_law_34 : decode code 34 = .ok (.iload 4, 2) := by decide +kernel
theorem d_law_36 : decode code 36 = .ok (.iaload, 1) := by decide +kernel
theorem d_law_37 : decode code 37 = .ok (.bipush 15, 2) := by decide +kernel
theorem d_law_39 : decode code 39 = .ok (.iand, 1) := by decide +kernel
theorem d_law_40 : decode code 40 = .ok (.tableswitch 438 0 10 #[60, 131, 156, 200, 225, 250, 299, 352, 363, 376, 413], 60) := by decide +kernel
theorem d_law_100 : decode code 100 = .ok (.aload_n 1, 1) := by decide +kernel
theorem d_law_101 : decode code 101 = .ok (.aload_n 0, 1) := by decide +kernel
theorem d_law_102 : decode code 102 = .ok (.iload 4, 2) := by decide +kernel
theorem d_law_104 : decode code 104 = .ok (.iconst 1, 1) := by decide +kernel
theorem d_law_105 : decode code 105 = .ok (.iadd, 1) := by decide +kernel
theorem d_law_106 : decode code 106 = .ok (.iaload, 1) := by decide +kernel
theorem d_law_107 : decode code 107 = .ok (.aload_n 0, 1) := by decide +kernel
theorem d_law_108 : decode code 108 = .ok (.iload 4, 2) := by decide +kernel
theorem d_law_110 : decode code 110 = .ok (.iconst 2, 1) := by decide +kernel
theorem d_law_111 : decode code 111 = .ok (.iadd, 1) := by decide +kernel
theorem d_law_112 : decode code 112 = .ok (.iaload, 1) := by decide +kernel
theorem d_law_113 : decode code 113 = .ok (.aload_n 0, 1) := by decide +kernel
theorem d_law_114 : decode code 114 = .ok (.iload 4, 2) := by decide +kernel
theorem d_law_116 : decode code 116 = .ok (.iconst 3, 1) := by decide +kernel
theorem d_law_117 : decode code 117 = .ok (.iadd, 1) := by decide +kernel
theorem d_law_118 : decode code 118 = .ok (.iaload, 1) := by decide +kernel
theorem d_law_119 : decode code 119 = .ok (.aload_n 0, 1) := by decide +kernel
theorem d_law_120 : decode code 120 = .ok (.iload 4, 2) := by decide +kernel
theorem d_law_122 : decode code 122 = .ok (.iconst 4, 1) := by decide +kernel
theorem d_law_123 : decode code 123 = .ok (.iadd, 1) := by decide +kernel
theorem d_law_124 : decode code 124 = .ok (.iaload, 1) := by decide +kernel
theorem d_law_125 : decode code 125 = .ok (.aload_n 0, 1) := by decide +kernel
theorem d_law_126 : decode code 126 = .ok (.iload 4, 2) := by decide +kernel
theorem d_law_128 : decode code 128 = .ok (.iconst 5, 1) := by decide +kernel
theorem d_law_129 : decode code 129 = .ok (.iadd, 1) := by decide +kernel
theorem d_law_130 : decode code 130 = .ok (.iaload, 1) := by decide +kernel
theorem d_law_131 : decode code 131 = .ok (.invokevirtual 19, 3) := by decide +kernel
theorem d_law_134 : decode code 134 = .ok (.aload_n 2, 1) := by decide +kernel
theorem d_law_135 : decode code 135 = .ok (.aload_n 0, 1) := by decide +kernel
theorem d_law_136 : decode code 136 = .ok (.iload 4, 2) := by decide +kernel
theorem d_law_138 : decode code 138 = .ok (.iconst 1, 1) := by decide +kernel
theorem d_law_139 : decode code 139 = .ok (.iadd, 1) := by decide +kernel
theorem d_law_140 : decode code 140 = .ok (.iaload, 1) := by decide +kernel
theorem d_law_141 : decode code 141 = .ok (.aload_n 0, 1) := by decide +kernel
theorem d_law_142 : decode code 142 = .ok (.iload 4, 2) := by decide +kernel
theorem d_law_144 : decode code 144 = .ok (.iconst 2, 1) := by decide +kernel
theorem d_law_145 : decode code 145 = .ok (.iadd, 1) := by decide +kernel
theorem d_law_146 : decode code 146 = .ok (.iaload, 1) := by decide +kernel
theorem d_law_147 : decode code 147 = .ok (.aload_n 0, 1) := by decide +kernel
theorem d_law_148 : decode code 148 = .ok (.iload 4, 2) := by decide +kernel
theorem d_law_150 : decode code 150 = .ok (.iconst 3, 1) := by decide +kernel
theorem d_law_151 : decode code 151 = .ok (.iadd, 1) := by decide +kernel
theorem d_law_152 : decode code 152 = .ok (.iaload, 1) := by decide +kernel
theorem d_law_153 : decode code 153 = .ok (.aload_n 0, 1) := by decide +kernel
theorem d_law_154 : decode code 154 = .ok (.iload 4, 2) := by decide +kernel
theorem d_law_156 : decode code 156 = .ok (.iconst 4, 1) := by decide +kernel
theorem d_law_157 : decode code 157 = .ok (.iadd, 1) := by decide +kernel
theorem d_law_158 : decode code 158 = .ok (.iaload, 1) := by decide +kernel
theorem d_law_159 : decode code 159 = .ok (.aload_n 0, 1) := by decide +kernel
theorem d_law_160 : decode code 160 = .ok (.iload 4, 2) := by decide +kernel
theorem d_law_162 : decode code 162 = .ok (.iconst 5, 1) := by decide +kernel
theorem d_law_163 : decode code 163 = .ok (.iadd, 1) := by decide +kernel
theorem d_law_164 : decode code 164 = .ok (.iaload, 1) := by decide +kernel
theorem d_law_165 : decode code 165 = .ok (.invokevirtual 23, 3) := by decide +kernel
theorem d_law_168 : decode code 168 = .ok (.goto 310, 3) := by decide +kernel
theorem d_law_171 : decode code 171 = .ok (.aload_n 1, 1) := by decide +kernel
theorem d_law_172 : decode code 172 = .ok (.aload_n 0, 1) := by decide +kernel
theorem d_law_173 : decode code 173 = .ok (.iload 4, 2) := by decide +kernel
theorem d_law_175 : decode code 175 = .ok (.iconst 1, 1) := by decide +kernel
theorem d_law_176 : decode code 176 = .ok (.iadd, 1) := by decide +kernel
theorem d_law_177 : decode code 177 = .ok (.iaload, 1) := by decide +kernel
theorem d_law_178 : decode code 178 = .ok (.invokevirtual 24, 3) := by decide +kernel
theorem d_law_181 : decode code 181 = .ok (.aload_n 2, 1) := by decide +kernel
theorem d_law_182 : decode code 182 = .ok (.aload_n 0, 1) := by decide +kernel
theorem d_law_183 : decode code 183 = .ok (.iload 4, 2) := by decide +kernel
theorem d_law_185 : decode code 185 = .ok (.iconst 1, 1) := by decide +kernel
theorem d_law_186 : decode code 186 = .ok (.iadd, 1) := by decide +kernel
theorem d_law_187 : decode code 187 = .ok (.iaload, 1) := by decide +kernel
theorem d_law_188 : decode code 188 = .ok (.invokevirtual 28, 3) := by decide +kernel
theorem d_law_191 : decode code 191 = .ok (.if_icmp .eq 287, 3) := by decide +kernel
theorem d_law_194 : decode code 194 = .ok (.iconst 0, 1) := by decide +kernel
theorem d_law_195 : decode code 195 = .ok (.ireturn, 1) := by decide +kernel
theorem d_law_196 : decode code 196 = .ok (.aload_n 1, 1) := by decide +kernel
theorem d_law_197 : decode code 197 = .ok (.aload_n 3, 1) := by decide +kernel
theorem d_law_198 : decode code 198 = .ok (.invokestatic 29, 3) := by decide +kernel
theorem d_law_201 : decode code 201 = .ok (.istore 5, 2) := by decide +kernel
theorem d_law_203 : decode code 203 = .ok (.aload_n 2, 1) := by decide +kernel
theorem d_law_204 : decode code 204 = .ok (.invokevirtual 34, 3) := by decide +kernel
theorem d_law_207 : decode code 207 = .ok (.istore 6, 2) := by decide +kernel
theorem d_law_209 : decode code 209 = .ok (.aload_n 2, 1) := by decide +kernel
theorem d_law_210 : decode code 210 = .ok (.invokevirtual 35, 3) := by decide +kernel
theorem d_law_213 : decode code 213 = .ok (.iload 5, 2) := by decide +kernel
theorem d_law_215 : decode code 215 = .ok (.if_icmp .eq 5, 3) := by decide +kernel
theorem d_law_218 : decode code 218 = .ok (.iconst 0, 1) := by decide +kernel
theorem d_law_219 : decode code 219 = .ok (.ireturn, 1) := by decide +kernel
theorem d_law_220 : decode code 220 = .ok (.iload 5, 2) := by decide +kernel
theorem d_law_222 : decode code 222 = .ok (.ifCond .ne 15, 3) := by decide +kernel
theorem d_law_225 : decode code 225 = .ok (.aload_n 3, 1) := by decide +kernel
theorem d_law_226 : decode code 226 = .ok (.iconst 0, 1) := by decide +kernel
theorem d_law_227 : decode code 227 = .ok (.laload, 1) := by decide +kernel
theorem d_law_228 : decode code 228 = .ok (.iload 6, 2) := by decide +kernel
theorem d_law_230 : decode code 230 = .ok (.i2l, 1) := by decide +kernel
theorem d_law_231 : decode code 231 = .ok (.lcmp, 1) := by decide +kernel
theorem d_law_232 : decode code 232 = .ok (.ifCond .eq 5, 3) := by decide +kernel
theorem d_law_235 : decode code 235 = .ok (.iconst 0, 1) := by decide +kernel
theorem d_law_236 : decode code 236 = .ok (.ireturn, 1) := by decide +kernel
theorem d_law_237 : decode code 237 = .ok (.goto 241, 3) := by decide +kernel
theorem d_law_240 : decode code 240 = .ok (.aload_n 1, 1) := by decide +kernel
theorem d_law_241 : decode code 241 = .ok (.aload_n 0, 1) := by decide +kernel
theorem d_law_242 : decode code 242 = .ok (.iload 4, 2) := by decide +kernel
theorem d_law_244 : decode code 244 = .ok (.iconst 1, 1) := by decide +kernel
theorem d_law_245 : decode code 245 = .ok (.iadd, 1) := by decide +kernel
theorem d_law_246 : decode code 246 = .ok (.iaload, 1) := by decide +kernel
theorem d_law_247 : decode code 247 = .ok (.invokevirtual 38, 3) := by decide +kernel
theorem d_law_250 : decode code 250 = .ok (.aload_n 2, 1) := by decide +kernel
theorem d_law_251 : decode code 251 = .ok (.aload_n 0, 1) := by decide +kernel
theorem d_law_252 : decode code 252 = .ok (.iload 4, 2) := by decide +kernel
theorem d_law_254 : decode code 254 = .ok (.iconst 1, 1) := by decide +kernel
theorem d_law_255 : decode code 255 = .ok (.iadd, 1) := by decide +kernel
theorem d_law_256 : decode code 256 = .ok (.iaload, 1) := by decide +kernel
theorem d_law_257 : decode code 257 = .ok (.invokevirtual 41, 3) := by decide +kernel
theorem d_law_260 : decode code 260 = .ok (.if_icmp .eq 218, 3) := by decide +kernel
theorem d_law_263 : decode code 263 = .ok (.iconst 0, 1) := by decide +kernel
theorem d_law_264 : decode code 264 = .ok (.ireturn, 1) := by decide +kernel
theorem d_law_265 : decode code 265 = .ok (.aload_n 1, 1) := by decide +kernel
theorem d_law_266 : decode code 266 = .ok (.aload_n 0, 1) := by decide +kernel
theorem d_law_267 : decode code 267 = .ok (.iload 4, 2) := by decide +kernel
theorem d_law_269 : decode code 269 = .ok (.iconst 1, 1) := by decide +kernel
theorem d_law_270 : decode code 270 = .ok (.iadd, 1) := by decide +kernel
theorem d_law_271 : decode code 271 = .ok (.iaload, 1) := by decide +kernel
theorem d_law_272 : decode code 272 = .ok (.invokevirtual 42, 3) := by decide +kernel
theorem d_law_275 : decode code 275 = .ok (.aload_n 2, 1) := by decide +kernel
theorem d_law_276 : decode code 276 = .ok (.aload_n 0, 1) := by decide +kernel
theorem d_law_277 : decode code 277 = .ok (.iload 4, 2) := by decide +kernel
theorem d_law_279 : decode code 279 = .ok (.iconst 1, 1) := by decide +kernel
theorem d_law_280 : decode code 280 = .ok (.iadd, 1) := by decide +kernel
theorem d_law_281 : decode code 281 = .ok (.iaload, 1) := by decide +kernel
theorem d_law_282 : decode code 282 = .ok (.invokevirtual 45, 3) := by decide +kernel
theorem d_law_285 : decode code 285 = .ok (.if_icmp .eq 193, 3) := by decide +kernel
theorem d_law_288 : decode code 288 = .ok (.iconst 0, 1) := by decide +kernel
theorem d_law_289 : decode code 289 = .ok (.ireturn, 1) := by decide +kernel
theorem d_law_290 : decode code 290 = .ok (.aload_n 1, 1) := by decide +kernel
theorem d_law_291 : decode code 291 = .ok (.aload_n 0, 1) := by decide +kernel
theorem d_law_292 : decode code 292 = .ok (.iload 4, 2) := by decide +kernel
theorem d_law_294 : decode code 294 = .ok (.iconst 1, 1) := by decide +kernel
theorem d_law_295 : decode code 295 = .ok (.iadd, 1) := by decide +kernel
theorem d_law_296 : decode code 296 = .ok (.iaload, 1) := by decide +kernel
theorem d_law_297 : decode code 297 = .ok (.aload_n 0, 1) := by decide +kernel
theorem d_law_298 : decode code 298 = .ok (.iload 4, 2) := by decide +kernel
theorem d_law_300 : decode code 300 = .ok (.iconst 2, 1) := by decide +kernel
theorem d_law_301 : decode code 301 = .ok (.iadd, 1) := by decide +kernel
theorem d_law_302 : decode code 302 = .ok (.iaload, 1) := by decide +kernel
theorem d_law_303 : decode code 303 = .ok (.aload_n 0, 1) := by decide +kernel
theorem d_law_304 : decode code 304 = .ok (.iload 4, 2) := by decide +kernel
theorem d_law_306 : decode code 306 = .ok (.iconst 3, 1) := by decide +kernel
theorem d_law_307 : decode code 307 = .ok (.iadd, 1) := by decide +kernel
theorem d_law_308 : decode code 308 = .ok (.iaload, 1) := by decide +kernel
theorem d_law_309 : decode code 309 = .ok (.invokevirtual 46, 3) := by decide +kernel
theorem d_law_312 : decode code 312 = .ok (.aload_n 2, 1) := by decide +kernel
theorem d_law_313 : decode code 313 = .ok (.aload_n 0, 1) := by decide +kernel
theorem d_law_314 : decode code 314 = .ok (.iload 4, 2) := by decide +kernel
theorem d_law_316 : decode code 316 = .ok (.iconst 1, 1) := by decide +kernel
theorem d_law_317 : decode code 317 = .ok (.iadd, 1) := by decide +kernel
theorem d_law_318 : decode code 318 = .ok (.iaload, 1) := by decide +kernel
theorem d_law_319 : decode code 319 = .ok (.aload_n 0, 1) := by decide +kernel
theorem d_law_320 : decode code 320 = .ok (.iload 4, 2) := by decide +kernel
theorem d_law_322 : decode code 322 = .ok (.iconst 2, 1) := by decide +kernel
theorem d_law_323 : decode code 323 = .ok (.iadd, 1) := by decide +kernel
theorem d_law_324 : decode code 324 = .ok (.iaload, 1) := by decide +kernel
theorem d_law_325 : decode code 325 = .ok (.aload_n 0, 1) := by decide +kernel
theorem d_law_326 : decode code 326 = .ok (.iload 4, 2) := by decide +kernel
theorem d_law_328 : decode code 328 = .ok (.iconst 3, 1) := by decide +kernel
theorem d_law_329 : decode code 329 = .ok (.iadd, 1) := by decide +kernel
theorem d_law_330 : decode code 330 = .ok (.iaload, 1) := by decide +kernel
theorem d_law_331 : decode code 331 = .ok (.invokevirtual 50, 3) := by decide +kernel
theorem d_law_334 : decode code 334 = .ok (.if_icmp .eq 144, 3) := by decide +kernel
theorem d_law_337 : decode code 337 = .ok (.iconst 0, 1) := by decide +kernel
theorem d_law_338 : decode code 338 = .ok (.ireturn, 1) := by decide +kernel
theorem d_law_339 : decode code 339 = .ok (.aload_n 1, 1) := by decide +kernel
theorem d_law_340 : decode code 340 = .ok (.aload_n 0, 1) := by decide +kernel
theorem d_law_341 : decode code 341 = .ok (.iload 4, 2) := by decide +kernel
theorem d_law_343 : decode code 343 = .ok (.iconst 1, 1) := by decide +kernel
theorem d_law_344 : decode code 344 = .ok (.iadd, 1) := by decide +kernel
theorem d_law_345 : decode code 345 = .ok (.iaload, 1) := by decide +kernel
theorem d_law_346 : decode code 346 = .ok (.ifCond .eq 7, 3) := by decide +kernel
theorem d_law_349 : decode code 349 = .ok (.iconst 1, 1) := by decide +kernel
theorem d_law_350 : decode code 350 = .ok (.goto 4, 3) := by decide +kernel
theorem d_law_353 : decode code 353 = .ok (.iconst 0, 1) := by decide +kernel
theorem d_law_354 : decode code 354 = .ok (.aload_n 0, 1) := by decide +kernel
theorem d_law_355 : decode code 355 = .ok (.iload 4, 2) := by decide +kernel
theorem d_law_357 : decode code 357 = .ok (.iconst 2, 1) := by decide +kernel
theorem d_law_358 : decode code 358 = .ok (.iadd, 1) := by decide +kernel
theorem d_law_359 : decode code 359 = .ok (.iaload, 1) := by decide +kernel
theorem d_law_360 : decode code 360 = .ok (.invokevirtual 51, 3) := by decide +kernel
theorem d_law_363 : decode code 363 = .ok (.aload_n 2, 1) := by decide +kernel
theorem d_law_364 : decode code 364 = .ok (.aload_n 0, 1) := by decide +kernel
theorem d_law_365 : decode code 365 = .ok (.iload 4, 2) := by decide +kernel
theorem d_law_367 : decode code 367 = .ok (.iconst 1, 1) := by decide +kernel
theorem d_law_368 : decode code 368 = .ok (.iadd, 1) := by decide +kernel
theorem d_law_369 : decode code 369 = .ok (.iaload, 1) := by decide +kernel
theorem d_law_370 : decode code 370 = .ok (.ifCond .eq 7, 3) := by decide +kernel
theorem d_law_373 : decode code 373 = .ok (.iconst 1, 1) := by decide +kernel
theorem d_law_374 : decode code 374 = .ok (.goto 4, 3) := by decide +kernel
theorem d_law_377 : decode code 377 = .ok (.iconst 0, 1) := by decide +kernel
theorem d_law_378 : decode code 378 = .ok (.aload_n 0, 1) := by decide +kernel
theorem d_law_379 : decode code 379 = .ok (.iload 4, 2) := by decide +kernel
theorem d_law_381 : decode code 381 = .ok (.iconst 2, 1) := by decide +kernel
theorem d_law_382 : decode code 382 = .ok (.iadd, 1) := by decide +kernel
theorem d_law_383 : decode code 383 = .ok (.iaload, 1) := by decide +kernel
theorem d_law_384 : decode code 384 = .ok (.invokevirtual 55, 3) := by decide +kernel
theorem d_law_387 : decode code 387 = .ok (.if_icmp .eq 91, 3) := by decide +kernel
theorem d_law_390 : decode code 390 = .ok (.iconst 0, 1) := by decide +kernel
theorem d_law_391 : decode code 391 = .ok (.ireturn, 1) := by decide +kernel
theorem d_law_392 : decode code 392 = .ok (.aload_n 1, 1) := by decide +kernel
theorem d_law_393 : decode code 393 = .ok (.invokevirtual 56, 3) := by decide +kernel
theorem d_law_396 : decode code 396 = .ok (.aload_n 2, 1) := by decide +kernel
theorem d_law_397 : decode code 397 = .ok (.invokevirtual 59, 3) := by decide +kernel
theorem d_law_400 : decode code 400 = .ok (.goto 78, 3) := by decide +kernel
theorem d_law_403 : decode code 403 = .ok (.aload_n 1, 1) := by decide +kernel
theorem d_law_404 : decode code 404 = .ok (.invokevirtual 60, 3) := by decide +kernel
theorem d_law_407 : decode code 407 = .ok (.aload_n 2, 1) := by decide +kernel
theorem d_law_408 : decode code 408 = .ok (.invokevirtual 63, 3) := by decide +kernel
theorem d_law_411 : decode code 411 = .ok (.if_icmp .eq 67, 3) := by decide +kernel
theorem d_law_414 : decode code 414 = .ok (.iconst 0, 1) := by decide +kernel
theorem d_law_415 : decode code 415 = .ok (.ireturn, 1) := by decide +kernel
theorem d_law_416 : decode code 416 = .ok (.aload_n 1, 1) := by decide +kernel
theorem d_law_417 : decode code 417 = .ok (.aload_n 0, 1) := by decide +kernel
theorem d_law_418 : decode code 418 = .ok (.iload 4, 2) := by decide +kernel
theorem d_law_420 : decode code 420 = .ok (.iconst 1, 1) := by decide +kernel
theorem d_law_421 : decode code 421 = .ok (.iadd, 1) := by decide +kernel
theorem d_law_422 : decode code 422 = .ok (.iaload, 1) := by decide +kernel
theorem d_law_423 : decode code 423 = .ok (.aload_n 0, 1) := by decide +kernel
theorem d_law_424 : decode code 424 = .ok (.iload 4, 2) := by decide +kernel
theorem d_law_426 : decode code 426 = .ok (.iconst 2, 1) := by decide +kernel
theorem d_law_427 : decode code 427 = .ok (.iadd, 1) := by decide +kernel
theorem d_law_428 : decode code 428 = .ok (.iaload, 1) := by decide +kernel
theorem d_law_429 : decode code 429 = .ok (.invokevirtual 64, 3) := by decide +kernel
theorem d_law_432 : decode code 432 = .ok (.aload_n 2, 1) := by decide +kernel
theorem d_law_433 : decode code 433 = .ok (.aload_n 0, 1) := by decide +kernel
theorem d_law_434 : decode code 434 = .ok (.iload 4, 2) := by decide +kernel
theorem d_law_436 : decode code 436 = .ok (.iconst 1, 1) := by decide +kernel
theorem d_law_437 : decode code 437 = .ok (.iadd, 1) := by decide +kernel
theorem d_law_438 : decode code 438 = .ok (.iaload, 1) := by decide +kernel
theorem d_law_439 : decode code 439 = .ok (.aload_n 0, 1) := by decide +kernel
theorem d_law_440 : decode code 440 = .ok (.iload 4, 2) := by decide +kernel
theorem d_law_442 : decode code 442 = .ok (.iconst 2, 1) := by decide +kernel
theorem d_law_443 : decode code 443 = .ok (.iadd, 1) := by decide +kernel
theorem d_law_444 : decode code 444 = .ok (.iaload, 1) := by decide +kernel
theorem d_law_445 : decode code 445 = .ok (.invokevirtual 68, 3) := by decide +kernel
theorem d_law_448 : decode code 448 = .ok (.if_icmp .eq 30, 3) := by decide +kernel
theorem d_law_451 : decode code 451 = .ok (.iconst 0, 1) := by decide +kernel
theorem d_law_452 : decode code 452 = .ok (.ireturn, 1) := by decide +kernel
theorem d_law_453 : decode code 453 = .ok (.aload_n 1, 1) := by decide +kernel
theorem d_law_454 : decode code 454 = .ok (.aload_n 0, 1) := by decide +kernel
theorem d_law_455 : decode code 455 = .ok (.iload 4, 2) := by decide +kernel
theorem d_law_457 : decode code 457 = .ok (.iconst 1, 1) := by decide +kernel
theorem d_law_458 : decode code 458 = .ok (.iadd, 1) := by decide +kernel
theorem d_law_459 : decode code 459 = .ok (.iaload, 1) := by decide +kernel
theorem d_law_460 : decode code 460 = .ok (.invokevirtual 69, 3) := by decide +kernel
theorem d_law_463 : decode code 463 = .ok (.aload_n 2, 1) := by decide +kernel
theorem d_law_464 : decode code 464 = .ok (.aload_n 0, 1) := by decide +kernel
theorem d_law_465 : decode code 465 = .ok (.iload 4, 2) := by decide +kernel
theorem d_law_467 : decode code 467 = .ok (.iconst 1, 1) := by decide +kernel
theorem d_law_468 : decode code 468 = .ok (.iadd, 1) := by decide +kernel
theorem d_law_469 : decode code 469 = .ok (.iaload, 1) := by decide +kernel
theorem d_law_470 : decode code 470 = .ok (.invokevirtual 72, 3) := by decide +kernel
theorem d_law_473 : decode code 473 = .ok (.if_icmp .eq 5, 3) := by decide +kernel
theorem d_law_476 : decode code 476 = .ok (.iconst 0, 1) := by decide +kernel
theorem d_law_477 : decode code 477 = .ok (.ireturn, 1) := by decide +kernel
theorem d_law_478 : decode code 478 = .ok (.iinc 4 6, 3) := by decide +kernel
theorem d_law_481 : decode code 481 = .ok (.goto (-458), 3) := by decide +kernel
theorem d_law_484 : decode code 484 = .ok (.iconst 1, 1) := by decide +kernel
theorem d_law_485 : decode code 485 = .ok (.ireturn, 1) := by decide +kernel
theorem tb_0 : Cond.initialized R_L ∈ TB := tb_mem (i := 63) (by decide +kernel) (by decide +kernel)
theorem tb_18 : Cond.classLink R_L 8 R_F ∈ TB := tb_mem (i := 81) (by decide +kernel) (by decide +kernel)
theorem tb_19 : Cond.instantiable R_F 6 ∈ TB := tb_mem (i := 82) (by decide +kernel) (by decide +kernel)
theorem tb_20 : Cond.methodLink R_L 15 y_F_init ∈ TB := tb_mem (i := 83) (by decide +kernel) (by decide +kernel)
theorem tb_21 : Cond.instanceMethod y_F_init ∈ TB := tb_mem (i := 84) (by decide +kernel) (by decide +kernel)
theorem tb_22 : Cond.code y_F_init b_F_init 1 none ∈ TB := tb_mem (i := 85) (by decide +kernel) (by decide +kernel)
theorem tb_268 : Cond.methodLink R_L 19 y_F_feed ∈ TB := tb_mem (i := 331) (by decide +kernel) (by decide +kernel)
theorem tb_269 : Cond.instanceMethod y_F_feed ∈ TB := tb_mem (i := 332) (by decide +kernel) (by decide +kernel)
theorem tb_270 : Cond.selects R_F y_F_feed y_F_feed ∈ TB := tb_mem (i := 333) (by decide +kernel) (by decide +kernel)
theorem tb_271 : Cond.code y_F_feed b_F_feed 6 none ∈ TB := tb_mem (i := 334) (by decide +kernel) (by decide +kernel)
theorem tb_276 : Cond.methodLink R_L 24 y_F_end ∈ TB := tb_mem (i := 339) (by decide +kernel) (by decide +kernel)
theorem tb_277 : Cond.instanceMethod y_F_end ∈ TB := tb_mem (i := 340) (by decide +kernel) (by decide +kernel)
theorem tb_278 : Cond.selects R_F y_F_end y_F_end ∈ TB := tb_mem (i := 341) (by decide +kernel) (by decide +kernel)
theorem tb_279 : Cond.code y_F_end b_F_end 2 (some .int) ∈ TB := tb_mem (i := 342) (by decide +kernel) (by decide +kernel)
theorem tb_284 : Cond.methodLink R_L 38 y_F_fault ∈ TB := tb_mem (i := 347) (by decide +kernel) (by decide +kernel)
theorem tb_285 : Cond.instanceMethod y_F_fault ∈ TB := tb_mem (i := 348) (by decide +kernel) (by decide +kernel)
theorem tb_286 : Cond.selects R_F y_F_fault y_F_fault ∈ TB := tb_mem (i := 349) (by decide +kernel) (by decide +kernel)
theorem tb_287 : Cond.code y_F_fault b_F_fault 2 (some .int) ∈ TB := tb_mem (i := 350) (by decide +kernel) (by decide +kernel)
theorem tb_296 : Cond.methodLink R_L 42 y_F_many ∈ TB := tb_mem (i := 359) (by decide +kernel) (by decide +kernel)
theorem tb_297 : Cond.instanceMethod y_F_many ∈ TB := tb_mem (i := 360) (by decide +kernel) (by decide +kernel)
theorem tb_298 : Cond.selects R_F y_F_many y_F_many ∈ TB := tb_mem (i := 361) (by decide +kernel) (by decide +kernel)
theorem tb_299 : Cond.code y_F_many b_F_many 2 (some .int) ∈ TB := tb_mem (i := 362) (by decide +kernel) (by decide +kernel)
theorem tb_300 : Cond.methodLink R_L 46 y_F_symbol ∈ TB := tb_mem (i := 363) (by decide +kernel) (by decide +kernel)
theorem tb_301 : Cond.instanceMethod y_F_symbol ∈ TB := tb_mem (i := 364) (by decide +kernel) (by decide +kernel)
theorem tb_302 : Cond.selects R_F y_F_symbol y_F_symbol ∈ TB := tb_mem (i := 365) (by decide +kernel) (by decide +kernel)
theorem tb_303 : Cond.code y_F_symbol b_F_symbol 5 (some .int) ∈ TB := tb_mem (i := 366) (by decide +kernel) (by decide +kernel)
theorem tb_311 : Cond.methodLink R_L 51 y_F_form ∈ TB := tb_mem (i := 374) (by decide +kernel) (by decide +kernel)
theorem tb_312 : Cond.instanceMethod y_F_form ∈ TB := tb_mem (i := 375) (by decide +kernel) (by decide +kernel)
theorem tb_313 : Cond.selects R_F y_F_form y_F_form ∈ TB := tb_mem (i := 376) (by decide +kernel) (by decide +kernel)
theorem tb_314 : Cond.code y_F_form b_F_form 3 (some .int) ∈ TB := tb_mem (i := 377) (by decide +kernel) (by decide +kernel)
theorem tb_413 : Cond.methodLink R_L 56 y_F_reset ∈ TB := tb_mem (i := 476) (by decide +kernel) (by decide +kernel)
theorem tb_414 : Cond.instanceMethod y_F_reset ∈ TB := tb_mem (i := 477) (by decide +kernel) (by decide +kernel)
theorem tb_415 : Cond.selects R_F y_F_reset y_F_reset ∈ TB := tb_mem (i := 478) (by decide +kernel) (by decide +kernel)
theorem tb_416 : Cond.code y_F_reset b_F_reset 1 none ∈ TB := tb_mem (i := 479) (by decide +kernel) (by decide +kernel)
theorem tb_417 : Cond.methodLink R_L 60 y_F_state ∈ TB := tb_mem (i := 480) (by decide +kernel) (by decide +kernel)
theorem tb_418 : Cond.instanceMethod y_F_state ∈ TB := tb_mem (i := 481) (by decide +kernel) (by decide +kernel)
theorem tb_419 : Cond.selects R_F y_F_state y_F_state ∈ TB := tb_mem (i := 482) (by decide +kernel) (by decide +kernel)
theorem tb_420 : Cond.code y_F_state b_F_state 1 (some .int) ∈ TB := tb_mem (i := 483) (by decide +kernel) (by decide +kernel)
theorem tb_421 : Cond.methodLink R_L 64 y_F_value ∈ TB := tb_mem (i := 484) (by decide +kernel) (by decide +kernel)
theorem tb_422 : Cond.instanceMethod y_F_value ∈ TB := tb_mem (i := 485) (by decide +kernel) (by decide +kernel)
theorem tb_423 : Cond.selects R_F y_F_value y_F_value ∈ TB := tb_mem (i := 486) (by decide +kernel) (by decide +kernel)
theorem tb_424 : Cond.code y_F_value b_F_value 3 (some .int) ∈ TB := tb_mem (i := 487) (by decide +kernel) (by decide +kernel)
theorem tb_442 : Cond.methodLink R_L 69 y_F_step ∈ TB := tb_mem (i := 505) (by decide +kernel) (by decide +kernel)
theorem tb_443 : Cond.instanceMethod y_F_step ∈ TB := tb_mem (i := 506) (by decide +kernel) (by decide +kernel)
theorem tb_444 : Cond.selects R_F y_F_step y_F_step ∈ TB := tb_mem (i := 507) (by decide +kernel) (by decide +kernel)
theorem tb_445 : Cond.code y_F_step b_F_step 3 (some .int) ∈ TB := tb_mem (i := 508) (by decide +kernel) (by decide +kernel)
theorem tb_450 : Cond.methodLink R_L 29 y_L_load ∈ TB := tb_mem (i := 513) (by decide +kernel) (by decide +kernel)
theorem tb_451 : Cond.static y_L_load ∈ TB := tb_mem (i := 514) (by decide +kernel) (by decide +kernel)
theorem tb_452 : Cond.codeWith y_L_load b_L_load 3 (some .int) [(0, 8, 11, 13)] ∈ TB := tb_mem (i := 515) (by decide +kernel) (by decide +kernel)
theorem tb_666 : Cond.classLink R_L 16 R_M ∈ TB := tb_mem (i := 729) (by decide +kernel) (by decide +kernel)
theorem tb_667 : Cond.instantiable R_M 34 ∈ TB := tb_mem (i := 730) (by decide +kernel) (by decide +kernel)
theorem tb_668 : Cond.methodLink R_L 18 y_M_init ∈ TB := tb_mem (i := 731) (by decide +kernel) (by decide +kernel)
theorem tb_669 : Cond.instanceMethod y_M_init ∈ TB := tb_mem (i := 732) (by decide +kernel) (by decide +kernel)
theorem tb_670 : Cond.code y_M_init b_M_init 1 none ∈ TB := tb_mem (i := 733) (by decide +kernel) (by decide +kernel)
theorem tb_775 : Cond.methodLink R_L 35 y_M_thrown ∈ TB := tb_mem (i := 838) (by decide +kernel) (by decide +kernel)
theorem tb_776 : Cond.instanceMethod y_M_thrown ∈ TB := tb_mem (i := 839) (by decide +kernel) (by decide +kernel)
theorem tb_777 : Cond.selects R_M y_M_thrown y_M_thrown ∈ TB := tb_mem (i := 840) (by decide +kernel) (by decide +kernel)
theorem tb_778 : Cond.code y_M_thrown b_M_thrown 1 (some .int) ∈ TB := tb_mem (i := 841) (by decide +kernel) (by decide +kernel)
theorem tb_779 : Cond.methodLink R_L 23 y_M_feed ∈ TB := tb_mem (i := 842) (by decide +kernel) (by decide +kernel)
theorem tb_780 : Cond.instanceMethod y_M_feed ∈ TB := tb_mem (i := 843) (by decide +kernel) (by decide +kernel)
theorem tb_781 : Cond.selects R_M y_M_feed y_M_feed ∈ TB := tb_mem (i := 844) (by decide +kernel) (by decide +kernel)
theorem tb_782 : Cond.code y_M_feed b_M_feed 8 none ∈ TB := tb_mem (i := 845) (by decide +kernel) (by decide +kernel)
theorem tb_783 : Cond.methodLink R_L 28 y_M_end ∈ TB := tb_mem (i := 846) (by decide +kernel) (by decide +kernel)
theorem tb_784 : Cond.instanceMethod y_M_end ∈ TB := tb_mem (i := 847) (by decide +kernel) (by decide +kernel)
theorem tb_785 : Cond.selects R_M y_M_end y_M_end ∈ TB := tb_mem (i := 848) (by decide +kernel) (by decide +kernel)
theorem tb_786 : Cond.code y_M_end b_M_end 3 (some .int) ∈ TB := tb_mem (i := 849) (by decide +kernel) (by decide +kernel)
theorem tb_787 : Cond.methodLink R_L 34 y_M_load ∈ TB := tb_mem (i := 850) (by decide +kernel) (by decide +kernel)
theorem tb_788 : Cond.instanceMethod y_M_load ∈ TB := tb_mem (i := 851) (by decide +kernel) (by decide +kernel)
theorem tb_789 : Cond.selects R_M y_M_load y_M_load ∈ TB := tb_mem (i := 852) (by decide +kernel) (by decide +kernel)
theorem tb_790 : Cond.code y_M_load b_M_load 2 (some .int) ∈ TB := tb_mem (i := 853) (by decide +kernel) (by decide +kernel)
theorem tb_879 : Cond.methodLink R_L 41 y_M_fault ∈ TB := tb_mem (i := 942) (by decide +kernel) (by decide +kernel)
theorem tb_880 : Cond.instanceMethod y_M_fault ∈ TB := tb_mem (i := 943) (by decide +kernel) (by decide +kernel)
theorem tb_881 : Cond.selects R_M y_M_fault y_M_fault ∈ TB := tb_mem (i := 944) (by decide +kernel) (by decide +kernel)
theorem tb_882 : Cond.code y_M_fault b_M_fault 2 (some .int) ∈ TB := tb_mem (i := 945) (by decide +kernel) (by decide +kernel)
theorem tb_883 : Cond.methodLink R_L 45 y_M_many ∈ TB := tb_mem (i := 946) (by decide +kernel) (by decide +kernel)
theorem tb_884 : Cond.instanceMethod y_M_many ∈ TB := tb_mem (i := 947) (by decide +kernel) (by decide +kernel)
theorem tb_885 : Cond.selects R_M y_M_many y_M_many ∈ TB := tb_mem (i := 948) (by decide +kernel) (by decide +kernel)
theorem tb_886 : Cond.code y_M_many b_M_many 2 (some .int) ∈ TB := tb_mem (i := 949) (by decide +kernel) (by decide +kernel)
theorem tb_887 : Cond.methodLink R_L 50 y_M_symbol ∈ TB := tb_mem (i := 950) (by decide +kernel) (by decide +kernel)
theorem tb_888 : Cond.instanceMethod y_M_symbol ∈ TB := tb_mem (i := 951) (by decide +kernel) (by decide +kernel)
theorem tb_889 : Cond.selects R_M y_M_symbol y_M_symbol ∈ TB := tb_mem (i := 952) (by decide +kernel) (by decide +kernel)
theorem tb_890 : Cond.code y_M_symbol b_M_symbol 4 (some .int) ∈ TB := tb_mem (i := 953) (by decide +kernel) (by decide +kernel)
theorem tb_894 : Cond.methodLink R_L 55 y_M_form ∈ TB := tb_mem (i := 957) (by decide +kernel) (by decide +kernel)
theorem tb_895 : Cond.instanceMethod y_M_form ∈ TB := tb_mem (i := 958) (by decide +kernel) (by decide +kernel)
theorem tb_896 : Cond.selects R_M y_M_form y_M_form ∈ TB := tb_mem (i := 959) (by decide +kernel) (by decide +kernel)
theorem tb_897 : Cond.code y_M_form b_M_form 3 (some .int) ∈ TB := tb_mem (i := 960) (by decide +kernel) (by decide +kernel)
theorem tb_934 : Cond.methodLink R_L 59 y_M_reset ∈ TB := tb_mem (i := 997) (by decide +kernel) (by decide +kernel)
theorem tb_935 : Cond.instanceMethod y_M_reset ∈ TB := tb_mem (i := 998) (by decide +kernel) (by decide +kernel)
theorem tb_936 : Cond.selects R_M y_M_reset y_M_reset ∈ TB := tb_mem (i := 999) (by decide +kernel) (by decide +kernel)
theorem tb_937 : Cond.code y_M_reset b_M_reset 1 none ∈ TB := tb_mem (i := 1000) (by decide +kernel) (by decide +kernel)
theorem tb_938 : Cond.methodLink R_L 63 y_M_state ∈ TB := tb_mem (i := 1001) (by decide +kernel) (by decide +kernel)
theorem tb_939 : Cond.instanceMethod y_M_state ∈ TB := tb_mem (i := 1002) (by decide +kernel) (by decide +kernel)
theorem tb_940 : Cond.selects R_M y_M_state y_M_state ∈ TB := tb_mem (i := 1003) (by decide +kernel) (by decide +kernel)
theorem tb_941 : Cond.code y_M_state b_M_state 1 (some .int) ∈ TB := tb_mem (i := 1004) (by decide +kernel) (by decide +kernel)
theorem tb_942 : Cond.methodLink R_L 68 y_M_value ∈ TB := tb_mem (i := 1005) (by decide +kernel) (by decide +kernel)
theorem tb_943 : Cond.instanceMethod y_M_value ∈ TB := tb_mem (i := 1006) (by decide +kernel) (by decide +kernel)
theorem tb_944 : Cond.selects R_M y_M_value y_M_value ∈ TB := tb_mem (i := 1007) (by decide +kernel) (by decide +kernel)
theorem tb_945 : Cond.code y_M_value b_M_value 3 (some .int) ∈ TB := tb_mem (i := 1008) (by decide +kernel) (by decide +kernel)
theorem tb_954 : Cond.methodLink R_L 72 y_M_step ∈ TB := tb_mem (i := 1017) (by decide +kernel) (by decide +kernel)
theorem tb_955 : Cond.instanceMethod y_M_step ∈ TB := tb_mem (i := 1018) (by decide +kernel) (by decide +kernel)
theorem tb_956 : Cond.selects R_M y_M_step y_M_step ∈ TB := tb_mem (i := 1019) (by decide +kernel) (by decide +kernel)
theorem tb_957 : Cond.code y_M_step b_M_step 5 (some .int) ∈ TB := tb_mem (i := 1020) (by decide +kernel) (by decide +kernel)
theorem tb_958 : Cond.arrayClass .long ∈ TB := tb_mem (i := 1021) (by decide +kernel) (by decide +kernel)
theorem cw_L_19 {p : Program} {R : Room} {s : State} {m : MethodId} {args : Array Value} {meth : Method} {c : Code} {cc : ByteArray} {nL : Nat} {D : va_G} {sx : Nat → Nat} {tys : List (ClassId × FieldType)} {A : Nat → Prop} {ret : Option FieldType} (hC : CX p s m args meth c cc R_L TB nL D vwCl tys A (SPl sx) ret) (hR : ({ frames := 1, cells := 0, slots := 0, locals := 23 } : Room).frames + 1 ≤ R.frames ∧ 8 + (6 + 11) + ({ frames := 1, cells := 0, slots := 0, locals := 23 } : Room).locals ≤ R.locals := by exact ⟨Nat.le_of_ble_eq_true rfl, Nat.le_of_ble_eq_true rfl⟩) : CallW R s args R_L R_F 19 y_F_feed b_F_feed 6 none (Cond.code y_F_feed b_F_feed 6 none :: TB) ({ frames := 1, cells := 0, slots := 0, locals := 23 } : Room) 0 0 5 := cwV 5 hC.2.2.2.2.1 (gV tb_268 tb_269 tb_270 tb_1 tb_271) rfl rfl rfl (by decide +kernel) hR
theorem cw_L_23 {p : Program} {R : Room} {s : State} {m : MethodId} {args : Array Value} {meth : Method} {c : Code} {cc : ByteArray} {nL : Nat} {D : va_G} {sx : Nat → Nat} {tys : List (ClassId × FieldType)} {A : Nat → Prop} {ret : Option FieldType} (hC : CX p s m args meth c cc R_L TB nL D vwCl tys A (SPl sx) ret) (hR : ({ frames := 0, cells := 0, slots := 0, locals := 0 } : Room).frames + 1 ≤ R.frames ∧ 8 + (8 + 11) + ({ frames := 0, cells := 0, slots := 0, locals := 0 } : Room).locals ≤ R.locals := by exact ⟨Nat.le_of_ble_eq_true rfl, Nat.le_of_ble_eq_true rfl⟩) : CallW R s args R_L R_M 23 y_M_feed b_M_feed 8 none (Cond.code y_M_feed b_M_feed 8 none :: TB) ({ frames := 0, cells := 0, slots := 0, locals := 0 } : Room) 0 0 5 := cwV 5 hC.2.2.2.2.1 (gV tb_779 tb_780 tb_781 tb_8 tb_782) rfl rfl rfl (by decide +kernel) hR
theorem cw_L_24 {p : Program} {R : Room} {s : State} {m : MethodId} {args : Array Value} {meth : Method} {c : Code} {cc : ByteArray} {nL : Nat} {D : va_G} {sx : Nat → Nat} {tys : List (ClassId × FieldType)} {A : Nat → Prop} {ret : Option FieldType} (hC : CX p s m args meth c cc R_L TB nL D vwCl tys A (SPl sx) ret) (hR : ({ frames := 1, cells := 0, slots := 0, locals := 22 } : Room).frames + 1 ≤ R.frames ∧ 8 + (2 + 11) + ({ frames := 1, cells := 0, slots := 0, locals := 22 } : Room).locals ≤ R.locals := by exact ⟨Nat.le_of_ble_eq_true rfl, Nat.le_of_ble_eq_true rfl⟩) : CallW R s args R_L R_F 24 y_F_end b_F_end 2 (some .int) (Cond.code y_F_end b_F_end 2 (some .int) :: TB) ({ frames := 1, cells := 0, slots := 0, locals := 22 } : Room) 0 0 1 := cwV 1 hC.2.2.2.2.1 (gV tb_276 tb_277 tb_278 tb_1 tb_279) rfl rfl rfl (by decide +kernel) hR
theorem cw_L_28 {p : Program} {R : Room} {s : State} {m : MethodId} {args : Array Value} {meth : Method} {c : Code} {cc : ByteArray} {nL : Nat} {D : va_G} {sx : Nat → Nat} {tys : List (ClassId × FieldType)} {A : Nat → Prop} {ret : Option FieldType} (hC : CX p s m args meth c cc R_L TB nL D vwCl tys A (SPl sx) ret) (hR : ({ frames := 0, cells := 0, slots := 0, locals := 0 } : Room).frames + 1 ≤ R.frames ∧ 8 + (3 + 11) + ({ frames := 0, cells := 0, slots := 0, locals := 0 } : Room).locals ≤ R.locals := by exact ⟨Nat.le_of_ble_eq_true rfl, Nat.le_of_ble_eq_true rfl⟩) : CallW R s args R_L R_M 28 y_M_end b_M_end 3 (some .int) (Cond.code y_M_end b_M_end 3 (some .int) :: TB) ({ frames := 0, cells := 0, slots := 0, locals := 0 } : Room) 0 0 1 := cwV 1 hC.2.2.2.2.1 (gV tb_783 tb_784 tb_785 tb_8 tb_786) rfl rfl rfl (by decide +kernel) hR
theorem cw_L_34 {p : Program} {R : Room} {s : State} {m : MethodId} {args : Array Value} {meth : Method} {c : Code} {cc : ByteArray} {nL : Nat} {D : va_G} {sx : Nat → Nat} {tys : List (ClassId × FieldType)} {A : Nat → Prop} {ret : Option FieldType} (hC : CX p s m args meth c cc R_L TB nL D vwCl tys A (SPl sx) ret) (hR : ({ frames := 6, cells := 0, slots := 0, locals := 127 } : Room).frames + 1 ≤ R.frames ∧ 8 + (2 + 11) + ({ frames := 6, cells := 0, slots := 0, locals := 127 } : Room).locals ≤ R.locals := by exact ⟨Nat.le_of_ble_eq_true rfl, Nat.le_of_ble_eq_true rfl⟩) : CallW R s args R_L R_M 34 y_M_load b_M_load 2 (some .int) (Cond.code y_M_load b_M_load 2 (some .int) :: TB) ({ frames := 6, cells := 0, slots := 0, locals := 127 } : Room) 0 0 0 := cwV 0 hC.2.2.2.2.1 (gV tb_787 tb_788 tb_789 tb_8 tb_790) rfl rfl rfl (by decide +kernel) hR
theorem cw_L_35 {p : Program} {R : Room} {s : State} {m : MethodId} {args : Array Value} {meth : Method} {c : Code} {cc : ByteArray} {nL : Nat} {D : va_G} {sx : Nat → Nat} {tys : List (ClassId × FieldType)} {A : Nat → Prop} {ret : Option FieldType} (hC : CX p s m args meth c cc R_L TB nL D vwCl tys A (SPl sx) ret) (hR : ({ frames := 0, cells := 0, slots := 0, locals := 0 } : Room).frames + 1 ≤ R.frames ∧ 8 + (1 + 11) + ({ frames := 0, cells := 0, slots := 0, locals := 0 } : Room).locals ≤ R.locals := by exact ⟨Nat.le_of_ble_eq_true rfl, Nat.le_of_ble_eq_true rfl⟩) : CallW R s args R_L R_M 35 y_M_thrown b_M_thrown 1 (some .int) (Cond.code y_M_thrown b_M_thrown 1 (some .int) :: TB) ({ frames := 0, cells := 0, slots := 0, locals := 0 } : Room) 0 0 0 := cwV 0 hC.2.2.2.2.1 (gV tb_775 tb_776 tb_777 tb_8 tb_778) rfl rfl rfl (by decide +kernel) hR
theorem cw_L_38 {p : Program} {R : Room} {s : State} {m : MethodId} {args : Array Value} {meth : Method} {c : Code} {cc : ByteArray} {nL : Nat} {D : va_G} {sx : Nat → Nat} {tys : List (ClassId × FieldType)} {A : Nat → Prop} {ret : Option FieldType} (hC : CX p s m args meth c cc R_L TB nL D vwCl tys A (SPl sx) ret) (hR : ({ frames := 1, cells := 0, slots := 0, locals := 20 } : Room).frames + 1 ≤ R.frames ∧ 8 + (2 + 11) + ({ frames := 1, cells := 0, slots := 0, locals := 20 } : Room).locals ≤ R.locals := by exact ⟨Nat.le_of_ble_eq_true rfl, Nat.le_of_ble_eq_true rfl⟩) : CallW R s args R_L R_F 38 y_F_fault b_F_fault 2 (some .int) (Cond.code y_F_fault b_F_fault 2 (some .int) :: TB) ({ frames := 1, cells := 0, slots := 0, locals := 20 } : Room) 0 0 1 := cwV 1 hC.2.2.2.2.1 (gV tb_284 tb_285 tb_286 tb_1 tb_287) rfl rfl rfl (by decide +kernel) hR
theorem cw_L_41 {p : Program} {R : Room} {s : State} {m : MethodId} {args : Array Value} {meth : Method} {c : Code} {cc : ByteArray} {nL : Nat} {D : va_G} {sx : Nat → Nat} {tys : List (ClassId × FieldType)} {A : Nat → Prop} {ret : Option FieldType} (hC : CX p s m args meth c cc R_L TB nL D vwCl tys A (SPl sx) ret) (hR : ({ frames := 0, cells := 0, slots := 0, locals := 0 } : Room).frames + 1 ≤ R.frames ∧ 8 + (2 + 11) + ({ frames := 0, cells := 0, slots := 0, locals := 0 } : Room).locals ≤ R.locals := by exact ⟨Nat.le_of_ble_eq_true rfl, Nat.le_of_ble_eq_true rfl⟩) : CallW R s args R_L R_M 41 y_M_fault b_M_fault 2 (some .int) (Cond.code y_M_fault b_M_fault 2 (some .int) :: TB) ({ frames := 0, cells := 0, slots := 0, locals := 0 } : Room) 0 0 1 := cwV 1 hC.2.2.2.2.1 (gV tb_879 tb_880 tb_881 tb_8 tb_882) rfl rfl rfl (by decide +kernel) hR
theorem cw_L_42 {p : Program} {R : Room} {s : State} {m : MethodId} {args : Array Value} {meth : Method} {c : Code} {cc : ByteArray} {nL : Nat} {D : va_G} {sx : Nat → Nat} {tys : List (ClassId × FieldType)} {A : Nat → Prop} {ret : Option FieldType} (hC : CX p s m args meth c cc R_L TB nL D vwCl tys A (SPl sx) ret) (hR : ({ frames := 0, cells := 0, slots := 0, locals := 0 } : Room).frames + 1 ≤ R.frames ∧ 8 + (2 + 11) + ({ frames := 0, cells := 0, slots := 0, locals := 0 } : Room).locals ≤ R.locals := by exact ⟨Nat.le_of_ble_eq_true rfl, Nat.le_of_ble_eq_true rfl⟩) : CallW R s args R_L R_F 42 y_F_many b_F_many 2 (some .int) (Cond.code y_F_many b_F_many 2 (some .int) :: TB) ({ frames := 0, cells := 0, slots := 0, locals := 0 } : Room) 0 0 1 := cwV 1 hC.2.2.2.2.1 (gV tb_296 tb_297 tb_298 tb_1 tb_299) rfl rfl rfl (by decide +kernel) hR
theorem cw_L_45 {p : Program} {R : Room} {s : State} {m : MethodId} {args : Array Value} {meth : Method} {c : Code} {cc : ByteArray} {nL : Nat} {D : va_G} {sx : Nat → Nat} {tys : List (ClassId × FieldType)} {A : Nat → Prop} {ret : Option FieldType} (hC : CX p s m args meth c cc R_L TB nL D vwCl tys A (SPl sx) ret) (hR : ({ frames := 0, cells := 0, slots := 0, locals := 0 } : Room).frames + 1 ≤ R.frames ∧ 8 + (2 + 11) + ({ frames := 0, cells := 0, slots := 0, locals := 0 } : Room).locals ≤ R.locals := by exact ⟨Nat.le_of_ble_eq_true rfl, Nat.le_of_ble_eq_true rfl⟩) : CallW R s args R_L R_M 45 y_M_many b_M_many 2 (some .int) (Cond.code y_M_many b_M_many 2 (some .int) :: TB) ({ frames := 0, cells := 0, slots := 0, locals := 0 } : Room) 0 0 1 := cwV 1 hC.2.2.2.2.1 (gV tb_883 tb_884 tb_885 tb_8 tb_886) rfl rfl rfl (by decide +kernel) hR
theorem cw_L_46 {p : Program} {R : Room} {s : State} {m : MethodId} {args : Array Value} {meth : Method} {c : Code} {cc : ByteArray} {nL : Nat} {D : va_G} {sx : Nat → Nat} {tys : List (ClassId × FieldType)} {A : Nat → Prop} {ret : Option FieldType} (hC : CX p s m args meth c cc R_L TB nL D vwCl tys A (SPl sx) ret) (hR : ({ frames := 1, cells := 0, slots := 0, locals := 21 } : Room).frames + 1 ≤ R.frames ∧ 8 + (5 + 11) + ({ frames := 1, cells := 0, slots := 0, locals := 21 } : Room).locals ≤ R.locals := by exact ⟨Nat.le_of_ble_eq_true rfl, Nat.le_of_ble_eq_true rfl⟩) : CallW R s args R_L R_F 46 y_F_symbol b_F_symbol 5 (some .int) (Cond.code y_F_symbol b_F_symbol 5 (some .int) :: TB) ({ frames := 1, cells := 0, slots := 0, locals := 21 } : Room) 0 0 3 := cwV 3 hC.2.2.2.2.1 (gV tb_300 tb_301 tb_302 tb_1 tb_303) rfl rfl rfl (by decide +kernel) hR
theorem cw_L_50 {p : Program} {R : Room} {s : State} {m : MethodId} {args : Array Value} {meth : Method} {c : Code} {cc : ByteArray} {nL : Nat} {D : va_G} {sx : Nat → Nat} {tys : List (ClassId × FieldType)} {A : Nat → Prop} {ret : Option FieldType} (hC : CX p s m args meth c cc R_L TB nL D vwCl tys A (SPl sx) ret) (hR : ({ frames := 1, cells := 0, slots := 0, locals := 21 } : Room).frames + 1 ≤ R.frames ∧ 8 + (4 + 11) + ({ frames := 1, cells := 0, slots := 0, locals := 21 } : Room).locals ≤ R.locals := by exact ⟨Nat.le_of_ble_eq_true rfl, Nat.le_of_ble_eq_true rfl⟩) : CallW R s args R_L R_M 50 y_M_symbol b_M_symbol 4 (some .int) (Cond.code y_M_symbol b_M_symbol 4 (some .int) :: TB) ({ frames := 1, cells := 0, slots := 0, locals := 21 } : Room) 0 0 3 := cwV 3 hC.2.2.2.2.1 (gV tb_887 tb_888 tb_889 tb_8 tb_890) rfl rfl rfl (by decide +kernel) hR
theorem cw_L_51 {p : Program} {R : Room} {s : State} {m : MethodId} {args : Array Value} {meth : Method} {c : Code} {cc : ByteArray} {nL : Nat} {D : va_G} {sx : Nat → Nat} {tys : List (ClassId × FieldType)} {A : Nat → Prop} {ret : Option FieldType} (hC : CX p s m args meth c cc R_L TB nL D vwCl tys A (SPl sx) ret) (hR : ({ frames := 6, cells := 0, slots := 0, locals := 130 } : Room).frames + 1 ≤ R.frames ∧ 8 + (3 + 11) + ({ frames := 6, cells := 0, slots := 0, locals := 130 } : Room).locals ≤ R.locals := by exact ⟨Nat.le_of_ble_eq_true rfl, Nat.le_of_ble_eq_true rfl⟩) : CallW R s args R_L R_F 51 y_F_form b_F_form 3 (some .int) (Cond.code y_F_form b_F_form 3 (some .int) :: TB) ({ frames := 6, cells := 0, slots := 0, locals := 130 } : Room) 0 0 2 := cwV 2 hC.2.2.2.2.1 (gV tb_311 tb_312 tb_313 tb_1 tb_314) rfl rfl rfl (by decide +kernel) hR
theorem cw_L_55 {p : Program} {R : Room} {s : State} {m : MethodId} {args : Array Value} {meth : Method} {c : Code} {cc : ByteArray} {nL : Nat} {D : va_G} {sx : Nat → Nat} {tys : List (ClassId × FieldType)} {A : Nat → Prop} {ret : Option FieldType} (hC : CX p s m args meth c cc R_L TB nL D vwCl tys A (SPl sx) ret) (hR : ({ frames := 3, cells := 0, slots := 0, locals := 69 } : Room).frames + 1 ≤ R.frames ∧ 8 + (3 + 11) + ({ frames := 3, cells := 0, slots := 0, locals := 69 } : Room).locals ≤ R.locals := by exact ⟨Nat.le_of_ble_eq_true rfl, Nat.le_of_ble_eq_true rfl⟩) : CallW R s args R_L R_M 55 y_M_form b_M_form 3 (some .int) (Cond.code y_M_form b_M_form 3 (some .int) :: TB) ({ frames := 3, cells := 0, slots := 0, locals := 69 } : Room) 0 0 2 := cwV 2 hC.2.2.2.2.1 (gV tb_894 tb_895 tb_896 tb_8 tb_897) rfl rfl rfl (by decide +kernel) hR
theorem cw_L_56 {p : Program} {R : Room} {s : State} {m : MethodId} {args : Array Value} {meth : Method} {c : Code} {cc : ByteArray} {nL : Nat} {D : va_G} {sx : Nat → Nat} {tys : List (ClassId × FieldType)} {A : Nat → Prop} {ret : Option FieldType} (hC : CX p s m args meth c cc R_L TB nL D vwCl tys A (SPl sx) ret) (hR : ({ frames := 0, cells := 0, slots := 0, locals := 0 } : Room).frames + 1 ≤ R.frames ∧ 8 + (1 + 11) + ({ frames := 0, cells := 0, slots := 0, locals := 0 } : Room).locals ≤ R.locals := by exact ⟨Nat.le_of_ble_eq_true rfl, Nat.le_of_ble_eq_true rfl⟩) : CallW R s args R_L R_F 56 y_F_reset b_F_reset 1 none (Cond.code y_F_reset b_F_reset 1 none :: TB) ({ frames := 0, cells := 0, slots := 0, locals := 0 } : Room) 0 0 0 := cwV 0 hC.2.2.2.2.1 (gV tb_413 tb_414 tb_415 tb_1 tb_416) rfl rfl rfl (by decide +kernel) hR
theorem cw_L_59 {p : Program} {R : Room} {s : State} {m : MethodId} {args : Array Value} {meth : Method} {c : Code} {cc : ByteArray} {nL : Nat} {D : va_G} {sx : Nat → Nat} {tys : List (ClassId × FieldType)} {A : Nat → Prop} {ret : Option FieldType} (hC : CX p s m args meth c cc R_L TB nL D vwCl tys A (SPl sx) ret) (hR : ({ frames := 0, cells := 0, slots := 0, locals := 0 } : Room).frames + 1 ≤ R.frames ∧ 8 + (1 + 11) + ({ frames := 0, cells := 0, slots := 0, locals := 0 } : Room).locals ≤ R.locals := by exact ⟨Nat.le_of_ble_eq_true rfl, Nat.le_of_ble_eq_true rfl⟩) : CallW R s args R_L R_M 59 y_M_reset b_M_reset 1 none (Cond.code y_M_reset b_M_reset 1 none :: TB) ({ frames := 0, cells := 0, slots := 0, locals := 0 } : Room) 0 0 0 := cwV 0 hC.2.2.2.2.1 (gV tb_934 tb_935 tb_936 tb_8 tb_937) rfl rfl rfl (by decide +kernel) hR
theorem cw_L_60 {p : Program} {R : Room} {s : State} {m : MethodId} {args : Array Value} {meth : Method} {c : Code} {cc : ByteArray} {nL : Nat} {D : va_G} {sx : Nat → Nat} {tys : List (ClassId × FieldType)} {A : Nat → Prop} {ret : Option FieldType} (hC : CX p s m args meth c cc R_L TB nL D vwCl tys A (SPl sx) ret) (hR : ({ frames := 0, cells := 0, slots := 0, locals := 0 } : Room).frames + 1 ≤ R.frames ∧ 8 + (1 + 11) + ({ frames := 0, cells := 0, slots := 0, locals := 0 } : Room).locals ≤ R.locals := by exact ⟨Nat.le_of_ble_eq_true rfl, Nat.le_of_ble_eq_true rfl⟩) : CallW R s args R_L R_F 60 y_F_state b_F_state 1 (some .int) (Cond.code y_F_state b_F_state 1 (some .int) :: TB) ({ frames := 0, cells := 0, slots := 0, locals := 0 } : Room) 0 0 0 := cwV 0 hC.2.2.2.2.1 (gV tb_417 tb_418 tb_419 tb_1 tb_420) rfl rfl rfl (by decide +kernel) hR
theorem cw_L_63 {p : Program} {R : Room} {s : State} {m : MethodId} {args : Array Value} {meth : Method} {c : Code} {cc : ByteArray} {nL : Nat} {D : va_G} {sx : Nat → Nat} {tys : List (ClassId × FieldType)} {A : Nat → Prop} {ret : Option FieldType} (hC : CX p s m args meth c cc R_L TB nL D vwCl tys A (SPl sx) ret) (hR : ({ frames := 0, cells := 0, slots := 0, locals := 0 } : Room).frames + 1 ≤ R.frames ∧ 8 + (1 + 11) + ({ frames := 0, cells := 0, slots := 0, locals := 0 } : Room).locals ≤ R.locals := by exact ⟨Nat.le_of_ble_eq_true rfl, Nat.le_of_ble_eq_true rfl⟩) : CallW R s args R_L R_M 63 y_M_state b_M_state 1 (some .int) (Cond.code y_M_state b_M_state 1 (some .int) :: TB) ({ frames := 0, cells := 0, slots := 0, locals := 0 } : Room) 0 0 0 := cwV 0 hC.2.2.2.2.1 (gV tb_938 tb_939 tb_940 tb_8 tb_941) rfl rfl rfl (by decide +kernel) hR
theorem cw_L_64 {p : Program} {R : Room} {s : State} {m : MethodId} {args : Array Value} {meth : Method} {c : Code} {cc : ByteArray} {nL : Nat} {D : va_G} {sx : Nat → Nat} {tys : List (ClassId × FieldType)} {A : Nat → Prop} {ret : Option FieldType} (hC : CX p s m args meth c cc R_L TB nL D vwCl tys A (SPl sx) ret) (hR : ({ frames := 2, cells := 0, slots := 0, locals := 44 } : Room).frames + 1 ≤ R.frames ∧ 8 + (3 + 11) + ({ frames := 2, cells := 0, slots := 0, locals := 44 } : Room).locals ≤ R.locals := by exact ⟨Nat.le_of_ble_eq_true rfl, Nat.le_of_ble_eq_true rfl⟩) : CallW R s args R_L R_F 64 y_F_value b_F_value 3 (some .int) (Cond.code y_F_value b_F_value 3 (some .int) :: TB) ({ frames := 2, cells := 0, slots := 0, locals := 44 } : Room) 0 0 2 := cwV 2 hC.2.2.2.2.1 (gV tb_421 tb_422 tb_423 tb_1 tb_424) rfl rfl rfl (by decide +kernel) hR
theorem cw_L_68 {p : Program} {R : Room} {s : State} {m : MethodId} {args : Array Value} {meth : Method} {c : Code} {cc : ByteArray} {nL : Nat} {D : va_G} {sx : Nat → Nat} {tys : List (ClassId × FieldType)} {A : Nat → Prop} {ret : Option FieldType} (hC : CX p s m args meth c cc R_L TB nL D vwCl tys A (SPl sx) ret) (hR : ({ frames := 4, cells := 0, slots := 0, locals := 88 } : Room).frames + 1 ≤ R.frames ∧ 8 + (3 + 11) + ({ frames := 4, cells := 0, slots := 0, locals := 88 } : Room).locals ≤ R.locals := by exact ⟨Nat.le_of_ble_eq_true rfl, Nat.le_of_ble_eq_true rfl⟩) : CallW R s args R_L R_M 68 y_M_value b_M_value 3 (some .int) (Cond.code y_M_value b_M_value 3 (some .int) :: TB) ({ frames := 4, cells := 0, slots := 0, locals := 88 } : Room) 0 0 2 := cwV 2 hC.2.2.2.2.1 (gV tb_942 tb_943 tb_944 tb_8 tb_945) rfl rfl rfl (by decide +kernel) hR
theorem cw_L_69 {p : Program} {R : Room} {s : State} {m : MethodId} {args : Array Value} {meth : Method} {c : Code} {cc : ByteArray} {nL : Nat} {D : va_G} {sx : Nat → Nat} {tys : List (ClassId × FieldType)} {A : Nat → Prop} {ret : Option FieldType} (hC : CX p s m args meth c cc R_L TB nL D vwCl tys A (SPl sx) ret) (hR : ({ frames := 2, cells := 0, slots := 0, locals := 45 } : Room).frames + 1 ≤ R.frames ∧ 8 + (3 + 11) + ({ frames := 2, cells := 0, slots := 0, locals := 45 } : Room).locals ≤ R.locals := by exact ⟨Nat.le_of_ble_eq_true rfl, Nat.le_of_ble_eq_true rfl⟩) : CallW R s args R_L R_F 69 y_F_step b_F_step 3 (some .int) (Cond.code y_F_step b_F_step 3 (some .int) :: TB) ({ frames := 2, cells := 0, slots := 0, locals := 45 } : Room) 0 0 1 := cwV 1 hC.2.2.2.2.1 (gV tb_442 tb_443 tb_444 tb_1 tb_445) rfl rfl rfl (by decide +kernel) hR
theorem cw_L_72 {p : Program} {R : Room} {s : State} {m : MethodId} {args : Array Value} {meth : Method} {c : Code} {cc : ByteArray} {nL : Nat} {D : va_G} {sx : Nat → Nat} {tys : List (ClassId × FieldType)} {A : Nat → Prop} {ret : Option FieldType} (hC : CX p s m args meth c cc R_L TB nL D vwCl tys A (SPl sx) ret) (hR : ({ frames := 4, cells := 0, slots := 0, locals := 88 } : Room).frames + 1 ≤ R.frames ∧ 8 + (5 + 11) + ({ frames := 4, cells := 0, slots := 0, locals := 88 } : Room).locals ≤ R.locals := by exact ⟨Nat.le_of_ble_eq_true rfl, Nat.le_of_ble_eq_true rfl⟩) : CallW R s args R_L R_M 72 y_M_step b_M_step 5 (some .int) (Cond.code y_M_step b_M_step 5 (some .int) :: TB) ({ frames := 4, cells := 0, slots := 0, locals := 88 } : Room) 0 0 1 := cwV 1 hC.2.2.2.2.1 (gV tb_954 tb_955 tb_956 tb_8 tb_957) rfl rfl rfl (by decide +kernel) hR
section VLAW
variable {p : Program} {l : Launch} {e : Env} {R : Room} {s : State} {m : MethodId} {args : Array Value} {below : List Frame} {meth : Method} {c : Code} {cells slots : Nat} {Q : State → Prop}
variable {cc : ByteArray} {own : String} {Ts : List Cond} {SP : (Nat → Prop) → State → Heap → Prop} {nL : Nat} {D : va_G} {cl : List vw_C} {tys : List (ClassId × FieldType)} {A : Nat → Prop} {ret : Option FieldType}
variable {ws ws2 : va_W} {pc : Nat} {L : List (Nat × Value)} {rest : List Value}
theorem vv_sld (hC : CX p s m args meth c cc own Ts nL D cl tys A SP ret) {b Ln : Nat} {xs : Nat → Int32} (hX : va_X b Ln xs s s.heap) (hbl : b < s.heap.size) (hbA : ¬ A b) {i : Int32} (hin : vp_in i Ln) (hdg : decode cc pc = .ok (.iaload, 1)) (k : VV p l e R s m args below meth c nL D cl A cells slots Q ws (pc + 1) L (.int (xs i.toNatClampNeg) :: rest)) : VV p l e R s m args below meth c nL D cl A cells slots Q ws pc L (.int i :: .ref b :: rest) := fun H locs ls hP hD hS h => va_sld hC.1 hC.2.1 hX hbl hbA hS hin hdg (k H locs ls hP hD hS h)
theorem vv_slen (hC : CX p s m args meth c cc own Ts nL D cl tys A SP ret) {b Ln : Nat} {xs : Nat → Int32} (hX : va_X b Ln xs s s.heap) (hbl : b < s.heap.size) (hbA : ¬ A b) (hdg : decode cc pc = .ok (.arraylength, 1)) (k : VV p l e R s m args below meth c nL D cl A cells slots Q ws (pc + 1) L (.int (Int32.ofNat Ln) :: rest)) : VV p l e R s m args below meth c nL D cl A cells slots Q ws pc L (.ref b :: rest) := fun H locs ls hP hD hS h => va_slen hC.1 hC.2.1 hX hbl hbA hS hdg (k H locs ls hP hD hS h)
theorem vv_callSWi (hC : CX p s m args meth c cc own Ts nL D cl tys A SP ret) {y : MethodName} {rm : Room} {bytes : ByteArray} {maxL n index mc ms : Nat} {rt : Option FieldType} {hh : List (Nat × Nat × Nat × Nat)} {As st0 : List Value} {S : Type} {post : Int32 → S → Prop} {wf : S → va_W} {wc wr : va_W} (hM : MetIc l y (Cond.codeWith y bytes maxL rt hh :: Ts) rm D cl tys SP As wc post wf mc ms) (hG : GoodIn Ts (Cond.codeWith y bytes maxL rt hh :: Ts)) (hrc : rm.cells = mc) (hrs : rm.slots = ms) (hR : rm.frames + 1 ≤ R.frames ∧ 8 + (maxL + 11) + rm.locals ≤ R.locals) (hini : Cond.initialized y.cls ∈ Ts) (hlk : Cond.methodLink own index y ∈ Ts) (hsta : Cond.static y ∈ Ts) (hy : y.cls ≠ "java/lang/invoke/MethodHandle" ∧ y.cls ≠ "java/lang/invoke/VarHandle") (hlenS : ∀ sig, parseMethodDescriptor y.desc = some sig → n = sig.parameters.length) (hdg : decode cc pc = .ok (.invokestatic index, 3)) (rest : List Value) (isC isR isB : List Nat) (wg : S → va_W) (hc : cells + mc ≤ R.cells ∧ slots + ms ≤ R.slots) (hCs : isC.map (fun i => ws[i]?) = wc.map some) (hRs : isR.map (fun i => ws[i]?) = wr.map some) (hBs : ∀ u, isB.map (fun i => (wr ++ wf u)[i]?) = (wg u).map some) (hnC : va_nd isC = true) (hnR : va_nd isR = true) (hnB : va_nd isB = true) (hdis : isR.all (fun i => !isC.contains i) = true) (hlen : As.length = n) (hst : st0 = As.reverse ++ rest) (hrm : (rest.map fun v => v.category).sum ≤ 8) (kk : ∀ (r : Int32) (u : S), post r u → VV p l e R s m args below meth c nL D cl A (cells + mc) (slots + ms) Q (wg u) (pc + 3) L (.int r :: rest)) : VV p l e R s m args below meth c nL D cl A cells slots Q ws pc L st0 := by
  obtain ⟨hx, hb, hml, hown, hts, hK, hA, ⟨hNa, hNW⟩, hr, hlk9⟩ := hC
  intro H locs ls hP hD hS h
  have hPc := hP.sub (ws' := wc) isC (vq_fm _ _ _ hCs)
  have hDc := hD.sub (ws' := wc) isC hnC hCs
  have hFc := va_free (wc := wc) hD hS hA isC hCs
  refine va_calli (xw_run (As := As) (rest := rest) (bytes := bytes) (maxL := maxL) (rt := rt) (hh := hh) hx hb hml hown (hM H.size) hrc hrs hR.1 hR.2 (pay_in hts hG) List.mem_cons_self (hts _ hini) hy hlenS (hts _ hlk) (hts _ hsta) (fun a U g mk q => by obtain ⟨q0, q1, qP, qK, qD, qa, qN⟩ := q; exact ⟨q0, q1, qP, va_K.moved (u := U) (U := U.calling g mk a) (Vm.Alike.refl U.vm) qK, qD, qa, qa.2.2.2 _ U (U.calling g mk a) _ rfl qN⟩) (fun U hU hW => ⟨rfl, by rw [hU], by rw [hU]; exact hPc, va_K.moved hW.alike hK, hDc.weaken (fun _ _ _ _ => trivial), hNa, by rw [hU]; exact hNa.2.2.1 _ s U _ hW (hNa.2.1 _ _ _ _ (hNa.1 _ _ _ _ hNW (fun a h1 h2 => hS.2.1 a h1 h2)) hFc)⟩) rfl hlen h.1 hst (lv_room hrm) hdg hc) hS (fun q _ h => hFc q h) hFc (fun r u t H1 locs1 ht hvm hw hB hz1 hk1 hS1 => ?_)
  obtain ⟨hP1, hK1, hD1⟩ := hB
  rw [ht] at hP1
  obtain ⟨hP2, hD2⟩ := va_join (wr := wr) (w1 := wf u) hP hD isC isR hCs hRs hnR (fun i hi hj => by have := List.all_eq_true.mp hdis i hi; simp at this; exact this hj) hk1 hFc hP1 hD1
  exact kk r u hw H1 locs1 ls (hP2.sub isB (vq_fm _ _ _ (hBs u))) (hD2.sub isB hnB (hBs u)) hS1 h
theorem va_nd_of : ∀ (l : List Nat), l.Nodup → va_nd l = true := by
  intro l
  induction l with
  | nil => intro _; rfl
  | cons a l ih =>
    intro h
    have h2 := List.nodup_cons.mp h
    show (decide (a ∉ l) && va_nd l) = true
    rw [ih h2.2, Bool.and_true]
    exact decide_eq_true h2.1
theorem gx1 (wr wc : va_W) : (List.range' wr.length wc.length).map (fun i => (wr ++ wc)[i]?) = wc.map some := by
  apply List.ext_getElem
  · simp
  · intro i h1 h2
    simp only [List.length_map, List.length_range'] at h1
    simp [List.getElem_range', h1]
theorem gx2 (wr wc : va_W) : (List.range wr.length).map (fun i => (wr ++ wc)[i]?) = wr.map some := by
  apply List.ext_getElem
  · simp
  · intro i h1 h2
    simp only [List.length_map, List.length_range] at h1
    simp [List.getElem?_append_left h1, h1]
theorem gx3 (w : va_W) (N : Nat) (h : w.length = N) : (List.range N).map (fun i => w[i]?) = w.map some := by
  subst h
  apply List.ext_getElem
  · simp
  · intro i h1 h2
    simp only [List.length_map, List.length_range] at h1
    simp [h1]
theorem gx4 (a n : Nat) : (List.range a).all (fun i => !(List.range' a n).contains i) = true := by
  rw [List.all_eq_true]
  intro i hi
  have h1 := List.mem_range.mp hi
  simp only [Bool.not_eq_true', List.contains_eq_mem, decide_eq_false_iff_not]
  intro h2
  have := List.mem_range'_1.mp h2
  omega
theorem vp_perm {D : va_G} {cl : List vw_C} {ws ws2 : va_W} {H : Heap} (h : ws.Perm ws2) (hP : va_P D cl ws H) : va_P D cl ws2 H := by
  intro k q hk
  obtain ⟨j, hj⟩ := List.mem_iff_getElem?.mp (h.mem_iff.mpr (List.mem_of_getElem? hk))
  exact hP j q hj
theorem vd_perm {A : Nat → Prop} {ws ws2 : va_W} (h : ws.Perm ws2) (hD : va_D A ws) : va_D A ws2 := by
  have hn : (ws.map (fun q => q.1)).Nodup := by
    rw [List.Nodup, List.pairwise_iff_getElem]
    intro i j hi hj hij e
    rw [List.length_map] at hi hj
    rw [List.getElem_map, List.getElem_map] at e
    have := hD.1 i j ws[i] ws[j] (List.getElem?_eq_getElem hi) (List.getElem?_eq_getElem hj) e
    omega
  have hn2 : (ws2.map (fun q => q.1)).Nodup := (h.map (fun q => q.1)).nodup_iff.mp hn
  refine ⟨fun i j p q hp hq e => ?_, fun k q hk => ?_⟩
  · obtain ⟨hi, ei⟩ := List.getElem?_eq_some_iff.mp hp
    obtain ⟨hj, ej⟩ := List.getElem?_eq_some_iff.mp hq
    rw [List.Nodup, List.pairwise_iff_getElem] at hn2
    rcases Nat.lt_trichotomy i j with g | g | g
    · exact absurd (by rw [List.getElem_map, List.getElem_map, ei, ej]; exact e) (hn2 i j (by rw [List.length_map]; exact hi) (by rw [List.length_map]; exact hj) g)
    · exact g
    · exact absurd (by rw [List.getElem_map, List.getElem_map, ei, ej]; exact e.symm) (hn2 j i (by rw [List.length_map]; exact hj) (by rw [List.length_map]; exact hi) g)
  · obtain ⟨j, hj⟩ := List.mem_iff_getElem?.mp (h.mem_iff.mpr (List.mem_of_getElem? hk))
    exact hD.2 j q hj
theorem pm3 (a b c : va_W) : ((a ++ b) ++ c).Perm ((a ++ c) ++ b) := by
  rw [List.append_assoc, List.append_assoc]
  exact List.Perm.append_left a List.perm_append_comm
theorem vv_pm (h : ws.Perm ws2) (k : VV p l e R s m args below meth c nL D cl A cells slots Q ws2 pc L rest) : VV p l e R s m args below meth c nL D cl A cells slots Q ws pc L rest := fun H locs ls hP hD hS hh => k H locs ls (vp_perm h hP) (vd_perm h hD) hS hh
theorem vv_callVIa (hC : CX p s m args meth c cc own Ts nL D cl tys A SP ret) {y : MethodName} {wy : List Cond} {rm : Room} {bytes : ByteArray} {maxL n index : Nat} {rt : Option FieldType} {C : String} {T : u_T} {N ci b : Nat} {fs : List Value} {As st0 : List Value} {S : Type} {post : Int32 → S → Prop} {wf : S → va_W} {wc : va_W} (wr : va_W) (N9 : Nat) (hM : MetI l y wy rm D cl tys SP (.ref b :: As) wc post wf) (cw : CallW R s args own C index y bytes maxL rt wy rm 0 0 n) (hdg : decode cc pc = .ok (.invokevirtual index, 3)) (rest : List Value) (hc : cells ≤ R.cells ∧ slots ≤ R.slots) (hN : ∀ u, (wf u).length = N9) (he : wc[0]? = some (b, .inr (ci, fs))) (hcl : cl[ci]? = some (C, T, N)) (hlen : As.length = n) (hst : st0 = As.reverse ++ .ref b :: rest) (hrm : (rest.map fun v => v.category).sum ≤ 8) (kk : ∀ (r : Int32) (u : S), post r u → VV p l e R s m args below meth c nL D cl A cells slots Q (wr ++ wf u) (pc + 3) L (.int r :: rest)) : VV p l e R s m args below meth c nL D cl A cells slots Q (wr ++ wc) pc L st0 :=
  vv_callVI (wr := wr) hC hM cw hdg rest (List.range' wr.length wc.length) (List.range wr.length) (List.range (wr.length + N9)) (fun u => wr ++ wf u) hc (gx1 wr wc) (gx2 wr wc) (fun u => gx3 (wr ++ wf u) _ (by rw [List.length_append, hN u])) (va_nd_of _ List.nodup_range') (va_nd_of _ List.nodup_range) (va_nd_of _ List.nodup_range) (gx4 _ _) he hcl hlen hst hrm kk
theorem vv_callVVa (hC : CX p s m args meth c cc own Ts nL D cl tys A SP ret) {y : MethodName} {wy : List Cond} {rm : Room} {bytes : ByteArray} {maxL n index : Nat} {rt : Option FieldType} {C : String} {T : u_T} {N ci b : Nat} {fs : List Value} {As st0 : List Value} {S : Type} {post : S → Prop} {wf : S → va_W} {wc : va_W} (wr : va_W) (N9 : Nat) (hM : MetV l y wy rm D cl tys SP (.ref b :: As) wc post wf) (cw : CallW R s args own C index y bytes maxL rt wy rm 0 0 n) (hdg : decode cc pc = .ok (.invokevirtual index, 3)) (rest : List Value) (hc : cells ≤ R.cells ∧ slots ≤ R.slots) (hN : ∀ u, (wf u).length = N9) (he : wc[0]? = some (b, .inr (ci, fs))) (hcl : cl[ci]? = some (C, T, N)) (hlen : As.length = n) (hst : st0 = As.reverse ++ .ref b :: rest) (hrm : (rest.map fun v => v.category).sum ≤ 8) (kk : ∀ (u : S), post u → VV p l e R s m args below meth c nL D cl A cells slots Q (wr ++ wf u) (pc + 3) L rest) : VV p l e R s m args below meth c nL D cl A cells slots Q (wr ++ wc) pc L st0 :=
  vv_callVV (wr := wr) hC hM cw hdg rest (List.range' wr.length wc.length) (List.range wr.length) (List.range (wr.length + N9)) (fun u => wr ++ wf u) hc (gx1 wr wc) (gx2 wr wc) (fun u => gx3 (wr ++ wf u) _ (by rw [List.length_append, hN u])) (va_nd_of _ List.nodup_range') (va_nd_of _ List.nodup_range) (va_nd_of _ List.nodup_range) (gx4 _ _) he hcl hlen hst hrm kk
theorem vv_callSWa (hC : CX p s m args meth c cc own Ts nL D cl tys A SP ret) {y : MethodName} {rm : Room} {bytes : ByteArray} {maxL n index mc ms : Nat} {rt : Option FieldType} {hh : List (Nat × Nat × Nat × Nat)} {As st0 : List Value} {S : Type} {post : Int32 → S → Prop} {wf : S → va_W} {wc : va_W} (wr : va_W) (N9 : Nat) (hM : MetIc l y (Cond.codeWith y bytes maxL rt hh :: Ts) rm D cl tys SP As wc post wf mc ms) (hG : GoodIn Ts (Cond.codeWith y bytes maxL rt hh :: Ts)) (hrc : rm.cells = mc) (hrs : rm.slots = ms) (hR : rm.frames + 1 ≤ R.frames ∧ 8 + (maxL + 11) + rm.locals ≤ R.locals) (hini : Cond.initialized y.cls ∈ Ts) (hlk : Cond.methodLink own index y ∈ Ts) (hsta : Cond.static y ∈ Ts) (hy : y.cls ≠ "java/lang/invoke/MethodHandle" ∧ y.cls ≠ "java/lang/invoke/VarHandle") (hlenS : ∀ sig, parseMethodDescriptor y.desc = some sig → n = sig.parameters.length) (hdg : decode cc pc = .ok (.invokestatic index, 3)) (rest : List Value) (hc : cells + mc ≤ R.cells ∧ slots + ms ≤ R.slots) (hN : ∀ u, (wf u).length = N9) (hlen : As.length = n) (hst : st0 = As.reverse ++ rest) (hrm : (rest.map fun v => v.category).sum ≤ 8) (kk : ∀ (r : Int32) (u : S), post r u → VV p l e R s m args below meth c nL D cl A (cells + mc) (slots + ms) Q (wr ++ wf u) (pc + 3) L (.int r :: rest)) : VV p l e R s m args below meth c nL D cl A cells slots Q (wr ++ wc) pc L st0 :=
  vv_callSWi (wr := wr) hC hM hG hrc hrs hR hini hlk hsta hy hlenS hdg rest (List.range' wr.length wc.length) (List.range wr.length) (List.range (wr.length + N9)) (fun u => wr ++ wf u) hc (gx1 wr wc) (gx2 wr wc) (fun u => gx3 (wr ++ wf u) _ (by rw [List.length_append, hN u])) (va_nd_of _ List.nodup_range') (va_nd_of _ List.nodup_range) (va_nd_of _ List.nodup_range) (gx4 _ _) hlen hst hrm kk
end VLAW
theorem lcmp0 {x y : Int64} (h : x = y) : lg_cmp x y = 0 := by
  subst h
  simp [lg_cmp]
theorem lawdesc : ∀ sig, parseMethodDescriptor y_L_load.desc = some sig → 2 = sig.parameters.length := by
  intro sig h
  have h2 : (parseMethodDescriptor y_L_load.desc).map (fun d => d.parameters.length) = some 2 := by decide +kernel
  rw [h] at h2
  exact (Option.some.inj h2).symm
def wo (cA : Nat → ClassId) (ao : Nat) (J : Nat → Int64) : va_W := [(ao, .inl (cA 3, 1, .inr (.inl J)))]
def wF (cA : Nat → ClassId) (a_F a_R a_U a_T a_S a_X a_Y a_C a_D : Nat → Nat) (I_R : NI) (A_R : NNI) (I_U I_T : NI) (A_T : NNI) (I_S : NI) (A_S : NNI) (I_X : NI) (A_X : NNI) (I_Y : NI) (A_Y : NNI) (I_C : NI) (A_C : NNI) (I_D : NI) (A_D : NNI) : va_W := kc_F cA a_F a_T a_R a_X a_Y a_C a_D ++ kc_R cA a_R a_U a_S I_R A_R ++ kc_U cA a_U a_T I_U ++ kc_T cA a_T I_T A_T ++ kc_S cA a_S I_S A_S ++ kc_X cA a_X I_X A_X ++ kc_X cA a_Y I_Y A_Y ++ kc_C cA a_C I_C A_C ++ kc_C cA a_D I_D A_D
def wL (cA : Nat → ClassId) (ao : Nat) (a_F a_R a_U a_T a_S a_X a_Y a_C a_D a_M : Nat → Nat) (J : Nat → Int64) (I_R : NI) (A_R : NNI) (I_U I_T : NI) (A_T : NNI) (I_S : NI) (A_S : NNI) (I_X : NI) (A_X : NNI) (I_Y : NI) (A_Y : NNI) (I_C : NI) (A_C : NNI) (I_D : NI) (A_D : NNI) (I_M : NI) (A_M : NNI) : va_W := (wo cA ao J ++ wF cA a_F a_R a_U a_T a_S a_X a_Y a_C a_D I_R A_R I_U I_T A_T I_S A_S I_X A_X I_Y A_Y I_C A_C I_D A_D) ++ kc_M cA a_M I_M A_M
def KK (p : Program) (l : Launch) (e : Env) (s : State) (m : MethodId) (below : List Frame) (meth : Method) (c : Code) (D : va_G) (cA : Nat → ClassId) (b ao : Nat) (a_F a_R a_U a_T a_S a_X a_Y a_M : Nat → Nat) (cells slots : Nat) (Q : State → Prop) (i : Int32) : Prop := ∀ (a_C a_D : Nat → Nat) (J : Nat → Int64) (I_R : NI) (A_R : NNI) (I_U I_T : NI) (A_T : NNI) (I_S : NI) (A_S : NNI) (I_X : NI) (A_X : NNI) (I_Y : NI) (A_Y : NNI) (I_C : NI) (A_C : NNI) (I_D : NI) (A_D : NNI) (I_M : NI) (A_M : NNI), RL I_U I_T A_T I_X A_X I_Y A_Y I_C A_C A_D I_M A_M → VV p l e room_1 s m #[Value.ref b] below meth c 7 D vwCl (fun q : Nat => s.heap.size ≤ q) cells slots Q (wL cA ao a_F a_R a_U a_T a_S a_X a_Y a_C a_D a_M J I_R A_R I_U I_T A_T I_S A_S I_X A_X I_Y A_Y I_C A_C I_D A_D I_M A_M) 478 [(0, .ref b), (1, .ref (a_F 0)), (2, .ref (a_M 0)), (3, .ref ao), (4, .int i)] []
