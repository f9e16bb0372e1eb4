/-! Decoded instructions: the law. -/
theorem dlaw_0 : decode code 0 = .ok (.new 8, 3) := by decide +kernel
theorem dlaw_3 : decode code 3 = .ok (.dup, 1) := by decide +kernel
theorem dlaw_4 : decode code 4 = .ok (.invokespecial 65, 3) := by decide +kernel
theorem dlaw_7 : decode code 7 = .ok (.astore_n 1, 1) := by decide +kernel
theorem dlaw_8 : decode code 8 = .ok (.new 66, 3) := by decide +kernel
theorem dlaw_11 : decode code 11 = .ok (.dup, 1) := by decide +kernel
theorem dlaw_12 : decode code 12 = .ok (.invokespecial 68, 3) := by decide +kernel
theorem dlaw_15 : decode code 15 = .ok (.astore_n 2, 1) := by decide +kernel
theorem dlaw_16 : decode code 16 = .ok (.iconst 1, 1) := by decide +kernel
theorem dlaw_17 : decode code 17 = .ok (.newarray .long, 2) := by decide +kernel
theorem dlaw_19 : decode code 19 = .ok (.astore_n 3, 1) := by decide +kernel
theorem dlaw_20 : decode code 20 = .ok (.iconst 0, 1) := by decide +kernel
theorem dlaw_21 : decode code 21 = .ok (.istore 4, 2) := by decide +kernel
theorem dlaw_23 : decode code 23 = .ok (.iload 4, 2) := by decide +kernel
theorem dlaw_25 : decode code 25 = .ok (.aload_n 0, 1) := by decide +kernel
theorem dlaw_26 : decode code 26 = .ok (.arraylength, 1) := by decide +kernel
theorem dlaw_27 : decode code 27 = .ok (.bipush 6, 2) := by decide +kernel
theorem dlaw_29 : decode code 29 = .ok (.isub, 1) := by decide +kernel
theorem dlaw_30 : decode code 30 = .ok (.if_icmp .gt 1022, 3) := by decide +kernel
theorem dlaw_33 : decode code 33 = .ok (.aload_n 0, 1) := by decide +kernel
theorem dlaw_34 : decode code 34 = .ok (.iload 4, 2) := by decide +kernel
theorem dlaw_36 : decode code 36 = .ok (.iaload, 1) := by decide +kernel
theorem dlaw_37 : decode code 37 = .ok (.bipush 31, 2) := by decide +kernel
theorem dlaw_39 : decode code 39 = .ok (.iand, 1) := by decide +kernel
theorem dlaw_40 : decode code 40 = .ok (.tableswitch 1006 0 16 #[84, 144, 228, 292, 305, 361, 374, 442, 522, 597, 645, 701, 757, 813, 869, 925, 938], 84) := by decide +kernel
theorem dlaw_124 : decode code 124 = .ok (.aload_n 1, 1) := by decide +kernel
theorem dlaw_125 : decode code 125 = .ok (.aload_n 0, 1) := by decide +kernel
theorem dlaw_126 : decode code 126 = .ok (.iload 4, 2) := by decide +kernel
theorem dlaw_128 : decode code 128 = .ok (.iconst 1, 1) := by decide +kernel
theorem dlaw_129 : decode code 129 = .ok (.iadd, 1) := by decide +kernel
theorem dlaw_130 : decode code 130 = .ok (.iaload, 1) := by decide +kernel
theorem dlaw_131 : decode code 131 = .ok (.aload_n 0, 1) := by decide +kernel
theorem dlaw_132 : decode code 132 = .ok (.iload 4, 2) := by decide +kernel
theorem dlaw_134 : decode code 134 = .ok (.iconst 2, 1) := by decide +kernel
theorem dlaw_135 : decode code 135 = .ok (.iadd, 1) := by decide +kernel
theorem dlaw_136 : decode code 136 = .ok (.iaload, 1) := by decide +kernel
theorem dlaw_137 : decode code 137 = .ok (.aload_n 0, 1) := by decide +kernel
theorem dlaw_138 : decode code 138 = .ok (.iload 4, 2) := by decide +kernel
theorem dlaw_140 : decode code 140 = .ok (.iconst 3, 1) := by decide +kernel
theorem dlaw_141 : decode code 141 = .ok (.iadd, 1) := by decide +kernel
theorem dlaw_142 : decode code 142 = .ok (.iaload, 1) := by decide +kernel
theorem dlaw_143 : decode code 143 = .ok (.invokestatic 69, 3) := by decide +kernel
theorem dlaw_146 : decode code 146 = .ok (.istore 5, 2) := by decide +kernel
theorem dlaw_148 : decode code 148 = .ok (.aload_n 2, 1) := by decide +kernel
theorem dlaw_149 : decode code 149 = .ok (.aload_n 0, 1) := by decide +kernel
theorem dlaw_150 : decode code 150 = .ok (.iload 4, 2) := by decide +kernel
theorem dlaw_152 : decode code 152 = .ok (.iconst 1, 1) := by decide +kernel
theorem dlaw_153 : decode code 153 = .ok (.iadd, 1) := by decide +kernel
theorem dlaw_154 : decode code 154 = .ok (.iaload, 1) := by decide +kernel
theorem dlaw_155 : decode code 155 = .ok (.aload_n 0, 1) := by decide +kernel
theorem dlaw_156 : decode code 156 = .ok (.iload 4, 2) := by decide +kernel
theorem dlaw_158 : decode code 158 = .ok (.iconst 2, 1) := by decide +kernel
theorem dlaw_159 : decode code 159 = .ok (.iadd, 1) := by decide +kernel
theorem dlaw_160 : decode code 160 = .ok (.iaload, 1) := by decide +kernel
theorem dlaw_161 : decode code 161 = .ok (.aload_n 0, 1) := by decide +kernel
theorem dlaw_162 : decode code 162 = .ok (.iload 4, 2) := by decide +kernel
theorem dlaw_164 : decode code 164 = .ok (.iconst 3, 1) := by decide +kernel
theorem dlaw_165 : decode code 165 = .ok (.iadd, 1) := by decide +kernel
theorem dlaw_166 : decode code 166 = .ok (.iaload, 1) := by decide +kernel
theorem dlaw_167 : decode code 167 = .ok (.invokevirtual 74, 3) := by decide +kernel
theorem dlaw_170 : decode code 170 = .ok (.aload_n 2, 1) := by decide +kernel
theorem dlaw_171 : decode code 171 = .ok (.invokevirtual 75, 3) := by decide +kernel
theorem dlaw_174 : decode code 174 = .ok (.iload 5, 2) := by decide +kernel
theorem dlaw_176 : decode code 176 = .ok (.if_icmp .eq 5, 3) := by decide +kernel
theorem dlaw_179 : decode code 179 = .ok (.iconst 0, 1) := by decide +kernel
theorem dlaw_180 : decode code 180 = .ok (.ireturn, 1) := by decide +kernel
theorem dlaw_181 : decode code 181 = .ok (.goto 865, 3) := by decide +kernel
theorem dlaw_184 : decode code 184 = .ok (.aload_n 1, 1) := by decide +kernel
theorem dlaw_185 : decode code 185 = .ok (.aload_n 0, 1) := by decide +kernel
theorem dlaw_186 : decode code 186 = .ok (.iload 4, 2) := by decide +kernel
theorem dlaw_188 : decode code 188 = .ok (.iconst 1, 1) := by decide +kernel
theorem dlaw_189 : decode code 189 = .ok (.iadd, 1) := by decide +kernel
theorem dlaw_190 : decode code 190 = .ok (.iaload, 1) := by decide +kernel
theorem dlaw_191 : decode code 191 = .ok (.aload_n 0, 1) := by decide +kernel
theorem dlaw_192 : decode code 192 = .ok (.iload 4, 2) := by decide +kernel
theorem dlaw_194 : decode code 194 = .ok (.iconst 2, 1) := by decide +kernel
theorem dlaw_195 : decode code 195 = .ok (.iadd, 1) := by decide +kernel
theorem dlaw_196 : decode code 196 = .ok (.iaload, 1) := by decide +kernel
theorem dlaw_197 : decode code 197 = .ok (.aload_n 0, 1) := by decide +kernel
theorem dlaw_198 : decode code 198 = .ok (.iload 4, 2) := by decide +kernel
theorem dlaw_200 : decode code 200 = .ok (.iconst 3, 1) := by decide +kernel
theorem dlaw_201 : decode code 201 = .ok (.iadd, 1) := by decide +kernel
theorem dlaw_202 : decode code 202 = .ok (.iaload, 1) := by decide +kernel
theorem dlaw_203 : decode code 203 = .ok (.aload_n 0, 1) := by decide +kernel
theorem dlaw_204 : decode code 204 = .ok (.iload 4, 2) := by decide +kernel
theorem dlaw_206 : decode code 206 = .ok (.iconst 4, 1) := by decide +kernel
theorem dlaw_207 : decode code 207 = .ok (.iadd, 1) := by decide +kernel
theorem dlaw_208 : decode code 208 = .ok (.iaload, 1) := by decide +kernel
theorem dlaw_209 : decode code 209 = .ok (.aload_n 0, 1) := by decide +kernel
theorem dlaw_210 : decode code 210 = .ok (.iload 4, 2) := by decide +kernel
theorem dlaw_212 : decode code 212 = .ok (.iconst 5, 1) := by decide +kernel
theorem dlaw_213 : decode code 213 = .ok (.iadd, 1) := by decide +kernel
theorem dlaw_214 : decode code 214 = .ok (.iaload, 1) := by decide +kernel
theorem dlaw_215 : decode code 215 = .ok (.invokestatic 79, 3) := by decide +kernel
theorem dlaw_218 : decode code 218 = .ok (.istore 5, 2) := by decide +kernel
theorem dlaw_220 : decode code 220 = .ok (.aload_n 2, 1) := by decide +kernel
theorem dlaw_221 : decode code 221 = .ok (.aload_n 0, 1) := by decide +kernel
theorem dlaw_222 : decode code 222 = .ok (.iload 4, 2) := by decide +kernel
theorem dlaw_224 : decode code 224 = .ok (.iconst 1, 1) := by decide +kernel
theorem dlaw_225 : decode code 225 = .ok (.iadd, 1) := by decide +kernel
theorem dlaw_226 : decode code 226 = .ok (.iaload, 1) := by decide +kernel
theorem dlaw_227 : decode code 227 = .ok (.aload_n 0, 1) := by decide +kernel
theorem dlaw_228 : decode code 228 = .ok (.iload 4, 2) := by decide +kernel
theorem dlaw_230 : decode code 230 = .ok (.iconst 2, 1) := by decide +kernel
theorem dlaw_231 : decode code 231 = .ok (.iadd, 1) := by decide +kernel
theorem dlaw_232 : decode code 232 = .ok (.iaload, 1) := by decide +kernel
theorem dlaw_233 : decode code 233 = .ok (.aload_n 0, 1) := by decide +kernel
theorem dlaw_234 : decode code 234 = .ok (.iload 4, 2) := by decide +kernel
theorem dlaw_236 : decode code 236 = .ok (.iconst 3, 1) := by decide +kernel
theorem dlaw_237 : decode code 237 = .ok (.iadd, 1) := by decide +kernel
theorem dlaw_238 : decode code 238 = .ok (.iaload, 1) := by decide +kernel
theorem dlaw_239 : decode code 239 = .ok (.aload_n 0, 1) := by decide +kernel
theorem dlaw_240 : decode code 240 = .ok (.iload 4, 2) := by decide +kernel
theorem dlaw_242 : decode code 242 = .ok (.iconst 4, 1) := by decide +kernel
theorem dlaw_243 : decode code 243 = .ok (.iadd, 1) := by decide +kernel
theorem dlaw_244 : decode code 244 = .ok (.iaload, 1) := by decide +kernel
theorem dlaw_245 : decode code 245 = .ok (.aload_n 0, 1) := by decide +kernel
theorem dlaw_246 : decode code 246 = .ok (.iload 4, 2) := by decide +kernel
theorem dlaw_248 : decode code 248 = .ok (.iconst 5, 1) := by decide +kernel
theorem dlaw_249 : decode code 249 = .ok (.iadd, 1) := by decide +kernel
theorem dlaw_250 : decode code 250 = .ok (.iaload, 1) := by decide +kernel
theorem dlaw_251 : decode code 251 = .ok (.invokevirtual 82, 3) := by decide +kernel
theorem dlaw_254 : decode code 254 = .ok (.aload_n 2, 1) := by decide +kernel
theorem dlaw_255 : decode code 255 = .ok (.invokevirtual 75, 3) := by decide +kernel
theorem dlaw_258 : decode code 258 = .ok (.iload 5, 2) := by decide +kernel
theorem dlaw_260 : decode code 260 = .ok (.if_icmp .eq 5, 3) := by decide +kernel
theorem dlaw_263 : decode code 263 = .ok (.iconst 0, 1) := by decide +kernel
theorem dlaw_264 : decode code 264 = .ok (.ireturn, 1) := by decide +kernel
theorem dlaw_265 : decode code 265 = .ok (.goto 781, 3) := by decide +kernel
theorem dlaw_268 : decode code 268 = .ok (.aload_n 1, 1) := by decide +kernel
theorem dlaw_269 : decode code 269 = .ok (.aload_n 0, 1) := by decide +kernel
theorem dlaw_270 : decode code 270 = .ok (.iload 4, 2) := by decide +kernel
theorem dlaw_272 : decode code 272 = .ok (.iconst 1, 1) := by decide +kernel
theorem dlaw_273 : decode code 273 = .ok (.iadd, 1) := by decide +kernel
theorem dlaw_274 : decode code 274 = .ok (.iaload, 1) := by decide +kernel
theorem dlaw_275 : decode code 275 = .ok (.aload_n 0, 1) := by decide +kernel
theorem dlaw_276 : decode code 276 = .ok (.iload 4, 2) := by decide +kernel
theorem dlaw_278 : decode code 278 = .ok (.iconst 2, 1) := by decide +kernel
theorem dlaw_279 : decode code 279 = .ok (.iadd, 1) := by decide +kernel
theorem dlaw_280 : decode code 280 = .ok (.iaload, 1) := by decide +kernel
theorem dlaw_281 : decode code 281 = .ok (.ifCond .eq 7, 3) := by decide +kernel
theorem dlaw_284 : decode code 284 = .ok (.iconst 1, 1) := by decide +kernel
theorem dlaw_285 : decode code 285 = .ok (.goto 4, 3) := by decide +kernel
theorem dlaw_288 : decode code 288 = .ok (.iconst 0, 1) := by decide +kernel
theorem dlaw_289 : decode code 289 = .ok (.invokestatic 83, 3) := by decide +kernel
theorem dlaw_292 : decode code 292 = .ok (.istore 5, 2) := by decide +kernel
theorem dlaw_294 : decode code 294 = .ok (.aload_n 2, 1) := by decide +kernel
theorem dlaw_295 : decode code 295 = .ok (.aload_n 0, 1) := by decide +kernel
theorem dlaw_296 : decode code 296 = .ok (.iload 4, 2) := by decide +kernel
theorem dlaw_298 : decode code 298 = .ok (.iconst 1, 1) := by decide +kernel
theorem dlaw_299 : decode code 299 = .ok (.iadd, 1) := by decide +kernel
theorem dlaw_300 : decode code 300 = .ok (.iaload, 1) := by decide +kernel
theorem dlaw_301 : decode code 301 = .ok (.aload_n 0, 1) := by decide +kernel
theorem dlaw_302 : decode code 302 = .ok (.iload 4, 2) := by decide +kernel
theorem dlaw_304 : decode code 304 = .ok (.iconst 2, 1) := by decide +kernel
theorem dlaw_305 : decode code 305 = .ok (.iadd, 1) := by decide +kernel
theorem dlaw_306 : decode code 306 = .ok (.iaload, 1) := by decide +kernel
theorem dlaw_307 : decode code 307 = .ok (.ifCond .eq 7, 3) := by decide +kernel
theorem dlaw_310 : decode code 310 = .ok (.iconst 1, 1) := by decide +kernel
theorem dlaw_311 : decode code 311 = .ok (.goto 4, 3) := by decide +kernel
theorem dlaw_314 : decode code 314 = .ok (.iconst 0, 1) := by decide +kernel
theorem dlaw_315 : decode code 315 = .ok (.invokevirtual 86, 3) := by decide +kernel
theorem dlaw_318 : decode code 318 = .ok (.aload_n 2, 1) := by decide +kernel
theorem dlaw_319 : decode code 319 = .ok (.invokevirtual 75, 3) := by decide +kernel
theorem dlaw_322 : decode code 322 = .ok (.iload 5, 2) := by decide +kernel
theorem dlaw_324 : decode code 324 = .ok (.if_icmp .eq 5, 3) := by decide +kernel
theorem dlaw_327 : decode code 327 = .ok (.iconst 0, 1) := by decide +kernel
theorem dlaw_328 : decode code 328 = .ok (.ireturn, 1) := by decide +kernel
theorem dlaw_329 : decode code 329 = .ok (.goto 717, 3) := by decide +kernel
theorem dlaw_332 : decode code 332 = .ok (.aload_n 1, 1) := by decide +kernel
theorem dlaw_333 : decode code 333 = .ok (.invokevirtual 87, 3) := by decide +kernel
theorem dlaw_336 : decode code 336 = .ok (.aload_n 2, 1) := by decide +kernel
theorem dlaw_337 : decode code 337 = .ok (.invokevirtual 90, 3) := by decide +kernel
theorem dlaw_340 : decode code 340 = .ok (.if_icmp .eq 706, 3) := by decide +kernel
theorem dlaw_343 : decode code 343 = .ok (.iconst 0, 1) := by decide +kernel
theorem dlaw_344 : decode code 344 = .ok (.ireturn, 1) := by decide +kernel
theorem dlaw_345 : decode code 345 = .ok (.aload_n 1, 1) := by decide +kernel
theorem dlaw_346 : decode code 346 = .ok (.aload_n 0, 1) := by decide +kernel
theorem dlaw_347 : decode code 347 = .ok (.iload 4, 2) := by decide +kernel
theorem dlaw_349 : decode code 349 = .ok (.iconst 1, 1) := by decide +kernel
theorem dlaw_350 : decode code 350 = .ok (.iadd, 1) := by decide +kernel
theorem dlaw_351 : decode code 351 = .ok (.iaload, 1) := by decide +kernel
theorem dlaw_352 : decode code 352 = .ok (.aload_n 3, 1) := by decide +kernel
theorem dlaw_353 : decode code 353 = .ok (.invokestatic 91, 3) := by decide +kernel
theorem dlaw_356 : decode code 356 = .ok (.istore 5, 2) := by decide +kernel
theorem dlaw_358 : decode code 358 = .ok (.aload_n 2, 1) := by decide +kernel
theorem dlaw_359 : decode code 359 = .ok (.aload_n 0, 1) := by decide +kernel
theorem dlaw_360 : decode code 360 = .ok (.iload 4, 2) := by decide +kernel
theorem dlaw_362 : decode code 362 = .ok (.iconst 1, 1) := by decide +kernel
theorem dlaw_363 : decode code 363 = .ok (.iadd, 1) := by decide +kernel
theorem dlaw_364 : decode code 364 = .ok (.iaload, 1) := by decide +kernel
theorem dlaw_365 : decode code 365 = .ok (.invokevirtual 94, 3) := by decide +kernel
theorem dlaw_368 : decode code 368 = .ok (.istore 6, 2) := by decide +kernel
theorem dlaw_370 : decode code 370 = .ok (.aload_n 2, 1) := by decide +kernel
theorem dlaw_371 : decode code 371 = .ok (.invokevirtual 75, 3) := by decide +kernel
theorem dlaw_374 : decode code 374 = .ok (.iload 5, 2) := by decide +kernel
theorem dlaw_376 : decode code 376 = .ok (.if_icmp .eq 5, 3) := by decide +kernel
theorem dlaw_379 : decode code 379 = .ok (.iconst 0, 1) := by decide +kernel
theorem dlaw_380 : decode code 380 = .ok (.ireturn, 1) := by decide +kernel
theorem dlaw_381 : decode code 381 = .ok (.iload 5, 2) := by decide +kernel
theorem dlaw_383 : decode code 383 = .ok (.ifCond .ne 15, 3) := by decide +kernel
theorem dlaw_386 : decode code 386 = .ok (.aload_n 3, 1) := by decide +kernel
theorem dlaw_387 : decode code 387 = .ok (.iconst 0, 1) := by decide +kernel
theorem dlaw_388 : decode code 388 = .ok (.laload, 1) := by decide +kernel
theorem dlaw_389 : decode code 389 = .ok (.iload 6, 2) := by decide +kernel
theorem dlaw_391 : decode code 391 = .ok (.i2l, 1) := by decide +kernel
theorem dlaw_392 : decode code 392 = .ok (.lcmp, 1) := by decide +kernel
theorem dlaw_393 : decode code 393 = .ok (.ifCond .eq 5, 3) := by decide +kernel
theorem dlaw_396 : decode code 396 = .ok (.iconst 0, 1) := by decide +kernel
theorem dlaw_397 : decode code 397 = .ok (.ireturn, 1) := by decide +kernel
theorem dlaw_398 : decode code 398 = .ok (.goto 648, 3) := by decide +kernel
theorem dlaw_401 : decode code 401 = .ok (.aload_n 1, 1) := by decide +kernel
theorem dlaw_402 : decode code 402 = .ok (.invokevirtual 95, 3) := by decide +kernel
theorem dlaw_405 : decode code 405 = .ok (.aload_n 2, 1) := by decide +kernel
theorem dlaw_406 : decode code 406 = .ok (.invokevirtual 98, 3) := by decide +kernel
theorem dlaw_409 : decode code 409 = .ok (.if_icmp .eq 637, 3) := by decide +kernel
theorem dlaw_412 : decode code 412 = .ok (.iconst 0, 1) := by decide +kernel
theorem dlaw_413 : decode code 413 = .ok (.ireturn, 1) := by decide +kernel
theorem dlaw_414 : decode code 414 = .ok (.aload_n 1, 1) := by decide +kernel
theorem dlaw_415 : decode code 415 = .ok (.aload_n 0, 1) := by decide +kernel
theorem dlaw_416 : decode code 416 = .ok (.iload 4, 2) := by decide +kernel
theorem dlaw_418 : decode code 418 = .ok (.iconst 1, 1) := by decide +kernel
theorem dlaw_419 : decode code 419 = .ok (.iadd, 1) := by decide +kernel
theorem dlaw_420 : decode code 420 = .ok (.iaload, 1) := by decide +kernel
theorem dlaw_421 : decode code 421 = .ok (.aload_n 0, 1) := by decide +kernel
theorem dlaw_422 : decode code 422 = .ok (.iload 4, 2) := by decide +kernel
theorem dlaw_424 : decode code 424 = .ok (.iconst 2, 1) := by decide +kernel
theorem dlaw_425 : decode code 425 = .ok (.iadd, 1) := by decide +kernel
theorem dlaw_426 : decode code 426 = .ok (.iaload, 1) := by decide +kernel
theorem dlaw_427 : decode code 427 = .ok (.aload_n 3, 1) := by decide +kernel
theorem dlaw_428 : decode code 428 = .ok (.invokestatic 99, 3) := by decide +kernel
theorem dlaw_431 : decode code 431 = .ok (.istore 5, 2) := by decide +kernel
theorem dlaw_433 : decode code 433 = .ok (.aload_n 2, 1) := by decide +kernel
theorem dlaw_434 : decode code 434 = .ok (.aload_n 0, 1) := by decide +kernel
theorem dlaw_435 : decode code 435 = .ok (.iload 4, 2) := by decide +kernel
theorem dlaw_437 : decode code 437 = .ok (.iconst 1, 1) := by decide +kernel
theorem dlaw_438 : decode code 438 = .ok (.iadd, 1) := by decide +kernel
theorem dlaw_439 : decode code 439 = .ok (.iaload, 1) := by decide +kernel
theorem dlaw_440 : decode code 440 = .ok (.aload_n 0, 1) := by decide +kernel
theorem dlaw_441 : decode code 441 = .ok (.iload 4, 2) := by decide +kernel
theorem dlaw_443 : decode code 443 = .ok (.iconst 2, 1) := by decide +kernel
theorem dlaw_444 : decode code 444 = .ok (.iadd, 1) := by decide +kernel
theorem dlaw_445 : decode code 445 = .ok (.iaload, 1) := by decide +kernel
theorem dlaw_446 : decode code 446 = .ok (.invokevirtual 102, 3) := by decide +kernel
theorem dlaw_449 : decode code 449 = .ok (.istore 6, 2) := by decide +kernel
theorem dlaw_451 : decode code 451 = .ok (.aload_n 2, 1) := by decide +kernel
theorem dlaw_452 : decode code 452 = .ok (.invokevirtual 75, 3) := by decide +kernel
theorem dlaw_455 : decode code 455 = .ok (.iload 5, 2) := by decide +kernel
theorem dlaw_457 : decode code 457 = .ok (.if_icmp .eq 5, 3) := by decide +kernel
theorem dlaw_460 : decode code 460 = .ok (.iconst 0, 1) := by decide +kernel
theorem dlaw_461 : decode code 461 = .ok (.ireturn, 1) := by decide +kernel
theorem dlaw_462 : decode code 462 = .ok (.iload 5, 2) := by decide +kernel
theorem dlaw_464 : decode code 464 = .ok (.ifCond .ne 15, 3) := by decide +kernel
theorem dlaw_467 : decode code 467 = .ok (.aload_n 3, 1) := by decide +kernel
theorem dlaw_468 : decode code 468 = .ok (.iconst 0, 1) := by decide +kernel
theorem dlaw_469 : decode code 469 = .ok (.laload, 1) := by decide +kernel
theorem dlaw_470 : decode code 470 = .ok (.iload 6, 2) := by decide +kernel
theorem dlaw_472 : decode code 472 = .ok (.i2l, 1) := by decide +kernel
theorem dlaw_473 : decode code 473 = .ok (.lcmp, 1) := by decide +kernel
theorem dlaw_474 : decode code 474 = .ok (.ifCond .eq 5, 3) := by decide +kernel
theorem dlaw_477 : decode code 477 = .ok (.iconst 0, 1) := by decide +kernel
theorem dlaw_478 : decode code 478 = .ok (.ireturn, 1) := by decide +kernel
theorem dlaw_479 : decode code 479 = .ok (.goto 567, 3) := by decide +kernel
theorem dlaw_482 : decode code 482 = .ok (.aload_n 1, 1) := by decide +kernel
theorem dlaw_483 : decode code 483 = .ok (.aload_n 0, 1) := by decide +kernel
theorem dlaw_484 : decode code 484 = .ok (.iload 4, 2) := by decide +kernel
theorem dlaw_486 : decode code 486 = .ok (.iconst 1, 1) := by decide +kernel
theorem dlaw_487 : decode code 487 = .ok (.iadd, 1) := by decide +kernel
theorem dlaw_488 : decode code 488 = .ok (.iaload, 1) := by decide +kernel
theorem dlaw_489 : decode code 489 = .ok (.aload_n 0, 1) := by decide +kernel
theorem dlaw_490 : decode code 490 = .ok (.iload 4, 2) := by decide +kernel
theorem dlaw_492 : decode code 492 = .ok (.iconst 2, 1) := by decide +kernel
theorem dlaw_493 : decode code 493 = .ok (.iadd, 1) := by decide +kernel
theorem dlaw_494 : decode code 494 = .ok (.iaload, 1) := by decide +kernel
theorem dlaw_495 : decode code 495 = .ok (.aload_n 0, 1) := by decide +kernel
theorem dlaw_496 : decode code 496 = .ok (.iload 4, 2) := by decide +kernel
theorem dlaw_498 : decode code 498 = .ok (.iconst 3, 1) := by decide +kernel
theorem dlaw_499 : decode code 499 = .ok (.iadd, 1) := by decide +kernel
theorem dlaw_500 : decode code 500 = .ok (.iaload, 1) := by decide +kernel
theorem dlaw_501 : decode code 501 = .ok (.aload_n 3, 1) := by decide +kernel
theorem dlaw_502 : decode code 502 = .ok (.invokestatic 103, 3) := by decide +kernel
theorem dlaw_505 : decode code 505 = .ok (.istore 5, 2) := by decide +kernel
theorem dlaw_507 : decode code 507 = .ok (.aload_n 2, 1) := by decide +kernel
theorem dlaw_508 : decode code 508 = .ok (.aload_n 0, 1) := by decide +kernel
theorem dlaw_509 : decode code 509 = .ok (.iload 4, 2) := by decide +kernel
theorem dlaw_511 : decode code 511 = .ok (.iconst 1, 1) := by decide +kernel
theorem dlaw_512 : decode code 512 = .ok (.iadd, 1) := by decide +kernel
theorem dlaw_513 : decode code 513 = .ok (.iaload, 1) := by decide +kernel
theorem dlaw_514 : decode code 514 = .ok (.aload_n 0, 1) := by decide +kernel
theorem dlaw_515 : decode code 515 = .ok (.iload 4, 2) := by decide +kernel
theorem dlaw_517 : decode code 517 = .ok (.iconst 2, 1) := by decide +kernel
theorem dlaw_518 : decode code 518 = .ok (.iadd, 1) := by decide +kernel
theorem dlaw_519 : decode code 519 = .ok (.iaload, 1) := by decide +kernel
theorem dlaw_520 : decode code 520 = .ok (.aload_n 0, 1) := by decide +kernel
theorem dlaw_521 : decode code 521 = .ok (.iload 4, 2) := by decide +kernel
theorem dlaw_523 : decode code 523 = .ok (.iconst 3, 1) := by decide +kernel
theorem dlaw_524 : decode code 524 = .ok (.iadd, 1) := by decide +kernel
theorem dlaw_525 : decode code 525 = .ok (.iaload, 1) := by decide +kernel
theorem dlaw_526 : decode code 526 = .ok (.invokevirtual 106, 3) := by decide +kernel
theorem dlaw_529 : decode code 529 = .ok (.istore 6, 2) := by decide +kernel
theorem dlaw_531 : decode code 531 = .ok (.aload_n 2, 1) := by decide +kernel
theorem dlaw_532 : decode code 532 = .ok (.invokevirtual 75, 3) := by decide +kernel
theorem dlaw_535 : decode code 535 = .ok (.iload 5, 2) := by decide +kernel
theorem dlaw_537 : decode code 537 = .ok (.if_icmp .eq 5, 3) := by decide +kernel
theorem dlaw_540 : decode code 540 = .ok (.iconst 0, 1) := by decide +kernel
theorem dlaw_541 : decode code 541 = .ok (.ireturn, 1) := by decide +kernel
theorem dlaw_542 : decode code 542 = .ok (.iload 5, 2) := by decide +kernel
theorem dlaw_544 : decode code 544 = .ok (.ifCond .ne 15, 3) := by decide +kernel
theorem dlaw_547 : decode code 547 = .ok (.aload_n 3, 1) := by decide +kernel
theorem dlaw_548 : decode code 548 = .ok (.iconst 0, 1) := by decide +kernel
theorem dlaw_549 : decode code 549 = .ok (.laload, 1) := by decide +kernel
theorem dlaw_550 : decode code 550 = .ok (.iload 6, 2) := by decide +kernel
theorem dlaw_552 : decode code 552 = .ok (.i2l, 1) := by decide +kernel
theorem dlaw_553 : decode code 553 = .ok (.lcmp, 1) := by decide +kernel
theorem dlaw_554 : decode code 554 = .ok (.ifCond .eq 5, 3) := by decide +kernel
theorem dlaw_557 : decode code 557 = .ok (.iconst 0, 1) := by decide +kernel
theorem dlaw_558 : decode code 558 = .ok (.ireturn, 1) := by decide +kernel
theorem dlaw_559 : decode code 559 = .ok (.goto 487, 3) := by decide +kernel
theorem dlaw_562 : decode code 562 = .ok (.aload_n 1, 1) := by decide +kernel
theorem dlaw_563 : decode code 563 = .ok (.aload_n 0, 1) := by decide +kernel
theorem dlaw_564 : decode code 564 = .ok (.iload 4, 2) := by decide +kernel
theorem dlaw_566 : decode code 566 = .ok (.iconst 1, 1) := by decide +kernel
theorem dlaw_567 : decode code 567 = .ok (.iadd, 1) := by decide +kernel
theorem dlaw_568 : decode code 568 = .ok (.iaload, 1) := by decide +kernel
theorem dlaw_569 : decode code 569 = .ok (.aload_n 0, 1) := by decide +kernel
theorem dlaw_570 : decode code 570 = .ok (.iload 4, 2) := by decide +kernel
theorem dlaw_572 : decode code 572 = .ok (.iconst 2, 1) := by decide +kernel
theorem dlaw_573 : decode code 573 = .ok (.iadd, 1) := by decide +kernel
theorem dlaw_574 : decode code 574 = .ok (.iaload, 1) := by decide +kernel
theorem dlaw_575 : decode code 575 = .ok (.aload_n 3, 1) := by decide +kernel
theorem dlaw_576 : decode code 576 = .ok (.invokestatic 107, 3) := by decide +kernel
theorem dlaw_579 : decode code 579 = .ok (.istore 5, 2) := by decide +kernel
theorem dlaw_581 : decode code 581 = .ok (.aload_n 2, 1) := by decide +kernel
theorem dlaw_582 : decode code 582 = .ok (.aload_n 0, 1) := by decide +kernel
theorem dlaw_583 : decode code 583 = .ok (.iload 4, 2) := by decide +kernel
theorem dlaw_585 : decode code 585 = .ok (.iconst 1, 1) := by decide +kernel
theorem dlaw_586 : decode code 586 = .ok (.iadd, 1) := by decide +kernel
theorem dlaw_587 : decode code 587 = .ok (.iaload, 1) := by decide +kernel
theorem dlaw_588 : decode code 588 = .ok (.aload_n 0, 1) := by decide +kernel
theorem dlaw_589 : decode code 589 = .ok (.iload 4, 2) := by decide +kernel
theorem dlaw_591 : decode code 591 = .ok (.iconst 2, 1) := by decide +kernel
theorem dlaw_592 : decode code 592 = .ok (.iadd, 1) := by decide +kernel
theorem dlaw_593 : decode code 593 = .ok (.iaload, 1) := by decide +kernel
theorem dlaw_594 : decode code 594 = .ok (.invokevirtual 109, 3) := by decide +kernel
theorem dlaw_597 : decode code 597 = .ok (.istore 6, 2) := by decide +kernel
theorem dlaw_599 : decode code 599 = .ok (.aload_n 2, 1) := by decide +kernel
theorem dlaw_600 : decode code 600 = .ok (.invokevirtual 75, 3) := by decide +kernel
theorem dlaw_603 : decode code 603 = .ok (.iload 5, 2) := by decide +kernel
theorem dlaw_605 : decode code 605 = .ok (.if_icmp .eq 5, 3) := by decide +kernel
theorem dlaw_608 : decode code 608 = .ok (.iconst 0, 1) := by decide +kernel
theorem dlaw_609 : decode code 609 = .ok (.ireturn, 1) := by decide +kernel
theorem dlaw_610 : decode code 610 = .ok (.iload 5, 2) := by decide +kernel
theorem dlaw_612 : decode code 612 = .ok (.ifCond .ne 22, 3) := by decide +kernel
theorem dlaw_615 : decode code 615 = .ok (.aload_n 3, 1) := by decide +kernel
theorem dlaw_616 : decode code 616 = .ok (.iconst 0, 1) := by decide +kernel
theorem dlaw_617 : decode code 617 = .ok (.laload, 1) := by decide +kernel
theorem dlaw_618 : decode code 618 = .ok (.iload 6, 2) := by decide +kernel
theorem dlaw_620 : decode code 620 = .ok (.ifCond .eq 7, 3) := by decide +kernel
theorem dlaw_623 : decode code 623 = .ok (.lconst 1, 1) := by decide +kernel
theorem dlaw_624 : decode code 624 = .ok (.goto 4, 3) := by decide +kernel
theorem dlaw_627 : decode code 627 = .ok (.lconst 0, 1) := by decide +kernel
theorem dlaw_628 : decode code 628 = .ok (.lcmp, 1) := by decide +kernel
theorem dlaw_629 : decode code 629 = .ok (.ifCond .eq 5, 3) := by decide +kernel
theorem dlaw_632 : decode code 632 = .ok (.iconst 0, 1) := by decide +kernel
theorem dlaw_633 : decode code 633 = .ok (.ireturn, 1) := by decide +kernel
theorem dlaw_634 : decode code 634 = .ok (.goto 412, 3) := by decide +kernel
theorem dlaw_637 : decode code 637 = .ok (.aload_n 1, 1) := by decide +kernel
theorem dlaw_638 : decode code 638 = .ok (.aload_n 0, 1) := by decide +kernel
theorem dlaw_639 : decode code 639 = .ok (.iload 4, 2) := by decide +kernel
theorem dlaw_641 : decode code 641 = .ok (.iconst 1, 1) := by decide +kernel
theorem dlaw_642 : decode code 642 = .ok (.iadd, 1) := by decide +kernel
theorem dlaw_643 : decode code 643 = .ok (.iaload, 1) := by decide +kernel
theorem dlaw_644 : decode code 644 = .ok (.aload_n 0, 1) := by decide +kernel
theorem dlaw_645 : decode code 645 = .ok (.iload 4, 2) := by decide +kernel
theorem dlaw_647 : decode code 647 = .ok (.iconst 2, 1) := by decide +kernel
theorem dlaw_648 : decode code 648 = .ok (.iadd, 1) := by decide +kernel
theorem dlaw_649 : decode code 649 = .ok (.iaload, 1) := by decide +kernel
theorem dlaw_650 : decode code 650 = .ok (.invokestatic 110, 3) := by decide +kernel
theorem dlaw_653 : decode code 653 = .ok (.istore 5, 2) := by decide +kernel
theorem dlaw_655 : decode code 655 = .ok (.aload_n 2, 1) := by decide +kernel
theorem dlaw_656 : decode code 656 = .ok (.aload_n 0, 1) := by decide +kernel
theorem dlaw_657 : decode code 657 = .ok (.iload 4, 2) := by decide +kernel
theorem dlaw_659 : decode code 659 = .ok (.iconst 1, 1) := by decide +kernel
theorem dlaw_660 : decode code 660 = .ok (.iadd, 1) := by decide +kernel
theorem dlaw_661 : decode code 661 = .ok (.iaload, 1) := by decide +kernel
theorem dlaw_662 : decode code 662 = .ok (.aload_n 0, 1) := by decide +kernel
theorem dlaw_663 : decode code 663 = .ok (.iload 4, 2) := by decide +kernel
theorem dlaw_665 : decode code 665 = .ok (.iconst 2, 1) := by decide +kernel
theorem dlaw_666 : decode code 666 = .ok (.iadd, 1) := by decide +kernel
theorem dlaw_667 : decode code 667 = .ok (.iaload, 1) := by decide +kernel
theorem dlaw_668 : decode code 668 = .ok (.invokevirtual 113, 3) := by decide +kernel
theorem dlaw_671 : decode code 671 = .ok (.aload_n 2, 1) := by decide +kernel
theorem dlaw_672 : decode code 672 = .ok (.invokevirtual 75, 3) := by decide +kernel
theorem dlaw_675 : decode code 675 = .ok (.iload 5, 2) := by decide +kernel
theorem dlaw_677 : decode code 677 = .ok (.if_icmp .eq 5, 3) := by decide +kernel
theorem dlaw_680 : decode code 680 = .ok (.iconst 0, 1) := by decide +kernel
theorem dlaw_681 : decode code 681 = .ok (.ireturn, 1) := by decide +kernel
theorem dlaw_682 : decode code 682 = .ok (.goto 364, 3) := by decide +kernel
theorem dlaw_685 : decode code 685 = .ok (.aload_n 1, 1) := by decide +kernel
theorem dlaw_686 : decode code 686 = .ok (.aload_n 0, 1) := by decide +kernel
theorem dlaw_687 : decode code 687 = .ok (.iload 4, 2) := by decide +kernel
theorem dlaw_689 : decode code 689 = .ok (.iconst 1, 1) := by decide +kernel
theorem dlaw_690 : decode code 690 = .ok (.iadd, 1) := by decide +kernel
theorem dlaw_691 : decode code 691 = .ok (.iaload, 1) := by decide +kernel
theorem dlaw_692 : decode code 692 = .ok (.aload_n 3, 1) := by decide +kernel
theorem dlaw_693 : decode code 693 = .ok (.invokestatic 114, 3) := by decide +kernel
theorem dlaw_696 : decode code 696 = .ok (.istore 5, 2) := by decide +kernel
theorem dlaw_698 : decode code 698 = .ok (.aload_n 2, 1) := by decide +kernel
theorem dlaw_699 : decode code 699 = .ok (.aload_n 0, 1) := by decide +kernel
theorem dlaw_700 : decode code 700 = .ok (.iload 4, 2) := by decide +kernel
theorem dlaw_702 : decode code 702 = .ok (.iconst 1, 1) := by decide +kernel
theorem dlaw_703 : decode code 703 = .ok (.iadd, 1) := by decide +kernel
theorem dlaw_704 : decode code 704 = .ok (.iaload, 1) := by decide +kernel
theorem dlaw_705 : decode code 705 = .ok (.invokevirtual 116, 3) := by decide +kernel
theorem dlaw_708 : decode code 708 = .ok (.istore 6, 2) := by decide +kernel
theorem dlaw_710 : decode code 710 = .ok (.aload_n 2, 1) := by decide +kernel
theorem dlaw_711 : decode code 711 = .ok (.invokevirtual 75, 3) := by decide +kernel
theorem dlaw_714 : decode code 714 = .ok (.iload 5, 2) := by decide +kernel
theorem dlaw_716 : decode code 716 = .ok (.if_icmp .eq 5, 3) := by decide +kernel
theorem dlaw_719 : decode code 719 = .ok (.iconst 0, 1) := by decide +kernel
theorem dlaw_720 : decode code 720 = .ok (.ireturn, 1) := by decide +kernel
theorem dlaw_721 : decode code 721 = .ok (.iload 5, 2) := by decide +kernel
theorem dlaw_723 : decode code 723 = .ok (.ifCond .ne 15, 3) := by decide +kernel
theorem dlaw_726 : decode code 726 = .ok (.aload_n 3, 1) := by decide +kernel
theorem dlaw_727 : decode code 727 = .ok (.iconst 0, 1) := by decide +kernel
theorem dlaw_728 : decode code 728 = .ok (.laload, 1) := by decide +kernel
theorem dlaw_729 : decode code 729 = .ok (.iload 6, 2) := by decide +kernel
theorem dlaw_731 : decode code 731 = .ok (.i2l, 1) := by decide +kernel
theorem dlaw_732 : decode code 732 = .ok (.lcmp, 1) := by decide +kernel
theorem dlaw_733 : decode code 733 = .ok (.ifCond .eq 5, 3) := by decide +kernel
theorem dlaw_736 : decode code 736 = .ok (.iconst 0, 1) := by decide +kernel
theorem dlaw_737 : decode code 737 = .ok (.ireturn, 1) := by decide +kernel
theorem dlaw_738 : decode code 738 = .ok (.goto 308, 3) := by decide +kernel
theorem dlaw_741 : decode code 741 = .ok (.aload_n 1, 1) := by decide +kernel
theorem dlaw_742 : decode code 742 = .ok (.aload_n 0, 1) := by decide +kernel
theorem dlaw_743 : decode code 743 = .ok (.iload 4, 2) := by decide +kernel
theorem dlaw_745 : decode code 745 = .ok (.iconst 1, 1) := by decide +kernel
theorem dlaw_746 : decode code 746 = .ok (.iadd, 1) := by decide +kernel
theorem dlaw_747 : decode code 747 = .ok (.iaload, 1) := by decide +kernel
theorem dlaw_748 : decode code 748 = .ok (.aload_n 3, 1) := by decide +kernel
theorem dlaw_749 : decode code 749 = .ok (.invokestatic 117, 3) := by decide +kernel
theorem dlaw_752 : decode code 752 = .ok (.istore 5, 2) := by decide +kernel
theorem dlaw_754 : decode code 754 = .ok (.aload_n 2, 1) := by decide +kernel
theorem dlaw_755 : decode code 755 = .ok (.aload_n 0, 1) := by decide +kernel
theorem dlaw_756 : decode code 756 = .ok (.iload 4, 2) := by decide +kernel
theorem dlaw_758 : decode code 758 = .ok (.iconst 1, 1) := by decide +kernel
theorem dlaw_759 : decode code 759 = .ok (.iadd, 1) := by decide +kernel
theorem dlaw_760 : decode code 760 = .ok (.iaload, 1) := by decide +kernel
theorem dlaw_761 : decode code 761 = .ok (.invokevirtual 119, 3) := by decide +kernel
theorem dlaw_764 : decode code 764 = .ok (.istore 6, 2) := by decide +kernel
theorem dlaw_766 : decode code 766 = .ok (.aload_n 2, 1) := by decide +kernel
theorem dlaw_767 : decode code 767 = .ok (.invokevirtual 75, 3) := by decide +kernel
theorem dlaw_770 : decode code 770 = .ok (.iload 5, 2) := by decide +kernel
theorem dlaw_772 : decode code 772 = .ok (.if_icmp .eq 5, 3) := by decide +kernel
theorem dlaw_775 : decode code 775 = .ok (.iconst 0, 1) := by decide +kernel
theorem dlaw_776 : decode code 776 = .ok (.ireturn, 1) := by decide +kernel
theorem dlaw_777 : decode code 777 = .ok (.iload 5, 2) := by decide +kernel
theorem dlaw_779 : decode code 779 = .ok (.ifCond .ne 15, 3) := by decide +kernel
theorem dlaw_782 : decode code 782 = .ok (.aload_n 3, 1) := by decide +kernel
theorem dlaw_783 : decode code 783 = .ok (.iconst 0, 1) := by decide +kernel
theorem dlaw_784 : decode code 784 = .ok (.laload, 1) := by decide +kernel
theorem dlaw_785 : decode code 785 = .ok (.iload 6, 2) := by decide +kernel
theorem dlaw_787 : decode code 787 = .ok (.i2l, 1) := by decide +kernel
theorem dlaw_788 : decode code 788 = .ok (.lcmp, 1) := by decide +kernel
theorem dlaw_789 : decode code 789 = .ok (.ifCond .eq 5, 3) := by decide +kernel
theorem dlaw_792 : decode code 792 = .ok (.iconst 0, 1) := by decide +kernel
theorem dlaw_793 : decode code 793 = .ok (.ireturn, 1) := by decide +kernel
theorem dlaw_794 : decode code 794 = .ok (.goto 252, 3) := by decide +kernel
theorem dlaw_797 : decode code 797 = .ok (.aload_n 1, 1) := by decide +kernel
theorem dlaw_798 : decode code 798 = .ok (.aload_n 0, 1) := by decide +kernel
theorem dlaw_799 : decode code 799 = .ok (.iload 4, 2) := by decide +kernel
theorem dlaw_801 : decode code 801 = .ok (.iconst 1, 1) := by decide +kernel
theorem dlaw_802 : decode code 802 = .ok (.iadd, 1) := by decide +kernel
theorem dlaw_803 : decode code 803 = .ok (.iaload, 1) := by decide +kernel
theorem dlaw_804 : decode code 804 = .ok (.aload_n 3, 1) := by decide +kernel
theorem dlaw_805 : decode code 805 = .ok (.invokestatic 120, 3) := by decide +kernel
theorem dlaw_808 : decode code 808 = .ok (.istore 5, 2) := by decide +kernel
theorem dlaw_810 : decode code 810 = .ok (.aload_n 2, 1) := by decide +kernel
theorem dlaw_811 : decode code 811 = .ok (.aload_n 0, 1) := by decide +kernel
theorem dlaw_812 : decode code 812 = .ok (.iload 4, 2) := by decide +kernel
theorem dlaw_814 : decode code 814 = .ok (.iconst 1, 1) := by decide +kernel
theorem dlaw_815 : decode code 815 = .ok (.iadd, 1) := by decide +kernel
theorem dlaw_816 : decode code 816 = .ok (.iaload, 1) := by decide +kernel
theorem dlaw_817 : decode code 817 = .ok (.invokevirtual 122, 3) := by decide +kernel
theorem dlaw_820 : decode code 820 = .ok (.istore 6, 2) := by decide +kernel
theorem dlaw_822 : decode code 822 = .ok (.aload_n 2, 1) := by decide +kernel
theorem dlaw_823 : decode code 823 = .ok (.invokevirtual 75, 3) := by decide +kernel
theorem dlaw_826 : decode code 826 = .ok (.iload 5, 2) := by decide +kernel
theorem dlaw_828 : decode code 828 = .ok (.if_icmp .eq 5, 3) := by decide +kernel
theorem dlaw_831 : decode code 831 = .ok (.iconst 0, 1) := by decide +kernel
theorem dlaw_832 : decode code 832 = .ok (.ireturn, 1) := by decide +kernel
theorem dlaw_833 : decode code 833 = .ok (.iload 5, 2) := by decide +kernel
theorem dlaw_835 : decode code 835 = .ok (.ifCond .ne 15, 3) := by decide +kernel
theorem dlaw_838 : decode code 838 = .ok (.aload_n 3, 1) := by decide +kernel
theorem dlaw_839 : decode code 839 = .ok (.iconst 0, 1) := by decide +kernel
theorem dlaw_840 : decode code 840 = .ok (.laload, 1) := by decide +kernel
theorem dlaw_841 : decode code 841 = .ok (.iload 6, 2) := by decide +kernel
theorem dlaw_843 : decode code 843 = .ok (.i2l, 1) := by decide +kernel
theorem dlaw_844 : decode code 844 = .ok (.lcmp, 1) := by decide +kernel
theorem dlaw_845 : decode code 845 = .ok (.ifCond .eq 5, 3) := by decide +kernel
theorem dlaw_848 : decode code 848 = .ok (.iconst 0, 1) := by decide +kernel
theorem dlaw_849 : decode code 849 = .ok (.ireturn, 1) := by decide +kernel
theorem dlaw_850 : decode code 850 = .ok (.goto 196, 3) := by decide +kernel
theorem dlaw_853 : decode code 853 = .ok (.aload_n 1, 1) := by decide +kernel
theorem dlaw_854 : decode code 854 = .ok (.aload_n 0, 1) := by decide +kernel
theorem dlaw_855 : decode code 855 = .ok (.iload 4, 2) := by decide +kernel
theorem dlaw_857 : decode code 857 = .ok (.iconst 1, 1) := by decide +kernel
theorem dlaw_858 : decode code 858 = .ok (.iadd, 1) := by decide +kernel
theorem dlaw_859 : decode code 859 = .ok (.iaload, 1) := by decide +kernel
theorem dlaw_860 : decode code 860 = .ok (.aload_n 3, 1) := by decide +kernel
theorem dlaw_861 : decode code 861 = .ok (.invokestatic 123, 3) := by decide +kernel
theorem dlaw_864 : decode code 864 = .ok (.istore 5, 2) := by decide +kernel
theorem dlaw_866 : decode code 866 = .ok (.aload_n 2, 1) := by decide +kernel
theorem dlaw_867 : decode code 867 = .ok (.aload_n 0, 1) := by decide +kernel
theorem dlaw_868 : decode code 868 = .ok (.iload 4, 2) := by decide +kernel
theorem dlaw_870 : decode code 870 = .ok (.iconst 1, 1) := by decide +kernel
theorem dlaw_871 : decode code 871 = .ok (.iadd, 1) := by decide +kernel
theorem dlaw_872 : decode code 872 = .ok (.iaload, 1) := by decide +kernel
theorem dlaw_873 : decode code 873 = .ok (.invokevirtual 125, 3) := by decide +kernel
theorem dlaw_876 : decode code 876 = .ok (.istore 6, 2) := by decide +kernel
theorem dlaw_878 : decode code 878 = .ok (.aload_n 2, 1) := by decide +kernel
theorem dlaw_879 : decode code 879 = .ok (.invokevirtual 75, 3) := by decide +kernel
theorem dlaw_882 : decode code 882 = .ok (.iload 5, 2) := by decide +kernel
theorem dlaw_884 : decode code 884 = .ok (.if_icmp .eq 5, 3) := by decide +kernel
theorem dlaw_887 : decode code 887 = .ok (.iconst 0, 1) := by decide +kernel
theorem dlaw_888 : decode code 888 = .ok (.ireturn, 1) := by decide +kernel
theorem dlaw_889 : decode code 889 = .ok (.iload 5, 2) := by decide +kernel
theorem dlaw_891 : decode code 891 = .ok (.ifCond .ne 15, 3) := by decide +kernel
theorem dlaw_894 : decode code 894 = .ok (.aload_n 3, 1) := by decide +kernel
theorem dlaw_895 : decode code 895 = .ok (.iconst 0, 1) := by decide +kernel
theorem dlaw_896 : decode code 896 = .ok (.laload, 1) := by decide +kernel
theorem dlaw_897 : decode code 897 = .ok (.iload 6, 2) := by decide +kernel
theorem dlaw_899 : decode code 899 = .ok (.i2l, 1) := by decide +kernel
theorem dlaw_900 : decode code 900 = .ok (.lcmp, 1) := by decide +kernel
theorem dlaw_901 : decode code 901 = .ok (.ifCond .eq 5, 3) := by decide +kernel
theorem dlaw_904 : decode code 904 = .ok (.iconst 0, 1) := by decide +kernel
theorem dlaw_905 : decode code 905 = .ok (.ireturn, 1) := by decide +kernel
theorem dlaw_906 : decode code 906 = .ok (.goto 140, 3) := by decide +kernel
theorem dlaw_909 : decode code 909 = .ok (.aload_n 1, 1) := by decide +kernel
theorem dlaw_910 : decode code 910 = .ok (.aload_n 0, 1) := by decide +kernel
theorem dlaw_911 : decode code 911 = .ok (.iload 4, 2) := by decide +kernel
theorem dlaw_913 : decode code 913 = .ok (.iconst 1, 1) := by decide +kernel
theorem dlaw_914 : decode code 914 = .ok (.iadd, 1) := by decide +kernel
theorem dlaw_915 : decode code 915 = .ok (.iaload, 1) := by decide +kernel
theorem dlaw_916 : decode code 916 = .ok (.aload_n 3, 1) := by decide +kernel
theorem dlaw_917 : decode code 917 = .ok (.invokestatic 126, 3) := by decide +kernel
theorem dlaw_920 : decode code 920 = .ok (.istore 5, 2) := by decide +kernel
theorem dlaw_922 : decode code 922 = .ok (.aload_n 2, 1) := by decide +kernel
theorem dlaw_923 : decode code 923 = .ok (.aload_n 0, 1) := by decide +kernel
theorem dlaw_924 : decode code 924 = .ok (.iload 4, 2) := by decide +kernel
theorem dlaw_926 : decode code 926 = .ok (.iconst 1, 1) := by decide +kernel
theorem dlaw_927 : decode code 927 = .ok (.iadd, 1) := by decide +kernel
theorem dlaw_928 : decode code 928 = .ok (.iaload, 1) := by decide +kernel
theorem dlaw_929 : decode code 929 = .ok (.invokevirtual 128, 3) := by decide +kernel
theorem dlaw_932 : decode code 932 = .ok (.istore 6, 2) := by decide +kernel
theorem dlaw_934 : decode code 934 = .ok (.aload_n 2, 1) := by decide +kernel
theorem dlaw_935 : decode code 935 = .ok (.invokevirtual 75, 3) := by decide +kernel
theorem dlaw_938 : decode code 938 = .ok (.iload 5, 2) := by decide +kernel
theorem dlaw_940 : decode code 940 = .ok (.if_icmp .eq 5, 3) := by decide +kernel
theorem dlaw_943 : decode code 943 = .ok (.iconst 0, 1) := by decide +kernel
theorem dlaw_944 : decode code 944 = .ok (.ireturn, 1) := by decide +kernel
theorem dlaw_945 : decode code 945 = .ok (.iload 5, 2) := by decide +kernel
theorem dlaw_947 : decode code 947 = .ok (.ifCond .ne 15, 3) := by decide +kernel
theorem dlaw_950 : decode code 950 = .ok (.aload_n 3, 1) := by decide +kernel
theorem dlaw_951 : decode code 951 = .ok (.iconst 0, 1) := by decide +kernel
theorem dlaw_952 : decode code 952 = .ok (.laload, 1) := by decide +kernel
theorem dlaw_953 : decode code 953 = .ok (.iload 6, 2) := by decide +kernel
theorem dlaw_955 : decode code 955 = .ok (.i2l, 1) := by decide +kernel
theorem dlaw_956 : decode code 956 = .ok (.lcmp, 1) := by decide +kernel
theorem dlaw_957 : decode code 957 = .ok (.ifCond .eq 5, 3) := by decide +kernel
theorem dlaw_960 : decode code 960 = .ok (.iconst 0, 1) := by decide +kernel
theorem dlaw_961 : decode code 961 = .ok (.ireturn, 1) := by decide +kernel
theorem dlaw_962 : decode code 962 = .ok (.goto 84, 3) := by decide +kernel
theorem dlaw_965 : decode code 965 = .ok (.aload_n 1, 1) := by decide +kernel
theorem dlaw_966 : decode code 966 = .ok (.invokevirtual 129, 3) := by decide +kernel
theorem dlaw_969 : decode code 969 = .ok (.aload_n 2, 1) := by decide +kernel
theorem dlaw_970 : decode code 970 = .ok (.invokevirtual 132, 3) := by decide +kernel
theorem dlaw_973 : decode code 973 = .ok (.if_icmp .eq 73, 3) := by decide +kernel
theorem dlaw_976 : decode code 976 = .ok (.iconst 0, 1) := by decide +kernel
theorem dlaw_977 : decode code 977 = .ok (.ireturn, 1) := by decide +kernel
theorem dlaw_978 : decode code 978 = .ok (.aload_n 1, 1) := by decide +kernel
theorem dlaw_979 : decode code 979 = .ok (.aload_n 0, 1) := by decide +kernel
theorem dlaw_980 : decode code 980 = .ok (.iload 4, 2) := by decide +kernel
theorem dlaw_982 : decode code 982 = .ok (.iconst 1, 1) := by decide +kernel
theorem dlaw_983 : decode code 983 = .ok (.iadd, 1) := by decide +kernel
theorem dlaw_984 : decode code 984 = .ok (.iaload, 1) := by decide +kernel
theorem dlaw_985 : decode code 985 = .ok (.aload_n 0, 1) := by decide +kernel
theorem dlaw_986 : decode code 986 = .ok (.iload 4, 2) := by decide +kernel
theorem dlaw_988 : decode code 988 = .ok (.iconst 2, 1) := by decide +kernel
theorem dlaw_989 : decode code 989 = .ok (.iadd, 1) := by decide +kernel
theorem dlaw_990 : decode code 990 = .ok (.iaload, 1) := by decide +kernel
theorem dlaw_991 : decode code 991 = .ok (.aload_n 3, 1) := by decide +kernel
theorem dlaw_992 : decode code 992 = .ok (.invokestatic 133, 3) := by decide +kernel
theorem dlaw_995 : decode code 995 = .ok (.istore 5, 2) := by decide +kernel
theorem dlaw_997 : decode code 997 = .ok (.aload_n 2, 1) := by decide +kernel
theorem dlaw_998 : decode code 998 = .ok (.aload_n 0, 1) := by decide +kernel
theorem dlaw_999 : decode code 999 = .ok (.iload 4, 2) := by decide +kernel
theorem dlaw_1001 : decode code 1001 = .ok (.iconst 1, 1) := by decide +kernel
theorem dlaw_1002 : decode code 1002 = .ok (.iadd, 1) := by decide +kernel
theorem dlaw_1003 : decode code 1003 = .ok (.iaload, 1) := by decide +kernel
theorem dlaw_1004 : decode code 1004 = .ok (.aload_n 0, 1) := by decide +kernel
theorem dlaw_1005 : decode code 1005 = .ok (.iload 4, 2) := by decide +kernel
theorem dlaw_1007 : decode code 1007 = .ok (.iconst 2, 1) := by decide +kernel
theorem dlaw_1008 : decode code 1008 = .ok (.iadd, 1) := by decide +kernel
theorem dlaw_1009 : decode code 1009 = .ok (.iaload, 1) := by decide +kernel
theorem dlaw_1010 : decode code 1010 = .ok (.invokevirtual 135, 3) := by decide +kernel
theorem dlaw_1013 : decode code 1013 = .ok (.istore 6, 2) := by decide +kernel
theorem dlaw_1015 : decode code 1015 = .ok (.aload_n 2, 1) := by decide +kernel
theorem dlaw_1016 : decode code 1016 = .ok (.invokevirtual 75, 3) := by decide +kernel
theorem dlaw_1019 : decode code 1019 = .ok (.iload 5, 2) := by decide +kernel
theorem dlaw_1021 : decode code 1021 = .ok (.if_icmp .eq 5, 3) := by decide +kernel
theorem dlaw_1024 : decode code 1024 = .ok (.iconst 0, 1) := by decide +kernel
theorem dlaw_1025 : decode code 1025 = .ok (.ireturn, 1) := by decide +kernel
theorem dlaw_1026 : decode code 1026 = .ok (.iload 5, 2) := by decide +kernel
theorem dlaw_1028 : decode code 1028 = .ok (.ifCond .ne 15, 3) := by decide +kernel
theorem dlaw_1031 : decode code 1031 = .ok (.aload_n 3, 1) := by decide +kernel
theorem dlaw_1032 : decode code 1032 = .ok (.iconst 0, 1) := by decide +kernel
theorem dlaw_1033 : decode code 1033 = .ok (.laload, 1) := by decide +kernel
theorem dlaw_1034 : decode code 1034 = .ok (.iload 6, 2) := by decide +kernel
theorem dlaw_1036 : decode code 1036 = .ok (.i2l, 1) := by decide +kernel
theorem dlaw_1037 : decode code 1037 = .ok (.lcmp, 1) := by decide +kernel
theorem dlaw_1038 : decode code 1038 = .ok (.ifCond .eq 5, 3) := by decide +kernel
theorem dlaw_1041 : decode code 1041 = .ok (.iconst 0, 1) := by decide +kernel
theorem dlaw_1042 : decode code 1042 = .ok (.ireturn, 1) := by decide +kernel
theorem dlaw_1043 : decode code 1043 = .ok (.goto 3, 3) := by decide +kernel
theorem dlaw_1046 : decode code 1046 = .ok (.iinc 4 6, 3) := by decide +kernel
theorem dlaw_1049 : decode code 1049 = .ok (.goto (-1026), 3) := by decide +kernel
theorem dlaw_1052 : decode code 1052 = .ok (.iconst 1, 1) := by decide +kernel
theorem dlaw_1053 : decode code 1053 = .ok (.ireturn, 1) := by decide +kernel
