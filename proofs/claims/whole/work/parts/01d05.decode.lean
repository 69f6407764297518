theorem dc_L_law_141 : decode cd_L_law 141 = .ok (.aload_n 3, 1) := by decide +kernel
theorem dc_L_law_142 : decode cd_L_law 142 = .ok (.invokestatic 66, 3) := by decide +kernel
theorem dc_L_law_145 : decode cd_L_law 145 = .ok (.istore 5, 2) := by decide +kernel
theorem dc_L_law_147 : decode cd_L_law 147 = .ok (.aload_n 2, 1) := by decide +kernel
theorem dc_L_law_148 : decode cd_L_law 148 = .ok (.aload_n 0, 1) := by decide +kernel
theorem dc_L_law_149 : decode cd_L_law 149 = .ok (.iload 4, 2) := by decide +kernel
theorem dc_L_law_151 : decode cd_L_law 151 = .ok (.iconst 1, 1) := by decide +kernel
theorem dc_L_law_152 : decode cd_L_law 152 = .ok (.iadd, 1) := by decide +kernel
theorem dc_L_law_153 : decode cd_L_law 153 = .ok (.iaload, 1) := by decide +kernel
theorem dc_L_law_154 : decode cd_L_law 154 = .ok (.aload_n 0, 1) := by decide +kernel
theorem dc_L_law_155 : decode cd_L_law 155 = .ok (.iload 4, 2) := by decide +kernel
theorem dc_L_law_157 : decode cd_L_law 157 = .ok (.iconst 2, 1) := by decide +kernel
theorem dc_L_law_158 : decode cd_L_law 158 = .ok (.iadd, 1) := by decide +kernel
theorem dc_L_law_159 : decode cd_L_law 159 = .ok (.iaload, 1) := by decide +kernel
theorem dc_L_law_160 : decode cd_L_law 160 = .ok (.invokevirtual 71, 3) := by decide +kernel
theorem dc_L_law_163 : decode cd_L_law 163 = .ok (.istore 6, 2) := by decide +kernel
theorem dc_L_law_165 : decode cd_L_law 165 = .ok (.aload_n 2, 1) := by decide +kernel
theorem dc_L_law_166 : decode cd_L_law 166 = .ok (.invokevirtual 72, 3) := by decide +kernel
theorem dc_L_law_169 : decode cd_L_law 169 = .ok (.iload 5, 2) := by decide +kernel
theorem dc_L_law_171 : decode cd_L_law 171 = .ok (.if_icmp .eq 5, 3) := by decide +kernel
theorem dc_L_law_174 : decode cd_L_law 174 = .ok (.iconst 0, 1) := by decide +kernel
theorem dc_L_law_175 : decode cd_L_law 175 = .ok (.ireturn, 1) := by decide +kernel
theorem dc_L_law_176 : decode cd_L_law 176 = .ok (.iload 5, 2) := by decide +kernel
theorem dc_L_law_178 : decode cd_L_law 178 = .ok (.ifCond .ne 15, 3) := by decide +kernel
theorem dc_L_law_181 : decode cd_L_law 181 = .ok (.aload_n 3, 1) := by decide +kernel
theorem dc_L_law_182 : decode cd_L_law 182 = .ok (.iconst 0, 1) := by decide +kernel
theorem dc_L_law_183 : decode cd_L_law 183 = .ok (.laload, 1) := by decide +kernel
theorem dc_L_law_184 : decode cd_L_law 184 = .ok (.iload 6, 2) := by decide +kernel
theorem dc_L_law_186 : decode cd_L_law 186 = .ok (.i2l, 1) := by decide +kernel
theorem dc_L_law_187 : decode cd_L_law 187 = .ok (.lcmp, 1) := by decide +kernel
theorem dc_L_law_188 : decode cd_L_law 188 = .ok (.ifCond .eq 5, 3) := by decide +kernel
theorem dc_L_law_191 : decode cd_L_law 191 = .ok (.iconst 0, 1) := by decide +kernel
theorem dc_L_law_192 : decode cd_L_law 192 = .ok (.ireturn, 1) := by decide +kernel
theorem dc_L_law_193 : decode cd_L_law 193 = .ok (.goto 702, 3) := by decide +kernel
theorem dc_L_law_196 : decode cd_L_law 196 = .ok (.aload_n 1, 1) := by decide +kernel
theorem dc_L_law_197 : decode cd_L_law 197 = .ok (.aload_n 0, 1) := by decide +kernel
theorem dc_L_law_198 : decode cd_L_law 198 = .ok (.iload 4, 2) := by decide +kernel
theorem dc_L_law_200 : decode cd_L_law 200 = .ok (.iconst 1, 1) := by decide +kernel
theorem dc_L_law_201 : decode cd_L_law 201 = .ok (.iadd, 1) := by decide +kernel
theorem dc_L_law_202 : decode cd_L_law 202 = .ok (.iaload, 1) := by decide +kernel
theorem dc_L_law_203 : decode cd_L_law 203 = .ok (.aload_n 0, 1) := by decide +kernel
theorem dc_L_law_204 : decode cd_L_law 204 = .ok (.iload 4, 2) := by decide +kernel
theorem dc_L_law_206 : decode cd_L_law 206 = .ok (.iconst 2, 1) := by decide +kernel
theorem dc_L_law_207 : decode cd_L_law 207 = .ok (.iadd, 1) := by decide +kernel
theorem dc_L_law_208 : decode cd_L_law 208 = .ok (.iaload, 1) := by decide +kernel
theorem dc_L_law_209 : decode cd_L_law 209 = .ok (.aload_n 3, 1) := by decide +kernel
theorem dc_L_law_210 : decode cd_L_law 210 = .ok (.invokestatic 75, 3) := by decide +kernel
theorem dc_L_law_213 : decode cd_L_law 213 = .ok (.istore 5, 2) := by decide +kernel
theorem dc_L_law_215 : decode cd_L_law 215 = .ok (.aload_n 2, 1) := by decide +kernel
theorem dc_L_law_216 : decode cd_L_law 216 = .ok (.aload_n 0, 1) := by decide +kernel
theorem dc_L_law_217 : decode cd_L_law 217 = .ok (.iload 4, 2) := by decide +kernel
theorem dc_L_law_219 : decode cd_L_law 219 = .ok (.iconst 1, 1) := by decide +kernel
theorem dc_L_law_220 : decode cd_L_law 220 = .ok (.iadd, 1) := by decide +kernel
theorem dc_L_law_221 : decode cd_L_law 221 = .ok (.iaload, 1) := by decide +kernel
theorem dc_L_law_222 : decode cd_L_law 222 = .ok (.aload_n 0, 1) := by decide +kernel
theorem dc_L_law_223 : decode cd_L_law 223 = .ok (.iload 4, 2) := by decide +kernel
theorem dc_L_law_225 : decode cd_L_law 225 = .ok (.iconst 2, 1) := by decide +kernel
theorem dc_L_law_226 : decode cd_L_law 226 = .ok (.iadd, 1) := by decide +kernel
theorem dc_L_law_227 : decode cd_L_law 227 = .ok (.iaload, 1) := by decide +kernel
theorem dc_L_law_228 : decode cd_L_law 228 = .ok (.invokevirtual 77, 3) := by decide +kernel
theorem dc_L_law_231 : decode cd_L_law 231 = .ok (.istore 6, 2) := by decide +kernel
theorem dc_L_law_233 : decode cd_L_law 233 = .ok (.aload_n 2, 1) := by decide +kernel
theorem dc_L_law_234 : decode cd_L_law 234 = .ok (.invokevirtual 72, 3) := by decide +kernel
theorem dc_L_law_237 : decode cd_L_law 237 = .ok (.iload 5, 2) := by decide +kernel
theorem dc_L_law_239 : decode cd_L_law 239 = .ok (.if_icmp .eq 5, 3) := by decide +kernel
theorem dc_L_law_242 : decode cd_L_law 242 = .ok (.iconst 0, 1) := by decide +kernel
theorem dc_L_law_243 : decode cd_L_law 243 = .ok (.ireturn, 1) := by decide +kernel
theorem dc_L_law_244 : decode cd_L_law 244 = .ok (.iload 5, 2) := by decide +kernel
theorem dc_L_law_246 : decode cd_L_law 246 = .ok (.ifCond .ne 15, 3) := by decide +kernel
theorem dc_L_law_249 : decode cd_L_law 249 = .ok (.aload_n 3, 1) := by decide +kernel
theorem dc_L_law_250 : decode cd_L_law 250 = .ok (.iconst 0, 1) := by decide +kernel
theorem dc_L_law_251 : decode cd_L_law 251 = .ok (.laload, 1) := by decide +kernel
theorem dc_L_law_252 : decode cd_L_law 252 = .ok (.iload 6, 2) := by decide +kernel
theorem dc_L_law_254 : decode cd_L_law 254 = .ok (.i2l, 1) := by decide +kernel
theorem dc_L_law_255 : decode cd_L_law 255 = .ok (.lcmp, 1) := by decide +kernel
theorem dc_L_law_256 : decode cd_L_law 256 = .ok (.ifCond .eq 5, 3) := by decide +kernel
theorem dc_L_law_259 : decode cd_L_law 259 = .ok (.iconst 0, 1) := by decide +kernel
theorem dc_L_law_260 : decode cd_L_law 260 = .ok (.ireturn, 1) := by decide +kernel
theorem dc_L_law_261 : decode cd_L_law 261 = .ok (.goto 634, 3) := by decide +kernel
theorem dc_L_law_264 : decode cd_L_law 264 = .ok (.aload_n 1, 1) := by decide +kernel
theorem dc_L_law_265 : decode cd_L_law 265 = .ok (.invokestatic 78, 3) := by decide +kernel
theorem dc_L_law_268 : decode cd_L_law 268 = .ok (.istore 5, 2) := by decide +kernel
theorem dc_L_law_270 : decode cd_L_law 270 = .ok (.aload_n 2, 1) := by decide +kernel
theorem dc_L_law_271 : decode cd_L_law 271 = .ok (.invokevirtual 81, 3) := by decide +kernel
theorem dc_L_law_274 : decode cd_L_law 274 = .ok (.aload_n 2, 1) := by decide +kernel
theorem dc_L_law_275 : decode cd_L_law 275 = .ok (.invokevirtual 72, 3) := by decide +kernel
theorem dc_L_law_278 : decode cd_L_law 278 = .ok (.iload 5, 2) := by decide +kernel
theorem dc_L_law_280 : decode cd_L_law 280 = .ok (.if_icmp .eq 5, 3) := by decide +kernel
theorem dc_L_law_283 : decode cd_L_law 283 = .ok (.iconst 0, 1) := by decide +kernel
theorem dc_L_law_284 : decode cd_L_law 284 = .ok (.ireturn, 1) := by decide +kernel
theorem dc_L_law_285 : decode cd_L_law 285 = .ok (.goto 610, 3) := by decide +kernel
theorem dc_L_law_288 : decode cd_L_law 288 = .ok (.aload_n 1, 1) := by decide +kernel
theorem dc_L_law_289 : decode cd_L_law 289 = .ok (.invokevirtual 82, 3) := by decide +kernel
theorem dc_L_law_292 : decode cd_L_law 292 = .ok (.aload_n 2, 1) := by decide +kernel
theorem dc_L_law_293 : decode cd_L_law 293 = .ok (.invokevirtual 85, 3) := by decide +kernel
theorem dc_L_law_296 : decode cd_L_law 296 = .ok (.goto 599, 3) := by decide +kernel
theorem dc_L_law_299 : decode cd_L_law 299 = .ok (.aload_n 1, 1) := by decide +kernel
theorem dc_L_law_300 : decode cd_L_law 300 = .ok (.aload_n 0, 1) := by decide +kernel
theorem dc_L_law_301 : decode cd_L_law 301 = .ok (.iload 4, 2) := by decide +kernel
theorem dc_L_law_303 : decode cd_L_law 303 = .ok (.iconst 1, 1) := by decide +kernel
theorem dc_L_law_304 : decode cd_L_law 304 = .ok (.iadd, 1) := by decide +kernel
theorem dc_L_law_305 : decode cd_L_law 305 = .ok (.iaload, 1) := by decide +kernel
theorem dc_L_law_306 : decode cd_L_law 306 = .ok (.aload_n 3, 1) := by decide +kernel
theorem dc_L_law_307 : decode cd_L_law 307 = .ok (.invokestatic 86, 3) := by decide +kernel
theorem dc_L_law_310 : decode cd_L_law 310 = .ok (.istore 5, 2) := by decide +kernel
theorem dc_L_law_312 : decode cd_L_law 312 = .ok (.aload_n 2, 1) := by decide +kernel
theorem dc_L_law_313 : decode cd_L_law 313 = .ok (.aload_n 0, 1) := by decide +kernel
theorem dc_L_law_314 : decode cd_L_law 314 = .ok (.iload 4, 2) := by decide +kernel
theorem dc_L_law_316 : decode cd_L_law 316 = .ok (.iconst 1, 1) := by decide +kernel
theorem dc_L_law_317 : decode cd_L_law 317 = .ok (.iadd, 1) := by decide +kernel
theorem dc_L_law_318 : decode cd_L_law 318 = .ok (.iaload, 1) := by decide +kernel
theorem dc_L_law_319 : decode cd_L_law 319 = .ok (.invokevirtual 89, 3) := by decide +kernel
theorem dc_L_law_322 : decode cd_L_law 322 = .ok (.istore 6, 2) := by decide +kernel
theorem dc_L_law_324 : decode cd_L_law 324 = .ok (.aload_n 2, 1) := by decide +kernel
theorem dc_L_law_325 : decode cd_L_law 325 = .ok (.invokevirtual 72, 3) := by decide +kernel
theorem dc_L_law_328 : decode cd_L_law 328 = .ok (.iload 5, 2) := by decide +kernel
theorem dc_L_law_330 : decode cd_L_law 330 = .ok (.if_icmp .eq 5, 3) := by decide +kernel
theorem dc_L_law_333 : decode cd_L_law 333 = .ok (.iconst 0, 1) := by decide +kernel
theorem dc_L_law_334 : decode cd_L_law 334 = .ok (.ireturn, 1) := by decide +kernel
theorem dc_L_law_335 : decode cd_L_law 335 = .ok (.iload 5, 2) := by decide +kernel
theorem dc_L_law_337 : decode cd_L_law 337 = .ok (.ifCond .ne 15, 3) := by decide +kernel
theorem dc_L_law_340 : decode cd_L_law 340 = .ok (.aload_n 3, 1) := by decide +kernel
theorem dc_L_law_341 : decode cd_L_law 341 = .ok (.iconst 0, 1) := by decide +kernel
theorem dc_L_law_342 : decode cd_L_law 342 = .ok (.laload, 1) := by decide +kernel
theorem dc_L_law_343 : decode cd_L_law 343 = .ok (.iload 6, 2) := by decide +kernel
theorem dc_L_law_345 : decode cd_L_law 345 = .ok (.i2l, 1) := by decide +kernel
theorem dc_L_law_346 : decode cd_L_law 346 = .ok (.lcmp, 1) := by decide +kernel
theorem dc_L_law_347 : decode cd_L_law 347 = .ok (.ifCond .eq 5, 3) := by decide +kernel
theorem dc_L_law_350 : decode cd_L_law 350 = .ok (.iconst 0, 1) := by decide +kernel
theorem dc_L_law_351 : decode cd_L_law 351 = .ok (.ireturn, 1) := by decide +kernel
theorem dc_L_law_352 : decode cd_L_law 352 = .ok (.goto 543, 3) := by decide +kernel
theorem dc_L_law_355 : decode cd_L_law 355 = .ok (.aload_n 1, 1) := by decide +kernel
theorem dc_L_law_356 : decode cd_L_law 356 = .ok (.aload_n 3, 1) := by decide +kernel
theorem dc_L_law_357 : decode cd_L_law 357 = .ok (.invokestatic 90, 3) := by decide +kernel
theorem dc_L_law_360 : decode cd_L_law 360 = .ok (.istore 5, 2) := by decide +kernel
theorem dc_L_law_362 : decode cd_L_law 362 = .ok (.aload_n 2, 1) := by decide +kernel
theorem dc_L_law_363 : decode cd_L_law 363 = .ok (.invokevirtual 93, 3) := by decide +kernel
theorem dc_L_law_366 : decode cd_L_law 366 = .ok (.istore 6, 2) := by decide +kernel
theorem dc_L_law_368 : decode cd_L_law 368 = .ok (.aload_n 2, 1) := by decide +kernel
theorem dc_L_law_369 : decode cd_L_law 369 = .ok (.invokevirtual 72, 3) := by decide +kernel
theorem dc_L_law_372 : decode cd_L_law 372 = .ok (.iload 5, 2) := by decide +kernel
theorem dc_L_law_374 : decode cd_L_law 374 = .ok (.if_icmp .eq 5, 3) := by decide +kernel
theorem dc_L_law_377 : decode cd_L_law 377 = .ok (.iconst 0, 1) := by decide +kernel
theorem dc_L_law_378 : decode cd_L_law 378 = .ok (.ireturn, 1) := by decide +kernel
theorem dc_L_law_379 : decode cd_L_law 379 = .ok (.iload 5, 2) := by decide +kernel
theorem dc_L_law_381 : decode cd_L_law 381 = .ok (.ifCond .ne 15, 3) := by decide +kernel
theorem dc_L_law_384 : decode cd_L_law 384 = .ok (.aload_n 3, 1) := by decide +kernel
theorem dc_L_law_385 : decode cd_L_law 385 = .ok (.iconst 0, 1) := by decide +kernel
theorem dc_L_law_386 : decode cd_L_law 386 = .ok (.laload, 1) := by decide +kernel
theorem dc_L_law_387 : decode cd_L_law 387 = .ok (.iload 6, 2) := by decide +kernel
theorem dc_L_law_389 : decode cd_L_law 389 = .ok (.i2l, 1) := by decide +kernel
theorem dc_L_law_390 : decode cd_L_law 390 = .ok (.lcmp, 1) := by decide +kernel
theorem dc_L_law_391 : decode cd_L_law 391 = .ok (.ifCond .eq 5, 3) := by decide +kernel
theorem dc_L_law_394 : decode cd_L_law 394 = .ok (.iconst 0, 1) := by decide +kernel
theorem dc_L_law_395 : decode cd_L_law 395 = .ok (.ireturn, 1) := by decide +kernel
theorem dc_L_law_396 : decode cd_L_law 396 = .ok (.goto 499, 3) := by decide +kernel
theorem dc_L_law_399 : decode cd_L_law 399 = .ok (.aload_n 1, 1) := by decide +kernel
theorem dc_L_law_400 : decode cd_L_law 400 = .ok (.aload_n 3, 1) := by decide +kernel
theorem dc_L_law_401 : decode cd_L_law 401 = .ok (.invokestatic 94, 3) := by decide +kernel
theorem dc_L_law_404 : decode cd_L_law 404 = .ok (.istore 5, 2) := by decide +kernel
theorem dc_L_law_406 : decode cd_L_law 406 = .ok (.aload_n 2, 1) := by decide +kernel
theorem dc_L_law_407 : decode cd_L_law 407 = .ok (.invokevirtual 96, 3) := by decide +kernel
theorem dc_L_law_410 : decode cd_L_law 410 = .ok (.istore 6, 2) := by decide +kernel
theorem dc_L_law_412 : decode cd_L_law 412 = .ok (.aload_n 2, 1) := by decide +kernel
theorem dc_L_law_413 : decode cd_L_law 413 = .ok (.invokevirtual 72, 3) := by decide +kernel
theorem dc_L_law_416 : decode cd_L_law 416 = .ok (.iload 5, 2) := by decide +kernel
theorem dc_L_law_418 : decode cd_L_law 418 = .ok (.if_icmp .eq 5, 3) := by decide +kernel
theorem dc_L_law_421 : decode cd_L_law 421 = .ok (.iconst 0, 1) := by decide +kernel
theorem dc_L_law_422 : decode cd_L_law 422 = .ok (.ireturn, 1) := by decide +kernel
theorem dc_L_law_423 : decode cd_L_law 423 = .ok (.iload 5, 2) := by decide +kernel
theorem dc_L_law_425 : decode cd_L_law 425 = .ok (.ifCond .ne 15, 3) := by decide +kernel
theorem dc_L_law_428 : decode cd_L_law 428 = .ok (.aload_n 3, 1) := by decide +kernel
theorem dc_L_law_429 : decode cd_L_law 429 = .ok (.iconst 0, 1) := by decide +kernel
theorem dc_L_law_430 : decode cd_L_law 430 = .ok (.laload, 1) := by decide +kernel
theorem dc_L_law_431 : decode cd_L_law 431 = .ok (.iload 6, 2) := by decide +kernel
theorem dc_L_law_433 : decode cd_L_law 433 = .ok (.i2l, 1) := by decide +kernel
theorem dc_L_law_434 : decode cd_L_law 434 = .ok (.lcmp, 1) := by decide +kernel
theorem dc_L_law_435 : decode cd_L_law 435 = .ok (.ifCond .eq 5, 3) := by decide +kernel
theorem dc_L_law_438 : decode cd_L_law 438 = .ok (.iconst 0, 1) := by decide +kernel
theorem dc_L_law_439 : decode cd_L_law 439 = .ok (.ireturn, 1) := by decide +kernel
theorem dc_L_law_440 : decode cd_L_law 440 = .ok (.goto 455, 3) := by decide +kernel
theorem dc_L_law_443 : decode cd_L_law 443 = .ok (.aload_n 1, 1) := by decide +kernel
theorem dc_L_law_444 : decode cd_L_law 444 = .ok (.invokevirtual 97, 3) := by decide +kernel
theorem dc_L_law_447 : decode cd_L_law 447 = .ok (.aload_n 2, 1) := by decide +kernel
theorem dc_L_law_448 : decode cd_L_law 448 = .ok (.invokevirtual 100, 3) := by decide +kernel
theorem dc_L_law_451 : decode cd_L_law 451 = .ok (.if_icmp .eq 444, 3) := by decide +kernel
theorem dc_L_law_454 : decode cd_L_law 454 = .ok (.iconst 0, 1) := by decide +kernel
theorem dc_L_law_455 : decode cd_L_law 455 = .ok (.ireturn, 1) := by decide +kernel
theorem dc_L_law_456 : decode cd_L_law 456 = .ok (.aload_n 1, 1) := by decide +kernel
theorem dc_L_law_457 : decode cd_L_law 457 = .ok (.aload_n 0, 1) := by decide +kernel
theorem dc_L_law_458 : decode cd_L_law 458 = .ok (.iload 4, 2) := by decide +kernel
theorem dc_L_law_460 : decode cd_L_law 460 = .ok (.iconst 1, 1) := by decide +kernel
theorem dc_L_law_461 : decode cd_L_law 461 = .ok (.iadd, 1) := by decide +kernel
theorem dc_L_law_462 : decode cd_L_law 462 = .ok (.iaload, 1) := by decide +kernel
theorem dc_L_law_463 : decode cd_L_law 463 = .ok (.aload_n 3, 1) := by decide +kernel
theorem dc_L_law_464 : decode cd_L_law 464 = .ok (.invokestatic 101, 3) := by decide +kernel
theorem dc_L_law_467 : decode cd_L_law 467 = .ok (.istore 5, 2) := by decide +kernel
theorem dc_L_law_469 : decode cd_L_law 469 = .ok (.aload_n 2, 1) := by decide +kernel
theorem dc_L_law_470 : decode cd_L_law 470 = .ok (.aload_n 0, 1) := by decide +kernel
theorem dc_L_law_471 : decode cd_L_law 471 = .ok (.iload 4, 2) := by decide +kernel
theorem dc_L_law_473 : decode cd_L_law 473 = .ok (.iconst 1, 1) := by decide +kernel
theorem dc_L_law_474 : decode cd_L_law 474 = .ok (.iadd, 1) := by decide +kernel
theorem dc_L_law_475 : decode cd_L_law 475 = .ok (.iaload, 1) := by decide +kernel
theorem dc_L_law_476 : decode cd_L_law 476 = .ok (.invokevirtual 103, 3) := by decide +kernel
theorem dc_L_law_479 : decode cd_L_law 479 = .ok (.istore 6, 2) := by decide +kernel
theorem dc_L_law_481 : decode cd_L_law 481 = .ok (.aload_n 2, 1) := by decide +kernel
theorem dc_L_law_482 : decode cd_L_law 482 = .ok (.invokevirtual 72, 3) := by decide +kernel
theorem dc_L_law_485 : decode cd_L_law 485 = .ok (.iload 5, 2) := by decide +kernel
theorem dc_L_law_487 : decode cd_L_law 487 = .ok (.if_icmp .eq 5, 3) := by decide +kernel
theorem dc_L_law_490 : decode cd_L_law 490 = .ok (.iconst 0, 1) := by decide +kernel
theorem dc_L_law_491 : decode cd_L_law 491 = .ok (.ireturn, 1) := by decide +kernel
theorem dc_L_law_492 : decode cd_L_law 492 = .ok (.iload 5, 2) := by decide +kernel
theorem dc_L_law_494 : decode cd_L_law 494 = .ok (.ifCond .ne 15, 3) := by decide +kernel
theorem dc_L_law_497 : decode cd_L_law 497 = .ok (.aload_n 3, 1) := by decide +kernel
theorem dc_L_law_498 : decode cd_L_law 498 = .ok (.iconst 0, 1) := by decide +kernel
theorem dc_L_law_499 : decode cd_L_law 499 = .ok (.laload, 1) := by decide +kernel
theorem dc_L_law_500 : decode cd_L_law 500 = .ok (.iload 6, 2) := by decide +kernel
theorem dc_L_law_502 : decode cd_L_law 502 = .ok (.i2l, 1) := by decide +kernel
theorem dc_L_law_503 : decode cd_L_law 503 = .ok (.lcmp, 1) := by decide +kernel
theorem dc_L_law_504 : decode cd_L_law 504 = .ok (.ifCond .eq 5, 3) := by decide +kernel
theorem dc_L_law_507 : decode cd_L_law 507 = .ok (.iconst 0, 1) := by decide +kernel
theorem dc_L_law_508 : decode cd_L_law 508 = .ok (.ireturn, 1) := by decide +kernel
theorem dc_L_law_509 : decode cd_L_law 509 = .ok (.goto 386, 3) := by decide +kernel
theorem dc_L_law_512 : decode cd_L_law 512 = .ok (.aload_n 1, 1) := by decide +kernel
theorem dc_L_law_513 : decode cd_L_law 513 = .ok (.invokevirtual 104, 3) := by decide +kernel
theorem dc_L_law_516 : decode cd_L_law 516 = .ok (.aload_n 2, 1) := by decide +kernel
theorem dc_L_law_517 : decode cd_L_law 517 = .ok (.invokevirtual 107, 3) := by decide +kernel
theorem dc_L_law_520 : decode cd_L_law 520 = .ok (.if_icmp .eq 375, 3) := by decide +kernel
theorem dc_L_law_523 : decode cd_L_law 523 = .ok (.iconst 0, 1) := by decide +kernel
theorem dc_L_law_524 : decode cd_L_law 524 = .ok (.ireturn, 1) := by decide +kernel
theorem dc_L_law_525 : decode cd_L_law 525 = .ok (.aload_n 1, 1) := by decide +kernel
theorem dc_L_law_526 : decode cd_L_law 526 = .ok (.aload_n 0, 1) := by decide +kernel
theorem dc_L_law_527 : decode cd_L_law 527 = .ok (.iload 4, 2) := by decide +kernel
theorem dc_L_law_529 : decode cd_L_law 529 = .ok (.iconst 1, 1) := by decide +kernel
theorem dc_L_law_530 : decode cd_L_law 530 = .ok (.iadd, 1) := by decide +kernel
theorem dc_L_law_531 : decode cd_L_law 531 = .ok (.iaload, 1) := by decide +kernel
theorem dc_L_law_532 : decode cd_L_law 532 = .ok (.aload_n 3, 1) := by decide +kernel
theorem dc_L_law_533 : decode cd_L_law 533 = .ok (.invokestatic 108, 3) := by decide +kernel
theorem dc_L_law_536 : decode cd_L_law 536 = .ok (.istore 5, 2) := by decide +kernel
theorem dc_L_law_538 : decode cd_L_law 538 = .ok (.aload_n 2, 1) := by decide +kernel
theorem dc_L_law_539 : decode cd_L_law 539 = .ok (.aload_n 0, 1) := by decide +kernel
theorem dc_L_law_540 : decode cd_L_law 540 = .ok (.iload 4, 2) := by decide +kernel
theorem dc_L_law_542 : decode cd_L_law 542 = .ok (.iconst 1, 1) := by decide +kernel
theorem dc_L_law_543 : decode cd_L_law 543 = .ok (.iadd, 1) := by decide +kernel
theorem dc_L_law_544 : decode cd_L_law 544 = .ok (.iaload, 1) := by decide +kernel
theorem dc_L_law_545 : decode cd_L_law 545 = .ok (.invokevirtual 110, 3) := by decide +kernel
theorem dc_L_law_548 : decode cd_L_law 548 = .ok (.istore 6, 2) := by decide +kernel
theorem dc_L_law_550 : decode cd_L_law 550 = .ok (.aload_n 2, 1) := by decide +kernel
theorem dc_L_law_551 : decode cd_L_law 551 = .ok (.invokevirtual 72, 3) := by decide +kernel
theorem dc_L_law_554 : decode cd_L_law 554 = .ok (.iload 5, 2) := by decide +kernel
theorem dc_L_law_556 : decode cd_L_law 556 = .ok (.if_icmp .eq 5, 3) := by decide +kernel
theorem dc_L_law_559 : decode cd_L_law 559 = .ok (.iconst 0, 1) := by decide +kernel
theorem dc_L_law_560 : decode cd_L_law 560 = .ok (.ireturn, 1) := by decide +kernel
theorem dc_L_law_561 : decode cd_L_law 561 = .ok (.iload 5, 2) := by decide +kernel
theorem dc_L_law_563 : decode cd_L_law 563 = .ok (.ifCond .ne 15, 3) := by decide +kernel
theorem dc_L_law_566 : decode cd_L_law 566 = .ok (.aload_n 3, 1) := by decide +kernel
theorem dc_L_law_567 : decode cd_L_law 567 = .ok (.iconst 0, 1) := by decide +kernel
theorem dc_L_law_568 : decode cd_L_law 568 = .ok (.laload, 1) := by decide +kernel
theorem dc_L_law_569 : decode cd_L_law 569 = .ok (.iload 6, 2) := by decide +kernel
theorem dc_L_law_571 : decode cd_L_law 571 = .ok (.i2l, 1) := by decide +kernel
theorem dc_L_law_572 : decode cd_L_law 572 = .ok (.lcmp, 1) := by decide +kernel
theorem dc_L_law_573 : decode cd_L_law 573 = .ok (.ifCond .eq 5, 3) := by decide +kernel
theorem dc_L_law_576 : decode cd_L_law 576 = .ok (.iconst 0, 1) := by decide +kernel
theorem dc_L_law_577 : decode cd_L_law 577 = .ok (.ireturn, 1) := by decide +kernel
theorem dc_L_law_578 : decode cd_L_law 578 = .ok (.goto 317, 3) := by decide +kernel
theorem dc_L_law_581 : decode cd_L_law 581 = .ok (.aload_n 1, 1) := by decide +kernel
theorem dc_L_law_582 : decode cd_L_law 582 = .ok (.aload_n 3, 1) := by decide +kernel
theorem dc_L_law_583 : decode cd_L_law 583 = .ok (.invokestatic 111, 3) := by decide +kernel
theorem dc_L_law_586 : decode cd_L_law 586 = .ok (.istore 5, 2) := by decide +kernel
theorem dc_L_law_588 : decode cd_L_law 588 = .ok (.aload_n 2, 1) := by decide +kernel
theorem dc_L_law_589 : decode cd_L_law 589 = .ok (.invokevirtual 113, 3) := by decide +kernel
theorem dc_L_law_592 : decode cd_L_law 592 = .ok (.istore 6, 2) := by decide +kernel
theorem dc_L_law_594 : decode cd_L_law 594 = .ok (.aload_n 2, 1) := by decide +kernel
theorem dc_L_law_595 : decode cd_L_law 595 = .ok (.invokevirtual 72, 3) := by decide +kernel
theorem dc_L_law_598 : decode cd_L_law 598 = .ok (.iload 5, 2) := by decide +kernel
theorem dc_L_law_600 : decode cd_L_law 600 = .ok (.if_icmp .eq 5, 3) := by decide +kernel
theorem dc_L_law_603 : decode cd_L_law 603 = .ok (.iconst 0, 1) := by decide +kernel
theorem dc_L_law_604 : decode cd_L_law 604 = .ok (.ireturn, 1) := by decide +kernel
theorem dc_L_law_605 : decode cd_L_law 605 = .ok (.iload 5, 2) := by decide +kernel
theorem dc_L_law_607 : decode cd_L_law 607 = .ok (.ifCond .ne 15, 3) := by decide +kernel
theorem dc_L_law_610 : decode cd_L_law 610 = .ok (.aload_n 3, 1) := by decide +kernel
theorem dc_L_law_611 : decode cd_L_law 611 = .ok (.iconst 0, 1) := by decide +kernel
theorem dc_L_law_612 : decode cd_L_law 612 = .ok (.laload, 1) := by decide +kernel
theorem dc_L_law_613 : decode cd_L_law 613 = .ok (.iload 6, 2) := by decide +kernel
theorem dc_L_law_615 : decode cd_L_law 615 = .ok (.i2l, 1) := by decide +kernel
theorem dc_L_law_616 : decode cd_L_law 616 = .ok (.lcmp, 1) := by decide +kernel
theorem dc_L_law_617 : decode cd_L_law 617 = .ok (.ifCond .eq 5, 3) := by decide +kernel
theorem dc_L_law_620 : decode cd_L_law 620 = .ok (.iconst 0, 1) := by decide +kernel
theorem dc_L_law_621 : decode cd_L_law 621 = .ok (.ireturn, 1) := by decide +kernel
theorem dc_L_law_622 : decode cd_L_law 622 = .ok (.goto 273, 3) := by decide +kernel
theorem dc_L_law_625 : decode cd_L_law 625 = .ok (.aload_n 1, 1) := by decide +kernel
theorem dc_L_law_626 : decode cd_L_law 626 = .ok (.aload_n 3, 1) := by decide +kernel
theorem dc_L_law_627 : decode cd_L_law 627 = .ok (.invokestatic 114, 3) := by decide +kernel
theorem dc_L_law_630 : decode cd_L_law 630 = .ok (.istore 5, 2) := by decide +kernel
theorem dc_L_law_632 : decode cd_L_law 632 = .ok (.aload_n 2, 1) := by decide +kernel
theorem dc_L_law_633 : decode cd_L_law 633 = .ok (.invokevirtual 116, 3) := by decide +kernel
theorem dc_L_law_636 : decode cd_L_law 636 = .ok (.istore 6, 2) := by decide +kernel
theorem dc_L_law_638 : decode cd_L_law 638 = .ok (.aload_n 2, 1) := by decide +kernel
theorem dc_L_law_639 : decode cd_L_law 639 = .ok (.invokevirtual 72, 3) := by decide +kernel
theorem dc_L_law_642 : decode cd_L_law 642 = .ok (.iload 5, 2) := by decide +kernel
theorem dc_L_law_644 : decode cd_L_law 644 = .ok (.if_icmp .eq 5, 3) := by decide +kernel
theorem dc_L_law_647 : decode cd_L_law 647 = .ok (.iconst 0, 1) := by decide +kernel
theorem dc_L_law_648 : decode cd_L_law 648 = .ok (.ireturn, 1) := by decide +kernel
theorem dc_L_law_649 : decode cd_L_law 649 = .ok (.iload 5, 2) := by decide +kernel
theorem dc_L_law_651 : decode cd_L_law 651 = .ok (.ifCond .ne 15, 3) := by decide +kernel
theorem dc_L_law_654 : decode cd_L_law 654 = .ok (.aload_n 3, 1) := by decide +kernel
theorem dc_L_law_655 : decode cd_L_law 655 = .ok (.iconst 0, 1) := by decide +kernel
theorem dc_L_law_656 : decode cd_L_law 656 = .ok (.laload, 1) := by decide +kernel
theorem dc_L_law_657 : decode cd_L_law 657 = .ok (.iload 6, 2) := by decide +kernel
theorem dc_L_law_659 : decode cd_L_law 659 = .ok (.i2l, 1) := by decide +kernel
theorem dc_L_law_660 : decode cd_L_law 660 = .ok (.lcmp, 1) := by decide +kernel
theorem dc_L_law_661 : decode cd_L_law 661 = .ok (.ifCond .eq 5, 3) := by decide +kernel
theorem dc_L_law_664 : decode cd_L_law 664 = .ok (.iconst 0, 1) := by decide +kernel
theorem dc_L_law_665 : decode cd_L_law 665 = .ok (.ireturn, 1) := by decide +kernel
theorem dc_L_law_666 : decode cd_L_law 666 = .ok (.goto 229, 3) := by decide +kernel
theorem dc_L_law_669 : decode cd_L_law 669 = .ok (.aload_n 1, 1) := by decide +kernel
theorem dc_L_law_670 : decode cd_L_law 670 = .ok (.aload_n 3, 1) := by decide +kernel
theorem dc_L_law_671 : decode cd_L_law 671 = .ok (.invokestatic 117, 3) := by decide +kernel
theorem dc_L_law_674 : decode cd_L_law 674 = .ok (.istore 5, 2) := by decide +kernel
theorem dc_L_law_676 : decode cd_L_law 676 = .ok (.aload_n 2, 1) := by decide +kernel
theorem dc_L_law_677 : decode cd_L_law 677 = .ok (.invokevirtual 119, 3) := by decide +kernel
theorem dc_L_law_680 : decode cd_L_law 680 = .ok (.istore 6, 2) := by decide +kernel
theorem dc_L_law_682 : decode cd_L_law 682 = .ok (.aload_n 2, 1) := by decide +kernel
theorem dc_L_law_683 : decode cd_L_law 683 = .ok (.invokevirtual 72, 3) := by decide +kernel
theorem dc_L_law_686 : decode cd_L_law 686 = .ok (.iload 5, 2) := by decide +kernel
theorem dc_L_law_688 : decode cd_L_law 688 = .ok (.if_icmp .eq 5, 3) := by decide +kernel
theorem dc_L_law_691 : decode cd_L_law 691 = .ok (.iconst 0, 1) := by decide +kernel
theorem dc_L_law_692 : decode cd_L_law 692 = .ok (.ireturn, 1) := by decide +kernel
theorem dc_L_law_693 : decode cd_L_law 693 = .ok (.iload 5, 2) := by decide +kernel
theorem dc_L_law_695 : decode cd_L_law 695 = .ok (.ifCond .ne 15, 3) := by decide +kernel
theorem dc_L_law_698 : decode cd_L_law 698 = .ok (.aload_n 3, 1) := by decide +kernel
theorem dc_L_law_699 : decode cd_L_law 699 = .ok (.iconst 0, 1) := by decide +kernel
theorem dc_L_law_700 : decode cd_L_law 700 = .ok (.laload, 1) := by decide +kernel
theorem dc_L_law_701 : decode cd_L_law 701 = .ok (.iload 6, 2) := by decide +kernel
theorem dc_L_law_703 : decode cd_L_law 703 = .ok (.i2l, 1) := by decide +kernel
theorem dc_L_law_704 : decode cd_L_law 704 = .ok (.lcmp, 1) := by decide +kernel
theorem dc_L_law_705 : decode cd_L_law 705 = .ok (.ifCond .eq 5, 3) := by decide +kernel
theorem dc_L_law_708 : decode cd_L_law 708 = .ok (.iconst 0, 1) := by decide +kernel
theorem dc_L_law_709 : decode cd_L_law 709 = .ok (.ireturn, 1) := by decide +kernel
theorem dc_L_law_710 : decode cd_L_law 710 = .ok (.goto 185, 3) := by decide +kernel
theorem dc_L_law_713 : decode cd_L_law 713 = .ok (.aload_n 1, 1) := by decide +kernel
theorem dc_L_law_714 : decode cd_L_law 714 = .ok (.aload_n 3, 1) := by decide +kernel
theorem dc_L_law_715 : decode cd_L_law 715 = .ok (.invokestatic 120, 3) := by decide +kernel
theorem dc_L_law_718 : decode cd_L_law 718 = .ok (.istore 5, 2) := by decide +kernel
theorem dc_L_law_720 : decode cd_L_law 720 = .ok (.aload_n 2, 1) := by decide +kernel
theorem dc_L_law_721 : decode cd_L_law 721 = .ok (.invokevirtual 122, 3) := by decide +kernel
theorem dc_L_law_724 : decode cd_L_law 724 = .ok (.istore 6, 2) := by decide +kernel
theorem dc_L_law_726 : decode cd_L_law 726 = .ok (.aload_n 2, 1) := by decide +kernel
theorem dc_L_law_727 : decode cd_L_law 727 = .ok (.invokevirtual 72, 3) := by decide +kernel
theorem dc_L_law_730 : decode cd_L_law 730 = .ok (.iload 5, 2) := by decide +kernel
theorem dc_L_law_732 : decode cd_L_law 732 = .ok (.if_icmp .eq 5, 3) := by decide +kernel
theorem dc_L_law_735 : decode cd_L_law 735 = .ok (.iconst 0, 1) := by decide +kernel
theorem dc_L_law_736 : decode cd_L_law 736 = .ok (.ireturn, 1) := by decide +kernel
theorem dc_L_law_737 : decode cd_L_law 737 = .ok (.iload 5, 2) := by decide +kernel
theorem dc_L_law_739 : decode cd_L_law 739 = .ok (.ifCond .ne 15, 3) := by decide +kernel
theorem dc_L_law_742 : decode cd_L_law 742 = .ok (.aload_n 3, 1) := by decide +kernel
theorem dc_L_law_743 : decode cd_L_law 743 = .ok (.iconst 0, 1) := by decide +kernel
theorem dc_L_law_744 : decode cd_L_law 744 = .ok (.laload, 1) := by decide +kernel
theorem dc_L_law_745 : decode cd_L_law 745 = .ok (.iload 6, 2) := by decide +kernel
theorem dc_L_law_747 : decode cd_L_law 747 = .ok (.i2l, 1) := by decide +kernel
theorem dc_L_law_748 : decode cd_L_law 748 = .ok (.lcmp, 1) := by decide +kernel
theorem dc_L_law_749 : decode cd_L_law 749 = .ok (.ifCond .eq 5, 3) := by decide +kernel
theorem dc_L_law_752 : decode cd_L_law 752 = .ok (.iconst 0, 1) := by decide +kernel
theorem dc_L_law_753 : decode cd_L_law 753 = .ok (.ireturn, 1) := by decide +kernel
theorem dc_L_law_754 : decode cd_L_law 754 = .ok (.goto 141, 3) := by decide +kernel
theorem dc_L_law_757 : decode cd_L_law 757 = .ok (.aload_n 1, 1) := by decide +kernel
theorem dc_L_law_758 : decode cd_L_law 758 = .ok (.invokevirtual 123, 3) := by decide +kernel
theorem dc_L_law_761 : decode cd_L_law 761 = .ok (.aload_n 2, 1) := by decide +kernel
theorem dc_L_law_762 : decode cd_L_law 762 = .ok (.invokevirtual 126, 3) := by decide +kernel
theorem dc_L_law_765 : decode cd_L_law 765 = .ok (.if_icmp .eq 130, 3) := by decide +kernel
theorem dc_L_law_768 : decode cd_L_law 768 = .ok (.iconst 0, 1) := by decide +kernel
theorem dc_L_law_769 : decode cd_L_law 769 = .ok (.ireturn, 1) := by decide +kernel
theorem dc_L_law_770 : decode cd_L_law 770 = .ok (.aload_n 1, 1) := by decide +kernel
theorem dc_L_law_771 : decode cd_L_law 771 = .ok (.aload_n 0, 1) := by decide +kernel
theorem dc_L_law_772 : decode cd_L_law 772 = .ok (.iload 4, 2) := by decide +kernel
theorem dc_L_law_774 : decode cd_L_law 774 = .ok (.iconst 1, 1) := by decide +kernel
theorem dc_L_law_775 : decode cd_L_law 775 = .ok (.iadd, 1) := by decide +kernel
theorem dc_L_law_776 : decode cd_L_law 776 = .ok (.iaload, 1) := by decide +kernel
theorem dc_L_law_777 : decode cd_L_law 777 = .ok (.aload_n 3, 1) := by decide +kernel
theorem dc_L_law_778 : decode cd_L_law 778 = .ok (.invokestatic 127, 3) := by decide +kernel
theorem dc_L_law_781 : decode cd_L_law 781 = .ok (.istore 5, 2) := by decide +kernel
theorem dc_L_law_783 : decode cd_L_law 783 = .ok (.aload_n 2, 1) := by decide +kernel
theorem dc_L_law_784 : decode cd_L_law 784 = .ok (.aload_n 0, 1) := by decide +kernel
theorem dc_L_law_785 : decode cd_L_law 785 = .ok (.iload 4, 2) := by decide +kernel
theorem dc_L_law_787 : decode cd_L_law 787 = .ok (.iconst 1, 1) := by decide +kernel
theorem dc_L_law_788 : decode cd_L_law 788 = .ok (.iadd, 1) := by decide +kernel
theorem dc_L_law_789 : decode cd_L_law 789 = .ok (.iaload, 1) := by decide +kernel
theorem dc_L_law_790 : decode cd_L_law 790 = .ok (.invokevirtual 129, 3) := by decide +kernel
theorem dc_L_law_793 : decode cd_L_law 793 = .ok (.istore 6, 2) := by decide +kernel
theorem dc_L_law_795 : decode cd_L_law 795 = .ok (.aload_n 2, 1) := by decide +kernel
theorem dc_L_law_796 : decode cd_L_law 796 = .ok (.invokevirtual 72, 3) := by decide +kernel
theorem dc_L_law_799 : decode cd_L_law 799 = .ok (.iload 5, 2) := by decide +kernel
theorem dc_L_law_801 : decode cd_L_law 801 = .ok (.if_icmp .eq 5, 3) := by decide +kernel
theorem dc_L_law_804 : decode cd_L_law 804 = .ok (.iconst 0, 1) := by decide +kernel
theorem dc_L_law_805 : decode cd_L_law 805 = .ok (.ireturn, 1) := by decide +kernel
theorem dc_L_law_806 : decode cd_L_law 806 = .ok (.iload 5, 2) := by decide +kernel
theorem dc_L_law_808 : decode cd_L_law 808 = .ok (.ifCond .ne 15, 3) := by decide +kernel
theorem dc_L_law_811 : decode cd_L_law 811 = .ok (.aload_n 3, 1) := by decide +kernel
theorem dc_L_law_812 : decode cd_L_law 812 = .ok (.iconst 0, 1) := by decide +kernel
theorem dc_L_law_813 : decode cd_L_law 813 = .ok (.laload, 1) := by decide +kernel
theorem dc_L_law_814 : decode cd_L_law 814 = .ok (.iload 6, 2) := by decide +kernel
theorem dc_L_law_816 : decode cd_L_law 816 = .ok (.i2l, 1) := by decide +kernel
theorem dc_L_law_817 : decode cd_L_law 817 = .ok (.lcmp, 1) := by decide +kernel
theorem dc_L_law_818 : decode cd_L_law 818 = .ok (.ifCond .eq 5, 3) := by decide +kernel
theorem dc_L_law_821 : decode cd_L_law 821 = .ok (.iconst 0, 1) := by decide +kernel
theorem dc_L_law_822 : decode cd_L_law 822 = .ok (.ireturn, 1) := by decide +kernel
theorem dc_L_law_823 : decode cd_L_law 823 = .ok (.goto 72, 3) := by decide +kernel
theorem dc_L_law_826 : decode cd_L_law 826 = .ok (.aload_n 1, 1) := by decide +kernel
theorem dc_L_law_827 : decode cd_L_law 827 = .ok (.invokevirtual 130, 3) := by decide +kernel
theorem dc_L_law_830 : decode cd_L_law 830 = .ok (.aload_n 2, 1) := by decide +kernel
theorem dc_L_law_831 : decode cd_L_law 831 = .ok (.invokevirtual 133, 3) := by decide +kernel
theorem dc_L_law_834 : decode cd_L_law 834 = .ok (.if_icmp .eq 61, 3) := by decide +kernel
theorem dc_L_law_837 : decode cd_L_law 837 = .ok (.iconst 0, 1) := by decide +kernel
theorem dc_L_law_838 : decode cd_L_law 838 = .ok (.ireturn, 1) := by decide +kernel
theorem dc_L_law_839 : decode cd_L_law 839 = .ok (.aload_n 1, 1) := by decide +kernel
theorem dc_L_law_840 : decode cd_L_law 840 = .ok (.aload_n 0, 1) := by decide +kernel
theorem dc_L_law_841 : decode cd_L_law 841 = .ok (.iload 4, 2) := by decide +kernel
theorem dc_L_law_843 : decode cd_L_law 843 = .ok (.iconst 1, 1) := by decide +kernel
theorem dc_L_law_844 : decode cd_L_law 844 = .ok (.iadd, 1) := by decide +kernel
theorem dc_L_law_845 : decode cd_L_law 845 = .ok (.iaload, 1) := by decide +kernel
theorem dc_L_law_846 : decode cd_L_law 846 = .ok (.aload_n 3, 1) := by decide +kernel
theorem dc_L_law_847 : decode cd_L_law 847 = .ok (.invokestatic 134, 3) := by decide +kernel
theorem dc_L_law_850 : decode cd_L_law 850 = .ok (.istore 5, 2) := by decide +kernel
theorem dc_L_law_852 : decode cd_L_law 852 = .ok (.aload_n 2, 1) := by decide +kernel
theorem dc_L_law_853 : decode cd_L_law 853 = .ok (.aload_n 0, 1) := by decide +kernel
theorem dc_L_law_854 : decode cd_L_law 854 = .ok (.iload 4, 2) := by decide +kernel
theorem dc_L_law_856 : decode cd_L_law 856 = .ok (.iconst 1, 1) := by decide +kernel
theorem dc_L_law_857 : decode cd_L_law 857 = .ok (.iadd, 1) := by decide +kernel
theorem dc_L_law_858 : decode cd_L_law 858 = .ok (.iaload, 1) := by decide +kernel
theorem dc_L_law_859 : decode cd_L_law 859 = .ok (.invokevirtual 136, 3) := by decide +kernel
theorem dc_L_law_862 : decode cd_L_law 862 = .ok (.istore 6, 2) := by decide +kernel
theorem dc_L_law_864 : decode cd_L_law 864 = .ok (.aload_n 2, 1) := by decide +kernel
theorem dc_L_law_865 : decode cd_L_law 865 = .ok (.invokevirtual 72, 3) := by decide +kernel
theorem dc_L_law_868 : decode cd_L_law 868 = .ok (.iload 5, 2) := by decide +kernel
theorem dc_L_law_870 : decode cd_L_law 870 = .ok (.if_icmp .eq 5, 3) := by decide +kernel
theorem dc_L_law_873 : decode cd_L_law 873 = .ok (.iconst 0, 1) := by decide +kernel
theorem dc_L_law_874 : decode cd_L_law 874 = .ok (.ireturn, 1) := by decide +kernel
theorem dc_L_law_875 : decode cd_L_law 875 = .ok (.iload 5, 2) := by decide +kernel
theorem dc_L_law_877 : decode cd_L_law 877 = .ok (.ifCond .ne 15, 3) := by decide +kernel
theorem dc_L_law_880 : decode cd_L_law 880 = .ok (.aload_n 3, 1) := by decide +kernel
theorem dc_L_law_881 : decode cd_L_law 881 = .ok (.iconst 0, 1) := by decide +kernel
theorem dc_L_law_882 : decode cd_L_law 882 = .ok (.laload, 1) := by decide +kernel
theorem dc_L_law_883 : decode cd_L_law 883 = .ok (.iload 6, 2) := by decide +kernel
theorem dc_L_law_885 : decode cd_L_law 885 = .ok (.i2l, 1) := by decide +kernel
theorem dc_L_law_886 : decode cd_L_law 886 = .ok (.lcmp, 1) := by decide +kernel
theorem dc_L_law_887 : decode cd_L_law 887 = .ok (.ifCond .eq 5, 3) := by decide +kernel
theorem dc_L_law_890 : decode cd_L_law 890 = .ok (.iconst 0, 1) := by decide +kernel
theorem dc_L_law_891 : decode cd_L_law 891 = .ok (.ireturn, 1) := by decide +kernel
theorem dc_L_law_892 : decode cd_L_law 892 = .ok (.goto 3, 3) := by decide +kernel
theorem dc_L_law_895 : decode cd_L_law 895 = .ok (.iinc 4 3, 3) := by decide +kernel
theorem dc_L_law_898 : decode cd_L_law 898 = .ok (.goto (-875), 3) := by decide +kernel
theorem dc_L_law_901 : decode cd_L_law 901 = .ok (.iconst 1, 1) := by decide +kernel
theorem dc_L_law_902 : decode cd_L_law 902 = .ok (.ireturn, 1) := by decide +kernel
