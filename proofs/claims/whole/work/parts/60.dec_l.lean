theorem d_L_law_0 : decode code 0 = .ok (.new 8, 3) := by decide +kernel
theorem d_L_law_3 : decode code 3 = .ok (.dup, 1) := by decide +kernel
theorem d_L_law_4 : decode code 4 = .ok (.invokespecial 48, 3) := by decide +kernel
theorem d_L_law_7 : decode code 7 = .ok (.astore_n 1, 1) := by decide +kernel
theorem d_L_law_8 : decode code 8 = .ok (.new 49, 3) := by decide +kernel
theorem d_L_law_11 : decode code 11 = .ok (.dup, 1) := by decide +kernel
theorem d_L_law_12 : decode code 12 = .ok (.invokespecial 51, 3) := by decide +kernel
theorem d_L_law_15 : decode code 15 = .ok (.astore_n 2, 1) := by decide +kernel
theorem d_L_law_16 : decode code 16 = .ok (.iconst 1, 1) := by decide +kernel
theorem d_L_law_17 : decode code 17 = .ok (.newarray .long, 2) := by decide +kernel
theorem d_L_law_19 : decode code 19 = .ok (.astore_n 3, 1) := by decide +kernel
theorem d_L_law_20 : decode code 20 = .ok (.iconst 0, 1) := by decide +kernel
theorem d_L_law_21 : decode code 21 = .ok (.istore 4, 2) := by decide +kernel
theorem d_L_law_23 : decode code 23 = .ok (.iload 4, 2) := by decide +kernel
theorem d_L_law_25 : decode code 25 = .ok (.aload_n 0, 1) := by decide +kernel
theorem d_L_law_26 : decode code 26 = .ok (.arraylength, 1) := by decide +kernel
theorem d_L_law_27 : decode code 27 = .ok (.iconst 4, 1) := by decide +kernel
theorem d_L_law_28 : decode code 28 = .ok (.isub, 1) := by decide +kernel
theorem d_L_law_29 : decode code 29 = .ok (.if_icmp .gt 840, 3) := by decide +kernel
theorem d_L_law_32 : decode code 32 = .ok (.aload_n 0, 1) := by decide +kernel
theorem d_L_law_33 : decode code 33 = .ok (.iload 4, 2) := by decide +kernel
theorem d_L_law_35 : decode code 35 = .ok (.iaload, 1) := by decide +kernel
theorem d_L_law_36 : decode code 36 = .ok (.bipush 31, 2) := by decide +kernel
theorem d_L_law_38 : decode code 38 = .ok (.iand, 1) := by decide +kernel
theorem d_L_law_39 : decode code 39 = .ok (.tableswitch 824 0 17 #[85, 121, 181, 217, 261, 317, 361, 417, 461, 521, 596, 621, 646, 683, 696, 721, 746, 787], 85) := by decide +kernel
theorem d_L_law_124 : decode code 124 = .ok (.aload_n 1, 1) := by decide +kernel
theorem d_L_law_125 : decode code 125 = .ok (.aload_n 0, 1) := by decide +kernel
theorem d_L_law_126 : decode code 126 = .ok (.iload 4, 2) := by decide +kernel
theorem d_L_law_128 : decode code 128 = .ok (.iconst 1, 1) := by decide +kernel
theorem d_L_law_129 : decode code 129 = .ok (.iadd, 1) := by decide +kernel
theorem d_L_law_130 : decode code 130 = .ok (.iaload, 1) := by decide +kernel
theorem d_L_law_131 : decode code 131 = .ok (.invokestatic 52, 3) := by decide +kernel
theorem d_L_law_134 : decode code 134 = .ok (.istore 5, 2) := by decide +kernel
theorem d_L_law_136 : decode code 136 = .ok (.aload_n 2, 1) := by decide +kernel
theorem d_L_law_137 : decode code 137 = .ok (.aload_n 0, 1) := by decide +kernel
theorem d_L_law_138 : decode code 138 = .ok (.iload 4, 2) := by decide +kernel
theorem d_L_law_140 : decode code 140 = .ok (.iconst 1, 1) := by decide +kernel
theorem d_L_law_141 : decode code 141 = .ok (.iadd, 1) := by decide +kernel
theorem d_L_law_142 : decode code 142 = .ok (.iaload, 1) := by decide +kernel
theorem d_L_law_143 : decode code 143 = .ok (.invokevirtual 57, 3) := by decide +kernel
theorem d_L_law_146 : decode code 146 = .ok (.aload_n 2, 1) := by decide +kernel
theorem d_L_law_147 : decode code 147 = .ok (.invokevirtual 58, 3) := by decide +kernel
theorem d_L_law_150 : decode code 150 = .ok (.iload 5, 2) := by decide +kernel
theorem d_L_law_152 : decode code 152 = .ok (.if_icmp .eq 5, 3) := by decide +kernel
theorem d_L_law_155 : decode code 155 = .ok (.iconst 0, 1) := by decide +kernel
theorem d_L_law_156 : decode code 156 = .ok (.ireturn, 1) := by decide +kernel
theorem d_L_law_157 : decode code 157 = .ok (.goto 706, 3) := by decide +kernel
theorem d_L_law_160 : decode code 160 = .ok (.aload_n 1, 1) := by decide +kernel
theorem d_L_law_161 : decode code 161 = .ok (.aload_n 0, 1) := by decide +kernel
theorem d_L_law_162 : decode code 162 = .ok (.iload 4, 2) := by decide +kernel
theorem d_L_law_164 : decode code 164 = .ok (.iconst 1, 1) := by decide +kernel
theorem d_L_law_165 : decode code 165 = .ok (.iadd, 1) := by decide +kernel
theorem d_L_law_166 : decode code 166 = .ok (.iaload, 1) := by decide +kernel
theorem d_L_law_167 : decode code 167 = .ok (.aload_n 0, 1) := by decide +kernel
theorem d_L_law_168 : decode code 168 = .ok (.iload 4, 2) := by decide +kernel
theorem d_L_law_170 : decode code 170 = .ok (.iconst 2, 1) := by decide +kernel
theorem d_L_law_171 : decode code 171 = .ok (.iadd, 1) := by decide +kernel
theorem d_L_law_172 : decode code 172 = .ok (.iaload, 1) := by decide +kernel
theorem d_L_law_173 : decode code 173 = .ok (.aload_n 0, 1) := by decide +kernel
theorem d_L_law_174 : decode code 174 = .ok (.iload 4, 2) := by decide +kernel
theorem d_L_law_176 : decode code 176 = .ok (.iconst 3, 1) := by decide +kernel
theorem d_L_law_177 : decode code 177 = .ok (.iadd, 1) := by decide +kernel
theorem d_L_law_178 : decode code 178 = .ok (.iaload, 1) := by decide +kernel
theorem d_L_law_179 : decode code 179 = .ok (.invokestatic 61, 3) := by decide +kernel
theorem d_L_law_182 : decode code 182 = .ok (.istore 5, 2) := by decide +kernel
theorem d_L_law_184 : decode code 184 = .ok (.aload_n 2, 1) := by decide +kernel
theorem d_L_law_185 : decode code 185 = .ok (.aload_n 0, 1) := by decide +kernel
theorem d_L_law_186 : decode code 186 = .ok (.iload 4, 2) := by decide +kernel
theorem d_L_law_188 : decode code 188 = .ok (.iconst 1, 1) := by decide +kernel
theorem d_L_law_189 : decode code 189 = .ok (.iadd, 1) := by decide +kernel
theorem d_L_law_190 : decode code 190 = .ok (.iaload, 1) := by decide +kernel
theorem d_L_law_191 : decode code 191 = .ok (.aload_n 0, 1) := by decide +kernel
theorem d_L_law_192 : decode code 192 = .ok (.iload 4, 2) := by decide +kernel
theorem d_L_law_194 : decode code 194 = .ok (.iconst 2, 1) := by decide +kernel
theorem d_L_law_195 : decode code 195 = .ok (.iadd, 1) := by decide +kernel
theorem d_L_law_196 : decode code 196 = .ok (.iaload, 1) := by decide +kernel
theorem d_L_law_197 : decode code 197 = .ok (.aload_n 0, 1) := by decide +kernel
theorem d_L_law_198 : decode code 198 = .ok (.iload 4, 2) := by decide +kernel
theorem d_L_law_200 : decode code 200 = .ok (.iconst 3, 1) := by decide +kernel
theorem d_L_law_201 : decode code 201 = .ok (.iadd, 1) := by decide +kernel
theorem d_L_law_202 : decode code 202 = .ok (.iaload, 1) := by decide +kernel
theorem d_L_law_203 : decode code 203 = .ok (.invokevirtual 64, 3) := by decide +kernel
theorem d_L_law_206 : decode code 206 = .ok (.aload_n 2, 1) := by decide +kernel
theorem d_L_law_207 : decode code 207 = .ok (.invokevirtual 58, 3) := by decide +kernel
theorem d_L_law_210 : decode code 210 = .ok (.iload 5, 2) := by decide +kernel
theorem d_L_law_212 : decode code 212 = .ok (.if_icmp .eq 5, 3) := by decide +kernel
theorem d_L_law_215 : decode code 215 = .ok (.iconst 0, 1) := by decide +kernel
theorem d_L_law_216 : decode code 216 = .ok (.ireturn, 1) := by decide +kernel
theorem d_L_law_217 : decode code 217 = .ok (.goto 646, 3) := by decide +kernel
theorem d_L_law_220 : decode code 220 = .ok (.aload_n 1, 1) := by decide +kernel
theorem d_L_law_221 : decode code 221 = .ok (.aload_n 0, 1) := by decide +kernel
theorem d_L_law_222 : decode code 222 = .ok (.iload 4, 2) := by decide +kernel
theorem d_L_law_224 : decode code 224 = .ok (.iconst 1, 1) := by decide +kernel
theorem d_L_law_225 : decode code 225 = .ok (.iadd, 1) := by decide +kernel
theorem d_L_law_226 : decode code 226 = .ok (.iaload, 1) := by decide +kernel
theorem d_L_law_227 : decode code 227 = .ok (.invokestatic 65, 3) := by decide +kernel
theorem d_L_law_230 : decode code 230 = .ok (.istore 5, 2) := by decide +kernel
theorem d_L_law_232 : decode code 232 = .ok (.aload_n 2, 1) := by decide +kernel
theorem d_L_law_233 : decode code 233 = .ok (.aload_n 0, 1) := by decide +kernel
theorem d_L_law_234 : decode code 234 = .ok (.iload 4, 2) := by decide +kernel
theorem d_L_law_236 : decode code 236 = .ok (.iconst 1, 1) := by decide +kernel
theorem d_L_law_237 : decode code 237 = .ok (.iadd, 1) := by decide +kernel
theorem d_L_law_238 : decode code 238 = .ok (.iaload, 1) := by decide +kernel
theorem d_L_law_239 : decode code 239 = .ok (.invokevirtual 67, 3) := by decide +kernel
theorem d_L_law_242 : decode code 242 = .ok (.aload_n 2, 1) := by decide +kernel
theorem d_L_law_243 : decode code 243 = .ok (.invokevirtual 58, 3) := by decide +kernel
theorem d_L_law_246 : decode code 246 = .ok (.iload 5, 2) := by decide +kernel
theorem d_L_law_248 : decode code 248 = .ok (.if_icmp .eq 5, 3) := by decide +kernel
theorem d_L_law_251 : decode code 251 = .ok (.iconst 0, 1) := by decide +kernel
theorem d_L_law_252 : decode code 252 = .ok (.ireturn, 1) := by decide +kernel
theorem d_L_law_253 : decode code 253 = .ok (.goto 610, 3) := by decide +kernel
theorem d_L_law_256 : decode code 256 = .ok (.aload_n 1, 1) := by decide +kernel
theorem d_L_law_257 : decode code 257 = .ok (.aload_n 3, 1) := by decide +kernel
theorem d_L_law_258 : decode code 258 = .ok (.invokestatic 68, 3) := by decide +kernel
theorem d_L_law_261 : decode code 261 = .ok (.istore 5, 2) := by decide +kernel
theorem d_L_law_263 : decode code 263 = .ok (.aload_n 2, 1) := by decide +kernel
theorem d_L_law_264 : decode code 264 = .ok (.invokevirtual 71, 3) := by decide +kernel
theorem d_L_law_267 : decode code 267 = .ok (.istore 6, 2) := by decide +kernel
theorem d_L_law_269 : decode code 269 = .ok (.aload_n 2, 1) := by decide +kernel
theorem d_L_law_270 : decode code 270 = .ok (.invokevirtual 58, 3) := by decide +kernel
theorem d_L_law_273 : decode code 273 = .ok (.iload 5, 2) := by decide +kernel
theorem d_L_law_275 : decode code 275 = .ok (.if_icmp .eq 5, 3) := by decide +kernel
theorem d_L_law_278 : decode code 278 = .ok (.iconst 0, 1) := by decide +kernel
theorem d_L_law_279 : decode code 279 = .ok (.ireturn, 1) := by decide +kernel
theorem d_L_law_280 : decode code 280 = .ok (.iload 5, 2) := by decide +kernel
theorem d_L_law_282 : decode code 282 = .ok (.ifCond .ne 15, 3) := by decide +kernel
theorem d_L_law_285 : decode code 285 = .ok (.aload_n 3, 1) := by decide +kernel
theorem d_L_law_286 : decode code 286 = .ok (.iconst 0, 1) := by decide +kernel
theorem d_L_law_287 : decode code 287 = .ok (.laload, 1) := by decide +kernel
theorem d_L_law_288 : decode code 288 = .ok (.iload 6, 2) := by decide +kernel
theorem d_L_law_290 : decode code 290 = .ok (.i2l, 1) := by decide +kernel
theorem d_L_law_291 : decode code 291 = .ok (.lcmp, 1) := by decide +kernel
theorem d_L_law_292 : decode code 292 = .ok (.ifCond .eq 5, 3) := by decide +kernel
theorem d_L_law_295 : decode code 295 = .ok (.iconst 0, 1) := by decide +kernel
theorem d_L_law_296 : decode code 296 = .ok (.ireturn, 1) := by decide +kernel
theorem d_L_law_297 : decode code 297 = .ok (.goto 566, 3) := by decide +kernel
theorem d_L_law_300 : decode code 300 = .ok (.aload_n 1, 1) := by decide +kernel
theorem d_L_law_301 : decode code 301 = .ok (.aload_n 0, 1) := by decide +kernel
theorem d_L_law_302 : decode code 302 = .ok (.iload 4, 2) := by decide +kernel
theorem d_L_law_304 : decode code 304 = .ok (.iconst 1, 1) := by decide +kernel
theorem d_L_law_305 : decode code 305 = .ok (.iadd, 1) := by decide +kernel
theorem d_L_law_306 : decode code 306 = .ok (.iaload, 1) := by decide +kernel
theorem d_L_law_307 : decode code 307 = .ok (.aload_n 3, 1) := by decide +kernel
theorem d_L_law_308 : decode code 308 = .ok (.invokestatic 72, 3) := by decide +kernel
theorem d_L_law_311 : decode code 311 = .ok (.istore 5, 2) := by decide +kernel
theorem d_L_law_313 : decode code 313 = .ok (.aload_n 2, 1) := by decide +kernel
theorem d_L_law_314 : decode code 314 = .ok (.aload_n 0, 1) := by decide +kernel
theorem d_L_law_315 : decode code 315 = .ok (.iload 4, 2) := by decide +kernel
theorem d_L_law_317 : decode code 317 = .ok (.iconst 1, 1) := by decide +kernel
theorem d_L_law_318 : decode code 318 = .ok (.iadd, 1) := by decide +kernel
theorem d_L_law_319 : decode code 319 = .ok (.iaload, 1) := by decide +kernel
theorem d_L_law_320 : decode code 320 = .ok (.invokevirtual 75, 3) := by decide +kernel
theorem d_L_law_323 : decode code 323 = .ok (.istore 6, 2) := by decide +kernel
theorem d_L_law_325 : decode code 325 = .ok (.aload_n 2, 1) := by decide +kernel
theorem d_L_law_326 : decode code 326 = .ok (.invokevirtual 58, 3) := by decide +kernel
theorem d_L_law_329 : decode code 329 = .ok (.iload 5, 2) := by decide +kernel
theorem d_L_law_331 : decode code 331 = .ok (.if_icmp .eq 5, 3) := by decide +kernel
theorem d_L_law_334 : decode code 334 = .ok (.iconst 0, 1) := by decide +kernel
theorem d_L_law_335 : decode code 335 = .ok (.ireturn, 1) := by decide +kernel
theorem d_L_law_336 : decode code 336 = .ok (.iload 5, 2) := by decide +kernel
theorem d_L_law_338 : decode code 338 = .ok (.ifCond .ne 15, 3) := by decide +kernel
theorem d_L_law_341 : decode code 341 = .ok (.aload_n 3, 1) := by decide +kernel
theorem d_L_law_342 : decode code 342 = .ok (.iconst 0, 1) := by decide +kernel
theorem d_L_law_343 : decode code 343 = .ok (.laload, 1) := by decide +kernel
theorem d_L_law_344 : decode code 344 = .ok (.iload 6, 2) := by decide +kernel
theorem d_L_law_346 : decode code 346 = .ok (.i2l, 1) := by decide +kernel
theorem d_L_law_347 : decode code 347 = .ok (.lcmp, 1) := by decide +kernel
theorem d_L_law_348 : decode code 348 = .ok (.ifCond .eq 5, 3) := by decide +kernel
theorem d_L_law_351 : decode code 351 = .ok (.iconst 0, 1) := by decide +kernel
theorem d_L_law_352 : decode code 352 = .ok (.ireturn, 1) := by decide +kernel
theorem d_L_law_353 : decode code 353 = .ok (.goto 510, 3) := by decide +kernel
theorem d_L_law_356 : decode code 356 = .ok (.aload_n 1, 1) := by decide +kernel
theorem d_L_law_357 : decode code 357 = .ok (.aload_n 3, 1) := by decide +kernel
theorem d_L_law_358 : decode code 358 = .ok (.invokestatic 76, 3) := by decide +kernel
theorem d_L_law_361 : decode code 361 = .ok (.istore 5, 2) := by decide +kernel
theorem d_L_law_363 : decode code 363 = .ok (.aload_n 2, 1) := by decide +kernel
theorem d_L_law_364 : decode code 364 = .ok (.invokevirtual 78, 3) := by decide +kernel
theorem d_L_law_367 : decode code 367 = .ok (.istore 6, 2) := by decide +kernel
theorem d_L_law_369 : decode code 369 = .ok (.aload_n 2, 1) := by decide +kernel
theorem d_L_law_370 : decode code 370 = .ok (.invokevirtual 58, 3) := by decide +kernel
theorem d_L_law_373 : decode code 373 = .ok (.iload 5, 2) := by decide +kernel
theorem d_L_law_375 : decode code 375 = .ok (.if_icmp .eq 5, 3) := by decide +kernel
theorem d_L_law_378 : decode code 378 = .ok (.iconst 0, 1) := by decide +kernel
theorem d_L_law_379 : decode code 379 = .ok (.ireturn, 1) := by decide +kernel
theorem d_L_law_380 : decode code 380 = .ok (.iload 5, 2) := by decide +kernel
theorem d_L_law_382 : decode code 382 = .ok (.ifCond .ne 15, 3) := by decide +kernel
theorem d_L_law_385 : decode code 385 = .ok (.aload_n 3, 1) := by decide +kernel
theorem d_L_law_386 : decode code 386 = .ok (.iconst 0, 1) := by decide +kernel
theorem d_L_law_387 : decode code 387 = .ok (.laload, 1) := by decide +kernel
theorem d_L_law_388 : decode code 388 = .ok (.iload 6, 2) := by decide +kernel
theorem d_L_law_390 : decode code 390 = .ok (.i2l, 1) := by decide +kernel
theorem d_L_law_391 : decode code 391 = .ok (.lcmp, 1) := by decide +kernel
theorem d_L_law_392 : decode code 392 = .ok (.ifCond .eq 5, 3) := by decide +kernel
theorem d_L_law_395 : decode code 395 = .ok (.iconst 0, 1) := by decide +kernel
theorem d_L_law_396 : decode code 396 = .ok (.ireturn, 1) := by decide +kernel
theorem d_L_law_397 : decode code 397 = .ok (.goto 466, 3) := by decide +kernel
theorem d_L_law_400 : decode code 400 = .ok (.aload_n 1, 1) := by decide +kernel
theorem d_L_law_401 : decode code 401 = .ok (.aload_n 0, 1) := by decide +kernel
theorem d_L_law_402 : decode code 402 = .ok (.iload 4, 2) := by decide +kernel
theorem d_L_law_404 : decode code 404 = .ok (.iconst 1, 1) := by decide +kernel
theorem d_L_law_405 : decode code 405 = .ok (.iadd, 1) := by decide +kernel
theorem d_L_law_406 : decode code 406 = .ok (.iaload, 1) := by decide +kernel
theorem d_L_law_407 : decode code 407 = .ok (.aload_n 3, 1) := by decide +kernel
theorem d_L_law_408 : decode code 408 = .ok (.invokestatic 79, 3) := by decide +kernel
theorem d_L_law_411 : decode code 411 = .ok (.istore 5, 2) := by decide +kernel
theorem d_L_law_413 : decode code 413 = .ok (.aload_n 2, 1) := by decide +kernel
theorem d_L_law_414 : decode code 414 = .ok (.aload_n 0, 1) := by decide +kernel
theorem d_L_law_415 : decode code 415 = .ok (.iload 4, 2) := by decide +kernel
theorem d_L_law_417 : decode code 417 = .ok (.iconst 1, 1) := by decide +kernel
theorem d_L_law_418 : decode code 418 = .ok (.iadd, 1) := by decide +kernel
theorem d_L_law_419 : decode code 419 = .ok (.iaload, 1) := by decide +kernel
theorem d_L_law_420 : decode code 420 = .ok (.invokevirtual 81, 3) := by decide +kernel
theorem d_L_law_423 : decode code 423 = .ok (.istore 6, 2) := by decide +kernel
theorem d_L_law_425 : decode code 425 = .ok (.aload_n 2, 1) := by decide +kernel
theorem d_L_law_426 : decode code 426 = .ok (.invokevirtual 58, 3) := by decide +kernel
theorem d_L_law_429 : decode code 429 = .ok (.iload 5, 2) := by decide +kernel
theorem d_L_law_431 : decode code 431 = .ok (.if_icmp .eq 5, 3) := by decide +kernel
theorem d_L_law_434 : decode code 434 = .ok (.iconst 0, 1) := by decide +kernel
theorem d_L_law_435 : decode code 435 = .ok (.ireturn, 1) := by decide +kernel
theorem d_L_law_436 : decode code 436 = .ok (.iload 5, 2) := by decide +kernel
theorem d_L_law_438 : decode code 438 = .ok (.ifCond .ne 15, 3) := by decide +kernel
theorem d_L_law_441 : decode code 441 = .ok (.aload_n 3, 1) := by decide +kernel
theorem d_L_law_442 : decode code 442 = .ok (.iconst 0, 1) := by decide +kernel
theorem d_L_law_443 : decode code 443 = .ok (.laload, 1) := by decide +kernel
theorem d_L_law_444 : decode code 444 = .ok (.iload 6, 2) := by decide +kernel
theorem d_L_law_446 : decode code 446 = .ok (.i2l, 1) := by decide +kernel
theorem d_L_law_447 : decode code 447 = .ok (.lcmp, 1) := by decide +kernel
theorem d_L_law_448 : decode code 448 = .ok (.ifCond .eq 5, 3) := by decide +kernel
theorem d_L_law_451 : decode code 451 = .ok (.iconst 0, 1) := by decide +kernel
theorem d_L_law_452 : decode code 452 = .ok (.ireturn, 1) := by decide +kernel
theorem d_L_law_453 : decode code 453 = .ok (.goto 410, 3) := by decide +kernel
theorem d_L_law_456 : decode code 456 = .ok (.aload_n 1, 1) := by decide +kernel
theorem d_L_law_457 : decode code 457 = .ok (.aload_n 3, 1) := by decide +kernel
theorem d_L_law_458 : decode code 458 = .ok (.invokestatic 82, 3) := by decide +kernel
theorem d_L_law_461 : decode code 461 = .ok (.istore 5, 2) := by decide +kernel
theorem d_L_law_463 : decode code 463 = .ok (.aload_n 2, 1) := by decide +kernel
theorem d_L_law_464 : decode code 464 = .ok (.invokevirtual 84, 3) := by decide +kernel
theorem d_L_law_467 : decode code 467 = .ok (.istore 6, 2) := by decide +kernel
theorem d_L_law_469 : decode code 469 = .ok (.aload_n 2, 1) := by decide +kernel
theorem d_L_law_470 : decode code 470 = .ok (.invokevirtual 58, 3) := by decide +kernel
theorem d_L_law_473 : decode code 473 = .ok (.iload 5, 2) := by decide +kernel
theorem d_L_law_475 : decode code 475 = .ok (.if_icmp .eq 5, 3) := by decide +kernel
theorem d_L_law_478 : decode code 478 = .ok (.iconst 0, 1) := by decide +kernel
theorem d_L_law_479 : decode code 479 = .ok (.ireturn, 1) := by decide +kernel
theorem d_L_law_480 : decode code 480 = .ok (.iload 5, 2) := by decide +kernel
theorem d_L_law_482 : decode code 482 = .ok (.ifCond .ne 15, 3) := by decide +kernel
theorem d_L_law_485 : decode code 485 = .ok (.aload_n 3, 1) := by decide +kernel
theorem d_L_law_486 : decode code 486 = .ok (.iconst 0, 1) := by decide +kernel
theorem d_L_law_487 : decode code 487 = .ok (.laload, 1) := by decide +kernel
theorem d_L_law_488 : decode code 488 = .ok (.iload 6, 2) := by decide +kernel
theorem d_L_law_490 : decode code 490 = .ok (.i2l, 1) := by decide +kernel
theorem d_L_law_491 : decode code 491 = .ok (.lcmp, 1) := by decide +kernel
