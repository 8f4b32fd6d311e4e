theorem ks_1 : Cond.selects rn_K y_K_readIn y_K_readIn ∈ wb := wb_s 1 (by decide +kernel) (by decide +kernel)
theorem ks_2 : Cond.selects rn_K y_K_readForward y_K_readForward ∈ wb := wb_s 2 (by decide +kernel) (by decide +kernel)
theorem ks_3 : Cond.selects rn_K y_K_rescue y_K_rescue ∈ wb := wb_s 3 (by decide +kernel) (by decide +kernel)
theorem ks_4 : Cond.selects rn_K y_K_takeLeap y_K_takeLeap ∈ wb := wb_s 4 (by decide +kernel) (by decide +kernel)
theorem ks_5 : Cond.selects rn_K y_K_readBackward y_K_readBackward ∈ wb := wb_s 5 (by decide +kernel) (by decide +kernel)
theorem ks_6 : Cond.selects rn_K y_K_trim y_K_trim ∈ wb := wb_s 6 (by decide +kernel) (by decide +kernel)
theorem ks_7 : Cond.selects rn_K y_K_scrape y_K_scrape ∈ wb := wb_s 7 (by decide +kernel) (by decide +kernel)
theorem ks_8 : Cond.selects rn_K y_K_retry y_K_retry ∈ wb := wb_s 8 (by decide +kernel) (by decide +kernel)
theorem ks_9 : Cond.selects rn_K y_K_nextBad y_K_nextBad ∈ wb := wb_s 9 (by decide +kernel) (by decide +kernel)
theorem ks_10 : Cond.selects rn_K y_K_goesUp y_K_goesUp ∈ wb := wb_s 10 (by decide +kernel) (by decide +kernel)
theorem ks_11 : Cond.selects rn_K y_K_enterRound y_K_enterRound ∈ wb := wb_s 11 (by decide +kernel) (by decide +kernel)
theorem ks_12 : Cond.selects rn_V y_V_behindNumber y_V_behindNumber ∈ wb := wb_s 12 (by decide +kernel) (by decide +kernel)
theorem ks_13 : Cond.selects rn_V y_V_draw y_V_draw ∈ wb := wb_s 13 (by decide +kernel) (by decide +kernel)
theorem ks_14 : Cond.selects rn_V y_V_placeOfRun y_V_placeOfRun ∈ wb := wb_s 14 (by decide +kernel) (by decide +kernel)
theorem ks_15 : Cond.selects rn_V y_V_putDrawn y_V_putDrawn ∈ wb := wb_s 15 (by decide +kernel) (by decide +kernel)
theorem ks_16 : Cond.selects rn_V y_V_sumBefore y_V_sumBefore ∈ wb := wb_s 16 (by decide +kernel) (by decide +kernel)
theorem ks_17 : Cond.selects rn_V y_V_isWhole y_V_isWhole ∈ wb := wb_s 17 (by decide +kernel) (by decide +kernel)
theorem ks_18 : Cond.selects rn_V y_V_hasRuns y_V_hasRuns ∈ wb := wb_s 18 (by decide +kernel) (by decide +kernel)
theorem kw_2 : Cond.initialized rn_D ∈ wb := wb_t 2 (by decide +kernel) (by decide +kernel)
theorem kw_3 : Cond.initialized rn_S ∈ wb := wb_t 3 (by decide +kernel) (by decide +kernel)
theorem kw_4 : Cond.initialized rn_K ∈ wb := wb_t 4 (by decide +kernel) (by decide +kernel)
theorem kw_5 : Cond.initialized rn_V ∈ wb := wb_t 5 (by decide +kernel) (by decide +kernel)
theorem kw_131 : Cond.methodLink rn_R 88 y_K_goesOn ∈ wb := wb_t 131 (by decide +kernel) (by decide +kernel)
theorem kw_132 : Cond.instanceMethod y_K_goesOn ∈ wb := wb_t 132 (by decide +kernel) (by decide +kernel)
theorem kw_133 : Cond.selects rn_K y_K_goesOn y_K_goesOn ∈ wb := wb_t 133 (by decide +kernel) (by decide +kernel)
theorem kw_134 : Cond.code y_K_goesOn b_K_goesOn 1 (some .boolean) ∈ wb := wb_t 134 (by decide +kernel) (by decide +kernel)
theorem kw_135 : Cond.methodLink rn_R 129 y_S_stateOf ∈ wb := wb_t 135 (by decide +kernel) (by decide +kernel)
theorem kw_136 : Cond.instanceMethod y_S_stateOf ∈ wb := wb_t 136 (by decide +kernel) (by decide +kernel)
theorem kw_137 : Cond.selects rn_S y_S_stateOf y_S_stateOf ∈ wb := wb_t 137 (by decide +kernel) (by decide +kernel)
theorem kw_138 : Cond.code y_S_stateOf b_S_stateOf 2 (some .int) ∈ wb := wb_t 138 (by decide +kernel) (by decide +kernel)
theorem kw_143 : Cond.methodLink rn_R 139 y_S_countOf ∈ wb := wb_t 143 (by decide +kernel) (by decide +kernel)
theorem kw_144 : Cond.instanceMethod y_S_countOf ∈ wb := wb_t 144 (by decide +kernel) (by decide +kernel)
theorem kw_145 : Cond.selects rn_S y_S_countOf y_S_countOf ∈ wb := wb_t 145 (by decide +kernel) (by decide +kernel)
theorem kw_146 : Cond.code y_S_countOf b_S_countOf 4 (some .int) ∈ wb := wb_t 146 (by decide +kernel) (by decide +kernel)
theorem kw_151 : Cond.methodLink rn_R 142 y_S_firstOfRun ∈ wb := wb_t 151 (by decide +kernel) (by decide +kernel)
theorem kw_152 : Cond.instanceMethod y_S_firstOfRun ∈ wb := wb_t 152 (by decide +kernel) (by decide +kernel)
theorem kw_153 : Cond.selects rn_S y_S_firstOfRun y_S_firstOfRun ∈ wb := wb_t 153 (by decide +kernel) (by decide +kernel)
theorem kw_154 : Cond.code y_S_firstOfRun b_S_firstOfRun 4 (some .int) ∈ wb := wb_t 154 (by decide +kernel) (by decide +kernel)
theorem kw_155 : Cond.methodLink rn_S 38 y_S_startsRun ∈ wb := wb_t 155 (by decide +kernel) (by decide +kernel)
theorem kw_156 : Cond.instanceMethod y_S_startsRun ∈ wb := wb_t 156 (by decide +kernel) (by decide +kernel)
theorem kw_157 : Cond.selects rn_S y_S_startsRun y_S_startsRun ∈ wb := wb_t 157 (by decide +kernel) (by decide +kernel)
theorem kw_158 : Cond.code y_S_startsRun b_S_startsRun 2 (some .boolean) ∈ wb := wb_t 158 (by decide +kernel) (by decide +kernel)
theorem kw_159 : Cond.methodLink rn_S 34 y_S_stateOf ∈ wb := wb_t 159 (by decide +kernel) (by decide +kernel)
theorem kw_160 : Cond.methodLink rn_R 145 y_S_behindStretch ∈ wb := wb_t 160 (by decide +kernel) (by decide +kernel)
theorem kw_161 : Cond.instanceMethod y_S_behindStretch ∈ wb := wb_t 161 (by decide +kernel) (by decide +kernel)
theorem kw_162 : Cond.selects rn_S y_S_behindStretch y_S_behindStretch ∈ wb := wb_t 162 (by decide +kernel) (by decide +kernel)
theorem kw_163 : Cond.code y_S_behindStretch b_S_behindStretch 4 (some .int) ∈ wb := wb_t 163 (by decide +kernel) (by decide +kernel)
theorem kw_168 : Cond.methodLink rn_R 74 y_K_currentPhase ∈ wb := wb_t 168 (by decide +kernel) (by decide +kernel)
theorem kw_169 : Cond.instanceMethod y_K_currentPhase ∈ wb := wb_t 169 (by decide +kernel) (by decide +kernel)
theorem kw_170 : Cond.selects rn_K y_K_currentPhase y_K_currentPhase ∈ wb := wb_t 170 (by decide +kernel) (by decide +kernel)
theorem kw_171 : Cond.code y_K_currentPhase b_K_currentPhase 1 (some .int) ∈ wb := wb_t 171 (by decide +kernel) (by decide +kernel)
theorem kw_176 : Cond.methodLink rn_R 149 y_D_wordOut ∈ wb := wb_t 176 (by decide +kernel) (by decide +kernel)
theorem kw_177 : Cond.instanceMethod y_D_wordOut ∈ wb := wb_t 177 (by decide +kernel) (by decide +kernel)
theorem kw_178 : Cond.selects rn_D y_D_wordOut y_D_wordOut ∈ wb := wb_t 178 (by decide +kernel) (by decide +kernel)
theorem kw_179 : Cond.code y_D_wordOut b_D_wordOut 2 (some .int) ∈ wb := wb_t 179 (by decide +kernel) (by decide +kernel)
theorem kw_180 : Cond.methodLink rn_D 40 y_D_has ∈ wb := wb_t 180 (by decide +kernel) (by decide +kernel)
theorem kw_181 : Cond.instanceMethod y_D_has ∈ wb := wb_t 181 (by decide +kernel) (by decide +kernel)
theorem kw_182 : Cond.selects rn_D y_D_has y_D_has ∈ wb := wb_t 182 (by decide +kernel) (by decide +kernel)
theorem kw_183 : Cond.code y_D_has b_D_has 2 (some .boolean) ∈ wb := wb_t 183 (by decide +kernel) (by decide +kernel)
theorem kw_188 : Cond.methodLink rn_R 152 y_D_readsOf ∈ wb := wb_t 188 (by decide +kernel) (by decide +kernel)
theorem kw_189 : Cond.instanceMethod y_D_readsOf ∈ wb := wb_t 189 (by decide +kernel) (by decide +kernel)
theorem kw_190 : Cond.selects rn_D y_D_readsOf y_D_readsOf ∈ wb := wb_t 190 (by decide +kernel) (by decide +kernel)
theorem kw_191 : Cond.code y_D_readsOf b_D_readsOf 2 (some .int) ∈ wb := wb_t 191 (by decide +kernel) (by decide +kernel)
theorem kw_196 : Cond.methodLink rn_R 155 y_D_stretchesRead ∈ wb := wb_t 196 (by decide +kernel) (by decide +kernel)
theorem kw_197 : Cond.instanceMethod y_D_stretchesRead ∈ wb := wb_t 197 (by decide +kernel) (by decide +kernel)
theorem kw_198 : Cond.selects rn_D y_D_stretchesRead y_D_stretchesRead ∈ wb := wb_t 198 (by decide +kernel) (by decide +kernel)
theorem kw_199 : Cond.code y_D_stretchesRead b_D_stretchesRead 2 (some .int) ∈ wb := wb_t 199 (by decide +kernel) (by decide +kernel)
theorem kw_204 : Cond.methodLink rn_R 159 y_V_byteAt ∈ wb := wb_t 204 (by decide +kernel) (by decide +kernel)
theorem kw_205 : Cond.instanceMethod y_V_byteAt ∈ wb := wb_t 205 (by decide +kernel) (by decide +kernel)
theorem kw_206 : Cond.selects rn_V y_V_byteAt y_V_byteAt ∈ wb := wb_t 206 (by decide +kernel) (by decide +kernel)
theorem kw_207 : Cond.code y_V_byteAt b_V_byteAt 3 (some .int) ∈ wb := wb_t 207 (by decide +kernel) (by decide +kernel)
theorem kw_208 : Cond.methodLink rn_V 30 y_V_has ∈ wb := wb_t 208 (by decide +kernel) (by decide +kernel)
theorem kw_209 : Cond.instanceMethod y_V_has ∈ wb := wb_t 209 (by decide +kernel) (by decide +kernel)
theorem kw_210 : Cond.selects rn_V y_V_has y_V_has ∈ wb := wb_t 210 (by decide +kernel) (by decide +kernel)
theorem kw_211 : Cond.code y_V_has b_V_has 3 (some .boolean) ∈ wb := wb_t 211 (by decide +kernel) (by decide +kernel)
theorem kw_291 : Cond.methodLink rn_D 34 y_fill ∈ wb := wb_t 291 (by decide +kernel) (by decide +kernel)
theorem kw_298 : Cond.methodLink rn_V 24 y_fill ∈ wb := wb_t 298 (by decide +kernel) (by decide +kernel)
theorem kw_350 : Cond.methodLink rn_S 15 ⟨"java/lang/Math", "min", "(II)I"⟩ ∈ wb := wb_t 350 (by decide +kernel) (by decide +kernel)
theorem kw_353 : Cond.methodLink rn_S 21 ⟨"java/lang/Math", "max", "(II)I"⟩ ∈ wb := wb_t 353 (by decide +kernel) (by decide +kernel)
theorem kw_356 : Cond.methodLink rn_S 28 y_fill ∈ wb := wb_t 356 (by decide +kernel) (by decide +kernel)
theorem kw_361 : Cond.methodLink rn_K 26 y_K_enter ∈ wb := wb_t 361 (by decide +kernel) (by decide +kernel)
theorem kw_362 : Cond.instanceMethod y_K_enter ∈ wb := wb_t 362 (by decide +kernel) (by decide +kernel)
theorem kw_363 : Cond.selects rn_K y_K_enter y_K_enter ∈ wb := wb_t 363 (by decide +kernel) (by decide +kernel)
theorem kw_364 : Cond.code y_K_enter b_K_enter 2 none ∈ wb := wb_t 364 (by decide +kernel) (by decide +kernel)
theorem kw_365 : Cond.methodLink rn_K 33 y_S_size ∈ wb := wb_t 365 (by decide +kernel) (by decide +kernel)
theorem kw_366 : Cond.instanceMethod y_S_size ∈ wb := wb_t 366 (by decide +kernel) (by decide +kernel)
theorem kw_367 : Cond.selects rn_S y_S_size y_S_size ∈ wb := wb_t 367 (by decide +kernel) (by decide +kernel)
theorem kw_368 : Cond.code y_S_size b_S_size 1 (some .int) ∈ wb := wb_t 368 (by decide +kernel) (by decide +kernel)
theorem kw_381 : Cond.methodLink rn_K 49 y_K_readIn ∈ wb := wb_t 381 (by decide +kernel) (by decide +kernel)
theorem kw_383 : Cond.instanceMethod y_K_readIn ∈ wb := wb_t 383 (by decide +kernel) (by decide +kernel)
theorem kw_384 : Cond.code y_K_readIn b_K_readIn 2 (some .boolean) ∈ wb := wb_t 384 (by decide +kernel) (by decide +kernel)
theorem kw_385 : Cond.methodLink rn_K 53 y_K_readForward ∈ wb := wb_t 385 (by decide +kernel) (by decide +kernel)
theorem kw_387 : Cond.instanceMethod y_K_readForward ∈ wb := wb_t 387 (by decide +kernel) (by decide +kernel)
theorem kw_388 : Cond.code y_K_readForward b_K_readForward 5 (some .boolean) ∈ wb := wb_t 388 (by decide +kernel) (by decide +kernel)
theorem kw_389 : Cond.methodLink rn_K 70 y_S_firstFrom ∈ wb := wb_t 389 (by decide +kernel) (by decide +kernel)
theorem kw_390 : Cond.instanceMethod y_S_firstFrom ∈ wb := wb_t 390 (by decide +kernel) (by decide +kernel)
theorem kw_391 : Cond.selects rn_S y_S_firstFrom y_S_firstFrom ∈ wb := wb_t 391 (by decide +kernel) (by decide +kernel)
theorem kw_392 : Cond.code y_S_firstFrom b_S_firstFrom 4 (some .int) ∈ wb := wb_t 392 (by decide +kernel) (by decide +kernel)
theorem kw_393 : Cond.methodLink rn_K 74 y_S_behindStretch ∈ wb := wb_t 393 (by decide +kernel) (by decide +kernel)
theorem kw_394 : Cond.methodLink rn_K 77 y_K_rescue ∈ wb := wb_t 394 (by decide +kernel) (by decide +kernel)
theorem kw_396 : Cond.instanceMethod y_K_rescue ∈ wb := wb_t 396 (by decide +kernel) (by decide +kernel)
theorem kw_397 : Cond.code y_K_rescue b_K_rescue 5 (some .boolean) ∈ wb := wb_t 397 (by decide +kernel) (by decide +kernel)
theorem kw_398 : Cond.methodLink rn_K 109 y_D_readStretch ∈ wb := wb_t 398 (by decide +kernel) (by decide +kernel)
theorem kw_399 : Cond.instanceMethod y_D_readStretch ∈ wb := wb_t 399 (by decide +kernel) (by decide +kernel)
theorem kw_400 : Cond.selects rn_D y_D_readStretch y_D_readStretch ∈ wb := wb_t 400 (by decide +kernel) (by decide +kernel)
theorem kw_401 : Cond.code y_D_readStretch b_D_readStretch 4 (some .boolean) ∈ wb := wb_t 401 (by decide +kernel) (by decide +kernel)
theorem kw_402 : Cond.methodLink rn_D 44 arraycopyName ∈ wb := wb_t 402 (by decide +kernel) (by decide +kernel)
theorem kw_405 : Cond.methodLink rn_K 96 y_S_mark ∈ wb := wb_t 405 (by decide +kernel) (by decide +kernel)
theorem kw_406 : Cond.instanceMethod y_S_mark ∈ wb := wb_t 406 (by decide +kernel) (by decide +kernel)
theorem kw_407 : Cond.selects rn_S y_S_mark y_S_mark ∈ wb := wb_t 407 (by decide +kernel) (by decide +kernel)
theorem kw_408 : Cond.code y_S_mark b_S_mark 6 none ∈ wb := wb_t 408 (by decide +kernel) (by decide +kernel)
theorem kw_409 : Cond.methodLink rn_K 81 y_K_takeLeap ∈ wb := wb_t 409 (by decide +kernel) (by decide +kernel)
theorem kw_411 : Cond.instanceMethod y_K_takeLeap ∈ wb := wb_t 411 (by decide +kernel) (by decide +kernel)
theorem kw_412 : Cond.code y_K_takeLeap b_K_takeLeap 3 (some .int) ∈ wb := wb_t 412 (by decide +kernel) (by decide +kernel)
theorem kw_413 : Cond.methodLink rn_K 91 ⟨"java/lang/Math", "min", "(II)I"⟩ ∈ wb := wb_t 413 (by decide +kernel) (by decide +kernel)
theorem kw_414 : Cond.methodLink rn_K 57 y_K_readBackward ∈ wb := wb_t 414 (by decide +kernel) (by decide +kernel)
theorem kw_416 : Cond.instanceMethod y_K_readBackward ∈ wb := wb_t 416 (by decide +kernel) (by decide +kernel)
theorem kw_417 : Cond.code y_K_readBackward b_K_readBackward 4 (some .boolean) ∈ wb := wb_t 417 (by decide +kernel) (by decide +kernel)
theorem kw_418 : Cond.methodLink rn_K 85 y_S_lastBelow ∈ wb := wb_t 418 (by decide +kernel) (by decide +kernel)
theorem kw_419 : Cond.instanceMethod y_S_lastBelow ∈ wb := wb_t 419 (by decide +kernel) (by decide +kernel)
theorem kw_420 : Cond.selects rn_S y_S_lastBelow y_S_lastBelow ∈ wb := wb_t 420 (by decide +kernel) (by decide +kernel)
theorem kw_421 : Cond.code y_S_lastBelow b_S_lastBelow 4 (some .int) ∈ wb := wb_t 421 (by decide +kernel) (by decide +kernel)
theorem kw_422 : Cond.methodLink rn_K 88 y_S_firstOfStretch ∈ wb := wb_t 422 (by decide +kernel) (by decide +kernel)
theorem kw_423 : Cond.instanceMethod y_S_firstOfStretch ∈ wb := wb_t 423 (by decide +kernel) (by decide +kernel)
theorem kw_424 : Cond.selects rn_S y_S_firstOfStretch y_S_firstOfStretch ∈ wb := wb_t 424 (by decide +kernel) (by decide +kernel)
theorem kw_425 : Cond.code y_S_firstOfStretch b_S_firstOfStretch 4 (some .int) ∈ wb := wb_t 425 (by decide +kernel) (by decide +kernel)
theorem kw_426 : Cond.methodLink rn_K 61 y_K_trim ∈ wb := wb_t 426 (by decide +kernel) (by decide +kernel)
theorem kw_428 : Cond.instanceMethod y_K_trim ∈ wb := wb_t 428 (by decide +kernel) (by decide +kernel)
theorem kw_429 : Cond.code y_K_trim b_K_trim 5 (some .boolean) ∈ wb := wb_t 429 (by decide +kernel) (by decide +kernel)
theorem kw_430 : Cond.methodLink rn_K 64 y_K_scrape ∈ wb := wb_t 430 (by decide +kernel) (by decide +kernel)
theorem kw_432 : Cond.instanceMethod y_K_scrape ∈ wb := wb_t 432 (by decide +kernel) (by decide +kernel)
theorem kw_433 : Cond.code y_K_scrape b_K_scrape 2 (some .boolean) ∈ wb := wb_t 433 (by decide +kernel) (by decide +kernel)
theorem kw_434 : Cond.methodLink rn_K 67 y_K_retry ∈ wb := wb_t 434 (by decide +kernel) (by decide +kernel)
theorem kw_436 : Cond.instanceMethod y_K_retry ∈ wb := wb_t 436 (by decide +kernel) (by decide +kernel)
theorem kw_437 : Cond.code y_K_retry b_K_retry 2 (some .boolean) ∈ wb := wb_t 437 (by decide +kernel) (by decide +kernel)
theorem kw_438 : Cond.methodLink rn_K 100 y_K_nextBad ∈ wb := wb_t 438 (by decide +kernel) (by decide +kernel)
theorem kw_440 : Cond.instanceMethod y_K_nextBad ∈ wb := wb_t 440 (by decide +kernel) (by decide +kernel)
theorem kw_441 : Cond.code y_K_nextBad b_K_nextBad 3 (some .int) ∈ wb := wb_t 441 (by decide +kernel) (by decide +kernel)
theorem kw_442 : Cond.methodLink rn_K 103 y_K_goesUp ∈ wb := wb_t 442 (by decide +kernel) (by decide +kernel)
theorem kw_444 : Cond.instanceMethod y_K_goesUp ∈ wb := wb_t 444 (by decide +kernel) (by decide +kernel)
theorem kw_445 : Cond.code y_K_goesUp b_K_goesUp 2 (some .boolean) ∈ wb := wb_t 445 (by decide +kernel) (by decide +kernel)
theorem kw_446 : Cond.methodLink rn_K 106 y_K_enterRound ∈ wb := wb_t 446 (by decide +kernel) (by decide +kernel)
theorem kw_448 : Cond.instanceMethod y_K_enterRound ∈ wb := wb_t 448 (by decide +kernel) (by decide +kernel)
theorem kw_449 : Cond.code y_K_enterRound b_K_enterRound 2 none ∈ wb := wb_t 449 (by decide +kernel) (by decide +kernel)
theorem kw_469 : Cond.methodLink rn_V 34 y_V_behindNumber ∈ wb := wb_t 469 (by decide +kernel) (by decide +kernel)
theorem kw_471 : Cond.instanceMethod y_V_behindNumber ∈ wb := wb_t 471 (by decide +kernel) (by decide +kernel)
theorem kw_472 : Cond.code y_V_behindNumber b_V_behindNumber 2 (some .int) ∈ wb := wb_t 472 (by decide +kernel) (by decide +kernel)
theorem kw_473 : Cond.methodLink rn_V 38 y_V_draw ∈ wb := wb_t 473 (by decide +kernel) (by decide +kernel)
theorem kw_475 : Cond.instanceMethod y_V_draw ∈ wb := wb_t 475 (by decide +kernel) (by decide +kernel)
theorem kw_476 : Cond.code y_V_draw b_V_draw 4 (some .int) ∈ wb := wb_t 476 (by decide +kernel) (by decide +kernel)
theorem kw_477 : Cond.methodLink rn_V 52 y_S_size ∈ wb := wb_t 477 (by decide +kernel) (by decide +kernel)
theorem kw_478 : Cond.methodLink rn_V 58 y_S_startsRun ∈ wb := wb_t 478 (by decide +kernel) (by decide +kernel)
theorem kw_479 : Cond.methodLink rn_V 62 y_V_placeOfRun ∈ wb := wb_t 479 (by decide +kernel) (by decide +kernel)
theorem kw_481 : Cond.instanceMethod y_V_placeOfRun ∈ wb := wb_t 481 (by decide +kernel) (by decide +kernel)
theorem kw_482 : Cond.code y_V_placeOfRun b_V_placeOfRun 2 (some .int) ∈ wb := wb_t 482 (by decide +kernel) (by decide +kernel)
theorem kw_483 : Cond.methodLink rn_V 65 y_S_behindStretch ∈ wb := wb_t 483 (by decide +kernel) (by decide +kernel)
theorem kw_484 : Cond.methodLink rn_V 68 y_V_putDrawn ∈ wb := wb_t 484 (by decide +kernel) (by decide +kernel)
theorem kw_486 : Cond.instanceMethod y_V_putDrawn ∈ wb := wb_t 486 (by decide +kernel) (by decide +kernel)
theorem kw_487 : Cond.code y_V_putDrawn b_V_putDrawn 3 none ∈ wb := wb_t 487 (by decide +kernel) (by decide +kernel)
theorem kw_488 : Cond.methodLink rn_V 72 y_S_stateOf ∈ wb := wb_t 488 (by decide +kernel) (by decide +kernel)
theorem kw_489 : Cond.methodLink rn_V 75 y_V_sumBefore ∈ wb := wb_t 489 (by decide +kernel) (by decide +kernel)
theorem kw_491 : Cond.instanceMethod y_V_sumBefore ∈ wb := wb_t 491 (by decide +kernel) (by decide +kernel)
theorem kw_492 : Cond.code y_V_sumBefore b_V_sumBefore 5 (some .int) ∈ wb := wb_t 492 (by decide +kernel) (by decide +kernel)
theorem kw_493 : Cond.methodLink rn_V 42 ⟨"java/lang/Math", "min", "(II)I"⟩ ∈ wb := wb_t 493 (by decide +kernel) (by decide +kernel)
theorem kw_494 : Cond.methodLink rn_V 48 y_V_put ∈ wb := wb_t 494 (by decide +kernel) (by decide +kernel)
theorem kw_495 : Cond.instanceMethod y_V_put ∈ wb := wb_t 495 (by decide +kernel) (by decide +kernel)
theorem kw_496 : Cond.selects rn_V y_V_put y_V_put ∈ wb := wb_t 496 (by decide +kernel) (by decide +kernel)
theorem kw_497 : Cond.code y_V_put b_V_put 4 none ∈ wb := wb_t 497 (by decide +kernel) (by decide +kernel)
theorem kw_522 : Cond.methodLink rn_V 79 y_V_isWhole ∈ wb := wb_t 522 (by decide +kernel) (by decide +kernel)
theorem kw_524 : Cond.instanceMethod y_V_isWhole ∈ wb := wb_t 524 (by decide +kernel) (by decide +kernel)
theorem kw_525 : Cond.code y_V_isWhole b_V_isWhole 5 (some .boolean) ∈ wb := wb_t 525 (by decide +kernel) (by decide +kernel)
theorem kw_526 : Cond.methodLink rn_V 82 y_V_byteAt ∈ wb := wb_t 526 (by decide +kernel) (by decide +kernel)
theorem kw_527 : Cond.methodLink rn_V 85 y_V_hasRuns ∈ wb := wb_t 527 (by decide +kernel) (by decide +kernel)
theorem kw_529 : Cond.instanceMethod y_V_hasRuns ∈ wb := wb_t 529 (by decide +kernel) (by decide +kernel)
theorem kw_530 : Cond.code y_V_hasRuns b_V_hasRuns 9 (some .boolean) ∈ wb := wb_t 530 (by decide +kernel) (by decide +kernel)
theorem kw_535 : Cond.methodLink rn_V 89 y_S_mark ∈ wb := wb_t 535 (by decide +kernel) (by decide +kernel)
theorem hd_D_has : y_D_has.cls = rn_D ∧ y_D_has.cls ≠ "java/lang/invoke/MethodHandle" ∧ y_D_has.cls ≠ "java/lang/invoke/VarHandle" ∧ (parseMethodDescriptor y_D_has.desc).map (fun d => d.parameters.length) = some 1 := by decide +kernel
theorem g_D_40 : GoodIn wb (wsV rn_D 40 rn_D y_D_has (Cond.code y_D_has b_D_has 2 (some .boolean) :: wb)) := gw_V kw_180 kw_181 kw_182 kw_2 kw_183
theorem hd_K_enter : y_K_enter.cls = rn_K ∧ y_K_enter.cls ≠ "java/lang/invoke/MethodHandle" ∧ y_K_enter.cls ≠ "java/lang/invoke/VarHandle" ∧ (parseMethodDescriptor y_K_enter.desc).map (fun d => d.parameters.length) = some 1 := by decide +kernel
theorem g_K_26 : GoodIn wb (wsV rn_K 26 rn_K y_K_enter (Cond.code y_K_enter b_K_enter 2 none :: wb)) := gw_V kw_361 kw_362 kw_363 kw_4 kw_364
theorem hd_S_size : y_S_size.cls = rn_S ∧ y_S_size.cls ≠ "java/lang/invoke/MethodHandle" ∧ y_S_size.cls ≠ "java/lang/invoke/VarHandle" ∧ (parseMethodDescriptor y_S_size.desc).map (fun d => d.parameters.length) = some 0 := by decide +kernel
theorem g_K_33 : GoodIn wb (wsV rn_K 33 rn_S y_S_size (Cond.code y_S_size b_S_size 1 (some .int) :: wb)) := gw_V kw_365 kw_366 kw_367 kw_3 kw_368
theorem hd_K_readIn : y_K_readIn.cls = rn_K ∧ y_K_readIn.cls ≠ "java/lang/invoke/MethodHandle" ∧ y_K_readIn.cls ≠ "java/lang/invoke/VarHandle" ∧ (parseMethodDescriptor y_K_readIn.desc).map (fun d => d.parameters.length) = some 1 := by decide +kernel
theorem g_K_49 : GoodIn wb (wsV rn_K 49 rn_K y_K_readIn (Cond.code y_K_readIn b_K_readIn 2 (some .boolean) :: wb)) := gw_V kw_381 kw_383 ks_1 kw_4 kw_384
theorem hd_K_readForward : y_K_readForward.cls = rn_K ∧ y_K_readForward.cls ≠ "java/lang/invoke/MethodHandle" ∧ y_K_readForward.cls ≠ "java/lang/invoke/VarHandle" ∧ (parseMethodDescriptor y_K_readForward.desc).map (fun d => d.parameters.length) = some 1 := by decide +kernel
theorem g_K_53 : GoodIn wb (wsV rn_K 53 rn_K y_K_readForward (Cond.code y_K_readForward b_K_readForward 5 (some .boolean) :: wb)) := gw_V kw_385 kw_387 ks_2 kw_4 kw_388
theorem hd_K_readBackward : y_K_readBackward.cls = rn_K ∧ y_K_readBackward.cls ≠ "java/lang/invoke/MethodHandle" ∧ y_K_readBackward.cls ≠ "java/lang/invoke/VarHandle" ∧ (parseMethodDescriptor y_K_readBackward.desc).map (fun d => d.parameters.length) = some 0 := by decide +kernel
theorem g_K_57 : GoodIn wb (wsV rn_K 57 rn_K y_K_readBackward (Cond.code y_K_readBackward b_K_readBackward 4 (some .boolean) :: wb)) := gw_V kw_414 kw_416 ks_5 kw_4 kw_417
theorem hd_K_trim : y_K_trim.cls = rn_K ∧ y_K_trim.cls ≠ "java/lang/invoke/MethodHandle" ∧ y_K_trim.cls ≠ "java/lang/invoke/VarHandle" ∧ (parseMethodDescriptor y_K_trim.desc).map (fun d => d.parameters.length) = some 0 := by decide +kernel
theorem g_K_61 : GoodIn wb (wsV rn_K 61 rn_K y_K_trim (Cond.code y_K_trim b_K_trim 5 (some .boolean) :: wb)) := gw_V kw_426 kw_428 ks_6 kw_4 kw_429
theorem hd_K_scrape : y_K_scrape.cls = rn_K ∧ y_K_scrape.cls ≠ "java/lang/invoke/MethodHandle" ∧ y_K_scrape.cls ≠ "java/lang/invoke/VarHandle" ∧ (parseMethodDescriptor y_K_scrape.desc).map (fun d => d.parameters.length) = some 0 := by decide +kernel
theorem g_K_64 : GoodIn wb (wsV rn_K 64 rn_K y_K_scrape (Cond.code y_K_scrape b_K_scrape 2 (some .boolean) :: wb)) := gw_V kw_430 kw_432 ks_7 kw_4 kw_433
theorem hd_K_retry : y_K_retry.cls = rn_K ∧ y_K_retry.cls ≠ "java/lang/invoke/MethodHandle" ∧ y_K_retry.cls ≠ "java/lang/invoke/VarHandle" ∧ (parseMethodDescriptor y_K_retry.desc).map (fun d => d.parameters.length) = some 0 := by decide +kernel
theorem g_K_67 : GoodIn wb (wsV rn_K 67 rn_K y_K_retry (Cond.code y_K_retry b_K_retry 2 (some .boolean) :: wb)) := gw_V kw_434 kw_436 ks_8 kw_4 kw_437
theorem hd_S_firstFrom : y_S_firstFrom.cls = rn_S ∧ y_S_firstFrom.cls ≠ "java/lang/invoke/MethodHandle" ∧ y_S_firstFrom.cls ≠ "java/lang/invoke/VarHandle" ∧ (parseMethodDescriptor y_S_firstFrom.desc).map (fun d => d.parameters.length) = some 2 := by decide +kernel
theorem g_K_70 : GoodIn wb (wsV rn_K 70 rn_S y_S_firstFrom (Cond.code y_S_firstFrom b_S_firstFrom 4 (some .int) :: wb)) := gw_V kw_389 kw_390 kw_391 kw_3 kw_392
theorem hd_S_behindStretch : y_S_behindStretch.cls = rn_S ∧ y_S_behindStretch.cls ≠ "java/lang/invoke/MethodHandle" ∧ y_S_behindStretch.cls ≠ "java/lang/invoke/VarHandle" ∧ (parseMethodDescriptor y_S_behindStretch.desc).map (fun d => d.parameters.length) = some 2 := by decide +kernel
theorem g_K_74 : GoodIn wb (wsV rn_K 74 rn_S y_S_behindStretch (Cond.code y_S_behindStretch b_S_behindStretch 4 (some .int) :: wb)) := gw_V kw_393 kw_161 kw_162 kw_3 kw_163
theorem hd_K_rescue : y_K_rescue.cls = rn_K ∧ y_K_rescue.cls ≠ "java/lang/invoke/MethodHandle" ∧ y_K_rescue.cls ≠ "java/lang/invoke/VarHandle" ∧ (parseMethodDescriptor y_K_rescue.desc).map (fun d => d.parameters.length) = some 3 := by decide +kernel
theorem g_K_77 : GoodIn wb (wsV rn_K 77 rn_K y_K_rescue (Cond.code y_K_rescue b_K_rescue 5 (some .boolean) :: wb)) := gw_V kw_394 kw_396 ks_3 kw_4 kw_397
theorem hd_K_takeLeap : y_K_takeLeap.cls = rn_K ∧ y_K_takeLeap.cls ≠ "java/lang/invoke/MethodHandle" ∧ y_K_takeLeap.cls ≠ "java/lang/invoke/VarHandle" ∧ (parseMethodDescriptor y_K_takeLeap.desc).map (fun d => d.parameters.length) = some 1 := by decide +kernel
theorem g_K_81 : GoodIn wb (wsV rn_K 81 rn_K y_K_takeLeap (Cond.code y_K_takeLeap b_K_takeLeap 3 (some .int) :: wb)) := gw_V kw_409 kw_411 ks_4 kw_4 kw_412
theorem hd_S_lastBelow : y_S_lastBelow.cls = rn_S ∧ y_S_lastBelow.cls ≠ "java/lang/invoke/MethodHandle" ∧ y_S_lastBelow.cls ≠ "java/lang/invoke/VarHandle" ∧ (parseMethodDescriptor y_S_lastBelow.desc).map (fun d => d.parameters.length) = some 2 := by decide +kernel
theorem g_K_85 : GoodIn wb (wsV rn_K 85 rn_S y_S_lastBelow (Cond.code y_S_lastBelow b_S_lastBelow 4 (some .int) :: wb)) := gw_V kw_418 kw_419 kw_420 kw_3 kw_421
theorem hd_S_firstOfStretch : y_S_firstOfStretch.cls = rn_S ∧ y_S_firstOfStretch.cls ≠ "java/lang/invoke/MethodHandle" ∧ y_S_firstOfStretch.cls ≠ "java/lang/invoke/VarHandle" ∧ (parseMethodDescriptor y_S_firstOfStretch.desc).map (fun d => d.parameters.length) = some 2 := by decide +kernel
theorem g_K_88 : GoodIn wb (wsV rn_K 88 rn_S y_S_firstOfStretch (Cond.code y_S_firstOfStretch b_S_firstOfStretch 4 (some .int) :: wb)) := gw_V kw_422 kw_423 kw_424 kw_3 kw_425
theorem hd_S_mark : y_S_mark.cls = rn_S ∧ y_S_mark.cls ≠ "java/lang/invoke/MethodHandle" ∧ y_S_mark.cls ≠ "java/lang/invoke/VarHandle" ∧ (parseMethodDescriptor y_S_mark.desc).map (fun d => d.parameters.length) = some 3 := by decide +kernel
theorem g_K_96 : GoodIn wb (wsV rn_K 96 rn_S y_S_mark (Cond.code y_S_mark b_S_mark 6 none :: wb)) := gw_V kw_405 kw_406 kw_407 kw_3 kw_408
theorem hd_K_nextBad : y_K_nextBad.cls = rn_K ∧ y_K_nextBad.cls ≠ "java/lang/invoke/MethodHandle" ∧ y_K_nextBad.cls ≠ "java/lang/invoke/VarHandle" ∧ (parseMethodDescriptor y_K_nextBad.desc).map (fun d => d.parameters.length) = some 0 := by decide +kernel
theorem g_K_100 : GoodIn wb (wsV rn_K 100 rn_K y_K_nextBad (Cond.code y_K_nextBad b_K_nextBad 3 (some .int) :: wb)) := gw_V kw_438 kw_440 ks_9 kw_4 kw_441
theorem hd_K_goesUp : y_K_goesUp.cls = rn_K ∧ y_K_goesUp.cls ≠ "java/lang/invoke/MethodHandle" ∧ y_K_goesUp.cls ≠ "java/lang/invoke/VarHandle" ∧ (parseMethodDescriptor y_K_goesUp.desc).map (fun d => d.parameters.length) = some 1 := by decide +kernel
theorem g_K_103 : GoodIn wb (wsV rn_K 103 rn_K y_K_goesUp (Cond.code y_K_goesUp b_K_goesUp 2 (some .boolean) :: wb)) := gw_V kw_442 kw_444 ks_10 kw_4 kw_445
theorem hd_K_enterRound : y_K_enterRound.cls = rn_K ∧ y_K_enterRound.cls ≠ "java/lang/invoke/MethodHandle" ∧ y_K_enterRound.cls ≠ "java/lang/invoke/VarHandle" ∧ (parseMethodDescriptor y_K_enterRound.desc).map (fun d => d.parameters.length) = some 1 := by decide +kernel
theorem g_K_106 : GoodIn wb (wsV rn_K 106 rn_K y_K_enterRound (Cond.code y_K_enterRound b_K_enterRound 2 none :: wb)) := gw_V kw_446 kw_448 ks_11 kw_4 kw_449
theorem hd_D_readStretch : y_D_readStretch.cls = rn_D ∧ y_D_readStretch.cls ≠ "java/lang/invoke/MethodHandle" ∧ y_D_readStretch.cls ≠ "java/lang/invoke/VarHandle" ∧ (parseMethodDescriptor y_D_readStretch.desc).map (fun d => d.parameters.length) = some 2 := by decide +kernel
theorem g_K_109 : GoodIn wb (wsV rn_K 109 rn_D y_D_readStretch (Cond.code y_D_readStretch b_D_readStretch 4 (some .boolean) :: wb)) := gw_V kw_398 kw_399 kw_400 kw_2 kw_401
theorem hd_K_currentPhase : y_K_currentPhase.cls = rn_K ∧ y_K_currentPhase.cls ≠ "java/lang/invoke/MethodHandle" ∧ y_K_currentPhase.cls ≠ "java/lang/invoke/VarHandle" ∧ (parseMethodDescriptor y_K_currentPhase.desc).map (fun d => d.parameters.length) = some 0 := by decide +kernel
theorem g_R_74 : GoodIn wb (wsV rn_R 74 rn_K y_K_currentPhase (Cond.code y_K_currentPhase b_K_currentPhase 1 (some .int) :: wb)) := gw_V kw_168 kw_169 kw_170 kw_4 kw_171
theorem hd_K_goesOn : y_K_goesOn.cls = rn_K ∧ y_K_goesOn.cls ≠ "java/lang/invoke/MethodHandle" ∧ y_K_goesOn.cls ≠ "java/lang/invoke/VarHandle" ∧ (parseMethodDescriptor y_K_goesOn.desc).map (fun d => d.parameters.length) = some 0 := by decide +kernel
theorem g_R_88 : GoodIn wb (wsV rn_R 88 rn_K y_K_goesOn (Cond.code y_K_goesOn b_K_goesOn 1 (some .boolean) :: wb)) := gw_V kw_131 kw_132 kw_133 kw_4 kw_134
theorem hd_S_stateOf : y_S_stateOf.cls = rn_S ∧ y_S_stateOf.cls ≠ "java/lang/invoke/MethodHandle" ∧ y_S_stateOf.cls ≠ "java/lang/invoke/VarHandle" ∧ (parseMethodDescriptor y_S_stateOf.desc).map (fun d => d.parameters.length) = some 1 := by decide +kernel
theorem g_R_129 : GoodIn wb (wsV rn_R 129 rn_S y_S_stateOf (Cond.code y_S_stateOf b_S_stateOf 2 (some .int) :: wb)) := gw_V kw_135 kw_136 kw_137 kw_3 kw_138
theorem hd_S_countOf : y_S_countOf.cls = rn_S ∧ y_S_countOf.cls ≠ "java/lang/invoke/MethodHandle" ∧ y_S_countOf.cls ≠ "java/lang/invoke/VarHandle" ∧ (parseMethodDescriptor y_S_countOf.desc).map (fun d => d.parameters.length) = some 1 := by decide +kernel
theorem g_R_139 : GoodIn wb (wsV rn_R 139 rn_S y_S_countOf (Cond.code y_S_countOf b_S_countOf 4 (some .int) :: wb)) := gw_V kw_143 kw_144 kw_145 kw_3 kw_146
theorem hd_S_firstOfRun : y_S_firstOfRun.cls = rn_S ∧ y_S_firstOfRun.cls ≠ "java/lang/invoke/MethodHandle" ∧ y_S_firstOfRun.cls ≠ "java/lang/invoke/VarHandle" ∧ (parseMethodDescriptor y_S_firstOfRun.desc).map (fun d => d.parameters.length) = some 1 := by decide +kernel
theorem g_R_142 : GoodIn wb (wsV rn_R 142 rn_S y_S_firstOfRun (Cond.code y_S_firstOfRun b_S_firstOfRun 4 (some .int) :: wb)) := gw_V kw_151 kw_152 kw_153 kw_3 kw_154
theorem g_R_145 : GoodIn wb (wsV rn_R 145 rn_S y_S_behindStretch (Cond.code y_S_behindStretch b_S_behindStretch 4 (some .int) :: wb)) := gw_V kw_160 kw_161 kw_162 kw_3 kw_163
theorem hd_D_wordOut : y_D_wordOut.cls = rn_D ∧ y_D_wordOut.cls ≠ "java/lang/invoke/MethodHandle" ∧ y_D_wordOut.cls ≠ "java/lang/invoke/VarHandle" ∧ (parseMethodDescriptor y_D_wordOut.desc).map (fun d => d.parameters.length) = some 1 := by decide +kernel
theorem g_R_149 : GoodIn wb (wsV rn_R 149 rn_D y_D_wordOut (Cond.code y_D_wordOut b_D_wordOut 2 (some .int) :: wb)) := gw_V kw_176 kw_177 kw_178 kw_2 kw_179
theorem hd_D_readsOf : y_D_readsOf.cls = rn_D ∧ y_D_readsOf.cls ≠ "java/lang/invoke/MethodHandle" ∧ y_D_readsOf.cls ≠ "java/lang/invoke/VarHandle" ∧ (parseMethodDescriptor y_D_readsOf.desc).map (fun d => d.parameters.length) = some 1 := by decide +kernel
theorem g_R_152 : GoodIn wb (wsV rn_R 152 rn_D y_D_readsOf (Cond.code y_D_readsOf b_D_readsOf 2 (some .int) :: wb)) := gw_V kw_188 kw_189 kw_190 kw_2 kw_191
theorem hd_D_stretchesRead : y_D_stretchesRead.cls = rn_D ∧ y_D_stretchesRead.cls ≠ "java/lang/invoke/MethodHandle" ∧ y_D_stretchesRead.cls ≠ "java/lang/invoke/VarHandle" ∧ (parseMethodDescriptor y_D_stretchesRead.desc).map (fun d => d.parameters.length) = some 1 := by decide +kernel
theorem g_R_155 : GoodIn wb (wsV rn_R 155 rn_D y_D_stretchesRead (Cond.code y_D_stretchesRead b_D_stretchesRead 2 (some .int) :: wb)) := gw_V kw_196 kw_197 kw_198 kw_2 kw_199
theorem hd_V_byteAt : y_V_byteAt.cls = rn_V ∧ y_V_byteAt.cls ≠ "java/lang/invoke/MethodHandle" ∧ y_V_byteAt.cls ≠ "java/lang/invoke/VarHandle" ∧ (parseMethodDescriptor y_V_byteAt.desc).map (fun d => d.parameters.length) = some 2 := by decide +kernel
theorem g_R_159 : GoodIn wb (wsV rn_R 159 rn_V y_V_byteAt (Cond.code y_V_byteAt b_V_byteAt 3 (some .int) :: wb)) := gw_V kw_204 kw_205 kw_206 kw_5 kw_207
theorem g_S_34 : GoodIn wb (wsV rn_S 34 rn_S y_S_stateOf (Cond.code y_S_stateOf b_S_stateOf 2 (some .int) :: wb)) := gw_V kw_159 kw_136 kw_137 kw_3 kw_138
theorem hd_S_startsRun : y_S_startsRun.cls = rn_S ∧ y_S_startsRun.cls ≠ "java/lang/invoke/MethodHandle" ∧ y_S_startsRun.cls ≠ "java/lang/invoke/VarHandle" ∧ (parseMethodDescriptor y_S_startsRun.desc).map (fun d => d.parameters.length) = some 1 := by decide +kernel
theorem g_S_38 : GoodIn wb (wsV rn_S 38 rn_S y_S_startsRun (Cond.code y_S_startsRun b_S_startsRun 2 (some .boolean) :: wb)) := gw_V kw_155 kw_156 kw_157 kw_3 kw_158
theorem hd_V_has : y_V_has.cls = rn_V ∧ y_V_has.cls ≠ "java/lang/invoke/MethodHandle" ∧ y_V_has.cls ≠ "java/lang/invoke/VarHandle" ∧ (parseMethodDescriptor y_V_has.desc).map (fun d => d.parameters.length) = some 2 := by decide +kernel
theorem g_V_30 : GoodIn wb (wsV rn_V 30 rn_V y_V_has (Cond.code y_V_has b_V_has 3 (some .boolean) :: wb)) := gw_V kw_208 kw_209 kw_210 kw_5 kw_211
theorem hd_V_behindNumber : y_V_behindNumber.cls = rn_V ∧ y_V_behindNumber.cls ≠ "java/lang/invoke/MethodHandle" ∧ y_V_behindNumber.cls ≠ "java/lang/invoke/VarHandle" ∧ (parseMethodDescriptor y_V_behindNumber.desc).map (fun d => d.parameters.length) = some 1 := by decide +kernel
theorem g_V_34 : GoodIn wb (wsV rn_V 34 rn_V y_V_behindNumber (Cond.code y_V_behindNumber b_V_behindNumber 2 (some .int) :: wb)) := gw_V kw_469 kw_471 ks_12 kw_5 kw_472
theorem hd_V_draw : y_V_draw.cls = rn_V ∧ y_V_draw.cls ≠ "java/lang/invoke/MethodHandle" ∧ y_V_draw.cls ≠ "java/lang/invoke/VarHandle" ∧ (parseMethodDescriptor y_V_draw.desc).map (fun d => d.parameters.length) = some 1 := by decide +kernel
theorem g_V_38 : GoodIn wb (wsV rn_V 38 rn_V y_V_draw (Cond.code y_V_draw b_V_draw 4 (some .int) :: wb)) := gw_V kw_473 kw_475 ks_13 kw_5 kw_476
theorem hd_V_put : y_V_put.cls = rn_V ∧ y_V_put.cls ≠ "java/lang/invoke/MethodHandle" ∧ y_V_put.cls ≠ "java/lang/invoke/VarHandle" ∧ (parseMethodDescriptor y_V_put.desc).map (fun d => d.parameters.length) = some 3 := by decide +kernel
theorem g_V_48 : GoodIn wb (wsV rn_V 48 rn_V y_V_put (Cond.code y_V_put b_V_put 4 none :: wb)) := gw_V kw_494 kw_495 kw_496 kw_5 kw_497
theorem g_V_52 : GoodIn wb (wsV rn_V 52 rn_S y_S_size (Cond.code y_S_size b_S_size 1 (some .int) :: wb)) := gw_V kw_477 kw_366 kw_367 kw_3 kw_368
theorem g_V_58 : GoodIn wb (wsV rn_V 58 rn_S y_S_startsRun (Cond.code y_S_startsRun b_S_startsRun 2 (some .boolean) :: wb)) := gw_V kw_478 kw_156 kw_157 kw_3 kw_158
theorem hd_V_placeOfRun : y_V_placeOfRun.cls = rn_V ∧ y_V_placeOfRun.cls ≠ "java/lang/invoke/MethodHandle" ∧ y_V_placeOfRun.cls ≠ "java/lang/invoke/VarHandle" ∧ (parseMethodDescriptor y_V_placeOfRun.desc).map (fun d => d.parameters.length) = some 1 := by decide +kernel
theorem g_V_62 : GoodIn wb (wsV rn_V 62 rn_V y_V_placeOfRun (Cond.code y_V_placeOfRun b_V_placeOfRun 2 (some .int) :: wb)) := gw_V kw_479 kw_481 ks_14 kw_5 kw_482
theorem g_V_65 : GoodIn wb (wsV rn_V 65 rn_S y_S_behindStretch (Cond.code y_S_behindStretch b_S_behindStretch 4 (some .int) :: wb)) := gw_V kw_483 kw_161 kw_162 kw_3 kw_163
theorem hd_V_putDrawn : y_V_putDrawn.cls = rn_V ∧ y_V_putDrawn.cls ≠ "java/lang/invoke/MethodHandle" ∧ y_V_putDrawn.cls ≠ "java/lang/invoke/VarHandle" ∧ (parseMethodDescriptor y_V_putDrawn.desc).map (fun d => d.parameters.length) = some 2 := by decide +kernel
theorem g_V_68 : GoodIn wb (wsV rn_V 68 rn_V y_V_putDrawn (Cond.code y_V_putDrawn b_V_putDrawn 3 none :: wb)) := gw_V kw_484 kw_486 ks_15 kw_5 kw_487
theorem g_V_72 : GoodIn wb (wsV rn_V 72 rn_S y_S_stateOf (Cond.code y_S_stateOf b_S_stateOf 2 (some .int) :: wb)) := gw_V kw_488 kw_136 kw_137 kw_3 kw_138
theorem hd_V_sumBefore : y_V_sumBefore.cls = rn_V ∧ y_V_sumBefore.cls ≠ "java/lang/invoke/MethodHandle" ∧ y_V_sumBefore.cls ≠ "java/lang/invoke/VarHandle" ∧ (parseMethodDescriptor y_V_sumBefore.desc).map (fun d => d.parameters.length) = some 2 := by decide +kernel
theorem g_V_75 : GoodIn wb (wsV rn_V 75 rn_V y_V_sumBefore (Cond.code y_V_sumBefore b_V_sumBefore 5 (some .int) :: wb)) := gw_V kw_489 kw_491 ks_16 kw_5 kw_492
theorem hd_V_isWhole : y_V_isWhole.cls = rn_V ∧ y_V_isWhole.cls ≠ "java/lang/invoke/MethodHandle" ∧ y_V_isWhole.cls ≠ "java/lang/invoke/VarHandle" ∧ (parseMethodDescriptor y_V_isWhole.desc).map (fun d => d.parameters.length) = some 2 := by decide +kernel
theorem g_V_79 : GoodIn wb (wsV rn_V 79 rn_V y_V_isWhole (Cond.code y_V_isWhole b_V_isWhole 5 (some .boolean) :: wb)) := gw_V kw_522 kw_524 ks_17 kw_5 kw_525
theorem g_V_82 : GoodIn wb (wsV rn_V 82 rn_V y_V_byteAt (Cond.code y_V_byteAt b_V_byteAt 3 (some .int) :: wb)) := gw_V kw_526 kw_205 kw_206 kw_5 kw_207
theorem hd_V_hasRuns : y_V_hasRuns.cls = rn_V ∧ y_V_hasRuns.cls ≠ "java/lang/invoke/MethodHandle" ∧ y_V_hasRuns.cls ≠ "java/lang/invoke/VarHandle" ∧ (parseMethodDescriptor y_V_hasRuns.desc).map (fun d => d.parameters.length) = some 3 := by decide +kernel
theorem g_V_85 : GoodIn wb (wsV rn_V 85 rn_V y_V_hasRuns (Cond.code y_V_hasRuns b_V_hasRuns 9 (some .boolean) :: wb)) := gw_V kw_527 kw_529 ks_18 kw_5 kw_530
theorem g_V_89 : GoodIn wb (wsV rn_V 89 rn_S y_S_mark (Cond.code y_S_mark b_S_mark 6 none :: wb)) := gw_V kw_535 kw_406 kw_407 kw_3 kw_408
def p_K_currentPhase (σ : jS) (post : Int32 → jS → Prop) : Prop :=
  post (σ 8 2) σ
def p_K_goesOn (σ : jS) (post : Int32 → jS → Prop) : Prop :=
  ((σ 8 2) < 0 → bz 0 ∧ post 0 σ) ∧ (¬ (σ 8 2) < 0 → ((6 : Int32) < (σ 8 2) → bz 0 ∧ post 0 σ) ∧ (¬ (6 : Int32) < (σ 8 2) → bz 1 ∧ post 1 σ))
def p_K_forget (σ : jS) (post : jS → Prop) : Prop :=
  post (up2 σ 8 2 (-1))
def p_K_halt (σ : jS) (post : jS → Prop) : Prop :=
  post (up2 σ 8 2 7)
def p_S_size (σ : jS) (post : Int32 → jS → Prop) : Prop :=
  post (σ 6 1) σ
def p_K_enter (σ : jS) (v1 : Int32) (post : jS → Prop) : Prop :=
  (¬ v1 = (1 : Int32) → bz 0 ∧ post (up2 (up2 (up2 (up2 (up2 σ 8 2 v1) 8 4 8) 8 3 0) 8 5 0) 8 7 0)) ∧ (v1 = (1 : Int32) → p_S_size (up2 (up2 σ 8 2 v1) 8 4 8) (fun r2 σ1 => bz 0 ∧ post (up2 (up2 (up2 σ1 8 3 r2) 8 5 0) 8 7 0)))
def p_K_start (σ : jS) (v1 : Int32) (post : jS → Prop) : Prop :=
  p_K_enter (up2 σ 8 6 v1) 0 (fun σ1 => post σ1)
def p_S_firstFrom_6 (post : Int32 → jS → Prop) (v1 : Int32) (v2 : Int32) : Nat → jS → Int32 → Prop
  | 0, _, _ => False
  | n + 1, σ, v3 =>
    ((σ 6 1) ≤ v3 → post (-1) σ) ∧ (¬ (σ 6 1) ≤ v3 → vp_in v3 64 ∧ (¬ (σ 7 v3.toNatClampNeg) = v1 → p_S_firstFrom_6 post v1 v2 n σ (v3 + 1)) ∧ ((σ 7 v3.toNatClampNeg) = v1 → post v3 σ))
def p_S_firstFrom (σ : jS) (v1 : Int32) (v2 : Int32) (post : Int32 → jS → Prop) : Prop :=
  ∃ n9, p_S_firstFrom_6 post v1 v2 n9 σ (if 0 < v2 then v2 else 0)
def p_S_stateOf (σ : jS) (v1 : Int32) (post : Int32 → jS → Prop) : Prop :=
  (v1 < 0 → post (-1) σ) ∧ (¬ v1 < 0 → ((σ 6 1) ≤ v1 → post (-1) σ) ∧ (¬ (σ 6 1) ≤ v1 → vp_in v1 64 ∧ post (σ 7 v1.toNatClampNeg) σ))
def p_S_behindStretch_4 (post : Int32 → jS → Prop) (v1 : Int32) (v2 : Int32) : Nat → jS → Int32 → Prop
  | 0, _, _ => False
  | n + 1, σ, v3 =>
    ((σ 6 1) ≤ v3 → post v3 σ) ∧ (¬ (σ 6 1) ≤ v3 → (v2 ≤ (v3 - v1) → post v3 σ) ∧ (¬ v2 ≤ (v3 - v1) → p_S_stateOf σ v3 (fun r2 σ1 => p_S_stateOf σ1 v1 (fun r4 σ3 => (¬ r2 = r4 → post v3 σ3) ∧ (r2 = r4 → p_S_behindStretch_4 post v1 v2 n σ3 (v3 + 1))))))
def p_S_behindStretch (σ : jS) (v1 : Int32) (v2 : Int32) (post : Int32 → jS → Prop) : Prop :=
  ∃ n9, p_S_behindStretch_4 post v1 v2 n9 σ (v1 + 1)
def p_D_readStretch_31 (post : Int32 → jS → Prop) (v1 : Int32) (v2 : Int32) : Nat → jS → Int32 → Prop
  | 0, _, _ => False
  | n + 1, σ, v3 =>
    (v2 ≤ v3 → (¬ v1 < 0 ∧ ¬ v1 < 0 ∧ ¬ (v2 - v1) < 0 ∧ v1.toNatClampNeg + (v2 - v1).toNatClampNeg ≤ 64 ∧ v1.toNatClampNeg + (v2 - v1).toNatClampNeg ≤ 64) ∧ bz 1 ∧ post 1 (upC σ 5 2 v1.toNatClampNeg v1.toNatClampNeg (v2 - v1).toNatClampNeg)) ∧ (¬ v2 ≤ v3 → vp_in v3 64 ∧ vp_in v3 64 ∧ vp_in v3 64 ∧ (((up2 σ 4 v3.toNatClampNeg ((σ 4 v3.toNatClampNeg) + 1)) 3 v3.toNatClampNeg) = 0 → p_D_readStretch_31 post v1 v2 n (up2 σ 4 v3.toNatClampNeg ((σ 4 v3.toNatClampNeg) + 1)) (v3 + 1)) ∧ (¬ ((up2 σ 4 v3.toNatClampNeg ((σ 4 v3.toNatClampNeg) + 1)) 3 v3.toNatClampNeg) = 0 → vp_in v3 64 ∧ (((up2 σ 4 v3.toNatClampNeg ((σ 4 v3.toNatClampNeg) + 1)) 3 v3.toNatClampNeg) = ((-1) : Int32) → bz 0 ∧ post 0 (up2 (up2 σ 4 v3.toNatClampNeg ((σ 4 v3.toNatClampNeg) + 1)) 1 6 (((up2 σ 4 v3.toNatClampNeg ((σ 4 v3.toNatClampNeg) + 1)) 1 6) + 1))) ∧ (¬ ((up2 σ 4 v3.toNatClampNeg ((σ 4 v3.toNatClampNeg) + 1)) 3 v3.toNatClampNeg) = ((-1) : Int32) → vp_in v3 64 ∧ vp_in v3 64 ∧ bz 0 ∧ post 0 (up2 (up2 (up2 σ 4 v3.toNatClampNeg ((σ 4 v3.toNatClampNeg) + 1)) 3 v3.toNatClampNeg (((up2 σ 4 v3.toNatClampNeg ((σ 4 v3.toNatClampNeg) + 1)) 3 v3.toNatClampNeg) - 1)) 1 6 (((up2 (up2 σ 4 v3.toNatClampNeg ((σ 4 v3.toNatClampNeg) + 1)) 3 v3.toNatClampNeg (((up2 σ 4 v3.toNatClampNeg ((σ 4 v3.toNatClampNeg) + 1)) 3 v3.toNatClampNeg) - 1)) 1 6) + 1)))))
def p_D_readStretch (σ : jS) (v1 : Int32) (v2 : Int32) (post : Int32 → jS → Prop) : Prop :=
  (v1 < 0 → bz 0 ∧ post 0 σ) ∧ (¬ v1 < 0 → (v2 ≤ v1 → bz 0 ∧ post 0 σ) ∧ (¬ v2 ≤ v1 → (v2 ≤ (σ 1 4) → ∃ n9, p_D_readStretch_31 post v1 v2 n9 (up2 σ 1 5 ((σ 1 5) + 1)) v1) ∧ (¬ v2 ≤ (σ 1 4) → bz 0 ∧ post 0 σ)))
def p_S_mark_17 (post : jS → Prop) (v1 : Int32) (v2 : Int32) (v3 : Int32) : Nat → jS → Int32 → Int32 → Prop
  | 0, _, _, _ => False
  | n + 1, σ, v4, v5 =>
    (v4 ≤ v5 → post σ) ∧ (¬ v4 ≤ v5 → vp_in v5 64 ∧ p_S_mark_17 post v1 v2 v3 n (up2 σ 7 v5.toNatClampNeg v3) v4 (v5 + 1))
def p_S_mark (σ : jS) (v1 : Int32) (v2 : Int32) (v3 : Int32) (post : jS → Prop) : Prop :=
  ∃ n9, p_S_mark_17 post v1 v2 v3 n9 σ (if σ 6 1 < v2 then σ 6 1 else v2) (if 0 < v1 then v1 else 0)
def p_K_rescue_27 (post : Int32 → jS → Prop) (v1 : Int32) (v2 : Int32) (v3 : Int32) (σ : jS) (v4 : Int32) (y0 : Int32) (y1 : Int32) (y2 : Int32) : Prop :=
  p_S_mark σ y2 y1 y0 (fun σ3 => bz v4 ∧ post v4 σ3)
def p_K_rescue (σ : jS) (v1 : Int32) (v2 : Int32) (v3 : Int32) (post : Int32 → jS → Prop) : Prop :=
  p_D_readStretch σ v1 v2 (fun r2 σ1 => (r2 = 0 → p_K_rescue_27 post v1 v2 v3 σ1 r2 v3 v2 v1) ∧ (¬ r2 = 0 → p_K_rescue_27 post v1 v2 v3 σ1 r2 4 v2 v1))
def p_K_takeLeap_12 (post : Int32 → jS → Prop) (v1 : Int32) (σ : jS) (y0 : Int32) : Prop :=
  (v1 = 0 → post y0 (up2 σ 8 4 (if 32 < 2 * (σ 8 4) then 32 else 2 * (σ 8 4)))) ∧ (¬ v1 = 0 → post y0 (up2 σ 8 4 8))
def p_K_takeLeap (σ : jS) (v1 : Int32) (post : Int32 → jS → Prop) : Prop :=
  (v1 = 0 → p_K_takeLeap_12 post v1 σ (σ 8 4)) ∧ (¬ v1 = 0 → p_K_takeLeap_12 post v1 σ 0)
def p_K_readForward (σ : jS) (v1 : Int32) (post : Int32 → jS → Prop) : Prop :=
  p_S_firstFrom σ 0 (σ 8 3) (fun r2 σ1 => (¬ r2 = ((-1) : Int32) → p_S_behindStretch σ1 r2 8 (fun r4 σ3 => p_K_rescue σ3 r2 r4 1 (fun r6 σ5 => (v1 = 0 → bz 1 ∧ post 1 (up2 σ5 8 3 (r4 + 0))) ∧ (¬ v1 = 0 → p_K_takeLeap σ5 r6 (fun r8 σ7 => bz 1 ∧ post 1 (up2 σ7 8 3 (r4 + r8))))))) ∧ (r2 = ((-1) : Int32) → bz 0 ∧ post 0 σ1))
def p_S_lastBelow_11 (post : Int32 → jS → Prop) (v1 : Int32) (v2 : Int32) : Nat → jS → Int32 → Prop
  | 0, _, _ => False
  | n + 1, σ, v3 =>
    (v3 < 0 → post (-1) σ) ∧ (¬ v3 < 0 → vp_in v3 64 ∧ (¬ (σ 7 v3.toNatClampNeg) = v1 → p_S_lastBelow_11 post v1 v2 n σ (v3 + (-1))) ∧ ((σ 7 v3.toNatClampNeg) = v1 → post v3 σ))
def p_S_lastBelow (σ : jS) (v1 : Int32) (v2 : Int32) (post : Int32 → jS → Prop) : Prop :=
  ∃ n9, p_S_lastBelow_11 post v1 v2 n9 σ ((if σ 6 1 < v2 then σ 6 1 else v2) - 1)
def p_S_firstOfStretch_2 (post : Int32 → jS → Prop) (v1 : Int32) (v2 : Int32) : Nat → jS → Int32 → Prop
  | 0, _, _ => False
  | n + 1, σ, v3 =>
    (v3 ≤ 0 → post v3 σ) ∧ (¬ v3 ≤ 0 → (v2 ≤ ((v1 - v3) + 1) → post v3 σ) ∧ (¬ v2 ≤ ((v1 - v3) + 1) → p_S_stateOf σ (v3 - 1) (fun r2 σ1 => p_S_stateOf σ1 v1 (fun r4 σ3 => (¬ r2 = r4 → post v3 σ3) ∧ (r2 = r4 → p_S_firstOfStretch_2 post v1 v2 n σ3 (v3 + (-1)))))))
def p_S_firstOfStretch (σ : jS) (v1 : Int32) (v2 : Int32) (post : Int32 → jS → Prop) : Prop :=
  ∃ n9, p_S_firstOfStretch_2 post v1 v2 n9 σ v1
def p_K_readBackward (σ : jS) (post : Int32 → jS → Prop) : Prop :=
  p_S_lastBelow σ 0 (σ 8 3) (fun r2 σ1 => (¬ r2 = ((-1) : Int32) → p_S_firstOfStretch σ1 r2 8 (fun r4 σ3 => p_K_rescue σ3 r4 (r2 + 1) 1 (fun r6 σ5 => p_K_takeLeap σ5 r6 (fun r8 σ7 => bz 1 ∧ post 1 (up2 σ7 8 3 (r4 - r8)))))) ∧ (r2 = ((-1) : Int32) → bz 0 ∧ post 0 σ1))
def p_K_trim_76 (post : Int32 → jS → Prop) (σ : jS) (v1 : Int32) (v2 : Int32) (v4 : Int32) : Prop :=
  (¬ v1 = v2 → (¬ v4 = 0 → bz 1 ∧ post 1 σ) ∧ (v4 = 0 → (¬ (σ 8 7) = 0 → bz 0 ∧ bz 1 ∧ post 1 (up2 σ 8 7 0)) ∧ ((σ 8 7) = 0 → bz 1 ∧ bz 1 ∧ post 1 (up2 σ 8 7 1)))) ∧ (v1 = v2 → bz 0 ∧ bz 1 ∧ post 1 (up2 σ 8 7 0))
def p_K_trim_42 (post : Int32 → jS → Prop) (σ : jS) (v1 : Int32) (v2 : Int32) (y0 : Int32) : Prop :=
  p_K_rescue σ y0 (y0 + 1) 3 (fun r6 σ5 => (¬ r6 = 0 → p_K_trim_76 post σ5 v1 v2 r6) ∧ (r6 = 0 → ((σ5 8 7) = 0 → p_K_trim_76 post σ5 v1 v2 r6) ∧ (¬ (σ5 8 7) = 0 → p_S_mark σ5 v1 v2 2 (fun σ7 => p_K_trim_76 post σ7 v1 v2 r6))))
def p_K_trim (σ : jS) (post : Int32 → jS → Prop) : Prop :=
  p_S_firstFrom σ 1 0 (fun r2 σ1 => (¬ r2 = ((-1) : Int32) → p_S_behindStretch σ1 r2 64 (fun r4 σ3 => ((σ3 8 7) = 0 → p_K_trim_42 post σ3 r2 (r4 - 1) r2) ∧ (¬ (σ3 8 7) = 0 → p_K_trim_42 post σ3 r2 (r4 - 1) (r4 - 1)))) ∧ (r2 = ((-1) : Int32) → bz 0 ∧ post 0 σ1))
def p_K_scrape (σ : jS) (post : Int32 → jS → Prop) : Prop :=
  p_S_firstFrom σ 2 0 (fun r2 σ1 => (¬ r2 = ((-1) : Int32) → p_K_rescue σ1 r2 (r2 + 1) 3 (fun r4 σ3 => bz 1 ∧ post 1 σ3)) ∧ (r2 = ((-1) : Int32) → bz 0 ∧ post 0 σ1))
def p_K_goesUp (σ : jS) (v1 : Int32) (post : Int32 → jS → Prop) : Prop :=
  (¬ (v1 - v1 / 2 * 2) = 0 → bz 0 ∧ post 0 σ) ∧ ((v1 - v1 / 2 * 2) = 0 → bz 1 ∧ post 1 σ)
def p_K_enterRound (σ : jS) (v1 : Int32) (post : jS → Prop) : Prop :=
  p_K_goesUp (up2 σ 8 5 v1) v1 (fun r2 σ1 => (r2 = 0 → p_S_size σ1 (fun r4 σ3 => post (up2 σ3 8 3 r4))) ∧ (¬ r2 = 0 → post (up2 σ1 8 3 0)))
def p_K_nextBad_48 (post : Int32 → jS → Prop) (k5 : jS → Int32 → Prop) (σ : jS) (v1 : Int32) (y0 : Int32) : Prop :=
  (y0 = ((-1) : Int32) → p_K_enterRound σ (v1 + 1) (fun σ5 => k5 σ5 (v1 + 1))) ∧ (¬ y0 = ((-1) : Int32) → post y0 σ)
def p_K_nextBad_5 (post : Int32 → jS → Prop) : Nat → jS → Int32 → Prop
  | 0, _, _ => False
  | n + 1, σ, v1 =>
    ((σ 8 6) ≤ v1 → post (-1) σ) ∧ (¬ (σ 8 6) ≤ v1 → p_K_goesUp σ v1 (fun r2 σ1 => (r2 = 0 → p_S_lastBelow σ1 3 (σ1 8 3) (fun r4 σ3 => p_K_nextBad_48 post (p_K_nextBad_5 post n) σ3 v1 r4)) ∧ (¬ r2 = 0 → p_S_firstFrom σ1 3 (σ1 8 3) (fun r7 σ6 => p_K_nextBad_48 post (p_K_nextBad_5 post n) σ6 v1 r7))))
def p_K_nextBad (σ : jS) (post : Int32 → jS → Prop) : Prop :=
  ∃ n9, p_K_nextBad_5 post n9 σ (σ 8 5)
def p_K_retry (σ : jS) (post : Int32 → jS → Prop) : Prop :=
  p_K_nextBad σ (fun r2 σ1 => (¬ r2 = ((-1) : Int32) → p_K_rescue σ1 r2 (r2 + 1) 3 (fun r4 σ3 => p_K_goesUp σ3 (σ3 8 5) (fun r6 σ5 => (r6 = 0 → bz 1 ∧ post 1 (up2 σ5 8 3 r2)) ∧ (¬ r6 = 0 → bz 1 ∧ post 1 (up2 σ5 8 3 (r2 + 1)))))) ∧ (r2 = ((-1) : Int32) → bz 0 ∧ post 0 σ1))
def p_K_readIn (σ : jS) (v1 : Int32) (post : Int32 → jS → Prop) : Prop :=
  (v1 = 0 → p_K_readForward σ 1 (fun r2 σ1 => bz r2 ∧ post r2 σ1)) ∧ (v1 = 1 → p_K_readBackward σ (fun r4 σ3 => bz r4 ∧ post r4 σ3)) ∧ (v1 = 2 → p_K_readForward σ 0 (fun r6 σ5 => bz r6 ∧ post r6 σ5)) ∧ (v1 = 3 → p_K_trim σ (fun r8 σ7 => bz r8 ∧ post r8 σ7)) ∧ (v1 = 4 → p_K_scrape σ (fun r10 σ9 => bz r10 ∧ post r10 σ9)) ∧ (v1 = 5 → p_K_retry σ (fun r12 σ11 => bz r12 ∧ post r12 σ11)) ∧ ((v1 < 0 ∨ 6 ≤ v1) → bz 0 ∧ post 0 σ)
def p_K_makeStep_5 (post : Int32 → jS → Prop) : Nat → jS → Int32 → Prop
  | 0, _, _ => False
  | n + 1, σ, v1 =>
    ((6 : Int32) ≤ v1 → post 6 σ) ∧ (¬ (6 : Int32) ≤ v1 → p_K_readIn σ v1 (fun r2 σ1 => (r2 = 0 → p_K_enter σ1 (v1 + 1) (fun σ3 => p_K_makeStep_5 post n σ3 (v1 + 1))) ∧ (¬ r2 = 0 → post v1 σ1)))
def p_K_makeStep (σ : jS) (post : Int32 → jS → Prop) : Prop :=
  ∃ n9, p_K_makeStep_5 post n9 σ (σ 8 2)
def p_D_lay (σ : jS) (v1 : Int32) (post : jS → Prop) : Prop :=
  post (upA (upA (upA (upA (up2 (up2 (up2 σ 1 4 v1) 1 5 0) 1 6 0) 2 64 0) 3 64 0) 4 64 0) 5 64 0)
def p_D_size (σ : jS) (post : Int32 → jS → Prop) : Prop :=
  post (σ 1 4) σ
def p_D_has (σ : jS) (v1 : Int32) (post : Int32 → jS → Prop) : Prop :=
  (v1 < 0 → bz 0 ∧ post 0 σ) ∧ (¬ v1 < 0 → ((σ 1 4) ≤ v1 → bz 0 ∧ post 0 σ) ∧ (¬ (σ 1 4) ≤ v1 → bz 1 ∧ post 1 σ))
def p_D_put (σ : jS) (v1 : Int32) (v2 : Int32) (v3 : Int32) (post : jS → Prop) : Prop :=
  p_D_has σ v1 (fun r2 σ1 => (r2 = 0 → post σ1) ∧ (¬ r2 = 0 → vp_in v1 64 ∧ vp_in v1 64 ∧ post (up2 (up2 σ1 2 v1.toNatClampNeg v2) 3 v1.toNatClampNeg v3)))
def p_D_deliver (σ : jS) (v1 : Int32) (v2 : Int32) (post : jS → Prop) : Prop :=
  p_D_has σ v1 (fun r2 σ1 => (r2 = 0 → post σ1) ∧ (¬ r2 = 0 → vp_in v1 64 ∧ post (up2 σ1 5 v1.toNatClampNeg v2)))
def p_D_wordOut (σ : jS) (v1 : Int32) (post : Int32 → jS → Prop) : Prop :=
  p_D_has σ v1 (fun r2 σ1 => (r2 = 0 → post 0 σ1) ∧ (¬ r2 = 0 → vp_in v1 64 ∧ post (σ1 5 v1.toNatClampNeg) σ1))
def p_D_readsOf (σ : jS) (v1 : Int32) (post : Int32 → jS → Prop) : Prop :=
  p_D_has σ v1 (fun r2 σ1 => (r2 = 0 → post 0 σ1) ∧ (¬ r2 = 0 → vp_in v1 64 ∧ post (σ1 4 v1.toNatClampNeg) σ1))
def p_D_stretchesRead (σ : jS) (v1 : Int32) (post : Int32 → jS → Prop) : Prop :=
  (v1 = 0 → post (σ 1 5) σ) ∧ (¬ v1 = 0 → post (σ 1 6) σ)
def p_V_wipe_7 (post : jS → Prop) : Nat → jS → Int32 → Prop
  | 0, _, _ => False
  | n + 1, σ, v1 =>
    ((2 : Int32) ≤ v1 → post σ) ∧ (¬ (2 : Int32) ≤ v1 → vp_in v1 2 ∧ (v1 = 0 → p_V_wipe_7 post n (upA σ 11 140 0) (v1 + 1)) ∧ (¬ v1 = 0 → p_V_wipe_7 post n (upA σ 12 140 0) (v1 + 1)))
def p_V_wipe (σ : jS) (post : jS → Prop) : Prop :=
  ∃ n9, p_V_wipe_7 post n9 (up2 σ 9 2 0) 0
def p_V_has (σ : jS) (v1 : Int32) (v2 : Int32) (post : Int32 → jS → Prop) : Prop :=
  (v1 < 0 → bz 0 ∧ post 0 σ) ∧ (¬ v1 < 0 → ((2 : Int32) ≤ v1 → bz 0 ∧ post 0 σ) ∧ (¬ (2 : Int32) ≤ v1 → (v2 < 0 → bz 0 ∧ post 0 σ) ∧ (¬ v2 < 0 → ((140 : Int32) ≤ v2 → bz 0 ∧ post 0 σ) ∧ (¬ (140 : Int32) ≤ v2 → bz 1 ∧ post 1 σ))))
def p_V_byteAt (σ : jS) (v1 : Int32) (v2 : Int32) (post : Int32 → jS → Prop) : Prop :=
  p_V_has σ v1 v2 (fun r2 σ1 => (r2 = 0 → post (-1) σ1) ∧ (¬ r2 = 0 → vp_in v1 2 ∧ (v1 = 0 → vp_in v2 140 ∧ post (σ1 11 v2.toNatClampNeg) σ1) ∧ (¬ v1 = 0 → vp_in v2 140 ∧ post (σ1 12 v2.toNatClampNeg) σ1)))
def p_V_put (σ : jS) (v1 : Int32) (v2 : Int32) (v3 : Int32) (post : jS → Prop) : Prop :=
  p_V_has σ v1 v2 (fun r2 σ1 => (r2 = 0 → post σ1) ∧ (¬ r2 = 0 → vp_in v1 2 ∧ (v1 = 0 → vp_in v2 140 ∧ post (up2 σ1 11 v2.toNatClampNeg v3)) ∧ (¬ v1 = 0 → vp_in v2 140 ∧ post (up2 σ1 12 v2.toNatClampNeg v3))))
def p_V_behindNumber (σ : jS) (v1 : Int32) (post : Int32 → jS → Prop) : Prop :=
  post ((v1 + 1) - (v1 + 1) / 200 * 200) σ
def p_S_startsRun (σ : jS) (v1 : Int32) (post : Int32 → jS → Prop) : Prop :=
  (v1 = 0 → bz 1 ∧ post 1 σ) ∧ (¬ v1 = 0 → p_S_stateOf σ v1 (fun r2 σ1 => p_S_stateOf σ1 (v1 - 1) (fun r4 σ3 => (r2 = r4 → bz 0 ∧ post 0 σ3) ∧ (¬ r2 = r4 → bz 1 ∧ post 1 σ3))))
def p_V_placeOfRun (σ : jS) (v1 : Int32) (post : Int32 → jS → Prop) : Prop :=
  post (2 + (2 * v1)) σ
def p_V_putDrawn (σ : jS) (v1 : Int32) (v2 : Int32) (post : jS → Prop) : Prop :=
  (v1 < 0 → post σ) ∧ (¬ v1 < 0 → ((140 : Int32) ≤ v1 → post σ) ∧ (¬ (140 : Int32) ≤ v1 → vp_in v1 140 ∧ post (up2 σ 13 v1.toNatClampNeg v2)))
def p_V_sumBefore_5 (post : Int32 → jS → Prop) (fa : Nat → Int32) (v2 : Int32) : Nat → jS → Int32 → Int32 → Prop
  | 0, _, _, _ => False
  | n + 1, σ, v3, v4 =>
    (v2 ≤ v4 → post (v3 - v3 / 251 * 251) σ) ∧ (¬ v2 ≤ v4 → ((140 : Int32) ≤ v4 → post (v3 - v3 / 251 * 251) σ) ∧ (¬ (140 : Int32) ≤ v4 → vp_in v4 140 ∧ p_V_sumBefore_5 post fa v2 n σ (v3 + ((fa v4.toNatClampNeg) * (v4 + 1))) (v4 + 1)))
def p_V_sumBefore (fa : Nat → Int32) (σ : jS) (v2 : Int32) (post : Int32 → jS → Prop) : Prop :=
  ∃ n9, p_V_sumBefore_5 post fa v2 n9 σ 0 0
def p_V_draw_57 (post : Int32 → jS → Prop) (k4 : jS → Int32 → Int32 → Prop) (σ : jS) (v2 : Int32) (v3 : Int32) : Prop :=
  k4 σ v2 (v3 + 1)
def p_V_draw_4 (post : Int32 → jS → Prop) : Nat → jS → Int32 → Int32 → Prop
  | 0, _, _, _ => False
  | n + 1, σ, v2, v3 =>
    p_S_size σ (fun r2 σ1 => (r2 ≤ v3 → p_V_putDrawn σ1 0 (σ1 9 2) (fun σ3 => p_V_putDrawn σ3 1 v2 (fun σ4 => p_V_placeOfRun σ4 v2 (fun r6 σ5 => p_V_sumBefore (σ5 13) σ5 r6 (fun r8 σ7 => p_V_putDrawn σ7 r6 r8 (fun σ9 => post (r6 + 1) σ9)))))) ∧ (¬ r2 ≤ v3 → p_S_startsRun σ1 v3 (fun r11 σ10 => (r11 = 0 → p_V_draw_57 post (p_V_draw_4 post n) σ10 v2 v3) ∧ (¬ r11 = 0 → p_V_placeOfRun σ10 v2 (fun r13 σ12 => p_S_behindStretch σ12 v3 64 (fun r15 σ14 => p_V_putDrawn σ14 r13 (r15 - v3) (fun σ16 => p_V_placeOfRun σ16 v2 (fun r18 σ17 => p_S_stateOf σ17 v3 (fun r20 σ19 => p_V_putDrawn σ19 (r18 + 1) r20 (fun σ21 => p_V_draw_57 post (p_V_draw_4 post n) σ21 (v2 + 1) v3))))))))))
def p_V_draw (σ : jS) (post : Int32 → jS → Prop) : Prop :=
  ∃ n9, p_V_draw_4 post n9 σ 0 0
def p_V_write_25 (post : Int32 → jS → Prop) (v2 : Int32) : Nat → jS → Int32 → Int32 → Prop
  | 0, _, _, _ => False
  | n + 1, σ, v3, v4 =>
    (v3 ≤ v4 → post (σ 9 2) σ) ∧ (¬ v3 ≤ v4 → ((140 : Int32) ≤ v4 → post (σ 9 2) σ) ∧ (¬ (140 : Int32) ≤ v4 → vp_in v4 140 ∧ p_V_put σ ((σ 9 2) - (σ 9 2) / 2 * 2) v4 (σ 13 v4.toNatClampNeg) (fun σ5 => p_V_write_25 post v2 n σ5 v3 (v4 + 1))))
def p_V_write (σ : jS) (v2 : Int32) (post : Int32 → jS → Prop) : Prop :=
  p_V_behindNumber σ (σ 9 2) (fun r2 σ1 => p_V_draw (up2 σ1 9 2 r2) (fun r4 σ3 => ∃ n9, p_V_write_25 post v2 n9 σ3 (if r4 < v2 then r4 else v2) 0))
def p_V_hasRuns_9 (post : Int32 → jS → Prop) (v1 : Int32) (v2 : Int32) (v3 : Int32) : Nat → jS → Int32 → Int32 → Int32 → Prop
  | 0, _, _, _, _ => False
  | n + 1, σ, v4, v5, v6 =>
    (v2 ≤ v6 → (¬ v4 = v3 → bz 0 ∧ post 0 σ) ∧ (v4 = v3 → bz 1 ∧ post 1 σ)) ∧ (¬ v2 ≤ v6 → p_V_placeOfRun σ v6 (fun r2 σ1 => p_V_byteAt σ1 v1 r2 (fun r4 σ3 => p_V_placeOfRun σ3 v6 (fun r6 σ5 => p_V_byteAt σ5 v1 (r6 + 1) (fun r8 σ7 => (r4 = 0 → bz 0 ∧ post 0 σ7) ∧ (¬ r4 = 0 → ((4 : Int32) < r8 → bz 0 ∧ post 0 σ7) ∧ (¬ (4 : Int32) < r8 → (¬ r8 = v5 → p_V_hasRuns_9 post v1 v2 v3 n σ7 (v4 + r4) r8 (v6 + 1)) ∧ (r8 = v5 → bz 0 ∧ post 0 σ7))))))))
def p_V_hasRuns (σ : jS) (v1 : Int32) (v2 : Int32) (v3 : Int32) (post : Int32 → jS → Prop) : Prop :=
  ∃ n9, p_V_hasRuns_9 post v1 v2 v3 n9 σ 0 (-1) 0
def p_V_isWhole (σ : jS) (v1 : Int32) (v2 : Int32) (post : Int32 → jS → Prop) : Prop :=
  p_V_byteAt σ v1 1 (fun r2 σ1 => p_V_has σ1 v1 1 (fun r4 σ3 => (r4 = 0 → bz 0 ∧ post 0 σ3) ∧ (¬ r4 = 0 → p_V_byteAt σ3 v1 0 (fun r6 σ5 => ((200 : Int32) ≤ r6 → bz 0 ∧ post 0 σ5) ∧ (¬ (200 : Int32) ≤ r6 → (r2 ≤ v2 → p_V_placeOfRun σ5 r2 (fun r8 σ7 => p_V_hasRuns σ7 v1 r2 v2 (fun r10 σ9 => (r10 = 0 → bz 0 ∧ post 0 σ9) ∧ (¬ r10 = 0 → p_V_byteAt σ9 v1 r8 (fun r12 σ11 => vp_in v1 2 ∧ (v1 = 0 → p_V_sumBefore (σ11 11) σ11 r8 (fun r14 σ13 => (¬ r12 = r14 → bz 0 ∧ post 0 σ13) ∧ (r12 = r14 → bz 1 ∧ post 1 σ13))) ∧ (¬ v1 = 0 → p_V_sumBefore (σ11 12) σ11 r8 (fun r16 σ15 => (¬ r12 = r16 → bz 0 ∧ post 0 σ15) ∧ (r12 = r16 → bz 1 ∧ post 1 σ15)))))))) ∧ (¬ r2 ≤ v2 → bz 0 ∧ post 0 σ5))))))
def p_V_newestWhole_47 (post : Int32 → jS → Prop) (v1 : Int32) (σ : jS) (v2 : Int32) (v3 : Int32) : Prop :=
  (v2 = 0 → (v3 = 0 → post (-1) σ) ∧ (¬ v3 = 0 → post 1 σ)) ∧ (¬ v2 = 0 → post 0 σ)
def p_V_newestWhole (σ : jS) (v1 : Int32) (post : Int32 → jS → Prop) : Prop :=
  p_V_isWhole σ 0 v1 (fun r2 σ1 => p_V_isWhole σ1 1 v1 (fun r4 σ3 => (r2 = 0 → p_V_newestWhole_47 post v1 σ3 r2 r4) ∧ (¬ r2 = 0 → (r4 = 0 → p_V_newestWhole_47 post v1 σ3 r2 r4) ∧ (¬ r4 = 0 → p_V_byteAt σ3 1 0 (fun r6 σ5 => p_V_byteAt σ5 0 0 (fun r8 σ7 => p_V_behindNumber σ7 r8 (fun r10 σ9 => (¬ r6 = r10 → post 0 σ9) ∧ (r6 = r10 → post 1 σ9))))))))
def p_V_load_34 (post : jS → Prop) (v1 : Int32) : Nat → jS → Int32 → Int32 → Int32 → Prop
  | 0, _, _, _, _ => False
  | n + 1, σ, v3, v4, v5 =>
    (v3 ≤ v5 → post σ) ∧ (¬ v3 ≤ v5 → p_V_placeOfRun σ v5 (fun r6 σ5 => p_V_byteAt σ5 v1 r6 (fun r8 σ7 => p_V_placeOfRun σ7 v5 (fun r10 σ9 => p_V_byteAt σ9 v1 (r10 + 1) (fun r12 σ11 => p_S_mark σ11 v4 (v4 + r8) r12 (fun σ13 => p_V_load_34 post v1 n σ13 v3 (v4 + r8) (v5 + 1)))))))
def p_V_load (σ : jS) (v1 : Int32) (post : jS → Prop) : Prop :=
  (¬ v1 = ((-1) : Int32) → p_V_byteAt σ v1 0 (fun r2 σ1 => p_V_byteAt (up2 σ1 9 2 r2) v1 1 (fun r4 σ3 => ∃ n9, p_V_load_34 post v1 n9 σ3 r4 0 0))) ∧ (v1 = ((-1) : Int32) → post (up2 σ 9 2 0))
def p_S_clear (σ : jS) (v1 : Int32) (post : jS → Prop) : Prop :=
  post (upA (up2 σ 6 1 (if 0 < (if 64 < v1 then 64 else v1) then (if 64 < v1 then 64 else v1) else 0)) 7 64 0)
def p_S_countOf_25 (post : Int32 → jS → Prop) (k4 : jS → Int32 → Int32 → Prop) (v1 : Int32) (σ : jS) (v2 : Int32) (v3 : Int32) : Prop :=
  k4 σ v2 (v3 + 1)
def p_S_countOf_4 (post : Int32 → jS → Prop) (v1 : Int32) : Nat → jS → Int32 → Int32 → Prop
  | 0, _, _, _ => False
  | n + 1, σ, v2, v3 =>
    ((σ 6 1) ≤ v3 → post v2 σ) ∧ (¬ (σ 6 1) ≤ v3 → vp_in v3 64 ∧ (¬ (σ 7 v3.toNatClampNeg) = v1 → p_S_countOf_25 post (p_S_countOf_4 post v1 n) v1 σ v2 v3) ∧ ((σ 7 v3.toNatClampNeg) = v1 → p_S_countOf_25 post (p_S_countOf_4 post v1 n) v1 σ (v2 + 1) v3))
def p_S_countOf (σ : jS) (v1 : Int32) (post : Int32 → jS → Prop) : Prop :=
  ∃ n9, p_S_countOf_4 post v1 n9 σ 0 0
def p_S_firstOfRun_30 (post : Int32 → jS → Prop) (k4 : jS → Int32 → Int32 → Prop) (v1 : Int32) (σ : jS) (v2 : Int32) (v3 : Int32) : Prop :=
  k4 σ v2 (v3 + 1)
def p_S_firstOfRun_4 (post : Int32 → jS → Prop) (v1 : Int32) : Nat → jS → Int32 → Int32 → Prop
  | 0, _, _, _ => False
  | n + 1, σ, v2, v3 =>
    ((σ 6 1) ≤ v3 → post (-1) σ) ∧ (¬ (σ 6 1) ≤ v3 → p_S_startsRun σ v3 (fun r2 σ1 => (r2 = 0 → p_S_firstOfRun_30 post (p_S_firstOfRun_4 post v1 n) v1 σ1 v2 v3) ∧ (¬ r2 = 0 → (¬ v2 = v1 → p_S_firstOfRun_30 post (p_S_firstOfRun_4 post v1 n) v1 σ1 (v2 + 1) v3) ∧ (v2 = v1 → post v3 σ1))))
def p_S_firstOfRun (σ : jS) (v1 : Int32) (post : Int32 → jS → Prop) : Prop :=
  ∃ n9, p_S_firstOfRun_4 post v1 n9 σ 0 0
def p_R_state (σ : jS) (v1 : Int32) (post : Int32 → jS → Prop) : Prop :=
  p_K_goesOn σ (fun r2 σ1 => (r2 = 0 → post (-1) σ1) ∧ (¬ r2 = 0 → p_S_stateOf σ1 v1 (fun r4 σ3 => post r4 σ3)))
def p_R_count (σ : jS) (v1 : Int32) (post : Int32 → jS → Prop) : Prop :=
  p_K_goesOn σ (fun r2 σ1 => (r2 = 0 → post 0 σ1) ∧ (¬ r2 = 0 → p_S_countOf σ1 v1 (fun r4 σ3 => post r4 σ3)))
def p_R_part_22 (post : Int32 → jS → Prop) (v1 : Int32) (v2 : Int32) (σ : jS) (y0 : Int32) : Prop :=
  (¬ y0 = ((-1) : Int32) → (v2 = 0 → post y0 σ) ∧ (v2 = 1 → p_S_behindStretch σ y0 64 (fun r4 σ3 => post (r4 - y0) σ3)) ∧ (v2 = 2 → p_S_stateOf σ y0 (fun r6 σ5 => post r6 σ5)) ∧ ((v2 < 0 ∨ 3 ≤ v2) → post (-1) σ)) ∧ (y0 = ((-1) : Int32) → post (-1) σ)
def p_R_part (σ : jS) (v1 : Int32) (v2 : Int32) (post : Int32 → jS → Prop) : Prop :=
  p_K_goesOn σ (fun r2 σ1 => (r2 = 0 → p_R_part_22 post v1 v2 σ1 (-1)) ∧ (¬ r2 = 0 → p_S_firstOfRun σ1 v1 (fun r8 σ7 => p_R_part_22 post v1 v2 σ7 r8)))
def p_R_phase (σ : jS) (post : Int32 → jS → Prop) : Prop :=
  p_K_currentPhase σ (fun r2 σ1 => post r2 σ1)
def p_R_out (σ : jS) (v1 : Int32) (post : Int32 → jS → Prop) : Prop :=
  p_D_wordOut σ v1 (fun r2 σ1 => post r2 σ1)
def p_R_reads (σ : jS) (v1 : Int32) (post : Int32 → jS → Prop) : Prop :=
  p_D_readsOf σ v1 (fun r2 σ1 => post r2 σ1)
def p_R_made (σ : jS) (v1 : Int32) (post : Int32 → jS → Prop) : Prop :=
  p_D_stretchesRead σ v1 (fun r2 σ1 => post r2 σ1)
def p_R_image (σ : jS) (v1 : Int32) (v2 : Int32) (post : Int32 → jS → Prop) : Prop :=
  p_V_byteAt σ v1 v2 (fun r2 σ1 => post r2 σ1)
