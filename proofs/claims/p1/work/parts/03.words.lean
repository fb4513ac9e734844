theorem tw_168 : (Cond.initialized "DarkRing" : Cond) ∈ TB := tb_mem 168 (by decide +kernel) rfl
theorem tw_169 : (Cond.initialized "DarkRing$Text" : Cond) ∈ TB := tb_mem 169 (by decide +kernel) rfl
theorem tw_170 : (Cond.initialized "DarkRing$House" : Cond) ∈ TB := tb_mem 170 (by decide +kernel) rfl
theorem tw_171 : (Cond.initialized "DarkRing$Thought" : Cond) ∈ TB := tb_mem 171 (by decide +kernel) rfl
theorem tw_172 : (Cond.initialized "DarkRing$Rule" : Cond) ∈ TB := tb_mem 172 (by decide +kernel) rfl
theorem tw_173 : (Cond.initialized "DarkRing$HouseReader" : Cond) ∈ TB := tb_mem 173 (by decide +kernel) rfl
theorem tw_174 : (Cond.initialized "DarkRing$RuleReader" : Cond) ∈ TB := tb_mem 174 (by decide +kernel) rfl
theorem tw_175 : (Cond.initialized "DarkRing$Search" : Cond) ∈ TB := tb_mem 175 (by decide +kernel) rfl
theorem tw_176 : (Cond.initialized "DarkRing$Likeness" : Cond) ∈ TB := tb_mem 176 (by decide +kernel) rfl
theorem tw_177 : (Cond.initialized "DarkRing$Acts" : Cond) ∈ TB := tb_mem 177 (by decide +kernel) rfl
theorem tw_178 : (Cond.initialized "DarkRing$Game" : Cond) ∈ TB := tb_mem 178 (by decide +kernel) rfl
theorem tw_179 : (Cond.initialized "DarkRing$Tray" : Cond) ∈ TB := tb_mem 179 (by decide +kernel) rfl
theorem tw_194 : (Cond.methodLink "DarkRing" 3 objectInit : Cond) ∈ TB := tb_mem 194 (by decide +kernel) rfl
theorem tw_195 : (Cond.instanceMethod objectInit : Cond) ∈ TB := tb_mem 195 (by decide +kernel) rfl
theorem tw_196 : (Cond.code objectInit ⟨#[0xb1]⟩ 1 none : Cond) ∈ TB := tb_mem 196 (by decide +kernel) rfl
theorem tw_197 : (Cond.classLink "DarkRing" 20 "DarkRing$Tray" : Cond) ∈ TB := tb_mem 197 (by decide +kernel) rfl
theorem tw_199 : (Cond.classLink "DarkRing" 26 "DarkRing$Text" : Cond) ∈ TB := tb_mem 199 (by decide +kernel) rfl
theorem tw_200 : (Cond.instantiable "DarkRing$Text" 11 : Cond) ∈ TB := tb_mem 200 (by decide +kernel) rfl
theorem tw_201 : (Cond.methodLinkNest "DarkRing" 28 yX8_init "DarkRing" : Cond) ∈ NB := nb_mem 201 (by decide +kernel) rfl
theorem tw_202 : (Cond.instanceMethod yX8_init : Cond) ∈ TB := tb_mem 202 (by decide +kernel) rfl
theorem tw_203 : (Cond.code yX8_init cX8_init 1 none : Cond) ∈ TB := tb_mem 203 (by decide +kernel) rfl
theorem tw_204 : (Cond.methodLink "DarkRing$Text" 3 objectInit : Cond) ∈ TB := tb_mem 204 (by decide +kernel) rfl
theorem tw_205 : (Cond.fieldLink "DarkRing$Text" 11 "DarkRing$Text" "tape" "[B" : Cond) ∈ TB := tb_mem 205 (by decide +kernel) rfl
theorem tw_206 : (Cond.fieldLink "DarkRing$Text" 15 "DarkRing$Text" "fed" "I" : Cond) ∈ TB := tb_mem 206 (by decide +kernel) rfl
theorem tw_218 : (Cond.fieldLink "DarkRing$Text" 19 "DarkRing$Text" "fault" "I" : Cond) ∈ TB := tb_mem 218 (by decide +kernel) rfl
theorem tw_222 : (Cond.fieldLink "DarkRing$Text" 22 "DarkRing$Text" "faultPlace" "I" : Cond) ∈ TB := tb_mem 222 (by decide +kernel) rfl
theorem tw_247 : (Cond.arrayClass .byte : Cond) ∈ TB := tb_mem 247 (by decide +kernel) rfl
theorem tw_248 : (Cond.classLink "DarkRing" 33 "DarkRing$House" : Cond) ∈ TB := tb_mem 248 (by decide +kernel) rfl
theorem tw_249 : (Cond.instantiable "DarkRing$House" 18 : Cond) ∈ TB := tb_mem 249 (by decide +kernel) rfl
theorem tw_250 : (Cond.methodLink "DarkRing" 35 yX2_init : Cond) ∈ TB := tb_mem 250 (by decide +kernel) rfl
theorem tw_251 : (Cond.instanceMethod yX2_init : Cond) ∈ TB := tb_mem 251 (by decide +kernel) rfl
theorem tw_252 : (Cond.code yX2_init cX2_init 1 none : Cond) ∈ TB := tb_mem 252 (by decide +kernel) rfl
theorem tw_253 : (Cond.methodLink "DarkRing$House" 3 objectInit : Cond) ∈ TB := tb_mem 253 (by decide +kernel) rfl
theorem tw_254 : (Cond.methodLink "DarkRing$House" 46 yX2_clear : Cond) ∈ TB := tb_mem 254 (by decide +kernel) rfl
theorem tw_255 : (Cond.instanceMethod yX2_clear : Cond) ∈ TB := tb_mem 255 (by decide +kernel) rfl
theorem tw_256 : (Cond.selects "DarkRing$House" yX2_clear yX2_clear : Cond) ∈ TB := tb_mem 256 (by decide +kernel) rfl
theorem tw_257 : (Cond.code yX2_clear cX2_clear 1 none : Cond) ∈ TB := tb_mem 257 (by decide +kernel) rfl
theorem tw_258 : (Cond.methodLink "DarkRing$House" 65 yX2_setSeconds : Cond) ∈ TB := tb_mem 258 (by decide +kernel) rfl
theorem tw_259 : (Cond.instanceMethod yX2_setSeconds : Cond) ∈ TB := tb_mem 259 (by decide +kernel) rfl
theorem tw_260 : (Cond.selects "DarkRing$House" yX2_setSeconds yX2_setSeconds : Cond) ∈ TB := tb_mem 260 (by decide +kernel) rfl
theorem tw_261 : (Cond.code yX2_setSeconds cX2_setSeconds 3 none : Cond) ∈ TB := tb_mem 261 (by decide +kernel) rfl
theorem tw_262 : (Cond.methodLinkNest "DarkRing$House" 126 yX11_keepAt "DarkRing" : Cond) ∈ NB := nb_mem 262 (by decide +kernel) rfl
theorem tw_263 : (Cond.static yX11_keepAt : Cond) ∈ TB := tb_mem 263 (by decide +kernel) rfl
theorem tw_264 : (Cond.code yX11_keepAt cX11_keepAt 3 none : Cond) ∈ TB := tb_mem 264 (by decide +kernel) rfl
theorem tw_265 : (Cond.fieldLink "DarkRing$House" 49 "DarkRing$House" "features" "I" : Cond) ∈ TB := tb_mem 265 (by decide +kernel) rfl
theorem tw_270 : (Cond.fieldLink "DarkRing$House" 9 "DarkRing$House" "featureNames" "[J" : Cond) ∈ TB := tb_mem 270 (by decide +kernel) rfl
theorem tw_271 : (Cond.fieldLink "DarkRing$House" 15 "DarkRing$House" "steps" "[I" : Cond) ∈ TB := tb_mem 271 (by decide +kernel) rfl
theorem tw_272 : (Cond.fieldLink "DarkRing$House" 19 "DarkRing$House" "turnedFeatures" "[I" : Cond) ∈ TB := tb_mem 272 (by decide +kernel) rfl
theorem tw_273 : (Cond.fieldLink "DarkRing$House" 22 "DarkRing$House" "sixteenths" "[I" : Cond) ∈ TB := tb_mem 273 (by decide +kernel) rfl
theorem tw_274 : (Cond.fieldLink "DarkRing$House" 53 "DarkRing$House" "keys" "I" : Cond) ∈ TB := tb_mem 274 (by decide +kernel) rfl
theorem tw_277 : (Cond.fieldLink "DarkRing$House" 25 "DarkRing$House" "keySteps" "[I" : Cond) ∈ TB := tb_mem 277 (by decide +kernel) rfl
theorem tw_278 : (Cond.fieldLink "DarkRing$House" 56 "DarkRing$House" "lent" "I" : Cond) ∈ TB := tb_mem 278 (by decide +kernel) rfl
theorem tw_279 : (Cond.fieldLink "DarkRing$House" 59 "DarkRing$House" "rings" "I" : Cond) ∈ TB := tb_mem 279 (by decide +kernel) rfl
theorem tw_283 : (Cond.fieldLink "DarkRing$House" 28 "DarkRing$House" "on" "[I" : Cond) ∈ TB := tb_mem 283 (by decide +kernel) rfl
theorem tw_284 : (Cond.fieldLink "DarkRing$House" 31 "DarkRing$House" "onMany" "[I" : Cond) ∈ TB := tb_mem 284 (by decide +kernel) rfl
theorem tw_285 : (Cond.fieldLink "DarkRing$House" 62 "DarkRing$House" "doors" "I" : Cond) ∈ TB := tb_mem 285 (by decide +kernel) rfl
theorem tw_289 : (Cond.fieldLink "DarkRing$House" 34 "DarkRing$House" "wanted" "[I" : Cond) ∈ TB := tb_mem 289 (by decide +kernel) rfl
theorem tw_290 : (Cond.fieldLink "DarkRing$House" 37 "DarkRing$House" "openers" "[I" : Cond) ∈ TB := tb_mem 290 (by decide +kernel) rfl
theorem tw_291 : (Cond.fieldLink "DarkRing$House" 40 "DarkRing$House" "seconds" "[I" : Cond) ∈ TB := tb_mem 291 (by decide +kernel) rfl
theorem tw_292 : (Cond.fieldLink "DarkRing$House" 69 "DarkRing$House" "turned" "I" : Cond) ∈ TB := tb_mem 292 (by decide +kernel) rfl
theorem tw_297 : (Cond.fieldLink "DarkRing$House" 72 "DarkRing$House" "roundMany" "I" : Cond) ∈ TB := tb_mem 297 (by decide +kernel) rfl
theorem tw_301 : (Cond.fieldLink "DarkRing$House" 43 "DarkRing$House" "roundDoors" "[I" : Cond) ∈ TB := tb_mem 301 (by decide +kernel) rfl
theorem tw_341 : (Cond.arrayClass .long : Cond) ∈ TB := tb_mem 341 (by decide +kernel) rfl
theorem tw_342 : (Cond.arrayClass .int : Cond) ∈ TB := tb_mem 342 (by decide +kernel) rfl
theorem tw_343 : (Cond.classLink "DarkRing" 40 "DarkRing$Thought" : Cond) ∈ TB := tb_mem 343 (by decide +kernel) rfl
theorem tw_344 : (Cond.instantiable "DarkRing$Thought" 6 : Cond) ∈ TB := tb_mem 344 (by decide +kernel) rfl
theorem tw_345 : (Cond.methodLink "DarkRing" 42 yX9_init : Cond) ∈ TB := tb_mem 345 (by decide +kernel) rfl
theorem tw_346 : (Cond.instanceMethod yX9_init : Cond) ∈ TB := tb_mem 346 (by decide +kernel) rfl
theorem tw_347 : (Cond.code yX9_init cX9_init 2 none : Cond) ∈ TB := tb_mem 347 (by decide +kernel) rfl
theorem tw_348 : (Cond.methodLink "DarkRing$Thought" 3 objectInit : Cond) ∈ TB := tb_mem 348 (by decide +kernel) rfl
theorem tw_349 : (Cond.fieldLink "DarkRing$Thought" 29 "DarkRing$Thought" "house" "LDarkRing$House;" : Cond) ∈ TB := tb_mem 349 (by decide +kernel) rfl
theorem tw_350 : (Cond.fieldLink "DarkRing$Thought" 9 "DarkRing$Thought" "held" "I" : Cond) ∈ TB := tb_mem 350 (by decide +kernel) rfl
theorem tw_352 : (Cond.fieldLink "DarkRing$Thought" 15 "DarkRing$Thought" "places" "I" : Cond) ∈ TB := tb_mem 352 (by decide +kernel) rfl
theorem tw_356 : (Cond.fieldLink "DarkRing$Thought" 18 "DarkRing$Thought" "row" "[I" : Cond) ∈ TB := tb_mem 356 (by decide +kernel) rfl
theorem tw_357 : (Cond.fieldLink "DarkRing$Thought" 22 "DarkRing$Thought" "parts" "[J" : Cond) ∈ TB := tb_mem 357 (by decide +kernel) rfl
theorem tw_358 : (Cond.fieldLink "DarkRing$Thought" 26 "DarkRing$Thought" "weights" "[J" : Cond) ∈ TB := tb_mem 358 (by decide +kernel) rfl
theorem tw_372 : (Cond.classLink "DarkRing" 49 "DarkRing$Rule" : Cond) ∈ TB := tb_mem 372 (by decide +kernel) rfl
theorem tw_373 : (Cond.instantiable "DarkRing$Rule" 8 : Cond) ∈ TB := tb_mem 373 (by decide +kernel) rfl
theorem tw_374 : (Cond.methodLinkNest "DarkRing" 51 yX5_init "DarkRing" : Cond) ∈ NB := nb_mem 374 (by decide +kernel) rfl
theorem tw_375 : (Cond.instanceMethod yX5_init : Cond) ∈ TB := tb_mem 375 (by decide +kernel) rfl
theorem tw_376 : (Cond.code yX5_init cX5_init 1 none : Cond) ∈ TB := tb_mem 376 (by decide +kernel) rfl
theorem tw_377 : (Cond.methodLink "DarkRing$Rule" 5 objectInit : Cond) ∈ TB := tb_mem 377 (by decide +kernel) rfl
theorem tw_378 : (Cond.fieldLink "DarkRing$Rule" 11 "DarkRing$Rule" "lines" "I" : Cond) ∈ TB := tb_mem 378 (by decide +kernel) rfl
theorem tw_381 : (Cond.fieldLink "DarkRing$Rule" 15 "DarkRing$Rule" "steps" "I" : Cond) ∈ TB := tb_mem 381 (by decide +kernel) rfl
theorem tw_384 : (Cond.fieldLink "DarkRing$Rule" 18 "DarkRing$Rule" "asksSure" "Z" : Cond) ∈ TB := tb_mem 384 (by decide +kernel) rfl
theorem tw_386 : (Cond.fieldLink "DarkRing$Rule" 22 "DarkRing$Rule" "kinds" "[I" : Cond) ∈ TB := tb_mem 386 (by decide +kernel) rfl
theorem tw_387 : (Cond.fieldLink "DarkRing$Rule" 26 "DarkRing$Rule" "features" "[I" : Cond) ∈ TB := tb_mem 387 (by decide +kernel) rfl
theorem tw_388 : (Cond.fieldLink "DarkRing$Rule" 29 "DarkRing$Rule" "compares" "[I" : Cond) ∈ TB := tb_mem 388 (by decide +kernel) rfl
theorem tw_389 : (Cond.fieldLink "DarkRing$Rule" 32 "DarkRing$Rule" "numbers" "[I" : Cond) ∈ TB := tb_mem 389 (by decide +kernel) rfl
theorem tw_390 : (Cond.fieldLink "DarkRing$Rule" 35 "DarkRing$Rule" "partners" "[I" : Cond) ∈ TB := tb_mem 390 (by decide +kernel) rfl
theorem tw_408 : (Cond.classLink "DarkRing" 56 "DarkRing$HouseReader" : Cond) ∈ TB := tb_mem 408 (by decide +kernel) rfl
theorem tw_409 : (Cond.instantiable "DarkRing$HouseReader" 10 : Cond) ∈ TB := tb_mem 409 (by decide +kernel) rfl
theorem tw_410 : (Cond.methodLink "DarkRing" 58 yX3_init : Cond) ∈ TB := tb_mem 410 (by decide +kernel) rfl
theorem tw_411 : (Cond.instanceMethod yX3_init : Cond) ∈ TB := tb_mem 411 (by decide +kernel) rfl
theorem tw_412 : (Cond.code yX3_init cX3_init 2 none : Cond) ∈ TB := tb_mem 412 (by decide +kernel) rfl
theorem tw_413 : (Cond.methodLink "DarkRing$HouseReader" 3 objectInit : Cond) ∈ TB := tb_mem 413 (by decide +kernel) rfl
theorem tw_414 : (Cond.classLink "DarkRing$HouseReader" 9 "DarkRing$House" : Cond) ∈ TB := tb_mem 414 (by decide +kernel) rfl
theorem tw_415 : (Cond.methodLink "DarkRing$HouseReader" 11 yX2_init : Cond) ∈ TB := tb_mem 415 (by decide +kernel) rfl
theorem tw_416 : (Cond.fieldLink "DarkRing$HouseReader" 31 "DarkRing$HouseReader" "text" "LDarkRing$Text;" : Cond) ∈ TB := tb_mem 416 (by decide +kernel) rfl
theorem tw_417 : (Cond.fieldLink "DarkRing$HouseReader" 12 "DarkRing$HouseReader" "fresh" "LDarkRing$House;" : Cond) ∈ TB := tb_mem 417 (by decide +kernel) rfl
theorem tw_419 : (Cond.fieldLink "DarkRing$HouseReader" 18 "DarkRing$HouseReader" "featureNames" "[J" : Cond) ∈ TB := tb_mem 419 (by decide +kernel) rfl
theorem tw_420 : (Cond.fieldLink "DarkRing$HouseReader" 22 "DarkRing$HouseReader" "keyNames" "[J" : Cond) ∈ TB := tb_mem 420 (by decide +kernel) rfl
theorem tw_421 : (Cond.fieldLink "DarkRing$HouseReader" 25 "DarkRing$HouseReader" "ringNames" "[J" : Cond) ∈ TB := tb_mem 421 (by decide +kernel) rfl
theorem tw_422 : (Cond.fieldLink "DarkRing$HouseReader" 28 "DarkRing$HouseReader" "doorNames" "[J" : Cond) ∈ TB := tb_mem 422 (by decide +kernel) rfl
theorem tw_448 : (Cond.classLink "DarkRing" 65 "DarkRing$RuleReader" : Cond) ∈ TB := tb_mem 448 (by decide +kernel) rfl
theorem tw_449 : (Cond.instantiable "DarkRing$RuleReader" 5 : Cond) ∈ TB := tb_mem 449 (by decide +kernel) rfl
theorem tw_450 : (Cond.methodLink "DarkRing" 67 yX6_init : Cond) ∈ TB := tb_mem 450 (by decide +kernel) rfl
theorem tw_451 : (Cond.instanceMethod yX6_init : Cond) ∈ TB := tb_mem 451 (by decide +kernel) rfl
theorem tw_452 : (Cond.code yX6_init cX6_init 3 none : Cond) ∈ TB := tb_mem 452 (by decide +kernel) rfl
theorem tw_453 : (Cond.methodLink "DarkRing$RuleReader" 3 objectInit : Cond) ∈ TB := tb_mem 453 (by decide +kernel) rfl
theorem tw_454 : (Cond.classLink "DarkRing$RuleReader" 9 "DarkRing$Rule" : Cond) ∈ TB := tb_mem 454 (by decide +kernel) rfl
theorem tw_455 : (Cond.methodLinkNest "DarkRing$RuleReader" 11 yX5_init "DarkRing" : Cond) ∈ NB := nb_mem 455 (by decide +kernel) rfl
theorem tw_456 : (Cond.fieldLink "DarkRing$RuleReader" 22 "DarkRing$RuleReader" "text" "LDarkRing$Text;" : Cond) ∈ TB := tb_mem 456 (by decide +kernel) rfl
theorem tw_457 : (Cond.fieldLink "DarkRing$RuleReader" 26 "DarkRing$RuleReader" "house" "LDarkRing$House;" : Cond) ∈ TB := tb_mem 457 (by decide +kernel) rfl
theorem tw_458 : (Cond.fieldLink "DarkRing$RuleReader" 12 "DarkRing$RuleReader" "fresh" "LDarkRing$Rule;" : Cond) ∈ TB := tb_mem 458 (by decide +kernel) rfl
theorem tw_460 : (Cond.fieldLink "DarkRing$RuleReader" 18 "DarkRing$RuleReader" "begun" "[I" : Cond) ∈ TB := tb_mem 460 (by decide +kernel) rfl
theorem tw_473 : (Cond.classLink "DarkRing" 74 "DarkRing$Search" : Cond) ∈ TB := tb_mem 473 (by decide +kernel) rfl
theorem tw_474 : (Cond.instantiable "DarkRing$Search" 11 : Cond) ∈ TB := tb_mem 474 (by decide +kernel) rfl
theorem tw_475 : (Cond.methodLink "DarkRing" 76 yX7_init : Cond) ∈ TB := tb_mem 475 (by decide +kernel) rfl
theorem tw_476 : (Cond.instanceMethod yX7_init : Cond) ∈ TB := tb_mem 476 (by decide +kernel) rfl
theorem tw_477 : (Cond.code yX7_init cX7_init 2 none : Cond) ∈ TB := tb_mem 477 (by decide +kernel) rfl
theorem tw_478 : (Cond.methodLink "DarkRing$Search" 3 objectInit : Cond) ∈ TB := tb_mem 478 (by decide +kernel) rfl
theorem tw_479 : (Cond.fieldLink "DarkRing$Search" 42 "DarkRing$Search" "house" "LDarkRing$House;" : Cond) ∈ TB := tb_mem 479 (by decide +kernel) rfl
theorem tw_480 : (Cond.fieldLink "DarkRing$Search" 9 "DarkRing$Search" "row" "[I" : Cond) ∈ TB := tb_mem 480 (by decide +kernel) rfl
theorem tw_483 : (Cond.fieldLink "DarkRing$Search" 15 "DarkRing$Search" "found" "[I" : Cond) ∈ TB := tb_mem 483 (by decide +kernel) rfl
theorem tw_484 : (Cond.fieldLink "DarkRing$Search" 18 "DarkRing$Search" "foundMany" "I" : Cond) ∈ TB := tb_mem 484 (by decide +kernel) rfl
theorem tw_486 : (Cond.fieldLink "DarkRing$Search" 22 "DarkRing$Search" "ringRow" "[I" : Cond) ∈ TB := tb_mem 486 (by decide +kernel) rfl
theorem tw_487 : (Cond.fieldLink "DarkRing$Search" 25 "DarkRing$Search" "ringPlaces" "[I" : Cond) ∈ TB := tb_mem 487 (by decide +kernel) rfl
theorem tw_488 : (Cond.fieldLink "DarkRing$Search" 28 "DarkRing$Search" "ringSeconds" "[I" : Cond) ∈ TB := tb_mem 488 (by decide +kernel) rfl
theorem tw_489 : (Cond.fieldLink "DarkRing$Search" 31 "DarkRing$Search" "ringOpens" "[Z" : Cond) ∈ TB := tb_mem 489 (by decide +kernel) rfl
theorem tw_490 : (Cond.fieldLink "DarkRing$Search" 35 "DarkRing$Search" "meanTop" "J" : Cond) ∈ TB := tb_mem 490 (by decide +kernel) rfl
theorem tw_492 : (Cond.fieldLink "DarkRing$Search" 39 "DarkRing$Search" "meanBottom" "J" : Cond) ∈ TB := tb_mem 492 (by decide +kernel) rfl
theorem tw_517 : (Cond.arrayClass .boolean : Cond) ∈ TB := tb_mem 517 (by decide +kernel) rfl
theorem tw_518 : (Cond.classLink "DarkRing" 81 "DarkRing$Likeness" : Cond) ∈ TB := tb_mem 518 (by decide +kernel) rfl
theorem tw_519 : (Cond.instantiable "DarkRing$Likeness" 3 : Cond) ∈ TB := tb_mem 519 (by decide +kernel) rfl
theorem tw_520 : (Cond.methodLink "DarkRing" 83 yX4_init : Cond) ∈ TB := tb_mem 520 (by decide +kernel) rfl
theorem tw_521 : (Cond.instanceMethod yX4_init : Cond) ∈ TB := tb_mem 521 (by decide +kernel) rfl
theorem tw_522 : (Cond.code yX4_init cX4_init 2 none : Cond) ∈ TB := tb_mem 522 (by decide +kernel) rfl
theorem tw_523 : (Cond.methodLink "DarkRing$Likeness" 3 objectInit : Cond) ∈ TB := tb_mem 523 (by decide +kernel) rfl
theorem tw_524 : (Cond.fieldLink "DarkRing$Likeness" 15 "DarkRing$Likeness" "house" "LDarkRing$House;" : Cond) ∈ TB := tb_mem 524 (by decide +kernel) rfl
theorem tw_525 : (Cond.fieldLink "DarkRing$Likeness" 9 "DarkRing$Likeness" "row" "[I" : Cond) ∈ TB := tb_mem 525 (by decide +kernel) rfl
theorem tw_534 : (Cond.classLink "DarkRing" 88 "DarkRing$Acts" : Cond) ∈ TB := tb_mem 534 (by decide +kernel) rfl
theorem tw_535 : (Cond.instantiable "DarkRing$Acts" 7 : Cond) ∈ TB := tb_mem 535 (by decide +kernel) rfl
theorem tw_536 : (Cond.methodLink "DarkRing" 90 yX0_init : Cond) ∈ TB := tb_mem 536 (by decide +kernel) rfl
theorem tw_537 : (Cond.instanceMethod yX0_init : Cond) ∈ TB := tb_mem 537 (by decide +kernel) rfl
theorem tw_538 : (Cond.code yX0_init cX0_init 3 none : Cond) ∈ TB := tb_mem 538 (by decide +kernel) rfl
theorem tw_539 : (Cond.methodLink "DarkRing$Acts" 3 objectInit : Cond) ∈ TB := tb_mem 539 (by decide +kernel) rfl
theorem tw_540 : (Cond.fieldLink "DarkRing$Acts" 15 "DarkRing$Acts" "house" "LDarkRing$House;" : Cond) ∈ TB := tb_mem 540 (by decide +kernel) rfl
theorem tw_541 : (Cond.fieldLink "DarkRing$Acts" 19 "DarkRing$Acts" "thought" "LDarkRing$Thought;" : Cond) ∈ TB := tb_mem 541 (by decide +kernel) rfl
theorem tw_542 : (Cond.fieldLink "DarkRing$Acts" 9 "DarkRing$Acts" "weights" "[J" : Cond) ∈ TB := tb_mem 542 (by decide +kernel) rfl
theorem tw_564 : (Cond.classLink "DarkRing" 97 "DarkRing$Game" : Cond) ∈ TB := tb_mem 564 (by decide +kernel) rfl
theorem tw_565 : (Cond.instantiable "DarkRing$Game" 20 : Cond) ∈ TB := tb_mem 565 (by decide +kernel) rfl
theorem tw_566 : (Cond.methodLink "DarkRing" 99 yX1_init : Cond) ∈ TB := tb_mem 566 (by decide +kernel) rfl
theorem tw_567 : (Cond.instanceMethod yX1_init : Cond) ∈ TB := tb_mem 567 (by decide +kernel) rfl
theorem tw_568 : (Cond.code yX1_init cX1_init 3 none : Cond) ∈ TB := tb_mem 568 (by decide +kernel) rfl
theorem tw_569 : (Cond.methodLink "DarkRing$Game" 3 objectInit : Cond) ∈ TB := tb_mem 569 (by decide +kernel) rfl
theorem tw_570 : (Cond.classLink "DarkRing$Game" 35 "DarkRing$Thought" : Cond) ∈ TB := tb_mem 570 (by decide +kernel) rfl
theorem tw_571 : (Cond.methodLink "DarkRing$Game" 37 yX9_init : Cond) ∈ TB := tb_mem 571 (by decide +kernel) rfl
theorem tw_572 : (Cond.fieldLink "DarkRing$Game" 27 "DarkRing$Game" "house" "LDarkRing$House;" : Cond) ∈ TB := tb_mem 572 (by decide +kernel) rfl
theorem tw_573 : (Cond.fieldLink "DarkRing$Game" 31 "DarkRing$Game" "rule" "LDarkRing$Rule;" : Cond) ∈ TB := tb_mem 573 (by decide +kernel) rfl
theorem tw_574 : (Cond.fieldLink "DarkRing$Game" 40 "DarkRing$Game" "thought" "LDarkRing$Thought;" : Cond) ∈ TB := tb_mem 574 (by decide +kernel) rfl
theorem tw_575 : (Cond.fieldLink "DarkRing$Game" 11 "DarkRing$Game" "rounds" "[I" : Cond) ∈ TB := tb_mem 575 (by decide +kernel) rfl
theorem tw_576 : (Cond.fieldLink "DarkRing$Game" 17 "DarkRing$Game" "feltHere" "[I" : Cond) ∈ TB := tb_mem 576 (by decide +kernel) rfl
theorem tw_592 : (Cond.fieldLink "DarkRing$Game" 20 "DarkRing$Game" "kept" "[I" : Cond) ∈ TB := tb_mem 592 (by decide +kernel) rfl
theorem tw_593 : (Cond.fieldLink "DarkRing$Game" 23 "DarkRing$Game" "isKept" "Z" : Cond) ∈ TB := tb_mem 593 (by decide +kernel) rfl
theorem tw_639 : (Cond.instantiable "DarkRing$Tray" 3 : Cond) ∈ TB := tb_mem 639 (by decide +kernel) rfl
theorem tw_640 : (Cond.methodLinkNest "DarkRing" 121 yX10_init "DarkRing" : Cond) ∈ NB := nb_mem 640 (by decide +kernel) rfl
theorem tw_641 : (Cond.instanceMethod yX10_init : Cond) ∈ TB := tb_mem 641 (by decide +kernel) rfl
theorem tw_642 : (Cond.code yX10_init cX10_init 1 none : Cond) ∈ TB := tb_mem 642 (by decide +kernel) rfl
theorem tw_643 : (Cond.methodLink "DarkRing$Tray" 3 objectInit : Cond) ∈ TB := tb_mem 643 (by decide +kernel) rfl
theorem tw_644 : (Cond.fieldLink "DarkRing$Tray" 9 "DarkRing$Tray" "sort" "I" : Cond) ∈ TB := tb_mem 644 (by decide +kernel) rfl
theorem tw_646 : (Cond.fieldLink "DarkRing$Tray" 15 "DarkRing$Tray" "many" "I" : Cond) ∈ TB := tb_mem 646 (by decide +kernel) rfl
theorem tw_648 : (Cond.fieldLink "DarkRing$Tray" 18 "DarkRing$Tray" "row" "[J" : Cond) ∈ TB := tb_mem 648 (by decide +kernel) rfl
theorem tw_656 : (Cond.fieldLink "DarkRing" 9 "DarkRing" "status" "I" : Cond) ∈ TB := tb_mem 656 (by decide +kernel) rfl
theorem tw_657 : (Cond.fieldLink "DarkRing" 13 "DarkRing" "top" "J" : Cond) ∈ TB := tb_mem 657 (by decide +kernel) rfl
theorem tw_658 : (Cond.fieldLink "DarkRing" 17 "DarkRing" "bottom" "J" : Cond) ∈ TB := tb_mem 658 (by decide +kernel) rfl
theorem tw_659 : (Cond.fieldLink "DarkRing" 22 "DarkRing" "trays" "[LDarkRing$Tray;" : Cond) ∈ TB := tb_mem 659 (by decide +kernel) rfl
theorem tw_660 : (Cond.fieldLink "DarkRing" 29 "DarkRing" "text" "LDarkRing$Text;" : Cond) ∈ TB := tb_mem 660 (by decide +kernel) rfl
theorem tw_661 : (Cond.fieldLink "DarkRing" 36 "DarkRing" "house" "LDarkRing$House;" : Cond) ∈ TB := tb_mem 661 (by decide +kernel) rfl
theorem tw_662 : (Cond.fieldLink "DarkRing" 45 "DarkRing" "thought" "LDarkRing$Thought;" : Cond) ∈ TB := tb_mem 662 (by decide +kernel) rfl
theorem tw_663 : (Cond.fieldLink "DarkRing" 52 "DarkRing" "rule" "LDarkRing$Rule;" : Cond) ∈ TB := tb_mem 663 (by decide +kernel) rfl
theorem tw_664 : (Cond.fieldLink "DarkRing" 61 "DarkRing" "houseReader" "LDarkRing$HouseReader;" : Cond) ∈ TB := tb_mem 664 (by decide +kernel) rfl
theorem tw_665 : (Cond.fieldLink "DarkRing" 70 "DarkRing" "ruleReader" "LDarkRing$RuleReader;" : Cond) ∈ TB := tb_mem 665 (by decide +kernel) rfl
theorem tw_666 : (Cond.fieldLink "DarkRing" 77 "DarkRing" "search" "LDarkRing$Search;" : Cond) ∈ TB := tb_mem 666 (by decide +kernel) rfl
theorem tw_667 : (Cond.fieldLink "DarkRing" 84 "DarkRing" "likeness" "LDarkRing$Likeness;" : Cond) ∈ TB := tb_mem 667 (by decide +kernel) rfl
theorem tw_668 : (Cond.fieldLink "DarkRing" 93 "DarkRing" "acts" "LDarkRing$Acts;" : Cond) ∈ TB := tb_mem 668 (by decide +kernel) rfl
theorem tw_669 : (Cond.fieldLink "DarkRing" 102 "DarkRing" "game" "LDarkRing$Game;" : Cond) ∈ TB := tb_mem 669 (by decide +kernel) rfl
theorem tw_670 : (Cond.fieldLink "DarkRing" 106 "DarkRing" "marks" "I" : Cond) ∈ TB := tb_mem 670 (by decide +kernel) rfl
theorem tw_671 : (Cond.fieldLink "DarkRing" 109 "DarkRing" "keptHouses" "[LDarkRing$House;" : Cond) ∈ TB := tb_mem 671 (by decide +kernel) rfl
theorem tw_672 : (Cond.fieldLink "DarkRing" 113 "DarkRing" "keptThoughts" "[LDarkRing$Thought;" : Cond) ∈ TB := tb_mem 672 (by decide +kernel) rfl
theorem tw_673 : (Cond.fieldLink "DarkRing" 117 "DarkRing" "keptRules" "[LDarkRing$Rule;" : Cond) ∈ TB := tb_mem 673 (by decide +kernel) rfl
theorem tw_1001 : (Cond.instanceMethod yX2_stepsOf : Cond) ∈ TB := tb_mem 1001 (by decide +kernel) rfl
theorem tw_1002 : (Cond.selects "DarkRing$House" yX2_stepsOf yX2_stepsOf : Cond) ∈ TB := tb_mem 1002 (by decide +kernel) rfl
theorem tw_1003 : (Cond.code yX2_stepsOf cX2_stepsOf 2 (some .int) : Cond) ∈ TB := tb_mem 1003 (by decide +kernel) rfl
theorem tw_1004 : (Cond.methodLink "DarkRing$House" 85 yX2_hasFeature : Cond) ∈ TB := tb_mem 1004 (by decide +kernel) rfl
theorem tw_1005 : (Cond.instanceMethod yX2_hasFeature : Cond) ∈ TB := tb_mem 1005 (by decide +kernel) rfl
theorem tw_1006 : (Cond.selects "DarkRing$House" yX2_hasFeature yX2_hasFeature : Cond) ∈ TB := tb_mem 1006 (by decide +kernel) rfl
theorem tw_1007 : (Cond.code yX2_hasFeature cX2_hasFeature 2 (some .boolean) : Cond) ∈ TB := tb_mem 1007 (by decide +kernel) rfl
theorem tw_1008 : (Cond.methodLinkNest "DarkRing$House" 89 yX11_at "DarkRing" : Cond) ∈ NB := nb_mem 1008 (by decide +kernel) rfl
theorem tw_1009 : (Cond.static yX11_at : Cond) ∈ TB := tb_mem 1009 (by decide +kernel) rfl
theorem tw_1010 : (Cond.code yX11_at cX11_at 2 (some .int) : Cond) ∈ TB := tb_mem 1010 (by decide +kernel) rfl
theorem tw_1238 : (Cond.methodLink "DarkRing$House" 81 yX2_stepsOf : Cond) ∈ TB := tb_mem 1238 (by decide +kernel) rfl
theorem dX0_init_0 : decode cX0_init 0 = .ok (.aload_n 0, 1) := by decide +kernel
theorem dX0_init_1 : decode cX0_init 1 = .ok (.invokespecial 3, 3) := by decide +kernel
theorem dX0_init_4 : decode cX0_init 4 = .ok (.aload_n 0, 1) := by decide +kernel
theorem dX0_init_5 : decode cX0_init 5 = .ok (.bipush 100, 2) := by decide +kernel
theorem dX0_init_7 : decode cX0_init 7 = .ok (.newarray .long, 2) := by decide +kernel
theorem dX0_init_9 : decode cX0_init 9 = .ok (.putfield 9, 3) := by decide +kernel
theorem dX0_init_12 : decode cX0_init 12 = .ok (.aload_n 0, 1) := by decide +kernel
theorem dX0_init_13 : decode cX0_init 13 = .ok (.aload_n 1, 1) := by decide +kernel
theorem dX0_init_14 : decode cX0_init 14 = .ok (.putfield 15, 3) := by decide +kernel
theorem dX0_init_17 : decode cX0_init 17 = .ok (.aload_n 0, 1) := by decide +kernel
theorem dX0_init_18 : decode cX0_init 18 = .ok (.aload_n 2, 1) := by decide +kernel
theorem dX0_init_19 : decode cX0_init 19 = .ok (.putfield 19, 3) := by decide +kernel
theorem dX0_init_22 : decode cX0_init 22 = .ok (.return_, 1) := by decide +kernel
theorem dX10_init_0 : decode cX10_init 0 = .ok (.aload_n 0, 1) := by decide +kernel
theorem dX10_init_1 : decode cX10_init 1 = .ok (.invokespecial 3, 3) := by decide +kernel
theorem dX10_init_4 : decode cX10_init 4 = .ok (.aload_n 0, 1) := by decide +kernel
theorem dX10_init_5 : decode cX10_init 5 = .ok (.iconst 0, 1) := by decide +kernel
theorem dX10_init_6 : decode cX10_init 6 = .ok (.putfield 9, 3) := by decide +kernel
theorem dX10_init_9 : decode cX10_init 9 = .ok (.aload_n 0, 1) := by decide +kernel
theorem dX10_init_10 : decode cX10_init 10 = .ok (.iconst (-1), 1) := by decide +kernel
theorem dX10_init_11 : decode cX10_init 11 = .ok (.putfield 15, 3) := by decide +kernel
theorem dX10_init_14 : decode cX10_init 14 = .ok (.aload_n 0, 1) := by decide +kernel
theorem dX10_init_15 : decode cX10_init 15 = .ok (.bipush 60, 2) := by decide +kernel
theorem dX10_init_17 : decode cX10_init 17 = .ok (.newarray .long, 2) := by decide +kernel
theorem dX10_init_19 : decode cX10_init 19 = .ok (.putfield 18, 3) := by decide +kernel
theorem dX10_init_22 : decode cX10_init 22 = .ok (.return_, 1) := by decide +kernel
theorem dX11_at_0 : decode cX11_at 0 = .ok (.iload_n 1, 1) := by decide +kernel
theorem dX11_at_1 : decode cX11_at 1 = .ok (.ifCond .lt 15, 3) := by decide +kernel
theorem dX11_at_4 : decode cX11_at 4 = .ok (.iload_n 1, 1) := by decide +kernel
theorem dX11_at_5 : decode cX11_at 5 = .ok (.aload_n 0, 1) := by decide +kernel
theorem dX11_at_6 : decode cX11_at 6 = .ok (.arraylength, 1) := by decide +kernel
theorem dX11_at_7 : decode cX11_at 7 = .ok (.if_icmp .ge 9, 3) := by decide +kernel
theorem dX11_at_10 : decode cX11_at 10 = .ok (.aload_n 0, 1) := by decide +kernel
theorem dX11_at_11 : decode cX11_at 11 = .ok (.iload_n 1, 1) := by decide +kernel
theorem dX11_at_12 : decode cX11_at 12 = .ok (.iaload, 1) := by decide +kernel
theorem dX11_at_13 : decode cX11_at 13 = .ok (.goto 4, 3) := by decide +kernel
theorem dX11_at_17 : decode cX11_at 17 = .ok (.ireturn, 1) := by decide +kernel
theorem dX11_done_0 : decode cX11_done 0 = .ok (.aload_n 0, 1) := by decide +kernel
theorem dX11_done_1 : decode cX11_done 1 = .ok (.iconst 0, 1) := by decide +kernel
theorem dX11_done_2 : decode cX11_done 2 = .ok (.putfield 9, 3) := by decide +kernel
theorem dX11_done_5 : decode cX11_done 5 = .ok (.iconst 1, 1) := by decide +kernel
theorem dX11_done_6 : decode cX11_done 6 = .ok (.ireturn, 1) := by decide +kernel
theorem dX11_init_0 : decode cX11_init 0 = .ok (.aload_n 0, 1) := by decide +kernel
theorem dX11_init_1 : decode cX11_init 1 = .ok (.invokespecial 3, 3) := by decide +kernel
theorem dX11_init_4 : decode cX11_init 4 = .ok (.aload_n 0, 1) := by decide +kernel
theorem dX11_init_5 : decode cX11_init 5 = .ok (.iconst 0, 1) := by decide +kernel
theorem dX11_init_6 : decode cX11_init 6 = .ok (.putfield 9, 3) := by decide +kernel
theorem dX11_init_9 : decode cX11_init 9 = .ok (.aload_n 0, 1) := by decide +kernel
theorem dX11_init_10 : decode cX11_init 10 = .ok (.lconst 0, 1) := by decide +kernel
theorem dX11_init_11 : decode cX11_init 11 = .ok (.putfield 13, 3) := by decide +kernel
theorem dX11_init_14 : decode cX11_init 14 = .ok (.aload_n 0, 1) := by decide +kernel
theorem dX11_init_15 : decode cX11_init 15 = .ok (.lconst 1, 1) := by decide +kernel
theorem dX11_init_16 : decode cX11_init 16 = .ok (.putfield 17, 3) := by decide +kernel
theorem dX11_init_19 : decode cX11_init 19 = .ok (.aload_n 0, 1) := by decide +kernel
theorem dX11_init_20 : decode cX11_init 20 = .ok (.iconst 4, 1) := by decide +kernel
theorem dX11_init_21 : decode cX11_init 21 = .ok (.anewarray 20, 3) := by decide +kernel
theorem dX11_init_24 : decode cX11_init 24 = .ok (.putfield 22, 3) := by decide +kernel
theorem dX11_init_27 : decode cX11_init 27 = .ok (.aload_n 0, 1) := by decide +kernel
theorem dX11_init_28 : decode cX11_init 28 = .ok (.new 26, 3) := by decide +kernel
theorem dX11_init_31 : decode cX11_init 31 = .ok (.dup, 1) := by decide +kernel
theorem dX11_init_32 : decode cX11_init 32 = .ok (.invokespecial 28, 3) := by decide +kernel
theorem dX11_init_35 : decode cX11_init 35 = .ok (.putfield 29, 3) := by decide +kernel
theorem dX11_init_38 : decode cX11_init 38 = .ok (.aload_n 0, 1) := by decide +kernel
theorem dX11_init_39 : decode cX11_init 39 = .ok (.new 33, 3) := by decide +kernel
theorem dX11_init_42 : decode cX11_init 42 = .ok (.dup, 1) := by decide +kernel
theorem dX11_init_43 : decode cX11_init 43 = .ok (.invokespecial 35, 3) := by decide +kernel
theorem dX11_init_46 : decode cX11_init 46 = .ok (.putfield 36, 3) := by decide +kernel
theorem dX11_init_49 : decode cX11_init 49 = .ok (.aload_n 0, 1) := by decide +kernel
theorem dX11_init_50 : decode cX11_init 50 = .ok (.new 40, 3) := by decide +kernel
theorem dX11_init_53 : decode cX11_init 53 = .ok (.dup, 1) := by decide +kernel
theorem dX11_init_54 : decode cX11_init 54 = .ok (.aload_n 0, 1) := by decide +kernel
theorem dX11_init_55 : decode cX11_init 55 = .ok (.getfield 36, 3) := by decide +kernel
theorem dX11_init_58 : decode cX11_init 58 = .ok (.invokespecial 42, 3) := by decide +kernel
theorem dX11_init_61 : decode cX11_init 61 = .ok (.putfield 45, 3) := by decide +kernel
theorem dX11_init_64 : decode cX11_init 64 = .ok (.aload_n 0, 1) := by decide +kernel
theorem dX11_init_65 : decode cX11_init 65 = .ok (.new 49, 3) := by decide +kernel
theorem dX11_init_68 : decode cX11_init 68 = .ok (.dup, 1) := by decide +kernel
theorem dX11_init_69 : decode cX11_init 69 = .ok (.invokespecial 51, 3) := by decide +kernel
theorem dX11_init_72 : decode cX11_init 72 = .ok (.putfield 52, 3) := by decide +kernel
theorem dX11_init_75 : decode cX11_init 75 = .ok (.aload_n 0, 1) := by decide +kernel
theorem dX11_init_76 : decode cX11_init 76 = .ok (.new 56, 3) := by decide +kernel
theorem dX11_init_79 : decode cX11_init 79 = .ok (.dup, 1) := by decide +kernel
theorem dX11_init_80 : decode cX11_init 80 = .ok (.aload_n 0, 1) := by decide +kernel
theorem dX11_init_81 : decode cX11_init 81 = .ok (.getfield 29, 3) := by decide +kernel
theorem dX11_init_84 : decode cX11_init 84 = .ok (.invokespecial 58, 3) := by decide +kernel
theorem dX11_init_87 : decode cX11_init 87 = .ok (.putfield 61, 3) := by decide +kernel
theorem dX11_init_90 : decode cX11_init 90 = .ok (.aload_n 0, 1) := by decide +kernel
theorem dX11_init_91 : decode cX11_init 91 = .ok (.new 65, 3) := by decide +kernel
theorem dX11_init_94 : decode cX11_init 94 = .ok (.dup, 1) := by decide +kernel
theorem dX11_init_95 : decode cX11_init 95 = .ok (.aload_n 0, 1) := by decide +kernel
theorem dX11_init_96 : decode cX11_init 96 = .ok (.getfield 29, 3) := by decide +kernel
theorem dX11_init_99 : decode cX11_init 99 = .ok (.aload_n 0, 1) := by decide +kernel
theorem dX11_init_100 : decode cX11_init 100 = .ok (.getfield 36, 3) := by decide +kernel
theorem dX11_init_103 : decode cX11_init 103 = .ok (.invokespecial 67, 3) := by decide +kernel
theorem dX11_init_106 : decode cX11_init 106 = .ok (.putfield 70, 3) := by decide +kernel
theorem dX11_init_109 : decode cX11_init 109 = .ok (.aload_n 0, 1) := by decide +kernel
theorem dX11_init_110 : decode cX11_init 110 = .ok (.new 74, 3) := by decide +kernel
theorem dX11_init_113 : decode cX11_init 113 = .ok (.dup, 1) := by decide +kernel
theorem dX11_init_114 : decode cX11_init 114 = .ok (.aload_n 0, 1) := by decide +kernel
theorem dX11_init_115 : decode cX11_init 115 = .ok (.getfield 36, 3) := by decide +kernel
theorem dX11_init_118 : decode cX11_init 118 = .ok (.invokespecial 76, 3) := by decide +kernel
theorem dX11_init_121 : decode cX11_init 121 = .ok (.putfield 77, 3) := by decide +kernel
theorem dX11_init_124 : decode cX11_init 124 = .ok (.aload_n 0, 1) := by decide +kernel
theorem dX11_init_125 : decode cX11_init 125 = .ok (.new 81, 3) := by decide +kernel
theorem dX11_init_128 : decode cX11_init 128 = .ok (.dup, 1) := by decide +kernel
theorem dX11_init_129 : decode cX11_init 129 = .ok (.aload_n 0, 1) := by decide +kernel
theorem dX11_init_130 : decode cX11_init 130 = .ok (.getfield 36, 3) := by decide +kernel
theorem dX11_init_133 : decode cX11_init 133 = .ok (.invokespecial 83, 3) := by decide +kernel
theorem dX11_init_136 : decode cX11_init 136 = .ok (.putfield 84, 3) := by decide +kernel
theorem dX11_init_139 : decode cX11_init 139 = .ok (.aload_n 0, 1) := by decide +kernel
theorem dX11_init_140 : decode cX11_init 140 = .ok (.new 88, 3) := by decide +kernel
theorem dX11_init_143 : decode cX11_init 143 = .ok (.dup, 1) := by decide +kernel
theorem dX11_init_144 : decode cX11_init 144 = .ok (.aload_n 0, 1) := by decide +kernel
theorem dX11_init_145 : decode cX11_init 145 = .ok (.getfield 36, 3) := by decide +kernel
theorem dX11_init_148 : decode cX11_init 148 = .ok (.aload_n 0, 1) := by decide +kernel
theorem dX11_init_149 : decode cX11_init 149 = .ok (.getfield 45, 3) := by decide +kernel
theorem dX11_init_152 : decode cX11_init 152 = .ok (.invokespecial 90, 3) := by decide +kernel
theorem dX11_init_155 : decode cX11_init 155 = .ok (.putfield 93, 3) := by decide +kernel
theorem dX11_init_158 : decode cX11_init 158 = .ok (.aload_n 0, 1) := by decide +kernel
theorem dX11_init_159 : decode cX11_init 159 = .ok (.new 97, 3) := by decide +kernel
theorem dX11_init_162 : decode cX11_init 162 = .ok (.dup, 1) := by decide +kernel
theorem dX11_init_163 : decode cX11_init 163 = .ok (.aload_n 0, 1) := by decide +kernel
theorem dX11_init_164 : decode cX11_init 164 = .ok (.getfield 36, 3) := by decide +kernel
theorem dX11_init_167 : decode cX11_init 167 = .ok (.aload_n 0, 1) := by decide +kernel
theorem dX11_init_168 : decode cX11_init 168 = .ok (.getfield 52, 3) := by decide +kernel
theorem dX11_init_171 : decode cX11_init 171 = .ok (.invokespecial 99, 3) := by decide +kernel
theorem dX11_init_174 : decode cX11_init 174 = .ok (.putfield 102, 3) := by decide +kernel
theorem dX11_init_177 : decode cX11_init 177 = .ok (.aload_n 0, 1) := by decide +kernel
theorem dX11_init_178 : decode cX11_init 178 = .ok (.iconst 0, 1) := by decide +kernel
theorem dX11_init_179 : decode cX11_init 179 = .ok (.putfield 106, 3) := by decide +kernel
theorem dX11_init_182 : decode cX11_init 182 = .ok (.aload_n 0, 1) := by decide +kernel
theorem dX11_init_183 : decode cX11_init 183 = .ok (.iconst 3, 1) := by decide +kernel
theorem dX11_init_184 : decode cX11_init 184 = .ok (.anewarray 33, 3) := by decide +kernel
theorem dX11_init_187 : decode cX11_init 187 = .ok (.putfield 109, 3) := by decide +kernel
theorem dX11_init_190 : decode cX11_init 190 = .ok (.aload_n 0, 1) := by decide +kernel
theorem dX11_init_191 : decode cX11_init 191 = .ok (.iconst 3, 1) := by decide +kernel
theorem dX11_init_192 : decode cX11_init 192 = .ok (.anewarray 40, 3) := by decide +kernel
theorem dX11_init_195 : decode cX11_init 195 = .ok (.putfield 113, 3) := by decide +kernel
theorem dX11_init_198 : decode cX11_init 198 = .ok (.aload_n 0, 1) := by decide +kernel
theorem dX11_init_199 : decode cX11_init 199 = .ok (.iconst 3, 1) := by decide +kernel
theorem dX11_init_200 : decode cX11_init 200 = .ok (.anewarray 49, 3) := by decide +kernel
theorem dX11_init_203 : decode cX11_init 203 = .ok (.putfield 117, 3) := by decide +kernel
theorem dX11_init_206 : decode cX11_init 206 = .ok (.iconst 0, 1) := by decide +kernel
theorem dX11_init_207 : decode cX11_init 207 = .ok (.istore_n 1, 1) := by decide +kernel
theorem dX11_init_208 : decode cX11_init 208 = .ok (.iload_n 1, 1) := by decide +kernel
theorem dX11_init_209 : decode cX11_init 209 = .ok (.aload_n 0, 1) := by decide +kernel
theorem dX11_init_210 : decode cX11_init 210 = .ok (.getfield 22, 3) := by decide +kernel
theorem dX11_init_213 : decode cX11_init 213 = .ok (.arraylength, 1) := by decide +kernel
theorem dX11_init_214 : decode cX11_init 214 = .ok (.if_icmp .ge 22, 3) := by decide +kernel
theorem dX11_init_217 : decode cX11_init 217 = .ok (.aload_n 0, 1) := by decide +kernel
theorem dX11_init_218 : decode cX11_init 218 = .ok (.getfield 22, 3) := by decide +kernel
theorem dX11_init_221 : decode cX11_init 221 = .ok (.iload_n 1, 1) := by decide +kernel
theorem dX11_init_222 : decode cX11_init 222 = .ok (.new 20, 3) := by decide +kernel
theorem dX11_init_225 : decode cX11_init 225 = .ok (.dup, 1) := by decide +kernel
theorem dX11_init_226 : decode cX11_init 226 = .ok (.invokespecial 121, 3) := by decide +kernel
theorem dX11_init_229 : decode cX11_init 229 = .ok (.aastore, 1) := by decide +kernel
theorem dX11_init_230 : decode cX11_init 230 = .ok (.iinc 1 1, 3) := by decide +kernel
theorem dX11_init_233 : decode cX11_init 233 = .ok (.goto (-25), 3) := by decide +kernel
theorem dX11_init_236 : decode cX11_init 236 = .ok (.iconst 0, 1) := by decide +kernel
theorem dX11_init_237 : decode cX11_init 237 = .ok (.istore_n 1, 1) := by decide +kernel
theorem dX11_init_238 : decode cX11_init 238 = .ok (.iload_n 1, 1) := by decide +kernel
theorem dX11_init_239 : decode cX11_init 239 = .ok (.iconst 3, 1) := by decide +kernel
theorem dX11_init_240 : decode cX11_init 240 = .ok (.if_icmp .ge 52, 3) := by decide +kernel
theorem dX11_init_243 : decode cX11_init 243 = .ok (.aload_n 0, 1) := by decide +kernel
theorem dX11_init_244 : decode cX11_init 244 = .ok (.getfield 109, 3) := by decide +kernel
theorem dX11_init_247 : decode cX11_init 247 = .ok (.iload_n 1, 1) := by decide +kernel
theorem dX11_init_248 : decode cX11_init 248 = .ok (.new 33, 3) := by decide +kernel
theorem dX11_init_251 : decode cX11_init 251 = .ok (.dup, 1) := by decide +kernel
theorem dX11_init_252 : decode cX11_init 252 = .ok (.invokespecial 35, 3) := by decide +kernel
theorem dX11_init_255 : decode cX11_init 255 = .ok (.aastore, 1) := by decide +kernel
theorem dX11_init_256 : decode cX11_init 256 = .ok (.aload_n 0, 1) := by decide +kernel
theorem dX11_init_257 : decode cX11_init 257 = .ok (.getfield 113, 3) := by decide +kernel
theorem dX11_init_260 : decode cX11_init 260 = .ok (.iload_n 1, 1) := by decide +kernel
theorem dX11_init_261 : decode cX11_init 261 = .ok (.new 40, 3) := by decide +kernel
theorem dX11_init_264 : decode cX11_init 264 = .ok (.dup, 1) := by decide +kernel
theorem dX11_init_265 : decode cX11_init 265 = .ok (.aload_n 0, 1) := by decide +kernel
theorem dX11_init_266 : decode cX11_init 266 = .ok (.getfield 36, 3) := by decide +kernel
theorem dX11_init_269 : decode cX11_init 269 = .ok (.invokespecial 42, 3) := by decide +kernel
theorem dX11_init_272 : decode cX11_init 272 = .ok (.aastore, 1) := by decide +kernel
theorem dX11_init_273 : decode cX11_init 273 = .ok (.aload_n 0, 1) := by decide +kernel
theorem dX11_init_274 : decode cX11_init 274 = .ok (.getfield 117, 3) := by decide +kernel
theorem dX11_init_277 : decode cX11_init 277 = .ok (.iload_n 1, 1) := by decide +kernel
theorem dX11_init_278 : decode cX11_init 278 = .ok (.new 49, 3) := by decide +kernel
theorem dX11_init_281 : decode cX11_init 281 = .ok (.dup, 1) := by decide +kernel
theorem dX11_init_282 : decode cX11_init 282 = .ok (.invokespecial 51, 3) := by decide +kernel
theorem dX11_init_285 : decode cX11_init 285 = .ok (.aastore, 1) := by decide +kernel
theorem dX11_init_286 : decode cX11_init 286 = .ok (.iinc 1 1, 3) := by decide +kernel
theorem dX11_init_289 : decode cX11_init 289 = .ok (.goto (-51), 3) := by decide +kernel
theorem dX11_init_292 : decode cX11_init 292 = .ok (.return_, 1) := by decide +kernel
theorem dX11_keepAt_0 : decode cX11_keepAt 0 = .ok (.iload_n 1, 1) := by decide +kernel
theorem dX11_keepAt_1 : decode cX11_keepAt 1 = .ok (.ifCond .lt 13, 3) := by decide +kernel
theorem dX11_keepAt_4 : decode cX11_keepAt 4 = .ok (.iload_n 1, 1) := by decide +kernel
theorem dX11_keepAt_5 : decode cX11_keepAt 5 = .ok (.aload_n 0, 1) := by decide +kernel
theorem dX11_keepAt_6 : decode cX11_keepAt 6 = .ok (.arraylength, 1) := by decide +kernel
theorem dX11_keepAt_7 : decode cX11_keepAt 7 = .ok (.if_icmp .ge 7, 3) := by decide +kernel
theorem dX11_keepAt_10 : decode cX11_keepAt 10 = .ok (.aload_n 0, 1) := by decide +kernel
theorem dX11_keepAt_11 : decode cX11_keepAt 11 = .ok (.iload_n 1, 1) := by decide +kernel
theorem dX11_keepAt_12 : decode cX11_keepAt 12 = .ok (.iload_n 2, 1) := by decide +kernel
theorem dX11_keepAt_13 : decode cX11_keepAt 13 = .ok (.iastore, 1) := by decide +kernel
theorem dX11_keepAt_14 : decode cX11_keepAt 14 = .ok (.return_, 1) := by decide +kernel
theorem dX11_none_0 : decode cX11_none 0 = .ok (.aload_n 0, 1) := by decide +kernel
theorem dX11_none_1 : decode cX11_none 1 = .ok (.iload_n 1, 1) := by decide +kernel
theorem dX11_none_2 : decode cX11_none 2 = .ok (.putfield 9, 3) := by decide +kernel
theorem dX11_none_5 : decode cX11_none 5 = .ok (.iconst (-1), 1) := by decide +kernel
theorem dX11_none_6 : decode cX11_none 6 = .ok (.ireturn, 1) := by decide +kernel
theorem dX11_refused_0 : decode cX11_refused 0 = .ok (.aload_n 0, 1) := by decide +kernel
theorem dX11_refused_1 : decode cX11_refused 1 = .ok (.iload_n 1, 1) := by decide +kernel
theorem dX11_refused_2 : decode cX11_refused 2 = .ok (.putfield 9, 3) := by decide +kernel
theorem dX11_refused_5 : decode cX11_refused 5 = .ok (.iconst 0, 1) := by decide +kernel
theorem dX11_refused_6 : decode cX11_refused 6 = .ok (.ireturn, 1) := by decide +kernel
theorem dX11_told_0 : decode cX11_told 0 = .ok (.aload_n 0, 1) := by decide +kernel
theorem dX11_told_1 : decode cX11_told 1 = .ok (.iconst 0, 1) := by decide +kernel
theorem dX11_told_2 : decode cX11_told 2 = .ok (.putfield 9, 3) := by decide +kernel
theorem dX11_told_5 : decode cX11_told 5 = .ok (.iload_n 1, 1) := by decide +kernel
theorem dX11_told_6 : decode cX11_told 6 = .ok (.ireturn, 1) := by decide +kernel
theorem dX1_init_0 : decode cX1_init 0 = .ok (.aload_n 0, 1) := by decide +kernel
theorem dX1_init_1 : decode cX1_init 1 = .ok (.invokespecial 3, 3) := by decide +kernel
theorem dX1_init_4 : decode cX1_init 4 = .ok (.aload_n 0, 1) := by decide +kernel
theorem dX1_init_5 : decode cX1_init 5 = .ok (.bipush 60, 2) := by decide +kernel
theorem dX1_init_7 : decode cX1_init 7 = .ok (.newarray .int, 2) := by decide +kernel
theorem dX1_init_9 : decode cX1_init 9 = .ok (.putfield 11, 3) := by decide +kernel
theorem dX1_init_12 : decode cX1_init 12 = .ok (.aload_n 0, 1) := by decide +kernel
theorem dX1_init_13 : decode cX1_init 13 = .ok (.iconst 3, 1) := by decide +kernel
theorem dX1_init_14 : decode cX1_init 14 = .ok (.newarray .int, 2) := by decide +kernel
theorem dX1_init_16 : decode cX1_init 16 = .ok (.putfield 17, 3) := by decide +kernel
theorem dX1_init_19 : decode cX1_init 19 = .ok (.aload_n 0, 1) := by decide +kernel
theorem dX1_init_20 : decode cX1_init 20 = .ok (.bipush 7, 2) := by decide +kernel
theorem dX1_init_22 : decode cX1_init 22 = .ok (.newarray .int, 2) := by decide +kernel
theorem dX1_init_24 : decode cX1_init 24 = .ok (.putfield 20, 3) := by decide +kernel
theorem dX1_init_27 : decode cX1_init 27 = .ok (.aload_n 0, 1) := by decide +kernel
theorem dX1_init_28 : decode cX1_init 28 = .ok (.iconst 0, 1) := by decide +kernel
theorem dX1_init_29 : decode cX1_init 29 = .ok (.putfield 23, 3) := by decide +kernel
theorem dX1_init_32 : decode cX1_init 32 = .ok (.aload_n 0, 1) := by decide +kernel
theorem dX1_init_33 : decode cX1_init 33 = .ok (.aload_n 1, 1) := by decide +kernel
theorem dX1_init_34 : decode cX1_init 34 = .ok (.putfield 27, 3) := by decide +kernel
theorem dX1_init_37 : decode cX1_init 37 = .ok (.aload_n 0, 1) := by decide +kernel
theorem dX1_init_38 : decode cX1_init 38 = .ok (.aload_n 2, 1) := by decide +kernel
theorem dX1_init_39 : decode cX1_init 39 = .ok (.putfield 31, 3) := by decide +kernel
theorem dX1_init_42 : decode cX1_init 42 = .ok (.aload_n 0, 1) := by decide +kernel
theorem dX1_init_43 : decode cX1_init 43 = .ok (.new 35, 3) := by decide +kernel
theorem dX1_init_46 : decode cX1_init 46 = .ok (.dup, 1) := by decide +kernel
theorem dX1_init_47 : decode cX1_init 47 = .ok (.aload_n 1, 1) := by decide +kernel
theorem dX1_init_48 : decode cX1_init 48 = .ok (.invokespecial 37, 3) := by decide +kernel
theorem dX1_init_51 : decode cX1_init 51 = .ok (.putfield 40, 3) := by decide +kernel
theorem dX1_init_54 : decode cX1_init 54 = .ok (.return_, 1) := by decide +kernel
theorem dX2_clear_0 : decode cX2_clear 0 = .ok (.aload_n 0, 1) := by decide +kernel
theorem dX2_clear_1 : decode cX2_clear 1 = .ok (.iconst 0, 1) := by decide +kernel
theorem dX2_clear_2 : decode cX2_clear 2 = .ok (.putfield 49, 3) := by decide +kernel
theorem dX2_clear_5 : decode cX2_clear 5 = .ok (.aload_n 0, 1) := by decide +kernel
theorem dX2_clear_6 : decode cX2_clear 6 = .ok (.iconst 0, 1) := by decide +kernel
theorem dX2_clear_7 : decode cX2_clear 7 = .ok (.putfield 53, 3) := by decide +kernel
theorem dX2_clear_10 : decode cX2_clear 10 = .ok (.aload_n 0, 1) := by decide +kernel
theorem dX2_clear_11 : decode cX2_clear 11 = .ok (.iconst 0, 1) := by decide +kernel
theorem dX2_clear_12 : decode cX2_clear 12 = .ok (.putfield 56, 3) := by decide +kernel
theorem dX2_clear_15 : decode cX2_clear 15 = .ok (.aload_n 0, 1) := by decide +kernel
theorem dX2_clear_16 : decode cX2_clear 16 = .ok (.iconst 0, 1) := by decide +kernel
theorem dX2_clear_17 : decode cX2_clear 17 = .ok (.putfield 59, 3) := by decide +kernel
theorem dX2_clear_20 : decode cX2_clear 20 = .ok (.aload_n 0, 1) := by decide +kernel
theorem dX2_clear_21 : decode cX2_clear 21 = .ok (.iconst 0, 1) := by decide +kernel
theorem dX2_clear_22 : decode cX2_clear 22 = .ok (.putfield 62, 3) := by decide +kernel
theorem dX2_clear_25 : decode cX2_clear 25 = .ok (.aload_n 0, 1) := by decide +kernel
theorem dX2_clear_26 : decode cX2_clear 26 = .ok (.iconst 0, 1) := by decide +kernel
theorem dX2_clear_27 : decode cX2_clear 27 = .ok (.iconst 1, 1) := by decide +kernel
theorem dX2_clear_28 : decode cX2_clear 28 = .ok (.invokevirtual 65, 3) := by decide +kernel
theorem dX2_clear_31 : decode cX2_clear 31 = .ok (.aload_n 0, 1) := by decide +kernel
theorem dX2_clear_32 : decode cX2_clear 32 = .ok (.iconst 1, 1) := by decide +kernel
theorem dX2_clear_33 : decode cX2_clear 33 = .ok (.iconst 4, 1) := by decide +kernel
theorem dX2_clear_34 : decode cX2_clear 34 = .ok (.invokevirtual 65, 3) := by decide +kernel
theorem dX2_clear_37 : decode cX2_clear 37 = .ok (.aload_n 0, 1) := by decide +kernel
theorem dX2_clear_38 : decode cX2_clear 38 = .ok (.iconst 2, 1) := by decide +kernel
theorem dX2_clear_39 : decode cX2_clear 39 = .ok (.iconst 1, 1) := by decide +kernel
theorem dX2_clear_40 : decode cX2_clear 40 = .ok (.invokevirtual 65, 3) := by decide +kernel
theorem dX2_clear_43 : decode cX2_clear 43 = .ok (.aload_n 0, 1) := by decide +kernel
theorem dX2_clear_44 : decode cX2_clear 44 = .ok (.iconst 3, 1) := by decide +kernel
theorem dX2_clear_45 : decode cX2_clear 45 = .ok (.bipush 9, 2) := by decide +kernel
theorem dX2_clear_47 : decode cX2_clear 47 = .ok (.invokevirtual 65, 3) := by decide +kernel
theorem dX2_clear_50 : decode cX2_clear 50 = .ok (.aload_n 0, 1) := by decide +kernel
theorem dX2_clear_51 : decode cX2_clear 51 = .ok (.bipush 8, 2) := by decide +kernel
theorem dX2_clear_53 : decode cX2_clear 53 = .ok (.putfield 69, 3) := by decide +kernel
theorem dX2_clear_56 : decode cX2_clear 56 = .ok (.aload_n 0, 1) := by decide +kernel
theorem dX2_clear_57 : decode cX2_clear 57 = .ok (.iconst 0, 1) := by decide +kernel
theorem dX2_clear_58 : decode cX2_clear 58 = .ok (.putfield 72, 3) := by decide +kernel
theorem dX2_clear_61 : decode cX2_clear 61 = .ok (.return_, 1) := by decide +kernel
theorem dX2_hasDoor_0 : decode cX2_hasDoor 0 = .ok (.iload_n 1, 1) := by decide +kernel
theorem dX2_hasDoor_1 : decode cX2_hasDoor 1 = .ok (.ifCond .lt 15, 3) := by decide +kernel
theorem dX2_hasDoor_4 : decode cX2_hasDoor 4 = .ok (.iload_n 1, 1) := by decide +kernel
theorem dX2_hasDoor_5 : decode cX2_hasDoor 5 = .ok (.aload_n 0, 1) := by decide +kernel
theorem dX2_hasDoor_6 : decode cX2_hasDoor 6 = .ok (.getfield 62, 3) := by decide +kernel
theorem dX2_hasDoor_9 : decode cX2_hasDoor 9 = .ok (.if_icmp .ge 7, 3) := by decide +kernel
theorem dX2_hasDoor_16 : decode cX2_hasDoor 16 = .ok (.iconst 0, 1) := by decide +kernel
theorem dX2_hasDoor_17 : decode cX2_hasDoor 17 = .ok (.ireturn, 1) := by decide +kernel
theorem dX2_hasFeature_0 : decode cX2_hasFeature 0 = .ok (.iload_n 1, 1) := by decide +kernel
theorem dX2_hasFeature_1 : decode cX2_hasFeature 1 = .ok (.ifCond .lt 15, 3) := by decide +kernel
theorem dX2_hasFeature_4 : decode cX2_hasFeature 4 = .ok (.iload_n 1, 1) := by decide +kernel
theorem dX2_hasFeature_5 : decode cX2_hasFeature 5 = .ok (.aload_n 0, 1) := by decide +kernel
theorem dX2_hasFeature_6 : decode cX2_hasFeature 6 = .ok (.getfield 49, 3) := by decide +kernel
theorem dX2_hasFeature_9 : decode cX2_hasFeature 9 = .ok (.if_icmp .ge 7, 3) := by decide +kernel
theorem dX2_hasFeature_16 : decode cX2_hasFeature 16 = .ok (.iconst 0, 1) := by decide +kernel
theorem dX2_hasFeature_17 : decode cX2_hasFeature 17 = .ok (.ireturn, 1) := by decide +kernel
theorem dX2_hasKey_0 : decode cX2_hasKey 0 = .ok (.iload_n 1, 1) := by decide +kernel
theorem dX2_hasKey_1 : decode cX2_hasKey 1 = .ok (.ifCond .lt 15, 3) := by decide +kernel
theorem dX2_hasKey_4 : decode cX2_hasKey 4 = .ok (.iload_n 1, 1) := by decide +kernel
theorem dX2_hasKey_5 : decode cX2_hasKey 5 = .ok (.aload_n 0, 1) := by decide +kernel
theorem dX2_hasKey_6 : decode cX2_hasKey 6 = .ok (.getfield 53, 3) := by decide +kernel
theorem dX2_hasKey_9 : decode cX2_hasKey 9 = .ok (.if_icmp .ge 7, 3) := by decide +kernel
theorem dX2_hasKey_16 : decode cX2_hasKey 16 = .ok (.iconst 0, 1) := by decide +kernel
theorem dX2_hasKey_17 : decode cX2_hasKey 17 = .ok (.ireturn, 1) := by decide +kernel
theorem dX2_hasRing_0 : decode cX2_hasRing 0 = .ok (.iload_n 1, 1) := by decide +kernel
theorem dX2_hasRing_1 : decode cX2_hasRing 1 = .ok (.ifCond .lt 15, 3) := by decide +kernel
theorem dX2_hasRing_4 : decode cX2_hasRing 4 = .ok (.iload_n 1, 1) := by decide +kernel
theorem dX2_hasRing_5 : decode cX2_hasRing 5 = .ok (.aload_n 0, 1) := by decide +kernel
theorem dX2_hasRing_6 : decode cX2_hasRing 6 = .ok (.getfield 59, 3) := by decide +kernel
theorem dX2_hasRing_9 : decode cX2_hasRing 9 = .ok (.if_icmp .ge 7, 3) := by decide +kernel
theorem dX2_hasRing_16 : decode cX2_hasRing 16 = .ok (.iconst 0, 1) := by decide +kernel
theorem dX2_hasRing_17 : decode cX2_hasRing 17 = .ok (.ireturn, 1) := by decide +kernel
theorem dX2_hasStep_0 : decode cX2_hasStep 0 = .ok (.iload_n 2, 1) := by decide +kernel
theorem dX2_hasStep_1 : decode cX2_hasStep 1 = .ok (.ifCond .lt 16, 3) := by decide +kernel
theorem dX2_hasStep_4 : decode cX2_hasStep 4 = .ok (.iload_n 2, 1) := by decide +kernel
theorem dX2_hasStep_5 : decode cX2_hasStep 5 = .ok (.aload_n 0, 1) := by decide +kernel
theorem dX2_hasStep_6 : decode cX2_hasStep 6 = .ok (.iload_n 1, 1) := by decide +kernel
theorem dX2_hasStep_7 : decode cX2_hasStep 7 = .ok (.invokevirtual 81, 3) := by decide +kernel
theorem dX2_hasStep_10 : decode cX2_hasStep 10 = .ok (.if_icmp .ge 7, 3) := by decide +kernel
theorem dX2_hasStep_17 : decode cX2_hasStep 17 = .ok (.iconst 0, 1) := by decide +kernel
theorem dX2_hasStep_18 : decode cX2_hasStep 18 = .ok (.ireturn, 1) := by decide +kernel
theorem dX2_init_0 : decode cX2_init 0 = .ok (.aload_n 0, 1) := by decide +kernel
theorem dX2_init_1 : decode cX2_init 1 = .ok (.invokespecial 3, 3) := by decide +kernel
theorem dX2_init_4 : decode cX2_init 4 = .ok (.aload_n 0, 1) := by decide +kernel
theorem dX2_init_5 : decode cX2_init 5 = .ok (.iconst 3, 1) := by decide +kernel
theorem dX2_init_6 : decode cX2_init 6 = .ok (.newarray .long, 2) := by decide +kernel
theorem dX2_init_8 : decode cX2_init 8 = .ok (.putfield 9, 3) := by decide +kernel
theorem dX2_init_11 : decode cX2_init 11 = .ok (.aload_n 0, 1) := by decide +kernel
theorem dX2_init_12 : decode cX2_init 12 = .ok (.iconst 3, 1) := by decide +kernel
theorem dX2_init_13 : decode cX2_init 13 = .ok (.newarray .int, 2) := by decide +kernel
theorem dX2_init_15 : decode cX2_init 15 = .ok (.putfield 15, 3) := by decide +kernel
theorem dX2_init_18 : decode cX2_init 18 = .ok (.aload_n 0, 1) := by decide +kernel
theorem dX2_init_19 : decode cX2_init 19 = .ok (.iconst 3, 1) := by decide +kernel
theorem dX2_init_20 : decode cX2_init 20 = .ok (.newarray .int, 2) := by decide +kernel
theorem dX2_init_22 : decode cX2_init 22 = .ok (.putfield 19, 3) := by decide +kernel
theorem dX2_init_25 : decode cX2_init 25 = .ok (.aload_n 0, 1) := by decide +kernel
theorem dX2_init_26 : decode cX2_init 26 = .ok (.bipush 48, 2) := by decide +kernel
theorem dX2_init_28 : decode cX2_init 28 = .ok (.newarray .int, 2) := by decide +kernel
theorem dX2_init_30 : decode cX2_init 30 = .ok (.putfield 22, 3) := by decide +kernel
theorem dX2_init_33 : decode cX2_init 33 = .ok (.aload_n 0, 1) := by decide +kernel
theorem dX2_init_34 : decode cX2_init 34 = .ok (.bipush 30, 2) := by decide +kernel
theorem dX2_init_36 : decode cX2_init 36 = .ok (.newarray .int, 2) := by decide +kernel
theorem dX2_init_38 : decode cX2_init 38 = .ok (.putfield 25, 3) := by decide +kernel
theorem dX2_init_41 : decode cX2_init 41 = .ok (.aload_n 0, 1) := by decide +kernel
theorem dX2_init_42 : decode cX2_init 42 = .ok (.bipush 30, 2) := by decide +kernel
theorem dX2_init_44 : decode cX2_init 44 = .ok (.newarray .int, 2) := by decide +kernel
theorem dX2_init_46 : decode cX2_init 46 = .ok (.putfield 28, 3) := by decide +kernel
theorem dX2_init_49 : decode cX2_init 49 = .ok (.aload_n 0, 1) := by decide +kernel
theorem dX2_init_50 : decode cX2_init 50 = .ok (.iconst 3, 1) := by decide +kernel
theorem dX2_init_51 : decode cX2_init 51 = .ok (.newarray .int, 2) := by decide +kernel
theorem dX2_init_53 : decode cX2_init 53 = .ok (.putfield 31, 3) := by decide +kernel
theorem dX2_init_56 : decode cX2_init 56 = .ok (.aload_n 0, 1) := by decide +kernel
theorem dX2_init_57 : decode cX2_init 57 = .ok (.iconst 5, 1) := by decide +kernel
theorem dX2_init_58 : decode cX2_init 58 = .ok (.newarray .int, 2) := by decide +kernel
theorem dX2_init_60 : decode cX2_init 60 = .ok (.putfield 34, 3) := by decide +kernel
theorem dX2_init_63 : decode cX2_init 63 = .ok (.aload_n 0, 1) := by decide +kernel
theorem dX2_init_64 : decode cX2_init 64 = .ok (.iconst 5, 1) := by decide +kernel
theorem dX2_init_65 : decode cX2_init 65 = .ok (.newarray .int, 2) := by decide +kernel
theorem dX2_init_67 : decode cX2_init 67 = .ok (.putfield 37, 3) := by decide +kernel
theorem dX2_init_70 : decode cX2_init 70 = .ok (.aload_n 0, 1) := by decide +kernel
theorem dX2_init_71 : decode cX2_init 71 = .ok (.iconst 4, 1) := by decide +kernel
theorem dX2_init_72 : decode cX2_init 72 = .ok (.newarray .int, 2) := by decide +kernel
theorem dX2_init_74 : decode cX2_init 74 = .ok (.putfield 40, 3) := by decide +kernel
theorem dX2_init_77 : decode cX2_init 77 = .ok (.aload_n 0, 1) := by decide +kernel
theorem dX2_init_78 : decode cX2_init 78 = .ok (.bipush 12, 2) := by decide +kernel
theorem dX2_init_80 : decode cX2_init 80 = .ok (.newarray .int, 2) := by decide +kernel
theorem dX2_init_82 : decode cX2_init 82 = .ok (.putfield 43, 3) := by decide +kernel
theorem dX2_init_85 : decode cX2_init 85 = .ok (.aload_n 0, 1) := by decide +kernel
theorem dX2_init_86 : decode cX2_init 86 = .ok (.invokevirtual 46, 3) := by decide +kernel
theorem dX2_init_89 : decode cX2_init 89 = .ok (.return_, 1) := by decide +kernel
theorem dX2_secondsOf_0 : decode cX2_secondsOf 0 = .ok (.aload_n 0, 1) := by decide +kernel
theorem dX2_secondsOf_1 : decode cX2_secondsOf 1 = .ok (.getfield 40, 3) := by decide +kernel
theorem dX2_secondsOf_4 : decode cX2_secondsOf 4 = .ok (.iload_n 1, 1) := by decide +kernel
theorem dX2_secondsOf_5 : decode cX2_secondsOf 5 = .ok (.invokestatic 89, 3) := by decide +kernel
theorem dX2_secondsOf_8 : decode cX2_secondsOf 8 = .ok (.ireturn, 1) := by decide +kernel
theorem dX2_setSeconds_0 : decode cX2_setSeconds 0 = .ok (.aload_n 0, 1) := by decide +kernel
theorem dX2_setSeconds_1 : decode cX2_setSeconds 1 = .ok (.getfield 40, 3) := by decide +kernel
theorem dX2_setSeconds_4 : decode cX2_setSeconds 4 = .ok (.iload_n 1, 1) := by decide +kernel
theorem dX2_setSeconds_5 : decode cX2_setSeconds 5 = .ok (.iload_n 2, 1) := by decide +kernel
theorem dX2_setSeconds_6 : decode cX2_setSeconds 6 = .ok (.invokestatic 126, 3) := by decide +kernel
theorem dX2_setSeconds_9 : decode cX2_setSeconds 9 = .ok (.return_, 1) := by decide +kernel
theorem dX2_stepsOf_0 : decode cX2_stepsOf 0 = .ok (.aload_n 0, 1) := by decide +kernel
theorem dX2_stepsOf_1 : decode cX2_stepsOf 1 = .ok (.iload_n 1, 1) := by decide +kernel
theorem dX2_stepsOf_2 : decode cX2_stepsOf 2 = .ok (.invokevirtual 85, 3) := by decide +kernel
theorem dX2_stepsOf_5 : decode cX2_stepsOf 5 = .ok (.ifCond .eq 14, 3) := by decide +kernel
theorem dX2_stepsOf_19 : decode cX2_stepsOf 19 = .ok (.iconst 0, 1) := by decide +kernel
theorem dX2_stepsOf_20 : decode cX2_stepsOf 20 = .ok (.ireturn, 1) := by decide +kernel
theorem dX3_init_0 : decode cX3_init 0 = .ok (.aload_n 0, 1) := by decide +kernel
theorem dX3_init_1 : decode cX3_init 1 = .ok (.invokespecial 3, 3) := by decide +kernel
theorem dX3_init_4 : decode cX3_init 4 = .ok (.aload_n 0, 1) := by decide +kernel
theorem dX3_init_5 : decode cX3_init 5 = .ok (.new 9, 3) := by decide +kernel
theorem dX3_init_8 : decode cX3_init 8 = .ok (.dup, 1) := by decide +kernel
theorem dX3_init_9 : decode cX3_init 9 = .ok (.invokespecial 11, 3) := by decide +kernel
theorem dX3_init_12 : decode cX3_init 12 = .ok (.putfield 12, 3) := by decide +kernel
theorem dX3_init_15 : decode cX3_init 15 = .ok (.aload_n 0, 1) := by decide +kernel
theorem dX3_init_16 : decode cX3_init 16 = .ok (.iconst 3, 1) := by decide +kernel
theorem dX3_init_17 : decode cX3_init 17 = .ok (.newarray .long, 2) := by decide +kernel
theorem dX3_init_19 : decode cX3_init 19 = .ok (.putfield 18, 3) := by decide +kernel
theorem dX3_init_22 : decode cX3_init 22 = .ok (.aload_n 0, 1) := by decide +kernel
theorem dX3_init_23 : decode cX3_init 23 = .ok (.bipush 10, 2) := by decide +kernel
theorem dX3_init_25 : decode cX3_init 25 = .ok (.newarray .long, 2) := by decide +kernel
theorem dX3_init_27 : decode cX3_init 27 = .ok (.putfield 22, 3) := by decide +kernel
theorem dX3_init_30 : decode cX3_init 30 = .ok (.aload_n 0, 1) := by decide +kernel
theorem dX3_init_31 : decode cX3_init 31 = .ok (.iconst 3, 1) := by decide +kernel
theorem dX3_init_32 : decode cX3_init 32 = .ok (.newarray .long, 2) := by decide +kernel
theorem dX3_init_34 : decode cX3_init 34 = .ok (.putfield 25, 3) := by decide +kernel
theorem dX3_init_37 : decode cX3_init 37 = .ok (.aload_n 0, 1) := by decide +kernel
theorem dX3_init_38 : decode cX3_init 38 = .ok (.iconst 5, 1) := by decide +kernel
theorem dX3_init_39 : decode cX3_init 39 = .ok (.newarray .long, 2) := by decide +kernel
theorem dX3_init_41 : decode cX3_init 41 = .ok (.putfield 28, 3) := by decide +kernel
theorem dX3_init_44 : decode cX3_init 44 = .ok (.aload_n 0, 1) := by decide +kernel
theorem dX3_init_45 : decode cX3_init 45 = .ok (.aload_n 1, 1) := by decide +kernel
theorem dX3_init_46 : decode cX3_init 46 = .ok (.putfield 31, 3) := by decide +kernel
theorem dX3_init_49 : decode cX3_init 49 = .ok (.return_, 1) := by decide +kernel
theorem dX4_init_0 : decode cX4_init 0 = .ok (.aload_n 0, 1) := by decide +kernel
theorem dX4_init_1 : decode cX4_init 1 = .ok (.invokespecial 3, 3) := by decide +kernel
theorem dX4_init_4 : decode cX4_init 4 = .ok (.aload_n 0, 1) := by decide +kernel
theorem dX4_init_5 : decode cX4_init 5 = .ok (.bipush 10, 2) := by decide +kernel
theorem dX4_init_7 : decode cX4_init 7 = .ok (.newarray .int, 2) := by decide +kernel
theorem dX4_init_9 : decode cX4_init 9 = .ok (.putfield 9, 3) := by decide +kernel
theorem dX4_init_12 : decode cX4_init 12 = .ok (.aload_n 0, 1) := by decide +kernel
theorem dX4_init_13 : decode cX4_init 13 = .ok (.aload_n 1, 1) := by decide +kernel
theorem dX4_init_14 : decode cX4_init 14 = .ok (.putfield 15, 3) := by decide +kernel
theorem dX4_init_17 : decode cX4_init 17 = .ok (.return_, 1) := by decide +kernel
theorem dX5_init_0 : decode cX5_init 0 = .ok (.aload_n 0, 1) := by decide +kernel
theorem dX5_init_1 : decode cX5_init 1 = .ok (.invokespecial 5, 3) := by decide +kernel
theorem dX5_init_4 : decode cX5_init 4 = .ok (.aload_n 0, 1) := by decide +kernel
theorem dX5_init_5 : decode cX5_init 5 = .ok (.iconst 0, 1) := by decide +kernel
theorem dX5_init_6 : decode cX5_init 6 = .ok (.putfield 11, 3) := by decide +kernel
theorem dX5_init_9 : decode cX5_init 9 = .ok (.aload_n 0, 1) := by decide +kernel
theorem dX5_init_10 : decode cX5_init 10 = .ok (.iconst 0, 1) := by decide +kernel
theorem dX5_init_11 : decode cX5_init 11 = .ok (.putfield 15, 3) := by decide +kernel
theorem dX5_init_14 : decode cX5_init 14 = .ok (.aload_n 0, 1) := by decide +kernel
theorem dX5_init_15 : decode cX5_init 15 = .ok (.iconst 0, 1) := by decide +kernel
theorem dX5_init_16 : decode cX5_init 16 = .ok (.putfield 18, 3) := by decide +kernel
theorem dX5_init_19 : decode cX5_init 19 = .ok (.aload_n 0, 1) := by decide +kernel
theorem dX5_init_20 : decode cX5_init 20 = .ok (.bipush 60, 2) := by decide +kernel
theorem dX5_init_22 : decode cX5_init 22 = .ok (.newarray .int, 2) := by decide +kernel
theorem dX5_init_24 : decode cX5_init 24 = .ok (.putfield 22, 3) := by decide +kernel
theorem dX5_init_27 : decode cX5_init 27 = .ok (.aload_n 0, 1) := by decide +kernel
theorem dX5_init_28 : decode cX5_init 28 = .ok (.bipush 60, 2) := by decide +kernel
theorem dX5_init_30 : decode cX5_init 30 = .ok (.newarray .int, 2) := by decide +kernel
theorem dX5_init_32 : decode cX5_init 32 = .ok (.putfield 26, 3) := by decide +kernel
theorem dX5_init_35 : decode cX5_init 35 = .ok (.aload_n 0, 1) := by decide +kernel
theorem dX5_init_36 : decode cX5_init 36 = .ok (.bipush 60, 2) := by decide +kernel
theorem dX5_init_38 : decode cX5_init 38 = .ok (.newarray .int, 2) := by decide +kernel
theorem dX5_init_40 : decode cX5_init 40 = .ok (.putfield 29, 3) := by decide +kernel
theorem dX5_init_43 : decode cX5_init 43 = .ok (.aload_n 0, 1) := by decide +kernel
theorem dX5_init_44 : decode cX5_init 44 = .ok (.bipush 60, 2) := by decide +kernel
theorem dX5_init_46 : decode cX5_init 46 = .ok (.newarray .int, 2) := by decide +kernel
theorem dX5_init_48 : decode cX5_init 48 = .ok (.putfield 32, 3) := by decide +kernel
theorem dX5_init_51 : decode cX5_init 51 = .ok (.aload_n 0, 1) := by decide +kernel
theorem dX5_init_52 : decode cX5_init 52 = .ok (.bipush 60, 2) := by decide +kernel
theorem dX5_init_54 : decode cX5_init 54 = .ok (.newarray .int, 2) := by decide +kernel
theorem dX5_init_56 : decode cX5_init 56 = .ok (.putfield 35, 3) := by decide +kernel
theorem dX5_init_59 : decode cX5_init 59 = .ok (.return_, 1) := by decide +kernel
theorem dX6_init_0 : decode cX6_init 0 = .ok (.aload_n 0, 1) := by decide +kernel
theorem dX6_init_1 : decode cX6_init 1 = .ok (.invokespecial 3, 3) := by decide +kernel
theorem dX6_init_4 : decode cX6_init 4 = .ok (.aload_n 0, 1) := by decide +kernel
theorem dX6_init_5 : decode cX6_init 5 = .ok (.new 9, 3) := by decide +kernel
theorem dX6_init_8 : decode cX6_init 8 = .ok (.dup, 1) := by decide +kernel
theorem dX6_init_9 : decode cX6_init 9 = .ok (.invokespecial 11, 3) := by decide +kernel
theorem dX6_init_12 : decode cX6_init 12 = .ok (.putfield 12, 3) := by decide +kernel
theorem dX6_init_15 : decode cX6_init 15 = .ok (.aload_n 0, 1) := by decide +kernel
theorem dX6_init_16 : decode cX6_init 16 = .ok (.iconst 3, 1) := by decide +kernel
theorem dX6_init_17 : decode cX6_init 17 = .ok (.newarray .int, 2) := by decide +kernel
theorem dX6_init_19 : decode cX6_init 19 = .ok (.putfield 18, 3) := by decide +kernel
theorem dX6_init_22 : decode cX6_init 22 = .ok (.aload_n 0, 1) := by decide +kernel
theorem dX6_init_23 : decode cX6_init 23 = .ok (.aload_n 1, 1) := by decide +kernel
theorem dX6_init_24 : decode cX6_init 24 = .ok (.putfield 22, 3) := by decide +kernel
theorem dX6_init_27 : decode cX6_init 27 = .ok (.aload_n 0, 1) := by decide +kernel
theorem dX6_init_28 : decode cX6_init 28 = .ok (.aload_n 2, 1) := by decide +kernel
theorem dX6_init_29 : decode cX6_init 29 = .ok (.putfield 26, 3) := by decide +kernel
theorem dX6_init_32 : decode cX6_init 32 = .ok (.return_, 1) := by decide +kernel
theorem dX7_init_0 : decode cX7_init 0 = .ok (.aload_n 0, 1) := by decide +kernel
theorem dX7_init_1 : decode cX7_init 1 = .ok (.invokespecial 3, 3) := by decide +kernel
theorem dX7_init_4 : decode cX7_init 4 = .ok (.aload_n 0, 1) := by decide +kernel
theorem dX7_init_5 : decode cX7_init 5 = .ok (.bipush 10, 2) := by decide +kernel
theorem dX7_init_7 : decode cX7_init 7 = .ok (.newarray .int, 2) := by decide +kernel
theorem dX7_init_9 : decode cX7_init 9 = .ok (.putfield 9, 3) := by decide +kernel
theorem dX7_init_12 : decode cX7_init 12 = .ok (.aload_n 0, 1) := by decide +kernel
theorem dX7_init_13 : decode cX7_init 13 = .ok (.bipush 10, 2) := by decide +kernel
theorem dX7_init_15 : decode cX7_init 15 = .ok (.newarray .int, 2) := by decide +kernel
theorem dX7_init_17 : decode cX7_init 17 = .ok (.putfield 15, 3) := by decide +kernel
theorem dX7_init_20 : decode cX7_init 20 = .ok (.aload_n 0, 1) := by decide +kernel
theorem dX7_init_21 : decode cX7_init 21 = .ok (.iconst 0, 1) := by decide +kernel
theorem dX7_init_22 : decode cX7_init 22 = .ok (.putfield 18, 3) := by decide +kernel
theorem dX7_init_25 : decode cX7_init 25 = .ok (.aload_n 0, 1) := by decide +kernel
theorem dX7_init_26 : decode cX7_init 26 = .ok (.iconst 3, 1) := by decide +kernel
theorem dX7_init_27 : decode cX7_init 27 = .ok (.newarray .int, 2) := by decide +kernel
theorem dX7_init_29 : decode cX7_init 29 = .ok (.putfield 22, 3) := by decide +kernel
theorem dX7_init_32 : decode cX7_init 32 = .ok (.aload_n 0, 1) := by decide +kernel
theorem dX7_init_33 : decode cX7_init 33 = .ok (.iconst 3, 1) := by decide +kernel
theorem dX7_init_34 : decode cX7_init 34 = .ok (.newarray .int, 2) := by decide +kernel
theorem dX7_init_36 : decode cX7_init 36 = .ok (.putfield 25, 3) := by decide +kernel
theorem dX7_init_39 : decode cX7_init 39 = .ok (.aload_n 0, 1) := by decide +kernel
theorem dX7_init_40 : decode cX7_init 40 = .ok (.iconst 3, 1) := by decide +kernel
theorem dX7_init_41 : decode cX7_init 41 = .ok (.newarray .int, 2) := by decide +kernel
theorem dX7_init_43 : decode cX7_init 43 = .ok (.putfield 28, 3) := by decide +kernel
theorem dX7_init_46 : decode cX7_init 46 = .ok (.aload_n 0, 1) := by decide +kernel
theorem dX7_init_47 : decode cX7_init 47 = .ok (.iconst 3, 1) := by decide +kernel
theorem dX7_init_48 : decode cX7_init 48 = .ok (.newarray .boolean, 2) := by decide +kernel
theorem dX7_init_50 : decode cX7_init 50 = .ok (.putfield 31, 3) := by decide +kernel
theorem dX7_init_53 : decode cX7_init 53 = .ok (.aload_n 0, 1) := by decide +kernel
theorem dX7_init_54 : decode cX7_init 54 = .ok (.lconst 0, 1) := by decide +kernel
theorem dX7_init_55 : decode cX7_init 55 = .ok (.putfield 35, 3) := by decide +kernel
theorem dX7_init_58 : decode cX7_init 58 = .ok (.aload_n 0, 1) := by decide +kernel
theorem dX7_init_59 : decode cX7_init 59 = .ok (.lconst 1, 1) := by decide +kernel
theorem dX7_init_60 : decode cX7_init 60 = .ok (.putfield 39, 3) := by decide +kernel
theorem dX7_init_63 : decode cX7_init 63 = .ok (.aload_n 0, 1) := by decide +kernel
theorem dX7_init_64 : decode cX7_init 64 = .ok (.aload_n 1, 1) := by decide +kernel
theorem dX7_init_65 : decode cX7_init 65 = .ok (.putfield 42, 3) := by decide +kernel
theorem dX7_init_68 : decode cX7_init 68 = .ok (.return_, 1) := by decide +kernel
theorem dX8_init_0 : decode cX8_init 0 = .ok (.aload_n 0, 1) := by decide +kernel
theorem dX8_init_1 : decode cX8_init 1 = .ok (.invokespecial 3, 3) := by decide +kernel
theorem dX8_init_4 : decode cX8_init 4 = .ok (.aload_n 0, 1) := by decide +kernel
theorem dX8_init_5 : decode cX8_init 5 = .ok (.sipush 900, 3) := by decide +kernel
theorem dX8_init_8 : decode cX8_init 8 = .ok (.newarray .byte, 2) := by decide +kernel
theorem dX8_init_10 : decode cX8_init 10 = .ok (.putfield 11, 3) := by decide +kernel
theorem dX8_init_13 : decode cX8_init 13 = .ok (.aload_n 0, 1) := by decide +kernel
theorem dX8_init_14 : decode cX8_init 14 = .ok (.iconst 0, 1) := by decide +kernel
theorem dX8_init_15 : decode cX8_init 15 = .ok (.putfield 15, 3) := by decide +kernel
theorem dX8_init_18 : decode cX8_init 18 = .ok (.aload_n 0, 1) := by decide +kernel
theorem dX8_init_19 : decode cX8_init 19 = .ok (.iconst (-1), 1) := by decide +kernel
theorem dX8_init_20 : decode cX8_init 20 = .ok (.putfield 19, 3) := by decide +kernel
theorem dX8_init_23 : decode cX8_init 23 = .ok (.aload_n 0, 1) := by decide +kernel
theorem dX8_init_24 : decode cX8_init 24 = .ok (.iconst (-1), 1) := by decide +kernel
theorem dX8_init_25 : decode cX8_init 25 = .ok (.putfield 22, 3) := by decide +kernel
theorem dX8_init_28 : decode cX8_init 28 = .ok (.return_, 1) := by decide +kernel
theorem dX9_init_0 : decode cX9_init 0 = .ok (.aload_n 0, 1) := by decide +kernel
theorem dX9_init_1 : decode cX9_init 1 = .ok (.invokespecial 3, 3) := by decide +kernel
theorem dX9_init_4 : decode cX9_init 4 = .ok (.aload_n 0, 1) := by decide +kernel
theorem dX9_init_5 : decode cX9_init 5 = .ok (.iconst (-1), 1) := by decide +kernel
theorem dX9_init_6 : decode cX9_init 6 = .ok (.putfield 9, 3) := by decide +kernel
theorem dX9_init_9 : decode cX9_init 9 = .ok (.aload_n 0, 1) := by decide +kernel
theorem dX9_init_10 : decode cX9_init 10 = .ok (.iconst 0, 1) := by decide +kernel
theorem dX9_init_11 : decode cX9_init 11 = .ok (.putfield 15, 3) := by decide +kernel
theorem dX9_init_14 : decode cX9_init 14 = .ok (.aload_n 0, 1) := by decide +kernel
theorem dX9_init_15 : decode cX9_init 15 = .ok (.bipush 10, 2) := by decide +kernel
theorem dX9_init_17 : decode cX9_init 17 = .ok (.newarray .int, 2) := by decide +kernel
theorem dX9_init_19 : decode cX9_init 19 = .ok (.putfield 18, 3) := by decide +kernel
theorem dX9_init_22 : decode cX9_init 22 = .ok (.aload_n 0, 1) := by decide +kernel
theorem dX9_init_23 : decode cX9_init 23 = .ok (.bipush 20, 2) := by decide +kernel
theorem dX9_init_25 : decode cX9_init 25 = .ok (.newarray .long, 2) := by decide +kernel
theorem dX9_init_27 : decode cX9_init 27 = .ok (.putfield 22, 3) := by decide +kernel
theorem dX9_init_30 : decode cX9_init 30 = .ok (.aload_n 0, 1) := by decide +kernel
theorem dX9_init_31 : decode cX9_init 31 = .ok (.bipush 20, 2) := by decide +kernel
theorem dX9_init_33 : decode cX9_init 33 = .ok (.newarray .long, 2) := by decide +kernel
theorem dX9_init_35 : decode cX9_init 35 = .ok (.putfield 26, 3) := by decide +kernel
theorem dX9_init_38 : decode cX9_init 38 = .ok (.aload_n 0, 1) := by decide +kernel
theorem dX9_init_39 : decode cX9_init 39 = .ok (.aload_n 1, 1) := by decide +kernel
theorem dX9_init_40 : decode cX9_init 40 = .ok (.putfield 29, 3) := by decide +kernel
theorem dX9_init_43 : decode cX9_init 43 = .ok (.return_, 1) := by decide +kernel
theorem lk_RX11_121 : zLIN RX11 121 yX10_init "DarkRing" cX10_init 1 0 := ⟨tw_640, tw_641, tw_179, tw_642, rfl, ⟨by decide, by decide, by decide +kernel⟩⟩
theorem lk_RX11_28 : zLIN RX11 28 yX8_init "DarkRing" cX8_init 1 0 := ⟨tw_201, tw_202, tw_169, tw_203, rfl, ⟨by decide, by decide, by decide +kernel⟩⟩
theorem lk_RX11_35 : zLI RX11 35 yX2_init cX2_init 1 0 := ⟨tw_250, tw_251, tw_170, tw_252, rfl, ⟨by decide, by decide, by decide +kernel⟩⟩
theorem lk_RX11_42 : zLI RX11 42 yX9_init cX9_init 2 1 := ⟨tw_345, tw_346, tw_171, tw_347, rfl, ⟨by decide, by decide, by decide +kernel⟩⟩
theorem lk_RX11_51 : zLIN RX11 51 yX5_init "DarkRing" cX5_init 1 0 := ⟨tw_374, tw_375, tw_172, tw_376, rfl, ⟨by decide, by decide, by decide +kernel⟩⟩
theorem lk_RX11_58 : zLI RX11 58 yX3_init cX3_init 2 1 := ⟨tw_410, tw_411, tw_173, tw_412, rfl, ⟨by decide, by decide, by decide +kernel⟩⟩
theorem lk_RX11_67 : zLI RX11 67 yX6_init cX6_init 3 2 := ⟨tw_450, tw_451, tw_174, tw_452, rfl, ⟨by decide, by decide, by decide +kernel⟩⟩
theorem lk_RX11_76 : zLI RX11 76 yX7_init cX7_init 2 1 := ⟨tw_475, tw_476, tw_175, tw_477, rfl, ⟨by decide, by decide, by decide +kernel⟩⟩
theorem lk_RX11_83 : zLI RX11 83 yX4_init cX4_init 2 1 := ⟨tw_520, tw_521, tw_176, tw_522, rfl, ⟨by decide, by decide, by decide +kernel⟩⟩
theorem lk_RX11_90 : zLI RX11 90 yX0_init cX0_init 3 2 := ⟨tw_536, tw_537, tw_177, tw_538, rfl, ⟨by decide, by decide, by decide +kernel⟩⟩
theorem lk_RX11_99 : zLI RX11 99 yX1_init cX1_init 3 2 := ⟨tw_566, tw_567, tw_178, tw_568, rfl, ⟨by decide, by decide, by decide +kernel⟩⟩
theorem lk_RX1_37 : zLI RX1 37 yX9_init cX9_init 2 1 := ⟨tw_571, tw_346, tw_171, tw_347, rfl, ⟨by decide, by decide, by decide +kernel⟩⟩
theorem lk_RX2_126 : zLSN RX2 126 yX11_keepAt "DarkRing" cX11_keepAt 3 none 3 := ⟨tw_262, tw_263, tw_168, tw_264, ⟨by decide, by decide, by decide +kernel⟩⟩
theorem lk_RX2_46 : zLV RX2 46 yX2_clear cX2_clear 1 none 0 := ⟨tw_254, tw_255, tw_256, tw_170, tw_257, ⟨by decide, by decide, by decide +kernel⟩⟩
theorem lk_RX2_65 : zLV RX2 65 yX2_setSeconds cX2_setSeconds 3 none 2 := ⟨tw_258, tw_259, tw_260, tw_170, tw_261, ⟨by decide, by decide, by decide +kernel⟩⟩
theorem lk_RX2_81 : zLV RX2 81 yX2_stepsOf cX2_stepsOf 2 (some .int) 1 := ⟨tw_1238, tw_1001, tw_1002, tw_170, tw_1003, ⟨by decide, by decide, by decide +kernel⟩⟩
theorem lk_RX2_85 : zLV RX2 85 yX2_hasFeature cX2_hasFeature 2 (some .boolean) 1 := ⟨tw_1004, tw_1005, tw_1006, tw_170, tw_1007, ⟨by decide, by decide, by decide +kernel⟩⟩
theorem lk_RX2_89 : zLSN RX2 89 yX11_at "DarkRing" cX11_at 2 (some .int) 2 := ⟨tw_1008, tw_1009, tw_168, tw_1010, ⟨by decide, by decide, by decide +kernel⟩⟩
theorem lk_RX3_11 : zLI RX3 11 yX2_init cX2_init 1 0 := ⟨tw_415, tw_251, tw_170, tw_252, rfl, ⟨by decide, by decide, by decide +kernel⟩⟩
theorem lk_RX6_11 : zLIN RX6 11 yX5_init "DarkRing" cX5_init 1 0 := ⟨tw_455, tw_375, tw_172, tw_376, rfl, ⟨by decide, by decide, by decide +kernel⟩⟩
