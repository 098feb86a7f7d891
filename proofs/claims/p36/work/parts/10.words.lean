/-! words of the tables, by their places; rooms; calls -/
abbrev rm_J9_floorMod_7cf53 : Room := { frames := 0, cells := 0, slots := 0, locals := 0 }
abbrev rm_J9_min_7cf53 : Room := { frames := 0, cells := 0, slots := 0, locals := 0 }
abbrev rm_X3_refuse : Room := { frames := 1, cells := 0, slots := 0, locals := 20 }
abbrev rm_X3_isBetween : Room := { frames := 0, cells := 0, slots := 0, locals := 0 }
abbrev rm_X3_innFault : Room := { frames := 1, cells := 0, slots := 0, locals := 22 }
abbrev rm_X3_hallFault : Room := { frames := 1, cells := 0, slots := 0, locals := 22 }
abbrev rm_X3_isBody : Room := { frames := 1, cells := 0, slots := 0, locals := 22 }
abbrev rm_X3_innAndBodyFault : Room := { frames := 2, cells := 0, slots := 0, locals := 42 }
abbrev rm_X3_mixed : Room := { frames := 0, cells := 0, slots := 0, locals := 0 }
abbrev rm_X3_mixedRow : Room := { frames := 1, cells := 0, slots := 0, locals := 22 }
abbrev rm_X3_covered : Room := { frames := 1, cells := 0, slots := 0, locals := 22 }
abbrev rm_X3_uncovered : Room := { frames := 1, cells := 0, slots := 0, locals := 22 }
abbrev rm_X3_read : Room := { frames := 0, cells := 0, slots := 0, locals := 0 }
abbrev rm_X3_write : Room := { frames := 0, cells := 0, slots := 0, locals := 0 }
abbrev rm_X2_isInMask : Room := { frames := 0, cells := 0, slots := 0, locals := 0 }
abbrev rm_X2_hasOpen : Room := { frames := 1, cells := 0, slots := 0, locals := 21 }
abbrev rm_X2_turn : Room := { frames := 0, cells := 0, slots := 0, locals := 0 }
abbrev rm_X2_putInn : Room := { frames := 1, cells := 0, slots := 0, locals := 22 }
abbrev rm_X2_addRoad : Room := { frames := 2, cells := 0, slots := 0, locals := 45 }
abbrev rm_X2_removeLastRoad : Room := { frames := 1, cells := 0, slots := 0, locals := 22 }
abbrev rm_X2_ofEnvelope : Room := { frames := 1, cells := 0, slots := 0, locals := 21 }
abbrev rm_X2_isUsed : Room := { frames := 2, cells := 0, slots := 0, locals := 43 }
abbrev rm_X2_innAt : Room := { frames := 1, cells := 0, slots := 0, locals := 21 }
abbrev rm_X2_keyAt : Room := { frames := 1, cells := 0, slots := 0, locals := 21 }
abbrev rm_X2_placeOn : Room := { frames := 2, cells := 0, slots := 0, locals := 43 }
abbrev rm_X2_allOpenOn : Room := { frames := 2, cells := 0, slots := 0, locals := 43 }
abbrev rm_X2_seenBeside : Room := { frames := 3, cells := 0, slots := 0, locals := 66 }
abbrev rm_X2_innBit : Room := { frames := 1, cells := 0, slots := 0, locals := 22 }
abbrev rm_X2_knownMask : Room := { frames := 4, cells := 0, slots := 0, locals := 91 }
abbrev rm_X2_roadsThrough : Room := { frames := 3, cells := 0, slots := 0, locals := 66 }
abbrev rm_X2_leastUsedInn : Room := { frames := 4, cells := 0, slots := 0, locals := 89 }
abbrev rm_X2_putNumber : Room := { frames := 1, cells := 0, slots := 0, locals := 22 }
abbrev rm_X2_countUp : Room := { frames := 1, cells := 0, slots := 0, locals := 22 }
abbrev rm_X2_addEnvelope : Room := { frames := 2, cells := 0, slots := 0, locals := 45 }
abbrev rm_X2_addLetter : Room := { frames := 3, cells := 0, slots := 0, locals := 70 }
abbrev rm_X2_addAnswer : Room := { frames := 3, cells := 0, slots := 0, locals := 70 }
abbrev rm_X2_reachHall : Room := { frames := 2, cells := 0, slots := 0, locals := 45 }
abbrev rm_X2_reachTraveller : Room := { frames := 2, cells := 0, slots := 0, locals := 45 }
abbrev rm_X2_reachInn : Room := { frames := 2, cells := 0, slots := 0, locals := 45 }
abbrev rm_X2_moveOn : Room := { frames := 3, cells := 0, slots := 0, locals := 71 }
abbrev rm_X2_takeOutGone : Room := { frames := 2, cells := 0, slots := 0, locals := 45 }
abbrev rm_X2_letTicksPass : Room := { frames := 4, cells := 0, slots := 0, locals := 94 }
abbrev rm_X2_ticksLeft : Room := { frames := 2, cells := 0, slots := 0, locals := 43 }
abbrev rm_X2_lostWithout : Room := { frames := 3, cells := 0, slots := 0, locals := 70 }
theorem q_3 : Cond.selects RX2 yX2_placeOn yX2_placeOn ∈ wsT := tw 3 (by decide +kernel) rfl
theorem q_6 : Cond.selects RX2 yX2_roadsThrough yX2_roadsThrough ∈ wsT := tw 6 (by decide +kernel) rfl
theorem q_8 : Cond.selects RX2 yX2_putInn yX2_putInn ∈ wsT := tw 8 (by decide +kernel) rfl
theorem q_11 : Cond.selects RX2 yX2_moveOn yX2_moveOn ∈ wsT := tw 11 (by decide +kernel) rfl
theorem q_12 : Cond.selects RX2 yX2_putNumber yX2_putNumber ∈ wsT := tw 12 (by decide +kernel) rfl
theorem q_13 : Cond.selects RX2 yX2_reachHall yX2_reachHall ∈ wsT := tw 13 (by decide +kernel) rfl
theorem q_14 : Cond.selects RX2 yX2_countUp yX2_countUp ∈ wsT := tw 14 (by decide +kernel) rfl
theorem q_15 : Cond.selects RX2 yX2_reachTraveller yX2_reachTraveller ∈ wsT := tw 15 (by decide +kernel) rfl
theorem q_16 : Cond.selects RX2 yX2_keyAt yX2_keyAt ∈ wsT := tw 16 (by decide +kernel) rfl
theorem q_17 : Cond.selects RX2 yX2_reachInn yX2_reachInn ∈ wsT := tw 17 (by decide +kernel) rfl
theorem q_18 : Cond.selects RX2 yX2_takeOutGone yX2_takeOutGone ∈ wsT := tw 18 (by decide +kernel) rfl
theorem q_20 : Cond.selects RX2 yX2_addEnvelope yX2_addEnvelope ∈ wsT := tw 20 (by decide +kernel) rfl
theorem q_23 : Cond.initialized RX3 ∈ wsT := tw 23 (by decide +kernel) rfl
theorem q_24 : Cond.initialized RX2 ∈ wsT := tw 24 (by decide +kernel) rfl
theorem q_34 : Cond.initialized RJ9 ∈ wsT := tw 34 (by decide +kernel) rfl
theorem q_53 : Cond.fieldLink RX2 9 "NestedEnvelopes$State" "openMask" "I" ∈ wsT := tw 53 (by decide +kernel) rfl
theorem q_55 : Cond.fieldLink RX2 15 "NestedEnvelopes$State" "keys" "[I" ∈ wsT := tw 55 (by decide +kernel) rfl
theorem q_57 : Cond.fieldLink RX2 53 "NestedEnvelopes$State" "roadCount" "I" ∈ wsT := tw 57 (by decide +kernel) rfl
theorem q_59 : Cond.fieldLink RX2 19 "NestedEnvelopes$State" "roadInns" "[I" ∈ wsT := tw 59 (by decide +kernel) rfl
theorem q_60 : Cond.fieldLink RX2 22 "NestedEnvelopes$State" "roadKeys" "[I" ∈ wsT := tw 60 (by decide +kernel) rfl
theorem q_61 : Cond.fieldLink RX2 25 "NestedEnvelopes$State" "roadHalls" "[I" ∈ wsT := tw 61 (by decide +kernel) rfl
theorem q_63 : Cond.fieldLink RX2 56 "NestedEnvelopes$State" "envelopeCount" "I" ∈ wsT := tw 63 (by decide +kernel) rfl
theorem q_65 : Cond.fieldLink RX2 28 "NestedEnvelopes$State" "envelopeNumbers" "[I" ∈ wsT := tw 65 (by decide +kernel) rfl
theorem q_66 : Cond.fieldLink RX2 31 "NestedEnvelopes$State" "letters" "[I" ∈ wsT := tw 66 (by decide +kernel) rfl
theorem q_68 : Cond.fieldLink RX2 40 "NestedEnvelopes$State" "answerRoads" "[I" ∈ wsT := tw 68 (by decide +kernel) rfl
theorem q_70 : Cond.fieldLink RX2 43 "NestedEnvelopes$State" "answerGot" "I" ∈ wsT := tw 70 (by decide +kernel) rfl
theorem q_72 : Cond.fieldLink RX2 46 "NestedEnvelopes$State" "counts" "[I" ∈ wsT := tw 72 (by decide +kernel) rfl
theorem q_248 : Cond.methodLink RX3 212 yX3_mixed ∈ wsT := tw 248 (by decide +kernel) rfl
theorem q_249 : Cond.static yX3_mixed ∈ wsT := tw 249 (by decide +kernel) rfl
theorem q_250 : Cond.code yX3_mixed cX3_mixed 3 (some .long) ∈ wsT := tw 250 (by decide +kernel) rfl
theorem q_251 : Cond.constantLong RX3 261 31 ∈ wsT := tw 251 (by decide +kernel) rfl
theorem q_260 : Cond.instanceMethod yX2_hasOpen ∈ wsT := tw 260 (by decide +kernel) rfl
theorem q_261 : Cond.selects RX2 yX2_hasOpen yX2_hasOpen ∈ wsT := tw 261 (by decide +kernel) rfl
theorem q_262 : Cond.code yX2_hasOpen cX2_hasOpen 2 (some .boolean) ∈ wsT := tw 262 (by decide +kernel) rfl
theorem q_263 : Cond.methodLink RX2 59 yX2_isInMask ∈ wsT := tw 263 (by decide +kernel) rfl
theorem q_264 : Cond.static yX2_isInMask ∈ wsT := tw 264 (by decide +kernel) rfl
theorem q_265 : Cond.code yX2_isInMask cX2_isInMask 2 (some .boolean) ∈ wsT := tw 265 (by decide +kernel) rfl
theorem q_267 : Cond.static yX3_read ∈ wsT := tw 267 (by decide +kernel) rfl
theorem q_268 : Cond.code yX3_read cX3_read 2 (some .int) ∈ wsT := tw 268 (by decide +kernel) rfl
theorem q_273 : Cond.methodLink RX2 89 yX2_seenBeside ∈ wsT := tw 273 (by decide +kernel) rfl
theorem q_274 : Cond.instanceMethod yX2_seenBeside ∈ wsT := tw 274 (by decide +kernel) rfl
theorem q_275 : Cond.selects RX2 yX2_seenBeside yX2_seenBeside ∈ wsT := tw 275 (by decide +kernel) rfl
theorem q_276 : Cond.code yX2_seenBeside cX2_seenBeside 6 (some .int) ∈ wsT := tw 276 (by decide +kernel) rfl
theorem q_277 : Cond.methodLink RX2 86 yX2_placeOn ∈ wsT := tw 277 (by decide +kernel) rfl
theorem q_279 : Cond.instanceMethod yX2_placeOn ∈ wsT := tw 279 (by decide +kernel) rfl
theorem q_280 : Cond.code yX2_placeOn cX2_placeOn 4 (some .int) ∈ wsT := tw 280 (by decide +kernel) rfl
theorem q_281 : Cond.methodLink RX2 79 yX2_innAt ∈ wsT := tw 281 (by decide +kernel) rfl
theorem q_282 : Cond.instanceMethod yX2_innAt ∈ wsT := tw 282 (by decide +kernel) rfl
theorem q_283 : Cond.selects RX2 yX2_innAt yX2_innAt ∈ wsT := tw 283 (by decide +kernel) rfl
theorem q_284 : Cond.code yX2_innAt cX2_innAt 3 (some .int) ∈ wsT := tw 284 (by decide +kernel) rfl
theorem q_286 : Cond.methodLink RX2 93 yX2_innBit ∈ wsT := tw 286 (by decide +kernel) rfl
theorem q_287 : Cond.static yX2_innBit ∈ wsT := tw 287 (by decide +kernel) rfl
theorem q_288 : Cond.code yX2_innBit cX2_innBit 1 (some .int) ∈ wsT := tw 288 (by decide +kernel) rfl
theorem q_290 : Cond.static yX3_isBetween ∈ wsT := tw 290 (by decide +kernel) rfl
theorem q_291 : Cond.code yX3_isBetween cX3_isBetween 3 (some .boolean) ∈ wsT := tw 291 (by decide +kernel) rfl
theorem q_296 : Cond.methodLink RX2 140 yX2_ticksLeft ∈ wsT := tw 296 (by decide +kernel) rfl
theorem q_297 : Cond.instanceMethod yX2_ticksLeft ∈ wsT := tw 297 (by decide +kernel) rfl
theorem q_298 : Cond.selects RX2 yX2_ticksLeft yX2_ticksLeft ∈ wsT := tw 298 (by decide +kernel) rfl
theorem q_299 : Cond.code yX2_ticksLeft cX2_ticksLeft 8 (some .int) ∈ wsT := tw 299 (by decide +kernel) rfl
theorem q_300 : Cond.methodLink RX2 75 yX2_ofEnvelope ∈ wsT := tw 300 (by decide +kernel) rfl
theorem q_301 : Cond.instanceMethod yX2_ofEnvelope ∈ wsT := tw 301 (by decide +kernel) rfl
theorem q_302 : Cond.selects RX2 yX2_ofEnvelope yX2_ofEnvelope ∈ wsT := tw 302 (by decide +kernel) rfl
theorem q_303 : Cond.code yX2_ofEnvelope cX2_ofEnvelope 3 (some .int) ∈ wsT := tw 303 (by decide +kernel) rfl
theorem q_313 : Cond.methodLink RX2 82 yX2_hasOpen ∈ wsT := tw 313 (by decide +kernel) rfl
theorem q_324 : Cond.methodLink RX2 101 yX2_roadsThrough ∈ wsT := tw 324 (by decide +kernel) rfl
theorem q_326 : Cond.instanceMethod yX2_roadsThrough ∈ wsT := tw 326 (by decide +kernel) rfl
theorem q_327 : Cond.code yX2_roadsThrough cX2_roadsThrough 4 (some .int) ∈ wsT := tw 327 (by decide +kernel) rfl
theorem q_347 : Cond.methodLink RX3 30 yX3_innFault ∈ wsT := tw 347 (by decide +kernel) rfl
theorem q_348 : Cond.static yX3_innFault ∈ wsT := tw 348 (by decide +kernel) rfl
theorem q_349 : Cond.code yX3_innFault cX3_innFault 1 (some .int) ∈ wsT := tw 349 (by decide +kernel) rfl
theorem q_350 : Cond.methodLink RX3 96 yX3_isBetween ∈ wsT := tw 350 (by decide +kernel) rfl
theorem q_403 : Cond.methodLink RX3 239 yX3_isBody ∈ wsT := tw 403 (by decide +kernel) rfl
theorem q_404 : Cond.static yX3_isBody ∈ wsT := tw 404 (by decide +kernel) rfl
theorem q_405 : Cond.code yX3_isBody cX3_isBody 1 (some .boolean) ∈ wsT := tw 405 (by decide +kernel) rfl
theorem q_407 : Cond.static yX3_write ∈ wsT := tw 407 (by decide +kernel) rfl
theorem q_408 : Cond.code yX3_write cX3_write 3 none ∈ wsT := tw 408 (by decide +kernel) rfl
theorem q_428 : Cond.methodLink RX2 63 yX2_putInn ∈ wsT := tw 428 (by decide +kernel) rfl
theorem q_430 : Cond.instanceMethod yX2_putInn ∈ wsT := tw 430 (by decide +kernel) rfl
theorem q_431 : Cond.code yX2_putInn cX2_putInn 4 none ∈ wsT := tw 431 (by decide +kernel) rfl
theorem q_478 : Cond.methodLink RX2 121 yX2_moveOn ∈ wsT := tw 478 (by decide +kernel) rfl
theorem q_480 : Cond.instanceMethod yX2_moveOn ∈ wsT := tw 480 (by decide +kernel) rfl
theorem q_481 : Cond.code yX2_moveOn cX2_moveOn 4 (some .boolean) ∈ wsT := tw 481 (by decide +kernel) rfl
theorem q_482 : Cond.methodLink RX2 118 yX2_putNumber ∈ wsT := tw 482 (by decide +kernel) rfl
theorem q_484 : Cond.instanceMethod yX2_putNumber ∈ wsT := tw 484 (by decide +kernel) rfl
theorem q_485 : Cond.code yX2_putNumber cX2_putNumber 4 none ∈ wsT := tw 485 (by decide +kernel) rfl
theorem q_486 : Cond.methodLink RX2 127 yX2_reachHall ∈ wsT := tw 486 (by decide +kernel) rfl
theorem q_488 : Cond.instanceMethod yX2_reachHall ∈ wsT := tw 488 (by decide +kernel) rfl
theorem q_489 : Cond.code yX2_reachHall cX2_reachHall 4 none ∈ wsT := tw 489 (by decide +kernel) rfl
theorem q_490 : Cond.methodLink RX2 110 yX2_countUp ∈ wsT := tw 490 (by decide +kernel) rfl
theorem q_492 : Cond.instanceMethod yX2_countUp ∈ wsT := tw 492 (by decide +kernel) rfl
theorem q_493 : Cond.code yX2_countUp cX2_countUp 2 none ∈ wsT := tw 493 (by decide +kernel) rfl
theorem q_494 : Cond.methodLink RX2 130 yX2_reachTraveller ∈ wsT := tw 494 (by decide +kernel) rfl
theorem q_496 : Cond.instanceMethod yX2_reachTraveller ∈ wsT := tw 496 (by decide +kernel) rfl
theorem q_497 : Cond.code yX2_reachTraveller cX2_reachTraveller 5 none ∈ wsT := tw 497 (by decide +kernel) rfl
theorem q_498 : Cond.methodLink RX2 104 yX2_keyAt ∈ wsT := tw 498 (by decide +kernel) rfl
theorem q_500 : Cond.instanceMethod yX2_keyAt ∈ wsT := tw 500 (by decide +kernel) rfl
theorem q_501 : Cond.code yX2_keyAt cX2_keyAt 3 (some .int) ∈ wsT := tw 501 (by decide +kernel) rfl
theorem q_503 : Cond.static yX3_uncovered ∈ wsT := tw 503 (by decide +kernel) rfl
theorem q_504 : Cond.code yX3_uncovered cX3_uncovered 2 (some .int) ∈ wsT := tw 504 (by decide +kernel) rfl
theorem q_505 : Cond.methodLink RX3 263 yJ9_floorMod_7cf53 ∈ wsT := tw 505 (by decide +kernel) rfl
theorem q_506 : Cond.static yJ9_floorMod_7cf53 ∈ wsT := tw 506 (by decide +kernel) rfl
theorem q_507 : Cond.code yJ9_floorMod_7cf53 cJ9_floorMod_7cf53 3 (some .int) ∈ wsT := tw 507 (by decide +kernel) rfl
theorem q_508 : Cond.methodLink RX2 133 yX2_reachInn ∈ wsT := tw 508 (by decide +kernel) rfl
theorem q_510 : Cond.instanceMethod yX2_reachInn ∈ wsT := tw 510 (by decide +kernel) rfl
theorem q_511 : Cond.code yX2_reachInn cX2_reachInn 7 none ∈ wsT := tw 511 (by decide +kernel) rfl
theorem q_513 : Cond.static yX3_covered ∈ wsT := tw 513 (by decide +kernel) rfl
theorem q_514 : Cond.code yX3_covered cX3_covered 2 (some .int) ∈ wsT := tw 514 (by decide +kernel) rfl
theorem q_515 : Cond.methodLink RX2 124 yX2_takeOutGone ∈ wsT := tw 515 (by decide +kernel) rfl
theorem q_517 : Cond.instanceMethod yX2_takeOutGone ∈ wsT := tw 517 (by decide +kernel) rfl
theorem q_518 : Cond.code yX2_takeOutGone cX2_takeOutGone 4 none ∈ wsT := tw 518 (by decide +kernel) rfl
theorem q_531 : Cond.methodLink RX2 114 yX2_addEnvelope ∈ wsT := tw 531 (by decide +kernel) rfl
theorem q_533 : Cond.instanceMethod yX2_addEnvelope ∈ wsT := tw 533 (by decide +kernel) rfl
theorem q_534 : Cond.code yX2_addEnvelope cX2_addEnvelope 6 (some .int) ∈ wsT := tw 534 (by decide +kernel) rfl
theorem cw_X3_96 {R : Room} {s : State} {args : Array Value} (hts : ∀ w ∈ wsT, w.before args s = true) (hf : 0 + 1 ≤ R.frames) (hl : 8 + (3 + 11) + 0 ≤ R.locals) : CallB R s args RX3 96 yX3_isBetween cX3_isBetween 3 (some .boolean) (wsA yX3_isBetween cX3_isBetween 3 (some .boolean)) rm_X3_isBetween 0 0 3 ∧ (Cond.static yX3_isBetween).before args s = true := cwAS 3 hts q_350 q_290 q_23 q_291 rfl rfl (by decide +kernel) ⟨hf, hl⟩
theorem cw_X3_30 {R : Room} {s : State} {args : Array Value} (hts : ∀ w ∈ wsT, w.before args s = true) (hf : 1 + 1 ≤ R.frames) (hl : 8 + (1 + 11) + 22 ≤ R.locals) : CallB R s args RX3 30 yX3_innFault cX3_innFault 1 (some .int) (wsA yX3_innFault cX3_innFault 1 (some .int)) rm_X3_innFault 0 0 1 ∧ (Cond.static yX3_innFault).before args s = true := cwAS 1 hts q_347 q_348 q_23 q_349 rfl rfl (by decide +kernel) ⟨hf, hl⟩
theorem cw_X3_239 {R : Room} {s : State} {args : Array Value} (hts : ∀ w ∈ wsT, w.before args s = true) (hf : 1 + 1 ≤ R.frames) (hl : 8 + (1 + 11) + 22 ≤ R.locals) : CallB R s args RX3 239 yX3_isBody cX3_isBody 1 (some .boolean) (wsA yX3_isBody cX3_isBody 1 (some .boolean)) rm_X3_isBody 0 0 1 ∧ (Cond.static yX3_isBody).before args s = true := cwAS 1 hts q_403 q_404 q_23 q_405 rfl rfl (by decide +kernel) ⟨hf, hl⟩
theorem cw_X3_212 {R : Room} {s : State} {args : Array Value} (hts : ∀ w ∈ wsT, w.before args s = true) (hf : 0 + 1 ≤ R.frames) (hl : 8 + (3 + 11) + 0 ≤ R.locals) : CallB R s args RX3 212 yX3_mixed cX3_mixed 3 (some .long) (wsA yX3_mixed cX3_mixed 3 (some .long)) rm_X3_mixed 0 0 2 ∧ (Cond.static yX3_mixed).before args s = true := cwAS 2 hts q_248 q_249 q_23 q_250 rfl rfl (by decide +kernel) ⟨hf, hl⟩
theorem cw_X3_263 {R : Room} {s : State} {args : Array Value} (hts : ∀ w ∈ wsT, w.before args s = true) (hf : 0 + 1 ≤ R.frames) (hl : 8 + (3 + 11) + 0 ≤ R.locals) : CallB R s args RX3 263 yJ9_floorMod_7cf53 cJ9_floorMod_7cf53 3 (some .int) (wsA yJ9_floorMod_7cf53 cJ9_floorMod_7cf53 3 (some .int)) rm_J9_floorMod_7cf53 0 0 2 ∧ (Cond.static yJ9_floorMod_7cf53).before args s = true := cwAS 2 hts q_505 q_506 q_34 q_507 rfl rfl (by decide +kernel) ⟨hf, hl⟩
theorem cw_X2_59 {R : Room} {s : State} {args : Array Value} (hts : ∀ w ∈ wsT, w.before args s = true) (hf : 0 + 1 ≤ R.frames) (hl : 8 + (2 + 11) + 0 ≤ R.locals) : CallB R s args RX2 59 yX2_isInMask cX2_isInMask 2 (some .boolean) (wsA yX2_isInMask cX2_isInMask 2 (some .boolean)) rm_X2_isInMask 0 0 2 ∧ (Cond.static yX2_isInMask).before args s = true := cwAS 2 hts q_263 q_264 q_24 q_265 rfl rfl (by decide +kernel) ⟨hf, hl⟩
theorem cw_X2_67 {R : Room} {s : State} {args : Array Value} (hts : ∀ w ∈ wsT, w.before args s = true) (hN : va_Nw (.methodLinkNest RX2 67 yX3_write RX3) s) (hf : 0 + 1 ≤ R.frames) (hl : 8 + (3 + 11) + 0 ≤ R.locals) : va_CN R s args RX2 67 yX3_write RX3 cX3_write 3 none (wsA yX3_write cX3_write 3 none) rm_X3_write 0 0 3 ∧ (Cond.static yX3_write).before args s = true := cwAN 3 hts hN q_407 q_23 q_408 rfl rfl (by decide +kernel) ⟨hf, hl⟩
theorem cw_X2_71 {R : Room} {s : State} {args : Array Value} (hts : ∀ w ∈ wsT, w.before args s = true) (hN : va_Nw (.methodLinkNest RX2 71 yX3_read RX3) s) (hf : 0 + 1 ≤ R.frames) (hl : 8 + (2 + 11) + 0 ≤ R.locals) : va_CN R s args RX2 71 yX3_read RX3 cX3_read 2 (some .int) (wsA yX3_read cX3_read 2 (some .int)) rm_X3_read 0 0 2 ∧ (Cond.static yX3_read).before args s = true := cwAN 2 hts hN q_267 q_23 q_268 rfl rfl (by decide +kernel) ⟨hf, hl⟩
theorem cw_X2_63 {R : Room} {s : State} {args : Array Value} (hts : ∀ w ∈ wsT, w.before args s = true) (hf : 1 + 1 ≤ R.frames) (hl : 8 + (4 + 11) + 22 ≤ R.locals) : CallW R s args RX2 RX2 63 yX2_putInn cX2_putInn 4 none (wsA yX2_putInn cX2_putInn 4 none) rm_X2_putInn 0 0 3 := cwAV 3 hts q_428 q_430 q_8 q_24 q_431 rfl rfl (by decide +kernel) ⟨hf, hl⟩
theorem cw_X2_75 {R : Room} {s : State} {args : Array Value} (hts : ∀ w ∈ wsT, w.before args s = true) (hf : 1 + 1 ≤ R.frames) (hl : 8 + (3 + 11) + 21 ≤ R.locals) : CallW R s args RX2 RX2 75 yX2_ofEnvelope cX2_ofEnvelope 3 (some .int) (wsA yX2_ofEnvelope cX2_ofEnvelope 3 (some .int)) rm_X2_ofEnvelope 0 0 2 := cwAV 2 hts q_300 q_301 q_302 q_24 q_303 rfl rfl (by decide +kernel) ⟨hf, hl⟩
theorem cw_X2_79 {R : Room} {s : State} {args : Array Value} (hts : ∀ w ∈ wsT, w.before args s = true) (hf : 1 + 1 ≤ R.frames) (hl : 8 + (3 + 11) + 21 ≤ R.locals) : CallW R s args RX2 RX2 79 yX2_innAt cX2_innAt 3 (some .int) (wsA yX2_innAt cX2_innAt 3 (some .int)) rm_X2_innAt 0 0 2 := cwAV 2 hts q_281 q_282 q_283 q_24 q_284 rfl rfl (by decide +kernel) ⟨hf, hl⟩
theorem cw_X2_82 {R : Room} {s : State} {args : Array Value} (hts : ∀ w ∈ wsT, w.before args s = true) (hf : 1 + 1 ≤ R.frames) (hl : 8 + (2 + 11) + 21 ≤ R.locals) : CallW R s args RX2 RX2 82 yX2_hasOpen cX2_hasOpen 2 (some .boolean) (wsA yX2_hasOpen cX2_hasOpen 2 (some .boolean)) rm_X2_hasOpen 0 0 1 := cwAV 1 hts q_313 q_260 q_261 q_24 q_262 rfl rfl (by decide +kernel) ⟨hf, hl⟩
theorem cw_X2_86 {R : Room} {s : State} {args : Array Value} (hts : ∀ w ∈ wsT, w.before args s = true) (hf : 2 + 1 ≤ R.frames) (hl : 8 + (4 + 11) + 43 ≤ R.locals) : CallW R s args RX2 RX2 86 yX2_placeOn cX2_placeOn 4 (some .int) (wsA yX2_placeOn cX2_placeOn 4 (some .int)) rm_X2_placeOn 0 0 2 := cwAV 2 hts q_277 q_279 q_3 q_24 q_280 rfl rfl (by decide +kernel) ⟨hf, hl⟩
theorem cw_X2_97 {R : Room} {s : State} {args : Array Value} (hts : ∀ w ∈ wsT, w.before args s = true) (hN : va_Nw (.methodLinkNest RX2 97 yX3_isBetween RX3) s) (hf : 0 + 1 ≤ R.frames) (hl : 8 + (3 + 11) + 0 ≤ R.locals) : va_CN R s args RX2 97 yX3_isBetween RX3 cX3_isBetween 3 (some .boolean) (wsA yX3_isBetween cX3_isBetween 3 (some .boolean)) rm_X3_isBetween 0 0 3 ∧ (Cond.static yX3_isBetween).before args s = true := cwAN 3 hts hN q_290 q_23 q_291 rfl rfl (by decide +kernel) ⟨hf, hl⟩
theorem cw_X2_89 {R : Room} {s : State} {args : Array Value} (hts : ∀ w ∈ wsT, w.before args s = true) (hf : 3 + 1 ≤ R.frames) (hl : 8 + (6 + 11) + 66 ≤ R.locals) : CallW R s args RX2 RX2 89 yX2_seenBeside cX2_seenBeside 6 (some .int) (wsA yX2_seenBeside cX2_seenBeside 6 (some .int)) rm_X2_seenBeside 0 0 3 := cwAV 3 hts q_273 q_274 q_275 q_24 q_276 rfl rfl (by decide +kernel) ⟨hf, hl⟩
theorem cw_X2_93 {R : Room} {s : State} {args : Array Value} (hts : ∀ w ∈ wsT, w.before args s = true) (hf : 1 + 1 ≤ R.frames) (hl : 8 + (1 + 11) + 22 ≤ R.locals) : CallB R s args RX2 93 yX2_innBit cX2_innBit 1 (some .int) (wsA yX2_innBit cX2_innBit 1 (some .int)) rm_X2_innBit 0 0 1 ∧ (Cond.static yX2_innBit).before args s = true := cwAS 1 hts q_286 q_287 q_24 q_288 rfl rfl (by decide +kernel) ⟨hf, hl⟩
theorem cw_X2_101 {R : Room} {s : State} {args : Array Value} (hts : ∀ w ∈ wsT, w.before args s = true) (hf : 3 + 1 ≤ R.frames) (hl : 8 + (4 + 11) + 66 ≤ R.locals) : CallW R s args RX2 RX2 101 yX2_roadsThrough cX2_roadsThrough 4 (some .int) (wsA yX2_roadsThrough cX2_roadsThrough 4 (some .int)) rm_X2_roadsThrough 0 0 1 := cwAV 1 hts q_324 q_326 q_6 q_24 q_327 rfl rfl (by decide +kernel) ⟨hf, hl⟩
theorem cw_X2_118 {R : Room} {s : State} {args : Array Value} (hts : ∀ w ∈ wsT, w.before args s = true) (hf : 1 + 1 ≤ R.frames) (hl : 8 + (4 + 11) + 22 ≤ R.locals) : CallW R s args RX2 RX2 118 yX2_putNumber cX2_putNumber 4 none (wsA yX2_putNumber cX2_putNumber 4 none) rm_X2_putNumber 0 0 3 := cwAV 3 hts q_482 q_484 q_12 q_24 q_485 rfl rfl (by decide +kernel) ⟨hf, hl⟩
theorem cw_X2_110 {R : Room} {s : State} {args : Array Value} (hts : ∀ w ∈ wsT, w.before args s = true) (hf : 1 + 1 ≤ R.frames) (hl : 8 + (2 + 11) + 22 ≤ R.locals) : CallW R s args RX2 RX2 110 yX2_countUp cX2_countUp 2 none (wsA yX2_countUp cX2_countUp 2 none) rm_X2_countUp 0 0 1 := cwAV 1 hts q_490 q_492 q_14 q_24 q_493 rfl rfl (by decide +kernel) ⟨hf, hl⟩
theorem cw_X2_114 {R : Room} {s : State} {args : Array Value} (hts : ∀ w ∈ wsT, w.before args s = true) (hf : 2 + 1 ≤ R.frames) (hl : 8 + (6 + 11) + 45 ≤ R.locals) : CallW R s args RX2 RX2 114 yX2_addEnvelope cX2_addEnvelope 6 (some .int) (wsA yX2_addEnvelope cX2_addEnvelope 6 (some .int)) rm_X2_addEnvelope 0 0 4 := cwAV 4 hts q_531 q_533 q_20 q_24 q_534 rfl rfl (by decide +kernel) ⟨hf, hl⟩
theorem cw_X2_104 {R : Room} {s : State} {args : Array Value} (hts : ∀ w ∈ wsT, w.before args s = true) (hf : 1 + 1 ≤ R.frames) (hl : 8 + (3 + 11) + 21 ≤ R.locals) : CallW R s args RX2 RX2 104 yX2_keyAt cX2_keyAt 3 (some .int) (wsA yX2_keyAt cX2_keyAt 3 (some .int)) rm_X2_keyAt 0 0 2 := cwAV 2 hts q_498 q_500 q_16 q_24 q_501 rfl rfl (by decide +kernel) ⟨hf, hl⟩
theorem cw_X2_107 {R : Room} {s : State} {args : Array Value} (hts : ∀ w ∈ wsT, w.before args s = true) (hN : va_Nw (.methodLinkNest RX2 107 yX3_covered RX3) s) (hf : 1 + 1 ≤ R.frames) (hl : 8 + (2 + 11) + 22 ≤ R.locals) : va_CN R s args RX2 107 yX3_covered RX3 cX3_covered 2 (some .int) (wsA yX3_covered cX3_covered 2 (some .int)) rm_X3_covered 0 0 2 ∧ (Cond.static yX3_covered).before args s = true := cwAN 2 hts hN q_513 q_23 q_514 rfl rfl (by decide +kernel) ⟨hf, hl⟩
theorem cw_X2_137 {R : Room} {s : State} {args : Array Value} (hts : ∀ w ∈ wsT, w.before args s = true) (hN : va_Nw (.methodLinkNest RX2 137 yX3_uncovered RX3) s) (hf : 1 + 1 ≤ R.frames) (hl : 8 + (2 + 11) + 22 ≤ R.locals) : va_CN R s args RX2 137 yX3_uncovered RX3 cX3_uncovered 2 (some .int) (wsA yX3_uncovered cX3_uncovered 2 (some .int)) rm_X3_uncovered 0 0 2 ∧ (Cond.static yX3_uncovered).before args s = true := cwAN 2 hts hN q_503 q_23 q_504 rfl rfl (by decide +kernel) ⟨hf, hl⟩
theorem cw_X2_133 {R : Room} {s : State} {args : Array Value} (hts : ∀ w ∈ wsT, w.before args s = true) (hf : 2 + 1 ≤ R.frames) (hl : 8 + (7 + 11) + 45 ≤ R.locals) : CallW R s args RX2 RX2 133 yX2_reachInn cX2_reachInn 7 none (wsA yX2_reachInn cX2_reachInn 7 none) rm_X2_reachInn 0 0 2 := cwAV 2 hts q_508 q_510 q_17 q_24 q_511 rfl rfl (by decide +kernel) ⟨hf, hl⟩
theorem cw_X2_130 {R : Room} {s : State} {args : Array Value} (hts : ∀ w ∈ wsT, w.before args s = true) (hf : 2 + 1 ≤ R.frames) (hl : 8 + (5 + 11) + 45 ≤ R.locals) : CallW R s args RX2 RX2 130 yX2_reachTraveller cX2_reachTraveller 5 none (wsA yX2_reachTraveller cX2_reachTraveller 5 none) rm_X2_reachTraveller 0 0 1 := cwAV 1 hts q_494 q_496 q_15 q_24 q_497 rfl rfl (by decide +kernel) ⟨hf, hl⟩
theorem cw_X2_127 {R : Room} {s : State} {args : Array Value} (hts : ∀ w ∈ wsT, w.before args s = true) (hf : 2 + 1 ≤ R.frames) (hl : 8 + (4 + 11) + 45 ≤ R.locals) : CallW R s args RX2 RX2 127 yX2_reachHall cX2_reachHall 4 none (wsA yX2_reachHall cX2_reachHall 4 none) rm_X2_reachHall 0 0 1 := cwAV 1 hts q_486 q_488 q_13 q_24 q_489 rfl rfl (by decide +kernel) ⟨hf, hl⟩
theorem cw_X2_124 {R : Room} {s : State} {args : Array Value} (hts : ∀ w ∈ wsT, w.before args s = true) (hf : 2 + 1 ≤ R.frames) (hl : 8 + (4 + 11) + 45 ≤ R.locals) : CallW R s args RX2 RX2 124 yX2_takeOutGone cX2_takeOutGone 4 none (wsA yX2_takeOutGone cX2_takeOutGone 4 none) rm_X2_takeOutGone 0 0 0 := cwAV 0 hts q_515 q_517 q_18 q_24 q_518 rfl rfl (by decide +kernel) ⟨hf, hl⟩
theorem cw_X2_121 {R : Room} {s : State} {args : Array Value} (hts : ∀ w ∈ wsT, w.before args s = true) (hf : 3 + 1 ≤ R.frames) (hl : 8 + (4 + 11) + 71 ≤ R.locals) : CallW R s args RX2 RX2 121 yX2_moveOn cX2_moveOn 4 (some .boolean) (wsA yX2_moveOn cX2_moveOn 4 (some .boolean)) rm_X2_moveOn 0 0 1 := cwAV 1 hts q_478 q_480 q_11 q_24 q_481 rfl rfl (by decide +kernel) ⟨hf, hl⟩
theorem cw_X2_140 {R : Room} {s : State} {args : Array Value} (hts : ∀ w ∈ wsT, w.before args s = true) (hf : 2 + 1 ≤ R.frames) (hl : 8 + (8 + 11) + 43 ≤ R.locals) : CallW R s args RX2 RX2 140 yX2_ticksLeft cX2_ticksLeft 8 (some .int) (wsA yX2_ticksLeft cX2_ticksLeft 8 (some .int)) rm_X2_ticksLeft 0 0 2 := cwAV 2 hts q_296 q_297 q_298 q_24 q_299 rfl rfl (by decide +kernel) ⟨hf, hl⟩
