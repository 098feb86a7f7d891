abbrev rm_X3_setOpen : Room := { frames := 4, cells := 0, slots := 0, locals := 124 }
abbrev rm_X3_setKey : Room := { frames := 4, cells := 0, slots := 0, locals := 124 }
abbrev rm_X3_isOpen : Room := { frames := 2, cells := 0, slots := 0, locals := 42 }
abbrev rm_X3_cover : Room := { frames := 3, cells := 0, slots := 0, locals := 63 }
abbrev rm_X3_uncover : Room := { frames := 3, cells := 0, slots := 0, locals := 63 }
abbrev rm_X3_layFault : Room := { frames := 2, cells := 0, slots := 0, locals := 42 }
abbrev rm_X3_lay : Room := { frames := 4, cells := 0, slots := 0, locals := 124 }
abbrev rm_X3_takeUp : Room := { frames := 4, cells := 0, slots := 0, locals := 124 }
abbrev rm_X3_roads : Room := { frames := 0, cells := 0, slots := 0, locals := 0 }
abbrev rm_X3_roadFault : Room := { frames := 1, cells := 0, slots := 0, locals := 22 }
abbrev rm_X3_inn : Room := { frames := 2, cells := 0, slots := 0, locals := 43 }
abbrev rm_X3_hall : Room := { frames := 2, cells := 0, slots := 0, locals := 43 }
abbrev rm_X3_stands : Room := { frames := 3, cells := 0, slots := 0, locals := 65 }
abbrev rm_X3_see : Room := { frames := 4, cells := 0, slots := 0, locals := 91 }
abbrev rm_X3_known : Room := { frames := 5, cells := 0, slots := 0, locals := 114 }
abbrev rm_X3_sendFault : Room := { frames := 2, cells := 0, slots := 0, locals := 43 }
abbrev rm_X3_send : Room := { frames := 4, cells := 0, slots := 0, locals := 124 }
abbrev rm_X3_answerFault : Room := { frames := 2, cells := 0, slots := 0, locals := 42 }
abbrev rm_X3_answer : Room := { frames := 4, cells := 0, slots := 0, locals := 124 }
abbrev rm_X3_pass : Room := { frames := 5, cells := 0, slots := 0, locals := 124 }
abbrev rm_X3_envelopes : Room := { frames := 0, cells := 0, slots := 0, locals := 0 }
abbrev rm_X3_envelopeFault : Room := { frames := 1, cells := 0, slots := 0, locals := 22 }
abbrev rm_X3_envelope : Room := { frames := 2, cells := 0, slots := 0, locals := 43 }
abbrev rm_X3_letter : Room := { frames := 2, cells := 0, slots := 0, locals := 42 }
abbrev rm_X3_lastAnswer : Room := { frames := 0, cells := 0, slots := 0, locals := 0 }
abbrev rm_X3_count : Room := { frames := 2, cells := 0, slots := 0, locals := 40 }
abbrev rm_X3_deliveredShare : Room := { frames := 1, cells := 0, slots := 0, locals := 21 }
abbrev rm_X3_lostIfClosed : Room := { frames := 4, cells := 0, slots := 0, locals := 93 }
abbrev rm_X3_ticksTo : Room := { frames := 3, cells := 0, slots := 0, locals := 70 }
abbrev rm_X3_leastWork : Room := { frames := 5, cells := 0, slots := 0, locals := 113 }
abbrev rm_X3_undo : Room := { frames := 4, cells := 0, slots := 0, locals := 124 }
abbrev rm_X3_savedStates : Room := { frames := 0, cells := 0, slots := 0, locals := 0 }
abbrev rm_X3_mixedInns : Room := { frames := 5, cells := 0, slots := 0, locals := 114 }
abbrev rm_X3_mixedRoads : Room := { frames := 3, cells := 0, slots := 0, locals := 65 }
abbrev rm_X3_mixedEnvelopes : Room := { frames := 3, cells := 0, slots := 0, locals := 70 }
abbrev rm_X3_digest : Room := { frames := 6, cells := 0, slots := 0, locals := 139 }
theorem q_2 : Cond.selects RX3 yX3_mixedInns yX3_mixedInns ∈ wsT := tw 2 (by decide +kernel) rfl
theorem q_4 : Cond.selects RX3 yX3_mixedRoads yX3_mixedRoads ∈ wsT := tw 4 (by decide +kernel) rfl
theorem q_5 : Cond.selects RX3 yX3_mixedEnvelopes yX3_mixedEnvelopes ∈ wsT := tw 5 (by decide +kernel) rfl
theorem q_7 : Cond.selects RX3 yX3_layFault yX3_layFault ∈ wsT := tw 7 (by decide +kernel) rfl
theorem q_9 : Cond.selects RX3 yX3_envelopeFault yX3_envelopeFault ∈ wsT := tw 9 (by decide +kernel) rfl
theorem q_10 : Cond.selects RX3 yX3_roadFault yX3_roadFault ∈ wsT := tw 10 (by decide +kernel) rfl
theorem q_19 : Cond.selects RX3 yX3_answerFault yX3_answerFault ∈ wsT := tw 19 (by decide +kernel) rfl
theorem q_21 : Cond.selects RX3 yX3_sendFault yX3_sendFault ∈ wsT := tw 21 (by decide +kernel) rfl
theorem q_54 : Cond.fieldLink RX3 163 "NestedEnvelopes$State" "openMask" "I" ∈ wsT := tw 54 (by decide +kernel) rfl
theorem q_56 : Cond.fieldLink RX3 54 "NestedEnvelopes$State" "keys" "[I" ∈ wsT := tw 56 (by decide +kernel) rfl
theorem q_58 : Cond.fieldLink RX3 79 "NestedEnvelopes$State" "roadCount" "I" ∈ wsT := tw 58 (by decide +kernel) rfl
theorem q_62 : Cond.fieldLink RX3 106 "NestedEnvelopes$State" "roadHalls" "[I" ∈ wsT := tw 62 (by decide +kernel) rfl
theorem q_64 : Cond.fieldLink RX3 139 "NestedEnvelopes$State" "envelopeCount" "I" ∈ wsT := tw 64 (by decide +kernel) rfl
theorem q_67 : Cond.fieldLink RX3 151 "NestedEnvelopes$State" "letters" "[I" ∈ wsT := tw 67 (by decide +kernel) rfl
theorem q_69 : Cond.fieldLink RX3 242 "NestedEnvelopes$State" "answerRoads" "[I" ∈ wsT := tw 69 (by decide +kernel) rfl
theorem q_71 : Cond.fieldLink RX3 154 "NestedEnvelopes$State" "answerGot" "I" ∈ wsT := tw 71 (by decide +kernel) rfl
theorem q_73 : Cond.fieldLink RX3 157 "NestedEnvelopes$State" "counts" "[I" ∈ wsT := tw 73 (by decide +kernel) rfl
theorem q_112 : Cond.fieldLink RX3 202 "NestedEnvelopes$SavedStates" "size" "I" ∈ wsT := tw 112 (by decide +kernel) rfl
theorem q_132 : Cond.fieldLink RX3 10 "NestedEnvelopes" "now" "LNestedEnvelopes$State;" ∈ wsT := tw 132 (by decide +kernel) rfl
theorem q_133 : Cond.fieldLink RX3 19 "NestedEnvelopes" "saved" "LNestedEnvelopes$SavedStates;" ∈ wsT := tw 133 (by decide +kernel) rfl
theorem q_218 : Cond.methodLink RX3 207 yX1_giveBack ∈ wsT := tw 218 (by decide +kernel) rfl
theorem q_219 : Cond.instanceMethod yX1_giveBack ∈ wsT := tw 219 (by decide +kernel) rfl
theorem q_220 : Cond.selects RX1 yX1_giveBack yX1_giveBack ∈ wsT := tw 220 (by decide +kernel) rfl
theorem q_221 : Cond.code yX1_giveBack cX1_giveBack 3 none ∈ wsT := tw 221 (by decide +kernel) rfl
theorem q_247 : Cond.constantLong RX3 210 4726 ∈ wsT := tw 247 (by decide +kernel) rfl
theorem q_252 : Cond.methodLink RX3 216 yX3_mixedRow ∈ wsT := tw 252 (by decide +kernel) rfl
theorem q_253 : Cond.static yX3_mixedRow ∈ wsT := tw 253 (by decide +kernel) rfl
theorem q_254 : Cond.code yX3_mixedRow cX3_mixedRow 6 (some .long) ∈ wsT := tw 254 (by decide +kernel) rfl
theorem q_255 : Cond.methodLink RX3 220 yX3_mixedInns ∈ wsT := tw 255 (by decide +kernel) rfl
theorem q_257 : Cond.instanceMethod yX3_mixedInns ∈ wsT := tw 257 (by decide +kernel) rfl
theorem q_258 : Cond.code yX3_mixedInns cX3_mixedInns 6 (some .long) ∈ wsT := tw 258 (by decide +kernel) rfl
theorem q_259 : Cond.methodLink RX3 42 yX2_hasOpen ∈ wsT := tw 259 (by decide +kernel) rfl
theorem q_266 : Cond.methodLink RX3 58 yX3_read ∈ wsT := tw 266 (by decide +kernel) rfl
theorem q_269 : Cond.methodLink RX3 116 yX2_knownMask ∈ wsT := tw 269 (by decide +kernel) rfl
theorem q_270 : Cond.instanceMethod yX2_knownMask ∈ wsT := tw 270 (by decide +kernel) rfl
theorem q_271 : Cond.selects RX2 yX2_knownMask yX2_knownMask ∈ wsT := tw 271 (by decide +kernel) rfl
theorem q_272 : Cond.code yX2_knownMask cX2_knownMask 4 (some .int) ∈ wsT := tw 272 (by decide +kernel) rfl
theorem q_292 : Cond.methodLink RX3 160 yX2_lostWithout ∈ wsT := tw 292 (by decide +kernel) rfl
theorem q_293 : Cond.instanceMethod yX2_lostWithout ∈ wsT := tw 293 (by decide +kernel) rfl
theorem q_294 : Cond.selects RX2 yX2_lostWithout yX2_lostWithout ∈ wsT := tw 294 (by decide +kernel) rfl
theorem q_295 : Cond.code yX2_lostWithout cX2_lostWithout 4 (some .int) ∈ wsT := tw 295 (by decide +kernel) rfl
theorem q_304 : Cond.methodLink RX3 224 yX3_mixedRoads ∈ wsT := tw 304 (by decide +kernel) rfl
theorem q_306 : Cond.instanceMethod yX3_mixedRoads ∈ wsT := tw 306 (by decide +kernel) rfl
theorem q_307 : Cond.code yX3_mixedRoads cX3_mixedRoads 7 (some .long) ∈ wsT := tw 307 (by decide +kernel) rfl
theorem q_308 : Cond.methodLink RX3 103 yX2_innAt ∈ wsT := tw 308 (by decide +kernel) rfl
theorem q_309 : Cond.methodLink RX3 109 yX2_allOpenOn ∈ wsT := tw 309 (by decide +kernel) rfl
theorem q_310 : Cond.instanceMethod yX2_allOpenOn ∈ wsT := tw 310 (by decide +kernel) rfl
theorem q_311 : Cond.selects RX2 yX2_allOpenOn yX2_allOpenOn ∈ wsT := tw 311 (by decide +kernel) rfl
theorem q_312 : Cond.code yX2_allOpenOn cX2_allOpenOn 3 (some .boolean) ∈ wsT := tw 312 (by decide +kernel) rfl
theorem q_314 : Cond.methodLink RX3 227 yX3_mixedEnvelopes ∈ wsT := tw 314 (by decide +kernel) rfl
theorem q_316 : Cond.instanceMethod yX3_mixedEnvelopes ∈ wsT := tw 316 (by decide +kernel) rfl
theorem q_317 : Cond.code yX3_mixedEnvelopes cX3_mixedEnvelopes 7 (some .long) ∈ wsT := tw 317 (by decide +kernel) rfl
theorem q_318 : Cond.methodLink RX3 145 yX2_ofEnvelope ∈ wsT := tw 318 (by decide +kernel) rfl
theorem q_319 : Cond.methodLink RX3 166 yX2_ticksLeft ∈ wsT := tw 319 (by decide +kernel) rfl
theorem q_320 : Cond.methodLink RX3 169 yX2_leastUsedInn ∈ wsT := tw 320 (by decide +kernel) rfl
theorem q_321 : Cond.instanceMethod yX2_leastUsedInn ∈ wsT := tw 321 (by decide +kernel) rfl
theorem q_322 : Cond.selects RX2 yX2_leastUsedInn yX2_leastUsedInn ∈ wsT := tw 322 (by decide +kernel) rfl
theorem q_323 : Cond.code yX2_leastUsedInn cX2_leastUsedInn 5 (some .int) ∈ wsT := tw 323 (by decide +kernel) rfl
theorem q_351 : Cond.methodLink RX3 34 yX3_refuse ∈ wsT := tw 351 (by decide +kernel) rfl
theorem q_352 : Cond.static yX3_refuse ∈ wsT := tw 352 (by decide +kernel) rfl
theorem q_353 : Cond.code yX3_refuse cX3_refuse 1 none ∈ wsT := tw 353 (by decide +kernel) rfl
theorem q_387 : Cond.methodLink RX3 38 yX1_keep ∈ wsT := tw 387 (by decide +kernel) rfl
theorem q_388 : Cond.instanceMethod yX1_keep ∈ wsT := tw 388 (by decide +kernel) rfl
theorem q_389 : Cond.selects RX1 yX1_keep yX1_keep ∈ wsT := tw 389 (by decide +kernel) rfl
theorem q_390 : Cond.code yX1_keep cX1_keep 3 none ∈ wsT := tw 390 (by decide +kernel) rfl
theorem q_392 : Cond.methodLink RX3 46 yX2_turn ∈ wsT := tw 392 (by decide +kernel) rfl
theorem q_393 : Cond.instanceMethod yX2_turn ∈ wsT := tw 393 (by decide +kernel) rfl
theorem q_394 : Cond.selects RX2 yX2_turn yX2_turn ∈ wsT := tw 394 (by decide +kernel) rfl
theorem q_395 : Cond.code yX2_turn cX2_turn 4 none ∈ wsT := tw 395 (by decide +kernel) rfl
theorem q_400 : Cond.methodLink RX3 50 yX3_innAndBodyFault ∈ wsT := tw 400 (by decide +kernel) rfl
theorem q_401 : Cond.static yX3_innAndBodyFault ∈ wsT := tw 401 (by decide +kernel) rfl
theorem q_402 : Cond.code yX3_innAndBodyFault cX3_innAndBodyFault 2 (some .int) ∈ wsT := tw 402 (by decide +kernel) rfl
theorem q_406 : Cond.methodLink RX3 62 yX3_write ∈ wsT := tw 406 (by decide +kernel) rfl
theorem q_417 : Cond.methodLink RX3 72 yX3_layFault ∈ wsT := tw 417 (by decide +kernel) rfl
theorem q_419 : Cond.instanceMethod yX3_layFault ∈ wsT := tw 419 (by decide +kernel) rfl
theorem q_420 : Cond.code yX3_layFault cX3_layFault 6 (some .int) ∈ wsT := tw 420 (by decide +kernel) rfl
theorem q_421 : Cond.methodLink RX3 148 yX3_hallFault ∈ wsT := tw 421 (by decide +kernel) rfl
theorem q_422 : Cond.static yX3_hallFault ∈ wsT := tw 422 (by decide +kernel) rfl
theorem q_423 : Cond.code yX3_hallFault cX3_hallFault 1 (some .int) ∈ wsT := tw 423 (by decide +kernel) rfl
theorem q_424 : Cond.methodLink RX3 76 yX2_addRoad ∈ wsT := tw 424 (by decide +kernel) rfl
theorem q_425 : Cond.instanceMethod yX2_addRoad ∈ wsT := tw 425 (by decide +kernel) rfl
theorem q_426 : Cond.selects RX2 yX2_addRoad yX2_addRoad ∈ wsT := tw 426 (by decide +kernel) rfl
theorem q_427 : Cond.code yX2_addRoad cX2_addRoad 6 (some .int) ∈ wsT := tw 427 (by decide +kernel) rfl
theorem q_437 : Cond.methodLink RX3 142 yX3_envelopeFault ∈ wsT := tw 437 (by decide +kernel) rfl
theorem q_439 : Cond.instanceMethod yX3_envelopeFault ∈ wsT := tw 439 (by decide +kernel) rfl
theorem q_440 : Cond.code yX3_envelopeFault cX3_envelopeFault 2 (some .int) ∈ wsT := tw 440 (by decide +kernel) rfl
theorem q_445 : Cond.methodLink RX3 83 yX2_isUsed ∈ wsT := tw 445 (by decide +kernel) rfl
theorem q_446 : Cond.instanceMethod yX2_isUsed ∈ wsT := tw 446 (by decide +kernel) rfl
theorem q_447 : Cond.selects RX2 yX2_isUsed yX2_isUsed ∈ wsT := tw 447 (by decide +kernel) rfl
theorem q_448 : Cond.code yX2_isUsed cX2_isUsed 3 (some .boolean) ∈ wsT := tw 448 (by decide +kernel) rfl
theorem q_450 : Cond.methodLink RX3 93 yX2_removeLastRoad ∈ wsT := tw 450 (by decide +kernel) rfl
theorem q_451 : Cond.instanceMethod yX2_removeLastRoad ∈ wsT := tw 451 (by decide +kernel) rfl
theorem q_452 : Cond.selects RX2 yX2_removeLastRoad yX2_removeLastRoad ∈ wsT := tw 452 (by decide +kernel) rfl
theorem q_453 : Cond.code yX2_removeLastRoad cX2_removeLastRoad 2 none ∈ wsT := tw 453 (by decide +kernel) rfl
theorem q_465 : Cond.methodLink RX3 100 yX3_roadFault ∈ wsT := tw 465 (by decide +kernel) rfl
theorem q_467 : Cond.instanceMethod yX3_roadFault ∈ wsT := tw 467 (by decide +kernel) rfl
theorem q_468 : Cond.code yX3_roadFault cX3_roadFault 2 (some .int) ∈ wsT := tw 468 (by decide +kernel) rfl
theorem q_474 : Cond.methodLink RX3 136 yX2_letTicksPass ∈ wsT := tw 474 (by decide +kernel) rfl
theorem q_475 : Cond.instanceMethod yX2_letTicksPass ∈ wsT := tw 475 (by decide +kernel) rfl
theorem q_476 : Cond.selects RX2 yX2_letTicksPass yX2_letTicksPass ∈ wsT := tw 476 (by decide +kernel) rfl
theorem q_477 : Cond.code yX2_letTicksPass cX2_letTicksPass 5 (some .int) ∈ wsT := tw 477 (by decide +kernel) rfl
theorem q_523 : Cond.methodLink RX3 125 yX3_answerFault ∈ wsT := tw 523 (by decide +kernel) rfl
theorem q_525 : Cond.instanceMethod yX3_answerFault ∈ wsT := tw 525 (by decide +kernel) rfl
theorem q_526 : Cond.code yX3_answerFault cX3_answerFault 4 (some .int) ∈ wsT := tw 526 (by decide +kernel) rfl
theorem q_527 : Cond.methodLink RX3 128 yX2_addAnswer ∈ wsT := tw 527 (by decide +kernel) rfl
theorem q_528 : Cond.instanceMethod yX2_addAnswer ∈ wsT := tw 528 (by decide +kernel) rfl
theorem q_529 : Cond.selects RX2 yX2_addAnswer yX2_addAnswer ∈ wsT := tw 529 (by decide +kernel) rfl
theorem q_530 : Cond.code yX2_addAnswer cX2_addAnswer 3 (some .int) ∈ wsT := tw 530 (by decide +kernel) rfl
theorem q_539 : Cond.methodLink RX3 119 yX3_sendFault ∈ wsT := tw 539 (by decide +kernel) rfl
theorem q_541 : Cond.instanceMethod yX3_sendFault ∈ wsT := tw 541 (by decide +kernel) rfl
theorem q_542 : Cond.code yX3_sendFault cX3_sendFault 3 (some .int) ∈ wsT := tw 542 (by decide +kernel) rfl
theorem q_543 : Cond.methodLink RX3 122 yX2_addLetter ∈ wsT := tw 543 (by decide +kernel) rfl
theorem q_544 : Cond.instanceMethod yX2_addLetter ∈ wsT := tw 544 (by decide +kernel) rfl
theorem q_545 : Cond.selects RX2 yX2_addLetter yX2_addLetter ∈ wsT := tw 545 (by decide +kernel) rfl
theorem q_546 : Cond.code yX2_addLetter cX2_addLetter 5 (some .int) ∈ wsT := tw 546 (by decide +kernel) rfl
theorem q_562 : Cond.methodLink RX3 112 yX2_seenBeside ∈ wsT := tw 562 (by decide +kernel) rfl
theorem q_601 : Cond.methodLink RX3 66 yX3_covered ∈ wsT := tw 601 (by decide +kernel) rfl
theorem q_606 : Cond.methodLink RX3 69 yX3_uncovered ∈ wsT := tw 606 (by decide +kernel) rfl
theorem cw_X3_34 {R : Room} {s : State} {args : Array Value} (hts : ∀ w ∈ wsT, w.before args s = true) (hf : 1 + 1 ≤ R.frames) (hl : 8 + (1 + 11) + 20 ≤ R.locals) : CallB R s args RX3 34 yX3_refuse cX3_refuse 1 none (wsA yX3_refuse cX3_refuse 1 none) rm_X3_refuse 0 0 1 ∧ (Cond.static yX3_refuse).before args s = true := cwAS 1 hts q_351 q_352 q_23 q_353 rfl rfl (by decide +kernel) ⟨hf, hl⟩
theorem cw_X3_38 {R : Room} {s : State} {args : Array Value} (hts : ∀ w ∈ wsT, w.before args s = true) (hf : 3 + 1 ≤ R.frames) (hl : 8 + (3 + 11) + 102 ≤ R.locals) : CallW R s args RX3 RX1 38 yX1_keep cX1_keep 3 none (wsA yX1_keep cX1_keep 3 none) rm_X1_keep 0 0 1 := cwAV 1 hts q_387 q_388 q_389 q_26 q_390 rfl rfl (by decide +kernel) ⟨hf, hl⟩
theorem cw_X3_42 {R : Room} {s : State} {args : Array Value} (hts : ∀ w ∈ wsT, w.before args s = true) (hf : 1 + 1 ≤ R.frames) (hl : 8 + (2 + 11) + 21 ≤ R.locals) : CallW R s args RX3 RX2 42 yX2_hasOpen cX2_hasOpen 2 (some .boolean) (wsA yX2_hasOpen cX2_hasOpen 2 (some .boolean)) rm_X2_hasOpen 0 0 1 := cwAV 1 hts q_259 q_260 q_261 q_24 q_262 rfl rfl (by decide +kernel) ⟨hf, hl⟩
theorem cw_X3_46 {R : Room} {s : State} {args : Array Value} (hts : ∀ w ∈ wsT, w.before args s = true) (hf : 0 + 1 ≤ R.frames) (hl : 8 + (4 + 11) + 0 ≤ R.locals) : CallW R s args RX3 RX2 46 yX2_turn cX2_turn 4 none (wsA yX2_turn cX2_turn 4 none) rm_X2_turn 0 0 2 := cwAV 2 hts q_392 q_393 q_394 q_24 q_395 rfl rfl (by decide +kernel) ⟨hf, hl⟩
theorem cw_X3_50 {R : Room} {s : State} {args : Array Value} (hts : ∀ w ∈ wsT, w.before args s = true) (hf : 2 + 1 ≤ R.frames) (hl : 8 + (2 + 11) + 42 ≤ R.locals) : CallB R s args RX3 50 yX3_innAndBodyFault cX3_innAndBodyFault 2 (some .int) (wsA yX3_innAndBodyFault cX3_innAndBodyFault 2 (some .int)) rm_X3_innAndBodyFault 0 0 2 ∧ (Cond.static yX3_innAndBodyFault).before args s = true := cwAS 2 hts q_400 q_401 q_23 q_402 rfl rfl (by decide +kernel) ⟨hf, hl⟩
theorem cw_X3_58 {R : Room} {s : State} {args : Array Value} (hts : ∀ w ∈ wsT, w.before args s = true) (hf : 0 + 1 ≤ R.frames) (hl : 8 + (2 + 11) + 0 ≤ R.locals) : CallB R s args RX3 58 yX3_read cX3_read 2 (some .int) (wsA yX3_read cX3_read 2 (some .int)) rm_X3_read 0 0 2 ∧ (Cond.static yX3_read).before args s = true := cwAS 2 hts q_266 q_267 q_23 q_268 rfl rfl (by decide +kernel) ⟨hf, hl⟩
theorem cw_X3_62 {R : Room} {s : State} {args : Array Value} (hts : ∀ w ∈ wsT, w.before args s = true) (hf : 0 + 1 ≤ R.frames) (hl : 8 + (3 + 11) + 0 ≤ R.locals) : CallB R s args RX3 62 yX3_write cX3_write 3 none (wsA yX3_write cX3_write 3 none) rm_X3_write 0 0 3 ∧ (Cond.static yX3_write).before args s = true := cwAS 3 hts q_406 q_407 q_23 q_408 rfl rfl (by decide +kernel) ⟨hf, hl⟩
theorem cw_X3_66 {R : Room} {s : State} {args : Array Value} (hts : ∀ w ∈ wsT, w.before args s = true) (hf : 1 + 1 ≤ R.frames) (hl : 8 + (2 + 11) + 22 ≤ R.locals) : CallB R s args RX3 66 yX3_covered cX3_covered 2 (some .int) (wsA yX3_covered cX3_covered 2 (some .int)) rm_X3_covered 0 0 2 ∧ (Cond.static yX3_covered).before args s = true := cwAS 2 hts q_601 q_513 q_23 q_514 rfl rfl (by decide +kernel) ⟨hf, hl⟩
theorem cw_X3_69 {R : Room} {s : State} {args : Array Value} (hts : ∀ w ∈ wsT, w.before args s = true) (hf : 1 + 1 ≤ R.frames) (hl : 8 + (2 + 11) + 22 ≤ R.locals) : CallB R s args RX3 69 yX3_uncovered cX3_uncovered 2 (some .int) (wsA yX3_uncovered cX3_uncovered 2 (some .int)) rm_X3_uncovered 0 0 2 ∧ (Cond.static yX3_uncovered).before args s = true := cwAS 2 hts q_606 q_503 q_23 q_504 rfl rfl (by decide +kernel) ⟨hf, hl⟩
theorem cw_X3_148 {R : Room} {s : State} {args : Array Value} (hts : ∀ w ∈ wsT, w.before args s = true) (hf : 1 + 1 ≤ R.frames) (hl : 8 + (1 + 11) + 22 ≤ R.locals) : CallB R s args RX3 148 yX3_hallFault cX3_hallFault 1 (some .int) (wsA yX3_hallFault cX3_hallFault 1 (some .int)) rm_X3_hallFault 0 0 1 ∧ (Cond.static yX3_hallFault).before args s = true := cwAS 1 hts q_421 q_422 q_23 q_423 rfl rfl (by decide +kernel) ⟨hf, hl⟩
theorem cw_X3_72 {R : Room} {s : State} {args : Array Value} (hts : ∀ w ∈ wsT, w.before args s = true) (hf : 2 + 1 ≤ R.frames) (hl : 8 + (6 + 11) + 42 ≤ R.locals) : CallW R s args RX3 RX3 72 yX3_layFault cX3_layFault 6 (some .int) (wsA yX3_layFault cX3_layFault 6 (some .int)) rm_X3_layFault 0 0 4 := cwAV 4 hts q_417 q_419 q_7 q_23 q_420 rfl rfl (by decide +kernel) ⟨hf, hl⟩
theorem cw_X3_76 {R : Room} {s : State} {args : Array Value} (hts : ∀ w ∈ wsT, w.before args s = true) (hf : 2 + 1 ≤ R.frames) (hl : 8 + (6 + 11) + 45 ≤ R.locals) : CallW R s args RX3 RX2 76 yX2_addRoad cX2_addRoad 6 (some .int) (wsA yX2_addRoad cX2_addRoad 6 (some .int)) rm_X2_addRoad 0 0 4 := cwAV 4 hts q_424 q_425 q_426 q_24 q_427 rfl rfl (by decide +kernel) ⟨hf, hl⟩
theorem cw_X3_83 {R : Room} {s : State} {args : Array Value} (hts : ∀ w ∈ wsT, w.before args s = true) (hf : 2 + 1 ≤ R.frames) (hl : 8 + (3 + 11) + 43 ≤ R.locals) : CallW R s args RX3 RX2 83 yX2_isUsed cX2_isUsed 3 (some .boolean) (wsA yX2_isUsed cX2_isUsed 3 (some .boolean)) rm_X2_isUsed 0 0 1 := cwAV 1 hts q_445 q_446 q_447 q_24 q_448 rfl rfl (by decide +kernel) ⟨hf, hl⟩
theorem cw_X3_93 {R : Room} {s : State} {args : Array Value} (hts : ∀ w ∈ wsT, w.before args s = true) (hf : 1 + 1 ≤ R.frames) (hl : 8 + (2 + 11) + 22 ≤ R.locals) : CallW R s args RX3 RX2 93 yX2_removeLastRoad cX2_removeLastRoad 2 none (wsA yX2_removeLastRoad cX2_removeLastRoad 2 none) rm_X2_removeLastRoad 0 0 0 := cwAV 0 hts q_450 q_451 q_452 q_24 q_453 rfl rfl (by decide +kernel) ⟨hf, hl⟩
theorem cw_X3_103 {R : Room} {s : State} {args : Array Value} (hts : ∀ w ∈ wsT, w.before args s = true) (hf : 1 + 1 ≤ R.frames) (hl : 8 + (3 + 11) + 21 ≤ R.locals) : CallW R s args RX3 RX2 103 yX2_innAt cX2_innAt 3 (some .int) (wsA yX2_innAt cX2_innAt 3 (some .int)) rm_X2_innAt 0 0 2 := cwAV 2 hts q_308 q_282 q_283 q_24 q_284 rfl rfl (by decide +kernel) ⟨hf, hl⟩
theorem cw_X3_100 {R : Room} {s : State} {args : Array Value} (hts : ∀ w ∈ wsT, w.before args s = true) (hf : 1 + 1 ≤ R.frames) (hl : 8 + (2 + 11) + 22 ≤ R.locals) : CallW R s args RX3 RX3 100 yX3_roadFault cX3_roadFault 2 (some .int) (wsA yX3_roadFault cX3_roadFault 2 (some .int)) rm_X3_roadFault 0 0 1 := cwAV 1 hts q_465 q_467 q_10 q_23 q_468 rfl rfl (by decide +kernel) ⟨hf, hl⟩
theorem cw_X3_109 {R : Room} {s : State} {args : Array Value} (hts : ∀ w ∈ wsT, w.before args s = true) (hf : 2 + 1 ≤ R.frames) (hl : 8 + (3 + 11) + 43 ≤ R.locals) : CallW R s args RX3 RX2 109 yX2_allOpenOn cX2_allOpenOn 3 (some .boolean) (wsA yX2_allOpenOn cX2_allOpenOn 3 (some .boolean)) rm_X2_allOpenOn 0 0 1 := cwAV 1 hts q_309 q_310 q_311 q_24 q_312 rfl rfl (by decide +kernel) ⟨hf, hl⟩
theorem cw_X3_112 {R : Room} {s : State} {args : Array Value} (hts : ∀ w ∈ wsT, w.before args s = true) (hf : 3 + 1 ≤ R.frames) (hl : 8 + (6 + 11) + 66 ≤ R.locals) : CallW R s args RX3 RX2 112 yX2_seenBeside cX2_seenBeside 6 (some .int) (wsA yX2_seenBeside cX2_seenBeside 6 (some .int)) rm_X2_seenBeside 0 0 3 := cwAV 3 hts q_562 q_274 q_275 q_24 q_276 rfl rfl (by decide +kernel) ⟨hf, hl⟩
theorem cw_X3_116 {R : Room} {s : State} {args : Array Value} (hts : ∀ w ∈ wsT, w.before args s = true) (hf : 4 + 1 ≤ R.frames) (hl : 8 + (4 + 11) + 91 ≤ R.locals) : CallW R s args RX3 RX2 116 yX2_knownMask cX2_knownMask 4 (some .int) (wsA yX2_knownMask cX2_knownMask 4 (some .int)) rm_X2_knownMask 0 0 1 := cwAV 1 hts q_269 q_270 q_271 q_24 q_272 rfl rfl (by decide +kernel) ⟨hf, hl⟩
theorem cw_X3_119 {R : Room} {s : State} {args : Array Value} (hts : ∀ w ∈ wsT, w.before args s = true) (hf : 2 + 1 ≤ R.frames) (hl : 8 + (3 + 11) + 43 ≤ R.locals) : CallW R s args RX3 RX3 119 yX3_sendFault cX3_sendFault 3 (some .int) (wsA yX3_sendFault cX3_sendFault 3 (some .int)) rm_X3_sendFault 0 0 2 := cwAV 2 hts q_539 q_541 q_21 q_23 q_542 rfl rfl (by decide +kernel) ⟨hf, hl⟩
theorem cw_X3_122 {R : Room} {s : State} {args : Array Value} (hts : ∀ w ∈ wsT, w.before args s = true) (hf : 3 + 1 ≤ R.frames) (hl : 8 + (5 + 11) + 70 ≤ R.locals) : CallW R s args RX3 RX2 122 yX2_addLetter cX2_addLetter 5 (some .int) (wsA yX2_addLetter cX2_addLetter 5 (some .int)) rm_X2_addLetter 0 0 2 := cwAV 2 hts q_543 q_544 q_545 q_24 q_546 rfl rfl (by decide +kernel) ⟨hf, hl⟩
theorem cw_X3_125 {R : Room} {s : State} {args : Array Value} (hts : ∀ w ∈ wsT, w.before args s = true) (hf : 2 + 1 ≤ R.frames) (hl : 8 + (4 + 11) + 42 ≤ R.locals) : CallW R s args RX3 RX3 125 yX3_answerFault cX3_answerFault 4 (some .int) (wsA yX3_answerFault cX3_answerFault 4 (some .int)) rm_X3_answerFault 0 0 2 := cwAV 2 hts q_523 q_525 q_19 q_23 q_526 rfl rfl (by decide +kernel) ⟨hf, hl⟩
theorem cw_X3_128 {R : Room} {s : State} {args : Array Value} (hts : ∀ w ∈ wsT, w.before args s = true) (hf : 3 + 1 ≤ R.frames) (hl : 8 + (3 + 11) + 70 ≤ R.locals) : CallW R s args RX3 RX2 128 yX2_addAnswer cX2_addAnswer 3 (some .int) (wsA yX2_addAnswer cX2_addAnswer 3 (some .int)) rm_X2_addAnswer 0 0 2 := cwAV 2 hts q_527 q_528 q_529 q_24 q_530 rfl rfl (by decide +kernel) ⟨hf, hl⟩
theorem cw_X3_136 {R : Room} {s : State} {args : Array Value} (hts : ∀ w ∈ wsT, w.before args s = true) (hf : 4 + 1 ≤ R.frames) (hl : 8 + (5 + 11) + 94 ≤ R.locals) : CallW R s args RX3 RX2 136 yX2_letTicksPass cX2_letTicksPass 5 (some .int) (wsA yX2_letTicksPass cX2_letTicksPass 5 (some .int)) rm_X2_letTicksPass 0 0 1 := cwAV 1 hts q_474 q_475 q_476 q_24 q_477 rfl rfl (by decide +kernel) ⟨hf, hl⟩
theorem cw_X3_145 {R : Room} {s : State} {args : Array Value} (hts : ∀ w ∈ wsT, w.before args s = true) (hf : 1 + 1 ≤ R.frames) (hl : 8 + (3 + 11) + 21 ≤ R.locals) : CallW R s args RX3 RX2 145 yX2_ofEnvelope cX2_ofEnvelope 3 (some .int) (wsA yX2_ofEnvelope cX2_ofEnvelope 3 (some .int)) rm_X2_ofEnvelope 0 0 2 := cwAV 2 hts q_318 q_301 q_302 q_24 q_303 rfl rfl (by decide +kernel) ⟨hf, hl⟩
theorem cw_X3_142 {R : Room} {s : State} {args : Array Value} (hts : ∀ w ∈ wsT, w.before args s = true) (hf : 1 + 1 ≤ R.frames) (hl : 8 + (2 + 11) + 22 ≤ R.locals) : CallW R s args RX3 RX3 142 yX3_envelopeFault cX3_envelopeFault 2 (some .int) (wsA yX3_envelopeFault cX3_envelopeFault 2 (some .int)) rm_X3_envelopeFault 0 0 1 := cwAV 1 hts q_437 q_439 q_9 q_23 q_440 rfl rfl (by decide +kernel) ⟨hf, hl⟩
theorem cw_X3_160 {R : Room} {s : State} {args : Array Value} (hts : ∀ w ∈ wsT, w.before args s = true) (hf : 3 + 1 ≤ R.frames) (hl : 8 + (4 + 11) + 70 ≤ R.locals) : CallW R s args RX3 RX2 160 yX2_lostWithout cX2_lostWithout 4 (some .int) (wsA yX2_lostWithout cX2_lostWithout 4 (some .int)) rm_X2_lostWithout 0 0 1 := cwAV 1 hts q_292 q_293 q_294 q_24 q_295 rfl rfl (by decide +kernel) ⟨hf, hl⟩
theorem cw_X3_166 {R : Room} {s : State} {args : Array Value} (hts : ∀ w ∈ wsT, w.before args s = true) (hf : 2 + 1 ≤ R.frames) (hl : 8 + (8 + 11) + 43 ≤ R.locals) : CallW R s args RX3 RX2 166 yX2_ticksLeft cX2_ticksLeft 8 (some .int) (wsA yX2_ticksLeft cX2_ticksLeft 8 (some .int)) rm_X2_ticksLeft 0 0 2 := cwAV 2 hts q_319 q_297 q_298 q_24 q_299 rfl rfl (by decide +kernel) ⟨hf, hl⟩
theorem cw_X3_169 {R : Room} {s : State} {args : Array Value} (hts : ∀ w ∈ wsT, w.before args s = true) (hf : 4 + 1 ≤ R.frames) (hl : 8 + (5 + 11) + 89 ≤ R.locals) : CallW R s args RX3 RX2 169 yX2_leastUsedInn cX2_leastUsedInn 5 (some .int) (wsA yX2_leastUsedInn cX2_leastUsedInn 5 (some .int)) rm_X2_leastUsedInn 0 0 1 := cwAV 1 hts q_320 q_321 q_322 q_24 q_323 rfl rfl (by decide +kernel) ⟨hf, hl⟩
theorem cw_X3_207 {R : Room} {s : State} {args : Array Value} (hts : ∀ w ∈ wsT, w.before args s = true) (hf : 3 + 1 ≤ R.frames) (hl : 8 + (3 + 11) + 102 ≤ R.locals) : CallW R s args RX3 RX1 207 yX1_giveBack cX1_giveBack 3 none (wsA yX1_giveBack cX1_giveBack 3 none) rm_X1_giveBack 0 0 1 := cwAV 1 hts q_218 q_219 q_220 q_26 q_221 rfl rfl (by decide +kernel) ⟨hf, hl⟩
theorem cw_X3_216 {R : Room} {s : State} {args : Array Value} (hts : ∀ w ∈ wsT, w.before args s = true) (hf : 1 + 1 ≤ R.frames) (hl : 8 + (6 + 11) + 22 ≤ R.locals) : CallB R s args RX3 216 yX3_mixedRow cX3_mixedRow 6 (some .long) (wsA yX3_mixedRow cX3_mixedRow 6 (some .long)) rm_X3_mixedRow 0 0 2 ∧ (Cond.static yX3_mixedRow).before args s = true := cwAS 2 hts q_252 q_253 q_23 q_254 rfl rfl (by decide +kernel) ⟨hf, hl⟩
theorem cw_X3_220 {R : Room} {s : State} {args : Array Value} (hts : ∀ w ∈ wsT, w.before args s = true) (hf : 5 + 1 ≤ R.frames) (hl : 8 + (6 + 11) + 114 ≤ R.locals) : CallW R s args RX3 RX3 220 yX3_mixedInns cX3_mixedInns 6 (some .long) (wsA yX3_mixedInns cX3_mixedInns 6 (some .long)) rm_X3_mixedInns 0 0 1 := cwAV 1 hts q_255 q_257 q_2 q_23 q_258 rfl rfl (by decide +kernel) ⟨hf, hl⟩
theorem cw_X3_224 {R : Room} {s : State} {args : Array Value} (hts : ∀ w ∈ wsT, w.before args s = true) (hf : 3 + 1 ≤ R.frames) (hl : 8 + (7 + 11) + 65 ≤ R.locals) : CallW R s args RX3 RX3 224 yX3_mixedRoads cX3_mixedRoads 7 (some .long) (wsA yX3_mixedRoads cX3_mixedRoads 7 (some .long)) rm_X3_mixedRoads 0 0 1 := cwAV 1 hts q_304 q_306 q_4 q_23 q_307 rfl rfl (by decide +kernel) ⟨hf, hl⟩
theorem cw_X3_227 {R : Room} {s : State} {args : Array Value} (hts : ∀ w ∈ wsT, w.before args s = true) (hf : 3 + 1 ≤ R.frames) (hl : 8 + (7 + 11) + 70 ≤ R.locals) : CallW R s args RX3 RX3 227 yX3_mixedEnvelopes cX3_mixedEnvelopes 7 (some .long) (wsA yX3_mixedEnvelopes cX3_mixedEnvelopes 7 (some .long)) rm_X3_mixedEnvelopes 0 0 1 := cwAV 1 hts q_314 q_316 q_5 q_23 q_317 rfl rfl (by decide +kernel) ⟨hf, hl⟩
