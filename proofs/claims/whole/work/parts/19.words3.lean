abbrev rm_X3_refuse : Room := { frames := 6, cells := 1, slots := 6, locals := 90 }
abbrev rm_X3_setOpen : Room := { frames := 7, cells := 1, slots := 6, locals := 124 }
abbrev rm_X3_setKey : Room := { frames := 7, cells := 1, slots := 6, locals := 124 }
abbrev rm_X3_isOpen : Room := { frames := 7, cells := 1, slots := 6, locals := 110 }
abbrev rm_X3_key : Room := { frames := 7, cells := 1, slots := 6, locals := 110 }
abbrev rm_X3_cover : Room := { frames := 7, cells := 1, slots := 6, locals := 110 }
abbrev rm_X3_uncover : Room := { frames := 7, cells := 1, slots := 6, locals := 110 }
abbrev rm_X3_layFault : Room := { frames := 2, cells := 0, slots := 0, locals := 42 }
abbrev rm_X3_lay : Room := { frames := 7, cells := 1, slots := 6, locals := 124 }
abbrev rm_X3_takeUp : Room := { frames := 6, cells := 1, slots := 6, locals := 124 }
abbrev rm_X3_roads : Room := { frames := 0, cells := 0, slots := 0, locals := 0 }
abbrev rm_X3_roadFault : Room := { frames := 1, cells := 0, slots := 0, locals := 22 }
abbrev rm_X3_inn : Room := { frames := 7, cells := 1, slots := 6, locals := 110 }
abbrev rm_X3_hall : Room := { frames := 7, cells := 1, slots := 6, locals := 110 }
abbrev rm_X3_stands : Room := { frames := 7, cells := 1, slots := 6, locals := 110 }
abbrev rm_X3_see : Room := { frames := 7, cells := 2, slots := 12, locals := 110 }
abbrev rm_X3_known : Room := { frames := 7, cells := 1, slots := 6, locals := 114 }
abbrev rm_X3_sendFault : Room := { frames := 2, cells := 0, slots := 0, locals := 43 }
abbrev rm_X3_send : Room := { frames := 7, cells := 1, slots := 6, locals := 124 }
abbrev rm_X3_answerFault : Room := { frames := 2, cells := 0, slots := 0, locals := 42 }
abbrev rm_X3_answer : Room := { frames := 7, cells := 1, slots := 6, locals := 124 }
abbrev rm_X3_pass : Room := { frames := 6, cells := 1, slots := 6, locals := 124 }
abbrev rm_X3_envelopes : Room := { frames := 0, cells := 0, slots := 0, locals := 0 }
abbrev rm_X3_envelopeFault : Room := { frames := 1, cells := 0, slots := 0, locals := 22 }
abbrev rm_X3_envelope : Room := { frames := 7, cells := 1, slots := 6, locals := 110 }
abbrev rm_X3_letter : Room := { frames := 7, cells := 1, slots := 6, locals := 110 }
abbrev rm_X3_lastAnswer : Room := { frames := 0, cells := 0, slots := 0, locals := 0 }
abbrev rm_X3_count : Room := { frames := 7, cells := 1, slots := 6, locals := 110 }
abbrev rm_X3_lostIfClosed : Room := { frames := 7, cells := 1, slots := 6, locals := 110 }
abbrev rm_X3_ticksTo : Room := { frames := 7, cells := 1, slots := 6, locals := 110 }
abbrev rm_X3_leastWork : Room := { frames := 7, cells := 1, slots := 6, locals := 113 }
abbrev rm_X3_append : Room := { frames := 6, cells := 1, slots := 6, locals := 90 }
abbrev rm_X3_clearText : Room := { frames := 1, cells := 0, slots := 0, locals := 21 }
abbrev rm_X3_firstError : Room := { frames := 4, cells := 0, slots := 0, locals := 93 }
abbrev rm_X3_layIfFine : Room := { frames := 3, cells := 0, slots := 0, locals := 70 }
abbrev rm_X3_sendIfFine : Room := { frames := 4, cells := 0, slots := 0, locals := 94 }
abbrev rm_X3_answerIfFine : Room := { frames := 4, cells := 0, slots := 0, locals := 92 }
abbrev rm_X3_executeOrder : Room := { frames := 5, cells := 0, slots := 0, locals := 118 }
abbrev rm_X3_run : Room := { frames := 6, cells := 1, slots := 6, locals := 141 }
abbrev rm_X3_undo : Room := { frames := 6, cells := 1, slots := 6, locals := 124 }
abbrev rm_X3_savedStates : Room := { frames := 0, cells := 0, slots := 0, locals := 0 }
abbrev rm_X3_mixedInns : Room := { frames := 5, cells := 0, slots := 0, locals := 114 }
abbrev rm_X3_mixedRoads : Room := { frames := 3, cells := 0, slots := 0, locals := 65 }
abbrev rm_X3_mixedEnvelopes : Room := { frames := 3, cells := 0, slots := 0, locals := 70 }
abbrev rm_X3_digest : Room := { frames := 6, cells := 0, slots := 0, locals := 139 }
theorem q_4 : Cond.selects RX3 yX3_mixedInns yX3_mixedInns ∈ wsT := tw 4 (by decide +kernel) rfl
theorem q_6 : Cond.selects RX3 yX3_mixedRoads yX3_mixedRoads ∈ wsT := tw 6 (by decide +kernel) rfl
theorem q_7 : Cond.selects RX3 yX3_mixedEnvelopes yX3_mixedEnvelopes ∈ wsT := tw 7 (by decide +kernel) rfl
theorem q_11 : Cond.selects RX3 yX3_layFault yX3_layFault ∈ wsT := tw 11 (by decide +kernel) rfl
theorem q_13 : Cond.selects RX3 yX3_roadFault yX3_roadFault ∈ wsT := tw 13 (by decide +kernel) rfl
theorem q_14 : Cond.selects RX3 yX3_sendFault yX3_sendFault ∈ wsT := tw 14 (by decide +kernel) rfl
theorem q_19 : Cond.selects RX3 yX3_answerFault yX3_answerFault ∈ wsT := tw 19 (by decide +kernel) rfl
theorem q_25 : Cond.selects RX3 yX3_envelopeFault yX3_envelopeFault ∈ wsT := tw 25 (by decide +kernel) rfl
theorem q_27 : Cond.selects RX3 yX3_executeOrder yX3_executeOrder ∈ wsT := tw 27 (by decide +kernel) rfl
theorem q_28 : Cond.selects RX3 yX3_layIfFine yX3_layIfFine ∈ wsT := tw 28 (by decide +kernel) rfl
theorem q_29 : Cond.selects RX3 yX3_sendIfFine yX3_sendIfFine ∈ wsT := tw 29 (by decide +kernel) rfl
theorem q_30 : Cond.selects RX3 yX3_answerIfFine yX3_answerIfFine ∈ wsT := tw 30 (by decide +kernel) rfl
theorem q_108 : Cond.fieldLink RX3 163 "NestedEnvelopes$State" "openMask" "I" ∈ wsT := tw 108 (by decide +kernel) rfl
theorem q_110 : Cond.fieldLink RX3 54 "NestedEnvelopes$State" "keys" "[I" ∈ wsT := tw 110 (by decide +kernel) rfl
theorem q_112 : Cond.fieldLink RX3 79 "NestedEnvelopes$State" "roadCount" "I" ∈ wsT := tw 112 (by decide +kernel) rfl
theorem q_116 : Cond.fieldLink RX3 106 "NestedEnvelopes$State" "roadHalls" "[I" ∈ wsT := tw 116 (by decide +kernel) rfl
theorem q_118 : Cond.fieldLink RX3 139 "NestedEnvelopes$State" "envelopeCount" "I" ∈ wsT := tw 118 (by decide +kernel) rfl
theorem q_121 : Cond.fieldLink RX3 151 "NestedEnvelopes$State" "letters" "[I" ∈ wsT := tw 121 (by decide +kernel) rfl
theorem q_123 : Cond.fieldLink RX3 242 "NestedEnvelopes$State" "answerRoads" "[I" ∈ wsT := tw 123 (by decide +kernel) rfl
theorem q_125 : Cond.fieldLink RX3 154 "NestedEnvelopes$State" "answerGot" "I" ∈ wsT := tw 125 (by decide +kernel) rfl
theorem q_127 : Cond.fieldLink RX3 157 "NestedEnvelopes$State" "counts" "[I" ∈ wsT := tw 127 (by decide +kernel) rfl
theorem q_166 : Cond.fieldLink RX3 202 "NestedEnvelopes$SavedStates" "size" "I" ∈ wsT := tw 166 (by decide +kernel) rfl
theorem q_182 : Cond.fieldLink RX3 174 "NestedEnvelopes$OrderText" "length" "I" ∈ wsT := tw 182 (by decide +kernel) rfl
theorem q_188 : Cond.fieldLink RX3 10 "NestedEnvelopes" "now" "LNestedEnvelopes$State;" ∈ wsT := tw 188 (by decide +kernel) rfl
theorem q_189 : Cond.fieldLink RX3 19 "NestedEnvelopes" "saved" "LNestedEnvelopes$SavedStates;" ∈ wsT := tw 189 (by decide +kernel) rfl
theorem q_190 : Cond.fieldLink RX3 26 "NestedEnvelopes" "text" "LNestedEnvelopes$OrderText;" ∈ wsT := tw 190 (by decide +kernel) rfl
theorem q_214 : Cond.methodLink RX3 58 yX3_read ∈ wsT := tw 214 (by decide +kernel) rfl
theorem q_221 : Cond.methodLink RX3 182 yX0_empty ∈ wsT := tw 221 (by decide +kernel) rfl
theorem q_222 : Cond.instanceMethod yX0_empty ∈ wsT := tw 222 (by decide +kernel) rfl
theorem q_223 : Cond.selects RX0 yX0_empty yX0_empty ∈ wsT := tw 223 (by decide +kernel) rfl
theorem q_224 : Cond.code yX0_empty cX0_empty 2 (some .int) ∈ wsT := tw 224 (by decide +kernel) rfl
theorem q_229 : Cond.methodLink RX3 186 yX0_errorIndex ∈ wsT := tw 229 (by decide +kernel) rfl
theorem q_267 : Cond.constantLong RX3 210 4726 ∈ wsT := tw 267 (by decide +kernel) rfl
theorem q_272 : Cond.methodLink RX3 216 yX3_mixedRow ∈ wsT := tw 272 (by decide +kernel) rfl
theorem q_273 : Cond.static yX3_mixedRow ∈ wsT := tw 273 (by decide +kernel) rfl
theorem q_274 : Cond.code yX3_mixedRow cX3_mixedRow 6 (some .long) ∈ wsT := tw 274 (by decide +kernel) rfl
theorem q_275 : Cond.methodLink RX3 220 yX3_mixedInns ∈ wsT := tw 275 (by decide +kernel) rfl
theorem q_277 : Cond.instanceMethod yX3_mixedInns ∈ wsT := tw 277 (by decide +kernel) rfl
theorem q_278 : Cond.code yX3_mixedInns cX3_mixedInns 6 (some .long) ∈ wsT := tw 278 (by decide +kernel) rfl
theorem q_279 : Cond.methodLink RX3 42 yX2_hasOpen ∈ wsT := tw 279 (by decide +kernel) rfl
theorem q_286 : Cond.methodLink RX3 116 yX2_knownMask ∈ wsT := tw 286 (by decide +kernel) rfl
theorem q_287 : Cond.instanceMethod yX2_knownMask ∈ wsT := tw 287 (by decide +kernel) rfl
theorem q_288 : Cond.selects RX2 yX2_knownMask yX2_knownMask ∈ wsT := tw 288 (by decide +kernel) rfl
theorem q_289 : Cond.code yX2_knownMask cX2_knownMask 4 (some .int) ∈ wsT := tw 289 (by decide +kernel) rfl
theorem q_307 : Cond.methodLink RX3 160 yX2_lostWithout ∈ wsT := tw 307 (by decide +kernel) rfl
theorem q_308 : Cond.instanceMethod yX2_lostWithout ∈ wsT := tw 308 (by decide +kernel) rfl
theorem q_309 : Cond.selects RX2 yX2_lostWithout yX2_lostWithout ∈ wsT := tw 309 (by decide +kernel) rfl
theorem q_310 : Cond.code yX2_lostWithout cX2_lostWithout 4 (some .int) ∈ wsT := tw 310 (by decide +kernel) rfl
theorem q_319 : Cond.methodLink RX3 224 yX3_mixedRoads ∈ wsT := tw 319 (by decide +kernel) rfl
theorem q_321 : Cond.instanceMethod yX3_mixedRoads ∈ wsT := tw 321 (by decide +kernel) rfl
theorem q_322 : Cond.code yX3_mixedRoads cX3_mixedRoads 7 (some .long) ∈ wsT := tw 322 (by decide +kernel) rfl
theorem q_323 : Cond.methodLink RX3 103 yX2_innAt ∈ wsT := tw 323 (by decide +kernel) rfl
theorem q_324 : Cond.methodLink RX3 109 yX2_allOpenOn ∈ wsT := tw 324 (by decide +kernel) rfl
theorem q_325 : Cond.instanceMethod yX2_allOpenOn ∈ wsT := tw 325 (by decide +kernel) rfl
theorem q_326 : Cond.selects RX2 yX2_allOpenOn yX2_allOpenOn ∈ wsT := tw 326 (by decide +kernel) rfl
theorem q_327 : Cond.code yX2_allOpenOn cX2_allOpenOn 3 (some .boolean) ∈ wsT := tw 327 (by decide +kernel) rfl
theorem q_329 : Cond.methodLink RX3 227 yX3_mixedEnvelopes ∈ wsT := tw 329 (by decide +kernel) rfl
theorem q_331 : Cond.instanceMethod yX3_mixedEnvelopes ∈ wsT := tw 331 (by decide +kernel) rfl
theorem q_332 : Cond.code yX3_mixedEnvelopes cX3_mixedEnvelopes 7 (some .long) ∈ wsT := tw 332 (by decide +kernel) rfl
theorem q_333 : Cond.methodLink RX3 145 yX2_ofEnvelope ∈ wsT := tw 333 (by decide +kernel) rfl
theorem q_334 : Cond.methodLink RX3 166 yX2_ticksLeft ∈ wsT := tw 334 (by decide +kernel) rfl
theorem q_335 : Cond.methodLink RX3 169 yX2_leastUsedInn ∈ wsT := tw 335 (by decide +kernel) rfl
theorem q_336 : Cond.instanceMethod yX2_leastUsedInn ∈ wsT := tw 336 (by decide +kernel) rfl
theorem q_337 : Cond.selects RX2 yX2_leastUsedInn yX2_leastUsedInn ∈ wsT := tw 337 (by decide +kernel) rfl
theorem q_338 : Cond.code yX2_leastUsedInn cX2_leastUsedInn 5 (some .int) ∈ wsT := tw 338 (by decide +kernel) rfl
theorem q_355 : Cond.methodLink RX3 34 yX3_refuse ∈ wsT := tw 355 (by decide +kernel) rfl
theorem q_356 : Cond.static yX3_refuse ∈ wsT := tw 356 (by decide +kernel) rfl
theorem q_357 : Cond.code yX3_refuse cX3_refuse 1 none ∈ wsT := tw 357 (by decide +kernel) rfl
theorem q_458 : Cond.methodLink RX3 38 yX1_keep ∈ wsT := tw 458 (by decide +kernel) rfl
theorem q_459 : Cond.instanceMethod yX1_keep ∈ wsT := tw 459 (by decide +kernel) rfl
theorem q_460 : Cond.selects RX1 yX1_keep yX1_keep ∈ wsT := tw 460 (by decide +kernel) rfl
theorem q_461 : Cond.code yX1_keep cX1_keep 3 none ∈ wsT := tw 461 (by decide +kernel) rfl
theorem q_480 : Cond.methodLink RX3 46 yX2_turn ∈ wsT := tw 480 (by decide +kernel) rfl
theorem q_481 : Cond.instanceMethod yX2_turn ∈ wsT := tw 481 (by decide +kernel) rfl
theorem q_482 : Cond.selects RX2 yX2_turn yX2_turn ∈ wsT := tw 482 (by decide +kernel) rfl
theorem q_483 : Cond.code yX2_turn cX2_turn 4 none ∈ wsT := tw 483 (by decide +kernel) rfl
theorem q_492 : Cond.methodLink RX3 50 yX3_innAndBodyFault ∈ wsT := tw 492 (by decide +kernel) rfl
theorem q_493 : Cond.static yX3_innAndBodyFault ∈ wsT := tw 493 (by decide +kernel) rfl
theorem q_494 : Cond.code yX3_innAndBodyFault cX3_innAndBodyFault 2 (some .int) ∈ wsT := tw 494 (by decide +kernel) rfl
theorem q_498 : Cond.methodLink RX3 62 yX3_write ∈ wsT := tw 498 (by decide +kernel) rfl
theorem q_522 : Cond.methodLink RX3 66 yX3_covered ∈ wsT := tw 522 (by decide +kernel) rfl
theorem q_535 : Cond.methodLink RX3 69 yX3_uncovered ∈ wsT := tw 535 (by decide +kernel) rfl
theorem q_546 : Cond.methodLink RX3 72 yX3_layFault ∈ wsT := tw 546 (by decide +kernel) rfl
theorem q_548 : Cond.instanceMethod yX3_layFault ∈ wsT := tw 548 (by decide +kernel) rfl
theorem q_549 : Cond.code yX3_layFault cX3_layFault 6 (some .int) ∈ wsT := tw 549 (by decide +kernel) rfl
theorem q_550 : Cond.methodLink RX3 148 yX3_hallFault ∈ wsT := tw 550 (by decide +kernel) rfl
theorem q_551 : Cond.static yX3_hallFault ∈ wsT := tw 551 (by decide +kernel) rfl
theorem q_552 : Cond.code yX3_hallFault cX3_hallFault 1 (some .int) ∈ wsT := tw 552 (by decide +kernel) rfl
theorem q_553 : Cond.methodLink RX3 76 yX2_addRoad ∈ wsT := tw 553 (by decide +kernel) rfl
theorem q_554 : Cond.instanceMethod yX2_addRoad ∈ wsT := tw 554 (by decide +kernel) rfl
theorem q_555 : Cond.selects RX2 yX2_addRoad yX2_addRoad ∈ wsT := tw 555 (by decide +kernel) rfl
theorem q_556 : Cond.code yX2_addRoad cX2_addRoad 6 (some .int) ∈ wsT := tw 556 (by decide +kernel) rfl
theorem q_569 : Cond.methodLink RX3 83 yX2_isUsed ∈ wsT := tw 569 (by decide +kernel) rfl
theorem q_570 : Cond.instanceMethod yX2_isUsed ∈ wsT := tw 570 (by decide +kernel) rfl
theorem q_571 : Cond.selects RX2 yX2_isUsed yX2_isUsed ∈ wsT := tw 571 (by decide +kernel) rfl
theorem q_572 : Cond.code yX2_isUsed cX2_isUsed 3 (some .boolean) ∈ wsT := tw 572 (by decide +kernel) rfl
theorem q_574 : Cond.methodLink RX3 93 yX2_removeLastRoad ∈ wsT := tw 574 (by decide +kernel) rfl
theorem q_575 : Cond.instanceMethod yX2_removeLastRoad ∈ wsT := tw 575 (by decide +kernel) rfl
theorem q_576 : Cond.selects RX2 yX2_removeLastRoad yX2_removeLastRoad ∈ wsT := tw 576 (by decide +kernel) rfl
theorem q_577 : Cond.code yX2_removeLastRoad cX2_removeLastRoad 2 none ∈ wsT := tw 577 (by decide +kernel) rfl
theorem q_585 : Cond.methodLink RX3 100 yX3_roadFault ∈ wsT := tw 585 (by decide +kernel) rfl
theorem q_587 : Cond.instanceMethod yX3_roadFault ∈ wsT := tw 587 (by decide +kernel) rfl
theorem q_588 : Cond.code yX3_roadFault cX3_roadFault 2 (some .int) ∈ wsT := tw 588 (by decide +kernel) rfl
theorem q_610 : Cond.methodLink RX3 112 yX2_seenBeside ∈ wsT := tw 610 (by decide +kernel) rfl
theorem q_625 : Cond.methodLink RX3 119 yX3_sendFault ∈ wsT := tw 625 (by decide +kernel) rfl
theorem q_627 : Cond.instanceMethod yX3_sendFault ∈ wsT := tw 627 (by decide +kernel) rfl
theorem q_628 : Cond.code yX3_sendFault cX3_sendFault 3 (some .int) ∈ wsT := tw 628 (by decide +kernel) rfl
theorem q_629 : Cond.methodLink RX3 122 yX2_addLetter ∈ wsT := tw 629 (by decide +kernel) rfl
theorem q_630 : Cond.instanceMethod yX2_addLetter ∈ wsT := tw 630 (by decide +kernel) rfl
theorem q_631 : Cond.selects RX2 yX2_addLetter yX2_addLetter ∈ wsT := tw 631 (by decide +kernel) rfl
theorem q_632 : Cond.code yX2_addLetter cX2_addLetter 5 (some .int) ∈ wsT := tw 632 (by decide +kernel) rfl
theorem q_657 : Cond.methodLink RX3 125 yX3_answerFault ∈ wsT := tw 657 (by decide +kernel) rfl
theorem q_659 : Cond.instanceMethod yX3_answerFault ∈ wsT := tw 659 (by decide +kernel) rfl
theorem q_660 : Cond.code yX3_answerFault cX3_answerFault 4 (some .int) ∈ wsT := tw 660 (by decide +kernel) rfl
theorem q_661 : Cond.methodLink RX3 128 yX2_addAnswer ∈ wsT := tw 661 (by decide +kernel) rfl
theorem q_662 : Cond.instanceMethod yX2_addAnswer ∈ wsT := tw 662 (by decide +kernel) rfl
theorem q_663 : Cond.selects RX2 yX2_addAnswer yX2_addAnswer ∈ wsT := tw 663 (by decide +kernel) rfl
theorem q_664 : Cond.code yX2_addAnswer cX2_addAnswer 3 (some .int) ∈ wsT := tw 664 (by decide +kernel) rfl
theorem q_673 : Cond.methodLink RX3 136 yX2_letTicksPass ∈ wsT := tw 673 (by decide +kernel) rfl
theorem q_674 : Cond.instanceMethod yX2_letTicksPass ∈ wsT := tw 674 (by decide +kernel) rfl
theorem q_675 : Cond.selects RX2 yX2_letTicksPass yX2_letTicksPass ∈ wsT := tw 675 (by decide +kernel) rfl
theorem q_676 : Cond.code yX2_letTicksPass cX2_letTicksPass 5 (some .int) ∈ wsT := tw 676 (by decide +kernel) rfl
theorem q_705 : Cond.methodLink RX3 142 yX3_envelopeFault ∈ wsT := tw 705 (by decide +kernel) rfl
theorem q_707 : Cond.instanceMethod yX3_envelopeFault ∈ wsT := tw 707 (by decide +kernel) rfl
theorem q_708 : Cond.code yX3_envelopeFault cX3_envelopeFault 2 (some .int) ∈ wsT := tw 708 (by decide +kernel) rfl
theorem q_753 : Cond.methodLink RX3 179 yX0_add ∈ wsT := tw 753 (by decide +kernel) rfl
theorem q_754 : Cond.instanceMethod yX0_add ∈ wsT := tw 754 (by decide +kernel) rfl
theorem q_755 : Cond.selects RX0 yX0_add yX0_add ∈ wsT := tw 755 (by decide +kernel) rfl
theorem q_756 : Cond.code yX0_add cX0_add 2 none ∈ wsT := tw 756 (by decide +kernel) rfl
theorem q_765 : Cond.methodLink RX3 189 yX0_isComplete ∈ wsT := tw 765 (by decide +kernel) rfl
theorem q_766 : Cond.instanceMethod yX0_isComplete ∈ wsT := tw 766 (by decide +kernel) rfl
theorem q_767 : Cond.selects RX0 yX0_isComplete yX0_isComplete ∈ wsT := tw 767 (by decide +kernel) rfl
theorem q_768 : Cond.code yX0_isComplete cX0_isComplete 1 (some .boolean) ∈ wsT := tw 768 (by decide +kernel) rfl
theorem q_775 : Cond.methodLink RX3 195 yX0_codeAt ∈ wsT := tw 775 (by decide +kernel) rfl
theorem q_776 : Cond.methodLink RX3 198 yX3_executeOrder ∈ wsT := tw 776 (by decide +kernel) rfl
theorem q_778 : Cond.instanceMethod yX3_executeOrder ∈ wsT := tw 778 (by decide +kernel) rfl
theorem q_779 : Cond.code yX3_executeOrder cX3_executeOrder 4 (some .boolean) ∈ wsT := tw 779 (by decide +kernel) rfl
theorem q_780 : Cond.methodLink RX3 245 yX0_digitAt ∈ wsT := tw 780 (by decide +kernel) rfl
theorem q_784 : Cond.methodLink RX3 248 yX3_layIfFine ∈ wsT := tw 784 (by decide +kernel) rfl
theorem q_786 : Cond.instanceMethod yX3_layIfFine ∈ wsT := tw 786 (by decide +kernel) rfl
theorem q_787 : Cond.code yX3_layIfFine cX3_layIfFine 5 (some .boolean) ∈ wsT := tw 787 (by decide +kernel) rfl
theorem q_788 : Cond.methodLink RX3 252 yX0_bodyOf ∈ wsT := tw 788 (by decide +kernel) rfl
theorem q_789 : Cond.instanceMethod yX0_bodyOf ∈ wsT := tw 789 (by decide +kernel) rfl
theorem q_790 : Cond.selects RX0 yX0_bodyOf yX0_bodyOf ∈ wsT := tw 790 (by decide +kernel) rfl
theorem q_791 : Cond.code yX0_bodyOf cX0_bodyOf 5 (some .int) ∈ wsT := tw 791 (by decide +kernel) rfl
theorem q_793 : Cond.methodLink RX3 255 yX3_sendIfFine ∈ wsT := tw 793 (by decide +kernel) rfl
theorem q_795 : Cond.instanceMethod yX3_sendIfFine ∈ wsT := tw 795 (by decide +kernel) rfl
theorem q_796 : Cond.code yX3_sendIfFine cX3_sendIfFine 3 (some .boolean) ∈ wsT := tw 796 (by decide +kernel) rfl
theorem q_797 : Cond.methodLink RX3 258 yX3_answerIfFine ∈ wsT := tw 797 (by decide +kernel) rfl
theorem q_799 : Cond.instanceMethod yX3_answerIfFine ∈ wsT := tw 799 (by decide +kernel) rfl
theorem q_800 : Cond.code yX3_answerIfFine cX3_answerIfFine 3 (some .boolean) ∈ wsT := tw 800 (by decide +kernel) rfl
theorem q_809 : Cond.methodLink RX3 207 yX1_giveBack ∈ wsT := tw 809 (by decide +kernel) rfl
theorem q_810 : Cond.instanceMethod yX1_giveBack ∈ wsT := tw 810 (by decide +kernel) rfl
theorem q_811 : Cond.selects RX1 yX1_giveBack yX1_giveBack ∈ wsT := tw 811 (by decide +kernel) rfl
theorem q_812 : Cond.code yX1_giveBack cX1_giveBack 3 none ∈ wsT := tw 812 (by decide +kernel) rfl
theorem cw_X3_34 {R : Room} {s : State} {args : Array Value} (hts : ∀ w ∈ wsT, w.before args s = true) (hf : 6 + 1 ≤ R.frames) (hl : 8 + (1 + 11) + 90 ≤ R.locals) : CallB R s args RX3 34 yX3_refuse cX3_refuse 1 none (wsA yX3_refuse cX3_refuse 1 none) rm_X3_refuse 1 6 1 ∧ (Cond.static yX3_refuse).before args s = true := cwAS 1 hts q_355 q_356 q_76 q_357 rfl rfl (by decide +kernel) ⟨hf, hl⟩
theorem cw_X3_38 {R : Room} {s : State} {args : Array Value} (hts : ∀ w ∈ wsT, w.before args s = true) (hf : 3 + 1 ≤ R.frames) (hl : 8 + (3 + 11) + 102 ≤ R.locals) : CallW R s args RX3 RX1 38 yX1_keep cX1_keep 3 none (wsA yX1_keep cX1_keep 3 none) rm_X1_keep 0 0 1 := cwAV 1 hts q_458 q_459 q_460 q_79 q_461 rfl rfl (by decide +kernel) ⟨hf, hl⟩
theorem cw_X3_42 {R : Room} {s : State} {args : Array Value} (hts : ∀ w ∈ wsT, w.before args s = true) (hf : 1 + 1 ≤ R.frames) (hl : 8 + (2 + 11) + 21 ≤ R.locals) : CallW R s args RX3 RX2 42 yX2_hasOpen cX2_hasOpen 2 (some .boolean) (wsA yX2_hasOpen cX2_hasOpen 2 (some .boolean)) rm_X2_hasOpen 0 0 1 := cwAV 1 hts q_279 q_280 q_281 q_77 q_282 rfl rfl (by decide +kernel) ⟨hf, hl⟩
theorem cw_X3_46 {R : Room} {s : State} {args : Array Value} (hts : ∀ w ∈ wsT, w.before args s = true) (hf : 0 + 1 ≤ R.frames) (hl : 8 + (4 + 11) + 0 ≤ R.locals) : CallW R s args RX3 RX2 46 yX2_turn cX2_turn 4 none (wsA yX2_turn cX2_turn 4 none) rm_X2_turn 0 0 2 := cwAV 2 hts q_480 q_481 q_482 q_77 q_483 rfl rfl (by decide +kernel) ⟨hf, hl⟩
theorem cw_X3_50 {R : Room} {s : State} {args : Array Value} (hts : ∀ w ∈ wsT, w.before args s = true) (hf : 2 + 1 ≤ R.frames) (hl : 8 + (2 + 11) + 42 ≤ R.locals) : CallB R s args RX3 50 yX3_innAndBodyFault cX3_innAndBodyFault 2 (some .int) (wsA yX3_innAndBodyFault cX3_innAndBodyFault 2 (some .int)) rm_X3_innAndBodyFault 0 0 2 ∧ (Cond.static yX3_innAndBodyFault).before args s = true := cwAS 2 hts q_492 q_493 q_76 q_494 rfl rfl (by decide +kernel) ⟨hf, hl⟩
theorem cw_X3_58 {R : Room} {s : State} {args : Array Value} (hts : ∀ w ∈ wsT, w.before args s = true) (hf : 0 + 1 ≤ R.frames) (hl : 8 + (2 + 11) + 0 ≤ R.locals) : CallB R s args RX3 58 yX3_read cX3_read 2 (some .int) (wsA yX3_read cX3_read 2 (some .int)) rm_X3_read 0 0 2 ∧ (Cond.static yX3_read).before args s = true := cwAS 2 hts q_214 q_215 q_76 q_216 rfl rfl (by decide +kernel) ⟨hf, hl⟩
theorem cw_X3_62 {R : Room} {s : State} {args : Array Value} (hts : ∀ w ∈ wsT, w.before args s = true) (hf : 0 + 1 ≤ R.frames) (hl : 8 + (3 + 11) + 0 ≤ R.locals) : CallB R s args RX3 62 yX3_write cX3_write 3 none (wsA yX3_write cX3_write 3 none) rm_X3_write 0 0 3 ∧ (Cond.static yX3_write).before args s = true := cwAS 3 hts q_498 q_499 q_76 q_500 rfl rfl (by decide +kernel) ⟨hf, hl⟩
theorem cw_X3_66 {R : Room} {s : State} {args : Array Value} (hts : ∀ w ∈ wsT, w.before args s = true) (hf : 1 + 1 ≤ R.frames) (hl : 8 + (2 + 11) + 22 ≤ R.locals) : CallB R s args RX3 66 yX3_covered cX3_covered 2 (some .int) (wsA yX3_covered cX3_covered 2 (some .int)) rm_X3_covered 0 0 2 ∧ (Cond.static yX3_covered).before args s = true := cwAS 2 hts q_522 q_523 q_76 q_524 rfl rfl (by decide +kernel) ⟨hf, hl⟩
theorem cw_X3_69 {R : Room} {s : State} {args : Array Value} (hts : ∀ w ∈ wsT, w.before args s = true) (hf : 1 + 1 ≤ R.frames) (hl : 8 + (2 + 11) + 22 ≤ R.locals) : CallB R s args RX3 69 yX3_uncovered cX3_uncovered 2 (some .int) (wsA yX3_uncovered cX3_uncovered 2 (some .int)) rm_X3_uncovered 0 0 2 ∧ (Cond.static yX3_uncovered).before args s = true := cwAS 2 hts q_535 q_536 q_76 q_537 rfl rfl (by decide +kernel) ⟨hf, hl⟩
theorem cw_X3_148 {R : Room} {s : State} {args : Array Value} (hts : ∀ w ∈ wsT, w.before args s = true) (hf : 1 + 1 ≤ R.frames) (hl : 8 + (1 + 11) + 22 ≤ R.locals) : CallB R s args RX3 148 yX3_hallFault cX3_hallFault 1 (some .int) (wsA yX3_hallFault cX3_hallFault 1 (some .int)) rm_X3_hallFault 0 0 1 ∧ (Cond.static yX3_hallFault).before args s = true := cwAS 1 hts q_550 q_551 q_76 q_552 rfl rfl (by decide +kernel) ⟨hf, hl⟩
theorem cw_X3_72 {R : Room} {s : State} {args : Array Value} (hts : ∀ w ∈ wsT, w.before args s = true) (hf : 2 + 1 ≤ R.frames) (hl : 8 + (6 + 11) + 42 ≤ R.locals) : CallW R s args RX3 RX3 72 yX3_layFault cX3_layFault 6 (some .int) (wsA yX3_layFault cX3_layFault 6 (some .int)) rm_X3_layFault 0 0 4 := cwAV 4 hts q_546 q_548 q_11 q_76 q_549 rfl rfl (by decide +kernel) ⟨hf, hl⟩
theorem cw_X3_76 {R : Room} {s : State} {args : Array Value} (hts : ∀ w ∈ wsT, w.before args s = true) (hf : 2 + 1 ≤ R.frames) (hl : 8 + (6 + 11) + 45 ≤ R.locals) : CallW R s args RX3 RX2 76 yX2_addRoad cX2_addRoad 6 (some .int) (wsA yX2_addRoad cX2_addRoad 6 (some .int)) rm_X2_addRoad 0 0 4 := cwAV 4 hts q_553 q_554 q_555 q_77 q_556 rfl rfl (by decide +kernel) ⟨hf, hl⟩
theorem cw_X3_83 {R : Room} {s : State} {args : Array Value} (hts : ∀ w ∈ wsT, w.before args s = true) (hf : 2 + 1 ≤ R.frames) (hl : 8 + (3 + 11) + 43 ≤ R.locals) : CallW R s args RX3 RX2 83 yX2_isUsed cX2_isUsed 3 (some .boolean) (wsA yX2_isUsed cX2_isUsed 3 (some .boolean)) rm_X2_isUsed 0 0 1 := cwAV 1 hts q_569 q_570 q_571 q_77 q_572 rfl rfl (by decide +kernel) ⟨hf, hl⟩
theorem cw_X3_93 {R : Room} {s : State} {args : Array Value} (hts : ∀ w ∈ wsT, w.before args s = true) (hf : 1 + 1 ≤ R.frames) (hl : 8 + (2 + 11) + 22 ≤ R.locals) : CallW R s args RX3 RX2 93 yX2_removeLastRoad cX2_removeLastRoad 2 none (wsA yX2_removeLastRoad cX2_removeLastRoad 2 none) rm_X2_removeLastRoad 0 0 0 := cwAV 0 hts q_574 q_575 q_576 q_77 q_577 rfl rfl (by decide +kernel) ⟨hf, hl⟩
theorem cw_X3_103 {R : Room} {s : State} {args : Array Value} (hts : ∀ w ∈ wsT, w.before args s = true) (hf : 1 + 1 ≤ R.frames) (hl : 8 + (3 + 11) + 21 ≤ R.locals) : CallW R s args RX3 RX2 103 yX2_innAt cX2_innAt 3 (some .int) (wsA yX2_innAt cX2_innAt 3 (some .int)) rm_X2_innAt 0 0 2 := cwAV 2 hts q_323 q_299 q_300 q_77 q_301 rfl rfl (by decide +kernel) ⟨hf, hl⟩
theorem cw_X3_100 {R : Room} {s : State} {args : Array Value} (hts : ∀ w ∈ wsT, w.before args s = true) (hf : 1 + 1 ≤ R.frames) (hl : 8 + (2 + 11) + 22 ≤ R.locals) : CallW R s args RX3 RX3 100 yX3_roadFault cX3_roadFault 2 (some .int) (wsA yX3_roadFault cX3_roadFault 2 (some .int)) rm_X3_roadFault 0 0 1 := cwAV 1 hts q_585 q_587 q_13 q_76 q_588 rfl rfl (by decide +kernel) ⟨hf, hl⟩
theorem cw_X3_109 {R : Room} {s : State} {args : Array Value} (hts : ∀ w ∈ wsT, w.before args s = true) (hf : 2 + 1 ≤ R.frames) (hl : 8 + (3 + 11) + 43 ≤ R.locals) : CallW R s args RX3 RX2 109 yX2_allOpenOn cX2_allOpenOn 3 (some .boolean) (wsA yX2_allOpenOn cX2_allOpenOn 3 (some .boolean)) rm_X2_allOpenOn 0 0 1 := cwAV 1 hts q_324 q_325 q_326 q_77 q_327 rfl rfl (by decide +kernel) ⟨hf, hl⟩
theorem cw_X3_112 {R : Room} {s : State} {args : Array Value} (hts : ∀ w ∈ wsT, w.before args s = true) (hf : 3 + 1 ≤ R.frames) (hl : 8 + (6 + 11) + 66 ≤ R.locals) : CallW R s args RX3 RX2 112 yX2_seenBeside cX2_seenBeside 6 (some .int) (wsA yX2_seenBeside cX2_seenBeside 6 (some .int)) rm_X2_seenBeside 0 0 3 := cwAV 3 hts q_610 q_291 q_292 q_77 q_293 rfl rfl (by decide +kernel) ⟨hf, hl⟩
theorem cw_X3_116 {R : Room} {s : State} {args : Array Value} (hts : ∀ w ∈ wsT, w.before args s = true) (hf : 4 + 1 ≤ R.frames) (hl : 8 + (4 + 11) + 91 ≤ R.locals) : CallW R s args RX3 RX2 116 yX2_knownMask cX2_knownMask 4 (some .int) (wsA yX2_knownMask cX2_knownMask 4 (some .int)) rm_X2_knownMask 0 0 1 := cwAV 1 hts q_286 q_287 q_288 q_77 q_289 rfl rfl (by decide +kernel) ⟨hf, hl⟩
theorem cw_X3_119 {R : Room} {s : State} {args : Array Value} (hts : ∀ w ∈ wsT, w.before args s = true) (hf : 2 + 1 ≤ R.frames) (hl : 8 + (3 + 11) + 43 ≤ R.locals) : CallW R s args RX3 RX3 119 yX3_sendFault cX3_sendFault 3 (some .int) (wsA yX3_sendFault cX3_sendFault 3 (some .int)) rm_X3_sendFault 0 0 2 := cwAV 2 hts q_625 q_627 q_14 q_76 q_628 rfl rfl (by decide +kernel) ⟨hf, hl⟩
theorem cw_X3_122 {R : Room} {s : State} {args : Array Value} (hts : ∀ w ∈ wsT, w.before args s = true) (hf : 3 + 1 ≤ R.frames) (hl : 8 + (5 + 11) + 70 ≤ R.locals) : CallW R s args RX3 RX2 122 yX2_addLetter cX2_addLetter 5 (some .int) (wsA yX2_addLetter cX2_addLetter 5 (some .int)) rm_X2_addLetter 0 0 2 := cwAV 2 hts q_629 q_630 q_631 q_77 q_632 rfl rfl (by decide +kernel) ⟨hf, hl⟩
theorem cw_X3_125 {R : Room} {s : State} {args : Array Value} (hts : ∀ w ∈ wsT, w.before args s = true) (hf : 2 + 1 ≤ R.frames) (hl : 8 + (4 + 11) + 42 ≤ R.locals) : CallW R s args RX3 RX3 125 yX3_answerFault cX3_answerFault 4 (some .int) (wsA yX3_answerFault cX3_answerFault 4 (some .int)) rm_X3_answerFault 0 0 2 := cwAV 2 hts q_657 q_659 q_19 q_76 q_660 rfl rfl (by decide +kernel) ⟨hf, hl⟩
theorem cw_X3_128 {R : Room} {s : State} {args : Array Value} (hts : ∀ w ∈ wsT, w.before args s = true) (hf : 3 + 1 ≤ R.frames) (hl : 8 + (3 + 11) + 70 ≤ R.locals) : CallW R s args RX3 RX2 128 yX2_addAnswer cX2_addAnswer 3 (some .int) (wsA yX2_addAnswer cX2_addAnswer 3 (some .int)) rm_X2_addAnswer 0 0 2 := cwAV 2 hts q_661 q_662 q_663 q_77 q_664 rfl rfl (by decide +kernel) ⟨hf, hl⟩
theorem cw_X3_136 {R : Room} {s : State} {args : Array Value} (hts : ∀ w ∈ wsT, w.before args s = true) (hf : 4 + 1 ≤ R.frames) (hl : 8 + (5 + 11) + 94 ≤ R.locals) : CallW R s args RX3 RX2 136 yX2_letTicksPass cX2_letTicksPass 5 (some .int) (wsA yX2_letTicksPass cX2_letTicksPass 5 (some .int)) rm_X2_letTicksPass 0 0 1 := cwAV 1 hts q_673 q_674 q_675 q_77 q_676 rfl rfl (by decide +kernel) ⟨hf, hl⟩
theorem cw_X3_145 {R : Room} {s : State} {args : Array Value} (hts : ∀ w ∈ wsT, w.before args s = true) (hf : 1 + 1 ≤ R.frames) (hl : 8 + (3 + 11) + 21 ≤ R.locals) : CallW R s args RX3 RX2 145 yX2_ofEnvelope cX2_ofEnvelope 3 (some .int) (wsA yX2_ofEnvelope cX2_ofEnvelope 3 (some .int)) rm_X2_ofEnvelope 0 0 2 := cwAV 2 hts q_333 q_316 q_317 q_77 q_318 rfl rfl (by decide +kernel) ⟨hf, hl⟩
theorem cw_X3_142 {R : Room} {s : State} {args : Array Value} (hts : ∀ w ∈ wsT, w.before args s = true) (hf : 1 + 1 ≤ R.frames) (hl : 8 + (2 + 11) + 22 ≤ R.locals) : CallW R s args RX3 RX3 142 yX3_envelopeFault cX3_envelopeFault 2 (some .int) (wsA yX3_envelopeFault cX3_envelopeFault 2 (some .int)) rm_X3_envelopeFault 0 0 1 := cwAV 1 hts q_705 q_707 q_25 q_76 q_708 rfl rfl (by decide +kernel) ⟨hf, hl⟩
theorem cw_X3_160 {R : Room} {s : State} {args : Array Value} (hts : ∀ w ∈ wsT, w.before args s = true) (hf : 3 + 1 ≤ R.frames) (hl : 8 + (4 + 11) + 70 ≤ R.locals) : CallW R s args RX3 RX2 160 yX2_lostWithout cX2_lostWithout 4 (some .int) (wsA yX2_lostWithout cX2_lostWithout 4 (some .int)) rm_X2_lostWithout 0 0 1 := cwAV 1 hts q_307 q_308 q_309 q_77 q_310 rfl rfl (by decide +kernel) ⟨hf, hl⟩
theorem cw_X3_166 {R : Room} {s : State} {args : Array Value} (hts : ∀ w ∈ wsT, w.before args s = true) (hf : 2 + 1 ≤ R.frames) (hl : 8 + (8 + 11) + 43 ≤ R.locals) : CallW R s args RX3 RX2 166 yX2_ticksLeft cX2_ticksLeft 8 (some .int) (wsA yX2_ticksLeft cX2_ticksLeft 8 (some .int)) rm_X2_ticksLeft 0 0 2 := cwAV 2 hts q_334 q_312 q_313 q_77 q_314 rfl rfl (by decide +kernel) ⟨hf, hl⟩
theorem cw_X3_169 {R : Room} {s : State} {args : Array Value} (hts : ∀ w ∈ wsT, w.before args s = true) (hf : 4 + 1 ≤ R.frames) (hl : 8 + (5 + 11) + 89 ≤ R.locals) : CallW R s args RX3 RX2 169 yX2_leastUsedInn cX2_leastUsedInn 5 (some .int) (wsA yX2_leastUsedInn cX2_leastUsedInn 5 (some .int)) rm_X2_leastUsedInn 0 0 1 := cwAV 1 hts q_335 q_336 q_337 q_77 q_338 rfl rfl (by decide +kernel) ⟨hf, hl⟩
theorem cw_X3_179 {R : Room} {s : State} {args : Array Value} (hts : ∀ w ∈ wsT, w.before args s = true) (hf : 1 + 1 ≤ R.frames) (hl : 8 + (2 + 11) + 22 ≤ R.locals) : CallW R s args RX3 RX0 179 yX0_add cX0_add 2 none (wsA yX0_add cX0_add 2 none) rm_X0_add 0 0 1 := cwAV 1 hts q_753 q_754 q_755 q_80 q_756 rfl rfl (by decide +kernel) ⟨hf, hl⟩
theorem cw_X3_182 {R : Room} {s : State} {args : Array Value} (hts : ∀ w ∈ wsT, w.before args s = true) (hf : 0 + 1 ≤ R.frames) (hl : 8 + (2 + 11) + 0 ≤ R.locals) : CallW R s args RX3 RX0 182 yX0_empty cX0_empty 2 (some .int) (wsA yX0_empty cX0_empty 2 (some .int)) rm_X0_empty 0 0 0 := cwAV 0 hts q_221 q_222 q_223 q_80 q_224 rfl rfl (by decide +kernel) ⟨hf, hl⟩
theorem cw_X3_186 {R : Room} {s : State} {args : Array Value} (hts : ∀ w ∈ wsT, w.before args s = true) (hf : 3 + 1 ≤ R.frames) (hl : 8 + (3 + 11) + 71 ≤ R.locals) : CallW R s args RX3 RX0 186 yX0_errorIndex cX0_errorIndex 3 (some .int) (wsA yX0_errorIndex cX0_errorIndex 3 (some .int)) rm_X0_errorIndex 0 0 0 := cwAV 0 hts q_229 q_230 q_231 q_80 q_232 rfl rfl (by decide +kernel) ⟨hf, hl⟩
theorem cw_X3_245 {R : Room} {s : State} {args : Array Value} (hts : ∀ w ∈ wsT, w.before args s = true) (hf : 1 + 1 ≤ R.frames) (hl : 8 + (2 + 11) + 21 ≤ R.locals) : CallW R s args RX3 RX0 245 yX0_digitAt cX0_digitAt 2 (some .int) (wsA yX0_digitAt cX0_digitAt 2 (some .int)) rm_X0_digitAt 0 0 1 := cwAV 1 hts q_780 q_781 q_782 q_80 q_783 rfl rfl (by decide +kernel) ⟨hf, hl⟩
theorem cw_X3_195 {R : Room} {s : State} {args : Array Value} (hts : ∀ w ∈ wsT, w.before args s = true) (hf : 0 + 1 ≤ R.frames) (hl : 8 + (2 + 11) + 0 ≤ R.locals) : CallW R s args RX3 RX0 195 yX0_codeAt cX0_codeAt 2 (some .int) (wsA yX0_codeAt cX0_codeAt 2 (some .int)) rm_X0_codeAt 0 0 1 := cwAV 1 hts q_775 q_238 q_239 q_80 q_240 rfl rfl (by decide +kernel) ⟨hf, hl⟩
theorem cw_X3_252 {R : Room} {s : State} {args : Array Value} (hts : ∀ w ∈ wsT, w.before args s = true) (hf : 2 + 1 ≤ R.frames) (hl : 8 + (5 + 11) + 42 ≤ R.locals) : CallW R s args RX3 RX0 252 yX0_bodyOf cX0_bodyOf 5 (some .int) (wsA yX0_bodyOf cX0_bodyOf 5 (some .int)) rm_X0_bodyOf 0 0 2 := cwAV 2 hts q_788 q_789 q_790 q_80 q_791 rfl rfl (by decide +kernel) ⟨hf, hl⟩
theorem cw_X3_258 {R : Room} {s : State} {args : Array Value} (hts : ∀ w ∈ wsT, w.before args s = true) (hf : 4 + 1 ≤ R.frames) (hl : 8 + (3 + 11) + 92 ≤ R.locals) : CallW R s args RX3 RX3 258 yX3_answerIfFine cX3_answerIfFine 3 (some .boolean) (wsA yX3_answerIfFine cX3_answerIfFine 3 (some .boolean)) rm_X3_answerIfFine 0 0 2 := cwAV 2 hts q_797 q_799 q_30 q_76 q_800 rfl rfl (by decide +kernel) ⟨hf, hl⟩
theorem cw_X3_248 {R : Room} {s : State} {args : Array Value} (hts : ∀ w ∈ wsT, w.before args s = true) (hf : 3 + 1 ≤ R.frames) (hl : 8 + (5 + 11) + 70 ≤ R.locals) : CallW R s args RX3 RX3 248 yX3_layIfFine cX3_layIfFine 5 (some .boolean) (wsA yX3_layIfFine cX3_layIfFine 5 (some .boolean)) rm_X3_layIfFine 0 0 4 := cwAV 4 hts q_784 q_786 q_28 q_76 q_787 rfl rfl (by decide +kernel) ⟨hf, hl⟩
theorem cw_X3_255 {R : Room} {s : State} {args : Array Value} (hts : ∀ w ∈ wsT, w.before args s = true) (hf : 4 + 1 ≤ R.frames) (hl : 8 + (3 + 11) + 94 ≤ R.locals) : CallW R s args RX3 RX3 255 yX3_sendIfFine cX3_sendIfFine 3 (some .boolean) (wsA yX3_sendIfFine cX3_sendIfFine 3 (some .boolean)) rm_X3_sendIfFine 0 0 2 := cwAV 2 hts q_793 q_795 q_29 q_76 q_796 rfl rfl (by decide +kernel) ⟨hf, hl⟩
theorem cw_X3_189 {R : Room} {s : State} {args : Array Value} (hts : ∀ w ∈ wsT, w.before args s = true) (hf : 4 + 1 ≤ R.frames) (hl : 8 + (1 + 11) + 93 ≤ R.locals) : CallW R s args RX3 RX0 189 yX0_isComplete cX0_isComplete 1 (some .boolean) (wsA yX0_isComplete cX0_isComplete 1 (some .boolean)) rm_X0_isComplete 0 0 0 := cwAV 0 hts q_765 q_766 q_767 q_80 q_768 rfl rfl (by decide +kernel) ⟨hf, hl⟩
theorem cw_X3_198 {R : Room} {s : State} {args : Array Value} (hts : ∀ w ∈ wsT, w.before args s = true) (hf : 5 + 1 ≤ R.frames) (hl : 8 + (4 + 11) + 118 ≤ R.locals) : CallW R s args RX3 RX3 198 yX3_executeOrder cX3_executeOrder 4 (some .boolean) (wsA yX3_executeOrder cX3_executeOrder 4 (some .boolean)) rm_X3_executeOrder 0 0 2 := cwAV 2 hts q_776 q_778 q_27 q_76 q_779 rfl rfl (by decide +kernel) ⟨hf, hl⟩
theorem cw_X3_207 {R : Room} {s : State} {args : Array Value} (hts : ∀ w ∈ wsT, w.before args s = true) (hf : 3 + 1 ≤ R.frames) (hl : 8 + (3 + 11) + 102 ≤ R.locals) : CallW R s args RX3 RX1 207 yX1_giveBack cX1_giveBack 3 none (wsA yX1_giveBack cX1_giveBack 3 none) rm_X1_giveBack 0 0 1 := cwAV 1 hts q_809 q_810 q_811 q_79 q_812 rfl rfl (by decide +kernel) ⟨hf, hl⟩
theorem cw_X3_216 {R : Room} {s : State} {args : Array Value} (hts : ∀ w ∈ wsT, w.before args s = true) (hf : 1 + 1 ≤ R.frames) (hl : 8 + (6 + 11) + 22 ≤ R.locals) : CallB R s args RX3 216 yX3_mixedRow cX3_mixedRow 6 (some .long) (wsA yX3_mixedRow cX3_mixedRow 6 (some .long)) rm_X3_mixedRow 0 0 2 ∧ (Cond.static yX3_mixedRow).before args s = true := cwAS 2 hts q_272 q_273 q_76 q_274 rfl rfl (by decide +kernel) ⟨hf, hl⟩
theorem cw_X3_220 {R : Room} {s : State} {args : Array Value} (hts : ∀ w ∈ wsT, w.before args s = true) (hf : 5 + 1 ≤ R.frames) (hl : 8 + (6 + 11) + 114 ≤ R.locals) : CallW R s args RX3 RX3 220 yX3_mixedInns cX3_mixedInns 6 (some .long) (wsA yX3_mixedInns cX3_mixedInns 6 (some .long)) rm_X3_mixedInns 0 0 1 := cwAV 1 hts q_275 q_277 q_4 q_76 q_278 rfl rfl (by decide +kernel) ⟨hf, hl⟩
theorem cw_X3_224 {R : Room} {s : State} {args : Array Value} (hts : ∀ w ∈ wsT, w.before args s = true) (hf : 3 + 1 ≤ R.frames) (hl : 8 + (7 + 11) + 65 ≤ R.locals) : CallW R s args RX3 RX3 224 yX3_mixedRoads cX3_mixedRoads 7 (some .long) (wsA yX3_mixedRoads cX3_mixedRoads 7 (some .long)) rm_X3_mixedRoads 0 0 1 := cwAV 1 hts q_319 q_321 q_6 q_76 q_322 rfl rfl (by decide +kernel) ⟨hf, hl⟩
theorem cw_X3_227 {R : Room} {s : State} {args : Array Value} (hts : ∀ w ∈ wsT, w.before args s = true) (hf : 3 + 1 ≤ R.frames) (hl : 8 + (7 + 11) + 70 ≤ R.locals) : CallW R s args RX3 RX3 227 yX3_mixedEnvelopes cX3_mixedEnvelopes 7 (some .long) (wsA yX3_mixedEnvelopes cX3_mixedEnvelopes 7 (some .long)) rm_X3_mixedEnvelopes 0 0 1 := cwAV 1 hts q_329 q_331 q_7 q_76 q_332 rfl rfl (by decide +kernel) ⟨hf, hl⟩
