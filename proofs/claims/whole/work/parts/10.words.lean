/-! words of the tables, by their places; rooms; calls -/
abbrev rm_J9_floorMod_7cf53 : Room := { frames := 0, cells := 0, slots := 0, locals := 0 }
abbrev rm_J9_min_7cf53 : Room := { frames := 0, cells := 0, slots := 0, locals := 0 }
abbrev rm_X3_isBetween : Room := { frames := 0, cells := 0, slots := 0, locals := 0 }
abbrev rm_X3_innFault : Room := { frames := 1, cells := 0, slots := 0, locals := 22 }
abbrev rm_X3_hallFault : Room := { frames := 1, cells := 0, slots := 0, locals := 22 }
abbrev rm_X3_isBody : Room := { frames := 1, cells := 0, slots := 0, locals := 22 }
abbrev rm_X3_innAndBodyFault : Room := { frames := 2, cells := 0, slots := 0, locals := 42 }
abbrev rm_X3_mixed : Room := { frames := 0, cells := 0, slots := 0, locals := 0 }
abbrev rm_X3_mixedRow : Room := { frames := 1, cells := 0, slots := 0, locals := 22 }
abbrev rm_X3_covered : Room := { frames := 1, cells := 0, slots := 0, locals := 22 }
abbrev rm_X3_uncovered : Room := { frames := 1, cells := 0, slots := 0, locals := 22 }
abbrev rm_X3_read : Room := { frames := 0, cells := 0, slots := 0, locals := 0 }
abbrev rm_X3_write : Room := { frames := 0, cells := 0, slots := 0, locals := 0 }
abbrev rm_X2_isInMask : Room := { frames := 0, cells := 0, slots := 0, locals := 0 }
abbrev rm_X2_hasOpen : Room := { frames := 1, cells := 0, slots := 0, locals := 21 }
abbrev rm_X2_turn : Room := { frames := 0, cells := 0, slots := 0, locals := 0 }
abbrev rm_X2_putInn : Room := { frames := 1, cells := 0, slots := 0, locals := 22 }
abbrev rm_X2_addRoad : Room := { frames := 2, cells := 0, slots := 0, locals := 45 }
abbrev rm_X2_removeLastRoad : Room := { frames := 1, cells := 0, slots := 0, locals := 22 }
abbrev rm_X2_ofEnvelope : Room := { frames := 1, cells := 0, slots := 0, locals := 21 }
abbrev rm_X2_isUsed : Room := { frames := 2, cells := 0, slots := 0, locals := 43 }
abbrev rm_X2_innAt : Room := { frames := 1, cells := 0, slots := 0, locals := 21 }
abbrev rm_X2_keyAt : Room := { frames := 1, cells := 0, slots := 0, locals := 21 }
abbrev rm_X2_placeOn : Room := { frames := 2, cells := 0, slots := 0, locals := 43 }
abbrev rm_X2_allOpenOn : Room := { frames := 2, cells := 0, slots := 0, locals := 43 }
abbrev rm_X2_seenBeside : Room := { frames := 3, cells := 0, slots := 0, locals := 66 }
abbrev rm_X2_innBit : Room := { frames := 1, cells := 0, slots := 0, locals := 22 }
abbrev rm_X2_knownMask : Room := { frames := 4, cells := 0, slots := 0, locals := 91 }
abbrev rm_X2_roadsThrough : Room := { frames := 3, cells := 0, slots := 0, locals := 66 }
abbrev rm_X2_leastUsedInn : Room := { frames := 4, cells := 0, slots := 0, locals := 89 }
abbrev rm_X2_putNumber : Room := { frames := 1, cells := 0, slots := 0, locals := 22 }
abbrev rm_X2_countUp : Room := { frames := 1, cells := 0, slots := 0, locals := 22 }
abbrev rm_X2_addEnvelope : Room := { frames := 2, cells := 0, slots := 0, locals := 45 }
abbrev rm_X2_addLetter : Room := { frames := 3, cells := 0, slots := 0, locals := 70 }
abbrev rm_X2_addAnswer : Room := { frames := 3, cells := 0, slots := 0, locals := 70 }
abbrev rm_X2_reachHall : Room := { frames := 2, cells := 0, slots := 0, locals := 45 }
abbrev rm_X2_reachTraveller : Room := { frames := 2, cells := 0, slots := 0, locals := 45 }
abbrev rm_X2_reachInn : Room := { frames := 2, cells := 0, slots := 0, locals := 45 }
abbrev rm_X2_moveOn : Room := { frames := 3, cells := 0, slots := 0, locals := 71 }
abbrev rm_X2_takeOutGone : Room := { frames := 2, cells := 0, slots := 0, locals := 45 }
abbrev rm_X2_letTicksPass : Room := { frames := 4, cells := 0, slots := 0, locals := 94 }
abbrev rm_X2_ticksLeft : Room := { frames := 2, cells := 0, slots := 0, locals := 43 }
abbrev rm_X2_lostWithout : Room := { frames := 3, cells := 0, slots := 0, locals := 70 }
abbrev rm_X0_add : Room := { frames := 1, cells := 0, slots := 0, locals := 22 }
abbrev rm_X0_empty : Room := { frames := 0, cells := 0, slots := 0, locals := 0 }
abbrev rm_X0_codeAt : Room := { frames := 0, cells := 0, slots := 0, locals := 0 }
abbrev rm_X0_digitAt : Room := { frames := 1, cells := 0, slots := 0, locals := 21 }
abbrev rm_X0_bodyOf : Room := { frames := 2, cells := 0, slots := 0, locals := 42 }
abbrev rm_X0_isOrderSign : Room := { frames := 0, cells := 0, slots := 0, locals := 0 }
abbrev rm_X0_endsOrder : Room := { frames := 1, cells := 0, slots := 0, locals := 21 }
abbrev rm_X0_fitsLay : Room := { frames := 1, cells := 0, slots := 0, locals := 22 }
abbrev rm_X0_fitsBody : Room := { frames := 1, cells := 0, slots := 0, locals := 22 }
abbrev rm_X0_fits : Room := { frames := 2, cells := 0, slots := 0, locals := 47 }
abbrev rm_X0_errorIndex : Room := { frames := 3, cells := 0, slots := 0, locals := 71 }
abbrev rm_X0_lastStart : Room := { frames := 1, cells := 0, slots := 0, locals := 21 }
abbrev rm_X0_isComplete : Room := { frames := 4, cells := 0, slots := 0, locals := 93 }
abbrev rm_X4_thrown : Room := { frames := 0, cells := 0, slots := 0, locals := 0 }
abbrev rm_X4_in : Room := { frames := 0, cells := 0, slots := 0, locals := 0 }
abbrev rm_X4_holds : Room := { frames := 0, cells := 0, slots := 0, locals := 0 }
abbrev rm_X4_told : Room := { frames := 0, cells := 0, slots := 0, locals := 0 }
abbrev rm_X4_isInn : Room := { frames := 1, cells := 0, slots := 0, locals := 22 }
abbrev rm_X4_isHall : Room := { frames := 1, cells := 0, slots := 0, locals := 22 }
abbrev rm_X4_isRoad : Room := { frames := 1, cells := 0, slots := 0, locals := 22 }
abbrev rm_X4_isEnvelope : Room := { frames := 1, cells := 0, slots := 0, locals := 22 }
abbrev rm_X4_isBody : Room := { frames := 1, cells := 0, slots := 0, locals := 22 }
abbrev rm_X4_covered : Room := { frames := 0, cells := 0, slots := 0, locals := 0 }
abbrev rm_X4_uncovered : Room := { frames := 0, cells := 0, slots := 0, locals := 0 }
abbrev rm_X4_innOf : Room := { frames := 0, cells := 0, slots := 0, locals := 0 }
abbrev rm_X4_keyOf : Room := { frames := 0, cells := 0, slots := 0, locals := 0 }
abbrev rm_X4_hallOf : Room := { frames := 0, cells := 0, slots := 0, locals := 0 }
abbrev rm_X4_placeOn : Room := { frames := 1, cells := 0, slots := 0, locals := 22 }
abbrev rm_X4_of : Room := { frames := 0, cells := 0, slots := 0, locals := 0 }
abbrev rm_X4_lay4 : Room := { frames := 0, cells := 0, slots := 0, locals := 0 }
abbrev rm_X4_isOpenNow : Room := { frames := 0, cells := 0, slots := 0, locals := 0 }
abbrev rm_X4_standsNow : Room := { frames := 1, cells := 0, slots := 0, locals := 22 }
abbrev rm_X4_puts : Room := { frames := 1, cells := 0, slots := 0, locals := 23 }
abbrev rm_X4_sends : Room := { frames := 2, cells := 0, slots := 0, locals := 48 }
abbrev rm_X4_answers : Room := { frames := 2, cells := 0, slots := 0, locals := 48 }
abbrev rm_X4_leaves : Room := { frames := 1, cells := 0, slots := 0, locals := 23 }
abbrev rm_X4_arrives : Room := { frames := 2, cells := 0, slots := 0, locals := 44 }
abbrev rm_X4_moves : Room := { frames := 3, cells := 0, slots := 0, locals := 68 }
abbrev rm_X4_ticks : Room := { frames := 4, cells := 0, slots := 0, locals := 94 }
abbrev rm_X4_passes : Room := { frames := 5, cells := 0, slots := 0, locals := 117 }
abbrev rm_X4_arrivesIn : Room := { frames := 1, cells := 0, slots := 0, locals := 22 }
abbrev rm_X4_lays : Room := { frames := 0, cells := 0, slots := 0, locals := 0 }
abbrev rm_X4_canLay : Room := { frames := 1, cells := 0, slots := 0, locals := 21 }
abbrev rm_X4_canTakeUp : Room := { frames := 1, cells := 0, slots := 0, locals := 22 }
abbrev rm_X4_isRoom : Room := { frames := 0, cells := 0, slots := 0, locals := 0 }
abbrev rm_X4_canAnswer : Room := { frames := 1, cells := 0, slots := 0, locals := 20 }
abbrev rm_X4_copies : Room := { frames := 0, cells := 0, slots := 0, locals := 0 }
abbrev rm_X4_save : Room := { frames := 1, cells := 0, slots := 0, locals := 23 }
abbrev rm_X4_changed : Room := { frames := 2, cells := 0, slots := 0, locals := 44 }
abbrev rm_X4_setOpen : Room := { frames := 3, cells := 0, slots := 0, locals := 67 }
abbrev rm_X4_setKey : Room := { frames := 3, cells := 0, slots := 0, locals := 67 }
abbrev rm_X4_isOpen : Room := { frames := 2, cells := 0, slots := 0, locals := 42 }
abbrev rm_X4_key : Room := { frames := 2, cells := 0, slots := 0, locals := 42 }
abbrev rm_X4_cover : Room := { frames := 2, cells := 0, slots := 0, locals := 42 }
abbrev rm_X4_uncover : Room := { frames := 2, cells := 0, slots := 0, locals := 42 }
abbrev rm_X4_lay : Room := { frames := 2, cells := 0, slots := 0, locals := 44 }
abbrev rm_X4_takeUp : Room := { frames := 2, cells := 0, slots := 0, locals := 44 }
abbrev rm_X4_roads : Room := { frames := 1, cells := 0, slots := 0, locals := 21 }
abbrev rm_X4_inn : Room := { frames := 2, cells := 0, slots := 0, locals := 43 }
abbrev rm_X4_hall : Room := { frames := 2, cells := 0, slots := 0, locals := 43 }
abbrev rm_X4_stands : Room := { frames := 2, cells := 0, slots := 0, locals := 43 }
abbrev rm_X4_seen : Room := { frames := 2, cells := 0, slots := 0, locals := 45 }
abbrev rm_X4_see : Room := { frames := 3, cells := 0, slots := 0, locals := 70 }
abbrev rm_X4_knownTo : Room := { frames := 3, cells := 0, slots := 0, locals := 70 }
abbrev rm_X4_known : Room := { frames := 4, cells := 0, slots := 0, locals := 94 }
abbrev rm_X4_send : Room := { frames := 3, cells := 0, slots := 0, locals := 72 }
abbrev rm_X4_answer : Room := { frames := 3, cells := 0, slots := 0, locals := 70 }
abbrev rm_X4_pass : Room := { frames := 6, cells := 0, slots := 0, locals := 140 }
abbrev rm_X4_envelopes : Room := { frames := 1, cells := 0, slots := 0, locals := 21 }
abbrev rm_X4_envelope : Room := { frames := 2, cells := 0, slots := 0, locals := 43 }
abbrev rm_X4_letter : Room := { frames := 2, cells := 0, slots := 0, locals := 42 }
abbrev rm_X4_lastAnswer : Room := { frames := 1, cells := 0, slots := 0, locals := 21 }
abbrev rm_X4_count : Room := { frames := 1, cells := 0, slots := 0, locals := 22 }
abbrev rm_X4_lostBy : Room := { frames := 2, cells := 0, slots := 0, locals := 50 }
abbrev rm_X4_lostIfClosed : Room := { frames := 3, cells := 0, slots := 0, locals := 73 }
abbrev rm_X4_ticksTo : Room := { frames := 2, cells := 0, slots := 0, locals := 50 }
abbrev rm_X4_work : Room := { frames := 2, cells := 0, slots := 0, locals := 45 }
abbrev rm_X4_least : Room := { frames := 3, cells := 0, slots := 0, locals := 68 }
abbrev rm_X4_leastWork : Room := { frames := 4, cells := 0, slots := 0, locals := 92 }
abbrev rm_X4_append : Room := { frames := 1, cells := 0, slots := 0, locals := 22 }
abbrev rm_X4_clearText : Room := { frames := 0, cells := 0, slots := 0, locals := 0 }
abbrev rm_X4_sign : Room := { frames := 0, cells := 0, slots := 0, locals := 0 }
abbrev rm_X4_takes : Room := { frames := 1, cells := 0, slots := 0, locals := 20 }
abbrev rm_X4_figure : Room := { frames := 1, cells := 0, slots := 0, locals := 22 }
abbrev rm_X4_readsInn : Room := { frames := 2, cells := 0, slots := 0, locals := 45 }
abbrev rm_X4_readsRoad : Room := { frames := 3, cells := 0, slots := 0, locals := 67 }
abbrev rm_X4_readsBody : Room := { frames := 2, cells := 0, slots := 0, locals := 45 }
abbrev rm_X4_readsOrder : Room := { frames := 4, cells := 0, slots := 0, locals := 87 }
abbrev rm_X4_areOrders : Room := { frames := 5, cells := 0, slots := 0, locals := 107 }
abbrev rm_X4_firstError : Room := { frames := 6, cells := 0, slots := 0, locals := 127 }
abbrev rm_X4_isDone : Room := { frames := 6, cells := 0, slots := 0, locals := 140 }
abbrev rm_X4_run : Room := { frames := 7, cells := 0, slots := 0, locals := 160 }
abbrev rm_X4_undo : Room := { frames := 1, cells := 0, slots := 0, locals := 23 }
abbrev rm_X4_savedStates : Room := { frames := 1, cells := 0, slots := 0, locals := 21 }
abbrev rm_X4_mix : Room := { frames := 0, cells := 0, slots := 0, locals := 0 }
theorem q_0 : Cond.selects RX0 yX0_fits yX0_fits ∈ wsT := tw 0 (by decide +kernel) rfl
theorem q_1 : Cond.selects RX0 yX0_endsOrder yX0_endsOrder ∈ wsT := tw 1 (by decide +kernel) rfl
theorem q_2 : Cond.selects RX0 yX0_fitsLay yX0_fitsLay ∈ wsT := tw 2 (by decide +kernel) rfl
theorem q_3 : Cond.selects RX0 yX0_fitsBody yX0_fitsBody ∈ wsT := tw 3 (by decide +kernel) rfl
theorem q_5 : Cond.selects RX2 yX2_placeOn yX2_placeOn ∈ wsT := tw 5 (by decide +kernel) rfl
theorem q_8 : Cond.selects RX2 yX2_roadsThrough yX2_roadsThrough ∈ wsT := tw 8 (by decide +kernel) rfl
theorem q_12 : Cond.selects RX2 yX2_putInn yX2_putInn ∈ wsT := tw 12 (by decide +kernel) rfl
theorem q_15 : Cond.selects RX2 yX2_keyAt yX2_keyAt ∈ wsT := tw 15 (by decide +kernel) rfl
theorem q_16 : Cond.selects RX2 yX2_countUp yX2_countUp ∈ wsT := tw 16 (by decide +kernel) rfl
theorem q_17 : Cond.selects RX2 yX2_addEnvelope yX2_addEnvelope ∈ wsT := tw 17 (by decide +kernel) rfl
theorem q_18 : Cond.selects RX2 yX2_putNumber yX2_putNumber ∈ wsT := tw 18 (by decide +kernel) rfl
theorem q_20 : Cond.selects RX2 yX2_moveOn yX2_moveOn ∈ wsT := tw 20 (by decide +kernel) rfl
theorem q_21 : Cond.selects RX2 yX2_reachHall yX2_reachHall ∈ wsT := tw 21 (by decide +kernel) rfl
theorem q_22 : Cond.selects RX2 yX2_reachTraveller yX2_reachTraveller ∈ wsT := tw 22 (by decide +kernel) rfl
theorem q_23 : Cond.selects RX2 yX2_reachInn yX2_reachInn ∈ wsT := tw 23 (by decide +kernel) rfl
theorem q_24 : Cond.selects RX2 yX2_takeOutGone yX2_takeOutGone ∈ wsT := tw 24 (by decide +kernel) rfl
theorem q_26 : Cond.selects RX0 yX0_lastStart yX0_lastStart ∈ wsT := tw 26 (by decide +kernel) rfl
theorem q_31 : Cond.selects RX4 yX4_holds yX4_holds ∈ wsT := tw 31 (by decide +kernel) rfl
theorem q_32 : Cond.selects RX4 yX4_changed yX4_changed ∈ wsT := tw 32 (by decide +kernel) rfl
theorem q_33 : Cond.selects RX4 yX4_save yX4_save ∈ wsT := tw 33 (by decide +kernel) rfl
theorem q_34 : Cond.selects RX4 yX4_copies yX4_copies ∈ wsT := tw 34 (by decide +kernel) rfl
theorem q_35 : Cond.selects RX4 yX4_isOpenNow yX4_isOpenNow ∈ wsT := tw 35 (by decide +kernel) rfl
theorem q_36 : Cond.selects RX4 yX4_canLay yX4_canLay ∈ wsT := tw 36 (by decide +kernel) rfl
theorem q_37 : Cond.selects RX4 yX4_lays yX4_lays ∈ wsT := tw 37 (by decide +kernel) rfl
theorem q_38 : Cond.selects RX4 yX4_canTakeUp yX4_canTakeUp ∈ wsT := tw 38 (by decide +kernel) rfl
theorem q_39 : Cond.selects RX4 yX4_of yX4_of ∈ wsT := tw 39 (by decide +kernel) rfl
theorem q_40 : Cond.selects RX4 yX4_told yX4_told ∈ wsT := tw 40 (by decide +kernel) rfl
theorem q_41 : Cond.selects RX4 yX4_isRoad yX4_isRoad ∈ wsT := tw 41 (by decide +kernel) rfl
theorem q_42 : Cond.selects RX4 yX4_innOf yX4_innOf ∈ wsT := tw 42 (by decide +kernel) rfl
theorem q_43 : Cond.selects RX4 yX4_hallOf yX4_hallOf ∈ wsT := tw 43 (by decide +kernel) rfl
theorem q_44 : Cond.selects RX4 yX4_standsNow yX4_standsNow ∈ wsT := tw 44 (by decide +kernel) rfl
theorem q_45 : Cond.selects RX4 yX4_seen yX4_seen ∈ wsT := tw 45 (by decide +kernel) rfl
theorem q_46 : Cond.selects RX4 yX4_placeOn yX4_placeOn ∈ wsT := tw 46 (by decide +kernel) rfl
theorem q_47 : Cond.selects RX4 yX4_knownTo yX4_knownTo ∈ wsT := tw 47 (by decide +kernel) rfl
theorem q_48 : Cond.selects RX4 yX4_isRoom yX4_isRoom ∈ wsT := tw 48 (by decide +kernel) rfl
theorem q_49 : Cond.selects RX4 yX4_sends yX4_sends ∈ wsT := tw 49 (by decide +kernel) rfl
theorem q_50 : Cond.selects RX4 yX4_keyOf yX4_keyOf ∈ wsT := tw 50 (by decide +kernel) rfl
theorem q_51 : Cond.selects RX4 yX4_puts yX4_puts ∈ wsT := tw 51 (by decide +kernel) rfl
theorem q_52 : Cond.selects RX4 yX4_lay4 yX4_lay4 ∈ wsT := tw 52 (by decide +kernel) rfl
theorem q_53 : Cond.selects RX4 yX4_canAnswer yX4_canAnswer ∈ wsT := tw 53 (by decide +kernel) rfl
theorem q_54 : Cond.selects RX4 yX4_answers yX4_answers ∈ wsT := tw 54 (by decide +kernel) rfl
theorem q_55 : Cond.selects RX4 yX4_passes yX4_passes ∈ wsT := tw 55 (by decide +kernel) rfl
theorem q_56 : Cond.selects RX4 yX4_ticks yX4_ticks ∈ wsT := tw 56 (by decide +kernel) rfl
theorem q_57 : Cond.selects RX4 yX4_moves yX4_moves ∈ wsT := tw 57 (by decide +kernel) rfl
theorem q_58 : Cond.selects RX4 yX4_arrives yX4_arrives ∈ wsT := tw 58 (by decide +kernel) rfl
theorem q_59 : Cond.selects RX4 yX4_leaves yX4_leaves ∈ wsT := tw 59 (by decide +kernel) rfl
theorem q_60 : Cond.selects RX4 yX4_isEnvelope yX4_isEnvelope ∈ wsT := tw 60 (by decide +kernel) rfl
theorem q_61 : Cond.selects RX4 yX4_lostBy yX4_lostBy ∈ wsT := tw 61 (by decide +kernel) rfl
theorem q_62 : Cond.selects RX4 yX4_arrivesIn yX4_arrivesIn ∈ wsT := tw 62 (by decide +kernel) rfl
theorem q_63 : Cond.selects RX4 yX4_least yX4_least ∈ wsT := tw 63 (by decide +kernel) rfl
theorem q_64 : Cond.selects RX4 yX4_work yX4_work ∈ wsT := tw 64 (by decide +kernel) rfl
theorem q_65 : Cond.selects RX4 yX4_areOrders yX4_areOrders ∈ wsT := tw 65 (by decide +kernel) rfl
theorem q_66 : Cond.selects RX4 yX4_readsOrder yX4_readsOrder ∈ wsT := tw 66 (by decide +kernel) rfl
theorem q_67 : Cond.selects RX4 yX4_sign yX4_sign ∈ wsT := tw 67 (by decide +kernel) rfl
theorem q_68 : Cond.selects RX4 yX4_takes yX4_takes ∈ wsT := tw 68 (by decide +kernel) rfl
theorem q_69 : Cond.selects RX4 yX4_readsRoad yX4_readsRoad ∈ wsT := tw 69 (by decide +kernel) rfl
theorem q_70 : Cond.selects RX4 yX4_readsInn yX4_readsInn ∈ wsT := tw 70 (by decide +kernel) rfl
theorem q_71 : Cond.selects RX4 yX4_figure yX4_figure ∈ wsT := tw 71 (by decide +kernel) rfl
theorem q_72 : Cond.selects RX4 yX4_readsBody yX4_readsBody ∈ wsT := tw 72 (by decide +kernel) rfl
theorem q_73 : Cond.selects RX4 yX4_isDone yX4_isDone ∈ wsT := tw 73 (by decide +kernel) rfl
theorem q_76 : Cond.initialized RX3 ∈ wsT := tw 76 (by decide +kernel) rfl
theorem q_77 : Cond.initialized RX2 ∈ wsT := tw 77 (by decide +kernel) rfl
theorem q_80 : Cond.initialized RX0 ∈ wsT := tw 80 (by decide +kernel) rfl
theorem q_81 : Cond.initialized RX4 ∈ wsT := tw 81 (by decide +kernel) rfl
theorem q_88 : Cond.initialized RJ9 ∈ wsT := tw 88 (by decide +kernel) rfl
theorem q_107 : Cond.fieldLink RX2 9 "NestedEnvelopes$State" "openMask" "I" ∈ wsT := tw 107 (by decide +kernel) rfl
theorem q_109 : Cond.fieldLink RX2 15 "NestedEnvelopes$State" "keys" "[I" ∈ wsT := tw 109 (by decide +kernel) rfl
theorem q_111 : Cond.fieldLink RX2 53 "NestedEnvelopes$State" "roadCount" "I" ∈ wsT := tw 111 (by decide +kernel) rfl
theorem q_113 : Cond.fieldLink RX2 19 "NestedEnvelopes$State" "roadInns" "[I" ∈ wsT := tw 113 (by decide +kernel) rfl
theorem q_114 : Cond.fieldLink RX2 22 "NestedEnvelopes$State" "roadKeys" "[I" ∈ wsT := tw 114 (by decide +kernel) rfl
theorem q_115 : Cond.fieldLink RX2 25 "NestedEnvelopes$State" "roadHalls" "[I" ∈ wsT := tw 115 (by decide +kernel) rfl
theorem q_117 : Cond.fieldLink RX2 56 "NestedEnvelopes$State" "envelopeCount" "I" ∈ wsT := tw 117 (by decide +kernel) rfl
theorem q_119 : Cond.fieldLink RX2 28 "NestedEnvelopes$State" "envelopeNumbers" "[I" ∈ wsT := tw 119 (by decide +kernel) rfl
theorem q_120 : Cond.fieldLink RX2 31 "NestedEnvelopes$State" "letters" "[I" ∈ wsT := tw 120 (by decide +kernel) rfl
theorem q_122 : Cond.fieldLink RX2 40 "NestedEnvelopes$State" "answerRoads" "[I" ∈ wsT := tw 122 (by decide +kernel) rfl
theorem q_124 : Cond.fieldLink RX2 43 "NestedEnvelopes$State" "answerGot" "I" ∈ wsT := tw 124 (by decide +kernel) rfl
theorem q_126 : Cond.fieldLink RX2 46 "NestedEnvelopes$State" "counts" "[I" ∈ wsT := tw 126 (by decide +kernel) rfl
theorem q_180 : Cond.fieldLink RX0 9 "NestedEnvelopes$OrderText" "codes" "[I" ∈ wsT := tw 180 (by decide +kernel) rfl
theorem q_181 : Cond.fieldLink RX0 15 "NestedEnvelopes$OrderText" "length" "I" ∈ wsT := tw 181 (by decide +kernel) rfl
theorem q_215 : Cond.static yX3_read ∈ wsT := tw 215 (by decide +kernel) rfl
theorem q_216 : Cond.code yX3_read cX3_read 2 (some .int) ∈ wsT := tw 216 (by decide +kernel) rfl
theorem q_230 : Cond.instanceMethod yX0_errorIndex ∈ wsT := tw 230 (by decide +kernel) rfl
theorem q_231 : Cond.selects RX0 yX0_errorIndex yX0_errorIndex ∈ wsT := tw 231 (by decide +kernel) rfl
theorem q_232 : Cond.code yX0_errorIndex cX0_errorIndex 3 (some .int) ∈ wsT := tw 232 (by decide +kernel) rfl
theorem q_233 : Cond.methodLink RX0 30 yX0_fits ∈ wsT := tw 233 (by decide +kernel) rfl
theorem q_235 : Cond.instanceMethod yX0_fits ∈ wsT := tw 235 (by decide +kernel) rfl
theorem q_236 : Cond.code yX0_fits cX0_fits 5 (some .boolean) ∈ wsT := tw 236 (by decide +kernel) rfl
theorem q_237 : Cond.methodLink RX0 23 yX0_codeAt ∈ wsT := tw 237 (by decide +kernel) rfl
theorem q_238 : Cond.instanceMethod yX0_codeAt ∈ wsT := tw 238 (by decide +kernel) rfl
theorem q_239 : Cond.selects RX0 yX0_codeAt yX0_codeAt ∈ wsT := tw 239 (by decide +kernel) rfl
theorem q_240 : Cond.code yX0_codeAt cX0_codeAt 2 (some .int) ∈ wsT := tw 240 (by decide +kernel) rfl
theorem q_241 : Cond.methodLink RX0 44 yX0_isOrderSign ∈ wsT := tw 241 (by decide +kernel) rfl
theorem q_242 : Cond.static yX0_isOrderSign ∈ wsT := tw 242 (by decide +kernel) rfl
theorem q_243 : Cond.code yX0_isOrderSign cX0_isOrderSign 1 (some .boolean) ∈ wsT := tw 243 (by decide +kernel) rfl
theorem q_244 : Cond.methodLink RX0 41 yX0_endsOrder ∈ wsT := tw 244 (by decide +kernel) rfl
theorem q_246 : Cond.instanceMethod yX0_endsOrder ∈ wsT := tw 246 (by decide +kernel) rfl
theorem q_247 : Cond.code yX0_endsOrder cX0_endsOrder 4 (some .boolean) ∈ wsT := tw 247 (by decide +kernel) rfl
theorem q_248 : Cond.methodLink RX0 48 yX0_fitsLay ∈ wsT := tw 248 (by decide +kernel) rfl
theorem q_250 : Cond.instanceMethod yX0_fitsLay ∈ wsT := tw 250 (by decide +kernel) rfl
theorem q_251 : Cond.code yX0_fitsLay cX0_fitsLay 6 (some .boolean) ∈ wsT := tw 251 (by decide +kernel) rfl
theorem q_253 : Cond.static yX3_isBetween ∈ wsT := tw 253 (by decide +kernel) rfl
theorem q_254 : Cond.code yX3_isBetween cX3_isBetween 3 (some .boolean) ∈ wsT := tw 254 (by decide +kernel) rfl
theorem q_255 : Cond.methodLink RX0 55 yX0_fitsBody ∈ wsT := tw 255 (by decide +kernel) rfl
theorem q_257 : Cond.instanceMethod yX0_fitsBody ∈ wsT := tw 257 (by decide +kernel) rfl
theorem q_258 : Cond.code yX0_fitsBody cX0_fitsBody 6 (some .boolean) ∈ wsT := tw 258 (by decide +kernel) rfl
theorem q_268 : Cond.methodLink RX3 212 yX3_mixed ∈ wsT := tw 268 (by decide +kernel) rfl
theorem q_269 : Cond.static yX3_mixed ∈ wsT := tw 269 (by decide +kernel) rfl
theorem q_270 : Cond.code yX3_mixed cX3_mixed 3 (some .long) ∈ wsT := tw 270 (by decide +kernel) rfl
theorem q_271 : Cond.constantLong RX3 261 31 ∈ wsT := tw 271 (by decide +kernel) rfl
theorem q_280 : Cond.instanceMethod yX2_hasOpen ∈ wsT := tw 280 (by decide +kernel) rfl
theorem q_281 : Cond.selects RX2 yX2_hasOpen yX2_hasOpen ∈ wsT := tw 281 (by decide +kernel) rfl
theorem q_282 : Cond.code yX2_hasOpen cX2_hasOpen 2 (some .boolean) ∈ wsT := tw 282 (by decide +kernel) rfl
theorem q_283 : Cond.methodLink RX2 59 yX2_isInMask ∈ wsT := tw 283 (by decide +kernel) rfl
theorem q_284 : Cond.static yX2_isInMask ∈ wsT := tw 284 (by decide +kernel) rfl
theorem q_285 : Cond.code yX2_isInMask cX2_isInMask 2 (some .boolean) ∈ wsT := tw 285 (by decide +kernel) rfl
theorem q_290 : Cond.methodLink RX2 89 yX2_seenBeside ∈ wsT := tw 290 (by decide +kernel) rfl
theorem q_291 : Cond.instanceMethod yX2_seenBeside ∈ wsT := tw 291 (by decide +kernel) rfl
theorem q_292 : Cond.selects RX2 yX2_seenBeside yX2_seenBeside ∈ wsT := tw 292 (by decide +kernel) rfl
theorem q_293 : Cond.code yX2_seenBeside cX2_seenBeside 6 (some .int) ∈ wsT := tw 293 (by decide +kernel) rfl
theorem q_294 : Cond.methodLink RX2 86 yX2_placeOn ∈ wsT := tw 294 (by decide +kernel) rfl
theorem q_296 : Cond.instanceMethod yX2_placeOn ∈ wsT := tw 296 (by decide +kernel) rfl
theorem q_297 : Cond.code yX2_placeOn cX2_placeOn 4 (some .int) ∈ wsT := tw 297 (by decide +kernel) rfl
theorem q_298 : Cond.methodLink RX2 79 yX2_innAt ∈ wsT := tw 298 (by decide +kernel) rfl
theorem q_299 : Cond.instanceMethod yX2_innAt ∈ wsT := tw 299 (by decide +kernel) rfl
theorem q_300 : Cond.selects RX2 yX2_innAt yX2_innAt ∈ wsT := tw 300 (by decide +kernel) rfl
theorem q_301 : Cond.code yX2_innAt cX2_innAt 3 (some .int) ∈ wsT := tw 301 (by decide +kernel) rfl
theorem q_303 : Cond.methodLink RX2 93 yX2_innBit ∈ wsT := tw 303 (by decide +kernel) rfl
theorem q_304 : Cond.static yX2_innBit ∈ wsT := tw 304 (by decide +kernel) rfl
theorem q_305 : Cond.code yX2_innBit cX2_innBit 1 (some .int) ∈ wsT := tw 305 (by decide +kernel) rfl
theorem q_311 : Cond.methodLink RX2 140 yX2_ticksLeft ∈ wsT := tw 311 (by decide +kernel) rfl
theorem q_312 : Cond.instanceMethod yX2_ticksLeft ∈ wsT := tw 312 (by decide +kernel) rfl
theorem q_313 : Cond.selects RX2 yX2_ticksLeft yX2_ticksLeft ∈ wsT := tw 313 (by decide +kernel) rfl
theorem q_314 : Cond.code yX2_ticksLeft cX2_ticksLeft 8 (some .int) ∈ wsT := tw 314 (by decide +kernel) rfl
theorem q_315 : Cond.methodLink RX2 75 yX2_ofEnvelope ∈ wsT := tw 315 (by decide +kernel) rfl
theorem q_316 : Cond.instanceMethod yX2_ofEnvelope ∈ wsT := tw 316 (by decide +kernel) rfl
theorem q_317 : Cond.selects RX2 yX2_ofEnvelope yX2_ofEnvelope ∈ wsT := tw 317 (by decide +kernel) rfl
theorem q_318 : Cond.code yX2_ofEnvelope cX2_ofEnvelope 3 (some .int) ∈ wsT := tw 318 (by decide +kernel) rfl
theorem q_328 : Cond.methodLink RX2 82 yX2_hasOpen ∈ wsT := tw 328 (by decide +kernel) rfl
theorem q_339 : Cond.methodLink RX2 101 yX2_roadsThrough ∈ wsT := tw 339 (by decide +kernel) rfl
theorem q_341 : Cond.instanceMethod yX2_roadsThrough ∈ wsT := tw 341 (by decide +kernel) rfl
theorem q_342 : Cond.code yX2_roadsThrough cX2_roadsThrough 4 (some .int) ∈ wsT := tw 342 (by decide +kernel) rfl
theorem q_351 : Cond.methodLink RX3 30 yX3_innFault ∈ wsT := tw 351 (by decide +kernel) rfl
theorem q_352 : Cond.static yX3_innFault ∈ wsT := tw 352 (by decide +kernel) rfl
theorem q_353 : Cond.code yX3_innFault cX3_innFault 1 (some .int) ∈ wsT := tw 353 (by decide +kernel) rfl
theorem q_354 : Cond.methodLink RX3 96 yX3_isBetween ∈ wsT := tw 354 (by decide +kernel) rfl
theorem q_495 : Cond.methodLink RX3 239 yX3_isBody ∈ wsT := tw 495 (by decide +kernel) rfl
theorem q_496 : Cond.static yX3_isBody ∈ wsT := tw 496 (by decide +kernel) rfl
theorem q_497 : Cond.code yX3_isBody cX3_isBody 1 (some .boolean) ∈ wsT := tw 497 (by decide +kernel) rfl
theorem q_499 : Cond.static yX3_write ∈ wsT := tw 499 (by decide +kernel) rfl
theorem q_500 : Cond.code yX3_write cX3_write 3 none ∈ wsT := tw 500 (by decide +kernel) rfl
theorem q_523 : Cond.static yX3_covered ∈ wsT := tw 523 (by decide +kernel) rfl
theorem q_524 : Cond.code yX3_covered cX3_covered 2 (some .int) ∈ wsT := tw 524 (by decide +kernel) rfl
theorem q_525 : Cond.methodLink RX3 263 yJ9_floorMod_7cf53 ∈ wsT := tw 525 (by decide +kernel) rfl
theorem q_526 : Cond.static yJ9_floorMod_7cf53 ∈ wsT := tw 526 (by decide +kernel) rfl
theorem q_527 : Cond.code yJ9_floorMod_7cf53 cJ9_floorMod_7cf53 3 (some .int) ∈ wsT := tw 527 (by decide +kernel) rfl
theorem q_536 : Cond.static yX3_uncovered ∈ wsT := tw 536 (by decide +kernel) rfl
theorem q_537 : Cond.code yX3_uncovered cX3_uncovered 2 (some .int) ∈ wsT := tw 537 (by decide +kernel) rfl
theorem q_557 : Cond.methodLink RX2 63 yX2_putInn ∈ wsT := tw 557 (by decide +kernel) rfl
theorem q_559 : Cond.instanceMethod yX2_putInn ∈ wsT := tw 559 (by decide +kernel) rfl
theorem q_560 : Cond.code yX2_putInn cX2_putInn 4 none ∈ wsT := tw 560 (by decide +kernel) rfl
theorem q_633 : Cond.methodLink RX2 104 yX2_keyAt ∈ wsT := tw 633 (by decide +kernel) rfl
theorem q_635 : Cond.instanceMethod yX2_keyAt ∈ wsT := tw 635 (by decide +kernel) rfl
theorem q_636 : Cond.code yX2_keyAt cX2_keyAt 3 (some .int) ∈ wsT := tw 636 (by decide +kernel) rfl
theorem q_638 : Cond.methodLink RX2 110 yX2_countUp ∈ wsT := tw 638 (by decide +kernel) rfl
theorem q_640 : Cond.instanceMethod yX2_countUp ∈ wsT := tw 640 (by decide +kernel) rfl
theorem q_641 : Cond.code yX2_countUp cX2_countUp 2 none ∈ wsT := tw 641 (by decide +kernel) rfl
theorem q_642 : Cond.methodLink RX2 114 yX2_addEnvelope ∈ wsT := tw 642 (by decide +kernel) rfl
theorem q_644 : Cond.instanceMethod yX2_addEnvelope ∈ wsT := tw 644 (by decide +kernel) rfl
theorem q_645 : Cond.code yX2_addEnvelope cX2_addEnvelope 6 (some .int) ∈ wsT := tw 645 (by decide +kernel) rfl
theorem q_646 : Cond.methodLink RX2 118 yX2_putNumber ∈ wsT := tw 646 (by decide +kernel) rfl
theorem q_648 : Cond.instanceMethod yX2_putNumber ∈ wsT := tw 648 (by decide +kernel) rfl
theorem q_649 : Cond.code yX2_putNumber cX2_putNumber 4 none ∈ wsT := tw 649 (by decide +kernel) rfl
theorem q_677 : Cond.methodLink RX2 121 yX2_moveOn ∈ wsT := tw 677 (by decide +kernel) rfl
theorem q_679 : Cond.instanceMethod yX2_moveOn ∈ wsT := tw 679 (by decide +kernel) rfl
theorem q_680 : Cond.code yX2_moveOn cX2_moveOn 4 (some .boolean) ∈ wsT := tw 680 (by decide +kernel) rfl
theorem q_681 : Cond.methodLink RX2 127 yX2_reachHall ∈ wsT := tw 681 (by decide +kernel) rfl
theorem q_683 : Cond.instanceMethod yX2_reachHall ∈ wsT := tw 683 (by decide +kernel) rfl
theorem q_684 : Cond.code yX2_reachHall cX2_reachHall 4 none ∈ wsT := tw 684 (by decide +kernel) rfl
theorem q_685 : Cond.methodLink RX2 130 yX2_reachTraveller ∈ wsT := tw 685 (by decide +kernel) rfl
theorem q_687 : Cond.instanceMethod yX2_reachTraveller ∈ wsT := tw 687 (by decide +kernel) rfl
theorem q_688 : Cond.code yX2_reachTraveller cX2_reachTraveller 5 none ∈ wsT := tw 688 (by decide +kernel) rfl
theorem q_690 : Cond.methodLink RX2 133 yX2_reachInn ∈ wsT := tw 690 (by decide +kernel) rfl
theorem q_692 : Cond.instanceMethod yX2_reachInn ∈ wsT := tw 692 (by decide +kernel) rfl
theorem q_693 : Cond.code yX2_reachInn cX2_reachInn 7 none ∈ wsT := tw 693 (by decide +kernel) rfl
theorem q_694 : Cond.methodLink RX2 124 yX2_takeOutGone ∈ wsT := tw 694 (by decide +kernel) rfl
theorem q_696 : Cond.instanceMethod yX2_takeOutGone ∈ wsT := tw 696 (by decide +kernel) rfl
theorem q_697 : Cond.code yX2_takeOutGone cX2_takeOutGone 4 none ∈ wsT := tw 697 (by decide +kernel) rfl
theorem q_769 : Cond.methodLink RX0 34 yX0_errorIndex ∈ wsT := tw 769 (by decide +kernel) rfl
theorem q_770 : Cond.methodLink RX0 38 yX0_lastStart ∈ wsT := tw 770 (by decide +kernel) rfl
theorem q_772 : Cond.instanceMethod yX0_lastStart ∈ wsT := tw 772 (by decide +kernel) rfl
theorem q_773 : Cond.code yX0_lastStart cX0_lastStart 3 (some .int) ∈ wsT := tw 773 (by decide +kernel) rfl
theorem q_781 : Cond.instanceMethod yX0_digitAt ∈ wsT := tw 781 (by decide +kernel) rfl
theorem q_782 : Cond.selects RX0 yX0_digitAt yX0_digitAt ∈ wsT := tw 782 (by decide +kernel) rfl
theorem q_783 : Cond.code yX0_digitAt cX0_digitAt 2 (some .int) ∈ wsT := tw 783 (by decide +kernel) rfl
theorem q_792 : Cond.methodLink RX0 27 yX0_digitAt ∈ wsT := tw 792 (by decide +kernel) rfl
theorem q_819 : Cond.fieldLink RX4 16 "NestedEnvelopesModel" "thrown" "I" ∈ wsT := tw 819 (by decide +kernel) rfl
theorem q_820 : Cond.fieldLink RX4 7 "NestedEnvelopesModel" "s" "[I" ∈ wsT := tw 820 (by decide +kernel) rfl
theorem q_821 : Cond.fieldLink RX4 73 "NestedEnvelopesModel" "saved" "I" ∈ wsT := tw 821 (by decide +kernel) rfl
theorem q_822 : Cond.fieldLink RX4 13 "NestedEnvelopesModel" "text" "[I" ∈ wsT := tw 822 (by decide +kernel) rfl
theorem q_823 : Cond.fieldLink RX4 153 "NestedEnvelopesModel" "length" "I" ∈ wsT := tw 823 (by decide +kernel) rfl
theorem q_824 : Cond.fieldLink RX4 156 "NestedEnvelopesModel" "at" "I" ∈ wsT := tw 824 (by decide +kernel) rfl
theorem q_825 : Cond.fieldLink RX4 184 "NestedEnvelopesModel" "letter" "I" ∈ wsT := tw 825 (by decide +kernel) rfl
theorem q_826 : Cond.fieldLink RX4 169 "NestedEnvelopesModel" "first" "I" ∈ wsT := tw 826 (by decide +kernel) rfl
theorem q_827 : Cond.fieldLink RX4 172 "NestedEnvelopesModel" "second" "I" ∈ wsT := tw 827 (by decide +kernel) rfl
theorem q_828 : Cond.fieldLink RX4 175 "NestedEnvelopesModel" "third" "I" ∈ wsT := tw 828 (by decide +kernel) rfl
theorem q_829 : Cond.fieldLink RX4 178 "NestedEnvelopesModel" "fourth" "I" ∈ wsT := tw 829 (by decide +kernel) rfl
theorem q_830 : Cond.fieldLink RX4 204 "NestedEnvelopesModel" "hash" "J" ∈ wsT := tw 830 (by decide +kernel) rfl
theorem q_864 : Cond.methodLink RX4 83 yX4_isInn ∈ wsT := tw 864 (by decide +kernel) rfl
theorem q_865 : Cond.static yX4_isInn ∈ wsT := tw 865 (by decide +kernel) rfl
theorem q_866 : Cond.code yX4_isInn cX4_isInn 1 (some .boolean) ∈ wsT := tw 866 (by decide +kernel) rfl
theorem q_867 : Cond.methodLink RX4 20 yX4_in ∈ wsT := tw 867 (by decide +kernel) rfl
theorem q_868 : Cond.static yX4_in ∈ wsT := tw 868 (by decide +kernel) rfl
theorem q_869 : Cond.code yX4_in cX4_in 3 (some .boolean) ∈ wsT := tw 869 (by decide +kernel) rfl
theorem q_870 : Cond.methodLink RX4 86 yX4_holds ∈ wsT := tw 870 (by decide +kernel) rfl
theorem q_872 : Cond.instanceMethod yX4_holds ∈ wsT := tw 872 (by decide +kernel) rfl
theorem q_873 : Cond.code yX4_holds cX4_holds 2 (some .boolean) ∈ wsT := tw 873 (by decide +kernel) rfl
theorem q_874 : Cond.methodLink RX4 89 yX4_changed ∈ wsT := tw 874 (by decide +kernel) rfl
theorem q_876 : Cond.instanceMethod yX4_changed ∈ wsT := tw 876 (by decide +kernel) rfl
theorem q_877 : Cond.code yX4_changed cX4_changed 4 (some .int) ∈ wsT := tw 877 (by decide +kernel) rfl
theorem q_878 : Cond.methodLink RX4 80 yX4_save ∈ wsT := tw 878 (by decide +kernel) rfl
theorem q_880 : Cond.instanceMethod yX4_save ∈ wsT := tw 880 (by decide +kernel) rfl
theorem q_881 : Cond.code yX4_save cX4_save 2 none ∈ wsT := tw 881 (by decide +kernel) rfl
theorem q_882 : Cond.methodLink RX4 76 yX4_copies ∈ wsT := tw 882 (by decide +kernel) rfl
theorem q_884 : Cond.instanceMethod yX4_copies ∈ wsT := tw 884 (by decide +kernel) rfl
theorem q_885 : Cond.code yX4_copies cX4_copies 4 none ∈ wsT := tw 885 (by decide +kernel) rfl
theorem q_890 : Cond.methodLink RX4 92 yX4_isBody ∈ wsT := tw 890 (by decide +kernel) rfl
theorem q_891 : Cond.static yX4_isBody ∈ wsT := tw 891 (by decide +kernel) rfl
theorem q_892 : Cond.code yX4_isBody cX4_isBody 1 (some .boolean) ∈ wsT := tw 892 (by decide +kernel) rfl
theorem q_897 : Cond.methodLink RX4 28 yX4_isOpenNow ∈ wsT := tw 897 (by decide +kernel) rfl
theorem q_899 : Cond.instanceMethod yX4_isOpenNow ∈ wsT := tw 899 (by decide +kernel) rfl
theorem q_900 : Cond.code yX4_isOpenNow cX4_isOpenNow 2 (some .boolean) ∈ wsT := tw 900 (by decide +kernel) rfl
theorem q_909 : Cond.methodLink RX4 39 yX4_covered ∈ wsT := tw 909 (by decide +kernel) rfl
theorem q_910 : Cond.static yX4_covered ∈ wsT := tw 910 (by decide +kernel) rfl
theorem q_911 : Cond.code yX4_covered cX4_covered 2 (some .int) ∈ wsT := tw 911 (by decide +kernel) rfl
theorem q_916 : Cond.methodLink RX4 53 yX4_uncovered ∈ wsT := tw 916 (by decide +kernel) rfl
theorem q_917 : Cond.static yX4_uncovered ∈ wsT := tw 917 (by decide +kernel) rfl
theorem q_918 : Cond.code yX4_uncovered cX4_uncovered 2 (some .int) ∈ wsT := tw 918 (by decide +kernel) rfl
theorem q_923 : Cond.methodLink RX4 95 yX4_isHall ∈ wsT := tw 923 (by decide +kernel) rfl
theorem q_924 : Cond.static yX4_isHall ∈ wsT := tw 924 (by decide +kernel) rfl
theorem q_925 : Cond.code yX4_isHall cX4_isHall 1 (some .boolean) ∈ wsT := tw 925 (by decide +kernel) rfl
theorem q_926 : Cond.methodLink RX4 98 yX4_canLay ∈ wsT := tw 926 (by decide +kernel) rfl
theorem q_928 : Cond.instanceMethod yX4_canLay ∈ wsT := tw 928 (by decide +kernel) rfl
theorem q_929 : Cond.code yX4_canLay cX4_canLay 4 (some .boolean) ∈ wsT := tw 929 (by decide +kernel) rfl
theorem q_930 : Cond.methodLink RX4 101 yX4_lays ∈ wsT := tw 930 (by decide +kernel) rfl
theorem q_932 : Cond.instanceMethod yX4_lays ∈ wsT := tw 932 (by decide +kernel) rfl
theorem q_933 : Cond.code yX4_lays cX4_lays 6 (some .int) ∈ wsT := tw 933 (by decide +kernel) rfl
theorem q_938 : Cond.methodLink RX4 104 yX4_canTakeUp ∈ wsT := tw 938 (by decide +kernel) rfl
theorem q_940 : Cond.instanceMethod yX4_canTakeUp ∈ wsT := tw 940 (by decide +kernel) rfl
theorem q_941 : Cond.code yX4_canTakeUp cX4_canTakeUp 3 (some .boolean) ∈ wsT := tw 941 (by decide +kernel) rfl
theorem q_942 : Cond.methodLink RX4 46 yX4_of ∈ wsT := tw 942 (by decide +kernel) rfl
theorem q_944 : Cond.instanceMethod yX4_of ∈ wsT := tw 944 (by decide +kernel) rfl
theorem q_945 : Cond.code yX4_of cX4_of 3 (some .int) ∈ wsT := tw 945 (by decide +kernel) rfl
theorem q_950 : Cond.methodLink RX4 107 yX4_told ∈ wsT := tw 950 (by decide +kernel) rfl
theorem q_952 : Cond.instanceMethod yX4_told ∈ wsT := tw 952 (by decide +kernel) rfl
theorem q_953 : Cond.code yX4_told cX4_told 2 (some .int) ∈ wsT := tw 953 (by decide +kernel) rfl
theorem q_958 : Cond.methodLink RX4 110 yX4_isRoad ∈ wsT := tw 958 (by decide +kernel) rfl
theorem q_960 : Cond.instanceMethod yX4_isRoad ∈ wsT := tw 960 (by decide +kernel) rfl
theorem q_961 : Cond.code yX4_isRoad cX4_isRoad 2 (some .boolean) ∈ wsT := tw 961 (by decide +kernel) rfl
theorem q_962 : Cond.methodLink RX4 24 yX4_innOf ∈ wsT := tw 962 (by decide +kernel) rfl
theorem q_964 : Cond.instanceMethod yX4_innOf ∈ wsT := tw 964 (by decide +kernel) rfl
theorem q_965 : Cond.code yX4_innOf cX4_innOf 3 (some .int) ∈ wsT := tw 965 (by decide +kernel) rfl
theorem q_970 : Cond.methodLink RX4 49 yX4_hallOf ∈ wsT := tw 970 (by decide +kernel) rfl
theorem q_972 : Cond.instanceMethod yX4_hallOf ∈ wsT := tw 972 (by decide +kernel) rfl
theorem q_973 : Cond.code yX4_hallOf cX4_hallOf 2 (some .int) ∈ wsT := tw 973 (by decide +kernel) rfl
theorem q_978 : Cond.methodLink RX4 113 yX4_standsNow ∈ wsT := tw 978 (by decide +kernel) rfl
theorem q_980 : Cond.instanceMethod yX4_standsNow ∈ wsT := tw 980 (by decide +kernel) rfl
theorem q_981 : Cond.code yX4_standsNow cX4_standsNow 2 (some .boolean) ∈ wsT := tw 981 (by decide +kernel) rfl
theorem q_986 : Cond.methodLink RX4 119 yX4_seen ∈ wsT := tw 986 (by decide +kernel) rfl
theorem q_988 : Cond.instanceMethod yX4_seen ∈ wsT := tw 988 (by decide +kernel) rfl
theorem q_989 : Cond.code yX4_seen cX4_seen 6 (some .int) ∈ wsT := tw 989 (by decide +kernel) rfl
theorem q_990 : Cond.methodLink RX4 116 yX4_placeOn ∈ wsT := tw 990 (by decide +kernel) rfl
theorem q_992 : Cond.instanceMethod yX4_placeOn ∈ wsT := tw 992 (by decide +kernel) rfl
theorem q_993 : Cond.code yX4_placeOn cX4_placeOn 4 (some .int) ∈ wsT := tw 993 (by decide +kernel) rfl
theorem q_998 : Cond.methodLink RX4 123 yX4_knownTo ∈ wsT := tw 998 (by decide +kernel) rfl
theorem q_1000 : Cond.instanceMethod yX4_knownTo ∈ wsT := tw 1000 (by decide +kernel) rfl
theorem q_1001 : Cond.code yX4_knownTo cX4_knownTo 5 (some .int) ∈ wsT := tw 1001 (by decide +kernel) rfl
theorem q_1006 : Cond.methodLink RX4 69 yX4_isRoom ∈ wsT := tw 1006 (by decide +kernel) rfl
theorem q_1008 : Cond.instanceMethod yX4_isRoom ∈ wsT := tw 1008 (by decide +kernel) rfl
theorem q_1009 : Cond.code yX4_isRoom cX4_isRoom 1 (some .boolean) ∈ wsT := tw 1009 (by decide +kernel) rfl
theorem q_1010 : Cond.methodLink RX4 126 yX4_sends ∈ wsT := tw 1010 (by decide +kernel) rfl
theorem q_1012 : Cond.instanceMethod yX4_sends ∈ wsT := tw 1012 (by decide +kernel) rfl
theorem q_1013 : Cond.code yX4_sends cX4_sends 5 (some .int) ∈ wsT := tw 1013 (by decide +kernel) rfl
theorem q_1014 : Cond.methodLink RX4 36 yX4_keyOf ∈ wsT := tw 1014 (by decide +kernel) rfl
theorem q_1016 : Cond.instanceMethod yX4_keyOf ∈ wsT := tw 1016 (by decide +kernel) rfl
theorem q_1017 : Cond.code yX4_keyOf cX4_keyOf 3 (some .int) ∈ wsT := tw 1017 (by decide +kernel) rfl
theorem q_1018 : Cond.methodLink RX4 42 yX4_puts ∈ wsT := tw 1018 (by decide +kernel) rfl
theorem q_1020 : Cond.instanceMethod yX4_puts ∈ wsT := tw 1020 (by decide +kernel) rfl
theorem q_1021 : Cond.code yX4_puts cX4_puts 6 (some .int) ∈ wsT := tw 1021 (by decide +kernel) rfl
theorem q_1022 : Cond.methodLink RX4 32 yX4_lay4 ∈ wsT := tw 1022 (by decide +kernel) rfl
theorem q_1024 : Cond.instanceMethod yX4_lay4 ∈ wsT := tw 1024 (by decide +kernel) rfl
theorem q_1025 : Cond.code yX4_lay4 cX4_lay4 4 none ∈ wsT := tw 1025 (by decide +kernel) rfl
theorem q_1030 : Cond.methodLink RX4 129 yX4_canAnswer ∈ wsT := tw 1030 (by decide +kernel) rfl
theorem q_1032 : Cond.instanceMethod yX4_canAnswer ∈ wsT := tw 1032 (by decide +kernel) rfl
theorem q_1033 : Cond.code yX4_canAnswer cX4_canAnswer 2 (some .boolean) ∈ wsT := tw 1033 (by decide +kernel) rfl
theorem q_1034 : Cond.methodLink RX4 132 yX4_answers ∈ wsT := tw 1034 (by decide +kernel) rfl
theorem q_1036 : Cond.instanceMethod yX4_answers ∈ wsT := tw 1036 (by decide +kernel) rfl
theorem q_1037 : Cond.code yX4_answers cX4_answers 3 (some .int) ∈ wsT := tw 1037 (by decide +kernel) rfl
theorem q_1042 : Cond.methodLink RX4 135 yX4_passes ∈ wsT := tw 1042 (by decide +kernel) rfl
theorem q_1044 : Cond.instanceMethod yX4_passes ∈ wsT := tw 1044 (by decide +kernel) rfl
theorem q_1045 : Cond.code yX4_passes cX4_passes 4 (some .int) ∈ wsT := tw 1045 (by decide +kernel) rfl
theorem q_1046 : Cond.methodLink RX4 66 yX4_ticks ∈ wsT := tw 1046 (by decide +kernel) rfl
theorem q_1048 : Cond.instanceMethod yX4_ticks ∈ wsT := tw 1048 (by decide +kernel) rfl
theorem q_1049 : Cond.code yX4_ticks cX4_ticks 4 none ∈ wsT := tw 1049 (by decide +kernel) rfl
theorem q_1050 : Cond.methodLink RX4 63 yX4_moves ∈ wsT := tw 1050 (by decide +kernel) rfl
theorem q_1052 : Cond.instanceMethod yX4_moves ∈ wsT := tw 1052 (by decide +kernel) rfl
theorem q_1053 : Cond.code yX4_moves cX4_moves 7 none ∈ wsT := tw 1053 (by decide +kernel) rfl
theorem q_1054 : Cond.methodLink RX4 60 yX4_arrives ∈ wsT := tw 1054 (by decide +kernel) rfl
theorem q_1056 : Cond.instanceMethod yX4_arrives ∈ wsT := tw 1056 (by decide +kernel) rfl
theorem q_1057 : Cond.code yX4_arrives cX4_arrives 5 none ∈ wsT := tw 1057 (by decide +kernel) rfl
theorem q_1058 : Cond.methodLink RX4 56 yX4_leaves ∈ wsT := tw 1058 (by decide +kernel) rfl
theorem q_1060 : Cond.instanceMethod yX4_leaves ∈ wsT := tw 1060 (by decide +kernel) rfl
theorem q_1061 : Cond.code yX4_leaves cX4_leaves 2 none ∈ wsT := tw 1061 (by decide +kernel) rfl
theorem q_1070 : Cond.methodLink RX4 138 yX4_isEnvelope ∈ wsT := tw 1070 (by decide +kernel) rfl
theorem q_1072 : Cond.instanceMethod yX4_isEnvelope ∈ wsT := tw 1072 (by decide +kernel) rfl
theorem q_1073 : Cond.code yX4_isEnvelope cX4_isEnvelope 2 (some .boolean) ∈ wsT := tw 1073 (by decide +kernel) rfl
theorem q_1094 : Cond.methodLink RX4 144 yX4_lostBy ∈ wsT := tw 1094 (by decide +kernel) rfl
theorem q_1096 : Cond.instanceMethod yX4_lostBy ∈ wsT := tw 1096 (by decide +kernel) rfl
theorem q_1097 : Cond.code yX4_lostBy cX4_lostBy 4 (some .int) ∈ wsT := tw 1097 (by decide +kernel) rfl
theorem q_1098 : Cond.methodLink RX4 141 yX4_arrivesIn ∈ wsT := tw 1098 (by decide +kernel) rfl
theorem q_1100 : Cond.instanceMethod yX4_arrivesIn ∈ wsT := tw 1100 (by decide +kernel) rfl
theorem q_1101 : Cond.code yX4_arrivesIn cX4_arrivesIn 9 (some .int) ∈ wsT := tw 1101 (by decide +kernel) rfl
theorem q_1110 : Cond.methodLink RX4 150 yX4_least ∈ wsT := tw 1110 (by decide +kernel) rfl
theorem q_1112 : Cond.instanceMethod yX4_least ∈ wsT := tw 1112 (by decide +kernel) rfl
theorem q_1113 : Cond.code yX4_least cX4_least 5 (some .int) ∈ wsT := tw 1113 (by decide +kernel) rfl
theorem q_1114 : Cond.methodLink RX4 147 yX4_work ∈ wsT := tw 1114 (by decide +kernel) rfl
theorem q_1116 : Cond.instanceMethod yX4_work ∈ wsT := tw 1116 (by decide +kernel) rfl
theorem q_1117 : Cond.code yX4_work cX4_work 4 (some .int) ∈ wsT := tw 1117 (by decide +kernel) rfl
theorem q_1130 : Cond.methodLink RX4 196 yX4_areOrders ∈ wsT := tw 1130 (by decide +kernel) rfl
theorem q_1132 : Cond.instanceMethod yX4_areOrders ∈ wsT := tw 1132 (by decide +kernel) rfl
theorem q_1133 : Cond.code yX4_areOrders cX4_areOrders 1 (some .boolean) ∈ wsT := tw 1133 (by decide +kernel) rfl
theorem q_1134 : Cond.methodLink RX4 193 yX4_readsOrder ∈ wsT := tw 1134 (by decide +kernel) rfl
theorem q_1136 : Cond.instanceMethod yX4_readsOrder ∈ wsT := tw 1136 (by decide +kernel) rfl
theorem q_1137 : Cond.code yX4_readsOrder cX4_readsOrder 1 (some .boolean) ∈ wsT := tw 1137 (by decide +kernel) rfl
theorem q_1138 : Cond.methodLink RX4 159 yX4_sign ∈ wsT := tw 1138 (by decide +kernel) rfl
theorem q_1140 : Cond.instanceMethod yX4_sign ∈ wsT := tw 1140 (by decide +kernel) rfl
theorem q_1141 : Cond.code yX4_sign cX4_sign 1 (some .int) ∈ wsT := tw 1141 (by decide +kernel) rfl
theorem q_1142 : Cond.methodLink RX4 181 yX4_takes ∈ wsT := tw 1142 (by decide +kernel) rfl
theorem q_1144 : Cond.instanceMethod yX4_takes ∈ wsT := tw 1144 (by decide +kernel) rfl
theorem q_1145 : Cond.code yX4_takes cX4_takes 3 (some .boolean) ∈ wsT := tw 1145 (by decide +kernel) rfl
theorem q_1146 : Cond.methodLink RX4 187 yX4_readsRoad ∈ wsT := tw 1146 (by decide +kernel) rfl
theorem q_1148 : Cond.instanceMethod yX4_readsRoad ∈ wsT := tw 1148 (by decide +kernel) rfl
theorem q_1149 : Cond.code yX4_readsRoad cX4_readsRoad 1 (some .boolean) ∈ wsT := tw 1149 (by decide +kernel) rfl
theorem q_1150 : Cond.methodLink RX4 166 yX4_readsInn ∈ wsT := tw 1150 (by decide +kernel) rfl
theorem q_1152 : Cond.instanceMethod yX4_readsInn ∈ wsT := tw 1152 (by decide +kernel) rfl
theorem q_1153 : Cond.code yX4_readsInn cX4_readsInn 3 (some .int) ∈ wsT := tw 1153 (by decide +kernel) rfl
theorem q_1154 : Cond.methodLink RX4 163 yX4_figure ∈ wsT := tw 1154 (by decide +kernel) rfl
theorem q_1156 : Cond.instanceMethod yX4_figure ∈ wsT := tw 1156 (by decide +kernel) rfl
theorem q_1157 : Cond.code yX4_figure cX4_figure 4 (some .int) ∈ wsT := tw 1157 (by decide +kernel) rfl
theorem q_1158 : Cond.methodLink RX4 190 yX4_readsBody ∈ wsT := tw 1158 (by decide +kernel) rfl
theorem q_1160 : Cond.instanceMethod yX4_readsBody ∈ wsT := tw 1160 (by decide +kernel) rfl
theorem q_1161 : Cond.code yX4_readsBody cX4_readsBody 1 (some .boolean) ∈ wsT := tw 1161 (by decide +kernel) rfl
theorem q_1166 : Cond.methodLink RX4 199 yX4_isDone ∈ wsT := tw 1166 (by decide +kernel) rfl
theorem q_1168 : Cond.instanceMethod yX4_isDone ∈ wsT := tw 1168 (by decide +kernel) rfl
theorem q_1169 : Cond.code yX4_isDone cX4_isDone 1 (some .boolean) ∈ wsT := tw 1169 (by decide +kernel) rfl
theorem q_1187 : Cond.constantLong RX4 202 31 ∈ wsT := tw 1187 (by decide +kernel) rfl
theorem cw_X3_96 {R : Room} {s : State} {args : Array Value} (hts : ∀ w ∈ wsT, w.before args s = true) (hf : 0 + 1 ≤ R.frames) (hl : 8 + (3 + 11) + 0 ≤ R.locals) : CallB R s args RX3 96 yX3_isBetween cX3_isBetween 3 (some .boolean) (wsA yX3_isBetween cX3_isBetween 3 (some .boolean)) rm_X3_isBetween 0 0 3 ∧ (Cond.static yX3_isBetween).before args s = true := cwAS 3 hts q_354 q_253 q_76 q_254 rfl rfl (by decide +kernel) ⟨hf, hl⟩
theorem cw_X3_30 {R : Room} {s : State} {args : Array Value} (hts : ∀ w ∈ wsT, w.before args s = true) (hf : 1 + 1 ≤ R.frames) (hl : 8 + (1 + 11) + 22 ≤ R.locals) : CallB R s args RX3 30 yX3_innFault cX3_innFault 1 (some .int) (wsA yX3_innFault cX3_innFault 1 (some .int)) rm_X3_innFault 0 0 1 ∧ (Cond.static yX3_innFault).before args s = true := cwAS 1 hts q_351 q_352 q_76 q_353 rfl rfl (by decide +kernel) ⟨hf, hl⟩
theorem cw_X3_239 {R : Room} {s : State} {args : Array Value} (hts : ∀ w ∈ wsT, w.before args s = true) (hf : 1 + 1 ≤ R.frames) (hl : 8 + (1 + 11) + 22 ≤ R.locals) : CallB R s args RX3 239 yX3_isBody cX3_isBody 1 (some .boolean) (wsA yX3_isBody cX3_isBody 1 (some .boolean)) rm_X3_isBody 0 0 1 ∧ (Cond.static yX3_isBody).before args s = true := cwAS 1 hts q_495 q_496 q_76 q_497 rfl rfl (by decide +kernel) ⟨hf, hl⟩
theorem cw_X3_212 {R : Room} {s : State} {args : Array Value} (hts : ∀ w ∈ wsT, w.before args s = true) (hf : 0 + 1 ≤ R.frames) (hl : 8 + (3 + 11) + 0 ≤ R.locals) : CallB R s args RX3 212 yX3_mixed cX3_mixed 3 (some .long) (wsA yX3_mixed cX3_mixed 3 (some .long)) rm_X3_mixed 0 0 2 ∧ (Cond.static yX3_mixed).before args s = true := cwAS 2 hts q_268 q_269 q_76 q_270 rfl rfl (by decide +kernel) ⟨hf, hl⟩
theorem cw_X3_263 {R : Room} {s : State} {args : Array Value} (hts : ∀ w ∈ wsT, w.before args s = true) (hf : 0 + 1 ≤ R.frames) (hl : 8 + (3 + 11) + 0 ≤ R.locals) : CallB R s args RX3 263 yJ9_floorMod_7cf53 cJ9_floorMod_7cf53 3 (some .int) (wsA yJ9_floorMod_7cf53 cJ9_floorMod_7cf53 3 (some .int)) rm_J9_floorMod_7cf53 0 0 2 ∧ (Cond.static yJ9_floorMod_7cf53).before args s = true := cwAS 2 hts q_525 q_526 q_88 q_527 rfl rfl (by decide +kernel) ⟨hf, hl⟩
theorem cw_X2_59 {R : Room} {s : State} {args : Array Value} (hts : ∀ w ∈ wsT, w.before args s = true) (hf : 0 + 1 ≤ R.frames) (hl : 8 + (2 + 11) + 0 ≤ R.locals) : CallB R s args RX2 59 yX2_isInMask cX2_isInMask 2 (some .boolean) (wsA yX2_isInMask cX2_isInMask 2 (some .boolean)) rm_X2_isInMask 0 0 2 ∧ (Cond.static yX2_isInMask).before args s = true := cwAS 2 hts q_283 q_284 q_77 q_285 rfl rfl (by decide +kernel) ⟨hf, hl⟩
theorem cw_X2_67 {R : Room} {s : State} {args : Array Value} (hts : ∀ w ∈ wsT, w.before args s = true) (hN : va_Nw (.methodLinkNest RX2 67 yX3_write RX3) s) (hf : 0 + 1 ≤ R.frames) (hl : 8 + (3 + 11) + 0 ≤ R.locals) : va_CN R s args RX2 67 yX3_write RX3 cX3_write 3 none (wsA yX3_write cX3_write 3 none) rm_X3_write 0 0 3 ∧ (Cond.static yX3_write).before args s = true := cwAN 3 hts hN q_499 q_76 q_500 rfl rfl (by decide +kernel) ⟨hf, hl⟩
theorem cw_X2_71 {R : Room} {s : State} {args : Array Value} (hts : ∀ w ∈ wsT, w.before args s = true) (hN : va_Nw (.methodLinkNest RX2 71 yX3_read RX3) s) (hf : 0 + 1 ≤ R.frames) (hl : 8 + (2 + 11) + 0 ≤ R.locals) : va_CN R s args RX2 71 yX3_read RX3 cX3_read 2 (some .int) (wsA yX3_read cX3_read 2 (some .int)) rm_X3_read 0 0 2 ∧ (Cond.static yX3_read).before args s = true := cwAN 2 hts hN q_215 q_76 q_216 rfl rfl (by decide +kernel) ⟨hf, hl⟩
theorem cw_X2_63 {R : Room} {s : State} {args : Array Value} (hts : ∀ w ∈ wsT, w.before args s = true) (hf : 1 + 1 ≤ R.frames) (hl : 8 + (4 + 11) + 22 ≤ R.locals) : CallW R s args RX2 RX2 63 yX2_putInn cX2_putInn 4 none (wsA yX2_putInn cX2_putInn 4 none) rm_X2_putInn 0 0 3 := cwAV 3 hts q_557 q_559 q_12 q_77 q_560 rfl rfl (by decide +kernel) ⟨hf, hl⟩
theorem cw_X2_75 {R : Room} {s : State} {args : Array Value} (hts : ∀ w ∈ wsT, w.before args s = true) (hf : 1 + 1 ≤ R.frames) (hl : 8 + (3 + 11) + 21 ≤ R.locals) : CallW R s args RX2 RX2 75 yX2_ofEnvelope cX2_ofEnvelope 3 (some .int) (wsA yX2_ofEnvelope cX2_ofEnvelope 3 (some .int)) rm_X2_ofEnvelope 0 0 2 := cwAV 2 hts q_315 q_316 q_317 q_77 q_318 rfl rfl (by decide +kernel) ⟨hf, hl⟩
theorem cw_X2_79 {R : Room} {s : State} {args : Array Value} (hts : ∀ w ∈ wsT, w.before args s = true) (hf : 1 + 1 ≤ R.frames) (hl : 8 + (3 + 11) + 21 ≤ R.locals) : CallW R s args RX2 RX2 79 yX2_innAt cX2_innAt 3 (some .int) (wsA yX2_innAt cX2_innAt 3 (some .int)) rm_X2_innAt 0 0 2 := cwAV 2 hts q_298 q_299 q_300 q_77 q_301 rfl rfl (by decide +kernel) ⟨hf, hl⟩
theorem cw_X2_82 {R : Room} {s : State} {args : Array Value} (hts : ∀ w ∈ wsT, w.before args s = true) (hf : 1 + 1 ≤ R.frames) (hl : 8 + (2 + 11) + 21 ≤ R.locals) : CallW R s args RX2 RX2 82 yX2_hasOpen cX2_hasOpen 2 (some .boolean) (wsA yX2_hasOpen cX2_hasOpen 2 (some .boolean)) rm_X2_hasOpen 0 0 1 := cwAV 1 hts q_328 q_280 q_281 q_77 q_282 rfl rfl (by decide +kernel) ⟨hf, hl⟩
theorem cw_X2_86 {R : Room} {s : State} {args : Array Value} (hts : ∀ w ∈ wsT, w.before args s = true) (hf : 2 + 1 ≤ R.frames) (hl : 8 + (4 + 11) + 43 ≤ R.locals) : CallW R s args RX2 RX2 86 yX2_placeOn cX2_placeOn 4 (some .int) (wsA yX2_placeOn cX2_placeOn 4 (some .int)) rm_X2_placeOn 0 0 2 := cwAV 2 hts q_294 q_296 q_5 q_77 q_297 rfl rfl (by decide +kernel) ⟨hf, hl⟩
theorem cw_X2_97 {R : Room} {s : State} {args : Array Value} (hts : ∀ w ∈ wsT, w.before args s = true) (hN : va_Nw (.methodLinkNest RX2 97 yX3_isBetween RX3) s) (hf : 0 + 1 ≤ R.frames) (hl : 8 + (3 + 11) + 0 ≤ R.locals) : va_CN R s args RX2 97 yX3_isBetween RX3 cX3_isBetween 3 (some .boolean) (wsA yX3_isBetween cX3_isBetween 3 (some .boolean)) rm_X3_isBetween 0 0 3 ∧ (Cond.static yX3_isBetween).before args s = true := cwAN 3 hts hN q_253 q_76 q_254 rfl rfl (by decide +kernel) ⟨hf, hl⟩
theorem cw_X2_89 {R : Room} {s : State} {args : Array Value} (hts : ∀ w ∈ wsT, w.before args s = true) (hf : 3 + 1 ≤ R.frames) (hl : 8 + (6 + 11) + 66 ≤ R.locals) : CallW R s args RX2 RX2 89 yX2_seenBeside cX2_seenBeside 6 (some .int) (wsA yX2_seenBeside cX2_seenBeside 6 (some .int)) rm_X2_seenBeside 0 0 3 := cwAV 3 hts q_290 q_291 q_292 q_77 q_293 rfl rfl (by decide +kernel) ⟨hf, hl⟩
theorem cw_X2_93 {R : Room} {s : State} {args : Array Value} (hts : ∀ w ∈ wsT, w.before args s = true) (hf : 1 + 1 ≤ R.frames) (hl : 8 + (1 + 11) + 22 ≤ R.locals) : CallB R s args RX2 93 yX2_innBit cX2_innBit 1 (some .int) (wsA yX2_innBit cX2_innBit 1 (some .int)) rm_X2_innBit 0 0 1 ∧ (Cond.static yX2_innBit).before args s = true := cwAS 1 hts q_303 q_304 q_77 q_305 rfl rfl (by decide +kernel) ⟨hf, hl⟩
theorem cw_X2_101 {R : Room} {s : State} {args : Array Value} (hts : ∀ w ∈ wsT, w.before args s = true) (hf : 3 + 1 ≤ R.frames) (hl : 8 + (4 + 11) + 66 ≤ R.locals) : CallW R s args RX2 RX2 101 yX2_roadsThrough cX2_roadsThrough 4 (some .int) (wsA yX2_roadsThrough cX2_roadsThrough 4 (some .int)) rm_X2_roadsThrough 0 0 1 := cwAV 1 hts q_339 q_341 q_8 q_77 q_342 rfl rfl (by decide +kernel) ⟨hf, hl⟩
theorem cw_X2_118 {R : Room} {s : State} {args : Array Value} (hts : ∀ w ∈ wsT, w.before args s = true) (hf : 1 + 1 ≤ R.frames) (hl : 8 + (4 + 11) + 22 ≤ R.locals) : CallW R s args RX2 RX2 118 yX2_putNumber cX2_putNumber 4 none (wsA yX2_putNumber cX2_putNumber 4 none) rm_X2_putNumber 0 0 3 := cwAV 3 hts q_646 q_648 q_18 q_77 q_649 rfl rfl (by decide +kernel) ⟨hf, hl⟩
theorem cw_X2_110 {R : Room} {s : State} {args : Array Value} (hts : ∀ w ∈ wsT, w.before args s = true) (hf : 1 + 1 ≤ R.frames) (hl : 8 + (2 + 11) + 22 ≤ R.locals) : CallW R s args RX2 RX2 110 yX2_countUp cX2_countUp 2 none (wsA yX2_countUp cX2_countUp 2 none) rm_X2_countUp 0 0 1 := cwAV 1 hts q_638 q_640 q_16 q_77 q_641 rfl rfl (by decide +kernel) ⟨hf, hl⟩
theorem cw_X2_114 {R : Room} {s : State} {args : Array Value} (hts : ∀ w ∈ wsT, w.before args s = true) (hf : 2 + 1 ≤ R.frames) (hl : 8 + (6 + 11) + 45 ≤ R.locals) : CallW R s args RX2 RX2 114 yX2_addEnvelope cX2_addEnvelope 6 (some .int) (wsA yX2_addEnvelope cX2_addEnvelope 6 (some .int)) rm_X2_addEnvelope 0 0 4 := cwAV 4 hts q_642 q_644 q_17 q_77 q_645 rfl rfl (by decide +kernel) ⟨hf, hl⟩
theorem cw_X2_104 {R : Room} {s : State} {args : Array Value} (hts : ∀ w ∈ wsT, w.before args s = true) (hf : 1 + 1 ≤ R.frames) (hl : 8 + (3 + 11) + 21 ≤ R.locals) : CallW R s args RX2 RX2 104 yX2_keyAt cX2_keyAt 3 (some .int) (wsA yX2_keyAt cX2_keyAt 3 (some .int)) rm_X2_keyAt 0 0 2 := cwAV 2 hts q_633 q_635 q_15 q_77 q_636 rfl rfl (by decide +kernel) ⟨hf, hl⟩
theorem cw_X2_107 {R : Room} {s : State} {args : Array Value} (hts : ∀ w ∈ wsT, w.before args s = true) (hN : va_Nw (.methodLinkNest RX2 107 yX3_covered RX3) s) (hf : 1 + 1 ≤ R.frames) (hl : 8 + (2 + 11) + 22 ≤ R.locals) : va_CN R s args RX2 107 yX3_covered RX3 cX3_covered 2 (some .int) (wsA yX3_covered cX3_covered 2 (some .int)) rm_X3_covered 0 0 2 ∧ (Cond.static yX3_covered).before args s = true := cwAN 2 hts hN q_523 q_76 q_524 rfl rfl (by decide +kernel) ⟨hf, hl⟩
theorem cw_X2_137 {R : Room} {s : State} {args : Array Value} (hts : ∀ w ∈ wsT, w.before args s = true) (hN : va_Nw (.methodLinkNest RX2 137 yX3_uncovered RX3) s) (hf : 1 + 1 ≤ R.frames) (hl : 8 + (2 + 11) + 22 ≤ R.locals) : va_CN R s args RX2 137 yX3_uncovered RX3 cX3_uncovered 2 (some .int) (wsA yX3_uncovered cX3_uncovered 2 (some .int)) rm_X3_uncovered 0 0 2 ∧ (Cond.static yX3_uncovered).before args s = true := cwAN 2 hts hN q_536 q_76 q_537 rfl rfl (by decide +kernel) ⟨hf, hl⟩
theorem cw_X2_133 {R : Room} {s : State} {args : Array Value} (hts : ∀ w ∈ wsT, w.before args s = true) (hf : 2 + 1 ≤ R.frames) (hl : 8 + (7 + 11) + 45 ≤ R.locals) : CallW R s args RX2 RX2 133 yX2_reachInn cX2_reachInn 7 none (wsA yX2_reachInn cX2_reachInn 7 none) rm_X2_reachInn 0 0 2 := cwAV 2 hts q_690 q_692 q_23 q_77 q_693 rfl rfl (by decide +kernel) ⟨hf, hl⟩
theorem cw_X2_130 {R : Room} {s : State} {args : Array Value} (hts : ∀ w ∈ wsT, w.before args s = true) (hf : 2 + 1 ≤ R.frames) (hl : 8 + (5 + 11) + 45 ≤ R.locals) : CallW R s args RX2 RX2 130 yX2_reachTraveller cX2_reachTraveller 5 none (wsA yX2_reachTraveller cX2_reachTraveller 5 none) rm_X2_reachTraveller 0 0 1 := cwAV 1 hts q_685 q_687 q_22 q_77 q_688 rfl rfl (by decide +kernel) ⟨hf, hl⟩
theorem cw_X2_127 {R : Room} {s : State} {args : Array Value} (hts : ∀ w ∈ wsT, w.before args s = true) (hf : 2 + 1 ≤ R.frames) (hl : 8 + (4 + 11) + 45 ≤ R.locals) : CallW R s args RX2 RX2 127 yX2_reachHall cX2_reachHall 4 none (wsA yX2_reachHall cX2_reachHall 4 none) rm_X2_reachHall 0 0 1 := cwAV 1 hts q_681 q_683 q_21 q_77 q_684 rfl rfl (by decide +kernel) ⟨hf, hl⟩
theorem cw_X2_124 {R : Room} {s : State} {args : Array Value} (hts : ∀ w ∈ wsT, w.before args s = true) (hf : 2 + 1 ≤ R.frames) (hl : 8 + (4 + 11) + 45 ≤ R.locals) : CallW R s args RX2 RX2 124 yX2_takeOutGone cX2_takeOutGone 4 none (wsA yX2_takeOutGone cX2_takeOutGone 4 none) rm_X2_takeOutGone 0 0 0 := cwAV 0 hts q_694 q_696 q_24 q_77 q_697 rfl rfl (by decide +kernel) ⟨hf, hl⟩
theorem cw_X2_121 {R : Room} {s : State} {args : Array Value} (hts : ∀ w ∈ wsT, w.before args s = true) (hf : 3 + 1 ≤ R.frames) (hl : 8 + (4 + 11) + 71 ≤ R.locals) : CallW R s args RX2 RX2 121 yX2_moveOn cX2_moveOn 4 (some .boolean) (wsA yX2_moveOn cX2_moveOn 4 (some .boolean)) rm_X2_moveOn 0 0 1 := cwAV 1 hts q_677 q_679 q_20 q_77 q_680 rfl rfl (by decide +kernel) ⟨hf, hl⟩
theorem cw_X2_140 {R : Room} {s : State} {args : Array Value} (hts : ∀ w ∈ wsT, w.before args s = true) (hf : 2 + 1 ≤ R.frames) (hl : 8 + (8 + 11) + 43 ≤ R.locals) : CallW R s args RX2 RX2 140 yX2_ticksLeft cX2_ticksLeft 8 (some .int) (wsA yX2_ticksLeft cX2_ticksLeft 8 (some .int)) rm_X2_ticksLeft 0 0 2 := cwAV 2 hts q_311 q_312 q_313 q_77 q_314 rfl rfl (by decide +kernel) ⟨hf, hl⟩
theorem cw_X0_19 {R : Room} {s : State} {args : Array Value} (hts : ∀ w ∈ wsT, w.before args s = true) (hN : va_Nw (.methodLinkNest RX0 19 yX3_write RX3) s) (hf : 0 + 1 ≤ R.frames) (hl : 8 + (3 + 11) + 0 ≤ R.locals) : va_CN R s args RX0 19 yX3_write RX3 cX3_write 3 none (wsA yX3_write cX3_write 3 none) rm_X3_write 0 0 3 ∧ (Cond.static yX3_write).before args s = true := cwAN 3 hts hN q_499 q_76 q_500 rfl rfl (by decide +kernel) ⟨hf, hl⟩
theorem cw_X0_23 {R : Room} {s : State} {args : Array Value} (hts : ∀ w ∈ wsT, w.before args s = true) (hf : 0 + 1 ≤ R.frames) (hl : 8 + (2 + 11) + 0 ≤ R.locals) : CallW R s args RX0 RX0 23 yX0_codeAt cX0_codeAt 2 (some .int) (wsA yX0_codeAt cX0_codeAt 2 (some .int)) rm_X0_codeAt 0 0 1 := cwAV 1 hts q_237 q_238 q_239 q_80 q_240 rfl rfl (by decide +kernel) ⟨hf, hl⟩
theorem cw_X0_27 {R : Room} {s : State} {args : Array Value} (hts : ∀ w ∈ wsT, w.before args s = true) (hf : 1 + 1 ≤ R.frames) (hl : 8 + (2 + 11) + 21 ≤ R.locals) : CallW R s args RX0 RX0 27 yX0_digitAt cX0_digitAt 2 (some .int) (wsA yX0_digitAt cX0_digitAt 2 (some .int)) rm_X0_digitAt 0 0 1 := cwAV 1 hts q_792 q_781 q_782 q_80 q_783 rfl rfl (by decide +kernel) ⟨hf, hl⟩
theorem cw_X0_51 {R : Room} {s : State} {args : Array Value} (hts : ∀ w ∈ wsT, w.before args s = true) (hN : va_Nw (.methodLinkNest RX0 51 yX3_isBetween RX3) s) (hf : 0 + 1 ≤ R.frames) (hl : 8 + (3 + 11) + 0 ≤ R.locals) : va_CN R s args RX0 51 yX3_isBetween RX3 cX3_isBetween 3 (some .boolean) (wsA yX3_isBetween cX3_isBetween 3 (some .boolean)) rm_X3_isBetween 0 0 3 ∧ (Cond.static yX3_isBetween).before args s = true := cwAN 3 hts hN q_253 q_76 q_254 rfl rfl (by decide +kernel) ⟨hf, hl⟩
theorem cw_X0_55 {R : Room} {s : State} {args : Array Value} (hts : ∀ w ∈ wsT, w.before args s = true) (hf : 1 + 1 ≤ R.frames) (hl : 8 + (6 + 11) + 22 ≤ R.locals) : CallW R s args RX0 RX0 55 yX0_fitsBody cX0_fitsBody 6 (some .boolean) (wsA yX0_fitsBody cX0_fitsBody 6 (some .boolean)) rm_X0_fitsBody 0 0 2 := cwAV 2 hts q_255 q_257 q_3 q_80 q_258 rfl rfl (by decide +kernel) ⟨hf, hl⟩
theorem cw_X0_48 {R : Room} {s : State} {args : Array Value} (hts : ∀ w ∈ wsT, w.before args s = true) (hf : 1 + 1 ≤ R.frames) (hl : 8 + (6 + 11) + 22 ≤ R.locals) : CallW R s args RX0 RX0 48 yX0_fitsLay cX0_fitsLay 6 (some .boolean) (wsA yX0_fitsLay cX0_fitsLay 6 (some .boolean)) rm_X0_fitsLay 0 0 2 := cwAV 2 hts q_248 q_250 q_2 q_80 q_251 rfl rfl (by decide +kernel) ⟨hf, hl⟩
theorem cw_X0_41 {R : Room} {s : State} {args : Array Value} (hts : ∀ w ∈ wsT, w.before args s = true) (hf : 1 + 1 ≤ R.frames) (hl : 8 + (4 + 11) + 21 ≤ R.locals) : CallW R s args RX0 RX0 41 yX0_endsOrder cX0_endsOrder 4 (some .boolean) (wsA yX0_endsOrder cX0_endsOrder 4 (some .boolean)) rm_X0_endsOrder 0 0 2 := cwAV 2 hts q_244 q_246 q_1 q_80 q_247 rfl rfl (by decide +kernel) ⟨hf, hl⟩
theorem cw_X0_44 {R : Room} {s : State} {args : Array Value} (hts : ∀ w ∈ wsT, w.before args s = true) (hf : 0 + 1 ≤ R.frames) (hl : 8 + (1 + 11) + 0 ≤ R.locals) : CallB R s args RX0 44 yX0_isOrderSign cX0_isOrderSign 1 (some .boolean) (wsA yX0_isOrderSign cX0_isOrderSign 1 (some .boolean)) rm_X0_isOrderSign 0 0 1 ∧ (Cond.static yX0_isOrderSign).before args s = true := cwAS 1 hts q_241 q_242 q_80 q_243 rfl rfl (by decide +kernel) ⟨hf, hl⟩
theorem cw_X0_30 {R : Room} {s : State} {args : Array Value} (hts : ∀ w ∈ wsT, w.before args s = true) (hf : 2 + 1 ≤ R.frames) (hl : 8 + (5 + 11) + 47 ≤ R.locals) : CallW R s args RX0 RX0 30 yX0_fits cX0_fits 5 (some .boolean) (wsA yX0_fits cX0_fits 5 (some .boolean)) rm_X0_fits 0 0 2 := cwAV 2 hts q_233 q_235 q_0 q_80 q_236 rfl rfl (by decide +kernel) ⟨hf, hl⟩
theorem cw_X0_34 {R : Room} {s : State} {args : Array Value} (hts : ∀ w ∈ wsT, w.before args s = true) (hf : 3 + 1 ≤ R.frames) (hl : 8 + (3 + 11) + 71 ≤ R.locals) : CallW R s args RX0 RX0 34 yX0_errorIndex cX0_errorIndex 3 (some .int) (wsA yX0_errorIndex cX0_errorIndex 3 (some .int)) rm_X0_errorIndex 0 0 0 := cwAV 0 hts q_769 q_230 q_231 q_80 q_232 rfl rfl (by decide +kernel) ⟨hf, hl⟩
theorem cw_X0_38 {R : Room} {s : State} {args : Array Value} (hts : ∀ w ∈ wsT, w.before args s = true) (hf : 1 + 1 ≤ R.frames) (hl : 8 + (3 + 11) + 21 ≤ R.locals) : CallW R s args RX0 RX0 38 yX0_lastStart cX0_lastStart 3 (some .int) (wsA yX0_lastStart cX0_lastStart 3 (some .int)) rm_X0_lastStart 0 0 0 := cwAV 0 hts q_770 q_772 q_26 q_80 q_773 rfl rfl (by decide +kernel) ⟨hf, hl⟩
theorem cw_X4_20 {R : Room} {s : State} {args : Array Value} (hts : ∀ w ∈ wsT, w.before args s = true) (hf : 0 + 1 ≤ R.frames) (hl : 8 + (3 + 11) + 0 ≤ R.locals) : CallB R s args RX4 20 yX4_in cX4_in 3 (some .boolean) (wsA yX4_in cX4_in 3 (some .boolean)) rm_X4_in 0 0 3 ∧ (Cond.static yX4_in).before args s = true := cwAS 3 hts q_867 q_868 q_81 q_869 rfl rfl (by decide +kernel) ⟨hf, hl⟩
theorem cw_X4_24 {R : Room} {s : State} {args : Array Value} (hts : ∀ w ∈ wsT, w.before args s = true) (hf : 0 + 1 ≤ R.frames) (hl : 8 + (3 + 11) + 0 ≤ R.locals) : CallW R s args RX4 RX4 24 yX4_innOf cX4_innOf 3 (some .int) (wsA yX4_innOf cX4_innOf 3 (some .int)) rm_X4_innOf 0 0 2 := cwAV 2 hts q_962 q_964 q_42 q_81 q_965 rfl rfl (by decide +kernel) ⟨hf, hl⟩
theorem cw_X4_28 {R : Room} {s : State} {args : Array Value} (hts : ∀ w ∈ wsT, w.before args s = true) (hf : 0 + 1 ≤ R.frames) (hl : 8 + (2 + 11) + 0 ≤ R.locals) : CallW R s args RX4 RX4 28 yX4_isOpenNow cX4_isOpenNow 2 (some .boolean) (wsA yX4_isOpenNow cX4_isOpenNow 2 (some .boolean)) rm_X4_isOpenNow 0 0 1 := cwAV 1 hts q_897 q_899 q_35 q_81 q_900 rfl rfl (by decide +kernel) ⟨hf, hl⟩
theorem cw_X4_32 {R : Room} {s : State} {args : Array Value} (hts : ∀ w ∈ wsT, w.before args s = true) (hf : 0 + 1 ≤ R.frames) (hl : 8 + (4 + 11) + 0 ≤ R.locals) : CallW R s args RX4 RX4 32 yX4_lay4 cX4_lay4 4 none (wsA yX4_lay4 cX4_lay4 4 none) rm_X4_lay4 0 0 3 := cwAV 3 hts q_1022 q_1024 q_52 q_81 q_1025 rfl rfl (by decide +kernel) ⟨hf, hl⟩
theorem cw_X4_42 {R : Room} {s : State} {args : Array Value} (hts : ∀ w ∈ wsT, w.before args s = true) (hf : 1 + 1 ≤ R.frames) (hl : 8 + (6 + 11) + 23 ≤ R.locals) : CallW R s args RX4 RX4 42 yX4_puts cX4_puts 6 (some .int) (wsA yX4_puts cX4_puts 6 (some .int)) rm_X4_puts 0 0 4 := cwAV 4 hts q_1018 q_1020 q_51 q_81 q_1021 rfl rfl (by decide +kernel) ⟨hf, hl⟩
theorem cw_X4_36 {R : Room} {s : State} {args : Array Value} (hts : ∀ w ∈ wsT, w.before args s = true) (hf : 0 + 1 ≤ R.frames) (hl : 8 + (3 + 11) + 0 ≤ R.locals) : CallW R s args RX4 RX4 36 yX4_keyOf cX4_keyOf 3 (some .int) (wsA yX4_keyOf cX4_keyOf 3 (some .int)) rm_X4_keyOf 0 0 2 := cwAV 2 hts q_1014 q_1016 q_50 q_81 q_1017 rfl rfl (by decide +kernel) ⟨hf, hl⟩
theorem cw_X4_39 {R : Room} {s : State} {args : Array Value} (hts : ∀ w ∈ wsT, w.before args s = true) (hf : 0 + 1 ≤ R.frames) (hl : 8 + (2 + 11) + 0 ≤ R.locals) : CallB R s args RX4 39 yX4_covered cX4_covered 2 (some .int) (wsA yX4_covered cX4_covered 2 (some .int)) rm_X4_covered 0 0 2 ∧ (Cond.static yX4_covered).before args s = true := cwAS 2 hts q_909 q_910 q_81 q_911 rfl rfl (by decide +kernel) ⟨hf, hl⟩
theorem cw_X4_46 {R : Room} {s : State} {args : Array Value} (hts : ∀ w ∈ wsT, w.before args s = true) (hf : 0 + 1 ≤ R.frames) (hl : 8 + (3 + 11) + 0 ≤ R.locals) : CallW R s args RX4 RX4 46 yX4_of cX4_of 3 (some .int) (wsA yX4_of cX4_of 3 (some .int)) rm_X4_of 0 0 2 := cwAV 2 hts q_942 q_944 q_39 q_81 q_945 rfl rfl (by decide +kernel) ⟨hf, hl⟩
theorem cw_X4_56 {R : Room} {s : State} {args : Array Value} (hts : ∀ w ∈ wsT, w.before args s = true) (hf : 1 + 1 ≤ R.frames) (hl : 8 + (2 + 11) + 23 ≤ R.locals) : CallW R s args RX4 RX4 56 yX4_leaves cX4_leaves 2 none (wsA yX4_leaves cX4_leaves 2 none) rm_X4_leaves 0 0 1 := cwAV 1 hts q_1058 q_1060 q_59 q_81 q_1061 rfl rfl (by decide +kernel) ⟨hf, hl⟩
theorem cw_X4_53 {R : Room} {s : State} {args : Array Value} (hts : ∀ w ∈ wsT, w.before args s = true) (hf : 0 + 1 ≤ R.frames) (hl : 8 + (2 + 11) + 0 ≤ R.locals) : CallB R s args RX4 53 yX4_uncovered cX4_uncovered 2 (some .int) (wsA yX4_uncovered cX4_uncovered 2 (some .int)) rm_X4_uncovered 0 0 2 ∧ (Cond.static yX4_uncovered).before args s = true := cwAS 2 hts q_916 q_917 q_81 q_918 rfl rfl (by decide +kernel) ⟨hf, hl⟩
theorem cw_X4_49 {R : Room} {s : State} {args : Array Value} (hts : ∀ w ∈ wsT, w.before args s = true) (hf : 0 + 1 ≤ R.frames) (hl : 8 + (2 + 11) + 0 ≤ R.locals) : CallW R s args RX4 RX4 49 yX4_hallOf cX4_hallOf 2 (some .int) (wsA yX4_hallOf cX4_hallOf 2 (some .int)) rm_X4_hallOf 0 0 1 := cwAV 1 hts q_970 q_972 q_43 q_81 q_973 rfl rfl (by decide +kernel) ⟨hf, hl⟩
theorem cw_X4_60 {R : Room} {s : State} {args : Array Value} (hts : ∀ w ∈ wsT, w.before args s = true) (hf : 2 + 1 ≤ R.frames) (hl : 8 + (5 + 11) + 44 ≤ R.locals) : CallW R s args RX4 RX4 60 yX4_arrives cX4_arrives 5 none (wsA yX4_arrives cX4_arrives 5 none) rm_X4_arrives 0 0 1 := cwAV 1 hts q_1054 q_1056 q_58 q_81 q_1057 rfl rfl (by decide +kernel) ⟨hf, hl⟩
theorem cw_X4_63 {R : Room} {s : State} {args : Array Value} (hts : ∀ w ∈ wsT, w.before args s = true) (hf : 3 + 1 ≤ R.frames) (hl : 8 + (7 + 11) + 68 ≤ R.locals) : CallW R s args RX4 RX4 63 yX4_moves cX4_moves 7 none (wsA yX4_moves cX4_moves 7 none) rm_X4_moves 0 0 1 := cwAV 1 hts q_1050 q_1052 q_57 q_81 q_1053 rfl rfl (by decide +kernel) ⟨hf, hl⟩
theorem cw_X4_66 {R : Room} {s : State} {args : Array Value} (hts : ∀ w ∈ wsT, w.before args s = true) (hf : 4 + 1 ≤ R.frames) (hl : 8 + (4 + 11) + 94 ≤ R.locals) : CallW R s args RX4 RX4 66 yX4_ticks cX4_ticks 4 none (wsA yX4_ticks cX4_ticks 4 none) rm_X4_ticks 0 0 0 := cwAV 0 hts q_1046 q_1048 q_56 q_81 q_1049 rfl rfl (by decide +kernel) ⟨hf, hl⟩
theorem cw_X4_69 {R : Room} {s : State} {args : Array Value} (hts : ∀ w ∈ wsT, w.before args s = true) (hf : 0 + 1 ≤ R.frames) (hl : 8 + (1 + 11) + 0 ≤ R.locals) : CallW R s args RX4 RX4 69 yX4_isRoom cX4_isRoom 1 (some .boolean) (wsA yX4_isRoom cX4_isRoom 1 (some .boolean)) rm_X4_isRoom 0 0 0 := cwAV 0 hts q_1006 q_1008 q_48 q_81 q_1009 rfl rfl (by decide +kernel) ⟨hf, hl⟩
theorem cw_X4_76 {R : Room} {s : State} {args : Array Value} (hts : ∀ w ∈ wsT, w.before args s = true) (hf : 0 + 1 ≤ R.frames) (hl : 8 + (4 + 11) + 0 ≤ R.locals) : CallW R s args RX4 RX4 76 yX4_copies cX4_copies 4 none (wsA yX4_copies cX4_copies 4 none) rm_X4_copies 0 0 2 := cwAV 2 hts q_882 q_884 q_34 q_81 q_885 rfl rfl (by decide +kernel) ⟨hf, hl⟩
theorem cw_X4_80 {R : Room} {s : State} {args : Array Value} (hts : ∀ w ∈ wsT, w.before args s = true) (hf : 1 + 1 ≤ R.frames) (hl : 8 + (2 + 11) + 23 ≤ R.locals) : CallW R s args RX4 RX4 80 yX4_save cX4_save 2 none (wsA yX4_save cX4_save 2 none) rm_X4_save 0 0 0 := cwAV 0 hts q_878 q_880 q_33 q_81 q_881 rfl rfl (by decide +kernel) ⟨hf, hl⟩
theorem cw_X4_83 {R : Room} {s : State} {args : Array Value} (hts : ∀ w ∈ wsT, w.before args s = true) (hf : 1 + 1 ≤ R.frames) (hl : 8 + (1 + 11) + 22 ≤ R.locals) : CallB R s args RX4 83 yX4_isInn cX4_isInn 1 (some .boolean) (wsA yX4_isInn cX4_isInn 1 (some .boolean)) rm_X4_isInn 0 0 1 ∧ (Cond.static yX4_isInn).before args s = true := cwAS 1 hts q_864 q_865 q_81 q_866 rfl rfl (by decide +kernel) ⟨hf, hl⟩
theorem cw_X4_86 {R : Room} {s : State} {args : Array Value} (hts : ∀ w ∈ wsT, w.before args s = true) (hf : 0 + 1 ≤ R.frames) (hl : 8 + (2 + 11) + 0 ≤ R.locals) : CallW R s args RX4 RX4 86 yX4_holds cX4_holds 2 (some .boolean) (wsA yX4_holds cX4_holds 2 (some .boolean)) rm_X4_holds 0 0 1 := cwAV 1 hts q_870 q_872 q_31 q_81 q_873 rfl rfl (by decide +kernel) ⟨hf, hl⟩
theorem cw_X4_89 {R : Room} {s : State} {args : Array Value} (hts : ∀ w ∈ wsT, w.before args s = true) (hf : 2 + 1 ≤ R.frames) (hl : 8 + (4 + 11) + 44 ≤ R.locals) : CallW R s args RX4 RX4 89 yX4_changed cX4_changed 4 (some .int) (wsA yX4_changed cX4_changed 4 (some .int)) rm_X4_changed 0 0 2 := cwAV 2 hts q_874 q_876 q_32 q_81 q_877 rfl rfl (by decide +kernel) ⟨hf, hl⟩
theorem cw_X4_92 {R : Room} {s : State} {args : Array Value} (hts : ∀ w ∈ wsT, w.before args s = true) (hf : 1 + 1 ≤ R.frames) (hl : 8 + (1 + 11) + 22 ≤ R.locals) : CallB R s args RX4 92 yX4_isBody cX4_isBody 1 (some .boolean) (wsA yX4_isBody cX4_isBody 1 (some .boolean)) rm_X4_isBody 0 0 1 ∧ (Cond.static yX4_isBody).before args s = true := cwAS 1 hts q_890 q_891 q_81 q_892 rfl rfl (by decide +kernel) ⟨hf, hl⟩
theorem cw_X4_101 {R : Room} {s : State} {args : Array Value} (hts : ∀ w ∈ wsT, w.before args s = true) (hf : 0 + 1 ≤ R.frames) (hl : 8 + (6 + 11) + 0 ≤ R.locals) : CallW R s args RX4 RX4 101 yX4_lays cX4_lays 6 (some .int) (wsA yX4_lays cX4_lays 6 (some .int)) rm_X4_lays 0 0 4 := cwAV 4 hts q_930 q_932 q_37 q_81 q_933 rfl rfl (by decide +kernel) ⟨hf, hl⟩
theorem cw_X4_98 {R : Room} {s : State} {args : Array Value} (hts : ∀ w ∈ wsT, w.before args s = true) (hf : 1 + 1 ≤ R.frames) (hl : 8 + (4 + 11) + 21 ≤ R.locals) : CallW R s args RX4 RX4 98 yX4_canLay cX4_canLay 4 (some .boolean) (wsA yX4_canLay cX4_canLay 4 (some .boolean)) rm_X4_canLay 0 0 3 := cwAV 3 hts q_926 q_928 q_36 q_81 q_929 rfl rfl (by decide +kernel) ⟨hf, hl⟩
theorem cw_X4_95 {R : Room} {s : State} {args : Array Value} (hts : ∀ w ∈ wsT, w.before args s = true) (hf : 1 + 1 ≤ R.frames) (hl : 8 + (1 + 11) + 22 ≤ R.locals) : CallB R s args RX4 95 yX4_isHall cX4_isHall 1 (some .boolean) (wsA yX4_isHall cX4_isHall 1 (some .boolean)) rm_X4_isHall 0 0 1 ∧ (Cond.static yX4_isHall).before args s = true := cwAS 1 hts q_923 q_924 q_81 q_925 rfl rfl (by decide +kernel) ⟨hf, hl⟩
theorem cw_X4_104 {R : Room} {s : State} {args : Array Value} (hts : ∀ w ∈ wsT, w.before args s = true) (hf : 1 + 1 ≤ R.frames) (hl : 8 + (3 + 11) + 22 ≤ R.locals) : CallW R s args RX4 RX4 104 yX4_canTakeUp cX4_canTakeUp 3 (some .boolean) (wsA yX4_canTakeUp cX4_canTakeUp 3 (some .boolean)) rm_X4_canTakeUp 0 0 0 := cwAV 0 hts q_938 q_940 q_38 q_81 q_941 rfl rfl (by decide +kernel) ⟨hf, hl⟩
theorem cw_X4_107 {R : Room} {s : State} {args : Array Value} (hts : ∀ w ∈ wsT, w.before args s = true) (hf : 0 + 1 ≤ R.frames) (hl : 8 + (2 + 11) + 0 ≤ R.locals) : CallW R s args RX4 RX4 107 yX4_told cX4_told 2 (some .int) (wsA yX4_told cX4_told 2 (some .int)) rm_X4_told 0 0 1 := cwAV 1 hts q_950 q_952 q_40 q_81 q_953 rfl rfl (by decide +kernel) ⟨hf, hl⟩
theorem cw_X4_110 {R : Room} {s : State} {args : Array Value} (hts : ∀ w ∈ wsT, w.before args s = true) (hf : 1 + 1 ≤ R.frames) (hl : 8 + (2 + 11) + 22 ≤ R.locals) : CallW R s args RX4 RX4 110 yX4_isRoad cX4_isRoad 2 (some .boolean) (wsA yX4_isRoad cX4_isRoad 2 (some .boolean)) rm_X4_isRoad 0 0 1 := cwAV 1 hts q_958 q_960 q_41 q_81 q_961 rfl rfl (by decide +kernel) ⟨hf, hl⟩
theorem cw_X4_113 {R : Room} {s : State} {args : Array Value} (hts : ∀ w ∈ wsT, w.before args s = true) (hf : 1 + 1 ≤ R.frames) (hl : 8 + (2 + 11) + 22 ≤ R.locals) : CallW R s args RX4 RX4 113 yX4_standsNow cX4_standsNow 2 (some .boolean) (wsA yX4_standsNow cX4_standsNow 2 (some .boolean)) rm_X4_standsNow 0 0 1 := cwAV 1 hts q_978 q_980 q_44 q_81 q_981 rfl rfl (by decide +kernel) ⟨hf, hl⟩
theorem cw_X4_116 {R : Room} {s : State} {args : Array Value} (hts : ∀ w ∈ wsT, w.before args s = true) (hf : 1 + 1 ≤ R.frames) (hl : 8 + (4 + 11) + 22 ≤ R.locals) : CallW R s args RX4 RX4 116 yX4_placeOn cX4_placeOn 4 (some .int) (wsA yX4_placeOn cX4_placeOn 4 (some .int)) rm_X4_placeOn 0 0 2 := cwAV 2 hts q_990 q_992 q_46 q_81 q_993 rfl rfl (by decide +kernel) ⟨hf, hl⟩
theorem cw_X4_119 {R : Room} {s : State} {args : Array Value} (hts : ∀ w ∈ wsT, w.before args s = true) (hf : 2 + 1 ≤ R.frames) (hl : 8 + (6 + 11) + 45 ≤ R.locals) : CallW R s args RX4 RX4 119 yX4_seen cX4_seen 6 (some .int) (wsA yX4_seen cX4_seen 6 (some .int)) rm_X4_seen 0 0 3 := cwAV 3 hts q_986 q_988 q_45 q_81 q_989 rfl rfl (by decide +kernel) ⟨hf, hl⟩
theorem cw_X4_123 {R : Room} {s : State} {args : Array Value} (hts : ∀ w ∈ wsT, w.before args s = true) (hf : 3 + 1 ≤ R.frames) (hl : 8 + (5 + 11) + 70 ≤ R.locals) : CallW R s args RX4 RX4 123 yX4_knownTo cX4_knownTo 5 (some .int) (wsA yX4_knownTo cX4_knownTo 5 (some .int)) rm_X4_knownTo 0 0 1 := cwAV 1 hts q_998 q_1000 q_47 q_81 q_1001 rfl rfl (by decide +kernel) ⟨hf, hl⟩
theorem cw_X4_126 {R : Room} {s : State} {args : Array Value} (hts : ∀ w ∈ wsT, w.before args s = true) (hf : 2 + 1 ≤ R.frames) (hl : 8 + (5 + 11) + 48 ≤ R.locals) : CallW R s args RX4 RX4 126 yX4_sends cX4_sends 5 (some .int) (wsA yX4_sends cX4_sends 5 (some .int)) rm_X4_sends 0 0 2 := cwAV 2 hts q_1010 q_1012 q_49 q_81 q_1013 rfl rfl (by decide +kernel) ⟨hf, hl⟩
theorem cw_X4_132 {R : Room} {s : State} {args : Array Value} (hts : ∀ w ∈ wsT, w.before args s = true) (hf : 2 + 1 ≤ R.frames) (hl : 8 + (3 + 11) + 48 ≤ R.locals) : CallW R s args RX4 RX4 132 yX4_answers cX4_answers 3 (some .int) (wsA yX4_answers cX4_answers 3 (some .int)) rm_X4_answers 0 0 2 := cwAV 2 hts q_1034 q_1036 q_54 q_81 q_1037 rfl rfl (by decide +kernel) ⟨hf, hl⟩
theorem cw_X4_129 {R : Room} {s : State} {args : Array Value} (hts : ∀ w ∈ wsT, w.before args s = true) (hf : 1 + 1 ≤ R.frames) (hl : 8 + (2 + 11) + 20 ≤ R.locals) : CallW R s args RX4 RX4 129 yX4_canAnswer cX4_canAnswer 2 (some .boolean) (wsA yX4_canAnswer cX4_canAnswer 2 (some .boolean)) rm_X4_canAnswer 0 0 1 := cwAV 1 hts q_1030 q_1032 q_53 q_81 q_1033 rfl rfl (by decide +kernel) ⟨hf, hl⟩
theorem cw_X4_135 {R : Room} {s : State} {args : Array Value} (hts : ∀ w ∈ wsT, w.before args s = true) (hf : 5 + 1 ≤ R.frames) (hl : 8 + (4 + 11) + 117 ≤ R.locals) : CallW R s args RX4 RX4 135 yX4_passes cX4_passes 4 (some .int) (wsA yX4_passes cX4_passes 4 (some .int)) rm_X4_passes 0 0 1 := cwAV 1 hts q_1042 q_1044 q_55 q_81 q_1045 rfl rfl (by decide +kernel) ⟨hf, hl⟩
theorem cw_X4_138 {R : Room} {s : State} {args : Array Value} (hts : ∀ w ∈ wsT, w.before args s = true) (hf : 1 + 1 ≤ R.frames) (hl : 8 + (2 + 11) + 22 ≤ R.locals) : CallW R s args RX4 RX4 138 yX4_isEnvelope cX4_isEnvelope 2 (some .boolean) (wsA yX4_isEnvelope cX4_isEnvelope 2 (some .boolean)) rm_X4_isEnvelope 0 0 1 := cwAV 1 hts q_1070 q_1072 q_60 q_81 q_1073 rfl rfl (by decide +kernel) ⟨hf, hl⟩
theorem cw_X4_141 {R : Room} {s : State} {args : Array Value} (hts : ∀ w ∈ wsT, w.before args s = true) (hf : 1 + 1 ≤ R.frames) (hl : 8 + (9 + 11) + 22 ≤ R.locals) : CallW R s args RX4 RX4 141 yX4_arrivesIn cX4_arrivesIn 9 (some .int) (wsA yX4_arrivesIn cX4_arrivesIn 9 (some .int)) rm_X4_arrivesIn 0 0 2 := cwAV 2 hts q_1098 q_1100 q_62 q_81 q_1101 rfl rfl (by decide +kernel) ⟨hf, hl⟩
theorem cw_X4_144 {R : Room} {s : State} {args : Array Value} (hts : ∀ w ∈ wsT, w.before args s = true) (hf : 2 + 1 ≤ R.frames) (hl : 8 + (4 + 11) + 50 ≤ R.locals) : CallW R s args RX4 RX4 144 yX4_lostBy cX4_lostBy 4 (some .int) (wsA yX4_lostBy cX4_lostBy 4 (some .int)) rm_X4_lostBy 0 0 1 := cwAV 1 hts q_1094 q_1096 q_61 q_81 q_1097 rfl rfl (by decide +kernel) ⟨hf, hl⟩
theorem cw_X4_147 {R : Room} {s : State} {args : Array Value} (hts : ∀ w ∈ wsT, w.before args s = true) (hf : 2 + 1 ≤ R.frames) (hl : 8 + (4 + 11) + 45 ≤ R.locals) : CallW R s args RX4 RX4 147 yX4_work cX4_work 4 (some .int) (wsA yX4_work cX4_work 4 (some .int)) rm_X4_work 0 0 1 := cwAV 1 hts q_1114 q_1116 q_64 q_81 q_1117 rfl rfl (by decide +kernel) ⟨hf, hl⟩
theorem cw_X4_150 {R : Room} {s : State} {args : Array Value} (hts : ∀ w ∈ wsT, w.before args s = true) (hf : 3 + 1 ≤ R.frames) (hl : 8 + (5 + 11) + 68 ≤ R.locals) : CallW R s args RX4 RX4 150 yX4_least cX4_least 5 (some .int) (wsA yX4_least cX4_least 5 (some .int)) rm_X4_least 0 0 1 := cwAV 1 hts q_1110 q_1112 q_63 q_81 q_1113 rfl rfl (by decide +kernel) ⟨hf, hl⟩
theorem cw_X4_159 {R : Room} {s : State} {args : Array Value} (hts : ∀ w ∈ wsT, w.before args s = true) (hf : 0 + 1 ≤ R.frames) (hl : 8 + (1 + 11) + 0 ≤ R.locals) : CallW R s args RX4 RX4 159 yX4_sign cX4_sign 1 (some .int) (wsA yX4_sign cX4_sign 1 (some .int)) rm_X4_sign 0 0 0 := cwAV 0 hts q_1138 q_1140 q_67 q_81 q_1141 rfl rfl (by decide +kernel) ⟨hf, hl⟩
theorem cw_X4_163 {R : Room} {s : State} {args : Array Value} (hts : ∀ w ∈ wsT, w.before args s = true) (hf : 1 + 1 ≤ R.frames) (hl : 8 + (4 + 11) + 22 ≤ R.locals) : CallW R s args RX4 RX4 163 yX4_figure cX4_figure 4 (some .int) (wsA yX4_figure cX4_figure 4 (some .int)) rm_X4_figure 0 0 2 := cwAV 2 hts q_1154 q_1156 q_71 q_81 q_1157 rfl rfl (by decide +kernel) ⟨hf, hl⟩
theorem cw_X4_166 {R : Room} {s : State} {args : Array Value} (hts : ∀ w ∈ wsT, w.before args s = true) (hf : 2 + 1 ≤ R.frames) (hl : 8 + (3 + 11) + 45 ≤ R.locals) : CallW R s args RX4 RX4 166 yX4_readsInn cX4_readsInn 3 (some .int) (wsA yX4_readsInn cX4_readsInn 3 (some .int)) rm_X4_readsInn 0 0 2 := cwAV 2 hts q_1150 q_1152 q_70 q_81 q_1153 rfl rfl (by decide +kernel) ⟨hf, hl⟩
theorem cw_X4_181 {R : Room} {s : State} {args : Array Value} (hts : ∀ w ∈ wsT, w.before args s = true) (hf : 1 + 1 ≤ R.frames) (hl : 8 + (3 + 11) + 20 ≤ R.locals) : CallW R s args RX4 RX4 181 yX4_takes cX4_takes 3 (some .boolean) (wsA yX4_takes cX4_takes 3 (some .boolean)) rm_X4_takes 0 0 1 := cwAV 1 hts q_1142 q_1144 q_68 q_81 q_1145 rfl rfl (by decide +kernel) ⟨hf, hl⟩
theorem cw_X4_190 {R : Room} {s : State} {args : Array Value} (hts : ∀ w ∈ wsT, w.before args s = true) (hf : 2 + 1 ≤ R.frames) (hl : 8 + (1 + 11) + 45 ≤ R.locals) : CallW R s args RX4 RX4 190 yX4_readsBody cX4_readsBody 1 (some .boolean) (wsA yX4_readsBody cX4_readsBody 1 (some .boolean)) rm_X4_readsBody 0 0 0 := cwAV 0 hts q_1158 q_1160 q_72 q_81 q_1161 rfl rfl (by decide +kernel) ⟨hf, hl⟩
theorem cw_X4_187 {R : Room} {s : State} {args : Array Value} (hts : ∀ w ∈ wsT, w.before args s = true) (hf : 3 + 1 ≤ R.frames) (hl : 8 + (1 + 11) + 67 ≤ R.locals) : CallW R s args RX4 RX4 187 yX4_readsRoad cX4_readsRoad 1 (some .boolean) (wsA yX4_readsRoad cX4_readsRoad 1 (some .boolean)) rm_X4_readsRoad 0 0 0 := cwAV 0 hts q_1146 q_1148 q_69 q_81 q_1149 rfl rfl (by decide +kernel) ⟨hf, hl⟩
theorem cw_X4_193 {R : Room} {s : State} {args : Array Value} (hts : ∀ w ∈ wsT, w.before args s = true) (hf : 4 + 1 ≤ R.frames) (hl : 8 + (1 + 11) + 87 ≤ R.locals) : CallW R s args RX4 RX4 193 yX4_readsOrder cX4_readsOrder 1 (some .boolean) (wsA yX4_readsOrder cX4_readsOrder 1 (some .boolean)) rm_X4_readsOrder 0 0 0 := cwAV 0 hts q_1134 q_1136 q_66 q_81 q_1137 rfl rfl (by decide +kernel) ⟨hf, hl⟩
theorem cw_X4_196 {R : Room} {s : State} {args : Array Value} (hts : ∀ w ∈ wsT, w.before args s = true) (hf : 5 + 1 ≤ R.frames) (hl : 8 + (1 + 11) + 107 ≤ R.locals) : CallW R s args RX4 RX4 196 yX4_areOrders cX4_areOrders 1 (some .boolean) (wsA yX4_areOrders cX4_areOrders 1 (some .boolean)) rm_X4_areOrders 0 0 0 := cwAV 0 hts q_1130 q_1132 q_65 q_81 q_1133 rfl rfl (by decide +kernel) ⟨hf, hl⟩
theorem cw_X4_199 {R : Room} {s : State} {args : Array Value} (hts : ∀ w ∈ wsT, w.before args s = true) (hf : 6 + 1 ≤ R.frames) (hl : 8 + (1 + 11) + 140 ≤ R.locals) : CallW R s args RX4 RX4 199 yX4_isDone cX4_isDone 1 (some .boolean) (wsA yX4_isDone cX4_isDone 1 (some .boolean)) rm_X4_isDone 0 0 0 := cwAV 0 hts q_1166 q_1168 q_73 q_81 q_1169 rfl rfl (by decide +kernel) ⟨hf, hl⟩
