section
-- ===== PART A: goes FIRST, ahead of the names: the tables' words, and 'selects' of the private methods out of them =====
/-- a private method of a class that the tables say can be made, by its rows of tables_1 -/
def lw_okq (q : MethodName × Nat) : Prop := (q.1.cls ≠ "java/lang/invoke/MethodHandle" ∧ q.1.cls ≠ "java/lang/invoke/VarHandle") ∧ Cond.instantiable q.1.cls q.2 ∈ tables_1 ∧ Cond.privateMethod q.1 ∈ tables_1 ∧ Cond.instanceMethod q.1 ∈ tables_1
theorem lw_p0 : lw_okq (⟨"java/lang/Throwable", "fillInStackTrace", "(I)Ljava/lang/Throwable;"⟩, 6) := ⟨⟨by decide +kernel, by decide +kernel⟩, List.mem_of_getElem? (i := 167) (by decide +kernel), List.mem_of_getElem? (i := 165) (by decide +kernel), List.mem_of_getElem? (i := 166) (by decide +kernel)⟩
theorem lw_p1 : lw_okq (⟨"NestedEnvelopes$SavedStates", "slotAt", "(I)LNestedEnvelopes$State;"⟩, 3) := ⟨⟨by decide +kernel, by decide +kernel⟩, List.mem_of_getElem? (i := 79) (by decide +kernel), List.mem_of_getElem? (i := 201) (by decide +kernel), List.mem_of_getElem? (i := 202) (by decide +kernel)⟩
theorem lw_p2 : lw_okq (⟨"NestedEnvelopes", "mixedInns", "(J)J"⟩, 3) := ⟨⟨by decide +kernel, by decide +kernel⟩, List.mem_of_getElem? (i := 15) (by decide +kernel), List.mem_of_getElem? (i := 234) (by decide +kernel), List.mem_of_getElem? (i := 235) (by decide +kernel)⟩
theorem lw_p3 : lw_okq (⟨"NestedEnvelopes$State", "placeOn", "(II)I"⟩, 12) := ⟨⟨by decide +kernel, by decide +kernel⟩, List.mem_of_getElem? (i := 23) (by decide +kernel), List.mem_of_getElem? (i := 256) (by decide +kernel), List.mem_of_getElem? (i := 257) (by decide +kernel)⟩
theorem lw_p4 : lw_okq (⟨"NestedEnvelopes", "mixedRoads", "(J)J"⟩, 3) := ⟨⟨by decide +kernel, by decide +kernel⟩, List.mem_of_getElem? (i := 15) (by decide +kernel), List.mem_of_getElem? (i := 283) (by decide +kernel), List.mem_of_getElem? (i := 284) (by decide +kernel)⟩
theorem lw_p5 : lw_okq (⟨"NestedEnvelopes", "mixedEnvelopes", "(J)J"⟩, 3) := ⟨⟨by decide +kernel, by decide +kernel⟩, List.mem_of_getElem? (i := 15) (by decide +kernel), List.mem_of_getElem? (i := 293) (by decide +kernel), List.mem_of_getElem? (i := 294) (by decide +kernel)⟩
theorem lw_p6 : lw_okq (⟨"NestedEnvelopes$State", "roadsThrough", "(I)I"⟩, 12) := ⟨⟨by decide +kernel, by decide +kernel⟩, List.mem_of_getElem? (i := 23) (by decide +kernel), List.mem_of_getElem? (i := 303) (by decide +kernel), List.mem_of_getElem? (i := 304) (by decide +kernel)⟩
theorem lw_p7 : lw_okq (⟨"NestedEnvelopes", "layFault", "(IIII)I"⟩, 3) := ⟨⟨by decide +kernel, by decide +kernel⟩, List.mem_of_getElem? (i := 15) (by decide +kernel), List.mem_of_getElem? (i := 396) (by decide +kernel), List.mem_of_getElem? (i := 397) (by decide +kernel)⟩
theorem lw_p8 : lw_okq (⟨"NestedEnvelopes$State", "putInn", "(III)V"⟩, 12) := ⟨⟨by decide +kernel, by decide +kernel⟩, List.mem_of_getElem? (i := 23) (by decide +kernel), List.mem_of_getElem? (i := 407) (by decide +kernel), List.mem_of_getElem? (i := 408) (by decide +kernel)⟩
theorem lw_p9 : lw_okq (⟨"NestedEnvelopes", "envelopeFault", "(I)I"⟩, 3) := ⟨⟨by decide +kernel, by decide +kernel⟩, List.mem_of_getElem? (i := 15) (by decide +kernel), List.mem_of_getElem? (i := 416) (by decide +kernel), List.mem_of_getElem? (i := 417) (by decide +kernel)⟩
theorem lw_p10 : lw_okq (⟨"NestedEnvelopes", "roadFault", "(I)I"⟩, 3) := ⟨⟨by decide +kernel, by decide +kernel⟩, List.mem_of_getElem? (i := 15) (by decide +kernel), List.mem_of_getElem? (i := 444) (by decide +kernel), List.mem_of_getElem? (i := 445) (by decide +kernel)⟩
theorem lw_p11 : lw_okq (⟨"NestedEnvelopes$State", "moveOn", "(I)Z"⟩, 12) := ⟨⟨by decide +kernel, by decide +kernel⟩, List.mem_of_getElem? (i := 23) (by decide +kernel), List.mem_of_getElem? (i := 457) (by decide +kernel), List.mem_of_getElem? (i := 458) (by decide +kernel)⟩
theorem lw_p12 : lw_okq (⟨"NestedEnvelopes$State", "putNumber", "(III)V"⟩, 12) := ⟨⟨by decide +kernel, by decide +kernel⟩, List.mem_of_getElem? (i := 23) (by decide +kernel), List.mem_of_getElem? (i := 461) (by decide +kernel), List.mem_of_getElem? (i := 462) (by decide +kernel)⟩
theorem lw_p13 : lw_okq (⟨"NestedEnvelopes$State", "reachHall", "(I)V"⟩, 12) := ⟨⟨by decide +kernel, by decide +kernel⟩, List.mem_of_getElem? (i := 23) (by decide +kernel), List.mem_of_getElem? (i := 465) (by decide +kernel), List.mem_of_getElem? (i := 466) (by decide +kernel)⟩
theorem lw_p14 : lw_okq (⟨"NestedEnvelopes$State", "countUp", "(I)V"⟩, 12) := ⟨⟨by decide +kernel, by decide +kernel⟩, List.mem_of_getElem? (i := 23) (by decide +kernel), List.mem_of_getElem? (i := 469) (by decide +kernel), List.mem_of_getElem? (i := 470) (by decide +kernel)⟩
theorem lw_p15 : lw_okq (⟨"NestedEnvelopes$State", "reachTraveller", "(I)V"⟩, 12) := ⟨⟨by decide +kernel, by decide +kernel⟩, List.mem_of_getElem? (i := 23) (by decide +kernel), List.mem_of_getElem? (i := 473) (by decide +kernel), List.mem_of_getElem? (i := 474) (by decide +kernel)⟩
def lw_privs_1 : List (MethodName × Nat) := [(⟨"java/lang/Throwable", "fillInStackTrace", "(I)Ljava/lang/Throwable;"⟩, 6), (⟨"NestedEnvelopes$SavedStates", "slotAt", "(I)LNestedEnvelopes$State;"⟩, 3), (⟨"NestedEnvelopes", "mixedInns", "(J)J"⟩, 3), (⟨"NestedEnvelopes$State", "placeOn", "(II)I"⟩, 12), (⟨"NestedEnvelopes", "mixedRoads", "(J)J"⟩, 3), (⟨"NestedEnvelopes", "mixedEnvelopes", "(J)J"⟩, 3), (⟨"NestedEnvelopes$State", "roadsThrough", "(I)I"⟩, 12), (⟨"NestedEnvelopes", "layFault", "(IIII)I"⟩, 3), (⟨"NestedEnvelopes$State", "putInn", "(III)V"⟩, 12), (⟨"NestedEnvelopes", "envelopeFault", "(I)I"⟩, 3), (⟨"NestedEnvelopes", "roadFault", "(I)I"⟩, 3), (⟨"NestedEnvelopes$State", "moveOn", "(I)Z"⟩, 12), (⟨"NestedEnvelopes$State", "putNumber", "(III)V"⟩, 12), (⟨"NestedEnvelopes$State", "reachHall", "(I)V"⟩, 12), (⟨"NestedEnvelopes$State", "countUp", "(I)V"⟩, 12), (⟨"NestedEnvelopes$State", "reachTraveller", "(I)V"⟩, 12)]
theorem lw_r1 : ∀ q ∈ lw_privs_1, lw_okq q := List.forall_mem_cons.mpr ⟨lw_p0, List.forall_mem_cons.mpr ⟨lw_p1, List.forall_mem_cons.mpr ⟨lw_p2, List.forall_mem_cons.mpr ⟨lw_p3, List.forall_mem_cons.mpr ⟨lw_p4, List.forall_mem_cons.mpr ⟨lw_p5, List.forall_mem_cons.mpr ⟨lw_p6, List.forall_mem_cons.mpr ⟨lw_p7, List.forall_mem_cons.mpr ⟨lw_p8, List.forall_mem_cons.mpr ⟨lw_p9, List.forall_mem_cons.mpr ⟨lw_p10, List.forall_mem_cons.mpr ⟨lw_p11, List.forall_mem_cons.mpr ⟨lw_p12, List.forall_mem_cons.mpr ⟨lw_p13, List.forall_mem_cons.mpr ⟨lw_p14, List.forall_mem_cons.mpr ⟨lw_p15, fun _ h => absurd h List.not_mem_nil⟩⟩⟩⟩⟩⟩⟩⟩⟩⟩⟩⟩⟩⟩⟩⟩
theorem lw_p16 : lw_okq (⟨"NestedEnvelopes$State", "keyAt", "(II)I"⟩, 12) := ⟨⟨by decide +kernel, by decide +kernel⟩, List.mem_of_getElem? (i := 23) (by decide +kernel), List.mem_of_getElem? (i := 477) (by decide +kernel), List.mem_of_getElem? (i := 478) (by decide +kernel)⟩
theorem lw_p17 : lw_okq (⟨"NestedEnvelopes$State", "reachInn", "(II)V"⟩, 12) := ⟨⟨by decide +kernel, by decide +kernel⟩, List.mem_of_getElem? (i := 23) (by decide +kernel), List.mem_of_getElem? (i := 487) (by decide +kernel), List.mem_of_getElem? (i := 488) (by decide +kernel)⟩
theorem lw_p18 : lw_okq (⟨"NestedEnvelopes$State", "takeOutGone", "()V"⟩, 12) := ⟨⟨by decide +kernel, by decide +kernel⟩, List.mem_of_getElem? (i := 23) (by decide +kernel), List.mem_of_getElem? (i := 494) (by decide +kernel), List.mem_of_getElem? (i := 495) (by decide +kernel)⟩
theorem lw_p19 : lw_okq (⟨"NestedEnvelopes", "answerFault", "(II)I"⟩, 3) := ⟨⟨by decide +kernel, by decide +kernel⟩, List.mem_of_getElem? (i := 15) (by decide +kernel), List.mem_of_getElem? (i := 502) (by decide +kernel), List.mem_of_getElem? (i := 503) (by decide +kernel)⟩
theorem lw_p20 : lw_okq (⟨"NestedEnvelopes$State", "addEnvelope", "(IIII)I"⟩, 12) := ⟨⟨by decide +kernel, by decide +kernel⟩, List.mem_of_getElem? (i := 23) (by decide +kernel), List.mem_of_getElem? (i := 510) (by decide +kernel), List.mem_of_getElem? (i := 511) (by decide +kernel)⟩
theorem lw_p21 : lw_okq (⟨"NestedEnvelopes", "sendFault", "(II)I"⟩, 3) := ⟨⟨by decide +kernel, by decide +kernel⟩, List.mem_of_getElem? (i := 15) (by decide +kernel), List.mem_of_getElem? (i := 518) (by decide +kernel), List.mem_of_getElem? (i := 519) (by decide +kernel)⟩
def lw_privs_2 : List (MethodName × Nat) := [(⟨"NestedEnvelopes$State", "keyAt", "(II)I"⟩, 12), (⟨"NestedEnvelopes$State", "reachInn", "(II)V"⟩, 12), (⟨"NestedEnvelopes$State", "takeOutGone", "()V"⟩, 12), (⟨"NestedEnvelopes", "answerFault", "(II)I"⟩, 3), (⟨"NestedEnvelopes$State", "addEnvelope", "(IIII)I"⟩, 12), (⟨"NestedEnvelopes", "sendFault", "(II)I"⟩, 3)]
theorem lw_r2 : ∀ q ∈ lw_privs_2, lw_okq q := List.forall_mem_cons.mpr ⟨lw_p16, List.forall_mem_cons.mpr ⟨lw_p17, List.forall_mem_cons.mpr ⟨lw_p18, List.forall_mem_cons.mpr ⟨lw_p19, List.forall_mem_cons.mpr ⟨lw_p20, List.forall_mem_cons.mpr ⟨lw_p21, fun _ h => absurd h List.not_mem_nil⟩⟩⟩⟩⟩⟩
def lw_privs : List (MethodName × Nat) := lw_privs_1 ++ (lw_privs_2)
def lw_tbl : List Cond := k2_sels lw_privs ++ tables_1
theorem lw_privs_ok : ∀ q ∈ lw_privs, lw_okq q := by
  show ∀ q ∈ lw_privs_1 ++ (lw_privs_2), lw_okq q
  exact List.forall_mem_append.mpr ⟨lw_r1, lw_r2⟩
/-- the streams that the claim lets the run draw from -/
abbrev lw_cs : List Choice := [Jvm.Choice.named "NaN.bits"]
theorem lw_bits : nanBits ∈ lw_cs := by first | decide | exact List.mem_cons_self | simp [lw_cs, nanBits]
-- ===== end of PART A; then your names; then what follows =====
end
section
def RX0 : String := "NestedEnvelopes$OrderText"
def TX0 : u_T := fun k => match k with
  | 0 => ("NestedEnvelopes$OrderText", "codes", "[I", true)
  | _ => ("NestedEnvelopes$OrderText", "length", "I", false)
def tyX0 : Nat → FieldType := fun k => match k with
  | 0 => .array .int
  | _ => .int
abbrev wsX00 : List Cond := u_ws RX0 TX0 2
theorem nmX0 : ∀ a, a < 2 → ∀ b, b < 2 → a ≠ b → (TX0 a).2.1 ≠ (TX0 b).2.1 := by decide +kernel
theorem tyX0_ok : ∀ k, k < 2 → parseFieldDescriptor (TX0 k).2.2.1 = some (tyX0 k) := by decide +kernel
abbrev cX0_init : ByteArray := prog_2_method_1_code
def yX0_init : MethodName := ⟨RX0, "<init>", "()V"⟩
def RX1 : String := "NestedEnvelopes$SavedStates"
def TX1 : u_T := fun k => match k with
  | 0 => ("NestedEnvelopes$SavedStates", "slots", "[LNestedEnvelopes$State;", true)
  | 1 => ("NestedEnvelopes$SavedStates", "next", "I", false)
  | _ => ("NestedEnvelopes$SavedStates", "size", "I", false)
def tyX1 : Nat → FieldType := fun k => match k with
  | 0 => .array (.object "NestedEnvelopes$State")
  | 1 => .int
  | _ => .int
abbrev wsX10 : List Cond := u_ws RX1 TX1 3
theorem nmX1 : ∀ a, a < 3 → ∀ b, b < 3 → a ≠ b → (TX1 a).2.1 ≠ (TX1 b).2.1 := by decide +kernel
theorem tyX1_ok : ∀ k, k < 3 → parseFieldDescriptor (TX1 k).2.2.1 = some (tyX1 k) := by decide +kernel
abbrev cX1_init : ByteArray := prog_3_method_1_code
def yX1_init : MethodName := ⟨RX1, "<init>", "()V"⟩
abbrev cX1_keep : ByteArray := prog_3_method_2_code
def yX1_keep : MethodName := ⟨RX1, "keep", "(LNestedEnvelopes$State;)V"⟩
abbrev cX1_giveBack : ByteArray := prog_3_method_3_code
def yX1_giveBack : MethodName := ⟨RX1, "giveBack", "(LNestedEnvelopes$State;)V"⟩
abbrev cX1_slotAt : ByteArray := prog_3_method_4_code
def yX1_slotAt : MethodName := ⟨RX1, "slotAt", "(I)LNestedEnvelopes$State;"⟩
def RX2 : String := "NestedEnvelopes$State"
def TX2 : u_T := fun k => match k with
  | 0 => ("NestedEnvelopes$State", "openMask", "I", false)
  | 1 => ("NestedEnvelopes$State", "keys", "[I", true)
  | 2 => ("NestedEnvelopes$State", "roadCount", "I", false)
  | 3 => ("NestedEnvelopes$State", "roadInns", "[I", true)
  | 4 => ("NestedEnvelopes$State", "roadKeys", "[I", true)
  | 5 => ("NestedEnvelopes$State", "roadHalls", "[I", true)
  | 6 => ("NestedEnvelopes$State", "envelopeCount", "I", false)
  | 7 => ("NestedEnvelopes$State", "envelopeNumbers", "[I", true)
  | 8 => ("NestedEnvelopes$State", "letters", "[I", true)
  | 9 => ("NestedEnvelopes$State", "answerRoads", "[I", true)
  | 10 => ("NestedEnvelopes$State", "answerGot", "I", false)
  | _ => ("NestedEnvelopes$State", "counts", "[I", true)
def tyX2 : Nat → FieldType := fun k => match k with
  | 0 => .int
  | 1 => .array .int
  | 2 => .int
  | 3 => .array .int
  | 4 => .array .int
  | 5 => .array .int
  | 6 => .int
  | 7 => .array .int
  | 8 => .array .int
  | 9 => .array .int
  | 10 => .int
  | _ => .array .int
abbrev wsX20 : List Cond := u_ws RX2 TX2 12
theorem nmX2 : ∀ a, a < 12 → ∀ b, b < 12 → a ≠ b → (TX2 a).2.1 ≠ (TX2 b).2.1 := by decide +kernel
theorem tyX2_ok : ∀ k, k < 12 → parseFieldDescriptor (TX2 k).2.2.1 = some (tyX2 k) := by decide +kernel
abbrev cX2_init : ByteArray := prog_4_method_1_code
def yX2_init : MethodName := ⟨RX2, "<init>", "()V"⟩
abbrev cX2_become : ByteArray := prog_4_method_2_code
def yX2_become : MethodName := ⟨RX2, "become", "(LNestedEnvelopes$State;)V"⟩
abbrev cX2_hasOpen : ByteArray := prog_4_method_3_code
def yX2_hasOpen : MethodName := ⟨RX2, "hasOpen", "(I)Z"⟩
abbrev cX2_turn : ByteArray := prog_4_method_4_code
def yX2_turn : MethodName := ⟨RX2, "turn", "(IZ)V"⟩
abbrev cX2_isInMask : ByteArray := prog_4_method_5_code
def yX2_isInMask : MethodName := ⟨RX2, "isInMask", "(II)Z"⟩
abbrev cX2_addRoad : ByteArray := prog_4_method_6_code
def yX2_addRoad : MethodName := ⟨RX2, "addRoad", "(IIII)I"⟩
abbrev cX2_putInn : ByteArray := prog_4_method_7_code
def yX2_putInn : MethodName := ⟨RX2, "putInn", "(III)V"⟩
abbrev cX2_removeLastRoad : ByteArray := prog_4_method_8_code
def yX2_removeLastRoad : MethodName := ⟨RX2, "removeLastRoad", "()V"⟩
abbrev cX2_isUsed : ByteArray := prog_4_method_9_code
def yX2_isUsed : MethodName := ⟨RX2, "isUsed", "(I)Z"⟩
abbrev cX2_innAt : ByteArray := prog_4_method_10_code
def yX2_innAt : MethodName := ⟨RX2, "innAt", "(II)I"⟩
abbrev cX2_keyAt : ByteArray := prog_4_method_11_code
def yX2_keyAt : MethodName := ⟨RX2, "keyAt", "(II)I"⟩
abbrev cX2_placeOn : ByteArray := prog_4_method_12_code
def yX2_placeOn : MethodName := ⟨RX2, "placeOn", "(II)I"⟩
abbrev cX2_allOpenOn : ByteArray := prog_4_method_13_code
def yX2_allOpenOn : MethodName := ⟨RX2, "allOpenOn", "(I)Z"⟩
abbrev cX2_seenBeside : ByteArray := prog_4_method_14_code
def yX2_seenBeside : MethodName := ⟨RX2, "seenBeside", "(III)I"⟩
abbrev cX2_knownMask : ByteArray := prog_4_method_15_code
def yX2_knownMask : MethodName := ⟨RX2, "knownMask", "(I)I"⟩
abbrev cX2_innBit : ByteArray := prog_4_method_16_code
def yX2_innBit : MethodName := ⟨RX2, "innBit", "(I)I"⟩
abbrev cX2_roadsThrough : ByteArray := prog_4_method_17_code
def yX2_roadsThrough : MethodName := ⟨RX2, "roadsThrough", "(I)I"⟩
abbrev cX2_leastUsedInn : ByteArray := prog_4_method_18_code
def yX2_leastUsedInn : MethodName := ⟨RX2, "leastUsedInn", "(I)I"⟩
abbrev cX2_ofEnvelope : ByteArray := prog_4_method_19_code
def yX2_ofEnvelope : MethodName := ⟨RX2, "ofEnvelope", "(II)I"⟩
abbrev cX2_putNumber : ByteArray := prog_4_method_20_code
def yX2_putNumber : MethodName := ⟨RX2, "putNumber", "(III)V"⟩
abbrev cX2_addLetter : ByteArray := prog_4_method_21_code
def yX2_addLetter : MethodName := ⟨RX2, "addLetter", "(II)I"⟩
abbrev cX2_addAnswer : ByteArray := prog_4_method_22_code
def yX2_addAnswer : MethodName := ⟨RX2, "addAnswer", "(II)I"⟩
abbrev cX2_addEnvelope : ByteArray := prog_4_method_23_code
def yX2_addEnvelope : MethodName := ⟨RX2, "addEnvelope", "(IIII)I"⟩
abbrev cX2_countUp : ByteArray := prog_4_method_24_code
def yX2_countUp : MethodName := ⟨RX2, "countUp", "(I)V"⟩
abbrev cX2_letTicksPass : ByteArray := prog_4_method_25_code
def yX2_letTicksPass : MethodName := ⟨RX2, "letTicksPass", "(I)I"⟩
abbrev cX2_moveOn : ByteArray := prog_4_method_26_code
def yX2_moveOn : MethodName := ⟨RX2, "moveOn", "(I)Z"⟩
abbrev cX2_reachInn : ByteArray := prog_4_method_27_code
def yX2_reachInn : MethodName := ⟨RX2, "reachInn", "(II)V"⟩
abbrev cX2_reachHall : ByteArray := prog_4_method_28_code
def yX2_reachHall : MethodName := ⟨RX2, "reachHall", "(I)V"⟩
abbrev cX2_reachTraveller : ByteArray := prog_4_method_29_code
def yX2_reachTraveller : MethodName := ⟨RX2, "reachTraveller", "(I)V"⟩
abbrev cX2_takeOutGone : ByteArray := prog_4_method_30_code
def yX2_takeOutGone : MethodName := ⟨RX2, "takeOutGone", "()V"⟩
abbrev cX2_lostWithout : ByteArray := prog_4_method_31_code
def yX2_lostWithout : MethodName := ⟨RX2, "lostWithout", "(I)I"⟩
abbrev cX2_ticksLeft : ByteArray := prog_4_method_32_code
def yX2_ticksLeft : MethodName := ⟨RX2, "ticksLeft", "(II)I"⟩
def RX3 : String := "NestedEnvelopes"
def TX3 : u_T := fun k => match k with
  | 0 => ("NestedEnvelopes", "now", "LNestedEnvelopes$State;", true)
  | 1 => ("NestedEnvelopes", "saved", "LNestedEnvelopes$SavedStates;", true)
  | _ => ("NestedEnvelopes", "text", "LNestedEnvelopes$OrderText;", true)
def tyX3 : Nat → FieldType := fun k => match k with
  | 0 => .object "NestedEnvelopes$State"
  | 1 => .object "NestedEnvelopes$SavedStates"
  | _ => .object "NestedEnvelopes$OrderText"
abbrev wsX30 : List Cond := u_ws RX3 TX3 3
theorem nmX3 : ∀ a, a < 3 → ∀ b, b < 3 → a ≠ b → (TX3 a).2.1 ≠ (TX3 b).2.1 := by decide +kernel
theorem tyX3_ok : ∀ k, k < 3 → parseFieldDescriptor (TX3 k).2.2.1 = some (tyX3 k) := by decide +kernel
abbrev cX3_init : ByteArray := prog_1_method_1_code
def yX3_init : MethodName := ⟨RX3, "<init>", "()V"⟩
abbrev cX3_setOpen : ByteArray := prog_1_method_2_code
def yX3_setOpen : MethodName := ⟨RX3, "setOpen", "(IZ)Z"⟩
abbrev cX3_setKey : ByteArray := prog_1_method_3_code
def yX3_setKey : MethodName := ⟨RX3, "setKey", "(II)I"⟩
abbrev cX3_isOpen : ByteArray := prog_1_method_4_code
def yX3_isOpen : MethodName := ⟨RX3, "isOpen", "(I)Z"⟩
abbrev cX3_cover : ByteArray := prog_1_method_6_code
def yX3_cover : MethodName := ⟨RX3, "cover", "(II)I"⟩
abbrev cX3_uncover : ByteArray := prog_1_method_7_code
def yX3_uncover : MethodName := ⟨RX3, "uncover", "(II)I"⟩
abbrev cX3_lay : ByteArray := prog_1_method_8_code
def yX3_lay : MethodName := ⟨RX3, "lay", "(IIII)I"⟩
abbrev cX3_takeUp : ByteArray := prog_1_method_9_code
def yX3_takeUp : MethodName := ⟨RX3, "takeUp", "()I"⟩
abbrev cX3_roads : ByteArray := prog_1_method_10_code
def yX3_roads : MethodName := ⟨RX3, "roads", "()I"⟩
abbrev cX3_inn : ByteArray := prog_1_method_11_code
def yX3_inn : MethodName := ⟨RX3, "inn", "(II)I"⟩
abbrev cX3_hall : ByteArray := prog_1_method_12_code
def yX3_hall : MethodName := ⟨RX3, "hall", "(I)I"⟩
abbrev cX3_stands : ByteArray := prog_1_method_13_code
def yX3_stands : MethodName := ⟨RX3, "stands", "(I)Z"⟩
abbrev cX3_see : ByteArray := prog_1_method_14_code
def yX3_see : MethodName := ⟨RX3, "see", "(III)I"⟩
abbrev cX3_known : ByteArray := prog_1_method_15_code
def yX3_known : MethodName := ⟨RX3, "known", "(I)I"⟩
abbrev cX3_send : ByteArray := prog_1_method_16_code
def yX3_send : MethodName := ⟨RX3, "send", "(II)I"⟩
abbrev cX3_answer : ByteArray := prog_1_method_17_code
def yX3_answer : MethodName := ⟨RX3, "answer", "(II)I"⟩
abbrev cX3_pass : ByteArray := prog_1_method_18_code
def yX3_pass : MethodName := ⟨RX3, "pass", "(I)I"⟩
abbrev cX3_envelopes : ByteArray := prog_1_method_19_code
def yX3_envelopes : MethodName := ⟨RX3, "envelopes", "()I"⟩
abbrev cX3_envelope : ByteArray := prog_1_method_20_code
def yX3_envelope : MethodName := ⟨RX3, "envelope", "(II)I"⟩
abbrev cX3_letter : ByteArray := prog_1_method_21_code
def yX3_letter : MethodName := ⟨RX3, "letter", "(I)I"⟩
abbrev cX3_lastAnswer : ByteArray := prog_1_method_22_code
def yX3_lastAnswer : MethodName := ⟨RX3, "lastAnswer", "()I"⟩
abbrev cX3_count : ByteArray := prog_1_method_23_code
def yX3_count : MethodName := ⟨RX3, "count", "(I)I"⟩
abbrev cX3_deliveredShare : ByteArray := prog_1_method_24_code
def yX3_deliveredShare : MethodName := ⟨RX3, "deliveredShare", "()D"⟩
abbrev cX3_lostIfClosed : ByteArray := prog_1_method_25_code
def yX3_lostIfClosed : MethodName := ⟨RX3, "lostIfClosed", "(I)I"⟩
abbrev cX3_ticksTo : ByteArray := prog_1_method_26_code
def yX3_ticksTo : MethodName := ⟨RX3, "ticksTo", "(I)I"⟩
abbrev cX3_leastWork : ByteArray := prog_1_method_27_code
def yX3_leastWork : MethodName := ⟨RX3, "leastWork", "(I)I"⟩
abbrev cX3_undo : ByteArray := prog_1_method_32_code
def yX3_undo : MethodName := ⟨RX3, "undo", "()I"⟩
abbrev cX3_savedStates : ByteArray := prog_1_method_33_code
def yX3_savedStates : MethodName := ⟨RX3, "savedStates", "()I"⟩
abbrev cX3_digest : ByteArray := prog_1_method_34_code
def yX3_digest : MethodName := ⟨RX3, "digest", "()J"⟩
abbrev cX3_refuse : ByteArray := prog_1_method_35_code
def yX3_refuse : MethodName := ⟨RX3, "refuse", "(I)V"⟩
abbrev cX3_innFault : ByteArray := prog_1_method_36_code
def yX3_innFault : MethodName := ⟨RX3, "innFault", "(I)I"⟩
abbrev cX3_hallFault : ByteArray := prog_1_method_37_code
def yX3_hallFault : MethodName := ⟨RX3, "hallFault", "(I)I"⟩
abbrev cX3_roadFault : ByteArray := prog_1_method_38_code
def yX3_roadFault : MethodName := ⟨RX3, "roadFault", "(I)I"⟩
abbrev cX3_envelopeFault : ByteArray := prog_1_method_39_code
def yX3_envelopeFault : MethodName := ⟨RX3, "envelopeFault", "(I)I"⟩
abbrev cX3_innAndBodyFault : ByteArray := prog_1_method_40_code
def yX3_innAndBodyFault : MethodName := ⟨RX3, "innAndBodyFault", "(II)I"⟩
abbrev cX3_layFault : ByteArray := prog_1_method_41_code
def yX3_layFault : MethodName := ⟨RX3, "layFault", "(IIII)I"⟩
abbrev cX3_sendFault : ByteArray := prog_1_method_42_code
def yX3_sendFault : MethodName := ⟨RX3, "sendFault", "(II)I"⟩
abbrev cX3_answerFault : ByteArray := prog_1_method_43_code
def yX3_answerFault : MethodName := ⟨RX3, "answerFault", "(II)I"⟩
abbrev cX3_mixed : ByteArray := prog_1_method_48_code
def yX3_mixed : MethodName := ⟨RX3, "mixed", "(JI)J"⟩
abbrev cX3_mixedRow : ByteArray := prog_1_method_49_code
def yX3_mixedRow : MethodName := ⟨RX3, "mixedRow", "(J[I)J"⟩
abbrev cX3_mixedInns : ByteArray := prog_1_method_50_code
def yX3_mixedInns : MethodName := ⟨RX3, "mixedInns", "(J)J"⟩
abbrev cX3_mixedRoads : ByteArray := prog_1_method_51_code
def yX3_mixedRoads : MethodName := ⟨RX3, "mixedRoads", "(J)J"⟩
abbrev cX3_mixedEnvelopes : ByteArray := prog_1_method_52_code
def yX3_mixedEnvelopes : MethodName := ⟨RX3, "mixedEnvelopes", "(J)J"⟩
abbrev cX3_isBetween : ByteArray := prog_1_method_53_code
def yX3_isBetween : MethodName := ⟨RX3, "isBetween", "(III)Z"⟩
abbrev cX3_isBody : ByteArray := prog_1_method_54_code
def yX3_isBody : MethodName := ⟨RX3, "isBody", "(I)Z"⟩
abbrev cX3_covered : ByteArray := prog_1_method_55_code
def yX3_covered : MethodName := ⟨RX3, "covered", "(II)I"⟩
abbrev cX3_uncovered : ByteArray := prog_1_method_56_code
def yX3_uncovered : MethodName := ⟨RX3, "uncovered", "(II)I"⟩
abbrev cX3_read : ByteArray := prog_1_method_57_code
def yX3_read : MethodName := ⟨RX3, "read", "([II)I"⟩
abbrev cX3_write : ByteArray := prog_1_method_58_code
def yX3_write : MethodName := ⟨RX3, "write", "([III)V"⟩
abbrev cX3_copyRow : ByteArray := prog_1_method_59_code
def yX3_copyRow : MethodName := ⟨RX3, "copyRow", "([I[I)V"⟩
def RX4 : String := "NestedEnvelopesModel"
def TX4 : u_T := fun k => match k with
  | _ => ("", "", "", false)
def tyX4 : Nat → FieldType := fun k => match k with
  | _ => .int
abbrev wsX40 : List Cond := u_ws RX4 TX4 0
theorem nmX4 : ∀ a, a < 0 → ∀ b, b < 0 → a ≠ b → (TX4 a).2.1 ≠ (TX4 b).2.1 := by decide +kernel
theorem tyX4_ok : ∀ k, k < 0 → parseFieldDescriptor (TX4 k).2.2.1 = some (tyX4 k) := by decide +kernel
def RJx145de : String := "java/io/Serializable"
def TJx145de : u_T := fun k => match k with
  | _ => ("", "", "", false)
def tyJx145de : Nat → FieldType := fun k => match k with
  | _ => .int
abbrev wsJx145de0 : List Cond := u_ws RJx145de TJx145de 0
theorem nmJx145de : ∀ a, a < 0 → ∀ b, b < 0 → a ≠ b → (TJx145de a).2.1 ≠ (TJx145de b).2.1 := by decide +kernel
theorem tyJx145de_ok : ∀ k, k < 0 → parseFieldDescriptor (TJx145de k).2.2.1 = some (tyJx145de k) := by decide +kernel
def RJ9 : String := "java/lang/Math"
def TJ9 : u_T := fun k => match k with
  | _ => ("", "", "", false)
def tyJ9 : Nat → FieldType := fun k => match k with
  | _ => .int
abbrev wsJ90 : List Cond := u_ws RJ9 TJ9 0
theorem nmJ9 : ∀ a, a < 0 → ∀ b, b < 0 → a ≠ b → (TJ9 a).2.1 ≠ (TJ9 b).2.1 := by decide +kernel
theorem tyJ9_ok : ∀ k, k < 0 → parseFieldDescriptor (TJ9 k).2.2.1 = some (tyJ9 k) := by decide +kernel
abbrev cJ9_floorMod_7cf53 : ByteArray := prog_11_method_50_code
def yJ9_floorMod_7cf53 : MethodName := ⟨RJ9, "floorMod", "(II)I"⟩
abbrev cJ9_min_7cf53 : ByteArray := prog_11_method_69_code
def yJ9_min_7cf53 : MethodName := ⟨RJ9, "min", "(II)I"⟩
def RJ0 : String := "java/lang/String"
def TJ0 : u_T := fun k => match k with
  | _ => ("", "", "", false)
def tyJ0 : Nat → FieldType := fun k => match k with
  | _ => .int
abbrev wsJ00 : List Cond := u_ws RJ0 TJ0 0
theorem nmJ0 : ∀ a, a < 0 → ∀ b, b < 0 → a ≠ b → (TJ0 a).2.1 ≠ (TJ0 b).2.1 := by decide +kernel
theorem tyJ0_ok : ∀ k, k < 0 → parseFieldDescriptor (TJ0 k).2.2.1 = some (tyJ0 k) := by decide +kernel
def RJ10 : String := "java/lang/System"
def TJ10 : u_T := fun k => match k with
  | _ => ("", "", "", false)
def tyJ10 : Nat → FieldType := fun k => match k with
  | _ => .int
abbrev wsJ100 : List Cond := u_ws RJ10 TJ10 0
theorem nmJ10 : ∀ a, a < 0 → ∀ b, b < 0 → a ≠ b → (TJ10 a).2.1 ≠ (TJ10 b).2.1 := by decide +kernel
theorem tyJ10_ok : ∀ k, k < 0 → parseFieldDescriptor (TJ10 k).2.2.1 = some (tyJ10 k) := by decide +kernel
def RJ7 : String := "java/util/Arrays"
def TJ7 : u_T := fun k => match k with
  | _ => ("", "", "", false)
def tyJ7 : Nat → FieldType := fun k => match k with
  | _ => .int
abbrev wsJ70 : List Cond := u_ws RJ7 TJ7 0
theorem nmJ7 : ∀ a, a < 0 → ∀ b, b < 0 → a ≠ b → (TJ7 a).2.1 ≠ (TJ7 b).2.1 := by decide +kernel
theorem tyJ7_ok : ∀ k, k < 0 → parseFieldDescriptor (TJ7 k).2.2.1 = some (tyJ7 k) := by decide +kernel
abbrev cJ7_fill_53178 : ByteArray := prog_16_method_103_code
def yJ7_fill_53178 : MethodName := ⟨RJ7, "fill", "([II)V"⟩
def RL : String := "NestedEnvelopesLaw"
abbrev cL_cell : ByteArray := method_2_code
def yL_cell : MethodName := ⟨RL, "cell", "([II)I"⟩
abbrev cL_up : ByteArray := method_3_code
def yL_up : MethodName := ⟨RL, "up", "(II)I"⟩
abbrev cL_act : ByteArray := method_4_code
def yL_act : MethodName := ⟨RL, "act", "(LNestedEnvelopes;[III)I"⟩
abbrev cL_passes : ByteArray := method_5_code
def yL_passes : MethodName := ⟨RL, "passes", "(LNestedEnvelopes;[I)I"⟩
abbrev cL_holds : ByteArray := method_6_code
def yL_holds : MethodName := ⟨RL, "holds", "(LNestedEnvelopes;)Z"⟩
abbrev cL_isBrought : ByteArray := method_7_code
def yL_isBrought : MethodName := ⟨RL, "isBrought", "(LNestedEnvelopes;III)Z"⟩
abbrev cL_isCovered : ByteArray := method_8_code
def yL_isCovered : MethodName := ⟨RL, "isCovered", "(LNestedEnvelopes;II)Z"⟩
abbrev cL_law : ByteArray := code
def yL_law : MethodName := ⟨RL, "law", "([I)Z"⟩
abbrev vwCl : List vw_C := [(RX0, TX0, 2), (RX1, TX1, 3), (RX2, TX2, 12), (RX3, TX3, 3)]
end
section
theorem dX0_init_0 : decode cX0_init 0 = .ok (.aload_n 0, 1) := by decide +kernel
theorem dX0_init_1 : decode cX0_init 1 = .ok (.invokespecial 3, 3) := by decide +kernel
theorem dX0_init_4 : decode cX0_init 4 = .ok (.aload_n 0, 1) := by decide +kernel
theorem dX0_init_5 : decode cX0_init 5 = .ok (.bipush 60, 2) := by decide +kernel
theorem dX0_init_7 : decode cX0_init 7 = .ok (.newarray .int, 2) := by decide +kernel
theorem dX0_init_9 : decode cX0_init 9 = .ok (.putfield 9, 3) := by decide +kernel
theorem dX0_init_12 : decode cX0_init 12 = .ok (.return_, 1) := by decide +kernel
theorem dX1_init_0 : decode cX1_init 0 = .ok (.aload_n 0, 1) := by decide +kernel
theorem dX1_init_1 : decode cX1_init 1 = .ok (.invokespecial 3, 3) := by decide +kernel
theorem dX1_init_4 : decode cX1_init 4 = .ok (.aload_n 0, 1) := by decide +kernel
theorem dX1_init_5 : decode cX1_init 5 = .ok (.bipush 6, 2) := by decide +kernel
theorem dX1_init_7 : decode cX1_init 7 = .ok (.anewarray 9, 3) := by decide +kernel
theorem dX1_init_10 : decode cX1_init 10 = .ok (.putfield 11, 3) := by decide +kernel
theorem dX1_init_13 : decode cX1_init 13 = .ok (.iconst 0, 1) := by decide +kernel
theorem dX1_init_14 : decode cX1_init 14 = .ok (.istore_n 1, 1) := by decide +kernel
theorem dX1_init_15 : decode cX1_init 15 = .ok (.iload_n 1, 1) := by decide +kernel
theorem dX1_init_16 : decode cX1_init 16 = .ok (.aload_n 0, 1) := by decide +kernel
theorem dX1_init_17 : decode cX1_init 17 = .ok (.getfield 11, 3) := by decide +kernel
theorem dX1_init_20 : decode cX1_init 20 = .ok (.arraylength, 1) := by decide +kernel
theorem dX1_init_21 : decode cX1_init 21 = .ok (.if_icmp .ge 22, 3) := by decide +kernel
theorem dX1_init_24 : decode cX1_init 24 = .ok (.aload_n 0, 1) := by decide +kernel
theorem dX1_init_25 : decode cX1_init 25 = .ok (.getfield 11, 3) := by decide +kernel
theorem dX1_init_28 : decode cX1_init 28 = .ok (.iload_n 1, 1) := by decide +kernel
theorem dX1_init_29 : decode cX1_init 29 = .ok (.new 9, 3) := by decide +kernel
theorem dX1_init_32 : decode cX1_init 32 = .ok (.dup, 1) := by decide +kernel
theorem dX1_init_33 : decode cX1_init 33 = .ok (.invokespecial 17, 3) := by decide +kernel
theorem dX1_init_36 : decode cX1_init 36 = .ok (.aastore, 1) := by decide +kernel
theorem dX1_init_37 : decode cX1_init 37 = .ok (.iinc 1 1, 3) := by decide +kernel
theorem dX1_init_40 : decode cX1_init 40 = .ok (.goto (-25), 3) := by decide +kernel
theorem dX1_init_43 : decode cX1_init 43 = .ok (.return_, 1) := by decide +kernel
theorem dX1_keep_0 : decode cX1_keep 0 = .ok (.aload_n 0, 1) := by decide +kernel
theorem dX1_keep_1 : decode cX1_keep 1 = .ok (.aload_n 0, 1) := by decide +kernel
theorem dX1_keep_2 : decode cX1_keep 2 = .ok (.getfield 18, 3) := by decide +kernel
theorem dX1_keep_5 : decode cX1_keep 5 = .ok (.invokevirtual 22, 3) := by decide +kernel
theorem dX1_keep_8 : decode cX1_keep 8 = .ok (.astore_n 2, 1) := by decide +kernel
theorem dX1_keep_9 : decode cX1_keep 9 = .ok (.aload_n 2, 1) := by decide +kernel
theorem dX1_keep_10 : decode cX1_keep 10 = .ok (.ifnull 8, 3) := by decide +kernel
theorem dX1_keep_13 : decode cX1_keep 13 = .ok (.aload_n 2, 1) := by decide +kernel
theorem dX1_keep_14 : decode cX1_keep 14 = .ok (.aload_n 1, 1) := by decide +kernel
theorem dX1_keep_15 : decode cX1_keep 15 = .ok (.invokevirtual 26, 3) := by decide +kernel
theorem dX1_keep_18 : decode cX1_keep 18 = .ok (.aload_n 0, 1) := by decide +kernel
theorem dX1_keep_19 : decode cX1_keep 19 = .ok (.aload_n 0, 1) := by decide +kernel
theorem dX1_keep_20 : decode cX1_keep 20 = .ok (.getfield 18, 3) := by decide +kernel
theorem dX1_keep_23 : decode cX1_keep 23 = .ok (.iconst 1, 1) := by decide +kernel
theorem dX1_keep_24 : decode cX1_keep 24 = .ok (.iadd, 1) := by decide +kernel
theorem dX1_keep_25 : decode cX1_keep 25 = .ok (.bipush 6, 2) := by decide +kernel
theorem dX1_keep_27 : decode cX1_keep 27 = .ok (.if_icmp .ge 12, 3) := by decide +kernel
theorem dX1_keep_30 : decode cX1_keep 30 = .ok (.aload_n 0, 1) := by decide +kernel
theorem dX1_keep_31 : decode cX1_keep 31 = .ok (.getfield 18, 3) := by decide +kernel
theorem dX1_keep_34 : decode cX1_keep 34 = .ok (.iconst 1, 1) := by decide +kernel
theorem dX1_keep_35 : decode cX1_keep 35 = .ok (.iadd, 1) := by decide +kernel
theorem dX1_keep_36 : decode cX1_keep 36 = .ok (.goto 4, 3) := by decide +kernel
theorem dX1_keep_39 : decode cX1_keep 39 = .ok (.iconst 0, 1) := by decide +kernel
theorem dX1_keep_40 : decode cX1_keep 40 = .ok (.putfield 18, 3) := by decide +kernel
theorem dX1_keep_43 : decode cX1_keep 43 = .ok (.aload_n 0, 1) := by decide +kernel
theorem dX1_keep_44 : decode cX1_keep 44 = .ok (.aload_n 0, 1) := by decide +kernel
theorem dX1_keep_45 : decode cX1_keep 45 = .ok (.getfield 30, 3) := by decide +kernel
theorem dX1_keep_48 : decode cX1_keep 48 = .ok (.iconst 1, 1) := by decide +kernel
theorem dX1_keep_49 : decode cX1_keep 49 = .ok (.iadd, 1) := by decide +kernel
theorem dX1_keep_50 : decode cX1_keep 50 = .ok (.bipush 6, 2) := by decide +kernel
theorem dX1_keep_52 : decode cX1_keep 52 = .ok (.invokestatic 33, 3) := by decide +kernel
theorem dX1_keep_55 : decode cX1_keep 55 = .ok (.putfield 30, 3) := by decide +kernel
theorem dX1_keep_58 : decode cX1_keep 58 = .ok (.return_, 1) := by decide +kernel
theorem dX1_giveBack_0 : decode cX1_giveBack 0 = .ok (.aload_n 0, 1) := by decide +kernel
theorem dX1_giveBack_1 : decode cX1_giveBack 1 = .ok (.aload_n 0, 1) := by decide +kernel
theorem dX1_giveBack_2 : decode cX1_giveBack 2 = .ok (.getfield 18, 3) := by decide +kernel
theorem dX1_giveBack_5 : decode cX1_giveBack 5 = .ok (.ifCond .le 12, 3) := by decide +kernel
theorem dX1_giveBack_8 : decode cX1_giveBack 8 = .ok (.aload_n 0, 1) := by decide +kernel
theorem dX1_giveBack_9 : decode cX1_giveBack 9 = .ok (.getfield 18, 3) := by decide +kernel
theorem dX1_giveBack_12 : decode cX1_giveBack 12 = .ok (.iconst 1, 1) := by decide +kernel
theorem dX1_giveBack_13 : decode cX1_giveBack 13 = .ok (.isub, 1) := by decide +kernel
theorem dX1_giveBack_14 : decode cX1_giveBack 14 = .ok (.goto 4, 3) := by decide +kernel
theorem dX1_giveBack_17 : decode cX1_giveBack 17 = .ok (.iconst 5, 1) := by decide +kernel
theorem dX1_giveBack_18 : decode cX1_giveBack 18 = .ok (.putfield 18, 3) := by decide +kernel
theorem dX1_giveBack_21 : decode cX1_giveBack 21 = .ok (.aload_n 0, 1) := by decide +kernel
theorem dX1_giveBack_22 : decode cX1_giveBack 22 = .ok (.dup, 1) := by decide +kernel
theorem dX1_giveBack_23 : decode cX1_giveBack 23 = .ok (.getfield 30, 3) := by decide +kernel
theorem dX1_giveBack_26 : decode cX1_giveBack 26 = .ok (.iconst 1, 1) := by decide +kernel
theorem dX1_giveBack_27 : decode cX1_giveBack 27 = .ok (.isub, 1) := by decide +kernel
theorem dX1_giveBack_28 : decode cX1_giveBack 28 = .ok (.putfield 30, 3) := by decide +kernel
theorem dX1_giveBack_31 : decode cX1_giveBack 31 = .ok (.aload_n 0, 1) := by decide +kernel
theorem dX1_giveBack_32 : decode cX1_giveBack 32 = .ok (.aload_n 0, 1) := by decide +kernel
theorem dX1_giveBack_33 : decode cX1_giveBack 33 = .ok (.getfield 18, 3) := by decide +kernel
theorem dX1_giveBack_36 : decode cX1_giveBack 36 = .ok (.invokevirtual 22, 3) := by decide +kernel
theorem dX1_giveBack_39 : decode cX1_giveBack 39 = .ok (.astore_n 2, 1) := by decide +kernel
theorem dX1_giveBack_40 : decode cX1_giveBack 40 = .ok (.aload_n 2, 1) := by decide +kernel
theorem dX1_giveBack_41 : decode cX1_giveBack 41 = .ok (.ifnull 8, 3) := by decide +kernel
theorem dX1_giveBack_44 : decode cX1_giveBack 44 = .ok (.aload_n 1, 1) := by decide +kernel
theorem dX1_giveBack_45 : decode cX1_giveBack 45 = .ok (.aload_n 2, 1) := by decide +kernel
theorem dX1_giveBack_46 : decode cX1_giveBack 46 = .ok (.invokevirtual 26, 3) := by decide +kernel
theorem dX1_giveBack_49 : decode cX1_giveBack 49 = .ok (.return_, 1) := by decide +kernel
theorem dX1_slotAt_0 : decode cX1_slotAt 0 = .ok (.iload_n 1, 1) := by decide +kernel
theorem dX1_slotAt_1 : decode cX1_slotAt 1 = .ok (.ifCond .lt 21, 3) := by decide +kernel
theorem dX1_slotAt_4 : decode cX1_slotAt 4 = .ok (.iload_n 1, 1) := by decide +kernel
theorem dX1_slotAt_5 : decode cX1_slotAt 5 = .ok (.aload_n 0, 1) := by decide +kernel
theorem dX1_slotAt_6 : decode cX1_slotAt 6 = .ok (.getfield 11, 3) := by decide +kernel
theorem dX1_slotAt_9 : decode cX1_slotAt 9 = .ok (.arraylength, 1) := by decide +kernel
theorem dX1_slotAt_10 : decode cX1_slotAt 10 = .ok (.if_icmp .ge 12, 3) := by decide +kernel
theorem dX1_slotAt_13 : decode cX1_slotAt 13 = .ok (.aload_n 0, 1) := by decide +kernel
theorem dX1_slotAt_14 : decode cX1_slotAt 14 = .ok (.getfield 11, 3) := by decide +kernel
theorem dX1_slotAt_17 : decode cX1_slotAt 17 = .ok (.iload_n 1, 1) := by decide +kernel
theorem dX1_slotAt_18 : decode cX1_slotAt 18 = .ok (.aaload, 1) := by decide +kernel
theorem dX1_slotAt_19 : decode cX1_slotAt 19 = .ok (.goto 4, 3) := by decide +kernel
theorem dX1_slotAt_22 : decode cX1_slotAt 22 = .ok (.aconst_null, 1) := by decide +kernel
theorem dX1_slotAt_23 : decode cX1_slotAt 23 = .ok (.areturn, 1) := by decide +kernel
theorem dX2_init_0 : decode cX2_init 0 = .ok (.aload_n 0, 1) := by decide +kernel
theorem dX2_init_1 : decode cX2_init 1 = .ok (.invokespecial 3, 3) := by decide +kernel
theorem dX2_init_4 : decode cX2_init 4 = .ok (.aload_n 0, 1) := by decide +kernel
theorem dX2_init_5 : decode cX2_init 5 = .ok (.sipush 255, 3) := by decide +kernel
theorem dX2_init_8 : decode cX2_init 8 = .ok (.putfield 9, 3) := by decide +kernel
theorem dX2_init_11 : decode cX2_init 11 = .ok (.aload_n 0, 1) := by decide +kernel
theorem dX2_init_12 : decode cX2_init 12 = .ok (.bipush 8, 2) := by decide +kernel
theorem dX2_init_14 : decode cX2_init 14 = .ok (.newarray .int, 2) := by decide +kernel
theorem dX2_init_16 : decode cX2_init 16 = .ok (.putfield 15, 3) := by decide +kernel
theorem dX2_init_19 : decode cX2_init 19 = .ok (.iconst 0, 1) := by decide +kernel
theorem dX2_init_20 : decode cX2_init 20 = .ok (.istore_n 1, 1) := by decide +kernel
theorem dX2_init_21 : decode cX2_init 21 = .ok (.iload_n 1, 1) := by decide +kernel
theorem dX2_init_22 : decode cX2_init 22 = .ok (.aload_n 0, 1) := by decide +kernel
theorem dX2_init_23 : decode cX2_init 23 = .ok (.getfield 15, 3) := by decide +kernel
theorem dX2_init_26 : decode cX2_init 26 = .ok (.arraylength, 1) := by decide +kernel
theorem dX2_init_27 : decode cX2_init 27 = .ok (.if_icmp .ge 22, 3) := by decide +kernel
theorem dX2_init_30 : decode cX2_init 30 = .ok (.aload_n 0, 1) := by decide +kernel
theorem dX2_init_31 : decode cX2_init 31 = .ok (.getfield 15, 3) := by decide +kernel
theorem dX2_init_34 : decode cX2_init 34 = .ok (.iload_n 1, 1) := by decide +kernel
theorem dX2_init_35 : decode cX2_init 35 = .ok (.sipush 1111, 3) := by decide +kernel
theorem dX2_init_38 : decode cX2_init 38 = .ok (.iload_n 1, 1) := by decide +kernel
theorem dX2_init_39 : decode cX2_init 39 = .ok (.iconst 1, 1) := by decide +kernel
theorem dX2_init_40 : decode cX2_init 40 = .ok (.iadd, 1) := by decide +kernel
theorem dX2_init_41 : decode cX2_init 41 = .ok (.imul, 1) := by decide +kernel
theorem dX2_init_42 : decode cX2_init 42 = .ok (.iastore, 1) := by decide +kernel
theorem dX2_init_43 : decode cX2_init 43 = .ok (.iinc 1 1, 3) := by decide +kernel
theorem dX2_init_46 : decode cX2_init 46 = .ok (.goto (-25), 3) := by decide +kernel
theorem dX2_init_49 : decode cX2_init 49 = .ok (.aload_n 0, 1) := by decide +kernel
theorem dX2_init_50 : decode cX2_init 50 = .ok (.bipush 18, 2) := by decide +kernel
theorem dX2_init_52 : decode cX2_init 52 = .ok (.newarray .int, 2) := by decide +kernel
theorem dX2_init_54 : decode cX2_init 54 = .ok (.putfield 19, 3) := by decide +kernel
theorem dX2_init_57 : decode cX2_init 57 = .ok (.aload_n 0, 1) := by decide +kernel
theorem dX2_init_58 : decode cX2_init 58 = .ok (.bipush 18, 2) := by decide +kernel
theorem dX2_init_60 : decode cX2_init 60 = .ok (.newarray .int, 2) := by decide +kernel
theorem dX2_init_62 : decode cX2_init 62 = .ok (.putfield 22, 3) := by decide +kernel
theorem dX2_init_65 : decode cX2_init 65 = .ok (.aload_n 0, 1) := by decide +kernel
theorem dX2_init_66 : decode cX2_init 66 = .ok (.bipush 6, 2) := by decide +kernel
theorem dX2_init_68 : decode cX2_init 68 = .ok (.newarray .int, 2) := by decide +kernel
theorem dX2_init_70 : decode cX2_init 70 = .ok (.putfield 25, 3) := by decide +kernel
theorem dX2_init_73 : decode cX2_init 73 = .ok (.aload_n 0, 1) := by decide +kernel
theorem dX2_init_74 : decode cX2_init 74 = .ok (.bipush 48, 2) := by decide +kernel
theorem dX2_init_76 : decode cX2_init 76 = .ok (.newarray .int, 2) := by decide +kernel
theorem dX2_init_78 : decode cX2_init 78 = .ok (.putfield 28, 3) := by decide +kernel
theorem dX2_init_81 : decode cX2_init 81 = .ok (.aload_n 0, 1) := by decide +kernel
theorem dX2_init_82 : decode cX2_init 82 = .ok (.iconst 4, 1) := by decide +kernel
theorem dX2_init_83 : decode cX2_init 83 = .ok (.newarray .int, 2) := by decide +kernel
theorem dX2_init_85 : decode cX2_init 85 = .ok (.putfield 31, 3) := by decide +kernel
theorem dX2_init_88 : decode cX2_init 88 = .ok (.aload_n 0, 1) := by decide +kernel
theorem dX2_init_89 : decode cX2_init 89 = .ok (.getfield 31, 3) := by decide +kernel
theorem dX2_init_92 : decode cX2_init 92 = .ok (.iconst (-1), 1) := by decide +kernel
theorem dX2_init_93 : decode cX2_init 93 = .ok (.invokestatic 34, 3) := by decide +kernel
theorem dX2_init_96 : decode cX2_init 96 = .ok (.aload_n 0, 1) := by decide +kernel
theorem dX2_init_97 : decode cX2_init 97 = .ok (.iconst 4, 1) := by decide +kernel
theorem dX2_init_98 : decode cX2_init 98 = .ok (.newarray .int, 2) := by decide +kernel
theorem dX2_init_100 : decode cX2_init 100 = .ok (.putfield 40, 3) := by decide +kernel
theorem dX2_init_103 : decode cX2_init 103 = .ok (.aload_n 0, 1) := by decide +kernel
theorem dX2_init_104 : decode cX2_init 104 = .ok (.getfield 40, 3) := by decide +kernel
theorem dX2_init_107 : decode cX2_init 107 = .ok (.iconst (-1), 1) := by decide +kernel
theorem dX2_init_108 : decode cX2_init 108 = .ok (.invokestatic 34, 3) := by decide +kernel
theorem dX2_init_111 : decode cX2_init 111 = .ok (.aload_n 0, 1) := by decide +kernel
theorem dX2_init_112 : decode cX2_init 112 = .ok (.iconst (-1), 1) := by decide +kernel
theorem dX2_init_113 : decode cX2_init 113 = .ok (.putfield 43, 3) := by decide +kernel
theorem dX2_init_116 : decode cX2_init 116 = .ok (.aload_n 0, 1) := by decide +kernel
theorem dX2_init_117 : decode cX2_init 117 = .ok (.iconst 5, 1) := by decide +kernel
theorem dX2_init_118 : decode cX2_init 118 = .ok (.newarray .int, 2) := by decide +kernel
theorem dX2_init_120 : decode cX2_init 120 = .ok (.putfield 46, 3) := by decide +kernel
theorem dX2_init_123 : decode cX2_init 123 = .ok (.return_, 1) := by decide +kernel
theorem dX2_become_0 : decode cX2_become 0 = .ok (.aload_n 0, 1) := by decide +kernel
theorem dX2_become_1 : decode cX2_become 1 = .ok (.aload_n 1, 1) := by decide +kernel
theorem dX2_become_2 : decode cX2_become 2 = .ok (.getfield 9, 3) := by decide +kernel
theorem dX2_become_5 : decode cX2_become 5 = .ok (.putfield 9, 3) := by decide +kernel
theorem dX2_become_8 : decode cX2_become 8 = .ok (.aload_n 1, 1) := by decide +kernel
theorem dX2_become_9 : decode cX2_become 9 = .ok (.getfield 15, 3) := by decide +kernel
theorem dX2_become_12 : decode cX2_become 12 = .ok (.aload_n 0, 1) := by decide +kernel
theorem dX2_become_13 : decode cX2_become 13 = .ok (.getfield 15, 3) := by decide +kernel
theorem dX2_become_16 : decode cX2_become 16 = .ok (.invokestatic 49, 3) := by decide +kernel
theorem dX2_become_19 : decode cX2_become 19 = .ok (.aload_n 0, 1) := by decide +kernel
theorem dX2_become_20 : decode cX2_become 20 = .ok (.aload_n 1, 1) := by decide +kernel
theorem dX2_become_21 : decode cX2_become 21 = .ok (.getfield 53, 3) := by decide +kernel
theorem dX2_become_24 : decode cX2_become 24 = .ok (.putfield 53, 3) := by decide +kernel
theorem dX2_become_27 : decode cX2_become 27 = .ok (.aload_n 1, 1) := by decide +kernel
theorem dX2_become_28 : decode cX2_become 28 = .ok (.getfield 19, 3) := by decide +kernel
theorem dX2_become_31 : decode cX2_become 31 = .ok (.aload_n 0, 1) := by decide +kernel
theorem dX2_become_32 : decode cX2_become 32 = .ok (.getfield 19, 3) := by decide +kernel
theorem dX2_become_35 : decode cX2_become 35 = .ok (.invokestatic 49, 3) := by decide +kernel
theorem dX2_become_38 : decode cX2_become 38 = .ok (.aload_n 1, 1) := by decide +kernel
theorem dX2_become_39 : decode cX2_become 39 = .ok (.getfield 22, 3) := by decide +kernel
theorem dX2_become_42 : decode cX2_become 42 = .ok (.aload_n 0, 1) := by decide +kernel
theorem dX2_become_43 : decode cX2_become 43 = .ok (.getfield 22, 3) := by decide +kernel
theorem dX2_become_46 : decode cX2_become 46 = .ok (.invokestatic 49, 3) := by decide +kernel
theorem dX2_become_49 : decode cX2_become 49 = .ok (.aload_n 1, 1) := by decide +kernel
theorem dX2_become_50 : decode cX2_become 50 = .ok (.getfield 25, 3) := by decide +kernel
theorem dX2_become_53 : decode cX2_become 53 = .ok (.aload_n 0, 1) := by decide +kernel
theorem dX2_become_54 : decode cX2_become 54 = .ok (.getfield 25, 3) := by decide +kernel
theorem dX2_become_57 : decode cX2_become 57 = .ok (.invokestatic 49, 3) := by decide +kernel
theorem dX2_become_60 : decode cX2_become 60 = .ok (.aload_n 0, 1) := by decide +kernel
theorem dX2_become_61 : decode cX2_become 61 = .ok (.aload_n 1, 1) := by decide +kernel
theorem dX2_become_62 : decode cX2_become 62 = .ok (.getfield 56, 3) := by decide +kernel
theorem dX2_become_65 : decode cX2_become 65 = .ok (.putfield 56, 3) := by decide +kernel
theorem dX2_become_68 : decode cX2_become 68 = .ok (.aload_n 1, 1) := by decide +kernel
theorem dX2_become_69 : decode cX2_become 69 = .ok (.getfield 28, 3) := by decide +kernel
theorem dX2_become_72 : decode cX2_become 72 = .ok (.aload_n 0, 1) := by decide +kernel
theorem dX2_become_73 : decode cX2_become 73 = .ok (.getfield 28, 3) := by decide +kernel
theorem dX2_become_76 : decode cX2_become 76 = .ok (.invokestatic 49, 3) := by decide +kernel
theorem dX2_become_79 : decode cX2_become 79 = .ok (.aload_n 1, 1) := by decide +kernel
theorem dX2_become_80 : decode cX2_become 80 = .ok (.getfield 31, 3) := by decide +kernel
theorem dX2_become_83 : decode cX2_become 83 = .ok (.aload_n 0, 1) := by decide +kernel
theorem dX2_become_84 : decode cX2_become 84 = .ok (.getfield 31, 3) := by decide +kernel
theorem dX2_become_87 : decode cX2_become 87 = .ok (.invokestatic 49, 3) := by decide +kernel
theorem dX2_become_90 : decode cX2_become 90 = .ok (.aload_n 1, 1) := by decide +kernel
theorem dX2_become_91 : decode cX2_become 91 = .ok (.getfield 40, 3) := by decide +kernel
theorem dX2_become_94 : decode cX2_become 94 = .ok (.aload_n 0, 1) := by decide +kernel
theorem dX2_become_95 : decode cX2_become 95 = .ok (.getfield 40, 3) := by decide +kernel
theorem dX2_become_98 : decode cX2_become 98 = .ok (.invokestatic 49, 3) := by decide +kernel
theorem dX2_become_101 : decode cX2_become 101 = .ok (.aload_n 0, 1) := by decide +kernel
theorem dX2_become_102 : decode cX2_become 102 = .ok (.aload_n 1, 1) := by decide +kernel
theorem dX2_become_103 : decode cX2_become 103 = .ok (.getfield 43, 3) := by decide +kernel
theorem dX2_become_106 : decode cX2_become 106 = .ok (.putfield 43, 3) := by decide +kernel
theorem dX2_become_109 : decode cX2_become 109 = .ok (.aload_n 1, 1) := by decide +kernel
theorem dX2_become_110 : decode cX2_become 110 = .ok (.getfield 46, 3) := by decide +kernel
theorem dX2_become_113 : decode cX2_become 113 = .ok (.aload_n 0, 1) := by decide +kernel
theorem dX2_become_114 : decode cX2_become 114 = .ok (.getfield 46, 3) := by decide +kernel
theorem dX2_become_117 : decode cX2_become 117 = .ok (.invokestatic 49, 3) := by decide +kernel
theorem dX2_become_120 : decode cX2_become 120 = .ok (.return_, 1) := by decide +kernel
theorem dX2_hasOpen_0 : decode cX2_hasOpen 0 = .ok (.aload_n 0, 1) := by decide +kernel
theorem dX2_hasOpen_1 : decode cX2_hasOpen 1 = .ok (.getfield 9, 3) := by decide +kernel
theorem dX2_hasOpen_4 : decode cX2_hasOpen 4 = .ok (.iload_n 1, 1) := by decide +kernel
theorem dX2_hasOpen_5 : decode cX2_hasOpen 5 = .ok (.invokestatic 59, 3) := by decide +kernel
theorem dX2_hasOpen_8 : decode cX2_hasOpen 8 = .ok (.ireturn, 1) := by decide +kernel
theorem dX2_turn_0 : decode cX2_turn 0 = .ok (.iconst 1, 1) := by decide +kernel
theorem dX2_turn_1 : decode cX2_turn 1 = .ok (.iload_n 1, 1) := by decide +kernel
theorem dX2_turn_2 : decode cX2_turn 2 = .ok (.ishl, 1) := by decide +kernel
theorem dX2_turn_3 : decode cX2_turn 3 = .ok (.istore_n 3, 1) := by decide +kernel
theorem dX2_turn_4 : decode cX2_turn 4 = .ok (.aload_n 0, 1) := by decide +kernel
theorem dX2_turn_5 : decode cX2_turn 5 = .ok (.iload_n 2, 1) := by decide +kernel
theorem dX2_turn_6 : decode cX2_turn 6 = .ok (.ifCond .eq 12, 3) := by decide +kernel
theorem dX2_turn_9 : decode cX2_turn 9 = .ok (.aload_n 0, 1) := by decide +kernel
theorem dX2_turn_10 : decode cX2_turn 10 = .ok (.getfield 9, 3) := by decide +kernel
theorem dX2_turn_13 : decode cX2_turn 13 = .ok (.iload_n 3, 1) := by decide +kernel
theorem dX2_turn_14 : decode cX2_turn 14 = .ok (.ior, 1) := by decide +kernel
theorem dX2_turn_15 : decode cX2_turn 15 = .ok (.goto 11, 3) := by decide +kernel
theorem dX2_turn_18 : decode cX2_turn 18 = .ok (.aload_n 0, 1) := by decide +kernel
theorem dX2_turn_19 : decode cX2_turn 19 = .ok (.getfield 9, 3) := by decide +kernel
theorem dX2_turn_22 : decode cX2_turn 22 = .ok (.iload_n 3, 1) := by decide +kernel
theorem dX2_turn_23 : decode cX2_turn 23 = .ok (.iconst (-1), 1) := by decide +kernel
theorem dX2_turn_24 : decode cX2_turn 24 = .ok (.ixor, 1) := by decide +kernel
theorem dX2_turn_25 : decode cX2_turn 25 = .ok (.iand, 1) := by decide +kernel
theorem dX2_turn_26 : decode cX2_turn 26 = .ok (.putfield 9, 3) := by decide +kernel
theorem dX2_turn_29 : decode cX2_turn 29 = .ok (.return_, 1) := by decide +kernel
theorem dX2_isInMask_0 : decode cX2_isInMask 0 = .ok (.iload_n 0, 1) := by decide +kernel
theorem dX2_isInMask_1 : decode cX2_isInMask 1 = .ok (.iload_n 1, 1) := by decide +kernel
theorem dX2_isInMask_2 : decode cX2_isInMask 2 = .ok (.ishr, 1) := by decide +kernel
theorem dX2_isInMask_3 : decode cX2_isInMask 3 = .ok (.iconst 1, 1) := by decide +kernel
theorem dX2_isInMask_4 : decode cX2_isInMask 4 = .ok (.iand, 1) := by decide +kernel
theorem dX2_isInMask_5 : decode cX2_isInMask 5 = .ok (.ifCond .eq 7, 3) := by decide +kernel
theorem dX2_isInMask_8 : decode cX2_isInMask 8 = .ok (.iconst 1, 1) := by decide +kernel
theorem dX2_isInMask_9 : decode cX2_isInMask 9 = .ok (.goto 4, 3) := by decide +kernel
theorem dX2_isInMask_12 : decode cX2_isInMask 12 = .ok (.iconst 0, 1) := by decide +kernel
theorem dX2_isInMask_13 : decode cX2_isInMask 13 = .ok (.ireturn, 1) := by decide +kernel
theorem dX2_addRoad_0 : decode cX2_addRoad 0 = .ok (.aload_n 0, 1) := by decide +kernel
theorem dX2_addRoad_1 : decode cX2_addRoad 1 = .ok (.getfield 53, 3) := by decide +kernel
theorem dX2_addRoad_4 : decode cX2_addRoad 4 = .ok (.istore 5, 2) := by decide +kernel
theorem dX2_addRoad_6 : decode cX2_addRoad 6 = .ok (.aload_n 0, 1) := by decide +kernel
theorem dX2_addRoad_7 : decode cX2_addRoad 7 = .ok (.iload 5, 2) := by decide +kernel
theorem dX2_addRoad_9 : decode cX2_addRoad 9 = .ok (.iconst 1, 1) := by decide +kernel
theorem dX2_addRoad_10 : decode cX2_addRoad 10 = .ok (.iload_n 1, 1) := by decide +kernel
theorem dX2_addRoad_11 : decode cX2_addRoad 11 = .ok (.invokevirtual 63, 3) := by decide +kernel
theorem dX2_addRoad_14 : decode cX2_addRoad 14 = .ok (.aload_n 0, 1) := by decide +kernel
theorem dX2_addRoad_15 : decode cX2_addRoad 15 = .ok (.iload 5, 2) := by decide +kernel
theorem dX2_addRoad_17 : decode cX2_addRoad 17 = .ok (.iconst 2, 1) := by decide +kernel
theorem dX2_addRoad_18 : decode cX2_addRoad 18 = .ok (.iload_n 2, 1) := by decide +kernel
theorem dX2_addRoad_19 : decode cX2_addRoad 19 = .ok (.invokevirtual 63, 3) := by decide +kernel
theorem dX2_addRoad_22 : decode cX2_addRoad 22 = .ok (.aload_n 0, 1) := by decide +kernel
theorem dX2_addRoad_23 : decode cX2_addRoad 23 = .ok (.iload 5, 2) := by decide +kernel
theorem dX2_addRoad_25 : decode cX2_addRoad 25 = .ok (.iconst 3, 1) := by decide +kernel
theorem dX2_addRoad_26 : decode cX2_addRoad 26 = .ok (.iload_n 3, 1) := by decide +kernel
theorem dX2_addRoad_27 : decode cX2_addRoad 27 = .ok (.invokevirtual 63, 3) := by decide +kernel
theorem dX2_addRoad_30 : decode cX2_addRoad 30 = .ok (.aload_n 0, 1) := by decide +kernel
theorem dX2_addRoad_31 : decode cX2_addRoad 31 = .ok (.getfield 25, 3) := by decide +kernel
theorem dX2_addRoad_34 : decode cX2_addRoad 34 = .ok (.iload 5, 2) := by decide +kernel
theorem dX2_addRoad_36 : decode cX2_addRoad 36 = .ok (.iload 4, 2) := by decide +kernel
theorem dX2_addRoad_38 : decode cX2_addRoad 38 = .ok (.invokestatic 67, 3) := by decide +kernel
theorem dX2_addRoad_41 : decode cX2_addRoad 41 = .ok (.aload_n 0, 1) := by decide +kernel
theorem dX2_addRoad_42 : decode cX2_addRoad 42 = .ok (.dup, 1) := by decide +kernel
theorem dX2_addRoad_43 : decode cX2_addRoad 43 = .ok (.getfield 53, 3) := by decide +kernel
theorem dX2_addRoad_46 : decode cX2_addRoad 46 = .ok (.iconst 1, 1) := by decide +kernel
theorem dX2_addRoad_47 : decode cX2_addRoad 47 = .ok (.iadd, 1) := by decide +kernel
theorem dX2_addRoad_48 : decode cX2_addRoad 48 = .ok (.putfield 53, 3) := by decide +kernel
theorem dX2_addRoad_51 : decode cX2_addRoad 51 = .ok (.iload 5, 2) := by decide +kernel
theorem dX2_addRoad_53 : decode cX2_addRoad 53 = .ok (.ireturn, 1) := by decide +kernel
theorem dX2_putInn_0 : decode cX2_putInn 0 = .ok (.aload_n 0, 1) := by decide +kernel
theorem dX2_putInn_1 : decode cX2_putInn 1 = .ok (.getfield 19, 3) := by decide +kernel
theorem dX2_putInn_4 : decode cX2_putInn 4 = .ok (.iconst 3, 1) := by decide +kernel
theorem dX2_putInn_5 : decode cX2_putInn 5 = .ok (.iload_n 1, 1) := by decide +kernel
theorem dX2_putInn_6 : decode cX2_putInn 6 = .ok (.imul, 1) := by decide +kernel
theorem dX2_putInn_7 : decode cX2_putInn 7 = .ok (.iload_n 2, 1) := by decide +kernel
theorem dX2_putInn_8 : decode cX2_putInn 8 = .ok (.iadd, 1) := by decide +kernel
theorem dX2_putInn_9 : decode cX2_putInn 9 = .ok (.iconst 1, 1) := by decide +kernel
theorem dX2_putInn_10 : decode cX2_putInn 10 = .ok (.isub, 1) := by decide +kernel
theorem dX2_putInn_11 : decode cX2_putInn 11 = .ok (.iload_n 3, 1) := by decide +kernel
theorem dX2_putInn_12 : decode cX2_putInn 12 = .ok (.invokestatic 67, 3) := by decide +kernel
theorem dX2_putInn_15 : decode cX2_putInn 15 = .ok (.aload_n 0, 1) := by decide +kernel
theorem dX2_putInn_16 : decode cX2_putInn 16 = .ok (.getfield 22, 3) := by decide +kernel
theorem dX2_putInn_19 : decode cX2_putInn 19 = .ok (.iconst 3, 1) := by decide +kernel
theorem dX2_putInn_20 : decode cX2_putInn 20 = .ok (.iload_n 1, 1) := by decide +kernel
theorem dX2_putInn_21 : decode cX2_putInn 21 = .ok (.imul, 1) := by decide +kernel
theorem dX2_putInn_22 : decode cX2_putInn 22 = .ok (.iload_n 2, 1) := by decide +kernel
theorem dX2_putInn_23 : decode cX2_putInn 23 = .ok (.iadd, 1) := by decide +kernel
theorem dX2_putInn_24 : decode cX2_putInn 24 = .ok (.iconst 1, 1) := by decide +kernel
theorem dX2_putInn_25 : decode cX2_putInn 25 = .ok (.isub, 1) := by decide +kernel
theorem dX2_putInn_26 : decode cX2_putInn 26 = .ok (.aload_n 0, 1) := by decide +kernel
theorem dX2_putInn_27 : decode cX2_putInn 27 = .ok (.getfield 15, 3) := by decide +kernel
theorem dX2_putInn_30 : decode cX2_putInn 30 = .ok (.iload_n 3, 1) := by decide +kernel
theorem dX2_putInn_31 : decode cX2_putInn 31 = .ok (.invokestatic 71, 3) := by decide +kernel
theorem dX2_putInn_34 : decode cX2_putInn 34 = .ok (.invokestatic 67, 3) := by decide +kernel
theorem dX2_putInn_37 : decode cX2_putInn 37 = .ok (.return_, 1) := by decide +kernel
theorem dX2_removeLastRoad_0 : decode cX2_removeLastRoad 0 = .ok (.aload_n 0, 1) := by decide +kernel
theorem dX2_removeLastRoad_1 : decode cX2_removeLastRoad 1 = .ok (.dup, 1) := by decide +kernel
theorem dX2_removeLastRoad_2 : decode cX2_removeLastRoad 2 = .ok (.getfield 53, 3) := by decide +kernel
theorem dX2_removeLastRoad_5 : decode cX2_removeLastRoad 5 = .ok (.iconst 1, 1) := by decide +kernel
theorem dX2_removeLastRoad_6 : decode cX2_removeLastRoad 6 = .ok (.isub, 1) := by decide +kernel
theorem dX2_removeLastRoad_7 : decode cX2_removeLastRoad 7 = .ok (.putfield 53, 3) := by decide +kernel
theorem dX2_removeLastRoad_10 : decode cX2_removeLastRoad 10 = .ok (.iconst 0, 1) := by decide +kernel
theorem dX2_removeLastRoad_11 : decode cX2_removeLastRoad 11 = .ok (.istore_n 1, 1) := by decide +kernel
theorem dX2_removeLastRoad_12 : decode cX2_removeLastRoad 12 = .ok (.iload_n 1, 1) := by decide +kernel
theorem dX2_removeLastRoad_13 : decode cX2_removeLastRoad 13 = .ok (.iconst 4, 1) := by decide +kernel
theorem dX2_removeLastRoad_14 : decode cX2_removeLastRoad 14 = .ok (.if_icmp .ge 33, 3) := by decide +kernel
theorem dX2_removeLastRoad_17 : decode cX2_removeLastRoad 17 = .ok (.aload_n 0, 1) := by decide +kernel
theorem dX2_removeLastRoad_18 : decode cX2_removeLastRoad 18 = .ok (.getfield 40, 3) := by decide +kernel
theorem dX2_removeLastRoad_21 : decode cX2_removeLastRoad 21 = .ok (.iload_n 1, 1) := by decide +kernel
theorem dX2_removeLastRoad_22 : decode cX2_removeLastRoad 22 = .ok (.invokestatic 71, 3) := by decide +kernel
theorem dX2_removeLastRoad_25 : decode cX2_removeLastRoad 25 = .ok (.aload_n 0, 1) := by decide +kernel
theorem dX2_removeLastRoad_26 : decode cX2_removeLastRoad 26 = .ok (.getfield 53, 3) := by decide +kernel
theorem dX2_removeLastRoad_29 : decode cX2_removeLastRoad 29 = .ok (.if_icmp .ne 12, 3) := by decide +kernel
theorem dX2_removeLastRoad_32 : decode cX2_removeLastRoad 32 = .ok (.aload_n 0, 1) := by decide +kernel
theorem dX2_removeLastRoad_33 : decode cX2_removeLastRoad 33 = .ok (.getfield 40, 3) := by decide +kernel
theorem dX2_removeLastRoad_36 : decode cX2_removeLastRoad 36 = .ok (.iload_n 1, 1) := by decide +kernel
theorem dX2_removeLastRoad_37 : decode cX2_removeLastRoad 37 = .ok (.iconst (-1), 1) := by decide +kernel
theorem dX2_removeLastRoad_38 : decode cX2_removeLastRoad 38 = .ok (.invokestatic 67, 3) := by decide +kernel
theorem dX2_removeLastRoad_41 : decode cX2_removeLastRoad 41 = .ok (.iinc 1 1, 3) := by decide +kernel
theorem dX2_removeLastRoad_44 : decode cX2_removeLastRoad 44 = .ok (.goto (-32), 3) := by decide +kernel
theorem dX2_removeLastRoad_47 : decode cX2_removeLastRoad 47 = .ok (.return_, 1) := by decide +kernel
theorem dX2_isUsed_0 : decode cX2_isUsed 0 = .ok (.iconst 0, 1) := by decide +kernel
theorem dX2_isUsed_1 : decode cX2_isUsed 1 = .ok (.istore_n 2, 1) := by decide +kernel
theorem dX2_isUsed_2 : decode cX2_isUsed 2 = .ok (.iload_n 2, 1) := by decide +kernel
theorem dX2_isUsed_3 : decode cX2_isUsed 3 = .ok (.aload_n 0, 1) := by decide +kernel
theorem dX2_isUsed_4 : decode cX2_isUsed 4 = .ok (.getfield 56, 3) := by decide +kernel
theorem dX2_isUsed_7 : decode cX2_isUsed 7 = .ok (.if_icmp .ge 21, 3) := by decide +kernel
theorem dX2_isUsed_10 : decode cX2_isUsed 10 = .ok (.aload_n 0, 1) := by decide +kernel
theorem dX2_isUsed_11 : decode cX2_isUsed 11 = .ok (.iload_n 2, 1) := by decide +kernel
theorem dX2_isUsed_12 : decode cX2_isUsed 12 = .ok (.iconst 0, 1) := by decide +kernel
theorem dX2_isUsed_13 : decode cX2_isUsed 13 = .ok (.invokevirtual 75, 3) := by decide +kernel
theorem dX2_isUsed_16 : decode cX2_isUsed 16 = .ok (.iload_n 1, 1) := by decide +kernel
theorem dX2_isUsed_17 : decode cX2_isUsed 17 = .ok (.if_icmp .ne 5, 3) := by decide +kernel
theorem dX2_isUsed_20 : decode cX2_isUsed 20 = .ok (.iconst 1, 1) := by decide +kernel
theorem dX2_isUsed_21 : decode cX2_isUsed 21 = .ok (.ireturn, 1) := by decide +kernel
theorem dX2_isUsed_22 : decode cX2_isUsed 22 = .ok (.iinc 2 1, 3) := by decide +kernel
theorem dX2_isUsed_25 : decode cX2_isUsed 25 = .ok (.goto (-23), 3) := by decide +kernel
theorem dX2_isUsed_28 : decode cX2_isUsed 28 = .ok (.iconst 0, 1) := by decide +kernel
theorem dX2_isUsed_29 : decode cX2_isUsed 29 = .ok (.ireturn, 1) := by decide +kernel
theorem dX2_innAt_0 : decode cX2_innAt 0 = .ok (.aload_n 0, 1) := by decide +kernel
theorem dX2_innAt_1 : decode cX2_innAt 1 = .ok (.getfield 19, 3) := by decide +kernel
theorem dX2_innAt_4 : decode cX2_innAt 4 = .ok (.iconst 3, 1) := by decide +kernel
theorem dX2_innAt_5 : decode cX2_innAt 5 = .ok (.iload_n 1, 1) := by decide +kernel
theorem dX2_innAt_6 : decode cX2_innAt 6 = .ok (.imul, 1) := by decide +kernel
theorem dX2_innAt_7 : decode cX2_innAt 7 = .ok (.iload_n 2, 1) := by decide +kernel
theorem dX2_innAt_8 : decode cX2_innAt 8 = .ok (.iadd, 1) := by decide +kernel
theorem dX2_innAt_9 : decode cX2_innAt 9 = .ok (.iconst 1, 1) := by decide +kernel
theorem dX2_innAt_10 : decode cX2_innAt 10 = .ok (.isub, 1) := by decide +kernel
theorem dX2_innAt_11 : decode cX2_innAt 11 = .ok (.invokestatic 71, 3) := by decide +kernel
theorem dX2_innAt_14 : decode cX2_innAt 14 = .ok (.ireturn, 1) := by decide +kernel
theorem dX2_keyAt_0 : decode cX2_keyAt 0 = .ok (.aload_n 0, 1) := by decide +kernel
theorem dX2_keyAt_1 : decode cX2_keyAt 1 = .ok (.getfield 22, 3) := by decide +kernel
theorem dX2_keyAt_4 : decode cX2_keyAt 4 = .ok (.iconst 3, 1) := by decide +kernel
theorem dX2_keyAt_5 : decode cX2_keyAt 5 = .ok (.iload_n 1, 1) := by decide +kernel
theorem dX2_keyAt_6 : decode cX2_keyAt 6 = .ok (.imul, 1) := by decide +kernel
theorem dX2_keyAt_7 : decode cX2_keyAt 7 = .ok (.iload_n 2, 1) := by decide +kernel
theorem dX2_keyAt_8 : decode cX2_keyAt 8 = .ok (.iadd, 1) := by decide +kernel
theorem dX2_keyAt_9 : decode cX2_keyAt 9 = .ok (.iconst 1, 1) := by decide +kernel
theorem dX2_keyAt_10 : decode cX2_keyAt 10 = .ok (.isub, 1) := by decide +kernel
theorem dX2_keyAt_11 : decode cX2_keyAt 11 = .ok (.invokestatic 71, 3) := by decide +kernel
theorem dX2_keyAt_14 : decode cX2_keyAt 14 = .ok (.ireturn, 1) := by decide +kernel
theorem dX2_placeOn_0 : decode cX2_placeOn 0 = .ok (.iconst 1, 1) := by decide +kernel
theorem dX2_placeOn_1 : decode cX2_placeOn 1 = .ok (.istore_n 3, 1) := by decide +kernel
theorem dX2_placeOn_2 : decode cX2_placeOn 2 = .ok (.iload_n 3, 1) := by decide +kernel
theorem dX2_placeOn_3 : decode cX2_placeOn 3 = .ok (.iconst 3, 1) := by decide +kernel
theorem dX2_placeOn_4 : decode cX2_placeOn 4 = .ok (.if_icmp .gt 21, 3) := by decide +kernel
theorem dX2_placeOn_7 : decode cX2_placeOn 7 = .ok (.aload_n 0, 1) := by decide +kernel
theorem dX2_placeOn_8 : decode cX2_placeOn 8 = .ok (.iload_n 1, 1) := by decide +kernel
theorem dX2_placeOn_9 : decode cX2_placeOn 9 = .ok (.iload_n 3, 1) := by decide +kernel
theorem dX2_placeOn_10 : decode cX2_placeOn 10 = .ok (.invokevirtual 79, 3) := by decide +kernel
theorem dX2_placeOn_13 : decode cX2_placeOn 13 = .ok (.iload_n 2, 1) := by decide +kernel
theorem dX2_placeOn_14 : decode cX2_placeOn 14 = .ok (.if_icmp .ne 5, 3) := by decide +kernel
theorem dX2_placeOn_17 : decode cX2_placeOn 17 = .ok (.iload_n 3, 1) := by decide +kernel
theorem dX2_placeOn_18 : decode cX2_placeOn 18 = .ok (.ireturn, 1) := by decide +kernel
theorem dX2_placeOn_19 : decode cX2_placeOn 19 = .ok (.iinc 3 1, 3) := by decide +kernel
theorem dX2_placeOn_22 : decode cX2_placeOn 22 = .ok (.goto (-20), 3) := by decide +kernel
theorem dX2_placeOn_25 : decode cX2_placeOn 25 = .ok (.iconst (-1), 1) := by decide +kernel
theorem dX2_placeOn_26 : decode cX2_placeOn 26 = .ok (.ireturn, 1) := by decide +kernel
theorem dX2_allOpenOn_0 : decode cX2_allOpenOn 0 = .ok (.iconst 1, 1) := by decide +kernel
theorem dX2_allOpenOn_1 : decode cX2_allOpenOn 1 = .ok (.istore_n 2, 1) := by decide +kernel
theorem dX2_allOpenOn_2 : decode cX2_allOpenOn 2 = .ok (.iload_n 2, 1) := by decide +kernel
theorem dX2_allOpenOn_3 : decode cX2_allOpenOn 3 = .ok (.iconst 3, 1) := by decide +kernel
theorem dX2_allOpenOn_4 : decode cX2_allOpenOn 4 = .ok (.if_icmp .gt 24, 3) := by decide +kernel
theorem dX2_allOpenOn_7 : decode cX2_allOpenOn 7 = .ok (.aload_n 0, 1) := by decide +kernel
theorem dX2_allOpenOn_8 : decode cX2_allOpenOn 8 = .ok (.aload_n 0, 1) := by decide +kernel
theorem dX2_allOpenOn_9 : decode cX2_allOpenOn 9 = .ok (.iload_n 1, 1) := by decide +kernel
theorem dX2_allOpenOn_10 : decode cX2_allOpenOn 10 = .ok (.iload_n 2, 1) := by decide +kernel
theorem dX2_allOpenOn_11 : decode cX2_allOpenOn 11 = .ok (.invokevirtual 79, 3) := by decide +kernel
theorem dX2_allOpenOn_14 : decode cX2_allOpenOn 14 = .ok (.invokevirtual 82, 3) := by decide +kernel
theorem dX2_allOpenOn_17 : decode cX2_allOpenOn 17 = .ok (.ifCond .ne 5, 3) := by decide +kernel
theorem dX2_allOpenOn_20 : decode cX2_allOpenOn 20 = .ok (.iconst 0, 1) := by decide +kernel
theorem dX2_allOpenOn_21 : decode cX2_allOpenOn 21 = .ok (.ireturn, 1) := by decide +kernel
theorem dX2_allOpenOn_22 : decode cX2_allOpenOn 22 = .ok (.iinc 2 1, 3) := by decide +kernel
theorem dX2_allOpenOn_25 : decode cX2_allOpenOn 25 = .ok (.goto (-23), 3) := by decide +kernel
theorem dX2_allOpenOn_28 : decode cX2_allOpenOn 28 = .ok (.iconst 1, 1) := by decide +kernel
theorem dX2_allOpenOn_29 : decode cX2_allOpenOn 29 = .ok (.ireturn, 1) := by decide +kernel
theorem dX2_seenBeside_0 : decode cX2_seenBeside 0 = .ok (.aload_n 0, 1) := by decide +kernel
theorem dX2_seenBeside_1 : decode cX2_seenBeside 1 = .ok (.iload_n 2, 1) := by decide +kernel
theorem dX2_seenBeside_2 : decode cX2_seenBeside 2 = .ok (.iload_n 1, 1) := by decide +kernel
theorem dX2_seenBeside_3 : decode cX2_seenBeside 3 = .ok (.invokevirtual 86, 3) := by decide +kernel
theorem dX2_seenBeside_6 : decode cX2_seenBeside 6 = .ok (.istore 4, 2) := by decide +kernel
theorem dX2_seenBeside_8 : decode cX2_seenBeside 8 = .ok (.iload 4, 2) := by decide +kernel
theorem dX2_seenBeside_10 : decode cX2_seenBeside 10 = .ok (.iconst (-1), 1) := by decide +kernel
theorem dX2_seenBeside_11 : decode cX2_seenBeside 11 = .ok (.if_icmp .ne 5, 3) := by decide +kernel
theorem dX2_seenBeside_14 : decode cX2_seenBeside 14 = .ok (.iconst (-1), 1) := by decide +kernel
theorem dX2_seenBeside_15 : decode cX2_seenBeside 15 = .ok (.ireturn, 1) := by decide +kernel
theorem dX2_seenBeside_16 : decode cX2_seenBeside 16 = .ok (.iload_n 3, 1) := by decide +kernel
theorem dX2_seenBeside_17 : decode cX2_seenBeside 17 = .ok (.ifCond .ne 10, 3) := by decide +kernel
theorem dX2_seenBeside_20 : decode cX2_seenBeside 20 = .ok (.iload 4, 2) := by decide +kernel
theorem dX2_seenBeside_22 : decode cX2_seenBeside 22 = .ok (.iconst 1, 1) := by decide +kernel
theorem dX2_seenBeside_23 : decode cX2_seenBeside 23 = .ok (.isub, 1) := by decide +kernel
theorem dX2_seenBeside_24 : decode cX2_seenBeside 24 = .ok (.goto 7, 3) := by decide +kernel
theorem dX2_seenBeside_27 : decode cX2_seenBeside 27 = .ok (.iload 4, 2) := by decide +kernel
theorem dX2_seenBeside_29 : decode cX2_seenBeside 29 = .ok (.iconst 1, 1) := by decide +kernel
theorem dX2_seenBeside_30 : decode cX2_seenBeside 30 = .ok (.iadd, 1) := by decide +kernel
theorem dX2_seenBeside_31 : decode cX2_seenBeside 31 = .ok (.istore 5, 2) := by decide +kernel
theorem dX2_seenBeside_33 : decode cX2_seenBeside 33 = .ok (.iload 5, 2) := by decide +kernel
theorem dX2_seenBeside_35 : decode cX2_seenBeside 35 = .ok (.ifCond .ne 6, 3) := by decide +kernel
theorem dX2_seenBeside_38 : decode cX2_seenBeside 38 = .ok (.bipush 8, 2) := by decide +kernel
theorem dX2_seenBeside_40 : decode cX2_seenBeside 40 = .ok (.ireturn, 1) := by decide +kernel
theorem dX2_seenBeside_41 : decode cX2_seenBeside 41 = .ok (.iload 5, 2) := by decide +kernel
theorem dX2_seenBeside_43 : decode cX2_seenBeside 43 = .ok (.iconst 4, 1) := by decide +kernel
theorem dX2_seenBeside_44 : decode cX2_seenBeside 44 = .ok (.if_icmp .ne 15, 3) := by decide +kernel
theorem dX2_seenBeside_47 : decode cX2_seenBeside 47 = .ok (.bipush 10, 2) := by decide +kernel
theorem dX2_seenBeside_49 : decode cX2_seenBeside 49 = .ok (.aload_n 0, 1) := by decide +kernel
theorem dX2_seenBeside_50 : decode cX2_seenBeside 50 = .ok (.getfield 25, 3) := by decide +kernel
theorem dX2_seenBeside_53 : decode cX2_seenBeside 53 = .ok (.iload_n 2, 1) := by decide +kernel
theorem dX2_seenBeside_54 : decode cX2_seenBeside 54 = .ok (.invokestatic 71, 3) := by decide +kernel
theorem dX2_seenBeside_57 : decode cX2_seenBeside 57 = .ok (.iadd, 1) := by decide +kernel
theorem dX2_seenBeside_58 : decode cX2_seenBeside 58 = .ok (.ireturn, 1) := by decide +kernel
theorem dX2_seenBeside_59 : decode cX2_seenBeside 59 = .ok (.aload_n 0, 1) := by decide +kernel
theorem dX2_seenBeside_60 : decode cX2_seenBeside 60 = .ok (.iload_n 2, 1) := by decide +kernel
theorem dX2_seenBeside_61 : decode cX2_seenBeside 61 = .ok (.iload 5, 2) := by decide +kernel
theorem dX2_seenBeside_63 : decode cX2_seenBeside 63 = .ok (.invokevirtual 79, 3) := by decide +kernel
theorem dX2_seenBeside_66 : decode cX2_seenBeside 66 = .ok (.ireturn, 1) := by decide +kernel
theorem dX2_knownMask_0 : decode cX2_knownMask 0 = .ok (.iconst 0, 1) := by decide +kernel
theorem dX2_knownMask_1 : decode cX2_knownMask 1 = .ok (.istore_n 2, 1) := by decide +kernel
theorem dX2_knownMask_2 : decode cX2_knownMask 2 = .ok (.iconst 0, 1) := by decide +kernel
theorem dX2_knownMask_3 : decode cX2_knownMask 3 = .ok (.istore_n 3, 1) := by decide +kernel
theorem dX2_knownMask_4 : decode cX2_knownMask 4 = .ok (.iload_n 3, 1) := by decide +kernel
theorem dX2_knownMask_5 : decode cX2_knownMask 5 = .ok (.aload_n 0, 1) := by decide +kernel
theorem dX2_knownMask_6 : decode cX2_knownMask 6 = .ok (.getfield 53, 3) := by decide +kernel
theorem dX2_knownMask_9 : decode cX2_knownMask 9 = .ok (.if_icmp .ge 33, 3) := by decide +kernel
theorem dX2_knownMask_12 : decode cX2_knownMask 12 = .ok (.iload_n 2, 1) := by decide +kernel
theorem dX2_knownMask_13 : decode cX2_knownMask 13 = .ok (.aload_n 0, 1) := by decide +kernel
theorem dX2_knownMask_14 : decode cX2_knownMask 14 = .ok (.iload_n 1, 1) := by decide +kernel
theorem dX2_knownMask_15 : decode cX2_knownMask 15 = .ok (.iload_n 3, 1) := by decide +kernel
theorem dX2_knownMask_16 : decode cX2_knownMask 16 = .ok (.iconst 0, 1) := by decide +kernel
theorem dX2_knownMask_17 : decode cX2_knownMask 17 = .ok (.invokevirtual 89, 3) := by decide +kernel
theorem dX2_knownMask_20 : decode cX2_knownMask 20 = .ok (.invokestatic 93, 3) := by decide +kernel
theorem dX2_knownMask_23 : decode cX2_knownMask 23 = .ok (.aload_n 0, 1) := by decide +kernel
theorem dX2_knownMask_24 : decode cX2_knownMask 24 = .ok (.iload_n 1, 1) := by decide +kernel
theorem dX2_knownMask_25 : decode cX2_knownMask 25 = .ok (.iload_n 3, 1) := by decide +kernel
theorem dX2_knownMask_26 : decode cX2_knownMask 26 = .ok (.iconst 1, 1) := by decide +kernel
theorem dX2_knownMask_27 : decode cX2_knownMask 27 = .ok (.invokevirtual 89, 3) := by decide +kernel
theorem dX2_knownMask_30 : decode cX2_knownMask 30 = .ok (.invokestatic 93, 3) := by decide +kernel
theorem dX2_knownMask_33 : decode cX2_knownMask 33 = .ok (.ior, 1) := by decide +kernel
theorem dX2_knownMask_34 : decode cX2_knownMask 34 = .ok (.ior, 1) := by decide +kernel
theorem dX2_knownMask_35 : decode cX2_knownMask 35 = .ok (.istore_n 2, 1) := by decide +kernel
theorem dX2_knownMask_36 : decode cX2_knownMask 36 = .ok (.iinc 3 1, 3) := by decide +kernel
theorem dX2_knownMask_39 : decode cX2_knownMask 39 = .ok (.goto (-35), 3) := by decide +kernel
theorem dX2_knownMask_42 : decode cX2_knownMask 42 = .ok (.iload_n 2, 1) := by decide +kernel
theorem dX2_knownMask_43 : decode cX2_knownMask 43 = .ok (.ireturn, 1) := by decide +kernel
theorem dX2_innBit_0 : decode cX2_innBit 0 = .ok (.iload_n 0, 1) := by decide +kernel
theorem dX2_innBit_1 : decode cX2_innBit 1 = .ok (.iconst 0, 1) := by decide +kernel
theorem dX2_innBit_2 : decode cX2_innBit 2 = .ok (.bipush 7, 2) := by decide +kernel
theorem dX2_innBit_4 : decode cX2_innBit 4 = .ok (.invokestatic 97, 3) := by decide +kernel
theorem dX2_innBit_7 : decode cX2_innBit 7 = .ok (.ifCond .eq 9, 3) := by decide +kernel
theorem dX2_innBit_10 : decode cX2_innBit 10 = .ok (.iconst 1, 1) := by decide +kernel
theorem dX2_innBit_11 : decode cX2_innBit 11 = .ok (.iload_n 0, 1) := by decide +kernel
theorem dX2_innBit_12 : decode cX2_innBit 12 = .ok (.ishl, 1) := by decide +kernel
theorem dX2_innBit_13 : decode cX2_innBit 13 = .ok (.goto 4, 3) := by decide +kernel
theorem dX2_innBit_16 : decode cX2_innBit 16 = .ok (.iconst 0, 1) := by decide +kernel
theorem dX2_innBit_17 : decode cX2_innBit 17 = .ok (.ireturn, 1) := by decide +kernel
theorem dX2_roadsThrough_0 : decode cX2_roadsThrough 0 = .ok (.iconst 0, 1) := by decide +kernel
theorem dX2_roadsThrough_1 : decode cX2_roadsThrough 1 = .ok (.istore_n 2, 1) := by decide +kernel
theorem dX2_roadsThrough_2 : decode cX2_roadsThrough 2 = .ok (.iconst 0, 1) := by decide +kernel
theorem dX2_roadsThrough_3 : decode cX2_roadsThrough 3 = .ok (.istore_n 3, 1) := by decide +kernel
theorem dX2_roadsThrough_4 : decode cX2_roadsThrough 4 = .ok (.iload_n 3, 1) := by decide +kernel
theorem dX2_roadsThrough_5 : decode cX2_roadsThrough 5 = .ok (.aload_n 0, 1) := by decide +kernel
theorem dX2_roadsThrough_6 : decode cX2_roadsThrough 6 = .ok (.getfield 53, 3) := by decide +kernel
theorem dX2_roadsThrough_9 : decode cX2_roadsThrough 9 = .ok (.if_icmp .ge 22, 3) := by decide +kernel
theorem dX2_roadsThrough_12 : decode cX2_roadsThrough 12 = .ok (.aload_n 0, 1) := by decide +kernel
theorem dX2_roadsThrough_13 : decode cX2_roadsThrough 13 = .ok (.iload_n 3, 1) := by decide +kernel
theorem dX2_roadsThrough_14 : decode cX2_roadsThrough 14 = .ok (.iload_n 1, 1) := by decide +kernel
theorem dX2_roadsThrough_15 : decode cX2_roadsThrough 15 = .ok (.invokevirtual 86, 3) := by decide +kernel
theorem dX2_roadsThrough_18 : decode cX2_roadsThrough 18 = .ok (.iconst (-1), 1) := by decide +kernel
theorem dX2_roadsThrough_19 : decode cX2_roadsThrough 19 = .ok (.if_icmp .eq 6, 3) := by decide +kernel
theorem dX2_roadsThrough_22 : decode cX2_roadsThrough 22 = .ok (.iinc 2 1, 3) := by decide +kernel
theorem dX2_roadsThrough_25 : decode cX2_roadsThrough 25 = .ok (.iinc 3 1, 3) := by decide +kernel
theorem dX2_roadsThrough_28 : decode cX2_roadsThrough 28 = .ok (.goto (-24), 3) := by decide +kernel
theorem dX2_roadsThrough_31 : decode cX2_roadsThrough 31 = .ok (.iload_n 2, 1) := by decide +kernel
theorem dX2_roadsThrough_32 : decode cX2_roadsThrough 32 = .ok (.ireturn, 1) := by decide +kernel
theorem dX2_leastUsedInn_0 : decode cX2_leastUsedInn 0 = .ok (.iconst 0, 1) := by decide +kernel
theorem dX2_leastUsedInn_1 : decode cX2_leastUsedInn 1 = .ok (.istore_n 2, 1) := by decide +kernel
theorem dX2_leastUsedInn_2 : decode cX2_leastUsedInn 2 = .ok (.iconst 0, 1) := by decide +kernel
theorem dX2_leastUsedInn_3 : decode cX2_leastUsedInn 3 = .ok (.istore_n 3, 1) := by decide +kernel
theorem dX2_leastUsedInn_4 : decode cX2_leastUsedInn 4 = .ok (.iload_n 3, 1) := by decide +kernel
theorem dX2_leastUsedInn_5 : decode cX2_leastUsedInn 5 = .ok (.bipush 6, 2) := by decide +kernel
theorem dX2_leastUsedInn_7 : decode cX2_leastUsedInn 7 = .ok (.if_icmp .gt 55, 3) := by decide +kernel
theorem dX2_leastUsedInn_10 : decode cX2_leastUsedInn 10 = .ok (.iconst 0, 1) := by decide +kernel
theorem dX2_leastUsedInn_11 : decode cX2_leastUsedInn 11 = .ok (.istore 4, 2) := by decide +kernel
theorem dX2_leastUsedInn_13 : decode cX2_leastUsedInn 13 = .ok (.iload 4, 2) := by decide +kernel
theorem dX2_leastUsedInn_15 : decode cX2_leastUsedInn 15 = .ok (.bipush 8, 2) := by decide +kernel
theorem dX2_leastUsedInn_17 : decode cX2_leastUsedInn 17 = .ok (.if_icmp .ge 39, 3) := by decide +kernel
theorem dX2_leastUsedInn_20 : decode cX2_leastUsedInn 20 = .ok (.aload_n 0, 1) := by decide +kernel
theorem dX2_leastUsedInn_21 : decode cX2_leastUsedInn 21 = .ok (.iload 4, 2) := by decide +kernel
theorem dX2_leastUsedInn_23 : decode cX2_leastUsedInn 23 = .ok (.invokevirtual 82, 3) := by decide +kernel
theorem dX2_leastUsedInn_26 : decode cX2_leastUsedInn 26 = .ok (.ifCond .eq 24, 3) := by decide +kernel
theorem dX2_leastUsedInn_29 : decode cX2_leastUsedInn 29 = .ok (.aload_n 0, 1) := by decide +kernel
theorem dX2_leastUsedInn_30 : decode cX2_leastUsedInn 30 = .ok (.iload 4, 2) := by decide +kernel
theorem dX2_leastUsedInn_32 : decode cX2_leastUsedInn 32 = .ok (.invokevirtual 101, 3) := by decide +kernel
theorem dX2_leastUsedInn_35 : decode cX2_leastUsedInn 35 = .ok (.iload_n 3, 1) := by decide +kernel
theorem dX2_leastUsedInn_36 : decode cX2_leastUsedInn 36 = .ok (.if_icmp .ne 14, 3) := by decide +kernel
theorem dX2_leastUsedInn_39 : decode cX2_leastUsedInn 39 = .ok (.iinc 2 1, 3) := by decide +kernel
theorem dX2_leastUsedInn_42 : decode cX2_leastUsedInn 42 = .ok (.iload_n 2, 1) := by decide +kernel
theorem dX2_leastUsedInn_43 : decode cX2_leastUsedInn 43 = .ok (.iload_n 1, 1) := by decide +kernel
theorem dX2_leastUsedInn_44 : decode cX2_leastUsedInn 44 = .ok (.if_icmp .ne 6, 3) := by decide +kernel
theorem dX2_leastUsedInn_47 : decode cX2_leastUsedInn 47 = .ok (.iload 4, 2) := by decide +kernel
theorem dX2_leastUsedInn_49 : decode cX2_leastUsedInn 49 = .ok (.ireturn, 1) := by decide +kernel
theorem dX2_leastUsedInn_50 : decode cX2_leastUsedInn 50 = .ok (.iinc 4 1, 3) := by decide +kernel
theorem dX2_leastUsedInn_53 : decode cX2_leastUsedInn 53 = .ok (.goto (-40), 3) := by decide +kernel
theorem dX2_leastUsedInn_56 : decode cX2_leastUsedInn 56 = .ok (.iinc 3 1, 3) := by decide +kernel
theorem dX2_leastUsedInn_59 : decode cX2_leastUsedInn 59 = .ok (.goto (-55), 3) := by decide +kernel
theorem dX2_leastUsedInn_62 : decode cX2_leastUsedInn 62 = .ok (.iconst (-1), 1) := by decide +kernel
theorem dX2_leastUsedInn_63 : decode cX2_leastUsedInn 63 = .ok (.ireturn, 1) := by decide +kernel
theorem dX2_ofEnvelope_0 : decode cX2_ofEnvelope 0 = .ok (.aload_n 0, 1) := by decide +kernel
theorem dX2_ofEnvelope_1 : decode cX2_ofEnvelope 1 = .ok (.getfield 28, 3) := by decide +kernel
theorem dX2_ofEnvelope_4 : decode cX2_ofEnvelope 4 = .ok (.iconst 4, 1) := by decide +kernel
theorem dX2_ofEnvelope_5 : decode cX2_ofEnvelope 5 = .ok (.iload_n 1, 1) := by decide +kernel
theorem dX2_ofEnvelope_6 : decode cX2_ofEnvelope 6 = .ok (.imul, 1) := by decide +kernel
theorem dX2_ofEnvelope_7 : decode cX2_ofEnvelope 7 = .ok (.iload_n 2, 1) := by decide +kernel
theorem dX2_ofEnvelope_8 : decode cX2_ofEnvelope 8 = .ok (.iadd, 1) := by decide +kernel
theorem dX2_ofEnvelope_9 : decode cX2_ofEnvelope 9 = .ok (.invokestatic 71, 3) := by decide +kernel
theorem dX2_ofEnvelope_12 : decode cX2_ofEnvelope 12 = .ok (.ireturn, 1) := by decide +kernel
theorem dX2_putNumber_0 : decode cX2_putNumber 0 = .ok (.aload_n 0, 1) := by decide +kernel
theorem dX2_putNumber_1 : decode cX2_putNumber 1 = .ok (.getfield 28, 3) := by decide +kernel
theorem dX2_putNumber_4 : decode cX2_putNumber 4 = .ok (.iconst 4, 1) := by decide +kernel
theorem dX2_putNumber_5 : decode cX2_putNumber 5 = .ok (.iload_n 1, 1) := by decide +kernel
theorem dX2_putNumber_6 : decode cX2_putNumber 6 = .ok (.imul, 1) := by decide +kernel
theorem dX2_putNumber_7 : decode cX2_putNumber 7 = .ok (.iload_n 2, 1) := by decide +kernel
theorem dX2_putNumber_8 : decode cX2_putNumber 8 = .ok (.iadd, 1) := by decide +kernel
theorem dX2_putNumber_9 : decode cX2_putNumber 9 = .ok (.iload_n 3, 1) := by decide +kernel
theorem dX2_putNumber_10 : decode cX2_putNumber 10 = .ok (.invokestatic 67, 3) := by decide +kernel
theorem dX2_putNumber_13 : decode cX2_putNumber 13 = .ok (.return_, 1) := by decide +kernel
theorem dX2_addLetter_0 : decode cX2_addLetter 0 = .ok (.iload_n 2, 1) := by decide +kernel
theorem dX2_addLetter_1 : decode cX2_addLetter 1 = .ok (.istore_n 3, 1) := by decide +kernel
theorem dX2_addLetter_2 : decode cX2_addLetter 2 = .ok (.iconst 3, 1) := by decide +kernel
theorem dX2_addLetter_3 : decode cX2_addLetter 3 = .ok (.istore 4, 2) := by decide +kernel
theorem dX2_addLetter_5 : decode cX2_addLetter 5 = .ok (.iload 4, 2) := by decide +kernel
theorem dX2_addLetter_7 : decode cX2_addLetter 7 = .ok (.iconst 1, 1) := by decide +kernel
theorem dX2_addLetter_8 : decode cX2_addLetter 8 = .ok (.if_icmp .lt 21, 3) := by decide +kernel
theorem dX2_addLetter_11 : decode cX2_addLetter 11 = .ok (.iload_n 3, 1) := by decide +kernel
theorem dX2_addLetter_12 : decode cX2_addLetter 12 = .ok (.aload_n 0, 1) := by decide +kernel
theorem dX2_addLetter_13 : decode cX2_addLetter 13 = .ok (.iload_n 1, 1) := by decide +kernel
theorem dX2_addLetter_14 : decode cX2_addLetter 14 = .ok (.iload 4, 2) := by decide +kernel
theorem dX2_addLetter_16 : decode cX2_addLetter 16 = .ok (.invokevirtual 104, 3) := by decide +kernel
theorem dX2_addLetter_19 : decode cX2_addLetter 19 = .ok (.invokestatic 107, 3) := by decide +kernel
theorem dX2_addLetter_22 : decode cX2_addLetter 22 = .ok (.istore_n 3, 1) := by decide +kernel
theorem dX2_addLetter_23 : decode cX2_addLetter 23 = .ok (.iinc 4 (-1), 3) := by decide +kernel
theorem dX2_addLetter_26 : decode cX2_addLetter 26 = .ok (.goto (-21), 3) := by decide +kernel
theorem dX2_addLetter_29 : decode cX2_addLetter 29 = .ok (.aload_n 0, 1) := by decide +kernel
theorem dX2_addLetter_30 : decode cX2_addLetter 30 = .ok (.iconst 0, 1) := by decide +kernel
theorem dX2_addLetter_31 : decode cX2_addLetter 31 = .ok (.invokevirtual 110, 3) := by decide +kernel
theorem dX2_addLetter_34 : decode cX2_addLetter 34 = .ok (.aload_n 0, 1) := by decide +kernel
theorem dX2_addLetter_35 : decode cX2_addLetter 35 = .ok (.iload_n 1, 1) := by decide +kernel
theorem dX2_addLetter_36 : decode cX2_addLetter 36 = .ok (.iconst 0, 1) := by decide +kernel
theorem dX2_addLetter_37 : decode cX2_addLetter 37 = .ok (.iload_n 3, 1) := by decide +kernel
theorem dX2_addLetter_38 : decode cX2_addLetter 38 = .ok (.iconst 0, 1) := by decide +kernel
theorem dX2_addLetter_39 : decode cX2_addLetter 39 = .ok (.invokevirtual 114, 3) := by decide +kernel
theorem dX2_addLetter_42 : decode cX2_addLetter 42 = .ok (.ireturn, 1) := by decide +kernel
theorem dX2_addAnswer_0 : decode cX2_addAnswer 0 = .ok (.aload_n 0, 1) := by decide +kernel
theorem dX2_addAnswer_1 : decode cX2_addAnswer 1 = .ok (.iconst 2, 1) := by decide +kernel
theorem dX2_addAnswer_2 : decode cX2_addAnswer 2 = .ok (.invokevirtual 110, 3) := by decide +kernel
theorem dX2_addAnswer_5 : decode cX2_addAnswer 5 = .ok (.aload_n 0, 1) := by decide +kernel
theorem dX2_addAnswer_6 : decode cX2_addAnswer 6 = .ok (.aload_n 0, 1) := by decide +kernel
theorem dX2_addAnswer_7 : decode cX2_addAnswer 7 = .ok (.getfield 40, 3) := by decide +kernel
theorem dX2_addAnswer_10 : decode cX2_addAnswer 10 = .ok (.iload_n 1, 1) := by decide +kernel
theorem dX2_addAnswer_11 : decode cX2_addAnswer 11 = .ok (.invokestatic 71, 3) := by decide +kernel
theorem dX2_addAnswer_14 : decode cX2_addAnswer 14 = .ok (.iconst 4, 1) := by decide +kernel
theorem dX2_addAnswer_15 : decode cX2_addAnswer 15 = .ok (.iload_n 2, 1) := by decide +kernel
theorem dX2_addAnswer_16 : decode cX2_addAnswer 16 = .ok (.iconst 1, 1) := by decide +kernel
theorem dX2_addAnswer_17 : decode cX2_addAnswer 17 = .ok (.invokevirtual 114, 3) := by decide +kernel
theorem dX2_addAnswer_20 : decode cX2_addAnswer 20 = .ok (.ireturn, 1) := by decide +kernel
theorem dX2_addEnvelope_0 : decode cX2_addEnvelope 0 = .ok (.aload_n 0, 1) := by decide +kernel
theorem dX2_addEnvelope_1 : decode cX2_addEnvelope 1 = .ok (.getfield 56, 3) := by decide +kernel
theorem dX2_addEnvelope_4 : decode cX2_addEnvelope 4 = .ok (.istore 5, 2) := by decide +kernel
theorem dX2_addEnvelope_6 : decode cX2_addEnvelope 6 = .ok (.aload_n 0, 1) := by decide +kernel
theorem dX2_addEnvelope_7 : decode cX2_addEnvelope 7 = .ok (.iload 5, 2) := by decide +kernel
theorem dX2_addEnvelope_9 : decode cX2_addEnvelope 9 = .ok (.iconst 0, 1) := by decide +kernel
theorem dX2_addEnvelope_10 : decode cX2_addEnvelope 10 = .ok (.iload_n 1, 1) := by decide +kernel
theorem dX2_addEnvelope_11 : decode cX2_addEnvelope 11 = .ok (.invokevirtual 118, 3) := by decide +kernel
theorem dX2_addEnvelope_14 : decode cX2_addEnvelope 14 = .ok (.aload_n 0, 1) := by decide +kernel
theorem dX2_addEnvelope_15 : decode cX2_addEnvelope 15 = .ok (.iload 5, 2) := by decide +kernel
theorem dX2_addEnvelope_17 : decode cX2_addEnvelope 17 = .ok (.iconst 1, 1) := by decide +kernel
theorem dX2_addEnvelope_18 : decode cX2_addEnvelope 18 = .ok (.iload_n 2, 1) := by decide +kernel
theorem dX2_addEnvelope_19 : decode cX2_addEnvelope 19 = .ok (.invokevirtual 118, 3) := by decide +kernel
theorem dX2_addEnvelope_22 : decode cX2_addEnvelope 22 = .ok (.aload_n 0, 1) := by decide +kernel
theorem dX2_addEnvelope_23 : decode cX2_addEnvelope 23 = .ok (.iload 5, 2) := by decide +kernel
theorem dX2_addEnvelope_25 : decode cX2_addEnvelope 25 = .ok (.iconst 2, 1) := by decide +kernel
theorem dX2_addEnvelope_26 : decode cX2_addEnvelope 26 = .ok (.iload_n 3, 1) := by decide +kernel
theorem dX2_addEnvelope_27 : decode cX2_addEnvelope 27 = .ok (.invokevirtual 118, 3) := by decide +kernel
theorem dX2_addEnvelope_30 : decode cX2_addEnvelope 30 = .ok (.aload_n 0, 1) := by decide +kernel
theorem dX2_addEnvelope_31 : decode cX2_addEnvelope 31 = .ok (.iload 5, 2) := by decide +kernel
theorem dX2_addEnvelope_33 : decode cX2_addEnvelope 33 = .ok (.iconst 3, 1) := by decide +kernel
theorem dX2_addEnvelope_34 : decode cX2_addEnvelope 34 = .ok (.iload 4, 2) := by decide +kernel
theorem dX2_addEnvelope_36 : decode cX2_addEnvelope 36 = .ok (.invokevirtual 118, 3) := by decide +kernel
theorem dX2_addEnvelope_39 : decode cX2_addEnvelope 39 = .ok (.aload_n 0, 1) := by decide +kernel
theorem dX2_addEnvelope_40 : decode cX2_addEnvelope 40 = .ok (.dup, 1) := by decide +kernel
theorem dX2_addEnvelope_41 : decode cX2_addEnvelope 41 = .ok (.getfield 56, 3) := by decide +kernel
theorem dX2_addEnvelope_44 : decode cX2_addEnvelope 44 = .ok (.iconst 1, 1) := by decide +kernel
theorem dX2_addEnvelope_45 : decode cX2_addEnvelope 45 = .ok (.iadd, 1) := by decide +kernel
theorem dX2_addEnvelope_46 : decode cX2_addEnvelope 46 = .ok (.putfield 56, 3) := by decide +kernel
theorem dX2_addEnvelope_49 : decode cX2_addEnvelope 49 = .ok (.iload 5, 2) := by decide +kernel
theorem dX2_addEnvelope_51 : decode cX2_addEnvelope 51 = .ok (.ireturn, 1) := by decide +kernel
theorem dX2_countUp_0 : decode cX2_countUp 0 = .ok (.aload_n 0, 1) := by decide +kernel
theorem dX2_countUp_1 : decode cX2_countUp 1 = .ok (.getfield 46, 3) := by decide +kernel
theorem dX2_countUp_4 : decode cX2_countUp 4 = .ok (.iload_n 1, 1) := by decide +kernel
theorem dX2_countUp_5 : decode cX2_countUp 5 = .ok (.aload_n 0, 1) := by decide +kernel
theorem dX2_countUp_6 : decode cX2_countUp 6 = .ok (.getfield 46, 3) := by decide +kernel
theorem dX2_countUp_9 : decode cX2_countUp 9 = .ok (.iload_n 1, 1) := by decide +kernel
theorem dX2_countUp_10 : decode cX2_countUp 10 = .ok (.invokestatic 71, 3) := by decide +kernel
theorem dX2_countUp_13 : decode cX2_countUp 13 = .ok (.iconst 1, 1) := by decide +kernel
theorem dX2_countUp_14 : decode cX2_countUp 14 = .ok (.iadd, 1) := by decide +kernel
theorem dX2_countUp_15 : decode cX2_countUp 15 = .ok (.invokestatic 67, 3) := by decide +kernel
theorem dX2_countUp_18 : decode cX2_countUp 18 = .ok (.return_, 1) := by decide +kernel
theorem dX2_letTicksPass_0 : decode cX2_letTicksPass 0 = .ok (.iconst 0, 1) := by decide +kernel
theorem dX2_letTicksPass_1 : decode cX2_letTicksPass 1 = .ok (.istore_n 2, 1) := by decide +kernel
theorem dX2_letTicksPass_2 : decode cX2_letTicksPass 2 = .ok (.iconst 0, 1) := by decide +kernel
theorem dX2_letTicksPass_3 : decode cX2_letTicksPass 3 = .ok (.istore_n 3, 1) := by decide +kernel
theorem dX2_letTicksPass_4 : decode cX2_letTicksPass 4 = .ok (.iload_n 3, 1) := by decide +kernel
theorem dX2_letTicksPass_5 : decode cX2_letTicksPass 5 = .ok (.iload_n 1, 1) := by decide +kernel
theorem dX2_letTicksPass_6 : decode cX2_letTicksPass 6 = .ok (.if_icmp .ge 43, 3) := by decide +kernel
theorem dX2_letTicksPass_9 : decode cX2_letTicksPass 9 = .ok (.iconst 0, 1) := by decide +kernel
theorem dX2_letTicksPass_10 : decode cX2_letTicksPass 10 = .ok (.istore 4, 2) := by decide +kernel
theorem dX2_letTicksPass_12 : decode cX2_letTicksPass 12 = .ok (.iload 4, 2) := by decide +kernel
theorem dX2_letTicksPass_14 : decode cX2_letTicksPass 14 = .ok (.aload_n 0, 1) := by decide +kernel
theorem dX2_letTicksPass_15 : decode cX2_letTicksPass 15 = .ok (.getfield 56, 3) := by decide +kernel
theorem dX2_letTicksPass_18 : decode cX2_letTicksPass 18 = .ok (.if_icmp .ge 21, 3) := by decide +kernel
theorem dX2_letTicksPass_21 : decode cX2_letTicksPass 21 = .ok (.aload_n 0, 1) := by decide +kernel
theorem dX2_letTicksPass_22 : decode cX2_letTicksPass 22 = .ok (.iload 4, 2) := by decide +kernel
theorem dX2_letTicksPass_24 : decode cX2_letTicksPass 24 = .ok (.invokevirtual 121, 3) := by decide +kernel
theorem dX2_letTicksPass_27 : decode cX2_letTicksPass 27 = .ok (.ifCond .eq 6, 3) := by decide +kernel
theorem dX2_letTicksPass_30 : decode cX2_letTicksPass 30 = .ok (.iinc 2 1, 3) := by decide +kernel
theorem dX2_letTicksPass_33 : decode cX2_letTicksPass 33 = .ok (.iinc 4 1, 3) := by decide +kernel
theorem dX2_letTicksPass_36 : decode cX2_letTicksPass 36 = .ok (.goto (-24), 3) := by decide +kernel
theorem dX2_letTicksPass_39 : decode cX2_letTicksPass 39 = .ok (.aload_n 0, 1) := by decide +kernel
theorem dX2_letTicksPass_40 : decode cX2_letTicksPass 40 = .ok (.invokevirtual 124, 3) := by decide +kernel
theorem dX2_letTicksPass_43 : decode cX2_letTicksPass 43 = .ok (.iinc 3 1, 3) := by decide +kernel
theorem dX2_letTicksPass_46 : decode cX2_letTicksPass 46 = .ok (.goto (-42), 3) := by decide +kernel
theorem dX2_letTicksPass_49 : decode cX2_letTicksPass 49 = .ok (.iload_n 2, 1) := by decide +kernel
theorem dX2_letTicksPass_50 : decode cX2_letTicksPass 50 = .ok (.ireturn, 1) := by decide +kernel
theorem dX2_moveOn_0 : decode cX2_moveOn 0 = .ok (.aload_n 0, 1) := by decide +kernel
theorem dX2_moveOn_1 : decode cX2_moveOn 1 = .ok (.iload_n 1, 1) := by decide +kernel
theorem dX2_moveOn_2 : decode cX2_moveOn 2 = .ok (.iconst 3, 1) := by decide +kernel
theorem dX2_moveOn_3 : decode cX2_moveOn 3 = .ok (.invokevirtual 75, 3) := by decide +kernel
theorem dX2_moveOn_6 : decode cX2_moveOn 6 = .ok (.ifCond .ne 7, 3) := by decide +kernel
theorem dX2_moveOn_9 : decode cX2_moveOn 9 = .ok (.iconst 1, 1) := by decide +kernel
theorem dX2_moveOn_10 : decode cX2_moveOn 10 = .ok (.goto 4, 3) := by decide +kernel
theorem dX2_moveOn_13 : decode cX2_moveOn 13 = .ok (.iconst (-1), 1) := by decide +kernel
theorem dX2_moveOn_14 : decode cX2_moveOn 14 = .ok (.istore_n 2, 1) := by decide +kernel
theorem dX2_moveOn_15 : decode cX2_moveOn 15 = .ok (.aload_n 0, 1) := by decide +kernel
theorem dX2_moveOn_16 : decode cX2_moveOn 16 = .ok (.iload_n 1, 1) := by decide +kernel
theorem dX2_moveOn_17 : decode cX2_moveOn 17 = .ok (.iconst 1, 1) := by decide +kernel
theorem dX2_moveOn_18 : decode cX2_moveOn 18 = .ok (.invokevirtual 75, 3) := by decide +kernel
theorem dX2_moveOn_21 : decode cX2_moveOn 21 = .ok (.iload_n 2, 1) := by decide +kernel
theorem dX2_moveOn_22 : decode cX2_moveOn 22 = .ok (.iadd, 1) := by decide +kernel
theorem dX2_moveOn_23 : decode cX2_moveOn 23 = .ok (.istore_n 3, 1) := by decide +kernel
theorem dX2_moveOn_24 : decode cX2_moveOn 24 = .ok (.aload_n 0, 1) := by decide +kernel
theorem dX2_moveOn_25 : decode cX2_moveOn 25 = .ok (.iload_n 1, 1) := by decide +kernel
theorem dX2_moveOn_26 : decode cX2_moveOn 26 = .ok (.iconst 1, 1) := by decide +kernel
theorem dX2_moveOn_27 : decode cX2_moveOn 27 = .ok (.iload_n 3, 1) := by decide +kernel
theorem dX2_moveOn_28 : decode cX2_moveOn 28 = .ok (.invokevirtual 118, 3) := by decide +kernel
theorem dX2_moveOn_31 : decode cX2_moveOn 31 = .ok (.iload_n 3, 1) := by decide +kernel
theorem dX2_moveOn_32 : decode cX2_moveOn 32 = .ok (.iconst 4, 1) := by decide +kernel
theorem dX2_moveOn_33 : decode cX2_moveOn 33 = .ok (.if_icmp .ne 10, 3) := by decide +kernel
theorem dX2_moveOn_36 : decode cX2_moveOn 36 = .ok (.aload_n 0, 1) := by decide +kernel
theorem dX2_moveOn_37 : decode cX2_moveOn 37 = .ok (.iload_n 1, 1) := by decide +kernel
theorem dX2_moveOn_38 : decode cX2_moveOn 38 = .ok (.invokevirtual 127, 3) := by decide +kernel
theorem dX2_moveOn_41 : decode cX2_moveOn 41 = .ok (.iconst 1, 1) := by decide +kernel
theorem dX2_moveOn_42 : decode cX2_moveOn 42 = .ok (.ireturn, 1) := by decide +kernel
theorem dX2_moveOn_43 : decode cX2_moveOn 43 = .ok (.iload_n 3, 1) := by decide +kernel
theorem dX2_moveOn_44 : decode cX2_moveOn 44 = .ok (.ifCond .ne 10, 3) := by decide +kernel
theorem dX2_moveOn_47 : decode cX2_moveOn 47 = .ok (.aload_n 0, 1) := by decide +kernel
theorem dX2_moveOn_48 : decode cX2_moveOn 48 = .ok (.iload_n 1, 1) := by decide +kernel
theorem dX2_moveOn_49 : decode cX2_moveOn 49 = .ok (.invokevirtual 130, 3) := by decide +kernel
theorem dX2_moveOn_52 : decode cX2_moveOn 52 = .ok (.iconst 1, 1) := by decide +kernel
theorem dX2_moveOn_53 : decode cX2_moveOn 53 = .ok (.ireturn, 1) := by decide +kernel
theorem dX2_moveOn_54 : decode cX2_moveOn 54 = .ok (.aload_n 0, 1) := by decide +kernel
theorem dX2_moveOn_55 : decode cX2_moveOn 55 = .ok (.iload_n 1, 1) := by decide +kernel
theorem dX2_moveOn_56 : decode cX2_moveOn 56 = .ok (.iload_n 3, 1) := by decide +kernel
theorem dX2_moveOn_57 : decode cX2_moveOn 57 = .ok (.invokevirtual 133, 3) := by decide +kernel
theorem dX2_moveOn_60 : decode cX2_moveOn 60 = .ok (.iconst 0, 1) := by decide +kernel
theorem dX2_moveOn_61 : decode cX2_moveOn 61 = .ok (.ireturn, 1) := by decide +kernel
theorem dX2_reachInn_0 : decode cX2_reachInn 0 = .ok (.aload_n 0, 1) := by decide +kernel
theorem dX2_reachInn_1 : decode cX2_reachInn 1 = .ok (.iload_n 1, 1) := by decide +kernel
theorem dX2_reachInn_2 : decode cX2_reachInn 2 = .ok (.iconst 0, 1) := by decide +kernel
theorem dX2_reachInn_3 : decode cX2_reachInn 3 = .ok (.invokevirtual 75, 3) := by decide +kernel
theorem dX2_reachInn_6 : decode cX2_reachInn 6 = .ok (.istore_n 3, 1) := by decide +kernel
theorem dX2_reachInn_7 : decode cX2_reachInn 7 = .ok (.aload_n 0, 1) := by decide +kernel
theorem dX2_reachInn_8 : decode cX2_reachInn 8 = .ok (.aload_n 0, 1) := by decide +kernel
theorem dX2_reachInn_9 : decode cX2_reachInn 9 = .ok (.iload_n 3, 1) := by decide +kernel
theorem dX2_reachInn_10 : decode cX2_reachInn 10 = .ok (.iload_n 2, 1) := by decide +kernel
theorem dX2_reachInn_11 : decode cX2_reachInn 11 = .ok (.invokevirtual 79, 3) := by decide +kernel
theorem dX2_reachInn_14 : decode cX2_reachInn 14 = .ok (.invokevirtual 82, 3) := by decide +kernel
theorem dX2_reachInn_17 : decode cX2_reachInn 17 = .ok (.ifCond .ne 16, 3) := by decide +kernel
theorem dX2_reachInn_20 : decode cX2_reachInn 20 = .ok (.aload_n 0, 1) := by decide +kernel
theorem dX2_reachInn_21 : decode cX2_reachInn 21 = .ok (.iconst 4, 1) := by decide +kernel
theorem dX2_reachInn_22 : decode cX2_reachInn 22 = .ok (.invokevirtual 110, 3) := by decide +kernel
theorem dX2_reachInn_25 : decode cX2_reachInn 25 = .ok (.aload_n 0, 1) := by decide +kernel
theorem dX2_reachInn_26 : decode cX2_reachInn 26 = .ok (.iload_n 1, 1) := by decide +kernel
theorem dX2_reachInn_27 : decode cX2_reachInn 27 = .ok (.iconst 1, 1) := by decide +kernel
theorem dX2_reachInn_28 : decode cX2_reachInn 28 = .ok (.iconst (-1), 1) := by decide +kernel
theorem dX2_reachInn_29 : decode cX2_reachInn 29 = .ok (.invokevirtual 118, 3) := by decide +kernel
theorem dX2_reachInn_32 : decode cX2_reachInn 32 = .ok (.return_, 1) := by decide +kernel
theorem dX2_reachInn_33 : decode cX2_reachInn 33 = .ok (.aload_n 0, 1) := by decide +kernel
theorem dX2_reachInn_34 : decode cX2_reachInn 34 = .ok (.iload_n 1, 1) := by decide +kernel
theorem dX2_reachInn_35 : decode cX2_reachInn 35 = .ok (.iconst 2, 1) := by decide +kernel
theorem dX2_reachInn_36 : decode cX2_reachInn 36 = .ok (.invokevirtual 75, 3) := by decide +kernel
theorem dX2_reachInn_39 : decode cX2_reachInn 39 = .ok (.istore 4, 2) := by decide +kernel
theorem dX2_reachInn_41 : decode cX2_reachInn 41 = .ok (.aload_n 0, 1) := by decide +kernel
theorem dX2_reachInn_42 : decode cX2_reachInn 42 = .ok (.iload_n 3, 1) := by decide +kernel
theorem dX2_reachInn_43 : decode cX2_reachInn 43 = .ok (.iload_n 2, 1) := by decide +kernel
theorem dX2_reachInn_44 : decode cX2_reachInn 44 = .ok (.invokevirtual 104, 3) := by decide +kernel
theorem dX2_reachInn_47 : decode cX2_reachInn 47 = .ok (.istore 5, 2) := by decide +kernel
theorem dX2_reachInn_49 : decode cX2_reachInn 49 = .ok (.aload_n 0, 1) := by decide +kernel
theorem dX2_reachInn_50 : decode cX2_reachInn 50 = .ok (.iload_n 1, 1) := by decide +kernel
theorem dX2_reachInn_51 : decode cX2_reachInn 51 = .ok (.iconst 3, 1) := by decide +kernel
theorem dX2_reachInn_52 : decode cX2_reachInn 52 = .ok (.invokevirtual 75, 3) := by decide +kernel
theorem dX2_reachInn_55 : decode cX2_reachInn 55 = .ok (.ifCond .ne 7, 3) := by decide +kernel
theorem dX2_reachInn_58 : decode cX2_reachInn 58 = .ok (.iconst 1, 1) := by decide +kernel
theorem dX2_reachInn_59 : decode cX2_reachInn 59 = .ok (.goto 4, 3) := by decide +kernel
theorem dX2_reachInn_62 : decode cX2_reachInn 62 = .ok (.iconst 0, 1) := by decide +kernel
theorem dX2_reachInn_63 : decode cX2_reachInn 63 = .ok (.istore 6, 2) := by decide +kernel
theorem dX2_reachInn_65 : decode cX2_reachInn 65 = .ok (.aload_n 0, 1) := by decide +kernel
theorem dX2_reachInn_66 : decode cX2_reachInn 66 = .ok (.iload_n 1, 1) := by decide +kernel
theorem dX2_reachInn_67 : decode cX2_reachInn 67 = .ok (.iconst 2, 1) := by decide +kernel
theorem dX2_reachInn_68 : decode cX2_reachInn 68 = .ok (.iload 6, 2) := by decide +kernel
theorem dX2_reachInn_70 : decode cX2_reachInn 70 = .ok (.ifCond .eq 13, 3) := by decide +kernel
theorem dX2_reachInn_73 : decode cX2_reachInn 73 = .ok (.iload 4, 2) := by decide +kernel
theorem dX2_reachInn_75 : decode cX2_reachInn 75 = .ok (.iload 5, 2) := by decide +kernel
theorem dX2_reachInn_77 : decode cX2_reachInn 77 = .ok (.invokestatic 137, 3) := by decide +kernel
theorem dX2_reachInn_80 : decode cX2_reachInn 80 = .ok (.goto 10, 3) := by decide +kernel
theorem dX2_reachInn_83 : decode cX2_reachInn 83 = .ok (.iload 4, 2) := by decide +kernel
theorem dX2_reachInn_85 : decode cX2_reachInn 85 = .ok (.iload 5, 2) := by decide +kernel
theorem dX2_reachInn_87 : decode cX2_reachInn 87 = .ok (.invokestatic 107, 3) := by decide +kernel
theorem dX2_reachInn_90 : decode cX2_reachInn 90 = .ok (.invokevirtual 118, 3) := by decide +kernel
theorem dX2_reachInn_93 : decode cX2_reachInn 93 = .ok (.return_, 1) := by decide +kernel
theorem dX2_reachHall_0 : decode cX2_reachHall 0 = .ok (.aload_n 0, 1) := by decide +kernel
theorem dX2_reachHall_1 : decode cX2_reachHall 1 = .ok (.iload_n 1, 1) := by decide +kernel
theorem dX2_reachHall_2 : decode cX2_reachHall 2 = .ok (.iconst 0, 1) := by decide +kernel
theorem dX2_reachHall_3 : decode cX2_reachHall 3 = .ok (.invokevirtual 75, 3) := by decide +kernel
theorem dX2_reachHall_6 : decode cX2_reachHall 6 = .ok (.istore_n 2, 1) := by decide +kernel
theorem dX2_reachHall_7 : decode cX2_reachHall 7 = .ok (.aload_n 0, 1) := by decide +kernel
theorem dX2_reachHall_8 : decode cX2_reachHall 8 = .ok (.getfield 25, 3) := by decide +kernel
theorem dX2_reachHall_11 : decode cX2_reachHall 11 = .ok (.iload_n 2, 1) := by decide +kernel
theorem dX2_reachHall_12 : decode cX2_reachHall 12 = .ok (.invokestatic 71, 3) := by decide +kernel
theorem dX2_reachHall_15 : decode cX2_reachHall 15 = .ok (.istore_n 3, 1) := by decide +kernel
theorem dX2_reachHall_16 : decode cX2_reachHall 16 = .ok (.aload_n 0, 1) := by decide +kernel
theorem dX2_reachHall_17 : decode cX2_reachHall 17 = .ok (.getfield 31, 3) := by decide +kernel
theorem dX2_reachHall_20 : decode cX2_reachHall 20 = .ok (.iload_n 3, 1) := by decide +kernel
theorem dX2_reachHall_21 : decode cX2_reachHall 21 = .ok (.aload_n 0, 1) := by decide +kernel
theorem dX2_reachHall_22 : decode cX2_reachHall 22 = .ok (.iload_n 1, 1) := by decide +kernel
theorem dX2_reachHall_23 : decode cX2_reachHall 23 = .ok (.iconst 2, 1) := by decide +kernel
theorem dX2_reachHall_24 : decode cX2_reachHall 24 = .ok (.invokevirtual 75, 3) := by decide +kernel
theorem dX2_reachHall_27 : decode cX2_reachHall 27 = .ok (.invokestatic 67, 3) := by decide +kernel
theorem dX2_reachHall_30 : decode cX2_reachHall 30 = .ok (.aload_n 0, 1) := by decide +kernel
theorem dX2_reachHall_31 : decode cX2_reachHall 31 = .ok (.getfield 40, 3) := by decide +kernel
theorem dX2_reachHall_34 : decode cX2_reachHall 34 = .ok (.iload_n 3, 1) := by decide +kernel
theorem dX2_reachHall_35 : decode cX2_reachHall 35 = .ok (.iload_n 2, 1) := by decide +kernel
theorem dX2_reachHall_36 : decode cX2_reachHall 36 = .ok (.invokestatic 67, 3) := by decide +kernel
theorem dX2_reachHall_39 : decode cX2_reachHall 39 = .ok (.aload_n 0, 1) := by decide +kernel
theorem dX2_reachHall_40 : decode cX2_reachHall 40 = .ok (.iconst 1, 1) := by decide +kernel
theorem dX2_reachHall_41 : decode cX2_reachHall 41 = .ok (.invokevirtual 110, 3) := by decide +kernel
theorem dX2_reachHall_44 : decode cX2_reachHall 44 = .ok (.aload_n 0, 1) := by decide +kernel
theorem dX2_reachHall_45 : decode cX2_reachHall 45 = .ok (.iload_n 1, 1) := by decide +kernel
theorem dX2_reachHall_46 : decode cX2_reachHall 46 = .ok (.iconst 1, 1) := by decide +kernel
theorem dX2_reachHall_47 : decode cX2_reachHall 47 = .ok (.iconst (-1), 1) := by decide +kernel
theorem dX2_reachHall_48 : decode cX2_reachHall 48 = .ok (.invokevirtual 118, 3) := by decide +kernel
theorem dX2_reachHall_51 : decode cX2_reachHall 51 = .ok (.return_, 1) := by decide +kernel
theorem dX2_reachTraveller_0 : decode cX2_reachTraveller 0 = .ok (.aload_n 0, 1) := by decide +kernel
theorem dX2_reachTraveller_1 : decode cX2_reachTraveller 1 = .ok (.iload_n 1, 1) := by decide +kernel
theorem dX2_reachTraveller_2 : decode cX2_reachTraveller 2 = .ok (.iconst 0, 1) := by decide +kernel
theorem dX2_reachTraveller_3 : decode cX2_reachTraveller 3 = .ok (.invokevirtual 75, 3) := by decide +kernel
theorem dX2_reachTraveller_6 : decode cX2_reachTraveller 6 = .ok (.istore_n 2, 1) := by decide +kernel
theorem dX2_reachTraveller_7 : decode cX2_reachTraveller 7 = .ok (.aload_n 0, 1) := by decide +kernel
theorem dX2_reachTraveller_8 : decode cX2_reachTraveller 8 = .ok (.iload_n 1, 1) := by decide +kernel
theorem dX2_reachTraveller_9 : decode cX2_reachTraveller 9 = .ok (.iconst 2, 1) := by decide +kernel
theorem dX2_reachTraveller_10 : decode cX2_reachTraveller 10 = .ok (.invokevirtual 75, 3) := by decide +kernel
theorem dX2_reachTraveller_13 : decode cX2_reachTraveller 13 = .ok (.istore_n 3, 1) := by decide +kernel
theorem dX2_reachTraveller_14 : decode cX2_reachTraveller 14 = .ok (.iconst 1, 1) := by decide +kernel
theorem dX2_reachTraveller_15 : decode cX2_reachTraveller 15 = .ok (.istore 4, 2) := by decide +kernel
theorem dX2_reachTraveller_17 : decode cX2_reachTraveller 17 = .ok (.iload 4, 2) := by decide +kernel
theorem dX2_reachTraveller_19 : decode cX2_reachTraveller 19 = .ok (.iconst 3, 1) := by decide +kernel
theorem dX2_reachTraveller_20 : decode cX2_reachTraveller 20 = .ok (.if_icmp .gt 21, 3) := by decide +kernel
theorem dX2_reachTraveller_23 : decode cX2_reachTraveller 23 = .ok (.iload_n 3, 1) := by decide +kernel
theorem dX2_reachTraveller_24 : decode cX2_reachTraveller 24 = .ok (.aload_n 0, 1) := by decide +kernel
theorem dX2_reachTraveller_25 : decode cX2_reachTraveller 25 = .ok (.iload_n 2, 1) := by decide +kernel
theorem dX2_reachTraveller_26 : decode cX2_reachTraveller 26 = .ok (.iload 4, 2) := by decide +kernel
theorem dX2_reachTraveller_28 : decode cX2_reachTraveller 28 = .ok (.invokevirtual 104, 3) := by decide +kernel
theorem dX2_reachTraveller_31 : decode cX2_reachTraveller 31 = .ok (.invokestatic 137, 3) := by decide +kernel
theorem dX2_reachTraveller_34 : decode cX2_reachTraveller 34 = .ok (.istore_n 3, 1) := by decide +kernel
theorem dX2_reachTraveller_35 : decode cX2_reachTraveller 35 = .ok (.iinc 4 1, 3) := by decide +kernel
theorem dX2_reachTraveller_38 : decode cX2_reachTraveller 38 = .ok (.goto (-21), 3) := by decide +kernel
theorem dX2_reachTraveller_41 : decode cX2_reachTraveller 41 = .ok (.aload_n 0, 1) := by decide +kernel
theorem dX2_reachTraveller_42 : decode cX2_reachTraveller 42 = .ok (.iload_n 3, 1) := by decide +kernel
theorem dX2_reachTraveller_43 : decode cX2_reachTraveller 43 = .ok (.putfield 43, 3) := by decide +kernel
theorem dX2_reachTraveller_46 : decode cX2_reachTraveller 46 = .ok (.aload_n 0, 1) := by decide +kernel
theorem dX2_reachTraveller_47 : decode cX2_reachTraveller 47 = .ok (.iconst 3, 1) := by decide +kernel
theorem dX2_reachTraveller_48 : decode cX2_reachTraveller 48 = .ok (.invokevirtual 110, 3) := by decide +kernel
theorem dX2_reachTraveller_51 : decode cX2_reachTraveller 51 = .ok (.aload_n 0, 1) := by decide +kernel
theorem dX2_reachTraveller_52 : decode cX2_reachTraveller 52 = .ok (.iload_n 1, 1) := by decide +kernel
theorem dX2_reachTraveller_53 : decode cX2_reachTraveller 53 = .ok (.iconst 1, 1) := by decide +kernel
theorem dX2_reachTraveller_54 : decode cX2_reachTraveller 54 = .ok (.iconst (-1), 1) := by decide +kernel
theorem dX2_reachTraveller_55 : decode cX2_reachTraveller 55 = .ok (.invokevirtual 118, 3) := by decide +kernel
theorem dX2_reachTraveller_58 : decode cX2_reachTraveller 58 = .ok (.return_, 1) := by decide +kernel
theorem dX2_takeOutGone_0 : decode cX2_takeOutGone 0 = .ok (.iconst 0, 1) := by decide +kernel
theorem dX2_takeOutGone_1 : decode cX2_takeOutGone 1 = .ok (.istore_n 1, 1) := by decide +kernel
theorem dX2_takeOutGone_2 : decode cX2_takeOutGone 2 = .ok (.iconst 0, 1) := by decide +kernel
theorem dX2_takeOutGone_3 : decode cX2_takeOutGone 3 = .ok (.istore_n 2, 1) := by decide +kernel
theorem dX2_takeOutGone_4 : decode cX2_takeOutGone 4 = .ok (.iload_n 2, 1) := by decide +kernel
theorem dX2_takeOutGone_5 : decode cX2_takeOutGone 5 = .ok (.aload_n 0, 1) := by decide +kernel
theorem dX2_takeOutGone_6 : decode cX2_takeOutGone 6 = .ok (.getfield 56, 3) := by decide +kernel
theorem dX2_takeOutGone_9 : decode cX2_takeOutGone 9 = .ok (.if_icmp .ge 47, 3) := by decide +kernel
theorem dX2_takeOutGone_12 : decode cX2_takeOutGone 12 = .ok (.aload_n 0, 1) := by decide +kernel
theorem dX2_takeOutGone_13 : decode cX2_takeOutGone 13 = .ok (.iload_n 2, 1) := by decide +kernel
theorem dX2_takeOutGone_14 : decode cX2_takeOutGone 14 = .ok (.iconst 1, 1) := by decide +kernel
theorem dX2_takeOutGone_15 : decode cX2_takeOutGone 15 = .ok (.invokevirtual 75, 3) := by decide +kernel
theorem dX2_takeOutGone_18 : decode cX2_takeOutGone 18 = .ok (.iconst (-1), 1) := by decide +kernel
theorem dX2_takeOutGone_19 : decode cX2_takeOutGone 19 = .ok (.if_icmp .eq 31, 3) := by decide +kernel
theorem dX2_takeOutGone_22 : decode cX2_takeOutGone 22 = .ok (.iconst 0, 1) := by decide +kernel
theorem dX2_takeOutGone_23 : decode cX2_takeOutGone 23 = .ok (.istore_n 3, 1) := by decide +kernel
theorem dX2_takeOutGone_24 : decode cX2_takeOutGone 24 = .ok (.iload_n 3, 1) := by decide +kernel
theorem dX2_takeOutGone_25 : decode cX2_takeOutGone 25 = .ok (.iconst 4, 1) := by decide +kernel
theorem dX2_takeOutGone_26 : decode cX2_takeOutGone 26 = .ok (.if_icmp .ge 21, 3) := by decide +kernel
theorem dX2_takeOutGone_29 : decode cX2_takeOutGone 29 = .ok (.aload_n 0, 1) := by decide +kernel
theorem dX2_takeOutGone_30 : decode cX2_takeOutGone 30 = .ok (.iload_n 1, 1) := by decide +kernel
theorem dX2_takeOutGone_31 : decode cX2_takeOutGone 31 = .ok (.iload_n 3, 1) := by decide +kernel
theorem dX2_takeOutGone_32 : decode cX2_takeOutGone 32 = .ok (.aload_n 0, 1) := by decide +kernel
theorem dX2_takeOutGone_33 : decode cX2_takeOutGone 33 = .ok (.iload_n 2, 1) := by decide +kernel
theorem dX2_takeOutGone_34 : decode cX2_takeOutGone 34 = .ok (.iload_n 3, 1) := by decide +kernel
theorem dX2_takeOutGone_35 : decode cX2_takeOutGone 35 = .ok (.invokevirtual 75, 3) := by decide +kernel
theorem dX2_takeOutGone_38 : decode cX2_takeOutGone 38 = .ok (.invokevirtual 118, 3) := by decide +kernel
theorem dX2_takeOutGone_41 : decode cX2_takeOutGone 41 = .ok (.iinc 3 1, 3) := by decide +kernel
theorem dX2_takeOutGone_44 : decode cX2_takeOutGone 44 = .ok (.goto (-20), 3) := by decide +kernel
theorem dX2_takeOutGone_47 : decode cX2_takeOutGone 47 = .ok (.iinc 1 1, 3) := by decide +kernel
theorem dX2_takeOutGone_50 : decode cX2_takeOutGone 50 = .ok (.iinc 2 1, 3) := by decide +kernel
theorem dX2_takeOutGone_53 : decode cX2_takeOutGone 53 = .ok (.goto (-49), 3) := by decide +kernel
theorem dX2_takeOutGone_56 : decode cX2_takeOutGone 56 = .ok (.aload_n 0, 1) := by decide +kernel
theorem dX2_takeOutGone_57 : decode cX2_takeOutGone 57 = .ok (.iload_n 1, 1) := by decide +kernel
theorem dX2_takeOutGone_58 : decode cX2_takeOutGone 58 = .ok (.putfield 56, 3) := by decide +kernel
theorem dX2_takeOutGone_61 : decode cX2_takeOutGone 61 = .ok (.return_, 1) := by decide +kernel
theorem dX2_lostWithout_0 : decode cX2_lostWithout 0 = .ok (.iconst 0, 1) := by decide +kernel
theorem dX2_lostWithout_1 : decode cX2_lostWithout 1 = .ok (.istore_n 2, 1) := by decide +kernel
theorem dX2_lostWithout_2 : decode cX2_lostWithout 2 = .ok (.iconst 0, 1) := by decide +kernel
theorem dX2_lostWithout_3 : decode cX2_lostWithout 3 = .ok (.istore_n 3, 1) := by decide +kernel
theorem dX2_lostWithout_4 : decode cX2_lostWithout 4 = .ok (.iload_n 3, 1) := by decide +kernel
theorem dX2_lostWithout_5 : decode cX2_lostWithout 5 = .ok (.aload_n 0, 1) := by decide +kernel
theorem dX2_lostWithout_6 : decode cX2_lostWithout 6 = .ok (.getfield 56, 3) := by decide +kernel
theorem dX2_lostWithout_9 : decode cX2_lostWithout 9 = .ok (.if_icmp .ge 31, 3) := by decide +kernel
theorem dX2_lostWithout_12 : decode cX2_lostWithout 12 = .ok (.aload_n 0, 1) := by decide +kernel
theorem dX2_lostWithout_13 : decode cX2_lostWithout 13 = .ok (.iload_n 3, 1) := by decide +kernel
theorem dX2_lostWithout_14 : decode cX2_lostWithout 14 = .ok (.aload_n 0, 1) := by decide +kernel
theorem dX2_lostWithout_15 : decode cX2_lostWithout 15 = .ok (.getfield 9, 3) := by decide +kernel
theorem dX2_lostWithout_18 : decode cX2_lostWithout 18 = .ok (.iconst 1, 1) := by decide +kernel
theorem dX2_lostWithout_19 : decode cX2_lostWithout 19 = .ok (.iload_n 1, 1) := by decide +kernel
theorem dX2_lostWithout_20 : decode cX2_lostWithout 20 = .ok (.ishl, 1) := by decide +kernel
theorem dX2_lostWithout_21 : decode cX2_lostWithout 21 = .ok (.iconst (-1), 1) := by decide +kernel
theorem dX2_lostWithout_22 : decode cX2_lostWithout 22 = .ok (.ixor, 1) := by decide +kernel
theorem dX2_lostWithout_23 : decode cX2_lostWithout 23 = .ok (.iand, 1) := by decide +kernel
theorem dX2_lostWithout_24 : decode cX2_lostWithout 24 = .ok (.invokevirtual 140, 3) := by decide +kernel
theorem dX2_lostWithout_27 : decode cX2_lostWithout 27 = .ok (.iconst (-1), 1) := by decide +kernel
theorem dX2_lostWithout_28 : decode cX2_lostWithout 28 = .ok (.if_icmp .ne 6, 3) := by decide +kernel
theorem dX2_lostWithout_31 : decode cX2_lostWithout 31 = .ok (.iinc 2 1, 3) := by decide +kernel
theorem dX2_lostWithout_34 : decode cX2_lostWithout 34 = .ok (.iinc 3 1, 3) := by decide +kernel
theorem dX2_lostWithout_37 : decode cX2_lostWithout 37 = .ok (.goto (-33), 3) := by decide +kernel
theorem dX2_lostWithout_40 : decode cX2_lostWithout 40 = .ok (.iload_n 2, 1) := by decide +kernel
theorem dX2_lostWithout_41 : decode cX2_lostWithout 41 = .ok (.ireturn, 1) := by decide +kernel
theorem dX2_ticksLeft_0 : decode cX2_ticksLeft 0 = .ok (.aload_n 0, 1) := by decide +kernel
theorem dX2_ticksLeft_1 : decode cX2_ticksLeft 1 = .ok (.iload_n 1, 1) := by decide +kernel
theorem dX2_ticksLeft_2 : decode cX2_ticksLeft 2 = .ok (.iconst 0, 1) := by decide +kernel
theorem dX2_ticksLeft_3 : decode cX2_ticksLeft 3 = .ok (.invokevirtual 75, 3) := by decide +kernel
theorem dX2_ticksLeft_6 : decode cX2_ticksLeft 6 = .ok (.istore_n 3, 1) := by decide +kernel
theorem dX2_ticksLeft_7 : decode cX2_ticksLeft 7 = .ok (.aload_n 0, 1) := by decide +kernel
theorem dX2_ticksLeft_8 : decode cX2_ticksLeft 8 = .ok (.iload_n 1, 1) := by decide +kernel
theorem dX2_ticksLeft_9 : decode cX2_ticksLeft 9 = .ok (.iconst 1, 1) := by decide +kernel
theorem dX2_ticksLeft_10 : decode cX2_ticksLeft 10 = .ok (.invokevirtual 75, 3) := by decide +kernel
theorem dX2_ticksLeft_13 : decode cX2_ticksLeft 13 = .ok (.istore 4, 2) := by decide +kernel
theorem dX2_ticksLeft_15 : decode cX2_ticksLeft 15 = .ok (.aload_n 0, 1) := by decide +kernel
theorem dX2_ticksLeft_16 : decode cX2_ticksLeft 16 = .ok (.iload_n 1, 1) := by decide +kernel
theorem dX2_ticksLeft_17 : decode cX2_ticksLeft 17 = .ok (.iconst 3, 1) := by decide +kernel
theorem dX2_ticksLeft_18 : decode cX2_ticksLeft 18 = .ok (.invokevirtual 75, 3) := by decide +kernel
theorem dX2_ticksLeft_21 : decode cX2_ticksLeft 21 = .ok (.ifCond .ne 7, 3) := by decide +kernel
theorem dX2_ticksLeft_24 : decode cX2_ticksLeft 24 = .ok (.iconst 1, 1) := by decide +kernel
theorem dX2_ticksLeft_25 : decode cX2_ticksLeft 25 = .ok (.goto 4, 3) := by decide +kernel
theorem dX2_ticksLeft_28 : decode cX2_ticksLeft 28 = .ok (.iconst 0, 1) := by decide +kernel
theorem dX2_ticksLeft_29 : decode cX2_ticksLeft 29 = .ok (.istore 5, 2) := by decide +kernel
theorem dX2_ticksLeft_31 : decode cX2_ticksLeft 31 = .ok (.iconst 1, 1) := by decide +kernel
theorem dX2_ticksLeft_32 : decode cX2_ticksLeft 32 = .ok (.istore 6, 2) := by decide +kernel
theorem dX2_ticksLeft_34 : decode cX2_ticksLeft 34 = .ok (.iload 6, 2) := by decide +kernel
theorem dX2_ticksLeft_36 : decode cX2_ticksLeft 36 = .ok (.iconst 3, 1) := by decide +kernel
theorem dX2_ticksLeft_37 : decode cX2_ticksLeft 37 = .ok (.if_icmp .gt 64, 3) := by decide +kernel
theorem dX2_ticksLeft_40 : decode cX2_ticksLeft 40 = .ok (.iload 5, 2) := by decide +kernel
theorem dX2_ticksLeft_42 : decode cX2_ticksLeft 42 = .ok (.ifCond .eq 18, 3) := by decide +kernel
theorem dX2_ticksLeft_45 : decode cX2_ticksLeft 45 = .ok (.iload 6, 2) := by decide +kernel
theorem dX2_ticksLeft_47 : decode cX2_ticksLeft 47 = .ok (.iload 4, 2) := by decide +kernel
theorem dX2_ticksLeft_49 : decode cX2_ticksLeft 49 = .ok (.if_icmp .le 7, 3) := by decide +kernel
theorem dX2_ticksLeft_52 : decode cX2_ticksLeft 52 = .ok (.iconst 1, 1) := by decide +kernel
theorem dX2_ticksLeft_53 : decode cX2_ticksLeft 53 = .ok (.goto 19, 3) := by decide +kernel
theorem dX2_ticksLeft_56 : decode cX2_ticksLeft 56 = .ok (.iconst 0, 1) := by decide +kernel
theorem dX2_ticksLeft_57 : decode cX2_ticksLeft 57 = .ok (.goto 15, 3) := by decide +kernel
theorem dX2_ticksLeft_60 : decode cX2_ticksLeft 60 = .ok (.iload 6, 2) := by decide +kernel
theorem dX2_ticksLeft_62 : decode cX2_ticksLeft 62 = .ok (.iload 4, 2) := by decide +kernel
theorem dX2_ticksLeft_64 : decode cX2_ticksLeft 64 = .ok (.if_icmp .ge 7, 3) := by decide +kernel
theorem dX2_ticksLeft_67 : decode cX2_ticksLeft 67 = .ok (.iconst 1, 1) := by decide +kernel
theorem dX2_ticksLeft_68 : decode cX2_ticksLeft 68 = .ok (.goto 4, 3) := by decide +kernel
theorem dX2_ticksLeft_71 : decode cX2_ticksLeft 71 = .ok (.iconst 0, 1) := by decide +kernel
theorem dX2_ticksLeft_72 : decode cX2_ticksLeft 72 = .ok (.istore 7, 2) := by decide +kernel
theorem dX2_ticksLeft_74 : decode cX2_ticksLeft 74 = .ok (.iload 7, 2) := by decide +kernel
theorem dX2_ticksLeft_76 : decode cX2_ticksLeft 76 = .ok (.ifCond .eq 19, 3) := by decide +kernel
theorem dX2_ticksLeft_79 : decode cX2_ticksLeft 79 = .ok (.iload_n 2, 1) := by decide +kernel
theorem dX2_ticksLeft_80 : decode cX2_ticksLeft 80 = .ok (.aload_n 0, 1) := by decide +kernel
theorem dX2_ticksLeft_81 : decode cX2_ticksLeft 81 = .ok (.iload_n 3, 1) := by decide +kernel
theorem dX2_ticksLeft_82 : decode cX2_ticksLeft 82 = .ok (.iload 6, 2) := by decide +kernel
theorem dX2_ticksLeft_84 : decode cX2_ticksLeft 84 = .ok (.invokevirtual 79, 3) := by decide +kernel
theorem dX2_ticksLeft_87 : decode cX2_ticksLeft 87 = .ok (.invokestatic 59, 3) := by decide +kernel
theorem dX2_ticksLeft_90 : decode cX2_ticksLeft 90 = .ok (.ifCond .ne 5, 3) := by decide +kernel
theorem dX2_ticksLeft_93 : decode cX2_ticksLeft 93 = .ok (.iconst (-1), 1) := by decide +kernel
theorem dX2_ticksLeft_94 : decode cX2_ticksLeft 94 = .ok (.ireturn, 1) := by decide +kernel
theorem dX2_ticksLeft_95 : decode cX2_ticksLeft 95 = .ok (.iinc 6 1, 3) := by decide +kernel
theorem dX2_ticksLeft_98 : decode cX2_ticksLeft 98 = .ok (.goto (-64), 3) := by decide +kernel
theorem dX2_ticksLeft_101 : decode cX2_ticksLeft 101 = .ok (.iload 5, 2) := by decide +kernel
theorem dX2_ticksLeft_103 : decode cX2_ticksLeft 103 = .ok (.ifCond .eq 10, 3) := by decide +kernel
theorem dX2_ticksLeft_106 : decode cX2_ticksLeft 106 = .ok (.iconst 4, 1) := by decide +kernel
theorem dX2_ticksLeft_107 : decode cX2_ticksLeft 107 = .ok (.iload 4, 2) := by decide +kernel
theorem dX2_ticksLeft_109 : decode cX2_ticksLeft 109 = .ok (.isub, 1) := by decide +kernel
theorem dX2_ticksLeft_110 : decode cX2_ticksLeft 110 = .ok (.goto 5, 3) := by decide +kernel
theorem dX2_ticksLeft_113 : decode cX2_ticksLeft 113 = .ok (.iload 4, 2) := by decide +kernel
theorem dX2_ticksLeft_115 : decode cX2_ticksLeft 115 = .ok (.ireturn, 1) := by decide +kernel
end
section
theorem dX3_init_0 : decode cX3_init 0 = .ok (.aload_n 0, 1) := by decide +kernel
theorem dX3_init_1 : decode cX3_init 1 = .ok (.invokespecial 1, 3) := by decide +kernel
theorem dX3_init_4 : decode cX3_init 4 = .ok (.aload_n 0, 1) := by decide +kernel
theorem dX3_init_5 : decode cX3_init 5 = .ok (.new 7, 3) := by decide +kernel
theorem dX3_init_8 : decode cX3_init 8 = .ok (.dup, 1) := by decide +kernel
theorem dX3_init_9 : decode cX3_init 9 = .ok (.invokespecial 9, 3) := by decide +kernel
theorem dX3_init_12 : decode cX3_init 12 = .ok (.putfield 10, 3) := by decide +kernel
theorem dX3_init_15 : decode cX3_init 15 = .ok (.aload_n 0, 1) := by decide +kernel
theorem dX3_init_16 : decode cX3_init 16 = .ok (.new 16, 3) := by decide +kernel
theorem dX3_init_19 : decode cX3_init 19 = .ok (.dup, 1) := by decide +kernel
theorem dX3_init_20 : decode cX3_init 20 = .ok (.invokespecial 18, 3) := by decide +kernel
theorem dX3_init_23 : decode cX3_init 23 = .ok (.putfield 19, 3) := by decide +kernel
theorem dX3_init_26 : decode cX3_init 26 = .ok (.aload_n 0, 1) := by decide +kernel
theorem dX3_init_27 : decode cX3_init 27 = .ok (.new 23, 3) := by decide +kernel
theorem dX3_init_30 : decode cX3_init 30 = .ok (.dup, 1) := by decide +kernel
theorem dX3_init_31 : decode cX3_init 31 = .ok (.invokespecial 25, 3) := by decide +kernel
theorem dX3_init_34 : decode cX3_init 34 = .ok (.putfield 26, 3) := by decide +kernel
theorem dX3_init_37 : decode cX3_init 37 = .ok (.return_, 1) := by decide +kernel
theorem dX3_setOpen_0 : decode cX3_setOpen 0 = .ok (.iload_n 1, 1) := by decide +kernel
theorem dX3_setOpen_1 : decode cX3_setOpen 1 = .ok (.invokestatic 30, 3) := by decide +kernel
theorem dX3_setOpen_4 : decode cX3_setOpen 4 = .ok (.invokestatic 34, 3) := by decide +kernel
theorem dX3_setOpen_7 : decode cX3_setOpen 7 = .ok (.aload_n 0, 1) := by decide +kernel
theorem dX3_setOpen_8 : decode cX3_setOpen 8 = .ok (.getfield 19, 3) := by decide +kernel
theorem dX3_setOpen_11 : decode cX3_setOpen 11 = .ok (.aload_n 0, 1) := by decide +kernel
theorem dX3_setOpen_12 : decode cX3_setOpen 12 = .ok (.getfield 10, 3) := by decide +kernel
theorem dX3_setOpen_15 : decode cX3_setOpen 15 = .ok (.invokevirtual 38, 3) := by decide +kernel
theorem dX3_setOpen_18 : decode cX3_setOpen 18 = .ok (.aload_n 0, 1) := by decide +kernel
theorem dX3_setOpen_19 : decode cX3_setOpen 19 = .ok (.getfield 10, 3) := by decide +kernel
theorem dX3_setOpen_22 : decode cX3_setOpen 22 = .ok (.iload_n 1, 1) := by decide +kernel
theorem dX3_setOpen_23 : decode cX3_setOpen 23 = .ok (.invokevirtual 42, 3) := by decide +kernel
theorem dX3_setOpen_26 : decode cX3_setOpen 26 = .ok (.istore_n 3, 1) := by decide +kernel
theorem dX3_setOpen_27 : decode cX3_setOpen 27 = .ok (.aload_n 0, 1) := by decide +kernel
theorem dX3_setOpen_28 : decode cX3_setOpen 28 = .ok (.getfield 10, 3) := by decide +kernel
theorem dX3_setOpen_31 : decode cX3_setOpen 31 = .ok (.iload_n 1, 1) := by decide +kernel
theorem dX3_setOpen_32 : decode cX3_setOpen 32 = .ok (.iload_n 2, 1) := by decide +kernel
theorem dX3_setOpen_33 : decode cX3_setOpen 33 = .ok (.invokevirtual 46, 3) := by decide +kernel
theorem dX3_setOpen_36 : decode cX3_setOpen 36 = .ok (.iload_n 3, 1) := by decide +kernel
theorem dX3_setOpen_37 : decode cX3_setOpen 37 = .ok (.ireturn, 1) := by decide +kernel
theorem dX3_setKey_0 : decode cX3_setKey 0 = .ok (.iload_n 1, 1) := by decide +kernel
theorem dX3_setKey_1 : decode cX3_setKey 1 = .ok (.iload_n 2, 1) := by decide +kernel
theorem dX3_setKey_2 : decode cX3_setKey 2 = .ok (.invokestatic 50, 3) := by decide +kernel
theorem dX3_setKey_5 : decode cX3_setKey 5 = .ok (.invokestatic 34, 3) := by decide +kernel
theorem dX3_setKey_8 : decode cX3_setKey 8 = .ok (.aload_n 0, 1) := by decide +kernel
theorem dX3_setKey_9 : decode cX3_setKey 9 = .ok (.getfield 19, 3) := by decide +kernel
theorem dX3_setKey_12 : decode cX3_setKey 12 = .ok (.aload_n 0, 1) := by decide +kernel
theorem dX3_setKey_13 : decode cX3_setKey 13 = .ok (.getfield 10, 3) := by decide +kernel
theorem dX3_setKey_16 : decode cX3_setKey 16 = .ok (.invokevirtual 38, 3) := by decide +kernel
theorem dX3_setKey_19 : decode cX3_setKey 19 = .ok (.aload_n 0, 1) := by decide +kernel
theorem dX3_setKey_20 : decode cX3_setKey 20 = .ok (.getfield 10, 3) := by decide +kernel
theorem dX3_setKey_23 : decode cX3_setKey 23 = .ok (.getfield 54, 3) := by decide +kernel
theorem dX3_setKey_26 : decode cX3_setKey 26 = .ok (.iload_n 1, 1) := by decide +kernel
theorem dX3_setKey_27 : decode cX3_setKey 27 = .ok (.invokestatic 58, 3) := by decide +kernel
theorem dX3_setKey_30 : decode cX3_setKey 30 = .ok (.istore_n 3, 1) := by decide +kernel
theorem dX3_setKey_31 : decode cX3_setKey 31 = .ok (.aload_n 0, 1) := by decide +kernel
theorem dX3_setKey_32 : decode cX3_setKey 32 = .ok (.getfield 10, 3) := by decide +kernel
theorem dX3_setKey_35 : decode cX3_setKey 35 = .ok (.getfield 54, 3) := by decide +kernel
theorem dX3_setKey_38 : decode cX3_setKey 38 = .ok (.iload_n 1, 1) := by decide +kernel
theorem dX3_setKey_39 : decode cX3_setKey 39 = .ok (.iload_n 2, 1) := by decide +kernel
theorem dX3_setKey_40 : decode cX3_setKey 40 = .ok (.invokestatic 62, 3) := by decide +kernel
theorem dX3_setKey_43 : decode cX3_setKey 43 = .ok (.iload_n 3, 1) := by decide +kernel
theorem dX3_setKey_44 : decode cX3_setKey 44 = .ok (.ireturn, 1) := by decide +kernel
theorem dX3_isOpen_0 : decode cX3_isOpen 0 = .ok (.iload_n 1, 1) := by decide +kernel
theorem dX3_isOpen_1 : decode cX3_isOpen 1 = .ok (.invokestatic 30, 3) := by decide +kernel
theorem dX3_isOpen_4 : decode cX3_isOpen 4 = .ok (.invokestatic 34, 3) := by decide +kernel
theorem dX3_isOpen_7 : decode cX3_isOpen 7 = .ok (.aload_n 0, 1) := by decide +kernel
theorem dX3_isOpen_8 : decode cX3_isOpen 8 = .ok (.getfield 10, 3) := by decide +kernel
theorem dX3_isOpen_11 : decode cX3_isOpen 11 = .ok (.iload_n 1, 1) := by decide +kernel
theorem dX3_isOpen_12 : decode cX3_isOpen 12 = .ok (.invokevirtual 42, 3) := by decide +kernel
theorem dX3_isOpen_15 : decode cX3_isOpen 15 = .ok (.ireturn, 1) := by decide +kernel
theorem dX3_cover_0 : decode cX3_cover 0 = .ok (.iload_n 1, 1) := by decide +kernel
theorem dX3_cover_1 : decode cX3_cover 1 = .ok (.iload_n 2, 1) := by decide +kernel
theorem dX3_cover_2 : decode cX3_cover 2 = .ok (.invokestatic 50, 3) := by decide +kernel
theorem dX3_cover_5 : decode cX3_cover 5 = .ok (.invokestatic 34, 3) := by decide +kernel
theorem dX3_cover_8 : decode cX3_cover 8 = .ok (.iload_n 2, 1) := by decide +kernel
theorem dX3_cover_9 : decode cX3_cover 9 = .ok (.aload_n 0, 1) := by decide +kernel
theorem dX3_cover_10 : decode cX3_cover 10 = .ok (.getfield 10, 3) := by decide +kernel
theorem dX3_cover_13 : decode cX3_cover 13 = .ok (.getfield 54, 3) := by decide +kernel
theorem dX3_cover_16 : decode cX3_cover 16 = .ok (.iload_n 1, 1) := by decide +kernel
theorem dX3_cover_17 : decode cX3_cover 17 = .ok (.invokestatic 58, 3) := by decide +kernel
theorem dX3_cover_20 : decode cX3_cover 20 = .ok (.invokestatic 66, 3) := by decide +kernel
theorem dX3_cover_23 : decode cX3_cover 23 = .ok (.ireturn, 1) := by decide +kernel
theorem dX3_uncover_0 : decode cX3_uncover 0 = .ok (.iload_n 1, 1) := by decide +kernel
theorem dX3_uncover_1 : decode cX3_uncover 1 = .ok (.iload_n 2, 1) := by decide +kernel
theorem dX3_uncover_2 : decode cX3_uncover 2 = .ok (.invokestatic 50, 3) := by decide +kernel
theorem dX3_uncover_5 : decode cX3_uncover 5 = .ok (.invokestatic 34, 3) := by decide +kernel
theorem dX3_uncover_8 : decode cX3_uncover 8 = .ok (.iload_n 2, 1) := by decide +kernel
theorem dX3_uncover_9 : decode cX3_uncover 9 = .ok (.aload_n 0, 1) := by decide +kernel
theorem dX3_uncover_10 : decode cX3_uncover 10 = .ok (.getfield 10, 3) := by decide +kernel
theorem dX3_uncover_13 : decode cX3_uncover 13 = .ok (.getfield 54, 3) := by decide +kernel
theorem dX3_uncover_16 : decode cX3_uncover 16 = .ok (.iload_n 1, 1) := by decide +kernel
theorem dX3_uncover_17 : decode cX3_uncover 17 = .ok (.invokestatic 58, 3) := by decide +kernel
theorem dX3_uncover_20 : decode cX3_uncover 20 = .ok (.invokestatic 69, 3) := by decide +kernel
theorem dX3_uncover_23 : decode cX3_uncover 23 = .ok (.ireturn, 1) := by decide +kernel
theorem dX3_lay_0 : decode cX3_lay 0 = .ok (.aload_n 0, 1) := by decide +kernel
theorem dX3_lay_1 : decode cX3_lay 1 = .ok (.iload_n 1, 1) := by decide +kernel
theorem dX3_lay_2 : decode cX3_lay 2 = .ok (.iload_n 2, 1) := by decide +kernel
theorem dX3_lay_3 : decode cX3_lay 3 = .ok (.iload_n 3, 1) := by decide +kernel
theorem dX3_lay_4 : decode cX3_lay 4 = .ok (.iload 4, 2) := by decide +kernel
theorem dX3_lay_6 : decode cX3_lay 6 = .ok (.invokevirtual 72, 3) := by decide +kernel
theorem dX3_lay_9 : decode cX3_lay 9 = .ok (.invokestatic 34, 3) := by decide +kernel
theorem dX3_lay_12 : decode cX3_lay 12 = .ok (.aload_n 0, 1) := by decide +kernel
theorem dX3_lay_13 : decode cX3_lay 13 = .ok (.getfield 19, 3) := by decide +kernel
theorem dX3_lay_16 : decode cX3_lay 16 = .ok (.aload_n 0, 1) := by decide +kernel
theorem dX3_lay_17 : decode cX3_lay 17 = .ok (.getfield 10, 3) := by decide +kernel
theorem dX3_lay_20 : decode cX3_lay 20 = .ok (.invokevirtual 38, 3) := by decide +kernel
theorem dX3_lay_23 : decode cX3_lay 23 = .ok (.aload_n 0, 1) := by decide +kernel
theorem dX3_lay_24 : decode cX3_lay 24 = .ok (.getfield 10, 3) := by decide +kernel
theorem dX3_lay_27 : decode cX3_lay 27 = .ok (.iload_n 1, 1) := by decide +kernel
theorem dX3_lay_28 : decode cX3_lay 28 = .ok (.iload_n 2, 1) := by decide +kernel
theorem dX3_lay_29 : decode cX3_lay 29 = .ok (.iload_n 3, 1) := by decide +kernel
theorem dX3_lay_30 : decode cX3_lay 30 = .ok (.iload 4, 2) := by decide +kernel
theorem dX3_lay_32 : decode cX3_lay 32 = .ok (.invokevirtual 76, 3) := by decide +kernel
theorem dX3_lay_35 : decode cX3_lay 35 = .ok (.ireturn, 1) := by decide +kernel
theorem dX3_takeUp_0 : decode cX3_takeUp 0 = .ok (.aload_n 0, 1) := by decide +kernel
theorem dX3_takeUp_1 : decode cX3_takeUp 1 = .ok (.getfield 10, 3) := by decide +kernel
theorem dX3_takeUp_4 : decode cX3_takeUp 4 = .ok (.getfield 79, 3) := by decide +kernel
theorem dX3_takeUp_7 : decode cX3_takeUp 7 = .ok (.ifCond .eq 22, 3) := by decide +kernel
theorem dX3_takeUp_10 : decode cX3_takeUp 10 = .ok (.aload_n 0, 1) := by decide +kernel
theorem dX3_takeUp_11 : decode cX3_takeUp 11 = .ok (.getfield 10, 3) := by decide +kernel
theorem dX3_takeUp_14 : decode cX3_takeUp 14 = .ok (.aload_n 0, 1) := by decide +kernel
theorem dX3_takeUp_15 : decode cX3_takeUp 15 = .ok (.getfield 10, 3) := by decide +kernel
theorem dX3_takeUp_18 : decode cX3_takeUp 18 = .ok (.getfield 79, 3) := by decide +kernel
theorem dX3_takeUp_21 : decode cX3_takeUp 21 = .ok (.iconst 1, 1) := by decide +kernel
theorem dX3_takeUp_22 : decode cX3_takeUp 22 = .ok (.isub, 1) := by decide +kernel
theorem dX3_takeUp_23 : decode cX3_takeUp 23 = .ok (.invokevirtual 83, 3) := by decide +kernel
theorem dX3_takeUp_26 : decode cX3_takeUp 26 = .ok (.ifCond .eq 13, 3) := by decide +kernel
theorem dX3_takeUp_29 : decode cX3_takeUp 29 = .ok (.new 86, 3) := by decide +kernel
theorem dX3_takeUp_32 : decode cX3_takeUp 32 = .ok (.dup, 1) := by decide +kernel
theorem dX3_takeUp_33 : decode cX3_takeUp 33 = .ok (.ldc 88, 2) := by decide +kernel
theorem dX3_takeUp_35 : decode cX3_takeUp 35 = .ok (.invokespecial 90, 3) := by decide +kernel
theorem dX3_takeUp_38 : decode cX3_takeUp 38 = .ok (.athrow, 1) := by decide +kernel
theorem dX3_takeUp_39 : decode cX3_takeUp 39 = .ok (.aload_n 0, 1) := by decide +kernel
theorem dX3_takeUp_40 : decode cX3_takeUp 40 = .ok (.getfield 19, 3) := by decide +kernel
theorem dX3_takeUp_43 : decode cX3_takeUp 43 = .ok (.aload_n 0, 1) := by decide +kernel
theorem dX3_takeUp_44 : decode cX3_takeUp 44 = .ok (.getfield 10, 3) := by decide +kernel
theorem dX3_takeUp_47 : decode cX3_takeUp 47 = .ok (.invokevirtual 38, 3) := by decide +kernel
theorem dX3_takeUp_50 : decode cX3_takeUp 50 = .ok (.aload_n 0, 1) := by decide +kernel
theorem dX3_takeUp_51 : decode cX3_takeUp 51 = .ok (.getfield 10, 3) := by decide +kernel
theorem dX3_takeUp_54 : decode cX3_takeUp 54 = .ok (.invokevirtual 93, 3) := by decide +kernel
theorem dX3_takeUp_57 : decode cX3_takeUp 57 = .ok (.aload_n 0, 1) := by decide +kernel
theorem dX3_takeUp_58 : decode cX3_takeUp 58 = .ok (.getfield 10, 3) := by decide +kernel
theorem dX3_takeUp_61 : decode cX3_takeUp 61 = .ok (.getfield 79, 3) := by decide +kernel
theorem dX3_takeUp_64 : decode cX3_takeUp 64 = .ok (.ireturn, 1) := by decide +kernel
theorem dX3_roads_0 : decode cX3_roads 0 = .ok (.aload_n 0, 1) := by decide +kernel
theorem dX3_roads_1 : decode cX3_roads 1 = .ok (.getfield 10, 3) := by decide +kernel
theorem dX3_roads_4 : decode cX3_roads 4 = .ok (.getfield 79, 3) := by decide +kernel
theorem dX3_roads_7 : decode cX3_roads 7 = .ok (.ireturn, 1) := by decide +kernel
theorem dX3_inn_0 : decode cX3_inn 0 = .ok (.iload_n 2, 1) := by decide +kernel
theorem dX3_inn_1 : decode cX3_inn 1 = .ok (.iconst 1, 1) := by decide +kernel
theorem dX3_inn_2 : decode cX3_inn 2 = .ok (.iconst 3, 1) := by decide +kernel
theorem dX3_inn_3 : decode cX3_inn 3 = .ok (.invokestatic 96, 3) := by decide +kernel
theorem dX3_inn_6 : decode cX3_inn 6 = .ok (.ifCond .eq 11, 3) := by decide +kernel
theorem dX3_inn_9 : decode cX3_inn 9 = .ok (.aload_n 0, 1) := by decide +kernel
theorem dX3_inn_10 : decode cX3_inn 10 = .ok (.iload_n 1, 1) := by decide +kernel
theorem dX3_inn_11 : decode cX3_inn 11 = .ok (.invokevirtual 100, 3) := by decide +kernel
theorem dX3_inn_14 : decode cX3_inn 14 = .ok (.goto 4, 3) := by decide +kernel
theorem dX3_inn_17 : decode cX3_inn 17 = .ok (.iconst 1, 1) := by decide +kernel
theorem dX3_inn_18 : decode cX3_inn 18 = .ok (.invokestatic 34, 3) := by decide +kernel
theorem dX3_inn_21 : decode cX3_inn 21 = .ok (.aload_n 0, 1) := by decide +kernel
theorem dX3_inn_22 : decode cX3_inn 22 = .ok (.getfield 10, 3) := by decide +kernel
theorem dX3_inn_25 : decode cX3_inn 25 = .ok (.iload_n 1, 1) := by decide +kernel
theorem dX3_inn_26 : decode cX3_inn 26 = .ok (.iload_n 2, 1) := by decide +kernel
theorem dX3_inn_27 : decode cX3_inn 27 = .ok (.invokevirtual 103, 3) := by decide +kernel
theorem dX3_inn_30 : decode cX3_inn 30 = .ok (.ireturn, 1) := by decide +kernel
theorem dX3_hall_0 : decode cX3_hall 0 = .ok (.aload_n 0, 1) := by decide +kernel
theorem dX3_hall_1 : decode cX3_hall 1 = .ok (.iload_n 1, 1) := by decide +kernel
theorem dX3_hall_2 : decode cX3_hall 2 = .ok (.invokevirtual 100, 3) := by decide +kernel
theorem dX3_hall_5 : decode cX3_hall 5 = .ok (.invokestatic 34, 3) := by decide +kernel
theorem dX3_hall_8 : decode cX3_hall 8 = .ok (.aload_n 0, 1) := by decide +kernel
theorem dX3_hall_9 : decode cX3_hall 9 = .ok (.getfield 10, 3) := by decide +kernel
theorem dX3_hall_12 : decode cX3_hall 12 = .ok (.getfield 106, 3) := by decide +kernel
theorem dX3_hall_15 : decode cX3_hall 15 = .ok (.iload_n 1, 1) := by decide +kernel
theorem dX3_hall_16 : decode cX3_hall 16 = .ok (.invokestatic 58, 3) := by decide +kernel
theorem dX3_hall_19 : decode cX3_hall 19 = .ok (.ireturn, 1) := by decide +kernel
theorem dX3_stands_0 : decode cX3_stands 0 = .ok (.aload_n 0, 1) := by decide +kernel
theorem dX3_stands_1 : decode cX3_stands 1 = .ok (.iload_n 1, 1) := by decide +kernel
theorem dX3_stands_2 : decode cX3_stands 2 = .ok (.invokevirtual 100, 3) := by decide +kernel
theorem dX3_stands_5 : decode cX3_stands 5 = .ok (.invokestatic 34, 3) := by decide +kernel
theorem dX3_stands_8 : decode cX3_stands 8 = .ok (.aload_n 0, 1) := by decide +kernel
theorem dX3_stands_9 : decode cX3_stands 9 = .ok (.getfield 10, 3) := by decide +kernel
theorem dX3_stands_12 : decode cX3_stands 12 = .ok (.iload_n 1, 1) := by decide +kernel
theorem dX3_stands_13 : decode cX3_stands 13 = .ok (.invokevirtual 109, 3) := by decide +kernel
theorem dX3_stands_16 : decode cX3_stands 16 = .ok (.ireturn, 1) := by decide +kernel
theorem dX3_see_0 : decode cX3_see 0 = .ok (.iload_n 1, 1) := by decide +kernel
theorem dX3_see_1 : decode cX3_see 1 = .ok (.invokestatic 30, 3) := by decide +kernel
theorem dX3_see_4 : decode cX3_see 4 = .ok (.invokestatic 34, 3) := by decide +kernel
theorem dX3_see_7 : decode cX3_see 7 = .ok (.iload_n 3, 1) := by decide +kernel
theorem dX3_see_8 : decode cX3_see 8 = .ok (.iconst 0, 1) := by decide +kernel
theorem dX3_see_9 : decode cX3_see 9 = .ok (.iconst 1, 1) := by decide +kernel
theorem dX3_see_10 : decode cX3_see 10 = .ok (.invokestatic 96, 3) := by decide +kernel
theorem dX3_see_13 : decode cX3_see 13 = .ok (.ifCond .eq 11, 3) := by decide +kernel
theorem dX3_see_16 : decode cX3_see 16 = .ok (.aload_n 0, 1) := by decide +kernel
theorem dX3_see_17 : decode cX3_see 17 = .ok (.iload_n 2, 1) := by decide +kernel
theorem dX3_see_18 : decode cX3_see 18 = .ok (.invokevirtual 100, 3) := by decide +kernel
theorem dX3_see_21 : decode cX3_see 21 = .ok (.goto 4, 3) := by decide +kernel
theorem dX3_see_24 : decode cX3_see 24 = .ok (.iconst 1, 1) := by decide +kernel
theorem dX3_see_25 : decode cX3_see 25 = .ok (.invokestatic 34, 3) := by decide +kernel
theorem dX3_see_28 : decode cX3_see 28 = .ok (.aload_n 0, 1) := by decide +kernel
theorem dX3_see_29 : decode cX3_see 29 = .ok (.getfield 10, 3) := by decide +kernel
theorem dX3_see_32 : decode cX3_see 32 = .ok (.iload_n 1, 1) := by decide +kernel
theorem dX3_see_33 : decode cX3_see 33 = .ok (.iload_n 2, 1) := by decide +kernel
theorem dX3_see_34 : decode cX3_see 34 = .ok (.iload_n 3, 1) := by decide +kernel
theorem dX3_see_35 : decode cX3_see 35 = .ok (.invokevirtual 112, 3) := by decide +kernel
theorem dX3_see_38 : decode cX3_see 38 = .ok (.ireturn, 1) := by decide +kernel
theorem dX3_known_0 : decode cX3_known 0 = .ok (.iload_n 1, 1) := by decide +kernel
theorem dX3_known_1 : decode cX3_known 1 = .ok (.invokestatic 30, 3) := by decide +kernel
theorem dX3_known_4 : decode cX3_known 4 = .ok (.invokestatic 34, 3) := by decide +kernel
theorem dX3_known_7 : decode cX3_known 7 = .ok (.aload_n 0, 1) := by decide +kernel
theorem dX3_known_8 : decode cX3_known 8 = .ok (.getfield 10, 3) := by decide +kernel
theorem dX3_known_11 : decode cX3_known 11 = .ok (.iload_n 1, 1) := by decide +kernel
theorem dX3_known_12 : decode cX3_known 12 = .ok (.invokevirtual 116, 3) := by decide +kernel
theorem dX3_known_15 : decode cX3_known 15 = .ok (.ireturn, 1) := by decide +kernel
theorem dX3_send_0 : decode cX3_send 0 = .ok (.aload_n 0, 1) := by decide +kernel
theorem dX3_send_1 : decode cX3_send 1 = .ok (.iload_n 1, 1) := by decide +kernel
theorem dX3_send_2 : decode cX3_send 2 = .ok (.iload_n 2, 1) := by decide +kernel
theorem dX3_send_3 : decode cX3_send 3 = .ok (.invokevirtual 119, 3) := by decide +kernel
theorem dX3_send_6 : decode cX3_send 6 = .ok (.invokestatic 34, 3) := by decide +kernel
theorem dX3_send_9 : decode cX3_send 9 = .ok (.aload_n 0, 1) := by decide +kernel
theorem dX3_send_10 : decode cX3_send 10 = .ok (.getfield 19, 3) := by decide +kernel
theorem dX3_send_13 : decode cX3_send 13 = .ok (.aload_n 0, 1) := by decide +kernel
theorem dX3_send_14 : decode cX3_send 14 = .ok (.getfield 10, 3) := by decide +kernel
theorem dX3_send_17 : decode cX3_send 17 = .ok (.invokevirtual 38, 3) := by decide +kernel
theorem dX3_send_20 : decode cX3_send 20 = .ok (.aload_n 0, 1) := by decide +kernel
theorem dX3_send_21 : decode cX3_send 21 = .ok (.getfield 10, 3) := by decide +kernel
theorem dX3_send_24 : decode cX3_send 24 = .ok (.iload_n 1, 1) := by decide +kernel
theorem dX3_send_25 : decode cX3_send 25 = .ok (.iload_n 2, 1) := by decide +kernel
theorem dX3_send_26 : decode cX3_send 26 = .ok (.invokevirtual 122, 3) := by decide +kernel
theorem dX3_send_29 : decode cX3_send 29 = .ok (.ireturn, 1) := by decide +kernel
theorem dX3_answer_0 : decode cX3_answer 0 = .ok (.aload_n 0, 1) := by decide +kernel
theorem dX3_answer_1 : decode cX3_answer 1 = .ok (.iload_n 1, 1) := by decide +kernel
theorem dX3_answer_2 : decode cX3_answer 2 = .ok (.iload_n 2, 1) := by decide +kernel
theorem dX3_answer_3 : decode cX3_answer 3 = .ok (.invokevirtual 125, 3) := by decide +kernel
theorem dX3_answer_6 : decode cX3_answer 6 = .ok (.invokestatic 34, 3) := by decide +kernel
theorem dX3_answer_9 : decode cX3_answer 9 = .ok (.aload_n 0, 1) := by decide +kernel
theorem dX3_answer_10 : decode cX3_answer 10 = .ok (.getfield 19, 3) := by decide +kernel
theorem dX3_answer_13 : decode cX3_answer 13 = .ok (.aload_n 0, 1) := by decide +kernel
theorem dX3_answer_14 : decode cX3_answer 14 = .ok (.getfield 10, 3) := by decide +kernel
theorem dX3_answer_17 : decode cX3_answer 17 = .ok (.invokevirtual 38, 3) := by decide +kernel
theorem dX3_answer_20 : decode cX3_answer 20 = .ok (.aload_n 0, 1) := by decide +kernel
theorem dX3_answer_21 : decode cX3_answer 21 = .ok (.getfield 10, 3) := by decide +kernel
theorem dX3_answer_24 : decode cX3_answer 24 = .ok (.iload_n 1, 1) := by decide +kernel
theorem dX3_answer_25 : decode cX3_answer 25 = .ok (.iload_n 2, 1) := by decide +kernel
theorem dX3_answer_26 : decode cX3_answer 26 = .ok (.invokevirtual 128, 3) := by decide +kernel
theorem dX3_answer_29 : decode cX3_answer 29 = .ok (.ireturn, 1) := by decide +kernel
theorem dX3_pass_0 : decode cX3_pass 0 = .ok (.iload_n 1, 1) := by decide +kernel
theorem dX3_pass_1 : decode cX3_pass 1 = .ok (.iconst 1, 1) := by decide +kernel
theorem dX3_pass_2 : decode cX3_pass 2 = .ok (.bipush 9, 2) := by decide +kernel
theorem dX3_pass_4 : decode cX3_pass 4 = .ok (.invokestatic 96, 3) := by decide +kernel
theorem dX3_pass_7 : decode cX3_pass 7 = .ok (.ifCond .ne 13, 3) := by decide +kernel
theorem dX3_pass_10 : decode cX3_pass 10 = .ok (.new 131, 3) := by decide +kernel
theorem dX3_pass_13 : decode cX3_pass 13 = .ok (.dup, 1) := by decide +kernel
theorem dX3_pass_14 : decode cX3_pass 14 = .ok (.ldc 133, 2) := by decide +kernel
theorem dX3_pass_16 : decode cX3_pass 16 = .ok (.invokespecial 135, 3) := by decide +kernel
theorem dX3_pass_19 : decode cX3_pass 19 = .ok (.athrow, 1) := by decide +kernel
theorem dX3_pass_20 : decode cX3_pass 20 = .ok (.aload_n 0, 1) := by decide +kernel
theorem dX3_pass_21 : decode cX3_pass 21 = .ok (.getfield 19, 3) := by decide +kernel
theorem dX3_pass_24 : decode cX3_pass 24 = .ok (.aload_n 0, 1) := by decide +kernel
theorem dX3_pass_25 : decode cX3_pass 25 = .ok (.getfield 10, 3) := by decide +kernel
theorem dX3_pass_28 : decode cX3_pass 28 = .ok (.invokevirtual 38, 3) := by decide +kernel
theorem dX3_pass_31 : decode cX3_pass 31 = .ok (.aload_n 0, 1) := by decide +kernel
theorem dX3_pass_32 : decode cX3_pass 32 = .ok (.getfield 10, 3) := by decide +kernel
theorem dX3_pass_35 : decode cX3_pass 35 = .ok (.iload_n 1, 1) := by decide +kernel
theorem dX3_pass_36 : decode cX3_pass 36 = .ok (.invokevirtual 136, 3) := by decide +kernel
theorem dX3_pass_39 : decode cX3_pass 39 = .ok (.ireturn, 1) := by decide +kernel
theorem dX3_envelopes_0 : decode cX3_envelopes 0 = .ok (.aload_n 0, 1) := by decide +kernel
theorem dX3_envelopes_1 : decode cX3_envelopes 1 = .ok (.getfield 10, 3) := by decide +kernel
theorem dX3_envelopes_4 : decode cX3_envelopes 4 = .ok (.getfield 139, 3) := by decide +kernel
theorem dX3_envelopes_7 : decode cX3_envelopes 7 = .ok (.ireturn, 1) := by decide +kernel
theorem dX3_envelope_0 : decode cX3_envelope 0 = .ok (.iload_n 2, 1) := by decide +kernel
theorem dX3_envelope_1 : decode cX3_envelope 1 = .ok (.iconst 0, 1) := by decide +kernel
theorem dX3_envelope_2 : decode cX3_envelope 2 = .ok (.iconst 3, 1) := by decide +kernel
theorem dX3_envelope_3 : decode cX3_envelope 3 = .ok (.invokestatic 96, 3) := by decide +kernel
theorem dX3_envelope_6 : decode cX3_envelope 6 = .ok (.ifCond .eq 11, 3) := by decide +kernel
theorem dX3_envelope_9 : decode cX3_envelope 9 = .ok (.aload_n 0, 1) := by decide +kernel
theorem dX3_envelope_10 : decode cX3_envelope 10 = .ok (.iload_n 1, 1) := by decide +kernel
theorem dX3_envelope_11 : decode cX3_envelope 11 = .ok (.invokevirtual 142, 3) := by decide +kernel
theorem dX3_envelope_14 : decode cX3_envelope 14 = .ok (.goto 4, 3) := by decide +kernel
theorem dX3_envelope_17 : decode cX3_envelope 17 = .ok (.iconst 1, 1) := by decide +kernel
theorem dX3_envelope_18 : decode cX3_envelope 18 = .ok (.invokestatic 34, 3) := by decide +kernel
theorem dX3_envelope_21 : decode cX3_envelope 21 = .ok (.aload_n 0, 1) := by decide +kernel
theorem dX3_envelope_22 : decode cX3_envelope 22 = .ok (.getfield 10, 3) := by decide +kernel
theorem dX3_envelope_25 : decode cX3_envelope 25 = .ok (.iload_n 1, 1) := by decide +kernel
theorem dX3_envelope_26 : decode cX3_envelope 26 = .ok (.iload_n 2, 1) := by decide +kernel
theorem dX3_envelope_27 : decode cX3_envelope 27 = .ok (.invokevirtual 145, 3) := by decide +kernel
theorem dX3_envelope_30 : decode cX3_envelope 30 = .ok (.ireturn, 1) := by decide +kernel
theorem dX3_letter_0 : decode cX3_letter 0 = .ok (.iload_n 1, 1) := by decide +kernel
theorem dX3_letter_1 : decode cX3_letter 1 = .ok (.invokestatic 148, 3) := by decide +kernel
theorem dX3_letter_4 : decode cX3_letter 4 = .ok (.invokestatic 34, 3) := by decide +kernel
theorem dX3_letter_7 : decode cX3_letter 7 = .ok (.aload_n 0, 1) := by decide +kernel
theorem dX3_letter_8 : decode cX3_letter 8 = .ok (.getfield 10, 3) := by decide +kernel
theorem dX3_letter_11 : decode cX3_letter 11 = .ok (.getfield 151, 3) := by decide +kernel
theorem dX3_letter_14 : decode cX3_letter 14 = .ok (.iload_n 1, 1) := by decide +kernel
theorem dX3_letter_15 : decode cX3_letter 15 = .ok (.invokestatic 58, 3) := by decide +kernel
theorem dX3_letter_18 : decode cX3_letter 18 = .ok (.ireturn, 1) := by decide +kernel
theorem dX3_lastAnswer_0 : decode cX3_lastAnswer 0 = .ok (.aload_n 0, 1) := by decide +kernel
theorem dX3_lastAnswer_1 : decode cX3_lastAnswer 1 = .ok (.getfield 10, 3) := by decide +kernel
theorem dX3_lastAnswer_4 : decode cX3_lastAnswer 4 = .ok (.getfield 154, 3) := by decide +kernel
theorem dX3_lastAnswer_7 : decode cX3_lastAnswer 7 = .ok (.ireturn, 1) := by decide +kernel
theorem dX3_count_0 : decode cX3_count 0 = .ok (.iload_n 1, 1) := by decide +kernel
theorem dX3_count_1 : decode cX3_count 1 = .ok (.iconst 0, 1) := by decide +kernel
theorem dX3_count_2 : decode cX3_count 2 = .ok (.iconst 4, 1) := by decide +kernel
theorem dX3_count_3 : decode cX3_count 3 = .ok (.invokestatic 96, 3) := by decide +kernel
theorem dX3_count_6 : decode cX3_count 6 = .ok (.ifCond .eq 7, 3) := by decide +kernel
theorem dX3_count_9 : decode cX3_count 9 = .ok (.iconst 0, 1) := by decide +kernel
theorem dX3_count_10 : decode cX3_count 10 = .ok (.goto 4, 3) := by decide +kernel
theorem dX3_count_13 : decode cX3_count 13 = .ok (.iconst 1, 1) := by decide +kernel
theorem dX3_count_14 : decode cX3_count 14 = .ok (.invokestatic 34, 3) := by decide +kernel
theorem dX3_count_17 : decode cX3_count 17 = .ok (.aload_n 0, 1) := by decide +kernel
theorem dX3_count_18 : decode cX3_count 18 = .ok (.getfield 10, 3) := by decide +kernel
theorem dX3_count_21 : decode cX3_count 21 = .ok (.getfield 157, 3) := by decide +kernel
theorem dX3_count_24 : decode cX3_count 24 = .ok (.iload_n 1, 1) := by decide +kernel
theorem dX3_count_25 : decode cX3_count 25 = .ok (.invokestatic 58, 3) := by decide +kernel
theorem dX3_count_28 : decode cX3_count 28 = .ok (.ireturn, 1) := by decide +kernel
theorem dX3_deliveredShare_0 : decode cX3_deliveredShare 0 = .ok (.aload_n 0, 1) := by decide +kernel
theorem dX3_deliveredShare_1 : decode cX3_deliveredShare 1 = .ok (.getfield 10, 3) := by decide +kernel
theorem dX3_deliveredShare_4 : decode cX3_deliveredShare 4 = .ok (.getfield 157, 3) := by decide +kernel
theorem dX3_deliveredShare_7 : decode cX3_deliveredShare 7 = .ok (.iconst 0, 1) := by decide +kernel
theorem dX3_deliveredShare_8 : decode cX3_deliveredShare 8 = .ok (.invokestatic 58, 3) := by decide +kernel
theorem dX3_deliveredShare_11 : decode cX3_deliveredShare 11 = .ok (.istore_n 1, 1) := by decide +kernel
theorem dX3_deliveredShare_12 : decode cX3_deliveredShare 12 = .ok (.iload_n 1, 1) := by decide +kernel
theorem dX3_deliveredShare_13 : decode cX3_deliveredShare 13 = .ok (.ifCond .ne 5, 3) := by decide +kernel
theorem dX3_deliveredShare_16 : decode cX3_deliveredShare 16 = .ok (.dconst 1, 1) := by decide +kernel
theorem dX3_deliveredShare_17 : decode cX3_deliveredShare 17 = .ok (.dreturn, 1) := by decide +kernel
theorem dX3_deliveredShare_18 : decode cX3_deliveredShare 18 = .ok (.aload_n 0, 1) := by decide +kernel
theorem dX3_deliveredShare_19 : decode cX3_deliveredShare 19 = .ok (.getfield 10, 3) := by decide +kernel
theorem dX3_deliveredShare_22 : decode cX3_deliveredShare 22 = .ok (.getfield 157, 3) := by decide +kernel
theorem dX3_deliveredShare_25 : decode cX3_deliveredShare 25 = .ok (.iconst 1, 1) := by decide +kernel
theorem dX3_deliveredShare_26 : decode cX3_deliveredShare 26 = .ok (.invokestatic 58, 3) := by decide +kernel
theorem dX3_deliveredShare_29 : decode cX3_deliveredShare 29 = .ok (.i2d, 1) := by decide +kernel
theorem dX3_deliveredShare_30 : decode cX3_deliveredShare 30 = .ok (.iload_n 1, 1) := by decide +kernel
theorem dX3_deliveredShare_31 : decode cX3_deliveredShare 31 = .ok (.i2d, 1) := by decide +kernel
theorem dX3_deliveredShare_32 : decode cX3_deliveredShare 32 = .ok (.ddiv, 1) := by decide +kernel
theorem dX3_deliveredShare_33 : decode cX3_deliveredShare 33 = .ok (.dreturn, 1) := by decide +kernel
theorem dX3_lostIfClosed_0 : decode cX3_lostIfClosed 0 = .ok (.iload_n 1, 1) := by decide +kernel
theorem dX3_lostIfClosed_1 : decode cX3_lostIfClosed 1 = .ok (.invokestatic 30, 3) := by decide +kernel
theorem dX3_lostIfClosed_4 : decode cX3_lostIfClosed 4 = .ok (.invokestatic 34, 3) := by decide +kernel
theorem dX3_lostIfClosed_7 : decode cX3_lostIfClosed 7 = .ok (.aload_n 0, 1) := by decide +kernel
theorem dX3_lostIfClosed_8 : decode cX3_lostIfClosed 8 = .ok (.getfield 10, 3) := by decide +kernel
theorem dX3_lostIfClosed_11 : decode cX3_lostIfClosed 11 = .ok (.iload_n 1, 1) := by decide +kernel
theorem dX3_lostIfClosed_12 : decode cX3_lostIfClosed 12 = .ok (.invokevirtual 160, 3) := by decide +kernel
theorem dX3_lostIfClosed_15 : decode cX3_lostIfClosed 15 = .ok (.ireturn, 1) := by decide +kernel
theorem dX3_ticksTo_0 : decode cX3_ticksTo 0 = .ok (.aload_n 0, 1) := by decide +kernel
theorem dX3_ticksTo_1 : decode cX3_ticksTo 1 = .ok (.iload_n 1, 1) := by decide +kernel
theorem dX3_ticksTo_2 : decode cX3_ticksTo 2 = .ok (.invokevirtual 142, 3) := by decide +kernel
theorem dX3_ticksTo_5 : decode cX3_ticksTo 5 = .ok (.invokestatic 34, 3) := by decide +kernel
theorem dX3_ticksTo_8 : decode cX3_ticksTo 8 = .ok (.aload_n 0, 1) := by decide +kernel
theorem dX3_ticksTo_9 : decode cX3_ticksTo 9 = .ok (.getfield 10, 3) := by decide +kernel
theorem dX3_ticksTo_12 : decode cX3_ticksTo 12 = .ok (.iload_n 1, 1) := by decide +kernel
theorem dX3_ticksTo_13 : decode cX3_ticksTo 13 = .ok (.aload_n 0, 1) := by decide +kernel
theorem dX3_ticksTo_14 : decode cX3_ticksTo 14 = .ok (.getfield 10, 3) := by decide +kernel
theorem dX3_ticksTo_17 : decode cX3_ticksTo 17 = .ok (.getfield 163, 3) := by decide +kernel
theorem dX3_ticksTo_20 : decode cX3_ticksTo 20 = .ok (.invokevirtual 166, 3) := by decide +kernel
theorem dX3_ticksTo_23 : decode cX3_ticksTo 23 = .ok (.ireturn, 1) := by decide +kernel
theorem dX3_leastWork_0 : decode cX3_leastWork 0 = .ok (.iload_n 1, 1) := by decide +kernel
theorem dX3_leastWork_1 : decode cX3_leastWork 1 = .ok (.iconst 1, 1) := by decide +kernel
theorem dX3_leastWork_2 : decode cX3_leastWork 2 = .ok (.iconst 3, 1) := by decide +kernel
theorem dX3_leastWork_3 : decode cX3_leastWork 3 = .ok (.invokestatic 96, 3) := by decide +kernel
theorem dX3_leastWork_6 : decode cX3_leastWork 6 = .ok (.ifCond .eq 7, 3) := by decide +kernel
theorem dX3_leastWork_9 : decode cX3_leastWork 9 = .ok (.iconst 0, 1) := by decide +kernel
theorem dX3_leastWork_10 : decode cX3_leastWork 10 = .ok (.goto 4, 3) := by decide +kernel
theorem dX3_leastWork_13 : decode cX3_leastWork 13 = .ok (.iconst 1, 1) := by decide +kernel
theorem dX3_leastWork_14 : decode cX3_leastWork 14 = .ok (.invokestatic 34, 3) := by decide +kernel
theorem dX3_leastWork_17 : decode cX3_leastWork 17 = .ok (.aload_n 0, 1) := by decide +kernel
theorem dX3_leastWork_18 : decode cX3_leastWork 18 = .ok (.getfield 10, 3) := by decide +kernel
theorem dX3_leastWork_21 : decode cX3_leastWork 21 = .ok (.iload_n 1, 1) := by decide +kernel
theorem dX3_leastWork_22 : decode cX3_leastWork 22 = .ok (.invokevirtual 169, 3) := by decide +kernel
theorem dX3_leastWork_25 : decode cX3_leastWork 25 = .ok (.ireturn, 1) := by decide +kernel
theorem dX3_undo_0 : decode cX3_undo 0 = .ok (.aload_n 0, 1) := by decide +kernel
theorem dX3_undo_1 : decode cX3_undo 1 = .ok (.getfield 19, 3) := by decide +kernel
theorem dX3_undo_4 : decode cX3_undo 4 = .ok (.getfield 202, 3) := by decide +kernel
theorem dX3_undo_7 : decode cX3_undo 7 = .ok (.ifCond .ne 13, 3) := by decide +kernel
theorem dX3_undo_10 : decode cX3_undo 10 = .ok (.new 86, 3) := by decide +kernel
theorem dX3_undo_13 : decode cX3_undo 13 = .ok (.dup, 1) := by decide +kernel
theorem dX3_undo_14 : decode cX3_undo 14 = .ok (.ldc 205, 2) := by decide +kernel
theorem dX3_undo_16 : decode cX3_undo 16 = .ok (.invokespecial 90, 3) := by decide +kernel
theorem dX3_undo_19 : decode cX3_undo 19 = .ok (.athrow, 1) := by decide +kernel
theorem dX3_undo_20 : decode cX3_undo 20 = .ok (.aload_n 0, 1) := by decide +kernel
theorem dX3_undo_21 : decode cX3_undo 21 = .ok (.getfield 19, 3) := by decide +kernel
theorem dX3_undo_24 : decode cX3_undo 24 = .ok (.aload_n 0, 1) := by decide +kernel
theorem dX3_undo_25 : decode cX3_undo 25 = .ok (.getfield 10, 3) := by decide +kernel
theorem dX3_undo_28 : decode cX3_undo 28 = .ok (.invokevirtual 207, 3) := by decide +kernel
theorem dX3_undo_31 : decode cX3_undo 31 = .ok (.aload_n 0, 1) := by decide +kernel
theorem dX3_undo_32 : decode cX3_undo 32 = .ok (.getfield 19, 3) := by decide +kernel
theorem dX3_undo_35 : decode cX3_undo 35 = .ok (.getfield 202, 3) := by decide +kernel
theorem dX3_undo_38 : decode cX3_undo 38 = .ok (.ireturn, 1) := by decide +kernel
theorem dX3_savedStates_0 : decode cX3_savedStates 0 = .ok (.aload_n 0, 1) := by decide +kernel
theorem dX3_savedStates_1 : decode cX3_savedStates 1 = .ok (.getfield 19, 3) := by decide +kernel
theorem dX3_savedStates_4 : decode cX3_savedStates 4 = .ok (.getfield 202, 3) := by decide +kernel
theorem dX3_savedStates_7 : decode cX3_savedStates 7 = .ok (.ireturn, 1) := by decide +kernel
theorem dX3_digest_0 : decode cX3_digest 0 = .ok (.ldc2_w 210, 3) := by decide +kernel
theorem dX3_digest_3 : decode cX3_digest 3 = .ok (.lstore_n 1, 1) := by decide +kernel
theorem dX3_digest_4 : decode cX3_digest 4 = .ok (.lload_n 1, 1) := by decide +kernel
theorem dX3_digest_5 : decode cX3_digest 5 = .ok (.aload_n 0, 1) := by decide +kernel
theorem dX3_digest_6 : decode cX3_digest 6 = .ok (.getfield 10, 3) := by decide +kernel
theorem dX3_digest_9 : decode cX3_digest 9 = .ok (.getfield 79, 3) := by decide +kernel
theorem dX3_digest_12 : decode cX3_digest 12 = .ok (.invokestatic 212, 3) := by decide +kernel
theorem dX3_digest_15 : decode cX3_digest 15 = .ok (.lstore_n 1, 1) := by decide +kernel
theorem dX3_digest_16 : decode cX3_digest 16 = .ok (.lload_n 1, 1) := by decide +kernel
theorem dX3_digest_17 : decode cX3_digest 17 = .ok (.aload_n 0, 1) := by decide +kernel
theorem dX3_digest_18 : decode cX3_digest 18 = .ok (.getfield 10, 3) := by decide +kernel
theorem dX3_digest_21 : decode cX3_digest 21 = .ok (.getfield 139, 3) := by decide +kernel
theorem dX3_digest_24 : decode cX3_digest 24 = .ok (.invokestatic 212, 3) := by decide +kernel
theorem dX3_digest_27 : decode cX3_digest 27 = .ok (.lstore_n 1, 1) := by decide +kernel
theorem dX3_digest_28 : decode cX3_digest 28 = .ok (.lload_n 1, 1) := by decide +kernel
theorem dX3_digest_29 : decode cX3_digest 29 = .ok (.aload_n 0, 1) := by decide +kernel
theorem dX3_digest_30 : decode cX3_digest 30 = .ok (.getfield 10, 3) := by decide +kernel
theorem dX3_digest_33 : decode cX3_digest 33 = .ok (.getfield 154, 3) := by decide +kernel
theorem dX3_digest_36 : decode cX3_digest 36 = .ok (.invokestatic 212, 3) := by decide +kernel
theorem dX3_digest_39 : decode cX3_digest 39 = .ok (.lstore_n 1, 1) := by decide +kernel
theorem dX3_digest_40 : decode cX3_digest 40 = .ok (.lload_n 1, 1) := by decide +kernel
theorem dX3_digest_41 : decode cX3_digest 41 = .ok (.aload_n 0, 1) := by decide +kernel
theorem dX3_digest_42 : decode cX3_digest 42 = .ok (.getfield 10, 3) := by decide +kernel
theorem dX3_digest_45 : decode cX3_digest 45 = .ok (.getfield 157, 3) := by decide +kernel
theorem dX3_digest_48 : decode cX3_digest 48 = .ok (.invokestatic 216, 3) := by decide +kernel
theorem dX3_digest_51 : decode cX3_digest 51 = .ok (.lstore_n 1, 1) := by decide +kernel
theorem dX3_digest_52 : decode cX3_digest 52 = .ok (.aload_n 0, 1) := by decide +kernel
theorem dX3_digest_53 : decode cX3_digest 53 = .ok (.lload_n 1, 1) := by decide +kernel
theorem dX3_digest_54 : decode cX3_digest 54 = .ok (.invokevirtual 220, 3) := by decide +kernel
theorem dX3_digest_57 : decode cX3_digest 57 = .ok (.lstore_n 1, 1) := by decide +kernel
theorem dX3_digest_58 : decode cX3_digest 58 = .ok (.aload_n 0, 1) := by decide +kernel
theorem dX3_digest_59 : decode cX3_digest 59 = .ok (.lload_n 1, 1) := by decide +kernel
theorem dX3_digest_60 : decode cX3_digest 60 = .ok (.invokevirtual 224, 3) := by decide +kernel
theorem dX3_digest_63 : decode cX3_digest 63 = .ok (.lstore_n 1, 1) := by decide +kernel
theorem dX3_digest_64 : decode cX3_digest 64 = .ok (.aload_n 0, 1) := by decide +kernel
theorem dX3_digest_65 : decode cX3_digest 65 = .ok (.lload_n 1, 1) := by decide +kernel
theorem dX3_digest_66 : decode cX3_digest 66 = .ok (.invokevirtual 227, 3) := by decide +kernel
theorem dX3_digest_69 : decode cX3_digest 69 = .ok (.lstore_n 1, 1) := by decide +kernel
theorem dX3_digest_70 : decode cX3_digest 70 = .ok (.lload_n 1, 1) := by decide +kernel
theorem dX3_digest_71 : decode cX3_digest 71 = .ok (.aload_n 0, 1) := by decide +kernel
theorem dX3_digest_72 : decode cX3_digest 72 = .ok (.getfield 10, 3) := by decide +kernel
theorem dX3_digest_75 : decode cX3_digest 75 = .ok (.getfield 151, 3) := by decide +kernel
theorem dX3_digest_78 : decode cX3_digest 78 = .ok (.invokestatic 216, 3) := by decide +kernel
theorem dX3_digest_81 : decode cX3_digest 81 = .ok (.lstore_n 1, 1) := by decide +kernel
theorem dX3_digest_82 : decode cX3_digest 82 = .ok (.iconst 1, 1) := by decide +kernel
theorem dX3_digest_83 : decode cX3_digest 83 = .ok (.istore_n 3, 1) := by decide +kernel
theorem dX3_digest_84 : decode cX3_digest 84 = .ok (.iload_n 3, 1) := by decide +kernel
theorem dX3_digest_85 : decode cX3_digest 85 = .ok (.iconst 3, 1) := by decide +kernel
theorem dX3_digest_86 : decode cX3_digest 86 = .ok (.if_icmp .gt 22, 3) := by decide +kernel
theorem dX3_digest_89 : decode cX3_digest 89 = .ok (.lload_n 1, 1) := by decide +kernel
theorem dX3_digest_90 : decode cX3_digest 90 = .ok (.aload_n 0, 1) := by decide +kernel
theorem dX3_digest_91 : decode cX3_digest 91 = .ok (.getfield 10, 3) := by decide +kernel
theorem dX3_digest_94 : decode cX3_digest 94 = .ok (.iload_n 3, 1) := by decide +kernel
theorem dX3_digest_95 : decode cX3_digest 95 = .ok (.invokevirtual 169, 3) := by decide +kernel
theorem dX3_digest_98 : decode cX3_digest 98 = .ok (.invokestatic 212, 3) := by decide +kernel
theorem dX3_digest_101 : decode cX3_digest 101 = .ok (.lstore_n 1, 1) := by decide +kernel
theorem dX3_digest_102 : decode cX3_digest 102 = .ok (.iinc 3 1, 3) := by decide +kernel
theorem dX3_digest_105 : decode cX3_digest 105 = .ok (.goto (-21), 3) := by decide +kernel
theorem dX3_digest_108 : decode cX3_digest 108 = .ok (.lload_n 1, 1) := by decide +kernel
theorem dX3_digest_109 : decode cX3_digest 109 = .ok (.lreturn, 1) := by decide +kernel
theorem dX3_refuse_0 : decode cX3_refuse 0 = .ok (.iload_n 0, 1) := by decide +kernel
theorem dX3_refuse_1 : decode cX3_refuse 1 = .ok (.iconst 1, 1) := by decide +kernel
theorem dX3_refuse_2 : decode cX3_refuse 2 = .ok (.if_icmp .ne 13, 3) := by decide +kernel
theorem dX3_refuse_5 : decode cX3_refuse 5 = .ok (.new 230, 3) := by decide +kernel
theorem dX3_refuse_8 : decode cX3_refuse 8 = .ok (.dup, 1) := by decide +kernel
theorem dX3_refuse_9 : decode cX3_refuse 9 = .ok (.ldc 232, 2) := by decide +kernel
theorem dX3_refuse_11 : decode cX3_refuse 11 = .ok (.invokespecial 234, 3) := by decide +kernel
theorem dX3_refuse_14 : decode cX3_refuse 14 = .ok (.athrow, 1) := by decide +kernel
theorem dX3_refuse_15 : decode cX3_refuse 15 = .ok (.iload_n 0, 1) := by decide +kernel
theorem dX3_refuse_16 : decode cX3_refuse 16 = .ok (.iconst 2, 1) := by decide +kernel
theorem dX3_refuse_17 : decode cX3_refuse 17 = .ok (.if_icmp .ne 13, 3) := by decide +kernel
theorem dX3_refuse_20 : decode cX3_refuse 20 = .ok (.new 131, 3) := by decide +kernel
theorem dX3_refuse_23 : decode cX3_refuse 23 = .ok (.dup, 1) := by decide +kernel
theorem dX3_refuse_24 : decode cX3_refuse 24 = .ok (.ldc 235, 2) := by decide +kernel
theorem dX3_refuse_26 : decode cX3_refuse 26 = .ok (.invokespecial 135, 3) := by decide +kernel
theorem dX3_refuse_29 : decode cX3_refuse 29 = .ok (.athrow, 1) := by decide +kernel
theorem dX3_refuse_30 : decode cX3_refuse 30 = .ok (.iload_n 0, 1) := by decide +kernel
theorem dX3_refuse_31 : decode cX3_refuse 31 = .ok (.iconst 3, 1) := by decide +kernel
theorem dX3_refuse_32 : decode cX3_refuse 32 = .ok (.if_icmp .ne 13, 3) := by decide +kernel
theorem dX3_refuse_35 : decode cX3_refuse 35 = .ok (.new 86, 3) := by decide +kernel
theorem dX3_refuse_38 : decode cX3_refuse 38 = .ok (.dup, 1) := by decide +kernel
theorem dX3_refuse_39 : decode cX3_refuse 39 = .ok (.ldc 237, 2) := by decide +kernel
theorem dX3_refuse_41 : decode cX3_refuse 41 = .ok (.invokespecial 90, 3) := by decide +kernel
theorem dX3_refuse_44 : decode cX3_refuse 44 = .ok (.athrow, 1) := by decide +kernel
theorem dX3_refuse_45 : decode cX3_refuse 45 = .ok (.return_, 1) := by decide +kernel
theorem dX3_innFault_0 : decode cX3_innFault 0 = .ok (.iload_n 0, 1) := by decide +kernel
theorem dX3_innFault_1 : decode cX3_innFault 1 = .ok (.iconst 0, 1) := by decide +kernel
theorem dX3_innFault_2 : decode cX3_innFault 2 = .ok (.bipush 7, 2) := by decide +kernel
theorem dX3_innFault_4 : decode cX3_innFault 4 = .ok (.invokestatic 96, 3) := by decide +kernel
theorem dX3_innFault_7 : decode cX3_innFault 7 = .ok (.ifCond .eq 7, 3) := by decide +kernel
theorem dX3_innFault_10 : decode cX3_innFault 10 = .ok (.iconst 0, 1) := by decide +kernel
theorem dX3_innFault_11 : decode cX3_innFault 11 = .ok (.goto 4, 3) := by decide +kernel
theorem dX3_innFault_14 : decode cX3_innFault 14 = .ok (.iconst 1, 1) := by decide +kernel
theorem dX3_innFault_15 : decode cX3_innFault 15 = .ok (.ireturn, 1) := by decide +kernel
theorem dX3_hallFault_0 : decode cX3_hallFault 0 = .ok (.iload_n 0, 1) := by decide +kernel
theorem dX3_hallFault_1 : decode cX3_hallFault 1 = .ok (.iconst 0, 1) := by decide +kernel
theorem dX3_hallFault_2 : decode cX3_hallFault 2 = .ok (.iconst 3, 1) := by decide +kernel
theorem dX3_hallFault_3 : decode cX3_hallFault 3 = .ok (.invokestatic 96, 3) := by decide +kernel
theorem dX3_hallFault_6 : decode cX3_hallFault 6 = .ok (.ifCond .eq 7, 3) := by decide +kernel
theorem dX3_hallFault_9 : decode cX3_hallFault 9 = .ok (.iconst 0, 1) := by decide +kernel
theorem dX3_hallFault_10 : decode cX3_hallFault 10 = .ok (.goto 4, 3) := by decide +kernel
theorem dX3_hallFault_13 : decode cX3_hallFault 13 = .ok (.iconst 1, 1) := by decide +kernel
theorem dX3_hallFault_14 : decode cX3_hallFault 14 = .ok (.ireturn, 1) := by decide +kernel
theorem dX3_roadFault_0 : decode cX3_roadFault 0 = .ok (.iload_n 1, 1) := by decide +kernel
theorem dX3_roadFault_1 : decode cX3_roadFault 1 = .ok (.iconst 0, 1) := by decide +kernel
theorem dX3_roadFault_2 : decode cX3_roadFault 2 = .ok (.aload_n 0, 1) := by decide +kernel
theorem dX3_roadFault_3 : decode cX3_roadFault 3 = .ok (.getfield 10, 3) := by decide +kernel
theorem dX3_roadFault_6 : decode cX3_roadFault 6 = .ok (.getfield 79, 3) := by decide +kernel
theorem dX3_roadFault_9 : decode cX3_roadFault 9 = .ok (.iconst 1, 1) := by decide +kernel
theorem dX3_roadFault_10 : decode cX3_roadFault 10 = .ok (.isub, 1) := by decide +kernel
theorem dX3_roadFault_11 : decode cX3_roadFault 11 = .ok (.invokestatic 96, 3) := by decide +kernel
theorem dX3_roadFault_14 : decode cX3_roadFault 14 = .ok (.ifCond .eq 7, 3) := by decide +kernel
theorem dX3_roadFault_17 : decode cX3_roadFault 17 = .ok (.iconst 0, 1) := by decide +kernel
theorem dX3_roadFault_18 : decode cX3_roadFault 18 = .ok (.goto 4, 3) := by decide +kernel
theorem dX3_roadFault_21 : decode cX3_roadFault 21 = .ok (.iconst 1, 1) := by decide +kernel
theorem dX3_roadFault_22 : decode cX3_roadFault 22 = .ok (.ireturn, 1) := by decide +kernel
theorem dX3_envelopeFault_0 : decode cX3_envelopeFault 0 = .ok (.iload_n 1, 1) := by decide +kernel
theorem dX3_envelopeFault_1 : decode cX3_envelopeFault 1 = .ok (.iconst 0, 1) := by decide +kernel
theorem dX3_envelopeFault_2 : decode cX3_envelopeFault 2 = .ok (.aload_n 0, 1) := by decide +kernel
theorem dX3_envelopeFault_3 : decode cX3_envelopeFault 3 = .ok (.getfield 10, 3) := by decide +kernel
theorem dX3_envelopeFault_6 : decode cX3_envelopeFault 6 = .ok (.getfield 139, 3) := by decide +kernel
theorem dX3_envelopeFault_9 : decode cX3_envelopeFault 9 = .ok (.iconst 1, 1) := by decide +kernel
theorem dX3_envelopeFault_10 : decode cX3_envelopeFault 10 = .ok (.isub, 1) := by decide +kernel
theorem dX3_envelopeFault_11 : decode cX3_envelopeFault 11 = .ok (.invokestatic 96, 3) := by decide +kernel
theorem dX3_envelopeFault_14 : decode cX3_envelopeFault 14 = .ok (.ifCond .eq 7, 3) := by decide +kernel
theorem dX3_envelopeFault_17 : decode cX3_envelopeFault 17 = .ok (.iconst 0, 1) := by decide +kernel
theorem dX3_envelopeFault_18 : decode cX3_envelopeFault 18 = .ok (.goto 4, 3) := by decide +kernel
theorem dX3_envelopeFault_21 : decode cX3_envelopeFault 21 = .ok (.iconst 1, 1) := by decide +kernel
theorem dX3_envelopeFault_22 : decode cX3_envelopeFault 22 = .ok (.ireturn, 1) := by decide +kernel
theorem dX3_innAndBodyFault_0 : decode cX3_innAndBodyFault 0 = .ok (.iload_n 0, 1) := by decide +kernel
theorem dX3_innAndBodyFault_1 : decode cX3_innAndBodyFault 1 = .ok (.invokestatic 30, 3) := by decide +kernel
theorem dX3_innAndBodyFault_4 : decode cX3_innAndBodyFault 4 = .ok (.ifCond .eq 5, 3) := by decide +kernel
theorem dX3_innAndBodyFault_7 : decode cX3_innAndBodyFault 7 = .ok (.iconst 1, 1) := by decide +kernel
theorem dX3_innAndBodyFault_8 : decode cX3_innAndBodyFault 8 = .ok (.ireturn, 1) := by decide +kernel
theorem dX3_innAndBodyFault_9 : decode cX3_innAndBodyFault 9 = .ok (.iload_n 1, 1) := by decide +kernel
theorem dX3_innAndBodyFault_10 : decode cX3_innAndBodyFault 10 = .ok (.invokestatic 239, 3) := by decide +kernel
theorem dX3_innAndBodyFault_13 : decode cX3_innAndBodyFault 13 = .ok (.ifCond .eq 7, 3) := by decide +kernel
theorem dX3_innAndBodyFault_16 : decode cX3_innAndBodyFault 16 = .ok (.iconst 0, 1) := by decide +kernel
theorem dX3_innAndBodyFault_17 : decode cX3_innAndBodyFault 17 = .ok (.goto 4, 3) := by decide +kernel
theorem dX3_innAndBodyFault_20 : decode cX3_innAndBodyFault 20 = .ok (.iconst 2, 1) := by decide +kernel
theorem dX3_innAndBodyFault_21 : decode cX3_innAndBodyFault 21 = .ok (.ireturn, 1) := by decide +kernel
theorem dX3_layFault_0 : decode cX3_layFault 0 = .ok (.iload_n 1, 1) := by decide +kernel
theorem dX3_layFault_1 : decode cX3_layFault 1 = .ok (.invokestatic 30, 3) := by decide +kernel
theorem dX3_layFault_4 : decode cX3_layFault 4 = .ok (.ifCond .ne 25, 3) := by decide +kernel
theorem dX3_layFault_7 : decode cX3_layFault 7 = .ok (.iload_n 2, 1) := by decide +kernel
theorem dX3_layFault_8 : decode cX3_layFault 8 = .ok (.invokestatic 30, 3) := by decide +kernel
theorem dX3_layFault_11 : decode cX3_layFault 11 = .ok (.ifCond .ne 18, 3) := by decide +kernel
theorem dX3_layFault_14 : decode cX3_layFault 14 = .ok (.iload_n 3, 1) := by decide +kernel
theorem dX3_layFault_15 : decode cX3_layFault 15 = .ok (.invokestatic 30, 3) := by decide +kernel
theorem dX3_layFault_18 : decode cX3_layFault 18 = .ok (.ifCond .ne 11, 3) := by decide +kernel
theorem dX3_layFault_21 : decode cX3_layFault 21 = .ok (.iload 4, 2) := by decide +kernel
theorem dX3_layFault_23 : decode cX3_layFault 23 = .ok (.invokestatic 148, 3) := by decide +kernel
theorem dX3_layFault_26 : decode cX3_layFault 26 = .ok (.ifCond .eq 5, 3) := by decide +kernel
theorem dX3_layFault_29 : decode cX3_layFault 29 = .ok (.iconst 1, 1) := by decide +kernel
theorem dX3_layFault_30 : decode cX3_layFault 30 = .ok (.ireturn, 1) := by decide +kernel
theorem dX3_layFault_31 : decode cX3_layFault 31 = .ok (.iload_n 1, 1) := by decide +kernel
theorem dX3_layFault_32 : decode cX3_layFault 32 = .ok (.iload_n 2, 1) := by decide +kernel
theorem dX3_layFault_33 : decode cX3_layFault 33 = .ok (.if_icmp .eq 13, 3) := by decide +kernel
theorem dX3_layFault_36 : decode cX3_layFault 36 = .ok (.iload_n 1, 1) := by decide +kernel
theorem dX3_layFault_37 : decode cX3_layFault 37 = .ok (.iload_n 3, 1) := by decide +kernel
theorem dX3_layFault_38 : decode cX3_layFault 38 = .ok (.if_icmp .eq 8, 3) := by decide +kernel
theorem dX3_layFault_41 : decode cX3_layFault 41 = .ok (.iload_n 2, 1) := by decide +kernel
theorem dX3_layFault_42 : decode cX3_layFault 42 = .ok (.iload_n 3, 1) := by decide +kernel
theorem dX3_layFault_43 : decode cX3_layFault 43 = .ok (.if_icmp .ne 5, 3) := by decide +kernel
theorem dX3_layFault_46 : decode cX3_layFault 46 = .ok (.iconst 2, 1) := by decide +kernel
theorem dX3_layFault_47 : decode cX3_layFault 47 = .ok (.ireturn, 1) := by decide +kernel
theorem dX3_layFault_48 : decode cX3_layFault 48 = .ok (.aload_n 0, 1) := by decide +kernel
theorem dX3_layFault_49 : decode cX3_layFault 49 = .ok (.getfield 10, 3) := by decide +kernel
theorem dX3_layFault_52 : decode cX3_layFault 52 = .ok (.iload_n 1, 1) := by decide +kernel
theorem dX3_layFault_53 : decode cX3_layFault 53 = .ok (.invokevirtual 42, 3) := by decide +kernel
theorem dX3_layFault_56 : decode cX3_layFault 56 = .ok (.ifCond .eq 29, 3) := by decide +kernel
theorem dX3_layFault_59 : decode cX3_layFault 59 = .ok (.aload_n 0, 1) := by decide +kernel
theorem dX3_layFault_60 : decode cX3_layFault 60 = .ok (.getfield 10, 3) := by decide +kernel
theorem dX3_layFault_63 : decode cX3_layFault 63 = .ok (.iload_n 2, 1) := by decide +kernel
theorem dX3_layFault_64 : decode cX3_layFault 64 = .ok (.invokevirtual 42, 3) := by decide +kernel
theorem dX3_layFault_67 : decode cX3_layFault 67 = .ok (.ifCond .eq 18, 3) := by decide +kernel
theorem dX3_layFault_70 : decode cX3_layFault 70 = .ok (.aload_n 0, 1) := by decide +kernel
theorem dX3_layFault_71 : decode cX3_layFault 71 = .ok (.getfield 10, 3) := by decide +kernel
theorem dX3_layFault_74 : decode cX3_layFault 74 = .ok (.iload_n 3, 1) := by decide +kernel
theorem dX3_layFault_75 : decode cX3_layFault 75 = .ok (.invokevirtual 42, 3) := by decide +kernel
theorem dX3_layFault_78 : decode cX3_layFault 78 = .ok (.ifCond .eq 7, 3) := by decide +kernel
theorem dX3_layFault_81 : decode cX3_layFault 81 = .ok (.iconst 1, 1) := by decide +kernel
theorem dX3_layFault_82 : decode cX3_layFault 82 = .ok (.goto 4, 3) := by decide +kernel
theorem dX3_layFault_85 : decode cX3_layFault 85 = .ok (.iconst 0, 1) := by decide +kernel
theorem dX3_layFault_86 : decode cX3_layFault 86 = .ok (.istore 5, 2) := by decide +kernel
theorem dX3_layFault_88 : decode cX3_layFault 88 = .ok (.iload 5, 2) := by decide +kernel
theorem dX3_layFault_90 : decode cX3_layFault 90 = .ok (.ifCond .eq 19, 3) := by decide +kernel
theorem dX3_layFault_93 : decode cX3_layFault 93 = .ok (.aload_n 0, 1) := by decide +kernel
theorem dX3_layFault_94 : decode cX3_layFault 94 = .ok (.getfield 10, 3) := by decide +kernel
theorem dX3_layFault_97 : decode cX3_layFault 97 = .ok (.getfield 79, 3) := by decide +kernel
theorem dX3_layFault_100 : decode cX3_layFault 100 = .ok (.bipush 6, 2) := by decide +kernel
theorem dX3_layFault_102 : decode cX3_layFault 102 = .ok (.if_icmp .ge 7, 3) := by decide +kernel
theorem dX3_layFault_105 : decode cX3_layFault 105 = .ok (.iconst 0, 1) := by decide +kernel
theorem dX3_layFault_106 : decode cX3_layFault 106 = .ok (.goto 4, 3) := by decide +kernel
theorem dX3_layFault_109 : decode cX3_layFault 109 = .ok (.iconst 3, 1) := by decide +kernel
theorem dX3_layFault_110 : decode cX3_layFault 110 = .ok (.ireturn, 1) := by decide +kernel
theorem dX3_sendFault_0 : decode cX3_sendFault 0 = .ok (.aload_n 0, 1) := by decide +kernel
theorem dX3_sendFault_1 : decode cX3_sendFault 1 = .ok (.iload_n 1, 1) := by decide +kernel
theorem dX3_sendFault_2 : decode cX3_sendFault 2 = .ok (.invokevirtual 100, 3) := by decide +kernel
theorem dX3_sendFault_5 : decode cX3_sendFault 5 = .ok (.ifCond .eq 5, 3) := by decide +kernel
theorem dX3_sendFault_8 : decode cX3_sendFault 8 = .ok (.iconst 1, 1) := by decide +kernel
theorem dX3_sendFault_9 : decode cX3_sendFault 9 = .ok (.ireturn, 1) := by decide +kernel
theorem dX3_sendFault_10 : decode cX3_sendFault 10 = .ok (.iload_n 2, 1) := by decide +kernel
theorem dX3_sendFault_11 : decode cX3_sendFault 11 = .ok (.invokestatic 239, 3) := by decide +kernel
theorem dX3_sendFault_14 : decode cX3_sendFault 14 = .ok (.ifCond .ne 5, 3) := by decide +kernel
theorem dX3_sendFault_17 : decode cX3_sendFault 17 = .ok (.iconst 2, 1) := by decide +kernel
theorem dX3_sendFault_18 : decode cX3_sendFault 18 = .ok (.ireturn, 1) := by decide +kernel
theorem dX3_sendFault_19 : decode cX3_sendFault 19 = .ok (.aload_n 0, 1) := by decide +kernel
theorem dX3_sendFault_20 : decode cX3_sendFault 20 = .ok (.getfield 10, 3) := by decide +kernel
theorem dX3_sendFault_23 : decode cX3_sendFault 23 = .ok (.getfield 139, 3) := by decide +kernel
theorem dX3_sendFault_26 : decode cX3_sendFault 26 = .ok (.bipush 12, 2) := by decide +kernel
theorem dX3_sendFault_28 : decode cX3_sendFault 28 = .ok (.if_icmp .ge 7, 3) := by decide +kernel
theorem dX3_sendFault_31 : decode cX3_sendFault 31 = .ok (.iconst 0, 1) := by decide +kernel
theorem dX3_sendFault_32 : decode cX3_sendFault 32 = .ok (.goto 4, 3) := by decide +kernel
theorem dX3_sendFault_35 : decode cX3_sendFault 35 = .ok (.iconst 3, 1) := by decide +kernel
theorem dX3_sendFault_36 : decode cX3_sendFault 36 = .ok (.ireturn, 1) := by decide +kernel
theorem dX3_answerFault_0 : decode cX3_answerFault 0 = .ok (.iload_n 1, 1) := by decide +kernel
theorem dX3_answerFault_1 : decode cX3_answerFault 1 = .ok (.invokestatic 148, 3) := by decide +kernel
theorem dX3_answerFault_4 : decode cX3_answerFault 4 = .ok (.ifCond .eq 5, 3) := by decide +kernel
theorem dX3_answerFault_7 : decode cX3_answerFault 7 = .ok (.iconst 1, 1) := by decide +kernel
theorem dX3_answerFault_8 : decode cX3_answerFault 8 = .ok (.ireturn, 1) := by decide +kernel
theorem dX3_answerFault_9 : decode cX3_answerFault 9 = .ok (.iload_n 2, 1) := by decide +kernel
theorem dX3_answerFault_10 : decode cX3_answerFault 10 = .ok (.invokestatic 239, 3) := by decide +kernel
theorem dX3_answerFault_13 : decode cX3_answerFault 13 = .ok (.ifCond .ne 5, 3) := by decide +kernel
theorem dX3_answerFault_16 : decode cX3_answerFault 16 = .ok (.iconst 2, 1) := by decide +kernel
theorem dX3_answerFault_17 : decode cX3_answerFault 17 = .ok (.ireturn, 1) := by decide +kernel
theorem dX3_answerFault_18 : decode cX3_answerFault 18 = .ok (.aload_n 0, 1) := by decide +kernel
theorem dX3_answerFault_19 : decode cX3_answerFault 19 = .ok (.getfield 10, 3) := by decide +kernel
theorem dX3_answerFault_22 : decode cX3_answerFault 22 = .ok (.getfield 242, 3) := by decide +kernel
theorem dX3_answerFault_25 : decode cX3_answerFault 25 = .ok (.iload_n 1, 1) := by decide +kernel
theorem dX3_answerFault_26 : decode cX3_answerFault 26 = .ok (.invokestatic 58, 3) := by decide +kernel
theorem dX3_answerFault_29 : decode cX3_answerFault 29 = .ok (.iconst (-1), 1) := by decide +kernel
theorem dX3_answerFault_30 : decode cX3_answerFault 30 = .ok (.if_icmp .eq 7, 3) := by decide +kernel
theorem dX3_answerFault_33 : decode cX3_answerFault 33 = .ok (.iconst 1, 1) := by decide +kernel
theorem dX3_answerFault_34 : decode cX3_answerFault 34 = .ok (.goto 4, 3) := by decide +kernel
theorem dX3_answerFault_37 : decode cX3_answerFault 37 = .ok (.iconst 0, 1) := by decide +kernel
theorem dX3_answerFault_38 : decode cX3_answerFault 38 = .ok (.istore_n 3, 1) := by decide +kernel
theorem dX3_answerFault_39 : decode cX3_answerFault 39 = .ok (.iload_n 3, 1) := by decide +kernel
theorem dX3_answerFault_40 : decode cX3_answerFault 40 = .ok (.ifCond .eq 19, 3) := by decide +kernel
theorem dX3_answerFault_43 : decode cX3_answerFault 43 = .ok (.aload_n 0, 1) := by decide +kernel
theorem dX3_answerFault_44 : decode cX3_answerFault 44 = .ok (.getfield 10, 3) := by decide +kernel
theorem dX3_answerFault_47 : decode cX3_answerFault 47 = .ok (.getfield 139, 3) := by decide +kernel
theorem dX3_answerFault_50 : decode cX3_answerFault 50 = .ok (.bipush 12, 2) := by decide +kernel
theorem dX3_answerFault_52 : decode cX3_answerFault 52 = .ok (.if_icmp .ge 7, 3) := by decide +kernel
theorem dX3_answerFault_55 : decode cX3_answerFault 55 = .ok (.iconst 0, 1) := by decide +kernel
theorem dX3_answerFault_56 : decode cX3_answerFault 56 = .ok (.goto 4, 3) := by decide +kernel
theorem dX3_answerFault_59 : decode cX3_answerFault 59 = .ok (.iconst 3, 1) := by decide +kernel
theorem dX3_answerFault_60 : decode cX3_answerFault 60 = .ok (.ireturn, 1) := by decide +kernel
theorem dX3_mixed_0 : decode cX3_mixed 0 = .ok (.ldc2_w 261, 3) := by decide +kernel
theorem dX3_mixed_3 : decode cX3_mixed 3 = .ok (.lload_n 0, 1) := by decide +kernel
theorem dX3_mixed_4 : decode cX3_mixed 4 = .ok (.lmul, 1) := by decide +kernel
theorem dX3_mixed_5 : decode cX3_mixed 5 = .ok (.iload_n 2, 1) := by decide +kernel
theorem dX3_mixed_6 : decode cX3_mixed 6 = .ok (.i2l, 1) := by decide +kernel
theorem dX3_mixed_7 : decode cX3_mixed 7 = .ok (.ladd, 1) := by decide +kernel
theorem dX3_mixed_8 : decode cX3_mixed 8 = .ok (.lreturn, 1) := by decide +kernel
theorem dX3_mixedRow_0 : decode cX3_mixedRow 0 = .ok (.lload_n 0, 1) := by decide +kernel
theorem dX3_mixedRow_1 : decode cX3_mixedRow 1 = .ok (.lstore_n 3, 1) := by decide +kernel
theorem dX3_mixedRow_2 : decode cX3_mixedRow 2 = .ok (.iconst 0, 1) := by decide +kernel
theorem dX3_mixedRow_3 : decode cX3_mixedRow 3 = .ok (.istore 5, 2) := by decide +kernel
theorem dX3_mixedRow_5 : decode cX3_mixedRow 5 = .ok (.iload 5, 2) := by decide +kernel
theorem dX3_mixedRow_7 : decode cX3_mixedRow 7 = .ok (.aload_n 2, 1) := by decide +kernel
theorem dX3_mixedRow_8 : decode cX3_mixedRow 8 = .ok (.arraylength, 1) := by decide +kernel
theorem dX3_mixedRow_9 : decode cX3_mixedRow 9 = .ok (.if_icmp .ge 18, 3) := by decide +kernel
theorem dX3_mixedRow_12 : decode cX3_mixedRow 12 = .ok (.lload_n 3, 1) := by decide +kernel
theorem dX3_mixedRow_13 : decode cX3_mixedRow 13 = .ok (.aload_n 2, 1) := by decide +kernel
theorem dX3_mixedRow_14 : decode cX3_mixedRow 14 = .ok (.iload 5, 2) := by decide +kernel
theorem dX3_mixedRow_16 : decode cX3_mixedRow 16 = .ok (.iaload, 1) := by decide +kernel
theorem dX3_mixedRow_17 : decode cX3_mixedRow 17 = .ok (.invokestatic 212, 3) := by decide +kernel
theorem dX3_mixedRow_20 : decode cX3_mixedRow 20 = .ok (.lstore_n 3, 1) := by decide +kernel
theorem dX3_mixedRow_21 : decode cX3_mixedRow 21 = .ok (.iinc 5 1, 3) := by decide +kernel
theorem dX3_mixedRow_24 : decode cX3_mixedRow 24 = .ok (.goto (-19), 3) := by decide +kernel
theorem dX3_mixedRow_27 : decode cX3_mixedRow 27 = .ok (.lload_n 3, 1) := by decide +kernel
theorem dX3_mixedRow_28 : decode cX3_mixedRow 28 = .ok (.lreturn, 1) := by decide +kernel
theorem dX3_mixedInns_0 : decode cX3_mixedInns 0 = .ok (.lload_n 1, 1) := by decide +kernel
theorem dX3_mixedInns_1 : decode cX3_mixedInns 1 = .ok (.lstore_n 3, 1) := by decide +kernel
theorem dX3_mixedInns_2 : decode cX3_mixedInns 2 = .ok (.iconst 0, 1) := by decide +kernel
theorem dX3_mixedInns_3 : decode cX3_mixedInns 3 = .ok (.istore 5, 2) := by decide +kernel
theorem dX3_mixedInns_5 : decode cX3_mixedInns 5 = .ok (.iload 5, 2) := by decide +kernel
theorem dX3_mixedInns_7 : decode cX3_mixedInns 7 = .ok (.bipush 8, 2) := by decide +kernel
theorem dX3_mixedInns_9 : decode cX3_mixedInns 9 = .ok (.if_icmp .ge 76, 3) := by decide +kernel
theorem dX3_mixedInns_12 : decode cX3_mixedInns 12 = .ok (.lload_n 3, 1) := by decide +kernel
theorem dX3_mixedInns_13 : decode cX3_mixedInns 13 = .ok (.aload_n 0, 1) := by decide +kernel
theorem dX3_mixedInns_14 : decode cX3_mixedInns 14 = .ok (.getfield 10, 3) := by decide +kernel
theorem dX3_mixedInns_17 : decode cX3_mixedInns 17 = .ok (.iload 5, 2) := by decide +kernel
theorem dX3_mixedInns_19 : decode cX3_mixedInns 19 = .ok (.invokevirtual 42, 3) := by decide +kernel
theorem dX3_mixedInns_22 : decode cX3_mixedInns 22 = .ok (.ifCond .eq 7, 3) := by decide +kernel
theorem dX3_mixedInns_25 : decode cX3_mixedInns 25 = .ok (.iconst 1, 1) := by decide +kernel
theorem dX3_mixedInns_26 : decode cX3_mixedInns 26 = .ok (.goto 4, 3) := by decide +kernel
theorem dX3_mixedInns_29 : decode cX3_mixedInns 29 = .ok (.iconst 0, 1) := by decide +kernel
theorem dX3_mixedInns_30 : decode cX3_mixedInns 30 = .ok (.invokestatic 212, 3) := by decide +kernel
theorem dX3_mixedInns_33 : decode cX3_mixedInns 33 = .ok (.lstore_n 3, 1) := by decide +kernel
theorem dX3_mixedInns_34 : decode cX3_mixedInns 34 = .ok (.lload_n 3, 1) := by decide +kernel
theorem dX3_mixedInns_35 : decode cX3_mixedInns 35 = .ok (.aload_n 0, 1) := by decide +kernel
theorem dX3_mixedInns_36 : decode cX3_mixedInns 36 = .ok (.getfield 10, 3) := by decide +kernel
theorem dX3_mixedInns_39 : decode cX3_mixedInns 39 = .ok (.getfield 54, 3) := by decide +kernel
theorem dX3_mixedInns_42 : decode cX3_mixedInns 42 = .ok (.iload 5, 2) := by decide +kernel
theorem dX3_mixedInns_44 : decode cX3_mixedInns 44 = .ok (.invokestatic 58, 3) := by decide +kernel
theorem dX3_mixedInns_47 : decode cX3_mixedInns 47 = .ok (.invokestatic 212, 3) := by decide +kernel
theorem dX3_mixedInns_50 : decode cX3_mixedInns 50 = .ok (.lstore_n 3, 1) := by decide +kernel
theorem dX3_mixedInns_51 : decode cX3_mixedInns 51 = .ok (.lload_n 3, 1) := by decide +kernel
theorem dX3_mixedInns_52 : decode cX3_mixedInns 52 = .ok (.aload_n 0, 1) := by decide +kernel
theorem dX3_mixedInns_53 : decode cX3_mixedInns 53 = .ok (.getfield 10, 3) := by decide +kernel
theorem dX3_mixedInns_56 : decode cX3_mixedInns 56 = .ok (.iload 5, 2) := by decide +kernel
theorem dX3_mixedInns_58 : decode cX3_mixedInns 58 = .ok (.invokevirtual 116, 3) := by decide +kernel
theorem dX3_mixedInns_61 : decode cX3_mixedInns 61 = .ok (.invokestatic 212, 3) := by decide +kernel
theorem dX3_mixedInns_64 : decode cX3_mixedInns 64 = .ok (.lstore_n 3, 1) := by decide +kernel
theorem dX3_mixedInns_65 : decode cX3_mixedInns 65 = .ok (.lload_n 3, 1) := by decide +kernel
theorem dX3_mixedInns_66 : decode cX3_mixedInns 66 = .ok (.aload_n 0, 1) := by decide +kernel
theorem dX3_mixedInns_67 : decode cX3_mixedInns 67 = .ok (.getfield 10, 3) := by decide +kernel
theorem dX3_mixedInns_70 : decode cX3_mixedInns 70 = .ok (.iload 5, 2) := by decide +kernel
theorem dX3_mixedInns_72 : decode cX3_mixedInns 72 = .ok (.invokevirtual 160, 3) := by decide +kernel
theorem dX3_mixedInns_75 : decode cX3_mixedInns 75 = .ok (.invokestatic 212, 3) := by decide +kernel
theorem dX3_mixedInns_78 : decode cX3_mixedInns 78 = .ok (.lstore_n 3, 1) := by decide +kernel
theorem dX3_mixedInns_79 : decode cX3_mixedInns 79 = .ok (.iinc 5 1, 3) := by decide +kernel
theorem dX3_mixedInns_82 : decode cX3_mixedInns 82 = .ok (.goto (-77), 3) := by decide +kernel
theorem dX3_mixedInns_85 : decode cX3_mixedInns 85 = .ok (.lload_n 3, 1) := by decide +kernel
theorem dX3_mixedInns_86 : decode cX3_mixedInns 86 = .ok (.lreturn, 1) := by decide +kernel
theorem dX3_mixedRoads_0 : decode cX3_mixedRoads 0 = .ok (.lload_n 1, 1) := by decide +kernel
theorem dX3_mixedRoads_1 : decode cX3_mixedRoads 1 = .ok (.lstore_n 3, 1) := by decide +kernel
theorem dX3_mixedRoads_2 : decode cX3_mixedRoads 2 = .ok (.iconst 0, 1) := by decide +kernel
theorem dX3_mixedRoads_3 : decode cX3_mixedRoads 3 = .ok (.istore 5, 2) := by decide +kernel
theorem dX3_mixedRoads_5 : decode cX3_mixedRoads 5 = .ok (.iload 5, 2) := by decide +kernel
theorem dX3_mixedRoads_7 : decode cX3_mixedRoads 7 = .ok (.aload_n 0, 1) := by decide +kernel
theorem dX3_mixedRoads_8 : decode cX3_mixedRoads 8 = .ok (.getfield 10, 3) := by decide +kernel
theorem dX3_mixedRoads_11 : decode cX3_mixedRoads 11 = .ok (.getfield 79, 3) := by decide +kernel
theorem dX3_mixedRoads_14 : decode cX3_mixedRoads 14 = .ok (.if_icmp .ge 79, 3) := by decide +kernel
theorem dX3_mixedRoads_17 : decode cX3_mixedRoads 17 = .ok (.iconst 1, 1) := by decide +kernel
theorem dX3_mixedRoads_18 : decode cX3_mixedRoads 18 = .ok (.istore 6, 2) := by decide +kernel
theorem dX3_mixedRoads_20 : decode cX3_mixedRoads 20 = .ok (.iload 6, 2) := by decide +kernel
theorem dX3_mixedRoads_22 : decode cX3_mixedRoads 22 = .ok (.iconst 3, 1) := by decide +kernel
theorem dX3_mixedRoads_23 : decode cX3_mixedRoads 23 = .ok (.if_icmp .gt 25, 3) := by decide +kernel
theorem dX3_mixedRoads_26 : decode cX3_mixedRoads 26 = .ok (.lload_n 3, 1) := by decide +kernel
theorem dX3_mixedRoads_27 : decode cX3_mixedRoads 27 = .ok (.aload_n 0, 1) := by decide +kernel
theorem dX3_mixedRoads_28 : decode cX3_mixedRoads 28 = .ok (.getfield 10, 3) := by decide +kernel
theorem dX3_mixedRoads_31 : decode cX3_mixedRoads 31 = .ok (.iload 5, 2) := by decide +kernel
theorem dX3_mixedRoads_33 : decode cX3_mixedRoads 33 = .ok (.iload 6, 2) := by decide +kernel
theorem dX3_mixedRoads_35 : decode cX3_mixedRoads 35 = .ok (.invokevirtual 103, 3) := by decide +kernel
theorem dX3_mixedRoads_38 : decode cX3_mixedRoads 38 = .ok (.invokestatic 212, 3) := by decide +kernel
theorem dX3_mixedRoads_41 : decode cX3_mixedRoads 41 = .ok (.lstore_n 3, 1) := by decide +kernel
theorem dX3_mixedRoads_42 : decode cX3_mixedRoads 42 = .ok (.iinc 6 1, 3) := by decide +kernel
theorem dX3_mixedRoads_45 : decode cX3_mixedRoads 45 = .ok (.goto (-25), 3) := by decide +kernel
theorem dX3_mixedRoads_48 : decode cX3_mixedRoads 48 = .ok (.lload_n 3, 1) := by decide +kernel
theorem dX3_mixedRoads_49 : decode cX3_mixedRoads 49 = .ok (.aload_n 0, 1) := by decide +kernel
theorem dX3_mixedRoads_50 : decode cX3_mixedRoads 50 = .ok (.getfield 10, 3) := by decide +kernel
theorem dX3_mixedRoads_53 : decode cX3_mixedRoads 53 = .ok (.getfield 106, 3) := by decide +kernel
theorem dX3_mixedRoads_56 : decode cX3_mixedRoads 56 = .ok (.iload 5, 2) := by decide +kernel
theorem dX3_mixedRoads_58 : decode cX3_mixedRoads 58 = .ok (.invokestatic 58, 3) := by decide +kernel
theorem dX3_mixedRoads_61 : decode cX3_mixedRoads 61 = .ok (.invokestatic 212, 3) := by decide +kernel
theorem dX3_mixedRoads_64 : decode cX3_mixedRoads 64 = .ok (.lstore_n 3, 1) := by decide +kernel
theorem dX3_mixedRoads_65 : decode cX3_mixedRoads 65 = .ok (.lload_n 3, 1) := by decide +kernel
theorem dX3_mixedRoads_66 : decode cX3_mixedRoads 66 = .ok (.aload_n 0, 1) := by decide +kernel
theorem dX3_mixedRoads_67 : decode cX3_mixedRoads 67 = .ok (.getfield 10, 3) := by decide +kernel
theorem dX3_mixedRoads_70 : decode cX3_mixedRoads 70 = .ok (.iload 5, 2) := by decide +kernel
theorem dX3_mixedRoads_72 : decode cX3_mixedRoads 72 = .ok (.invokevirtual 109, 3) := by decide +kernel
theorem dX3_mixedRoads_75 : decode cX3_mixedRoads 75 = .ok (.ifCond .eq 7, 3) := by decide +kernel
theorem dX3_mixedRoads_78 : decode cX3_mixedRoads 78 = .ok (.iconst 1, 1) := by decide +kernel
theorem dX3_mixedRoads_79 : decode cX3_mixedRoads 79 = .ok (.goto 4, 3) := by decide +kernel
theorem dX3_mixedRoads_82 : decode cX3_mixedRoads 82 = .ok (.iconst 0, 1) := by decide +kernel
theorem dX3_mixedRoads_83 : decode cX3_mixedRoads 83 = .ok (.invokestatic 212, 3) := by decide +kernel
theorem dX3_mixedRoads_86 : decode cX3_mixedRoads 86 = .ok (.lstore_n 3, 1) := by decide +kernel
theorem dX3_mixedRoads_87 : decode cX3_mixedRoads 87 = .ok (.iinc 5 1, 3) := by decide +kernel
theorem dX3_mixedRoads_90 : decode cX3_mixedRoads 90 = .ok (.goto (-85), 3) := by decide +kernel
theorem dX3_mixedRoads_93 : decode cX3_mixedRoads 93 = .ok (.lload_n 3, 1) := by decide +kernel
theorem dX3_mixedRoads_94 : decode cX3_mixedRoads 94 = .ok (.lreturn, 1) := by decide +kernel
theorem dX3_mixedEnvelopes_0 : decode cX3_mixedEnvelopes 0 = .ok (.lload_n 1, 1) := by decide +kernel
theorem dX3_mixedEnvelopes_1 : decode cX3_mixedEnvelopes 1 = .ok (.lstore_n 3, 1) := by decide +kernel
theorem dX3_mixedEnvelopes_2 : decode cX3_mixedEnvelopes 2 = .ok (.iconst 0, 1) := by decide +kernel
theorem dX3_mixedEnvelopes_3 : decode cX3_mixedEnvelopes 3 = .ok (.istore 5, 2) := by decide +kernel
theorem dX3_mixedEnvelopes_5 : decode cX3_mixedEnvelopes 5 = .ok (.iload 5, 2) := by decide +kernel
theorem dX3_mixedEnvelopes_7 : decode cX3_mixedEnvelopes 7 = .ok (.aload_n 0, 1) := by decide +kernel
theorem dX3_mixedEnvelopes_8 : decode cX3_mixedEnvelopes 8 = .ok (.getfield 10, 3) := by decide +kernel
theorem dX3_mixedEnvelopes_11 : decode cX3_mixedEnvelopes 11 = .ok (.getfield 139, 3) := by decide +kernel
theorem dX3_mixedEnvelopes_14 : decode cX3_mixedEnvelopes 14 = .ok (.if_icmp .ge 61, 3) := by decide +kernel
theorem dX3_mixedEnvelopes_17 : decode cX3_mixedEnvelopes 17 = .ok (.iconst 0, 1) := by decide +kernel
theorem dX3_mixedEnvelopes_18 : decode cX3_mixedEnvelopes 18 = .ok (.istore 6, 2) := by decide +kernel
theorem dX3_mixedEnvelopes_20 : decode cX3_mixedEnvelopes 20 = .ok (.iload 6, 2) := by decide +kernel
theorem dX3_mixedEnvelopes_22 : decode cX3_mixedEnvelopes 22 = .ok (.iconst 4, 1) := by decide +kernel
theorem dX3_mixedEnvelopes_23 : decode cX3_mixedEnvelopes 23 = .ok (.if_icmp .ge 25, 3) := by decide +kernel
theorem dX3_mixedEnvelopes_26 : decode cX3_mixedEnvelopes 26 = .ok (.lload_n 3, 1) := by decide +kernel
theorem dX3_mixedEnvelopes_27 : decode cX3_mixedEnvelopes 27 = .ok (.aload_n 0, 1) := by decide +kernel
theorem dX3_mixedEnvelopes_28 : decode cX3_mixedEnvelopes 28 = .ok (.getfield 10, 3) := by decide +kernel
theorem dX3_mixedEnvelopes_31 : decode cX3_mixedEnvelopes 31 = .ok (.iload 5, 2) := by decide +kernel
theorem dX3_mixedEnvelopes_33 : decode cX3_mixedEnvelopes 33 = .ok (.iload 6, 2) := by decide +kernel
theorem dX3_mixedEnvelopes_35 : decode cX3_mixedEnvelopes 35 = .ok (.invokevirtual 145, 3) := by decide +kernel
theorem dX3_mixedEnvelopes_38 : decode cX3_mixedEnvelopes 38 = .ok (.invokestatic 212, 3) := by decide +kernel
theorem dX3_mixedEnvelopes_41 : decode cX3_mixedEnvelopes 41 = .ok (.lstore_n 3, 1) := by decide +kernel
theorem dX3_mixedEnvelopes_42 : decode cX3_mixedEnvelopes 42 = .ok (.iinc 6 1, 3) := by decide +kernel
theorem dX3_mixedEnvelopes_45 : decode cX3_mixedEnvelopes 45 = .ok (.goto (-25), 3) := by decide +kernel
theorem dX3_mixedEnvelopes_48 : decode cX3_mixedEnvelopes 48 = .ok (.lload_n 3, 1) := by decide +kernel
theorem dX3_mixedEnvelopes_49 : decode cX3_mixedEnvelopes 49 = .ok (.aload_n 0, 1) := by decide +kernel
theorem dX3_mixedEnvelopes_50 : decode cX3_mixedEnvelopes 50 = .ok (.getfield 10, 3) := by decide +kernel
theorem dX3_mixedEnvelopes_53 : decode cX3_mixedEnvelopes 53 = .ok (.iload 5, 2) := by decide +kernel
theorem dX3_mixedEnvelopes_55 : decode cX3_mixedEnvelopes 55 = .ok (.aload_n 0, 1) := by decide +kernel
theorem dX3_mixedEnvelopes_56 : decode cX3_mixedEnvelopes 56 = .ok (.getfield 10, 3) := by decide +kernel
theorem dX3_mixedEnvelopes_59 : decode cX3_mixedEnvelopes 59 = .ok (.getfield 163, 3) := by decide +kernel
theorem dX3_mixedEnvelopes_62 : decode cX3_mixedEnvelopes 62 = .ok (.invokevirtual 166, 3) := by decide +kernel
theorem dX3_mixedEnvelopes_65 : decode cX3_mixedEnvelopes 65 = .ok (.invokestatic 212, 3) := by decide +kernel
theorem dX3_mixedEnvelopes_68 : decode cX3_mixedEnvelopes 68 = .ok (.lstore_n 3, 1) := by decide +kernel
theorem dX3_mixedEnvelopes_69 : decode cX3_mixedEnvelopes 69 = .ok (.iinc 5 1, 3) := by decide +kernel
theorem dX3_mixedEnvelopes_72 : decode cX3_mixedEnvelopes 72 = .ok (.goto (-67), 3) := by decide +kernel
theorem dX3_mixedEnvelopes_75 : decode cX3_mixedEnvelopes 75 = .ok (.lload_n 3, 1) := by decide +kernel
theorem dX3_mixedEnvelopes_76 : decode cX3_mixedEnvelopes 76 = .ok (.lreturn, 1) := by decide +kernel
theorem dX3_isBetween_0 : decode cX3_isBetween 0 = .ok (.iload_n 0, 1) := by decide +kernel
theorem dX3_isBetween_1 : decode cX3_isBetween 1 = .ok (.iload_n 1, 1) := by decide +kernel
theorem dX3_isBetween_2 : decode cX3_isBetween 2 = .ok (.if_icmp .lt 12, 3) := by decide +kernel
theorem dX3_isBetween_5 : decode cX3_isBetween 5 = .ok (.iload_n 0, 1) := by decide +kernel
theorem dX3_isBetween_6 : decode cX3_isBetween 6 = .ok (.iload_n 2, 1) := by decide +kernel
theorem dX3_isBetween_7 : decode cX3_isBetween 7 = .ok (.if_icmp .gt 7, 3) := by decide +kernel
theorem dX3_isBetween_10 : decode cX3_isBetween 10 = .ok (.iconst 1, 1) := by decide +kernel
theorem dX3_isBetween_11 : decode cX3_isBetween 11 = .ok (.goto 4, 3) := by decide +kernel
theorem dX3_isBetween_14 : decode cX3_isBetween 14 = .ok (.iconst 0, 1) := by decide +kernel
theorem dX3_isBetween_15 : decode cX3_isBetween 15 = .ok (.ireturn, 1) := by decide +kernel
theorem dX3_isBody_0 : decode cX3_isBody 0 = .ok (.iload_n 0, 1) := by decide +kernel
theorem dX3_isBody_1 : decode cX3_isBody 1 = .ok (.iconst 0, 1) := by decide +kernel
theorem dX3_isBody_2 : decode cX3_isBody 2 = .ok (.sipush 9999, 3) := by decide +kernel
theorem dX3_isBody_5 : decode cX3_isBody 5 = .ok (.invokestatic 96, 3) := by decide +kernel
theorem dX3_isBody_8 : decode cX3_isBody 8 = .ok (.ireturn, 1) := by decide +kernel
theorem dX3_covered_0 : decode cX3_covered 0 = .ok (.bipush 7, 2) := by decide +kernel
theorem dX3_covered_2 : decode cX3_covered 2 = .ok (.iload_n 0, 1) := by decide +kernel
theorem dX3_covered_3 : decode cX3_covered 3 = .ok (.imul, 1) := by decide +kernel
theorem dX3_covered_4 : decode cX3_covered 4 = .ok (.iload_n 1, 1) := by decide +kernel
theorem dX3_covered_5 : decode cX3_covered 5 = .ok (.iadd, 1) := by decide +kernel
theorem dX3_covered_6 : decode cX3_covered 6 = .ok (.sipush 10000, 3) := by decide +kernel
theorem dX3_covered_9 : decode cX3_covered 9 = .ok (.invokestatic 263, 3) := by decide +kernel
theorem dX3_covered_12 : decode cX3_covered 12 = .ok (.ireturn, 1) := by decide +kernel
theorem dX3_uncovered_0 : decode cX3_uncovered 0 = .ok (.sipush 7143, 3) := by decide +kernel
theorem dX3_uncovered_3 : decode cX3_uncovered 3 = .ok (.iload_n 0, 1) := by decide +kernel
theorem dX3_uncovered_4 : decode cX3_uncovered 4 = .ok (.iload_n 1, 1) := by decide +kernel
theorem dX3_uncovered_5 : decode cX3_uncovered 5 = .ok (.isub, 1) := by decide +kernel
theorem dX3_uncovered_6 : decode cX3_uncovered 6 = .ok (.imul, 1) := by decide +kernel
theorem dX3_uncovered_7 : decode cX3_uncovered 7 = .ok (.sipush 10000, 3) := by decide +kernel
theorem dX3_uncovered_10 : decode cX3_uncovered 10 = .ok (.invokestatic 263, 3) := by decide +kernel
theorem dX3_uncovered_13 : decode cX3_uncovered 13 = .ok (.ireturn, 1) := by decide +kernel
theorem dX3_read_0 : decode cX3_read 0 = .ok (.iload_n 1, 1) := by decide +kernel
theorem dX3_read_1 : decode cX3_read 1 = .ok (.ifCond .lt 15, 3) := by decide +kernel
theorem dX3_read_4 : decode cX3_read 4 = .ok (.iload_n 1, 1) := by decide +kernel
theorem dX3_read_5 : decode cX3_read 5 = .ok (.aload_n 0, 1) := by decide +kernel
theorem dX3_read_6 : decode cX3_read 6 = .ok (.arraylength, 1) := by decide +kernel
theorem dX3_read_7 : decode cX3_read 7 = .ok (.if_icmp .ge 9, 3) := by decide +kernel
theorem dX3_read_10 : decode cX3_read 10 = .ok (.aload_n 0, 1) := by decide +kernel
theorem dX3_read_11 : decode cX3_read 11 = .ok (.iload_n 1, 1) := by decide +kernel
theorem dX3_read_12 : decode cX3_read 12 = .ok (.iaload, 1) := by decide +kernel
theorem dX3_read_13 : decode cX3_read 13 = .ok (.goto 4, 3) := by decide +kernel
theorem dX3_read_16 : decode cX3_read 16 = .ok (.iconst 0, 1) := by decide +kernel
theorem dX3_read_17 : decode cX3_read 17 = .ok (.ireturn, 1) := by decide +kernel
theorem dX3_write_0 : decode cX3_write 0 = .ok (.iload_n 1, 1) := by decide +kernel
theorem dX3_write_1 : decode cX3_write 1 = .ok (.ifCond .lt 13, 3) := by decide +kernel
theorem dX3_write_4 : decode cX3_write 4 = .ok (.iload_n 1, 1) := by decide +kernel
theorem dX3_write_5 : decode cX3_write 5 = .ok (.aload_n 0, 1) := by decide +kernel
theorem dX3_write_6 : decode cX3_write 6 = .ok (.arraylength, 1) := by decide +kernel
theorem dX3_write_7 : decode cX3_write 7 = .ok (.if_icmp .ge 7, 3) := by decide +kernel
theorem dX3_write_10 : decode cX3_write 10 = .ok (.aload_n 0, 1) := by decide +kernel
theorem dX3_write_11 : decode cX3_write 11 = .ok (.iload_n 1, 1) := by decide +kernel
theorem dX3_write_12 : decode cX3_write 12 = .ok (.iload_n 2, 1) := by decide +kernel
theorem dX3_write_13 : decode cX3_write 13 = .ok (.iastore, 1) := by decide +kernel
theorem dX3_write_14 : decode cX3_write 14 = .ok (.return_, 1) := by decide +kernel
theorem dX3_copyRow_0 : decode cX3_copyRow 0 = .ok (.aload_n 0, 1) := by decide +kernel
theorem dX3_copyRow_1 : decode cX3_copyRow 1 = .ok (.iconst 0, 1) := by decide +kernel
theorem dX3_copyRow_2 : decode cX3_copyRow 2 = .ok (.aload_n 1, 1) := by decide +kernel
theorem dX3_copyRow_3 : decode cX3_copyRow 3 = .ok (.iconst 0, 1) := by decide +kernel
theorem dX3_copyRow_4 : decode cX3_copyRow 4 = .ok (.aload_n 0, 1) := by decide +kernel
theorem dX3_copyRow_5 : decode cX3_copyRow 5 = .ok (.arraylength, 1) := by decide +kernel
theorem dX3_copyRow_6 : decode cX3_copyRow 6 = .ok (.aload_n 1, 1) := by decide +kernel
theorem dX3_copyRow_7 : decode cX3_copyRow 7 = .ok (.arraylength, 1) := by decide +kernel
theorem dX3_copyRow_8 : decode cX3_copyRow 8 = .ok (.invokestatic 268, 3) := by decide +kernel
theorem dX3_copyRow_11 : decode cX3_copyRow 11 = .ok (.invokestatic 271, 3) := by decide +kernel
theorem dX3_copyRow_14 : decode cX3_copyRow 14 = .ok (.return_, 1) := by decide +kernel
end
section
theorem dJ9_floorMod_7cf53_0 : decode cJ9_floorMod_7cf53 0 = .ok (.iload_n 0, 1) := by decide +kernel
theorem dJ9_floorMod_7cf53_1 : decode cJ9_floorMod_7cf53 1 = .ok (.iload_n 1, 1) := by decide +kernel
theorem dJ9_floorMod_7cf53_2 : decode cJ9_floorMod_7cf53 2 = .ok (.irem, 1) := by decide +kernel
theorem dJ9_floorMod_7cf53_3 : decode cJ9_floorMod_7cf53 3 = .ok (.istore_n 2, 1) := by decide +kernel
theorem dJ9_floorMod_7cf53_4 : decode cJ9_floorMod_7cf53 4 = .ok (.iload_n 0, 1) := by decide +kernel
theorem dJ9_floorMod_7cf53_5 : decode cJ9_floorMod_7cf53 5 = .ok (.iload_n 1, 1) := by decide +kernel
theorem dJ9_floorMod_7cf53_6 : decode cJ9_floorMod_7cf53 6 = .ok (.ixor, 1) := by decide +kernel
theorem dJ9_floorMod_7cf53_7 : decode cJ9_floorMod_7cf53 7 = .ok (.ifCond .ge 11, 3) := by decide +kernel
theorem dJ9_floorMod_7cf53_10 : decode cJ9_floorMod_7cf53 10 = .ok (.iload_n 2, 1) := by decide +kernel
theorem dJ9_floorMod_7cf53_11 : decode cJ9_floorMod_7cf53 11 = .ok (.ifCond .eq 7, 3) := by decide +kernel
theorem dJ9_floorMod_7cf53_14 : decode cJ9_floorMod_7cf53 14 = .ok (.iload_n 2, 1) := by decide +kernel
theorem dJ9_floorMod_7cf53_15 : decode cJ9_floorMod_7cf53 15 = .ok (.iload_n 1, 1) := by decide +kernel
theorem dJ9_floorMod_7cf53_16 : decode cJ9_floorMod_7cf53 16 = .ok (.iadd, 1) := by decide +kernel
theorem dJ9_floorMod_7cf53_17 : decode cJ9_floorMod_7cf53 17 = .ok (.ireturn, 1) := by decide +kernel
theorem dJ9_floorMod_7cf53_18 : decode cJ9_floorMod_7cf53 18 = .ok (.iload_n 2, 1) := by decide +kernel
theorem dJ9_floorMod_7cf53_19 : decode cJ9_floorMod_7cf53 19 = .ok (.ireturn, 1) := by decide +kernel
theorem dJ9_min_7cf53_0 : decode cJ9_min_7cf53 0 = .ok (.iload_n 0, 1) := by decide +kernel
theorem dJ9_min_7cf53_1 : decode cJ9_min_7cf53 1 = .ok (.iload_n 1, 1) := by decide +kernel
theorem dJ9_min_7cf53_2 : decode cJ9_min_7cf53 2 = .ok (.if_icmp .gt 7, 3) := by decide +kernel
theorem dJ9_min_7cf53_5 : decode cJ9_min_7cf53 5 = .ok (.iload_n 0, 1) := by decide +kernel
theorem dJ9_min_7cf53_6 : decode cJ9_min_7cf53 6 = .ok (.goto 4, 3) := by decide +kernel
theorem dJ9_min_7cf53_9 : decode cJ9_min_7cf53 9 = .ok (.iload_n 1, 1) := by decide +kernel
theorem dJ9_min_7cf53_10 : decode cJ9_min_7cf53 10 = .ok (.ireturn, 1) := by decide +kernel
theorem dJ7_fill_53178_0 : decode cJ7_fill_53178 0 = .ok (.iconst 0, 1) := by decide +kernel
theorem dJ7_fill_53178_1 : decode cJ7_fill_53178 1 = .ok (.istore_n 2, 1) := by decide +kernel
theorem dJ7_fill_53178_2 : decode cJ7_fill_53178 2 = .ok (.aload_n 0, 1) := by decide +kernel
theorem dJ7_fill_53178_3 : decode cJ7_fill_53178 3 = .ok (.arraylength, 1) := by decide +kernel
theorem dJ7_fill_53178_4 : decode cJ7_fill_53178 4 = .ok (.istore_n 3, 1) := by decide +kernel
theorem dJ7_fill_53178_5 : decode cJ7_fill_53178 5 = .ok (.iload_n 2, 1) := by decide +kernel
theorem dJ7_fill_53178_6 : decode cJ7_fill_53178 6 = .ok (.iload_n 3, 1) := by decide +kernel
theorem dJ7_fill_53178_7 : decode cJ7_fill_53178 7 = .ok (.if_icmp .ge 13, 3) := by decide +kernel
theorem dJ7_fill_53178_10 : decode cJ7_fill_53178 10 = .ok (.aload_n 0, 1) := by decide +kernel
theorem dJ7_fill_53178_11 : decode cJ7_fill_53178 11 = .ok (.iload_n 2, 1) := by decide +kernel
theorem dJ7_fill_53178_12 : decode cJ7_fill_53178 12 = .ok (.iload_n 1, 1) := by decide +kernel
theorem dJ7_fill_53178_13 : decode cJ7_fill_53178 13 = .ok (.iastore, 1) := by decide +kernel
theorem dJ7_fill_53178_14 : decode cJ7_fill_53178 14 = .ok (.iinc 2 1, 3) := by decide +kernel
theorem dJ7_fill_53178_17 : decode cJ7_fill_53178 17 = .ok (.goto (-12), 3) := by decide +kernel
theorem dJ7_fill_53178_20 : decode cJ7_fill_53178 20 = .ok (.return_, 1) := by decide +kernel
theorem dL_cell_0 : decode cL_cell 0 = .ok (.iload_n 1, 1) := by decide +kernel
theorem dL_cell_1 : decode cL_cell 1 = .ok (.aload_n 0, 1) := by decide +kernel
theorem dL_cell_2 : decode cL_cell 2 = .ok (.arraylength, 1) := by decide +kernel
theorem dL_cell_3 : decode cL_cell 3 = .ok (.if_icmp .ge 9, 3) := by decide +kernel
theorem dL_cell_6 : decode cL_cell 6 = .ok (.aload_n 0, 1) := by decide +kernel
theorem dL_cell_7 : decode cL_cell 7 = .ok (.iload_n 1, 1) := by decide +kernel
theorem dL_cell_8 : decode cL_cell 8 = .ok (.iaload, 1) := by decide +kernel
theorem dL_cell_9 : decode cL_cell 9 = .ok (.goto 11, 3) := by decide +kernel
theorem dL_cell_12 : decode cL_cell 12 = .ok (.ldc 7, 2) := by decide +kernel
theorem dL_cell_14 : decode cL_cell 14 = .ok (.iload_n 1, 1) := by decide +kernel
theorem dL_cell_15 : decode cL_cell 15 = .ok (.sipush 349, 3) := by decide +kernel
theorem dL_cell_18 : decode cL_cell 18 = .ok (.iadd, 1) := by decide +kernel
theorem dL_cell_19 : decode cL_cell 19 = .ok (.imul, 1) := by decide +kernel
theorem dL_cell_20 : decode cL_cell 20 = .ok (.ireturn, 1) := by decide +kernel
theorem dL_up_0 : decode cL_up 0 = .ok (.iload_n 0, 1) := by decide +kernel
theorem dL_up_1 : decode cL_up 1 = .ok (.ldc 8, 2) := by decide +kernel
theorem dL_up_3 : decode cL_up 3 = .ok (.iand, 1) := by decide +kernel
theorem dL_up_4 : decode cL_up 4 = .ok (.iload_n 1, 1) := by decide +kernel
theorem dL_up_5 : decode cL_up 5 = .ok (.irem, 1) := by decide +kernel
theorem dL_up_6 : decode cL_up 6 = .ok (.ireturn, 1) := by decide +kernel
theorem dL_act_0 : decode cL_act 0 = .ok (.iload_n 3, 1) := by decide +kernel
theorem dL_act_1 : decode cL_act 1 = .ok (.bipush 8, 2) := by decide +kernel
theorem dL_act_3 : decode cL_act 3 = .ok (.invokestatic 9, 3) := by decide +kernel
theorem dL_act_6 : decode cL_act 6 = .ok (.istore 4, 2) := by decide +kernel
theorem dL_act_8 : decode cL_act 8 = .ok (.iload 4, 2) := by decide +kernel
theorem dL_act_10 : decode cL_act 10 = .ok (.iconst 1, 1) := by decide +kernel
theorem dL_act_11 : decode cL_act 11 = .ok (.iadd, 1) := by decide +kernel
theorem dL_act_12 : decode cL_act 12 = .ok (.iload_n 3, 1) := by decide +kernel
theorem dL_act_13 : decode cL_act 13 = .ok (.iconst 3, 1) := by decide +kernel
theorem dL_act_14 : decode cL_act 14 = .ok (.ishr, 1) := by decide +kernel
theorem dL_act_15 : decode cL_act 15 = .ok (.bipush 7, 2) := by decide +kernel
theorem dL_act_17 : decode cL_act 17 = .ok (.invokestatic 9, 3) := by decide +kernel
theorem dL_act_20 : decode cL_act 20 = .ok (.iadd, 1) := by decide +kernel
theorem dL_act_21 : decode cL_act 21 = .ok (.bipush 8, 2) := by decide +kernel
theorem dL_act_23 : decode cL_act 23 = .ok (.irem, 1) := by decide +kernel
theorem dL_act_24 : decode cL_act 24 = .ok (.istore 5, 2) := by decide +kernel
theorem dL_act_26 : decode cL_act 26 = .ok (.iload 5, 2) := by decide +kernel
theorem dL_act_28 : decode cL_act 28 = .ok (.iconst 1, 1) := by decide +kernel
theorem dL_act_29 : decode cL_act 29 = .ok (.iadd, 1) := by decide +kernel
theorem dL_act_30 : decode cL_act 30 = .ok (.iload_n 3, 1) := by decide +kernel
theorem dL_act_31 : decode cL_act 31 = .ok (.bipush 6, 2) := by decide +kernel
theorem dL_act_33 : decode cL_act 33 = .ok (.ishr, 1) := by decide +kernel
theorem dL_act_34 : decode cL_act 34 = .ok (.bipush 7, 2) := by decide +kernel
theorem dL_act_36 : decode cL_act 36 = .ok (.invokestatic 9, 3) := by decide +kernel
theorem dL_act_39 : decode cL_act 39 = .ok (.iadd, 1) := by decide +kernel
theorem dL_act_40 : decode cL_act 40 = .ok (.bipush 8, 2) := by decide +kernel
theorem dL_act_42 : decode cL_act 42 = .ok (.irem, 1) := by decide +kernel
theorem dL_act_43 : decode cL_act 43 = .ok (.istore 6, 2) := by decide +kernel
theorem dL_act_45 : decode cL_act 45 = .ok (.iload_n 3, 1) := by decide +kernel
theorem dL_act_46 : decode cL_act 46 = .ok (.bipush 9, 2) := by decide +kernel
theorem dL_act_48 : decode cL_act 48 = .ok (.ishr, 1) := by decide +kernel
theorem dL_act_49 : decode cL_act 49 = .ok (.iconst 4, 1) := by decide +kernel
theorem dL_act_50 : decode cL_act 50 = .ok (.invokestatic 9, 3) := by decide +kernel
theorem dL_act_53 : decode cL_act 53 = .ok (.istore 7, 2) := by decide +kernel
theorem dL_act_55 : decode cL_act 55 = .ok (.iload_n 3, 1) := by decide +kernel
theorem dL_act_56 : decode cL_act 56 = .ok (.bipush 11, 2) := by decide +kernel
theorem dL_act_58 : decode cL_act 58 = .ok (.ishr, 1) := by decide +kernel
theorem dL_act_59 : decode cL_act 59 = .ok (.sipush 10000, 3) := by decide +kernel
theorem dL_act_62 : decode cL_act 62 = .ok (.invokestatic 9, 3) := by decide +kernel
theorem dL_act_65 : decode cL_act 65 = .ok (.istore 8, 2) := by decide +kernel
theorem dL_act_67 : decode cL_act 67 = .ok (.aload_n 0, 1) := by decide +kernel
theorem dL_act_68 : decode cL_act 68 = .ok (.invokevirtual 15, 3) := by decide +kernel
theorem dL_act_71 : decode cL_act 71 = .ok (.istore 9, 2) := by decide +kernel
theorem dL_act_73 : decode cL_act 73 = .ok (.aload_n 0, 1) := by decide +kernel
theorem dL_act_74 : decode cL_act 74 = .ok (.invokevirtual 21, 3) := by decide +kernel
theorem dL_act_77 : decode cL_act 77 = .ok (.istore 10, 2) := by decide +kernel
theorem dL_act_79 : decode cL_act 79 = .ok (.iload_n 2, 1) := by decide +kernel
theorem dL_act_80 : decode cL_act 80 = .ok (.bipush 16, 2) := by decide +kernel
theorem dL_act_82 : decode cL_act 82 = .ok (.invokestatic 9, 3) := by decide +kernel
theorem dL_act_85 : decode cL_act 85 = .ok (.tableswitch 323 0 11 #[63, 63, 91, 100, 100, 100, 165, 283, 283, 283, 289, 289], 63) := by decide +kernel
theorem dL_act_148 : decode cL_act 148 = .ok (.aload_n 0, 1) := by decide +kernel
theorem dL_act_149 : decode cL_act 149 = .ok (.iload 4, 2) := by decide +kernel
theorem dL_act_151 : decode cL_act 151 = .ok (.iload_n 3, 1) := by decide +kernel
theorem dL_act_152 : decode cL_act 152 = .ok (.iconst 4, 1) := by decide +kernel
theorem dL_act_153 : decode cL_act 153 = .ok (.ishr, 1) := by decide +kernel
theorem dL_act_154 : decode cL_act 154 = .ok (.iconst 3, 1) := by decide +kernel
theorem dL_act_155 : decode cL_act 155 = .ok (.iand, 1) := by decide +kernel
theorem dL_act_156 : decode cL_act 156 = .ok (.ifCond .le 7, 3) := by decide +kernel
theorem dL_act_159 : decode cL_act 159 = .ok (.iconst 1, 1) := by decide +kernel
theorem dL_act_160 : decode cL_act 160 = .ok (.goto 4, 3) := by decide +kernel
theorem dL_act_163 : decode cL_act 163 = .ok (.iconst 0, 1) := by decide +kernel
theorem dL_act_164 : decode cL_act 164 = .ok (.invokevirtual 24, 3) := by decide +kernel
theorem dL_act_167 : decode cL_act 167 = .ok (.ifCond .eq 7, 3) := by decide +kernel
theorem dL_act_170 : decode cL_act 170 = .ok (.iconst 1, 1) := by decide +kernel
theorem dL_act_171 : decode cL_act 171 = .ok (.goto 4, 3) := by decide +kernel
theorem dL_act_174 : decode cL_act 174 = .ok (.iconst 0, 1) := by decide +kernel
theorem dL_act_175 : decode cL_act 175 = .ok (.ireturn, 1) := by decide +kernel
theorem dL_act_176 : decode cL_act 176 = .ok (.aload_n 0, 1) := by decide +kernel
theorem dL_act_177 : decode cL_act 177 = .ok (.iload 4, 2) := by decide +kernel
theorem dL_act_179 : decode cL_act 179 = .ok (.iload 8, 2) := by decide +kernel
theorem dL_act_181 : decode cL_act 181 = .ok (.invokevirtual 28, 3) := by decide +kernel
theorem dL_act_184 : decode cL_act 184 = .ok (.ireturn, 1) := by decide +kernel
theorem dL_act_185 : decode cL_act 185 = .ok (.iload 4, 2) := by decide +kernel
theorem dL_act_187 : decode cL_act 187 = .ok (.iload 6, 2) := by decide +kernel
theorem dL_act_189 : decode cL_act 189 = .ok (.if_icmp .eq 52, 3) := by decide +kernel
theorem dL_act_192 : decode cL_act 192 = .ok (.iload 9, 2) := by decide +kernel
theorem dL_act_194 : decode cL_act 194 = .ok (.bipush 6, 2) := by decide +kernel
theorem dL_act_196 : decode cL_act 196 = .ok (.if_icmp .ge 45, 3) := by decide +kernel
theorem dL_act_199 : decode cL_act 199 = .ok (.aload_n 0, 1) := by decide +kernel
theorem dL_act_200 : decode cL_act 200 = .ok (.iload 4, 2) := by decide +kernel
theorem dL_act_202 : decode cL_act 202 = .ok (.invokevirtual 31, 3) := by decide +kernel
theorem dL_act_205 : decode cL_act 205 = .ok (.ifCond .eq 36, 3) := by decide +kernel
theorem dL_act_208 : decode cL_act 208 = .ok (.aload_n 0, 1) := by decide +kernel
theorem dL_act_209 : decode cL_act 209 = .ok (.iload 5, 2) := by decide +kernel
theorem dL_act_211 : decode cL_act 211 = .ok (.invokevirtual 31, 3) := by decide +kernel
theorem dL_act_214 : decode cL_act 214 = .ok (.ifCond .eq 27, 3) := by decide +kernel
theorem dL_act_217 : decode cL_act 217 = .ok (.aload_n 0, 1) := by decide +kernel
theorem dL_act_218 : decode cL_act 218 = .ok (.iload 6, 2) := by decide +kernel
theorem dL_act_220 : decode cL_act 220 = .ok (.invokevirtual 31, 3) := by decide +kernel
theorem dL_act_223 : decode cL_act 223 = .ok (.ifCond .eq 18, 3) := by decide +kernel
theorem dL_act_226 : decode cL_act 226 = .ok (.aload_n 0, 1) := by decide +kernel
theorem dL_act_227 : decode cL_act 227 = .ok (.iload 4, 2) := by decide +kernel
theorem dL_act_229 : decode cL_act 229 = .ok (.iload 5, 2) := by decide +kernel
theorem dL_act_231 : decode cL_act 231 = .ok (.iload 6, 2) := by decide +kernel
theorem dL_act_233 : decode cL_act 233 = .ok (.iload 7, 2) := by decide +kernel
theorem dL_act_235 : decode cL_act 235 = .ok (.invokevirtual 35, 3) := by decide +kernel
theorem dL_act_238 : decode cL_act 238 = .ok (.goto 11, 3) := by decide +kernel
theorem dL_act_241 : decode cL_act 241 = .ok (.aload_n 0, 1) := by decide +kernel
theorem dL_act_242 : decode cL_act 242 = .ok (.iload 4, 2) := by decide +kernel
theorem dL_act_244 : decode cL_act 244 = .ok (.iload 8, 2) := by decide +kernel
theorem dL_act_246 : decode cL_act 246 = .ok (.invokevirtual 28, 3) := by decide +kernel
theorem dL_act_249 : decode cL_act 249 = .ok (.ireturn, 1) := by decide +kernel
theorem dL_act_250 : decode cL_act 250 = .ok (.iload 9, 2) := by decide +kernel
theorem dL_act_252 : decode cL_act 252 = .ok (.ifCond .le 7, 3) := by decide +kernel
theorem dL_act_255 : decode cL_act 255 = .ok (.iconst 1, 1) := by decide +kernel
theorem dL_act_256 : decode cL_act 256 = .ok (.goto 4, 3) := by decide +kernel
theorem dL_act_259 : decode cL_act 259 = .ok (.iconst 0, 1) := by decide +kernel
theorem dL_act_260 : decode cL_act 260 = .ok (.istore 11, 2) := by decide +kernel
theorem dL_act_262 : decode cL_act 262 = .ok (.iconst 0, 1) := by decide +kernel
theorem dL_act_263 : decode cL_act 263 = .ok (.istore 12, 2) := by decide +kernel
theorem dL_act_265 : decode cL_act 265 = .ok (.iload 12, 2) := by decide +kernel
theorem dL_act_267 : decode cL_act 267 = .ok (.iload 10, 2) := by decide +kernel
theorem dL_act_269 : decode cL_act 269 = .ok (.if_icmp .ge 35, 3) := by decide +kernel
theorem dL_act_272 : decode cL_act 272 = .ok (.iload 11, 2) := by decide +kernel
theorem dL_act_274 : decode cL_act 274 = .ok (.ifCond .eq 21, 3) := by decide +kernel
theorem dL_act_277 : decode cL_act 277 = .ok (.aload_n 0, 1) := by decide +kernel
theorem dL_act_278 : decode cL_act 278 = .ok (.iload 12, 2) := by decide +kernel
theorem dL_act_280 : decode cL_act 280 = .ok (.iconst 0, 1) := by decide +kernel
theorem dL_act_281 : decode cL_act 281 = .ok (.invokevirtual 39, 3) := by decide +kernel
theorem dL_act_284 : decode cL_act 284 = .ok (.iload 9, 2) := by decide +kernel
theorem dL_act_286 : decode cL_act 286 = .ok (.iconst 1, 1) := by decide +kernel
theorem dL_act_287 : decode cL_act 287 = .ok (.isub, 1) := by decide +kernel
theorem dL_act_288 : decode cL_act 288 = .ok (.if_icmp .eq 7, 3) := by decide +kernel
theorem dL_act_291 : decode cL_act 291 = .ok (.iconst 1, 1) := by decide +kernel
theorem dL_act_292 : decode cL_act 292 = .ok (.goto 4, 3) := by decide +kernel
theorem dL_act_295 : decode cL_act 295 = .ok (.iconst 0, 1) := by decide +kernel
theorem dL_act_296 : decode cL_act 296 = .ok (.istore 11, 2) := by decide +kernel
theorem dL_act_298 : decode cL_act 298 = .ok (.iinc 12 1, 3) := by decide +kernel
theorem dL_act_301 : decode cL_act 301 = .ok (.goto (-36), 3) := by decide +kernel
theorem dL_act_304 : decode cL_act 304 = .ok (.iconst 0, 1) := by decide +kernel
theorem dL_act_305 : decode cL_act 305 = .ok (.istore 12, 2) := by decide +kernel
theorem dL_act_307 : decode cL_act 307 = .ok (.iload 12, 2) := by decide +kernel
theorem dL_act_309 : decode cL_act 309 = .ok (.iconst 4, 1) := by decide +kernel
theorem dL_act_310 : decode cL_act 310 = .ok (.if_icmp .ge 37, 3) := by decide +kernel
theorem dL_act_313 : decode cL_act 313 = .ok (.iload 11, 2) := by decide +kernel
theorem dL_act_315 : decode cL_act 315 = .ok (.ifCond .eq 32, 3) := by decide +kernel
theorem dL_act_318 : decode cL_act 318 = .ok (.aload_n 1, 1) := by decide +kernel
theorem dL_act_319 : decode cL_act 319 = .ok (.iload 12, 2) := by decide +kernel
theorem dL_act_321 : decode cL_act 321 = .ok (.aload_n 1, 1) := by decide +kernel
theorem dL_act_322 : decode cL_act 322 = .ok (.iload 12, 2) := by decide +kernel
theorem dL_act_324 : decode cL_act 324 = .ok (.iaload, 1) := by decide +kernel
theorem dL_act_325 : decode cL_act 325 = .ok (.iload 9, 2) := by decide +kernel
theorem dL_act_327 : decode cL_act 327 = .ok (.iconst 1, 1) := by decide +kernel
theorem dL_act_328 : decode cL_act 328 = .ok (.isub, 1) := by decide +kernel
theorem dL_act_329 : decode cL_act 329 = .ok (.if_icmp .ne 7, 3) := by decide +kernel
theorem dL_act_332 : decode cL_act 332 = .ok (.iconst (-1), 1) := by decide +kernel
theorem dL_act_333 : decode cL_act 333 = .ok (.goto 7, 3) := by decide +kernel
theorem dL_act_336 : decode cL_act 336 = .ok (.aload_n 1, 1) := by decide +kernel
theorem dL_act_337 : decode cL_act 337 = .ok (.iload 12, 2) := by decide +kernel
theorem dL_act_339 : decode cL_act 339 = .ok (.iaload, 1) := by decide +kernel
theorem dL_act_340 : decode cL_act 340 = .ok (.iastore, 1) := by decide +kernel
theorem dL_act_341 : decode cL_act 341 = .ok (.iinc 12 1, 3) := by decide +kernel
theorem dL_act_344 : decode cL_act 344 = .ok (.goto (-37), 3) := by decide +kernel
theorem dL_act_347 : decode cL_act 347 = .ok (.iload 11, 2) := by decide +kernel
theorem dL_act_349 : decode cL_act 349 = .ok (.ifCond .eq 10, 3) := by decide +kernel
theorem dL_act_352 : decode cL_act 352 = .ok (.aload_n 0, 1) := by decide +kernel
theorem dL_act_353 : decode cL_act 353 = .ok (.invokevirtual 42, 3) := by decide +kernel
theorem dL_act_356 : decode cL_act 356 = .ok (.goto 11, 3) := by decide +kernel
theorem dL_act_359 : decode cL_act 359 = .ok (.aload_n 0, 1) := by decide +kernel
theorem dL_act_360 : decode cL_act 360 = .ok (.iload 4, 2) := by decide +kernel
theorem dL_act_362 : decode cL_act 362 = .ok (.iload 8, 2) := by decide +kernel
theorem dL_act_364 : decode cL_act 364 = .ok (.invokevirtual 28, 3) := by decide +kernel
theorem dL_act_367 : decode cL_act 367 = .ok (.ireturn, 1) := by decide +kernel
theorem dL_act_368 : decode cL_act 368 = .ok (.aload_n 0, 1) := by decide +kernel
theorem dL_act_369 : decode cL_act 369 = .ok (.aload_n 1, 1) := by decide +kernel
theorem dL_act_370 : decode cL_act 370 = .ok (.invokestatic 45, 3) := by decide +kernel
theorem dL_act_373 : decode cL_act 373 = .ok (.ireturn, 1) := by decide +kernel
theorem dL_act_374 : decode cL_act 374 = .ok (.aload_n 1, 1) := by decide +kernel
theorem dL_act_375 : decode cL_act 375 = .ok (.iload 7, 2) := by decide +kernel
theorem dL_act_377 : decode cL_act 377 = .ok (.iaload, 1) := by decide +kernel
theorem dL_act_378 : decode cL_act 378 = .ok (.ifCond .lt 21, 3) := by decide +kernel
theorem dL_act_381 : decode cL_act 381 = .ok (.iload 10, 2) := by decide +kernel
theorem dL_act_383 : decode cL_act 383 = .ok (.bipush 12, 2) := by decide +kernel
theorem dL_act_385 : decode cL_act 385 = .ok (.if_icmp .ge 14, 3) := by decide +kernel
theorem dL_act_388 : decode cL_act 388 = .ok (.aload_n 0, 1) := by decide +kernel
theorem dL_act_389 : decode cL_act 389 = .ok (.iload 7, 2) := by decide +kernel
theorem dL_act_391 : decode cL_act 391 = .ok (.iload 8, 2) := by decide +kernel
theorem dL_act_393 : decode cL_act 393 = .ok (.invokevirtual 49, 3) := by decide +kernel
theorem dL_act_396 : decode cL_act 396 = .ok (.goto 11, 3) := by decide +kernel
theorem dL_act_399 : decode cL_act 399 = .ok (.aload_n 0, 1) := by decide +kernel
theorem dL_act_400 : decode cL_act 400 = .ok (.iload 4, 2) := by decide +kernel
theorem dL_act_402 : decode cL_act 402 = .ok (.iload 8, 2) := by decide +kernel
theorem dL_act_404 : decode cL_act 404 = .ok (.invokevirtual 28, 3) := by decide +kernel
theorem dL_act_407 : decode cL_act 407 = .ok (.ireturn, 1) := by decide +kernel
theorem dL_act_408 : decode cL_act 408 = .ok (.iload 9, 2) := by decide +kernel
theorem dL_act_410 : decode cL_act 410 = .ok (.ifCond .le 25, 3) := by decide +kernel
theorem dL_act_413 : decode cL_act 413 = .ok (.iload 10, 2) := by decide +kernel
theorem dL_act_415 : decode cL_act 415 = .ok (.bipush 12, 2) := by decide +kernel
theorem dL_act_417 : decode cL_act 417 = .ok (.if_icmp .ge 18, 3) := by decide +kernel
theorem dL_act_420 : decode cL_act 420 = .ok (.aload_n 0, 1) := by decide +kernel
theorem dL_act_421 : decode cL_act 421 = .ok (.iload_n 3, 1) := by decide +kernel
theorem dL_act_422 : decode cL_act 422 = .ok (.iload 9, 2) := by decide +kernel
theorem dL_act_424 : decode cL_act 424 = .ok (.invokestatic 9, 3) := by decide +kernel
theorem dL_act_427 : decode cL_act 427 = .ok (.iload 8, 2) := by decide +kernel
theorem dL_act_429 : decode cL_act 429 = .ok (.invokevirtual 52, 3) := by decide +kernel
theorem dL_act_432 : decode cL_act 432 = .ok (.goto 11, 3) := by decide +kernel
theorem dL_act_435 : decode cL_act 435 = .ok (.aload_n 0, 1) := by decide +kernel
theorem dL_act_436 : decode cL_act 436 = .ok (.iload 4, 2) := by decide +kernel
theorem dL_act_438 : decode cL_act 438 = .ok (.iload 8, 2) := by decide +kernel
theorem dL_act_440 : decode cL_act 440 = .ok (.invokevirtual 28, 3) := by decide +kernel
theorem dL_act_443 : decode cL_act 443 = .ok (.ireturn, 1) := by decide +kernel
theorem dL_passes_0 : decode cL_passes 0 = .ok (.iconst 0, 1) := by decide +kernel
theorem dL_passes_1 : decode cL_passes 1 = .ok (.istore_n 2, 1) := by decide +kernel
theorem dL_passes_2 : decode cL_passes 2 = .ok (.iload_n 2, 1) := by decide +kernel
theorem dL_passes_3 : decode cL_passes 3 = .ok (.aload_n 0, 1) := by decide +kernel
theorem dL_passes_4 : decode cL_passes 4 = .ok (.invokevirtual 21, 3) := by decide +kernel
theorem dL_passes_7 : decode cL_passes 7 = .ok (.if_icmp .ge 64, 3) := by decide +kernel
theorem dL_passes_10 : decode cL_passes 10 = .ok (.aload_n 0, 1) := by decide +kernel
theorem dL_passes_11 : decode cL_passes 11 = .ok (.iload_n 2, 1) := by decide +kernel
theorem dL_passes_12 : decode cL_passes 12 = .ok (.iconst 0, 1) := by decide +kernel
theorem dL_passes_13 : decode cL_passes 13 = .ok (.invokevirtual 39, 3) := by decide +kernel
theorem dL_passes_16 : decode cL_passes 16 = .ok (.istore_n 3, 1) := by decide +kernel
theorem dL_passes_17 : decode cL_passes 17 = .ok (.aload_n 0, 1) := by decide +kernel
theorem dL_passes_18 : decode cL_passes 18 = .ok (.iload_n 2, 1) := by decide +kernel
theorem dL_passes_19 : decode cL_passes 19 = .ok (.invokevirtual 55, 3) := by decide +kernel
theorem dL_passes_22 : decode cL_passes 22 = .ok (.iconst 1, 1) := by decide +kernel
theorem dL_passes_23 : decode cL_passes 23 = .ok (.if_icmp .ne 16, 3) := by decide +kernel
theorem dL_passes_26 : decode cL_passes 26 = .ok (.aload_n 0, 1) := by decide +kernel
theorem dL_passes_27 : decode cL_passes 27 = .ok (.iload_n 2, 1) := by decide +kernel
theorem dL_passes_28 : decode cL_passes 28 = .ok (.iconst 3, 1) := by decide +kernel
theorem dL_passes_29 : decode cL_passes 29 = .ok (.invokevirtual 39, 3) := by decide +kernel
theorem dL_passes_32 : decode cL_passes 32 = .ok (.ifCond .ne 7, 3) := by decide +kernel
theorem dL_passes_35 : decode cL_passes 35 = .ok (.iconst 1, 1) := by decide +kernel
theorem dL_passes_36 : decode cL_passes 36 = .ok (.goto 4, 3) := by decide +kernel
theorem dL_passes_39 : decode cL_passes 39 = .ok (.iconst 0, 1) := by decide +kernel
theorem dL_passes_40 : decode cL_passes 40 = .ok (.istore 4, 2) := by decide +kernel
theorem dL_passes_42 : decode cL_passes 42 = .ok (.aload_n 1, 1) := by decide +kernel
theorem dL_passes_43 : decode cL_passes 43 = .ok (.aload_n 0, 1) := by decide +kernel
theorem dL_passes_44 : decode cL_passes 44 = .ok (.iload_n 3, 1) := by decide +kernel
theorem dL_passes_45 : decode cL_passes 45 = .ok (.invokevirtual 59, 3) := by decide +kernel
theorem dL_passes_48 : decode cL_passes 48 = .ok (.iload 4, 2) := by decide +kernel
theorem dL_passes_50 : decode cL_passes 50 = .ok (.ifCond .eq 7, 3) := by decide +kernel
theorem dL_passes_53 : decode cL_passes 53 = .ok (.iload_n 3, 1) := by decide +kernel
theorem dL_passes_54 : decode cL_passes 54 = .ok (.goto 10, 3) := by decide +kernel
theorem dL_passes_57 : decode cL_passes 57 = .ok (.aload_n 1, 1) := by decide +kernel
theorem dL_passes_58 : decode cL_passes 58 = .ok (.aload_n 0, 1) := by decide +kernel
theorem dL_passes_59 : decode cL_passes 59 = .ok (.iload_n 3, 1) := by decide +kernel
theorem dL_passes_60 : decode cL_passes 60 = .ok (.invokevirtual 59, 3) := by decide +kernel
theorem dL_passes_63 : decode cL_passes 63 = .ok (.iaload, 1) := by decide +kernel
theorem dL_passes_64 : decode cL_passes 64 = .ok (.iastore, 1) := by decide +kernel
theorem dL_passes_65 : decode cL_passes 65 = .ok (.iinc 2 1, 3) := by decide +kernel
theorem dL_passes_68 : decode cL_passes 68 = .ok (.goto (-66), 3) := by decide +kernel
theorem dL_passes_71 : decode cL_passes 71 = .ok (.aload_n 0, 1) := by decide +kernel
theorem dL_passes_72 : decode cL_passes 72 = .ok (.iconst 1, 1) := by decide +kernel
theorem dL_passes_73 : decode cL_passes 73 = .ok (.invokevirtual 62, 3) := by decide +kernel
theorem dL_passes_76 : decode cL_passes 76 = .ok (.ireturn, 1) := by decide +kernel
theorem dL_holds_0 : decode cL_holds 0 = .ok (.iconst 0, 1) := by decide +kernel
theorem dL_holds_1 : decode cL_holds 1 = .ok (.istore_n 1, 1) := by decide +kernel
theorem dL_holds_2 : decode cL_holds 2 = .ok (.aload_n 0, 1) := by decide +kernel
theorem dL_holds_3 : decode cL_holds 3 = .ok (.invokevirtual 21, 3) := by decide +kernel
theorem dL_holds_6 : decode cL_holds 6 = .ok (.aload_n 0, 1) := by decide +kernel
theorem dL_holds_7 : decode cL_holds 7 = .ok (.iconst 0, 1) := by decide +kernel
theorem dL_holds_8 : decode cL_holds 8 = .ok (.invokevirtual 65, 3) := by decide +kernel
theorem dL_holds_11 : decode cL_holds 11 = .ok (.aload_n 0, 1) := by decide +kernel
theorem dL_holds_12 : decode cL_holds 12 = .ok (.iconst 2, 1) := by decide +kernel
theorem dL_holds_13 : decode cL_holds 13 = .ok (.invokevirtual 65, 3) := by decide +kernel
theorem dL_holds_16 : decode cL_holds 16 = .ok (.iadd, 1) := by decide +kernel
theorem dL_holds_17 : decode cL_holds 17 = .ok (.aload_n 0, 1) := by decide +kernel
theorem dL_holds_18 : decode cL_holds 18 = .ok (.iconst 1, 1) := by decide +kernel
theorem dL_holds_19 : decode cL_holds 19 = .ok (.invokevirtual 65, 3) := by decide +kernel
theorem dL_holds_22 : decode cL_holds 22 = .ok (.isub, 1) := by decide +kernel
theorem dL_holds_23 : decode cL_holds 23 = .ok (.aload_n 0, 1) := by decide +kernel
theorem dL_holds_24 : decode cL_holds 24 = .ok (.iconst 3, 1) := by decide +kernel
theorem dL_holds_25 : decode cL_holds 25 = .ok (.invokevirtual 65, 3) := by decide +kernel
theorem dL_holds_28 : decode cL_holds 28 = .ok (.isub, 1) := by decide +kernel
theorem dL_holds_29 : decode cL_holds 29 = .ok (.aload_n 0, 1) := by decide +kernel
theorem dL_holds_30 : decode cL_holds 30 = .ok (.iconst 4, 1) := by decide +kernel
theorem dL_holds_31 : decode cL_holds 31 = .ok (.invokevirtual 65, 3) := by decide +kernel
theorem dL_holds_34 : decode cL_holds 34 = .ok (.isub, 1) := by decide +kernel
theorem dL_holds_35 : decode cL_holds 35 = .ok (.if_icmp .ne 50, 3) := by decide +kernel
theorem dL_holds_38 : decode cL_holds 38 = .ok (.aload_n 0, 1) := by decide +kernel
theorem dL_holds_39 : decode cL_holds 39 = .ok (.invokevirtual 21, 3) := by decide +kernel
theorem dL_holds_42 : decode cL_holds 42 = .ok (.ifCond .lt 43, 3) := by decide +kernel
theorem dL_holds_45 : decode cL_holds 45 = .ok (.aload_n 0, 1) := by decide +kernel
theorem dL_holds_46 : decode cL_holds 46 = .ok (.invokevirtual 21, 3) := by decide +kernel
theorem dL_holds_49 : decode cL_holds 49 = .ok (.bipush 12, 2) := by decide +kernel
theorem dL_holds_51 : decode cL_holds 51 = .ok (.if_icmp .gt 34, 3) := by decide +kernel
theorem dL_holds_54 : decode cL_holds 54 = .ok (.aload_n 0, 1) := by decide +kernel
theorem dL_holds_55 : decode cL_holds 55 = .ok (.invokevirtual 15, 3) := by decide +kernel
theorem dL_holds_58 : decode cL_holds 58 = .ok (.bipush 6, 2) := by decide +kernel
theorem dL_holds_60 : decode cL_holds 60 = .ok (.if_icmp .gt 25, 3) := by decide +kernel
theorem dL_holds_63 : decode cL_holds 63 = .ok (.aload_n 0, 1) := by decide +kernel
theorem dL_holds_64 : decode cL_holds 64 = .ok (.invokevirtual 68, 3) := by decide +kernel
theorem dL_holds_67 : decode cL_holds 67 = .ok (.dconst 0, 1) := by decide +kernel
theorem dL_holds_68 : decode cL_holds 68 = .ok (.dcmp .l, 1) := by decide +kernel
theorem dL_holds_69 : decode cL_holds 69 = .ok (.ifCond .lt 16, 3) := by decide +kernel
theorem dL_holds_72 : decode cL_holds 72 = .ok (.aload_n 0, 1) := by decide +kernel
theorem dL_holds_73 : decode cL_holds 73 = .ok (.invokevirtual 68, 3) := by decide +kernel
theorem dL_holds_76 : decode cL_holds 76 = .ok (.dconst 1, 1) := by decide +kernel
theorem dL_holds_77 : decode cL_holds 77 = .ok (.dcmp .g, 1) := by decide +kernel
theorem dL_holds_78 : decode cL_holds 78 = .ok (.ifCond .gt 7, 3) := by decide +kernel
theorem dL_holds_81 : decode cL_holds 81 = .ok (.iconst 1, 1) := by decide +kernel
theorem dL_holds_82 : decode cL_holds 82 = .ok (.goto 4, 3) := by decide +kernel
theorem dL_holds_85 : decode cL_holds 85 = .ok (.iconst 0, 1) := by decide +kernel
theorem dL_holds_86 : decode cL_holds 86 = .ok (.istore_n 2, 1) := by decide +kernel
theorem dL_holds_87 : decode cL_holds 87 = .ok (.iconst 0, 1) := by decide +kernel
theorem dL_holds_88 : decode cL_holds 88 = .ok (.istore_n 3, 1) := by decide +kernel
theorem dL_holds_89 : decode cL_holds 89 = .ok (.iload_n 3, 1) := by decide +kernel
theorem dL_holds_90 : decode cL_holds 90 = .ok (.aload_n 0, 1) := by decide +kernel
theorem dL_holds_91 : decode cL_holds 91 = .ok (.invokevirtual 21, 3) := by decide +kernel
theorem dL_holds_94 : decode cL_holds 94 = .ok (.if_icmp .ge 133, 3) := by decide +kernel
theorem dL_holds_97 : decode cL_holds 97 = .ok (.aload_n 0, 1) := by decide +kernel
theorem dL_holds_98 : decode cL_holds 98 = .ok (.iload_n 3, 1) := by decide +kernel
theorem dL_holds_99 : decode cL_holds 99 = .ok (.iconst 3, 1) := by decide +kernel
theorem dL_holds_100 : decode cL_holds 100 = .ok (.invokevirtual 39, 3) := by decide +kernel
theorem dL_holds_103 : decode cL_holds 103 = .ok (.iconst 1, 1) := by decide +kernel
theorem dL_holds_104 : decode cL_holds 104 = .ok (.if_icmp .ne 7, 3) := by decide +kernel
theorem dL_holds_107 : decode cL_holds 107 = .ok (.iconst 1, 1) := by decide +kernel
theorem dL_holds_108 : decode cL_holds 108 = .ok (.goto 4, 3) := by decide +kernel
theorem dL_holds_111 : decode cL_holds 111 = .ok (.iconst 0, 1) := by decide +kernel
theorem dL_holds_112 : decode cL_holds 112 = .ok (.istore 4, 2) := by decide +kernel
theorem dL_holds_114 : decode cL_holds 114 = .ok (.aload_n 0, 1) := by decide +kernel
theorem dL_holds_115 : decode cL_holds 115 = .ok (.iload_n 3, 1) := by decide +kernel
theorem dL_holds_116 : decode cL_holds 116 = .ok (.iconst 1, 1) := by decide +kernel
theorem dL_holds_117 : decode cL_holds 117 = .ok (.invokevirtual 39, 3) := by decide +kernel
theorem dL_holds_120 : decode cL_holds 120 = .ok (.istore 5, 2) := by decide +kernel
theorem dL_holds_122 : decode cL_holds 122 = .ok (.aload_n 0, 1) := by decide +kernel
theorem dL_holds_123 : decode cL_holds 123 = .ok (.iload_n 3, 1) := by decide +kernel
theorem dL_holds_124 : decode cL_holds 124 = .ok (.invokevirtual 55, 3) := by decide +kernel
theorem dL_holds_127 : decode cL_holds 127 = .ok (.istore 6, 2) := by decide +kernel
theorem dL_holds_129 : decode cL_holds 129 = .ok (.iload_n 1, 1) := by decide +kernel
theorem dL_holds_130 : decode cL_holds 130 = .ok (.iload 6, 2) := by decide +kernel
theorem dL_holds_132 : decode cL_holds 132 = .ok (.iconst (-1), 1) := by decide +kernel
theorem dL_holds_133 : decode cL_holds 133 = .ok (.if_icmp .ne 7, 3) := by decide +kernel
theorem dL_holds_136 : decode cL_holds 136 = .ok (.iconst 1, 1) := by decide +kernel
theorem dL_holds_137 : decode cL_holds 137 = .ok (.goto 4, 3) := by decide +kernel
theorem dL_holds_140 : decode cL_holds 140 = .ok (.iconst 0, 1) := by decide +kernel
theorem dL_holds_141 : decode cL_holds 141 = .ok (.iadd, 1) := by decide +kernel
theorem dL_holds_142 : decode cL_holds 142 = .ok (.istore_n 1, 1) := by decide +kernel
theorem dL_holds_143 : decode cL_holds 143 = .ok (.iload_n 2, 1) := by decide +kernel
theorem dL_holds_144 : decode cL_holds 144 = .ok (.ifCond .eq 75, 3) := by decide +kernel
theorem dL_holds_147 : decode cL_holds 147 = .ok (.aload_n 0, 1) := by decide +kernel
theorem dL_holds_148 : decode cL_holds 148 = .ok (.iload_n 3, 1) := by decide +kernel
theorem dL_holds_149 : decode cL_holds 149 = .ok (.iconst 2, 1) := by decide +kernel
theorem dL_holds_150 : decode cL_holds 150 = .ok (.invokevirtual 39, 3) := by decide +kernel
theorem dL_holds_153 : decode cL_holds 153 = .ok (.ifCond .lt 66, 3) := by decide +kernel
theorem dL_holds_156 : decode cL_holds 156 = .ok (.aload_n 0, 1) := by decide +kernel
theorem dL_holds_157 : decode cL_holds 157 = .ok (.iload_n 3, 1) := by decide +kernel
theorem dL_holds_158 : decode cL_holds 158 = .ok (.iconst 2, 1) := by decide +kernel
theorem dL_holds_159 : decode cL_holds 159 = .ok (.invokevirtual 39, 3) := by decide +kernel
theorem dL_holds_162 : decode cL_holds 162 = .ok (.sipush 9999, 3) := by decide +kernel
theorem dL_holds_165 : decode cL_holds 165 = .ok (.if_icmp .gt 54, 3) := by decide +kernel
theorem dL_holds_168 : decode cL_holds 168 = .ok (.aload_n 0, 1) := by decide +kernel
theorem dL_holds_169 : decode cL_holds 169 = .ok (.iload_n 3, 1) := by decide +kernel
theorem dL_holds_170 : decode cL_holds 170 = .ok (.iconst 0, 1) := by decide +kernel
theorem dL_holds_171 : decode cL_holds 171 = .ok (.invokevirtual 39, 3) := by decide +kernel
theorem dL_holds_174 : decode cL_holds 174 = .ok (.ifCond .lt 45, 3) := by decide +kernel
theorem dL_holds_177 : decode cL_holds 177 = .ok (.aload_n 0, 1) := by decide +kernel
theorem dL_holds_178 : decode cL_holds 178 = .ok (.iload_n 3, 1) := by decide +kernel
theorem dL_holds_179 : decode cL_holds 179 = .ok (.iconst 0, 1) := by decide +kernel
theorem dL_holds_180 : decode cL_holds 180 = .ok (.invokevirtual 39, 3) := by decide +kernel
theorem dL_holds_183 : decode cL_holds 183 = .ok (.aload_n 0, 1) := by decide +kernel
theorem dL_holds_184 : decode cL_holds 184 = .ok (.invokevirtual 15, 3) := by decide +kernel
theorem dL_holds_187 : decode cL_holds 187 = .ok (.if_icmp .ge 32, 3) := by decide +kernel
theorem dL_holds_190 : decode cL_holds 190 = .ok (.iload 6, 2) := by decide +kernel
theorem dL_holds_192 : decode cL_holds 192 = .ok (.iconst (-1), 1) := by decide +kernel
theorem dL_holds_193 : decode cL_holds 193 = .ok (.if_icmp .eq 22, 3) := by decide +kernel
theorem dL_holds_196 : decode cL_holds 196 = .ok (.iload 6, 2) := by decide +kernel
theorem dL_holds_198 : decode cL_holds 198 = .ok (.iload 4, 2) := by decide +kernel
theorem dL_holds_200 : decode cL_holds 200 = .ok (.ifCond .eq 8, 3) := by decide +kernel
theorem dL_holds_203 : decode cL_holds 203 = .ok (.iload 5, 2) := by decide +kernel
theorem dL_holds_205 : decode cL_holds 205 = .ok (.goto 7, 3) := by decide +kernel
theorem dL_holds_208 : decode cL_holds 208 = .ok (.iconst 4, 1) := by decide +kernel
theorem dL_holds_209 : decode cL_holds 209 = .ok (.iload 5, 2) := by decide +kernel
theorem dL_holds_211 : decode cL_holds 211 = .ok (.isub, 1) := by decide +kernel
theorem dL_holds_212 : decode cL_holds 212 = .ok (.if_icmp .ne 7, 3) := by decide +kernel
theorem dL_holds_215 : decode cL_holds 215 = .ok (.iconst 1, 1) := by decide +kernel
theorem dL_holds_216 : decode cL_holds 216 = .ok (.goto 4, 3) := by decide +kernel
theorem dL_holds_219 : decode cL_holds 219 = .ok (.iconst 0, 1) := by decide +kernel
theorem dL_holds_220 : decode cL_holds 220 = .ok (.istore_n 2, 1) := by decide +kernel
theorem dL_holds_221 : decode cL_holds 221 = .ok (.iinc 3 1, 3) := by decide +kernel
theorem dL_holds_224 : decode cL_holds 224 = .ok (.goto (-135), 3) := by decide +kernel
theorem dL_holds_227 : decode cL_holds 227 = .ok (.iconst 0, 1) := by decide +kernel
theorem dL_holds_228 : decode cL_holds 228 = .ok (.istore_n 3, 1) := by decide +kernel
theorem dL_holds_229 : decode cL_holds 229 = .ok (.iload_n 3, 1) := by decide +kernel
theorem dL_holds_230 : decode cL_holds 230 = .ok (.bipush 8, 2) := by decide +kernel
theorem dL_holds_232 : decode cL_holds 232 = .ok (.if_icmp .ge 339, 3) := by decide +kernel
theorem dL_holds_235 : decode cL_holds 235 = .ok (.iconst 0, 1) := by decide +kernel
theorem dL_holds_236 : decode cL_holds 236 = .ok (.istore 4, 2) := by decide +kernel
theorem dL_holds_238 : decode cL_holds 238 = .ok (.iconst 0, 1) := by decide +kernel
theorem dL_holds_239 : decode cL_holds 239 = .ok (.istore 5, 2) := by decide +kernel
theorem dL_holds_241 : decode cL_holds 241 = .ok (.iload 5, 2) := by decide +kernel
theorem dL_holds_243 : decode cL_holds 243 = .ok (.aload_n 0, 1) := by decide +kernel
theorem dL_holds_244 : decode cL_holds 244 = .ok (.invokevirtual 15, 3) := by decide +kernel
theorem dL_holds_247 : decode cL_holds 247 = .ok (.if_icmp .ge 214, 3) := by decide +kernel
theorem dL_holds_250 : decode cL_holds 250 = .ok (.aload_n 0, 1) := by decide +kernel
theorem dL_holds_251 : decode cL_holds 251 = .ok (.iload_n 3, 1) := by decide +kernel
theorem dL_holds_252 : decode cL_holds 252 = .ok (.iload 5, 2) := by decide +kernel
theorem dL_holds_254 : decode cL_holds 254 = .ok (.iconst 0, 1) := by decide +kernel
theorem dL_holds_255 : decode cL_holds 255 = .ok (.invokevirtual 72, 3) := by decide +kernel
theorem dL_holds_258 : decode cL_holds 258 = .ok (.istore 6, 2) := by decide +kernel
theorem dL_holds_260 : decode cL_holds 260 = .ok (.aload_n 0, 1) := by decide +kernel
theorem dL_holds_261 : decode cL_holds 261 = .ok (.iload_n 3, 1) := by decide +kernel
theorem dL_holds_262 : decode cL_holds 262 = .ok (.iload 5, 2) := by decide +kernel
theorem dL_holds_264 : decode cL_holds 264 = .ok (.iconst 1, 1) := by decide +kernel
theorem dL_holds_265 : decode cL_holds 265 = .ok (.invokevirtual 72, 3) := by decide +kernel
theorem dL_holds_268 : decode cL_holds 268 = .ok (.istore 7, 2) := by decide +kernel
theorem dL_holds_270 : decode cL_holds 270 = .ok (.aload_n 0, 1) := by decide +kernel
theorem dL_holds_271 : decode cL_holds 271 = .ok (.iload 5, 2) := by decide +kernel
theorem dL_holds_273 : decode cL_holds 273 = .ok (.iconst 1, 1) := by decide +kernel
theorem dL_holds_274 : decode cL_holds 274 = .ok (.invokevirtual 76, 3) := by decide +kernel
theorem dL_holds_277 : decode cL_holds 277 = .ok (.iload_n 3, 1) := by decide +kernel
theorem dL_holds_278 : decode cL_holds 278 = .ok (.if_icmp .ne 7, 3) := by decide +kernel
theorem dL_holds_281 : decode cL_holds 281 = .ok (.iconst 1, 1) := by decide +kernel
theorem dL_holds_282 : decode cL_holds 282 = .ok (.goto 34, 3) := by decide +kernel
theorem dL_holds_285 : decode cL_holds 285 = .ok (.aload_n 0, 1) := by decide +kernel
theorem dL_holds_286 : decode cL_holds 286 = .ok (.iload 5, 2) := by decide +kernel
theorem dL_holds_288 : decode cL_holds 288 = .ok (.iconst 2, 1) := by decide +kernel
theorem dL_holds_289 : decode cL_holds 289 = .ok (.invokevirtual 76, 3) := by decide +kernel
theorem dL_holds_292 : decode cL_holds 292 = .ok (.iload_n 3, 1) := by decide +kernel
theorem dL_holds_293 : decode cL_holds 293 = .ok (.if_icmp .ne 7, 3) := by decide +kernel
theorem dL_holds_296 : decode cL_holds 296 = .ok (.iconst 2, 1) := by decide +kernel
theorem dL_holds_297 : decode cL_holds 297 = .ok (.goto 19, 3) := by decide +kernel
theorem dL_holds_300 : decode cL_holds 300 = .ok (.aload_n 0, 1) := by decide +kernel
theorem dL_holds_301 : decode cL_holds 301 = .ok (.iload 5, 2) := by decide +kernel
theorem dL_holds_303 : decode cL_holds 303 = .ok (.iconst 3, 1) := by decide +kernel
theorem dL_holds_304 : decode cL_holds 304 = .ok (.invokevirtual 76, 3) := by decide +kernel
theorem dL_holds_307 : decode cL_holds 307 = .ok (.iload_n 3, 1) := by decide +kernel
theorem dL_holds_308 : decode cL_holds 308 = .ok (.if_icmp .ne 7, 3) := by decide +kernel
theorem dL_holds_311 : decode cL_holds 311 = .ok (.iconst 3, 1) := by decide +kernel
theorem dL_holds_312 : decode cL_holds 312 = .ok (.goto 4, 3) := by decide +kernel
theorem dL_holds_315 : decode cL_holds 315 = .ok (.iconst 0, 1) := by decide +kernel
theorem dL_holds_316 : decode cL_holds 316 = .ok (.istore 8, 2) := by decide +kernel
theorem dL_holds_318 : decode cL_holds 318 = .ok (.iload 4, 2) := by decide +kernel
theorem dL_holds_320 : decode cL_holds 320 = .ok (.iload 6, 2) := by decide +kernel
theorem dL_holds_322 : decode cL_holds 322 = .ok (.ifCond .lt 17, 3) := by decide +kernel
theorem dL_holds_325 : decode cL_holds 325 = .ok (.iload 6, 2) := by decide +kernel
theorem dL_holds_327 : decode cL_holds 327 = .ok (.bipush 8, 2) := by decide +kernel
theorem dL_holds_329 : decode cL_holds 329 = .ok (.if_icmp .ge 10, 3) := by decide +kernel
theorem dL_holds_332 : decode cL_holds 332 = .ok (.iconst 1, 1) := by decide +kernel
theorem dL_holds_333 : decode cL_holds 333 = .ok (.iload 6, 2) := by decide +kernel
theorem dL_holds_335 : decode cL_holds 335 = .ok (.ishl, 1) := by decide +kernel
theorem dL_holds_336 : decode cL_holds 336 = .ok (.goto 4, 3) := by decide +kernel
theorem dL_holds_339 : decode cL_holds 339 = .ok (.iconst 0, 1) := by decide +kernel
theorem dL_holds_340 : decode cL_holds 340 = .ok (.ior, 1) := by decide +kernel
theorem dL_holds_341 : decode cL_holds 341 = .ok (.istore 4, 2) := by decide +kernel
theorem dL_holds_343 : decode cL_holds 343 = .ok (.iload 4, 2) := by decide +kernel
theorem dL_holds_345 : decode cL_holds 345 = .ok (.iload 7, 2) := by decide +kernel
theorem dL_holds_347 : decode cL_holds 347 = .ok (.ifCond .lt 17, 3) := by decide +kernel
theorem dL_holds_350 : decode cL_holds 350 = .ok (.iload 7, 2) := by decide +kernel
theorem dL_holds_352 : decode cL_holds 352 = .ok (.bipush 8, 2) := by decide +kernel
theorem dL_holds_354 : decode cL_holds 354 = .ok (.if_icmp .ge 10, 3) := by decide +kernel
theorem dL_holds_357 : decode cL_holds 357 = .ok (.iconst 1, 1) := by decide +kernel
theorem dL_holds_358 : decode cL_holds 358 = .ok (.iload 7, 2) := by decide +kernel
theorem dL_holds_360 : decode cL_holds 360 = .ok (.ishl, 1) := by decide +kernel
theorem dL_holds_361 : decode cL_holds 361 = .ok (.goto 4, 3) := by decide +kernel
theorem dL_holds_364 : decode cL_holds 364 = .ok (.iconst 0, 1) := by decide +kernel
theorem dL_holds_365 : decode cL_holds 365 = .ok (.ior, 1) := by decide +kernel
theorem dL_holds_366 : decode cL_holds 366 = .ok (.istore 4, 2) := by decide +kernel
theorem dL_holds_368 : decode cL_holds 368 = .ok (.iload_n 2, 1) := by decide +kernel
theorem dL_holds_369 : decode cL_holds 369 = .ok (.ifCond .eq 84, 3) := by decide +kernel
theorem dL_holds_372 : decode cL_holds 372 = .ok (.iload 6, 2) := by decide +kernel
theorem dL_holds_374 : decode cL_holds 374 = .ok (.iload 8, 2) := by decide +kernel
theorem dL_holds_376 : decode cL_holds 376 = .ok (.ifCond .ne 7, 3) := by decide +kernel
theorem dL_holds_379 : decode cL_holds 379 = .ok (.iconst (-1), 1) := by decide +kernel
theorem dL_holds_380 : decode cL_holds 380 = .ok (.goto 24, 3) := by decide +kernel
theorem dL_holds_383 : decode cL_holds 383 = .ok (.iload 8, 2) := by decide +kernel
theorem dL_holds_385 : decode cL_holds 385 = .ok (.iconst 1, 1) := by decide +kernel
theorem dL_holds_386 : decode cL_holds 386 = .ok (.if_icmp .ne 8, 3) := by decide +kernel
theorem dL_holds_389 : decode cL_holds 389 = .ok (.bipush 8, 2) := by decide +kernel
theorem dL_holds_391 : decode cL_holds 391 = .ok (.goto 13, 3) := by decide +kernel
theorem dL_holds_394 : decode cL_holds 394 = .ok (.aload_n 0, 1) := by decide +kernel
theorem dL_holds_395 : decode cL_holds 395 = .ok (.iload 5, 2) := by decide +kernel
theorem dL_holds_397 : decode cL_holds 397 = .ok (.iload 8, 2) := by decide +kernel
theorem dL_holds_399 : decode cL_holds 399 = .ok (.iconst 1, 1) := by decide +kernel
theorem dL_holds_400 : decode cL_holds 400 = .ok (.isub, 1) := by decide +kernel
theorem dL_holds_401 : decode cL_holds 401 = .ok (.invokevirtual 76, 3) := by decide +kernel
theorem dL_holds_404 : decode cL_holds 404 = .ok (.if_icmp .ne 49, 3) := by decide +kernel
theorem dL_holds_407 : decode cL_holds 407 = .ok (.iload 7, 2) := by decide +kernel
theorem dL_holds_409 : decode cL_holds 409 = .ok (.iload 8, 2) := by decide +kernel
theorem dL_holds_411 : decode cL_holds 411 = .ok (.ifCond .ne 7, 3) := by decide +kernel
theorem dL_holds_414 : decode cL_holds 414 = .ok (.iconst (-1), 1) := by decide +kernel
theorem dL_holds_415 : decode cL_holds 415 = .ok (.goto 31, 3) := by decide +kernel
theorem dL_holds_418 : decode cL_holds 418 = .ok (.iload 8, 2) := by decide +kernel
theorem dL_holds_420 : decode cL_holds 420 = .ok (.iconst 3, 1) := by decide +kernel
theorem dL_holds_421 : decode cL_holds 421 = .ok (.if_icmp .ne 15, 3) := by decide +kernel
theorem dL_holds_424 : decode cL_holds 424 = .ok (.bipush 10, 2) := by decide +kernel
theorem dL_holds_426 : decode cL_holds 426 = .ok (.aload_n 0, 1) := by decide +kernel
theorem dL_holds_427 : decode cL_holds 427 = .ok (.iload 5, 2) := by decide +kernel
theorem dL_holds_429 : decode cL_holds 429 = .ok (.invokevirtual 59, 3) := by decide +kernel
theorem dL_holds_432 : decode cL_holds 432 = .ok (.iadd, 1) := by decide +kernel
theorem dL_holds_433 : decode cL_holds 433 = .ok (.goto 13, 3) := by decide +kernel
theorem dL_holds_436 : decode cL_holds 436 = .ok (.aload_n 0, 1) := by decide +kernel
theorem dL_holds_437 : decode cL_holds 437 = .ok (.iload 5, 2) := by decide +kernel
theorem dL_holds_439 : decode cL_holds 439 = .ok (.iload 8, 2) := by decide +kernel
theorem dL_holds_441 : decode cL_holds 441 = .ok (.iconst 1, 1) := by decide +kernel
theorem dL_holds_442 : decode cL_holds 442 = .ok (.iadd, 1) := by decide +kernel
theorem dL_holds_443 : decode cL_holds 443 = .ok (.invokevirtual 76, 3) := by decide +kernel
theorem dL_holds_446 : decode cL_holds 446 = .ok (.if_icmp .ne 7, 3) := by decide +kernel
theorem dL_holds_449 : decode cL_holds 449 = .ok (.iconst 1, 1) := by decide +kernel
theorem dL_holds_450 : decode cL_holds 450 = .ok (.goto 4, 3) := by decide +kernel
theorem dL_holds_453 : decode cL_holds 453 = .ok (.iconst 0, 1) := by decide +kernel
theorem dL_holds_454 : decode cL_holds 454 = .ok (.istore_n 2, 1) := by decide +kernel
theorem dL_holds_455 : decode cL_holds 455 = .ok (.iinc 5 1, 3) := by decide +kernel
theorem dL_holds_458 : decode cL_holds 458 = .ok (.goto (-217), 3) := by decide +kernel
theorem dL_holds_461 : decode cL_holds 461 = .ok (.iload_n 2, 1) := by decide +kernel
theorem dL_holds_462 : decode cL_holds 462 = .ok (.ifCond .eq 52, 3) := by decide +kernel
theorem dL_holds_465 : decode cL_holds 465 = .ok (.aload_n 0, 1) := by decide +kernel
theorem dL_holds_466 : decode cL_holds 466 = .ok (.iload_n 3, 1) := by decide +kernel
theorem dL_holds_467 : decode cL_holds 467 = .ok (.invokevirtual 79, 3) := by decide +kernel
theorem dL_holds_470 : decode cL_holds 470 = .ok (.iload 4, 2) := by decide +kernel
theorem dL_holds_472 : decode cL_holds 472 = .ok (.if_icmp .ne 42, 3) := by decide +kernel
theorem dL_holds_475 : decode cL_holds 475 = .ok (.iload 4, 2) := by decide +kernel
theorem dL_holds_477 : decode cL_holds 477 = .ok (.iload_n 3, 1) := by decide +kernel
theorem dL_holds_478 : decode cL_holds 478 = .ok (.ishr, 1) := by decide +kernel
theorem dL_holds_479 : decode cL_holds 479 = .ok (.iconst 1, 1) := by decide +kernel
theorem dL_holds_480 : decode cL_holds 480 = .ok (.iand, 1) := by decide +kernel
theorem dL_holds_481 : decode cL_holds 481 = .ok (.ifCond .ne 33, 3) := by decide +kernel
theorem dL_holds_484 : decode cL_holds 484 = .ok (.aload_n 0, 1) := by decide +kernel
theorem dL_holds_485 : decode cL_holds 485 = .ok (.iload_n 3, 1) := by decide +kernel
theorem dL_holds_486 : decode cL_holds 486 = .ok (.invokevirtual 31, 3) := by decide +kernel
theorem dL_holds_489 : decode cL_holds 489 = .ok (.ifCond .ne 12, 3) := by decide +kernel
theorem dL_holds_492 : decode cL_holds 492 = .ok (.aload_n 0, 1) := by decide +kernel
theorem dL_holds_493 : decode cL_holds 493 = .ok (.iload_n 3, 1) := by decide +kernel
theorem dL_holds_494 : decode cL_holds 494 = .ok (.invokevirtual 82, 3) := by decide +kernel
theorem dL_holds_497 : decode cL_holds 497 = .ok (.iload_n 1, 1) := by decide +kernel
theorem dL_holds_498 : decode cL_holds 498 = .ok (.if_icmp .ne 16, 3) := by decide +kernel
theorem dL_holds_501 : decode cL_holds 501 = .ok (.aload_n 0, 1) := by decide +kernel
theorem dL_holds_502 : decode cL_holds 502 = .ok (.iload_n 3, 1) := by decide +kernel
theorem dL_holds_503 : decode cL_holds 503 = .ok (.invokevirtual 82, 3) := by decide +kernel
theorem dL_holds_506 : decode cL_holds 506 = .ok (.iload_n 1, 1) := by decide +kernel
theorem dL_holds_507 : decode cL_holds 507 = .ok (.if_icmp .lt 7, 3) := by decide +kernel
theorem dL_holds_510 : decode cL_holds 510 = .ok (.iconst 1, 1) := by decide +kernel
theorem dL_holds_511 : decode cL_holds 511 = .ok (.goto 4, 3) := by decide +kernel
theorem dL_holds_514 : decode cL_holds 514 = .ok (.iconst 0, 1) := by decide +kernel
theorem dL_holds_515 : decode cL_holds 515 = .ok (.istore_n 2, 1) := by decide +kernel
theorem dL_holds_516 : decode cL_holds 516 = .ok (.iconst 0, 1) := by decide +kernel
theorem dL_holds_517 : decode cL_holds 517 = .ok (.istore 5, 2) := by decide +kernel
theorem dL_holds_519 : decode cL_holds 519 = .ok (.iload 5, 2) := by decide +kernel
theorem dL_holds_521 : decode cL_holds 521 = .ok (.bipush 8, 2) := by decide +kernel
theorem dL_holds_523 : decode cL_holds 523 = .ok (.if_icmp .ge 42, 3) := by decide +kernel
theorem dL_holds_526 : decode cL_holds 526 = .ok (.iload_n 2, 1) := by decide +kernel
theorem dL_holds_527 : decode cL_holds 527 = .ok (.ifCond .eq 30, 3) := by decide +kernel
theorem dL_holds_530 : decode cL_holds 530 = .ok (.aload_n 0, 1) := by decide +kernel
theorem dL_holds_531 : decode cL_holds 531 = .ok (.iload_n 3, 1) := by decide +kernel
theorem dL_holds_532 : decode cL_holds 532 = .ok (.invokevirtual 79, 3) := by decide +kernel
theorem dL_holds_535 : decode cL_holds 535 = .ok (.iload 5, 2) := by decide +kernel
theorem dL_holds_537 : decode cL_holds 537 = .ok (.ishr, 1) := by decide +kernel
theorem dL_holds_538 : decode cL_holds 538 = .ok (.iconst 1, 1) := by decide +kernel
theorem dL_holds_539 : decode cL_holds 539 = .ok (.iand, 1) := by decide +kernel
theorem dL_holds_540 : decode cL_holds 540 = .ok (.aload_n 0, 1) := by decide +kernel
theorem dL_holds_541 : decode cL_holds 541 = .ok (.iload 5, 2) := by decide +kernel
theorem dL_holds_543 : decode cL_holds 543 = .ok (.invokevirtual 79, 3) := by decide +kernel
theorem dL_holds_546 : decode cL_holds 546 = .ok (.iload_n 3, 1) := by decide +kernel
theorem dL_holds_547 : decode cL_holds 547 = .ok (.ishr, 1) := by decide +kernel
theorem dL_holds_548 : decode cL_holds 548 = .ok (.iconst 1, 1) := by decide +kernel
theorem dL_holds_549 : decode cL_holds 549 = .ok (.iand, 1) := by decide +kernel
theorem dL_holds_550 : decode cL_holds 550 = .ok (.if_icmp .ne 7, 3) := by decide +kernel
theorem dL_holds_553 : decode cL_holds 553 = .ok (.iconst 1, 1) := by decide +kernel
theorem dL_holds_554 : decode cL_holds 554 = .ok (.goto 4, 3) := by decide +kernel
theorem dL_holds_557 : decode cL_holds 557 = .ok (.iconst 0, 1) := by decide +kernel
theorem dL_holds_558 : decode cL_holds 558 = .ok (.istore_n 2, 1) := by decide +kernel
theorem dL_holds_559 : decode cL_holds 559 = .ok (.iinc 5 1, 3) := by decide +kernel
theorem dL_holds_562 : decode cL_holds 562 = .ok (.goto (-43), 3) := by decide +kernel
theorem dL_holds_565 : decode cL_holds 565 = .ok (.iinc 3 1, 3) := by decide +kernel
theorem dL_holds_568 : decode cL_holds 568 = .ok (.goto (-339), 3) := by decide +kernel
theorem dL_holds_571 : decode cL_holds 571 = .ok (.iconst 0, 1) := by decide +kernel
theorem dL_holds_572 : decode cL_holds 572 = .ok (.istore_n 3, 1) := by decide +kernel
theorem dL_holds_573 : decode cL_holds 573 = .ok (.iload_n 3, 1) := by decide +kernel
theorem dL_holds_574 : decode cL_holds 574 = .ok (.aload_n 0, 1) := by decide +kernel
theorem dL_holds_575 : decode cL_holds 575 = .ok (.invokevirtual 15, 3) := by decide +kernel
theorem dL_holds_578 : decode cL_holds 578 = .ok (.if_icmp .ge 71, 3) := by decide +kernel
theorem dL_holds_581 : decode cL_holds 581 = .ok (.iload_n 2, 1) := by decide +kernel
theorem dL_holds_582 : decode cL_holds 582 = .ok (.ifCond .eq 59, 3) := by decide +kernel
theorem dL_holds_585 : decode cL_holds 585 = .ok (.aload_n 0, 1) := by decide +kernel
theorem dL_holds_586 : decode cL_holds 586 = .ok (.iload_n 3, 1) := by decide +kernel
theorem dL_holds_587 : decode cL_holds 587 = .ok (.invokevirtual 85, 3) := by decide +kernel
theorem dL_holds_590 : decode cL_holds 590 = .ok (.aload_n 0, 1) := by decide +kernel
theorem dL_holds_591 : decode cL_holds 591 = .ok (.aload_n 0, 1) := by decide +kernel
theorem dL_holds_592 : decode cL_holds 592 = .ok (.iload_n 3, 1) := by decide +kernel
theorem dL_holds_593 : decode cL_holds 593 = .ok (.iconst 1, 1) := by decide +kernel
theorem dL_holds_594 : decode cL_holds 594 = .ok (.invokevirtual 76, 3) := by decide +kernel
theorem dL_holds_597 : decode cL_holds 597 = .ok (.invokevirtual 31, 3) := by decide +kernel
theorem dL_holds_600 : decode cL_holds 600 = .ok (.ifCond .eq 33, 3) := by decide +kernel
theorem dL_holds_603 : decode cL_holds 603 = .ok (.aload_n 0, 1) := by decide +kernel
theorem dL_holds_604 : decode cL_holds 604 = .ok (.aload_n 0, 1) := by decide +kernel
theorem dL_holds_605 : decode cL_holds 605 = .ok (.iload_n 3, 1) := by decide +kernel
theorem dL_holds_606 : decode cL_holds 606 = .ok (.iconst 2, 1) := by decide +kernel
theorem dL_holds_607 : decode cL_holds 607 = .ok (.invokevirtual 76, 3) := by decide +kernel
theorem dL_holds_610 : decode cL_holds 610 = .ok (.invokevirtual 31, 3) := by decide +kernel
theorem dL_holds_613 : decode cL_holds 613 = .ok (.ifCond .eq 20, 3) := by decide +kernel
theorem dL_holds_616 : decode cL_holds 616 = .ok (.aload_n 0, 1) := by decide +kernel
theorem dL_holds_617 : decode cL_holds 617 = .ok (.aload_n 0, 1) := by decide +kernel
theorem dL_holds_618 : decode cL_holds 618 = .ok (.iload_n 3, 1) := by decide +kernel
theorem dL_holds_619 : decode cL_holds 619 = .ok (.iconst 3, 1) := by decide +kernel
theorem dL_holds_620 : decode cL_holds 620 = .ok (.invokevirtual 76, 3) := by decide +kernel
theorem dL_holds_623 : decode cL_holds 623 = .ok (.invokevirtual 31, 3) := by decide +kernel
theorem dL_holds_626 : decode cL_holds 626 = .ok (.ifCond .eq 7, 3) := by decide +kernel
theorem dL_holds_629 : decode cL_holds 629 = .ok (.iconst 1, 1) := by decide +kernel
theorem dL_holds_630 : decode cL_holds 630 = .ok (.goto 4, 3) := by decide +kernel
theorem dL_holds_633 : decode cL_holds 633 = .ok (.iconst 0, 1) := by decide +kernel
theorem dL_holds_634 : decode cL_holds 634 = .ok (.if_icmp .ne 7, 3) := by decide +kernel
theorem dL_holds_637 : decode cL_holds 637 = .ok (.iconst 1, 1) := by decide +kernel
theorem dL_holds_638 : decode cL_holds 638 = .ok (.goto 4, 3) := by decide +kernel
theorem dL_holds_641 : decode cL_holds 641 = .ok (.iconst 0, 1) := by decide +kernel
theorem dL_holds_642 : decode cL_holds 642 = .ok (.istore_n 2, 1) := by decide +kernel
theorem dL_holds_643 : decode cL_holds 643 = .ok (.iinc 3 1, 3) := by decide +kernel
theorem dL_holds_646 : decode cL_holds 646 = .ok (.goto (-73), 3) := by decide +kernel
theorem dL_holds_649 : decode cL_holds 649 = .ok (.aload_n 0, 1) := by decide +kernel
theorem dL_holds_650 : decode cL_holds 650 = .ok (.iconst 1, 1) := by decide +kernel
theorem dL_holds_651 : decode cL_holds 651 = .ok (.invokevirtual 88, 3) := by decide +kernel
theorem dL_holds_654 : decode cL_holds 654 = .ok (.istore_n 3, 1) := by decide +kernel
theorem dL_holds_655 : decode cL_holds 655 = .ok (.aload_n 0, 1) := by decide +kernel
theorem dL_holds_656 : decode cL_holds 656 = .ok (.iconst 2, 1) := by decide +kernel
theorem dL_holds_657 : decode cL_holds 657 = .ok (.invokevirtual 88, 3) := by decide +kernel
theorem dL_holds_660 : decode cL_holds 660 = .ok (.istore 4, 2) := by decide +kernel
theorem dL_holds_662 : decode cL_holds 662 = .ok (.aload_n 0, 1) := by decide +kernel
theorem dL_holds_663 : decode cL_holds 663 = .ok (.iconst 3, 1) := by decide +kernel
theorem dL_holds_664 : decode cL_holds 664 = .ok (.invokevirtual 88, 3) := by decide +kernel
theorem dL_holds_667 : decode cL_holds 667 = .ok (.istore 5, 2) := by decide +kernel
theorem dL_holds_669 : decode cL_holds 669 = .ok (.iload_n 2, 1) := by decide +kernel
theorem dL_holds_670 : decode cL_holds 670 = .ok (.ifCond .eq 78, 3) := by decide +kernel
theorem dL_holds_673 : decode cL_holds 673 = .ok (.iload_n 3, 1) := by decide +kernel
theorem dL_holds_674 : decode cL_holds 674 = .ok (.iconst (-1), 1) := by decide +kernel
theorem dL_holds_675 : decode cL_holds 675 = .ok (.if_icmp .eq 11, 3) := by decide +kernel
theorem dL_holds_678 : decode cL_holds 678 = .ok (.aload_n 0, 1) := by decide +kernel
theorem dL_holds_679 : decode cL_holds 679 = .ok (.iload_n 3, 1) := by decide +kernel
theorem dL_holds_680 : decode cL_holds 680 = .ok (.invokevirtual 31, 3) := by decide +kernel
theorem dL_holds_683 : decode cL_holds 683 = .ok (.ifCond .eq 65, 3) := by decide +kernel
theorem dL_holds_686 : decode cL_holds 686 = .ok (.iload 4, 2) := by decide +kernel
theorem dL_holds_688 : decode cL_holds 688 = .ok (.iconst (-1), 1) := by decide +kernel
theorem dL_holds_689 : decode cL_holds 689 = .ok (.if_icmp .eq 22, 3) := by decide +kernel
theorem dL_holds_692 : decode cL_holds 692 = .ok (.iload_n 3, 1) := by decide +kernel
theorem dL_holds_693 : decode cL_holds 693 = .ok (.ifCond .lt 55, 3) := by decide +kernel
theorem dL_holds_696 : decode cL_holds 696 = .ok (.iload_n 3, 1) := by decide +kernel
theorem dL_holds_697 : decode cL_holds 697 = .ok (.iload 4, 2) := by decide +kernel
theorem dL_holds_699 : decode cL_holds 699 = .ok (.if_icmp .eq 49, 3) := by decide +kernel
theorem dL_holds_702 : decode cL_holds 702 = .ok (.aload_n 0, 1) := by decide +kernel
theorem dL_holds_703 : decode cL_holds 703 = .ok (.iload 4, 2) := by decide +kernel
theorem dL_holds_705 : decode cL_holds 705 = .ok (.invokevirtual 31, 3) := by decide +kernel
theorem dL_holds_708 : decode cL_holds 708 = .ok (.ifCond .eq 40, 3) := by decide +kernel
theorem dL_holds_711 : decode cL_holds 711 = .ok (.iload 5, 2) := by decide +kernel
theorem dL_holds_713 : decode cL_holds 713 = .ok (.iconst (-1), 1) := by decide +kernel
theorem dL_holds_714 : decode cL_holds 714 = .ok (.if_icmp .eq 30, 3) := by decide +kernel
theorem dL_holds_717 : decode cL_holds 717 = .ok (.iload 4, 2) := by decide +kernel
theorem dL_holds_719 : decode cL_holds 719 = .ok (.ifCond .lt 29, 3) := by decide +kernel
theorem dL_holds_722 : decode cL_holds 722 = .ok (.iload 5, 2) := by decide +kernel
theorem dL_holds_724 : decode cL_holds 724 = .ok (.iload_n 3, 1) := by decide +kernel
theorem dL_holds_725 : decode cL_holds 725 = .ok (.if_icmp .eq 23, 3) := by decide +kernel
theorem dL_holds_728 : decode cL_holds 728 = .ok (.iload 5, 2) := by decide +kernel
theorem dL_holds_730 : decode cL_holds 730 = .ok (.iload 4, 2) := by decide +kernel
theorem dL_holds_732 : decode cL_holds 732 = .ok (.if_icmp .eq 16, 3) := by decide +kernel
theorem dL_holds_735 : decode cL_holds 735 = .ok (.aload_n 0, 1) := by decide +kernel
theorem dL_holds_736 : decode cL_holds 736 = .ok (.iload 5, 2) := by decide +kernel
theorem dL_holds_738 : decode cL_holds 738 = .ok (.invokevirtual 31, 3) := by decide +kernel
theorem dL_holds_741 : decode cL_holds 741 = .ok (.ifCond .eq 7, 3) := by decide +kernel
theorem dL_holds_744 : decode cL_holds 744 = .ok (.iconst 1, 1) := by decide +kernel
theorem dL_holds_745 : decode cL_holds 745 = .ok (.goto 4, 3) := by decide +kernel
theorem dL_holds_748 : decode cL_holds 748 = .ok (.iconst 0, 1) := by decide +kernel
theorem dL_holds_749 : decode cL_holds 749 = .ok (.ireturn, 1) := by decide +kernel
theorem dL_isBrought_0 : decode cL_isBrought 0 = .ok (.aload_n 0, 1) := by decide +kernel
theorem dL_isBrought_1 : decode cL_isBrought 1 = .ok (.iload_n 1, 1) := by decide +kernel
theorem dL_isBrought_2 : decode cL_isBrought 2 = .ok (.invokevirtual 85, 3) := by decide +kernel
theorem dL_isBrought_5 : decode cL_isBrought 5 = .ok (.ifCond .eq 12, 3) := by decide +kernel
theorem dL_isBrought_8 : decode cL_isBrought 8 = .ok (.aload_n 0, 1) := by decide +kernel
theorem dL_isBrought_9 : decode cL_isBrought 9 = .ok (.invokevirtual 21, 3) := by decide +kernel
theorem dL_isBrought_12 : decode cL_isBrought 12 = .ok (.bipush 12, 2) := by decide +kernel
theorem dL_isBrought_14 : decode cL_isBrought 14 = .ok (.if_icmp .ne 5, 3) := by decide +kernel
theorem dL_isBrought_17 : decode cL_isBrought 17 = .ok (.iconst 1, 1) := by decide +kernel
theorem dL_isBrought_18 : decode cL_isBrought 18 = .ok (.ireturn, 1) := by decide +kernel
theorem dL_isBrought_19 : decode cL_isBrought 19 = .ok (.aload_n 0, 1) := by decide +kernel
theorem dL_isBrought_20 : decode cL_isBrought 20 = .ok (.invokevirtual 91, 3) := by decide +kernel
theorem dL_isBrought_23 : decode cL_isBrought 23 = .ok (.lstore 4, 2) := by decide +kernel
theorem dL_isBrought_25 : decode cL_isBrought 25 = .ok (.aload_n 0, 1) := by decide +kernel
theorem dL_isBrought_26 : decode cL_isBrought 26 = .ok (.iload_n 1, 1) := by decide +kernel
theorem dL_isBrought_27 : decode cL_isBrought 27 = .ok (.invokevirtual 59, 3) := by decide +kernel
theorem dL_isBrought_30 : decode cL_isBrought 30 = .ok (.istore 6, 2) := by decide +kernel
theorem dL_isBrought_32 : decode cL_isBrought 32 = .ok (.aload_n 0, 1) := by decide +kernel
theorem dL_isBrought_33 : decode cL_isBrought 33 = .ok (.iload_n 1, 1) := by decide +kernel
theorem dL_isBrought_34 : decode cL_isBrought 34 = .ok (.iload_n 2, 1) := by decide +kernel
theorem dL_isBrought_35 : decode cL_isBrought 35 = .ok (.invokevirtual 52, 3) := by decide +kernel
theorem dL_isBrought_38 : decode cL_isBrought 38 = .ok (.istore 7, 2) := by decide +kernel
theorem dL_isBrought_40 : decode cL_isBrought 40 = .ok (.iload 7, 2) := by decide +kernel
theorem dL_isBrought_42 : decode cL_isBrought 42 = .ok (.aload_n 0, 1) := by decide +kernel
theorem dL_isBrought_43 : decode cL_isBrought 43 = .ok (.invokevirtual 21, 3) := by decide +kernel
theorem dL_isBrought_46 : decode cL_isBrought 46 = .ok (.iconst 1, 1) := by decide +kernel
theorem dL_isBrought_47 : decode cL_isBrought 47 = .ok (.isub, 1) := by decide +kernel
theorem dL_isBrought_48 : decode cL_isBrought 48 = .ok (.if_icmp .ne 37, 3) := by decide +kernel
theorem dL_isBrought_51 : decode cL_isBrought 51 = .ok (.aload_n 0, 1) := by decide +kernel
theorem dL_isBrought_52 : decode cL_isBrought 52 = .ok (.iload 7, 2) := by decide +kernel
theorem dL_isBrought_54 : decode cL_isBrought 54 = .ok (.iconst 1, 1) := by decide +kernel
theorem dL_isBrought_55 : decode cL_isBrought 55 = .ok (.invokevirtual 39, 3) := by decide +kernel
theorem dL_isBrought_58 : decode cL_isBrought 58 = .ok (.ifCond .ne 27, 3) := by decide +kernel
theorem dL_isBrought_61 : decode cL_isBrought 61 = .ok (.aload_n 0, 1) := by decide +kernel
theorem dL_isBrought_62 : decode cL_isBrought 62 = .ok (.iload 7, 2) := by decide +kernel
theorem dL_isBrought_64 : decode cL_isBrought 64 = .ok (.iconst 3, 1) := by decide +kernel
theorem dL_isBrought_65 : decode cL_isBrought 65 = .ok (.invokevirtual 39, 3) := by decide +kernel
theorem dL_isBrought_68 : decode cL_isBrought 68 = .ok (.ifCond .ne 17, 3) := by decide +kernel
theorem dL_isBrought_71 : decode cL_isBrought 71 = .ok (.aload_n 0, 1) := by decide +kernel
theorem dL_isBrought_72 : decode cL_isBrought 72 = .ok (.iload 7, 2) := by decide +kernel
theorem dL_isBrought_74 : decode cL_isBrought 74 = .ok (.invokevirtual 55, 3) := by decide +kernel
theorem dL_isBrought_77 : decode cL_isBrought 77 = .ok (.iconst 4, 1) := by decide +kernel
theorem dL_isBrought_78 : decode cL_isBrought 78 = .ok (.if_icmp .ne 7, 3) := by decide +kernel
theorem dL_isBrought_81 : decode cL_isBrought 81 = .ok (.iconst 1, 1) := by decide +kernel
theorem dL_isBrought_82 : decode cL_isBrought 82 = .ok (.goto 4, 3) := by decide +kernel
theorem dL_isBrought_85 : decode cL_isBrought 85 = .ok (.iconst 0, 1) := by decide +kernel
theorem dL_isBrought_86 : decode cL_isBrought 86 = .ok (.istore 8, 2) := by decide +kernel
theorem dL_isBrought_88 : decode cL_isBrought 88 = .ok (.aload_n 0, 1) := by decide +kernel
theorem dL_isBrought_89 : decode cL_isBrought 89 = .ok (.aload_n 0, 1) := by decide +kernel
theorem dL_isBrought_90 : decode cL_isBrought 90 = .ok (.iload_n 1, 1) := by decide +kernel
theorem dL_isBrought_91 : decode cL_isBrought 91 = .ok (.iconst 2, 1) := by decide +kernel
theorem dL_isBrought_92 : decode cL_isBrought 92 = .ok (.invokevirtual 76, 3) := by decide +kernel
theorem dL_isBrought_95 : decode cL_isBrought 95 = .ok (.iload_n 3, 1) := by decide +kernel
theorem dL_isBrought_96 : decode cL_isBrought 96 = .ok (.invokevirtual 28, 3) := by decide +kernel
theorem dL_isBrought_99 : decode cL_isBrought 99 = .ok (.istore 9, 2) := by decide +kernel
theorem dL_isBrought_101 : decode cL_isBrought 101 = .ok (.iconst 0, 1) := by decide +kernel
theorem dL_isBrought_102 : decode cL_isBrought 102 = .ok (.istore 10, 2) := by decide +kernel
theorem dL_isBrought_104 : decode cL_isBrought 104 = .ok (.iconst 0, 1) := by decide +kernel
theorem dL_isBrought_105 : decode cL_isBrought 105 = .ok (.istore 11, 2) := by decide +kernel
theorem dL_isBrought_107 : decode cL_isBrought 107 = .ok (.iload 11, 2) := by decide +kernel
theorem dL_isBrought_109 : decode cL_isBrought 109 = .ok (.aload_n 0, 1) := by decide +kernel
theorem dL_isBrought_110 : decode cL_isBrought 110 = .ok (.invokevirtual 21, 3) := by decide +kernel
theorem dL_isBrought_113 : decode cL_isBrought 113 = .ok (.if_icmp .ge 29, 3) := by decide +kernel
theorem dL_isBrought_116 : decode cL_isBrought 116 = .ok (.iload 10, 2) := by decide +kernel
theorem dL_isBrought_118 : decode cL_isBrought 118 = .ok (.aload_n 0, 1) := by decide +kernel
theorem dL_isBrought_119 : decode cL_isBrought 119 = .ok (.iload 11, 2) := by decide +kernel
theorem dL_isBrought_121 : decode cL_isBrought 121 = .ok (.invokevirtual 55, 3) := by decide +kernel
theorem dL_isBrought_124 : decode cL_isBrought 124 = .ok (.iconst (-1), 1) := by decide +kernel
theorem dL_isBrought_125 : decode cL_isBrought 125 = .ok (.if_icmp .ne 7, 3) := by decide +kernel
theorem dL_isBrought_128 : decode cL_isBrought 128 = .ok (.iconst 0, 1) := by decide +kernel
theorem dL_isBrought_129 : decode cL_isBrought 129 = .ok (.goto 4, 3) := by decide +kernel
theorem dL_isBrought_132 : decode cL_isBrought 132 = .ok (.iconst 1, 1) := by decide +kernel
theorem dL_isBrought_133 : decode cL_isBrought 133 = .ok (.iadd, 1) := by decide +kernel
theorem dL_isBrought_134 : decode cL_isBrought 134 = .ok (.istore 10, 2) := by decide +kernel
theorem dL_isBrought_136 : decode cL_isBrought 136 = .ok (.iinc 11 1, 3) := by decide +kernel
theorem dL_isBrought_139 : decode cL_isBrought 139 = .ok (.goto (-32), 3) := by decide +kernel
theorem dL_isBrought_142 : decode cL_isBrought 142 = .ok (.iload 8, 2) := by decide +kernel
theorem dL_isBrought_144 : decode cL_isBrought 144 = .ok (.ifCond .eq 74, 3) := by decide +kernel
theorem dL_isBrought_147 : decode cL_isBrought 147 = .ok (.iload 9, 2) := by decide +kernel
theorem dL_isBrought_149 : decode cL_isBrought 149 = .ok (.ifCond .lt 69, 3) := by decide +kernel
theorem dL_isBrought_152 : decode cL_isBrought 152 = .ok (.aload_n 0, 1) := by decide +kernel
theorem dL_isBrought_153 : decode cL_isBrought 153 = .ok (.iconst 4, 1) := by decide +kernel
theorem dL_isBrought_154 : decode cL_isBrought 154 = .ok (.invokevirtual 62, 3) := by decide +kernel
theorem dL_isBrought_157 : decode cL_isBrought 157 = .ok (.iload 10, 2) := by decide +kernel
theorem dL_isBrought_159 : decode cL_isBrought 159 = .ok (.if_icmp .ne 59, 3) := by decide +kernel
theorem dL_isBrought_162 : decode cL_isBrought 162 = .ok (.aload_n 0, 1) := by decide +kernel
theorem dL_isBrought_163 : decode cL_isBrought 163 = .ok (.invokevirtual 21, 3) := by decide +kernel
theorem dL_isBrought_166 : decode cL_isBrought 166 = .ok (.ifCond .ne 52, 3) := by decide +kernel
theorem dL_isBrought_169 : decode cL_isBrought 169 = .ok (.aload_n 0, 1) := by decide +kernel
theorem dL_isBrought_170 : decode cL_isBrought 170 = .ok (.iload 6, 2) := by decide +kernel
theorem dL_isBrought_172 : decode cL_isBrought 172 = .ok (.invokevirtual 95, 3) := by decide +kernel
theorem dL_isBrought_175 : decode cL_isBrought 175 = .ok (.iload_n 2, 1) := by decide +kernel
theorem dL_isBrought_176 : decode cL_isBrought 176 = .ok (.if_icmp .ne 42, 3) := by decide +kernel
theorem dL_isBrought_179 : decode cL_isBrought 179 = .ok (.aload_n 0, 1) := by decide +kernel
theorem dL_isBrought_180 : decode cL_isBrought 180 = .ok (.iload 6, 2) := by decide +kernel
theorem dL_isBrought_182 : decode cL_isBrought 182 = .ok (.iload_n 3, 1) := by decide +kernel
theorem dL_isBrought_183 : decode cL_isBrought 183 = .ok (.invokevirtual 49, 3) := by decide +kernel
theorem dL_isBrought_186 : decode cL_isBrought 186 = .ok (.ifCond .ne 32, 3) := by decide +kernel
theorem dL_isBrought_189 : decode cL_isBrought 189 = .ok (.aload_n 0, 1) := by decide +kernel
theorem dL_isBrought_190 : decode cL_isBrought 190 = .ok (.iconst 3, 1) := by decide +kernel
theorem dL_isBrought_191 : decode cL_isBrought 191 = .ok (.invokevirtual 62, 3) := by decide +kernel
theorem dL_isBrought_194 : decode cL_isBrought 194 = .ok (.ifCond .ne 24, 3) := by decide +kernel
theorem dL_isBrought_197 : decode cL_isBrought 197 = .ok (.aload_n 0, 1) := by decide +kernel
theorem dL_isBrought_198 : decode cL_isBrought 198 = .ok (.iconst 1, 1) := by decide +kernel
theorem dL_isBrought_199 : decode cL_isBrought 199 = .ok (.invokevirtual 62, 3) := by decide +kernel
theorem dL_isBrought_202 : decode cL_isBrought 202 = .ok (.iconst 1, 1) := by decide +kernel
theorem dL_isBrought_203 : decode cL_isBrought 203 = .ok (.if_icmp .ne 15, 3) := by decide +kernel
theorem dL_isBrought_206 : decode cL_isBrought 206 = .ok (.aload_n 0, 1) := by decide +kernel
theorem dL_isBrought_207 : decode cL_isBrought 207 = .ok (.invokevirtual 98, 3) := by decide +kernel
theorem dL_isBrought_210 : decode cL_isBrought 210 = .ok (.iload_n 3, 1) := by decide +kernel
theorem dL_isBrought_211 : decode cL_isBrought 211 = .ok (.if_icmp .ne 7, 3) := by decide +kernel
theorem dL_isBrought_214 : decode cL_isBrought 214 = .ok (.iconst 1, 1) := by decide +kernel
theorem dL_isBrought_215 : decode cL_isBrought 215 = .ok (.goto 4, 3) := by decide +kernel
theorem dL_isBrought_218 : decode cL_isBrought 218 = .ok (.iconst 0, 1) := by decide +kernel
theorem dL_isBrought_219 : decode cL_isBrought 219 = .ok (.istore 8, 2) := by decide +kernel
theorem dL_isBrought_221 : decode cL_isBrought 221 = .ok (.iconst 0, 1) := by decide +kernel
theorem dL_isBrought_222 : decode cL_isBrought 222 = .ok (.istore 11, 2) := by decide +kernel
theorem dL_isBrought_224 : decode cL_isBrought 224 = .ok (.iload 11, 2) := by decide +kernel
theorem dL_isBrought_226 : decode cL_isBrought 226 = .ok (.bipush 6, 2) := by decide +kernel
theorem dL_isBrought_228 : decode cL_isBrought 228 = .ok (.if_icmp .ge 28, 3) := by decide +kernel
theorem dL_isBrought_231 : decode cL_isBrought 231 = .ok (.iload 8, 2) := by decide +kernel
theorem dL_isBrought_233 : decode cL_isBrought 233 = .ok (.ifCond .eq 23, 3) := by decide +kernel
theorem dL_isBrought_236 : decode cL_isBrought 236 = .ok (.aload_n 0, 1) := by decide +kernel
theorem dL_isBrought_237 : decode cL_isBrought 237 = .ok (.invokevirtual 101, 3) := by decide +kernel
theorem dL_isBrought_240 : decode cL_isBrought 240 = .ok (.ifCond .lt 7, 3) := by decide +kernel
theorem dL_isBrought_243 : decode cL_isBrought 243 = .ok (.iconst 1, 1) := by decide +kernel
theorem dL_isBrought_244 : decode cL_isBrought 244 = .ok (.goto 4, 3) := by decide +kernel
theorem dL_isBrought_247 : decode cL_isBrought 247 = .ok (.iconst 0, 1) := by decide +kernel
theorem dL_isBrought_248 : decode cL_isBrought 248 = .ok (.istore 8, 2) := by decide +kernel
theorem dL_isBrought_250 : decode cL_isBrought 250 = .ok (.iinc 11 1, 3) := by decide +kernel
theorem dL_isBrought_253 : decode cL_isBrought 253 = .ok (.goto (-29), 3) := by decide +kernel
theorem dL_isBrought_256 : decode cL_isBrought 256 = .ok (.iload 8, 2) := by decide +kernel
theorem dL_isBrought_258 : decode cL_isBrought 258 = .ok (.ifCond .eq 17, 3) := by decide +kernel
theorem dL_isBrought_261 : decode cL_isBrought 261 = .ok (.aload_n 0, 1) := by decide +kernel
theorem dL_isBrought_262 : decode cL_isBrought 262 = .ok (.invokevirtual 91, 3) := by decide +kernel
theorem dL_isBrought_265 : decode cL_isBrought 265 = .ok (.lload 4, 2) := by decide +kernel
theorem dL_isBrought_267 : decode cL_isBrought 267 = .ok (.lcmp, 1) := by decide +kernel
theorem dL_isBrought_268 : decode cL_isBrought 268 = .ok (.ifCond .ne 7, 3) := by decide +kernel
theorem dL_isBrought_271 : decode cL_isBrought 271 = .ok (.iconst 1, 1) := by decide +kernel
theorem dL_isBrought_272 : decode cL_isBrought 272 = .ok (.goto 4, 3) := by decide +kernel
theorem dL_isBrought_275 : decode cL_isBrought 275 = .ok (.iconst 0, 1) := by decide +kernel
theorem dL_isBrought_276 : decode cL_isBrought 276 = .ok (.ireturn, 1) := by decide +kernel
theorem dL_isCovered_0 : decode cL_isCovered 0 = .ok (.aload_n 0, 1) := by decide +kernel
theorem dL_isCovered_1 : decode cL_isCovered 1 = .ok (.iload_n 1, 1) := by decide +kernel
theorem dL_isCovered_2 : decode cL_isCovered 2 = .ok (.iload_n 2, 1) := by decide +kernel
theorem dL_isCovered_3 : decode cL_isCovered 3 = .ok (.invokevirtual 104, 3) := by decide +kernel
theorem dL_isCovered_6 : decode cL_isCovered 6 = .ok (.istore_n 3, 1) := by decide +kernel
theorem dL_isCovered_7 : decode cL_isCovered 7 = .ok (.aload_n 0, 1) := by decide +kernel
theorem dL_isCovered_8 : decode cL_isCovered 8 = .ok (.iload_n 1, 1) := by decide +kernel
theorem dL_isCovered_9 : decode cL_isCovered 9 = .ok (.iload_n 2, 1) := by decide +kernel
theorem dL_isCovered_10 : decode cL_isCovered 10 = .ok (.invokevirtual 107, 3) := by decide +kernel
theorem dL_isCovered_13 : decode cL_isCovered 13 = .ok (.istore 4, 2) := by decide +kernel
theorem dL_isCovered_15 : decode cL_isCovered 15 = .ok (.iload_n 3, 1) := by decide +kernel
theorem dL_isCovered_16 : decode cL_isCovered 16 = .ok (.ifCond .lt 48, 3) := by decide +kernel
theorem dL_isCovered_19 : decode cL_isCovered 19 = .ok (.iload_n 3, 1) := by decide +kernel
theorem dL_isCovered_20 : decode cL_isCovered 20 = .ok (.sipush 9999, 3) := by decide +kernel
theorem dL_isCovered_23 : decode cL_isCovered 23 = .ok (.if_icmp .gt 41, 3) := by decide +kernel
theorem dL_isCovered_26 : decode cL_isCovered 26 = .ok (.iload 4, 2) := by decide +kernel
theorem dL_isCovered_28 : decode cL_isCovered 28 = .ok (.ifCond .lt 36, 3) := by decide +kernel
theorem dL_isCovered_31 : decode cL_isCovered 31 = .ok (.iload 4, 2) := by decide +kernel
theorem dL_isCovered_33 : decode cL_isCovered 33 = .ok (.sipush 9999, 3) := by decide +kernel
theorem dL_isCovered_36 : decode cL_isCovered 36 = .ok (.if_icmp .gt 28, 3) := by decide +kernel
theorem dL_isCovered_39 : decode cL_isCovered 39 = .ok (.aload_n 0, 1) := by decide +kernel
theorem dL_isCovered_40 : decode cL_isCovered 40 = .ok (.iload_n 1, 1) := by decide +kernel
theorem dL_isCovered_41 : decode cL_isCovered 41 = .ok (.iload_n 3, 1) := by decide +kernel
theorem dL_isCovered_42 : decode cL_isCovered 42 = .ok (.invokevirtual 107, 3) := by decide +kernel
theorem dL_isCovered_45 : decode cL_isCovered 45 = .ok (.iload_n 2, 1) := by decide +kernel
theorem dL_isCovered_46 : decode cL_isCovered 46 = .ok (.if_icmp .ne 18, 3) := by decide +kernel
theorem dL_isCovered_49 : decode cL_isCovered 49 = .ok (.aload_n 0, 1) := by decide +kernel
theorem dL_isCovered_50 : decode cL_isCovered 50 = .ok (.iload_n 1, 1) := by decide +kernel
theorem dL_isCovered_51 : decode cL_isCovered 51 = .ok (.iload 4, 2) := by decide +kernel
theorem dL_isCovered_53 : decode cL_isCovered 53 = .ok (.invokevirtual 104, 3) := by decide +kernel
theorem dL_isCovered_56 : decode cL_isCovered 56 = .ok (.iload_n 2, 1) := by decide +kernel
theorem dL_isCovered_57 : decode cL_isCovered 57 = .ok (.if_icmp .ne 7, 3) := by decide +kernel
theorem dL_isCovered_60 : decode cL_isCovered 60 = .ok (.iconst 1, 1) := by decide +kernel
theorem dL_isCovered_61 : decode cL_isCovered 61 = .ok (.goto 4, 3) := by decide +kernel
theorem dL_isCovered_64 : decode cL_isCovered 64 = .ok (.iconst 0, 1) := by decide +kernel
theorem dL_isCovered_65 : decode cL_isCovered 65 = .ok (.ireturn, 1) := by decide +kernel
theorem dL_law_0 : decode cL_law 0 = .ok (.new 16, 3) := by decide +kernel
theorem dL_law_3 : decode cL_law 3 = .ok (.dup, 1) := by decide +kernel
theorem dL_law_4 : decode cL_law 4 = .ok (.invokespecial 110, 3) := by decide +kernel
theorem dL_law_7 : decode cL_law 7 = .ok (.astore_n 1, 1) := by decide +kernel
theorem dL_law_8 : decode cL_law 8 = .ok (.iconst 4, 1) := by decide +kernel
theorem dL_law_9 : decode cL_law 9 = .ok (.newarray .int, 2) := by decide +kernel
theorem dL_law_11 : decode cL_law 11 = .ok (.astore_n 2, 1) := by decide +kernel
theorem dL_law_12 : decode cL_law 12 = .ok (.iconst 4, 1) := by decide +kernel
theorem dL_law_13 : decode cL_law 13 = .ok (.newarray .int, 2) := by decide +kernel
theorem dL_law_15 : decode cL_law 15 = .ok (.astore_n 3, 1) := by decide +kernel
theorem dL_law_16 : decode cL_law 16 = .ok (.aload_n 1, 1) := by decide +kernel
theorem dL_law_17 : decode cL_law 17 = .ok (.invokestatic 111, 3) := by decide +kernel
theorem dL_law_20 : decode cL_law 20 = .ok (.istore 4, 2) := by decide +kernel
theorem dL_law_22 : decode cL_law 22 = .ok (.iconst 0, 1) := by decide +kernel
theorem dL_law_23 : decode cL_law 23 = .ok (.istore 5, 2) := by decide +kernel
theorem dL_law_25 : decode cL_law 25 = .ok (.iload 5, 2) := by decide +kernel
theorem dL_law_27 : decode cL_law 27 = .ok (.iconst 4, 1) := by decide +kernel
theorem dL_law_28 : decode cL_law 28 = .ok (.if_icmp .ge 14, 3) := by decide +kernel
theorem dL_law_31 : decode cL_law 31 = .ok (.aload_n 2, 1) := by decide +kernel
theorem dL_law_32 : decode cL_law 32 = .ok (.iload 5, 2) := by decide +kernel
theorem dL_law_34 : decode cL_law 34 = .ok (.iconst (-1), 1) := by decide +kernel
theorem dL_law_35 : decode cL_law 35 = .ok (.iastore, 1) := by decide +kernel
theorem dL_law_36 : decode cL_law 36 = .ok (.iinc 5 1, 3) := by decide +kernel
theorem dL_law_39 : decode cL_law 39 = .ok (.goto (-14), 3) := by decide +kernel
theorem dL_law_42 : decode cL_law 42 = .ok (.iconst 0, 1) := by decide +kernel
theorem dL_law_43 : decode cL_law 43 = .ok (.istore 5, 2) := by decide +kernel
theorem dL_law_45 : decode cL_law 45 = .ok (.iload 5, 2) := by decide +kernel
theorem dL_law_47 : decode cL_law 47 = .ok (.bipush 72, 2) := by decide +kernel
theorem dL_law_49 : decode cL_law 49 = .ok (.if_icmp .ge 319, 3) := by decide +kernel
theorem dL_law_52 : decode cL_law 52 = .ok (.iload 4, 2) := by decide +kernel
theorem dL_law_54 : decode cL_law 54 = .ok (.ifCond .eq 314, 3) := by decide +kernel
theorem dL_law_57 : decode cL_law 57 = .ok (.aload_n 0, 1) := by decide +kernel
theorem dL_law_58 : decode cL_law 58 = .ok (.iconst 2, 1) := by decide +kernel
theorem dL_law_59 : decode cL_law 59 = .ok (.iload 5, 2) := by decide +kernel
theorem dL_law_61 : decode cL_law 61 = .ok (.imul, 1) := by decide +kernel
theorem dL_law_62 : decode cL_law 62 = .ok (.invokestatic 115, 3) := by decide +kernel
theorem dL_law_65 : decode cL_law 65 = .ok (.istore 6, 2) := by decide +kernel
theorem dL_law_67 : decode cL_law 67 = .ok (.aload_n 0, 1) := by decide +kernel
theorem dL_law_68 : decode cL_law 68 = .ok (.iconst 2, 1) := by decide +kernel
theorem dL_law_69 : decode cL_law 69 = .ok (.iload 5, 2) := by decide +kernel
theorem dL_law_71 : decode cL_law 71 = .ok (.imul, 1) := by decide +kernel
theorem dL_law_72 : decode cL_law 72 = .ok (.iconst 1, 1) := by decide +kernel
theorem dL_law_73 : decode cL_law 73 = .ok (.iadd, 1) := by decide +kernel
theorem dL_law_74 : decode cL_law 74 = .ok (.invokestatic 115, 3) := by decide +kernel
theorem dL_law_77 : decode cL_law 77 = .ok (.istore 7, 2) := by decide +kernel
theorem dL_law_79 : decode cL_law 79 = .ok (.aload_n 1, 1) := by decide +kernel
theorem dL_law_80 : decode cL_law 80 = .ok (.invokevirtual 91, 3) := by decide +kernel
theorem dL_law_83 : decode cL_law 83 = .ok (.lstore 8, 2) := by decide +kernel
theorem dL_law_85 : decode cL_law 85 = .ok (.aload_n 1, 1) := by decide +kernel
theorem dL_law_86 : decode cL_law 86 = .ok (.invokevirtual 119, 3) := by decide +kernel
theorem dL_law_89 : decode cL_law 89 = .ok (.istore 10, 2) := by decide +kernel
theorem dL_law_91 : decode cL_law 91 = .ok (.iconst 0, 1) := by decide +kernel
theorem dL_law_92 : decode cL_law 92 = .ok (.istore 11, 2) := by decide +kernel
theorem dL_law_94 : decode cL_law 94 = .ok (.iload 11, 2) := by decide +kernel
theorem dL_law_96 : decode cL_law 96 = .ok (.iconst 4, 1) := by decide +kernel
theorem dL_law_97 : decode cL_law 97 = .ok (.if_icmp .ge 17, 3) := by decide +kernel
theorem dL_law_100 : decode cL_law 100 = .ok (.aload_n 3, 1) := by decide +kernel
theorem dL_law_101 : decode cL_law 101 = .ok (.iload 11, 2) := by decide +kernel
theorem dL_law_103 : decode cL_law 103 = .ok (.aload_n 2, 1) := by decide +kernel
theorem dL_law_104 : decode cL_law 104 = .ok (.iload 11, 2) := by decide +kernel
theorem dL_law_106 : decode cL_law 106 = .ok (.iaload, 1) := by decide +kernel
theorem dL_law_107 : decode cL_law 107 = .ok (.iastore, 1) := by decide +kernel
theorem dL_law_108 : decode cL_law 108 = .ok (.iinc 11 1, 3) := by decide +kernel
theorem dL_law_111 : decode cL_law 111 = .ok (.goto (-17), 3) := by decide +kernel
theorem dL_law_114 : decode cL_law 114 = .ok (.aload_n 1, 1) := by decide +kernel
theorem dL_law_115 : decode cL_law 115 = .ok (.aload_n 2, 1) := by decide +kernel
theorem dL_law_116 : decode cL_law 116 = .ok (.iload 6, 2) := by decide +kernel
theorem dL_law_118 : decode cL_law 118 = .ok (.iload 7, 2) := by decide +kernel
theorem dL_law_120 : decode cL_law 120 = .ok (.invokestatic 122, 3) := by decide +kernel
theorem dL_law_123 : decode cL_law 123 = .ok (.istore 11, 2) := by decide +kernel
theorem dL_law_125 : decode cL_law 125 = .ok (.iload 11, 2) := by decide +kernel
theorem dL_law_127 : decode cL_law 127 = .ok (.ifCond .lt 30, 3) := by decide +kernel
theorem dL_law_130 : decode cL_law 130 = .ok (.aload_n 1, 1) := by decide +kernel
theorem dL_law_131 : decode cL_law 131 = .ok (.invokevirtual 119, 3) := by decide +kernel
theorem dL_law_134 : decode cL_law 134 = .ok (.iload 10, 2) := by decide +kernel
theorem dL_law_136 : decode cL_law 136 = .ok (.bipush 6, 2) := by decide +kernel
theorem dL_law_138 : decode cL_law 138 = .ok (.if_icmp .ge 10, 3) := by decide +kernel
theorem dL_law_141 : decode cL_law 141 = .ok (.iload 10, 2) := by decide +kernel
theorem dL_law_143 : decode cL_law 143 = .ok (.iconst 1, 1) := by decide +kernel
theorem dL_law_144 : decode cL_law 144 = .ok (.iadd, 1) := by decide +kernel
theorem dL_law_145 : decode cL_law 145 = .ok (.goto 5, 3) := by decide +kernel
theorem dL_law_148 : decode cL_law 148 = .ok (.bipush 6, 2) := by decide +kernel
theorem dL_law_150 : decode cL_law 150 = .ok (.if_icmp .ne 7, 3) := by decide +kernel
theorem dL_law_153 : decode cL_law 153 = .ok (.iconst 1, 1) := by decide +kernel
theorem dL_law_154 : decode cL_law 154 = .ok (.goto 4, 3) := by decide +kernel
theorem dL_law_157 : decode cL_law 157 = .ok (.iconst 0, 1) := by decide +kernel
theorem dL_law_158 : decode cL_law 158 = .ok (.istore 4, 2) := by decide +kernel
theorem dL_law_160 : decode cL_law 160 = .ok (.iload 4, 2) := by decide +kernel
theorem dL_law_162 : decode cL_law 162 = .ok (.ifCond .eq 100, 3) := by decide +kernel
theorem dL_law_165 : decode cL_law 165 = .ok (.iload 6, 2) := by decide +kernel
theorem dL_law_167 : decode cL_law 167 = .ok (.bipush 8, 2) := by decide +kernel
theorem dL_law_169 : decode cL_law 169 = .ok (.ishr, 1) := by decide +kernel
theorem dL_law_170 : decode cL_law 170 = .ok (.iconst 3, 1) := by decide +kernel
theorem dL_law_171 : decode cL_law 171 = .ok (.iand, 1) := by decide +kernel
theorem dL_law_172 : decode cL_law 172 = .ok (.ifCond .ne 90, 3) := by decide +kernel
theorem dL_law_175 : decode cL_law 175 = .ok (.aload_n 1, 1) := by decide +kernel
theorem dL_law_176 : decode cL_law 176 = .ok (.invokevirtual 91, 3) := by decide +kernel
theorem dL_law_179 : decode cL_law 179 = .ok (.lstore 12, 2) := by decide +kernel
theorem dL_law_181 : decode cL_law 181 = .ok (.aload_n 1, 1) := by decide +kernel
theorem dL_law_182 : decode cL_law 182 = .ok (.invokevirtual 119, 3) := by decide +kernel
theorem dL_law_185 : decode cL_law 185 = .ok (.iconst 1, 1) := by decide +kernel
theorem dL_law_186 : decode cL_law 186 = .ok (.isub, 1) := by decide +kernel
theorem dL_law_187 : decode cL_law 187 = .ok (.istore 14, 2) := by decide +kernel
theorem dL_law_189 : decode cL_law 189 = .ok (.iconst 0, 1) := by decide +kernel
theorem dL_law_190 : decode cL_law 190 = .ok (.istore 15, 2) := by decide +kernel
theorem dL_law_192 : decode cL_law 192 = .ok (.iload 15, 2) := by decide +kernel
theorem dL_law_194 : decode cL_law 194 = .ok (.iconst 4, 1) := by decide +kernel
theorem dL_law_195 : decode cL_law 195 = .ok (.if_icmp .ge 17, 3) := by decide +kernel
theorem dL_law_198 : decode cL_law 198 = .ok (.aload_n 2, 1) := by decide +kernel
theorem dL_law_199 : decode cL_law 199 = .ok (.iload 15, 2) := by decide +kernel
theorem dL_law_201 : decode cL_law 201 = .ok (.aload_n 3, 1) := by decide +kernel
theorem dL_law_202 : decode cL_law 202 = .ok (.iload 15, 2) := by decide +kernel
theorem dL_law_204 : decode cL_law 204 = .ok (.iaload, 1) := by decide +kernel
theorem dL_law_205 : decode cL_law 205 = .ok (.iastore, 1) := by decide +kernel
theorem dL_law_206 : decode cL_law 206 = .ok (.iinc 15 1, 3) := by decide +kernel
theorem dL_law_209 : decode cL_law 209 = .ok (.goto (-17), 3) := by decide +kernel
theorem dL_law_212 : decode cL_law 212 = .ok (.aload_n 1, 1) := by decide +kernel
theorem dL_law_213 : decode cL_law 213 = .ok (.invokevirtual 101, 3) := by decide +kernel
theorem dL_law_216 : decode cL_law 216 = .ok (.iload 14, 2) := by decide +kernel
theorem dL_law_218 : decode cL_law 218 = .ok (.if_icmp .ne 41, 3) := by decide +kernel
theorem dL_law_221 : decode cL_law 221 = .ok (.aload_n 1, 1) := by decide +kernel
theorem dL_law_222 : decode cL_law 222 = .ok (.invokevirtual 91, 3) := by decide +kernel
theorem dL_law_225 : decode cL_law 225 = .ok (.lload 8, 2) := by decide +kernel
theorem dL_law_227 : decode cL_law 227 = .ok (.lcmp, 1) := by decide +kernel
theorem dL_law_228 : decode cL_law 228 = .ok (.ifCond .ne 31, 3) := by decide +kernel
theorem dL_law_231 : decode cL_law 231 = .ok (.aload_n 1, 1) := by decide +kernel
theorem dL_law_232 : decode cL_law 232 = .ok (.aload_n 2, 1) := by decide +kernel
theorem dL_law_233 : decode cL_law 233 = .ok (.iload 6, 2) := by decide +kernel
theorem dL_law_235 : decode cL_law 235 = .ok (.iload 7, 2) := by decide +kernel
theorem dL_law_237 : decode cL_law 237 = .ok (.invokestatic 122, 3) := by decide +kernel
theorem dL_law_240 : decode cL_law 240 = .ok (.iload 11, 2) := by decide +kernel
theorem dL_law_242 : decode cL_law 242 = .ok (.if_icmp .ne 17, 3) := by decide +kernel
theorem dL_law_245 : decode cL_law 245 = .ok (.aload_n 1, 1) := by decide +kernel
theorem dL_law_246 : decode cL_law 246 = .ok (.invokevirtual 91, 3) := by decide +kernel
theorem dL_law_249 : decode cL_law 249 = .ok (.lload 12, 2) := by decide +kernel
theorem dL_law_251 : decode cL_law 251 = .ok (.lcmp, 1) := by decide +kernel
theorem dL_law_252 : decode cL_law 252 = .ok (.ifCond .ne 7, 3) := by decide +kernel
theorem dL_law_255 : decode cL_law 255 = .ok (.iconst 1, 1) := by decide +kernel
theorem dL_law_256 : decode cL_law 256 = .ok (.goto 4, 3) := by decide +kernel
theorem dL_law_259 : decode cL_law 259 = .ok (.iconst 0, 1) := by decide +kernel
theorem dL_law_260 : decode cL_law 260 = .ok (.istore 4, 2) := by decide +kernel
theorem dL_law_262 : decode cL_law 262 = .ok (.iload 4, 2) := by decide +kernel
theorem dL_law_264 : decode cL_law 264 = .ok (.ifCond .eq 95, 3) := by decide +kernel
theorem dL_law_267 : decode cL_law 267 = .ok (.aload_n 1, 1) := by decide +kernel
theorem dL_law_268 : decode cL_law 268 = .ok (.invokestatic 111, 3) := by decide +kernel
theorem dL_law_271 : decode cL_law 271 = .ok (.ifCond .eq 88, 3) := by decide +kernel
theorem dL_law_274 : decode cL_law 274 = .ok (.aload_n 1, 1) := by decide +kernel
theorem dL_law_275 : decode cL_law 275 = .ok (.iload 6, 2) := by decide +kernel
theorem dL_law_277 : decode cL_law 277 = .ok (.iconst 5, 1) := by decide +kernel
theorem dL_law_278 : decode cL_law 278 = .ok (.ishr, 1) := by decide +kernel
theorem dL_law_279 : decode cL_law 279 = .ok (.bipush 8, 2) := by decide +kernel
theorem dL_law_281 : decode cL_law 281 = .ok (.invokestatic 9, 3) := by decide +kernel
theorem dL_law_284 : decode cL_law 284 = .ok (.iload 7, 2) := by decide +kernel
theorem dL_law_286 : decode cL_law 286 = .ok (.iconst 4, 1) := by decide +kernel
theorem dL_law_287 : decode cL_law 287 = .ok (.ishr, 1) := by decide +kernel
theorem dL_law_288 : decode cL_law 288 = .ok (.sipush 10000, 3) := by decide +kernel
theorem dL_law_291 : decode cL_law 291 = .ok (.invokestatic 9, 3) := by decide +kernel
theorem dL_law_294 : decode cL_law 294 = .ok (.invokestatic 126, 3) := by decide +kernel
theorem dL_law_297 : decode cL_law 297 = .ok (.ifCond .eq 62, 3) := by decide +kernel
theorem dL_law_300 : decode cL_law 300 = .ok (.iload 5, 2) := by decide +kernel
theorem dL_law_302 : decode cL_law 302 = .ok (.iconst 5, 1) := by decide +kernel
theorem dL_law_303 : decode cL_law 303 = .ok (.irem, 1) := by decide +kernel
theorem dL_law_304 : decode cL_law 304 = .ok (.iconst 3, 1) := by decide +kernel
theorem dL_law_305 : decode cL_law 305 = .ok (.if_icmp .ne 50, 3) := by decide +kernel
theorem dL_law_308 : decode cL_law 308 = .ok (.aload_n 1, 1) := by decide +kernel
theorem dL_law_309 : decode cL_law 309 = .ok (.invokevirtual 15, 3) := by decide +kernel
theorem dL_law_312 : decode cL_law 312 = .ok (.ifCond .eq 43, 3) := by decide +kernel
theorem dL_law_315 : decode cL_law 315 = .ok (.aload_n 1, 1) := by decide +kernel
theorem dL_law_316 : decode cL_law 316 = .ok (.iload 7, 2) := by decide +kernel
theorem dL_law_318 : decode cL_law 318 = .ok (.iconst 5, 1) := by decide +kernel
theorem dL_law_319 : decode cL_law 319 = .ok (.ishr, 1) := by decide +kernel
theorem dL_law_320 : decode cL_law 320 = .ok (.aload_n 1, 1) := by decide +kernel
theorem dL_law_321 : decode cL_law 321 = .ok (.invokevirtual 15, 3) := by decide +kernel
theorem dL_law_324 : decode cL_law 324 = .ok (.invokestatic 9, 3) := by decide +kernel
theorem dL_law_327 : decode cL_law 327 = .ok (.iload 6, 2) := by decide +kernel
theorem dL_law_329 : decode cL_law 329 = .ok (.bipush 6, 2) := by decide +kernel
theorem dL_law_331 : decode cL_law 331 = .ok (.ishr, 1) := by decide +kernel
theorem dL_law_332 : decode cL_law 332 = .ok (.sipush 10000, 3) := by decide +kernel
theorem dL_law_335 : decode cL_law 335 = .ok (.invokestatic 9, 3) := by decide +kernel
theorem dL_law_338 : decode cL_law 338 = .ok (.iload 7, 2) := by decide +kernel
theorem dL_law_340 : decode cL_law 340 = .ok (.bipush 7, 2) := by decide +kernel
theorem dL_law_342 : decode cL_law 342 = .ok (.ishr, 1) := by decide +kernel
theorem dL_law_343 : decode cL_law 343 = .ok (.sipush 10000, 3) := by decide +kernel
theorem dL_law_346 : decode cL_law 346 = .ok (.invokestatic 9, 3) := by decide +kernel
theorem dL_law_349 : decode cL_law 349 = .ok (.invokestatic 130, 3) := by decide +kernel
theorem dL_law_352 : decode cL_law 352 = .ok (.ifCond .eq 7, 3) := by decide +kernel
theorem dL_law_355 : decode cL_law 355 = .ok (.iconst 1, 1) := by decide +kernel
theorem dL_law_356 : decode cL_law 356 = .ok (.goto 4, 3) := by decide +kernel
theorem dL_law_359 : decode cL_law 359 = .ok (.iconst 0, 1) := by decide +kernel
theorem dL_law_360 : decode cL_law 360 = .ok (.istore 4, 2) := by decide +kernel
theorem dL_law_362 : decode cL_law 362 = .ok (.iinc 5 1, 3) := by decide +kernel
theorem dL_law_365 : decode cL_law 365 = .ok (.goto (-320), 3) := by decide +kernel
theorem dL_law_368 : decode cL_law 368 = .ok (.iload 4, 2) := by decide +kernel
theorem dL_law_370 : decode cL_law 370 = .ok (.ireturn, 1) := by decide +kernel
end
section
/-! base: one list of words for every method; how a contract begins, is called, ends -/
def wsT : List Cond := lw_tbl.filter goodWord
theorem wsT_good {w : Cond} (h : w ∈ wsT) : goodWord w = true := (List.mem_filter.mp h).2
theorem wsT_tbl {w : Cond} (h : w ∈ wsT) : w ∈ lw_tbl := (List.mem_filter.mp h).1
theorem tw {w : Cond} (i : Nat) (h : lw_tbl[i]? = some w) (g : goodWord w = true) : w ∈ wsT := List.mem_filter.mpr ⟨List.mem_of_getElem? h, g⟩
abbrev wsA (y : MethodName) (b : ByteArray) (n : Nat) (r : Option FieldType) : List Cond := Cond.code y b n r :: wsT
theorem gA {y : MethodName} {b : ByteArray} {n : Nat} {r : Option FieldType} (h : Cond.code y b n r ∈ wsT) (fr : List Cond) (hf : ∀ w ∈ fr, w ∈ wsT) : GoodIn wsT (fr ++ wsA y b n r) := by
  intro w hw
  have hm : w ∈ wsT := by
    rcases List.mem_append.mp hw with h1 | h1
    · exact hf w h1
    · rcases List.mem_cons.mp h1 with h2 | h2
      · rw [h2]; exact h
      · exact h2
  exact ⟨hm, good_of_word (wsT_good hm)⟩
theorem gA0 {y : MethodName} {b : ByteArray} {n : Nat} {r : Option FieldType} (h : Cond.code y b n r ∈ wsT) : GoodIn wsT (wsA y b n r) := gA h [] (fun _ h => nomatch h)
theorem fc {P : Cond → Prop} {w : Cond} {l : List Cond} (h : P w) (t : ∀ x ∈ l, P x) : ∀ x ∈ w :: l, P x := List.forall_mem_cons.mpr ⟨h, t⟩
theorem fn {P : Cond → Prop} : ∀ x ∈ ([] : List Cond), P x := fun _ h => nomatch h
section
variable {R : Room} {s : State} {args : Array Value} {own C : String} {index maxL mc ms : Nat} {y : MethodName} {bytes : ByteArray} {ret : Option FieldType} {rm : Room}
theorem cwAV (n : Nat) (hts : ∀ w ∈ wsT, w.before args s = true) (hl : Cond.methodLink own index y ∈ wsT) (hi : Cond.instanceMethod y ∈ wsT) (hs : Cond.selects C y y ∈ wsT) (hn : Cond.initialized C ∈ wsT) (hc : Cond.code y bytes maxL ret ∈ wsT) (hrc : rm.cells = mc) (hrs : rm.slots = ms)
    (hd : y.cls = C ∧ y.cls ≠ "java/lang/invoke/MethodHandle" ∧ y.cls ≠ "java/lang/invoke/VarHandle" ∧ (parseMethodDescriptor y.desc).map (fun d => d.parameters.length) = some n) (hR : rm.frames + 1 ≤ R.frames ∧ 8 + (maxL + 11) + rm.locals ≤ R.locals) :
    CallW R s args own C index y bytes maxL ret (wsA y bytes maxL ret) rm mc ms n :=
  cwV n hts (gA hc [.methodLink own index y, .instanceMethod y, .selects C y y, .initialized C] (fc hl (fc hi (fc hs (fc hn fn))))) rfl hrc hrs hd hR
theorem cwAS (n : Nat) (hts : ∀ w ∈ wsT, w.before args s = true) (hl : Cond.methodLink own index y ∈ wsT) (hst : Cond.static y ∈ wsT) (hn : Cond.initialized y.cls ∈ wsT) (hc : Cond.code y bytes maxL ret ∈ wsT) (hrc : rm.cells = mc) (hrs : rm.slots = ms)
    (hd : y.cls ≠ "java/lang/invoke/MethodHandle" ∧ y.cls ≠ "java/lang/invoke/VarHandle" ∧ (parseMethodDescriptor y.desc).map (fun d => d.parameters.length) = some n) (hR : rm.frames + 1 ≤ R.frames ∧ 8 + (maxL + 11) + rm.locals ≤ R.locals) :
    CallB R s args own index y bytes maxL ret (wsA y bytes maxL ret) rm mc ms n ∧ (Cond.static y).before args s = true :=
  va_cwS n hts (gA hc [.methodLink own index y, .static y, .initialized y.cls] (fc hl (fc hst (fc hn fn)))) rfl hrc hrs hd hR
theorem cwAN {host : String} (n : Nat) (hts : ∀ w ∈ wsT, w.before args s = true) (hl : va_Nw (.methodLinkNest own index y host) s) (hst : Cond.static y ∈ wsT) (hn : Cond.initialized y.cls ∈ wsT) (hc : Cond.code y bytes maxL ret ∈ wsT) (hrc : rm.cells = mc) (hrs : rm.slots = ms)
    (hd : y.cls ≠ "java/lang/invoke/MethodHandle" ∧ y.cls ≠ "java/lang/invoke/VarHandle" ∧ (parseMethodDescriptor y.desc).map (fun d => d.parameters.length) = some n) (hR : rm.frames + 1 ≤ R.frames ∧ 8 + (maxL + 11) + rm.locals ≤ R.locals) :
    va_CN R s args own index y host bytes maxL ret (wsA y bytes maxL ret) rm mc ms n ∧ (Cond.static y).before args s = true :=
  ⟨va_cnB n hts (gA0 hc) rfl hrc hrs hl (hts _ hn) hd hR, hts _ hst⟩
end
/-- what the tables say, of any state of this launch: the classes, the arrays' classes, the nest's links -/
def nestL : List (String × Nat × MethodName) := [(RX2, 49, yX3_copyRow), (RX2, 71, yX3_read), (RX2, 97, yX3_isBetween), (RX2, 67, yX3_write), (RX2, 137, yX3_uncovered), (RX2, 107, yX3_covered)]
abbrev tysA (cI cS cJ : ClassId) : List (ClassId × FieldType) := [(cI, .int), (cS, .object RX2)]
def KK (D : va_G) (T : List (ClassId × FieldType)) (U : State) : Prop := va_K D vwCl T U ∧ ∀ q ∈ nestL, va_Nw (.methodLinkNest q.1 q.2.1 q.2.2 RX3) U
theorem KK.k {D : va_G} {T : List (ClassId × FieldType)} {U : State} (h : KK D T U) : va_K D vwCl T U := h.1
theorem KK.n {D : va_G} {T : List (ClassId × FieldType)} {U : State} (h : KK D T U) (i : Nat) {q : String × Nat × MethodName} (hq : nestL[i]? = some q) : va_Nw (.methodLinkNest q.1 q.2.1 q.2.2 RX3) U := h.2 q (List.mem_of_getElem? hq)
theorem KK.warm {D : va_G} {T : List (ClassId × FieldType)} {s U : State} (hW : s.WarmedH U.vm) (h : KK D T s) : KK D T U := ⟨va_K.moved hW.alike h.1, fun q hq => va_Nw.warmM hW (h.2 q hq)⟩
theorem KK.calling {D : va_G} {T : List (ClassId × FieldType)} {U : State} (g : JFrame) (mk : MethodId) (a : Array Value) (h : KK D T U) : KK D T (U.calling g mk a) := ⟨va_K.moved (u := U) (U := U.calling g mk a) (Vm.Alike.refl U.vm) h.1, fun q hq => va_Nw.same (by rfl) (u := U) rfl (h.2 q hq)⟩
/-- the start of a method that changes nothing: its heap is H0 -/
def roP (D : va_G) (T : List (ClassId × FieldType)) (wc : va_W) (H0 : Heap) : State → Prop := fun U => U.heap = H0 ∧ va_P D vwCl wc H0 ∧ KK D T U
/-- the start of a method that changes its world -/
def rwP (D : va_G) (T : List (ClassId × FieldType)) (wc : va_W) (sz : Nat) : State → Prop := fun U => U.heap.size = sz ∧ va_P D vwCl wc U.heap ∧ KK D T U ∧ va_D (fun _ => True) wc
abbrev nF : Nat → Prop := fun _ => False
theorem vP_mem {D : va_G} {cl : List vw_C} {ws : va_W} {H : Heap} : va_P D cl ws H ↔ ∀ q ∈ ws, va_at D cl q H :=
  ⟨fun h q hq => by obtain ⟨i, hi⟩ := List.getElem?_of_mem hq; exact h i q hi, fun h k q hk => h q (List.mem_of_getElem? hk)⟩
theorem vD_mem {A : Nat → Prop} {ws : va_W} : va_D A ws ↔ ws.Pairwise (fun x y => x.1 ≠ y.1) ∧ ∀ q ∈ ws, A q.1 := by
  constructor
  · intro h
    refine ⟨List.pairwise_iff_getElem.mpr (fun i j hi hj hij he => ?_), fun q hq => ?_⟩
    · have := h.1 i j ws[i] ws[j] (List.getElem?_eq_getElem hi) (List.getElem?_eq_getElem hj) he
      omega
    · obtain ⟨i, hi⟩ := List.getElem?_of_mem hq
      exact h.2 i q hi
  · intro h
    refine ⟨fun i j p q hi hj he => ?_, fun k q hk => h.2 q (List.mem_of_getElem? hk)⟩
    obtain ⟨hi', rfl⟩ := List.getElem?_eq_some_iff.mp hi
    obtain ⟨hj', rfl⟩ := List.getElem?_eq_some_iff.mp hj
    have hp := List.pairwise_iff_getElem.mp h.1
    rcases Nat.lt_trichotomy i j with q | q | q
    · exact absurd he (hp i j hi' hj' q)
    · exact q
    · exact absurd he.symm (hp j i hj' hi' q)
theorem vP_perm {D : va_G} {cl : List vw_C} {w1 w2 : va_W} {H : Heap} (hp : w1.Perm w2) (h : va_P D cl w1 H) : va_P D cl w2 H := vP_mem.mpr (fun q hq => vP_mem.mp h q (hp.mem_iff.mpr hq))
theorem vD_perm {A : Nat → Prop} {w1 w2 : va_W} (hp : w1.Perm w2) (h : va_D A w1) : va_D A w2 := by
  obtain ⟨h1, h2⟩ := vD_mem.mp h
  exact vD_mem.mpr ⟨(hp.pairwise_iff (fun h => Ne.symm h)).mp h1, fun q hq => h2 q (hp.mem_iff.mpr hq)⟩
theorem vP_L {D : va_G} {cl : List vw_C} {w1 w2 : va_W} {H : Heap} (h : va_P D cl (w1 ++ w2) H) : va_P D cl w1 H := vP_mem.mpr (fun q hq => vP_mem.mp h q (List.mem_append_left _ hq))
theorem vP_R {D : va_G} {cl : List vw_C} {w1 w2 : va_W} {H : Heap} (h : va_P D cl (w1 ++ w2) H) : va_P D cl w2 H := vP_mem.mpr (fun q hq => vP_mem.mp h q (List.mem_append_right _ hq))
theorem vD_L {A : Nat → Prop} {w1 w2 : va_W} (h : va_D A (w1 ++ w2)) : va_D A w1 := by
  obtain ⟨h1, h2⟩ := vD_mem.mp h
  exact vD_mem.mpr ⟨(List.pairwise_append.mp h1).1, fun q hq => h2 q (List.mem_append_left _ hq)⟩
theorem vP_nil {D : va_G} {cl : List vw_C} {H : Heap} : va_P D cl [] H := fun k q h => by simp at h
theorem vP_one {D : va_G} {cl : List vw_C} {ws : va_W} {H : Heap} (h : va_P D cl ws H) (k : Nat) {q : Nat × va_E} (hk : ws[k]? = some q) : va_P D cl [q] H := vP_mem.mpr (fun q' hq => by rw [List.mem_singleton.mp hq]; exact h k q hk)
/-- behind a call that had the world wc of wc ++ wr -/
theorem vJoin {A0 : Nat → Prop} {D : va_G} {cl : List vw_C} {wc wr w1 : va_W} {H H1 : Heap} (hP : va_P D cl (wc ++ wr) H) (hD : va_D A0 (wc ++ wr)) (hk : ∀ q : Nat, q < H.size → ¬ va_A wc H.size q → H1[q]? = H[q]?) (hF : ∀ q, va_A wc H.size q → A0 q) (hP1 : va_P D cl w1 H1) (hD1 : va_D (va_A wc H.size) w1) : va_P D cl (w1 ++ wr) H1 ∧ va_D A0 (w1 ++ wr) := by
  obtain ⟨d1, d2⟩ := vD_mem.mp hD
  obtain ⟨-, p2, p3⟩ := List.pairwise_append.mp d1
  obtain ⟨e1, e2⟩ := vD_mem.mp hD1
  have apart : ∀ q ∈ wr, q.1 < H.size ∧ ¬ va_A wc H.size q.1 := by
    intro q hq
    have hl : q.1 < H.size := (vP_mem.mp hP q (List.mem_append_right _ hq)).lt
    refine ⟨hl, fun h => ?_⟩
    rcases h with ⟨k, e, h⟩ | h
    · exact p3 (q.1, e) (List.mem_of_getElem? h) q hq rfl
    · omega
  refine ⟨vP_mem.mpr (fun q hq => ?_), vD_mem.mpr ⟨List.pairwise_append.mpr ⟨e1, p2, fun x hx y hy he => ?_⟩, fun q hq => ?_⟩⟩
  · rcases List.mem_append.mp hq with h | h
    · exact vP_mem.mp hP1 q h
    · obtain ⟨g1, g2⟩ := apart q h
      exact (vP_mem.mp hP q (List.mem_append_right _ h)).kept (hk q.1 g1 g2)
  · exact (apart y hy).2 (by rw [← he]; exact e2 x hx)
  · rcases List.mem_append.mp hq with h | h
    · exact hF _ (e2 q h)
    · exact d2 q (List.mem_append_right _ h)
theorem vFree {A0 : Nat → Prop} {ws wc wr : va_W} {H0 H : Heap} {locs : List Loc} (hp : ws.Perm (wc ++ wr)) (hD : va_D A0 ws) (hS : va_S A0 H0 H locs) (hA : ∀ q, H0.size ≤ q → A0 q) : ∀ q, va_A wc H.size q → A0 q := by
  intro q h
  rcases h with ⟨k, e, h⟩ | h
  · exact (vD_mem.mp (vD_perm hp hD)).2 (q, e) (List.mem_append_left _ (List.mem_of_getElem? h))
  · exact hA q (Nat.le_trans hS.1 h)
theorem perm_k {α : Type} : ∀ (ws : List α) (k : Nat) {x : α}, ws[k]? = some x → ws.Perm (x :: ws.eraseIdx k)
  | [], k, x, h => by simp at h
  | a :: l, 0, x, h => by
    rw [List.getElem?_cons_zero] at h
    cases h
    exact List.Perm.refl _
  | a :: l, k + 1, x, h => by
    rw [List.getElem?_cons_succ] at h
    exact ((perm_k l k h).cons a).trans (List.Perm.swap x a _)
theorem perm_set {α : Type} : ∀ (ws : List α) (k : Nat) {x : α} (y : α), ws[k]? = some x → (y :: ws.eraseIdx k).Perm (ws.set k y)
  | [], k, x, y, h => by simp at h
  | a :: l, 0, x, y, h => by
    rw [List.eraseIdx_cons_zero, List.set_cons_zero]
  | a :: l, k + 1, x, y, h => by
    rw [List.getElem?_cons_succ] at h
    rw [List.eraseIdx_cons_succ, List.set_cons_succ]
    exact (List.Perm.swap a y _).trans ((perm_set l k y h).cons a)
section
variable {p : Program} {l : Launch} {e : Env} {R : Room} {s : State} {m : MethodId} {args : Array Value} {below : List Frame} {meth : Method} {c : Code} {H H0 : Heap} {locs : List Loc} {cells slots mc ms : Nat} {Q : State → Prop} {A : Nat → Prop} {D : va_G} {T : List (ClassId × FieldType)} {ws wc wr : va_W} {a : Array Value} {pc : Nat} {ls : Array Slot} {rest st0 : List Value}
/-- behind a call that changed nothing -/
theorem ro_ki {post : Int32 → Prop} (hr : va_Run p l e R s m args below meth c H locs cells slots 0 0 (F0 m pc ls st0) rest (va_Qi (fun r (_ : Unit) => post r) (fun _ t => t.heap = H) nF a) nF)
    (kk : ∀ r, post r → W p l e R s m args below meth c H locs cells slots Q (F0 m (pc + 3) ls (.int r :: rest))) : W p l e R s m args below meth c H locs cells slots Q (F0 m pc ls st0) := by
  intro T hT X
  obtain ⟨v, st₀, t, T', L, h0, X', hL, e1, e2, ⟨⟨r, u, hv, hp, hb⟩, hF⟩, st⟩ := hr T hT X
  cases hv
  have hLn : L = [] := List.eq_nil_iff_forall_not_mem.mpr (fun q hq => hL q hq)
  subst hLn
  rw [List.append_nil, Nat.add_zero, Nat.add_zero] at X'
  obtain ⟨t2, a1, b1⟩ := kk r hp T' (e1.trans hb) X'
  exact ⟨t2, st t2 a1, b1⟩
theorem ro_kl {post : Int64 → Prop} (hr : va_Run p l e R s m args below meth c H locs cells slots 0 0 (F0 m pc ls st0) rest (va_Ql (fun r (_ : Unit) => post r) (fun _ t => t.heap = H) nF a) nF)
    (kk : ∀ r, post r → W p l e R s m args below meth c H locs cells slots Q (F0 m (pc + 3) ls (.long r :: rest))) : W p l e R s m args below meth c H locs cells slots Q (F0 m pc ls st0) := by
  intro T hT X
  obtain ⟨v, st₀, t, T', L, h0, X', hL, e1, e2, ⟨⟨r, u, hv, hp, hb⟩, hF⟩, st⟩ := hr T hT X
  cases hv
  have hLn : L = [] := List.eq_nil_iff_forall_not_mem.mpr (fun q hq => hL q hq)
  subst hLn
  rw [List.append_nil, Nat.add_zero, Nat.add_zero] at X'
  obtain ⟨t2, a1, b1⟩ := kk r hp T' (e1.trans hb) X'
  exact ⟨t2, st t2 a1, b1⟩
theorem rw_ki {S : Type} {post : Int32 → S → Prop} {wf : S → va_W} (hr : va_Run p l e R s m args below meth c H locs cells slots mc ms (F0 m pc ls st0) rest (va_Qi post (fun u t => va_P D vwCl (wf u) t.heap ∧ va_D (va_A wc H.size) (wf u)) (va_A wc H.size) a) (va_A wc H.size))
    (hpm : ws.Perm (wc ++ wr)) (hP : va_P D vwCl ws H) (hD : va_D A ws) (hS : va_S A H0 H locs) (hA : ∀ q, H0.size ≤ q → A q)
    (kk : ∀ r u H1 locs1, post r u → va_P D vwCl (wf u ++ wr) H1 → va_D A (wf u ++ wr) → va_S A H0 H1 locs1 → W p l e R s m args below meth c H1 locs1 (cells + mc) (slots + ms) Q (F0 m (pc + 3) ls (.int r :: rest))) : W p l e R s m args below meth c H locs cells slots Q (F0 m pc ls st0) := by
  have hF := vFree hpm hD hS hA
  refine va_calli hr hS (fun q _ h => hF q h) hF (fun r u t H1 locs1 ht hvm hp hb hz hk hS1 => ?_)
  obtain ⟨b1, b2⟩ := hb
  rw [ht] at b1
  obtain ⟨c1, c2⟩ := vJoin (vP_perm hpm hP) (vD_perm hpm hD) hk hF b1 b2
  exact kk r u H1 locs1 hp c1 c2 hS1
theorem rw_kv {S : Type} {post : S → Prop} {wf : S → va_W} (hr : va_Run p l e R s m args below meth c H locs cells slots mc ms (F0 m pc ls st0) rest (va_Qv post (fun u t => va_P D vwCl (wf u) t.heap ∧ va_D (va_A wc H.size) (wf u)) (va_A wc H.size) a) (va_A wc H.size))
    (hpm : ws.Perm (wc ++ wr)) (hP : va_P D vwCl ws H) (hD : va_D A ws) (hS : va_S A H0 H locs) (hA : ∀ q, H0.size ≤ q → A q)
    (kk : ∀ u H1 locs1, post u → va_P D vwCl (wf u ++ wr) H1 → va_D A (wf u ++ wr) → va_S A H0 H1 locs1 → W p l e R s m args below meth c H1 locs1 (cells + mc) (slots + ms) Q (F0 m (pc + 3) ls rest)) : W p l e R s m args below meth c H locs cells slots Q (F0 m pc ls st0) := by
  have hF := vFree hpm hD hS hA
  refine va_callv hr hS (fun q _ h => hF q h) hF (fun u t H1 locs1 ht hvm hp hb hz hk hS1 => ?_)
  obtain ⟨b1, b2⟩ := hb
  rw [ht] at b1
  obtain ⟨c1, c2⟩ := vJoin (vP_perm hpm hP) (vD_perm hpm hD) hk hF b1 b2
  exact kk u H1 locs1 hp c1 c2 hS1
theorem blindRO {av : List Value} : FrameBlind (va_Pc av (roP D T wc H0)) := fun a U g mk q => ⟨q.1, q.2.1, q.2.2.1, KK.calling g mk a q.2.2.2⟩
theorem blindRW {av : List Value} {sz : Nat} : FrameBlind (va_Pc av (rwP D T wc sz)) := fun a U g mk q => ⟨q.1, q.2.1, q.2.2.1, KK.calling g mk a q.2.2.2.1, q.2.2.2.2⟩
theorem preRO {av : List Value} (hK : KK D T s) (hP : va_P D vwCl wc H) : PreS s H (va_Pc av (roP D T wc H)) av := ⟨blindRO, fun U hU hW => ⟨rfl, hU, hP, KK.warm hW hK⟩⟩
theorem preRW {av : List Value} (hpm : ws.Perm (wc ++ wr)) (hK : KK D T s) (hP : va_P D vwCl ws H) (hD : va_D A ws) : PreS s H (va_Pc av (rwP D T wc H.size)) av :=
  ⟨blindRW, fun U hU hW => ⟨rfl, by rw [hU], by rw [hU]; exact vP_L (vP_perm hpm hP), KK.warm hW hK, vD_L (vD_perm hpm (hD.weaken (fun _ _ _ _ => trivial)))⟩⟩
end
section
variable {p : Program} {l : Launch} {e : Env} {R : Room} {s : State} {m : MethodId} {args : Array Value} {below : List Frame} {meth : Method} {c : Code} {H H0 : Heap} {locs : List Loc} {cells slots : Nat} {Q : State → Prop} {A : Nat → Prop} {D : va_G} {T : List (ClassId × FieldType)} {ws wc wr : va_W} {pc : Nat} {ls : Array Slot} {rest st0 : List Value}
variable {y : MethodName} {bytes cc : ByteArray} {maxL nL n index ci k0 : Nat} {ret : Option FieldType} {rm : Room} {own C host : String} {b : Addr} {As : List Value} {W9 : List Cond}
theorem recv {qc : vw_C} {fs : List Value} (hK : KK D T s) (hP : va_P D vwCl wc H) (hc : vwCl[ci]? = some qc) (he : wc[k0]? = some (b, .inr (ci, fs))) : ∃ cell : Cell, H[b]? = some cell ∧ cell.vm.isStatics = false ∧ s.vm.findClass qc.1 = some cell.cls := va_recv hK.k hP hc he
/-- calls that change nothing: of an object's method, a static one, a static one of the nest -/
theorem roVi {post : Int32 → Prop} (F : CallFix p m c cc nL s args wsT own) (hM : Met l y W9 rm (va_Pc (.ref b :: As) (roP D T wc H)) (va_Qi (fun r (_ : Unit) => post r) (fun _ t => t.heap = H) nF) 0 0 nF) (cw : CallW R s args own C index y bytes maxL ret W9 rm 0 0 n)
    (hK : KK D T s) (hP : va_P D vwCl wc H) (hr : ∃ cell : Cell, H[b]? = some cell ∧ cell.vm.isStatics = false ∧ s.vm.findClass C = some cell.cls) (hn : As.length = n) (hsz : ls.size = nL) (hst : st0 = As.reverse ++ .ref b :: rest) (hW : (rest.map fun v => v.category).sum ≤ 8) (hdg : decode cc pc = .ok (.invokevirtual index, 3)) (hf : cells ≤ R.cells ∧ slots ≤ R.slots)
    (kk : ∀ r, post r → W p l e R s m args below meth c H locs cells slots Q (F0 m (pc + 3) ls (.int r :: rest))) : W p l e R s m args below meth c H locs cells slots Q (F0 m pc ls st0) :=
  ro_ki (va_runV F hM cw ⟨blindRO, hr, (preRO hK hP).2⟩ rfl hn hsz hst (lv_room hW) hdg hf) kk
theorem roVl {post : Int64 → Prop} (F : CallFix p m c cc nL s args wsT own) (hM : Met l y W9 rm (va_Pc (.ref b :: As) (roP D T wc H)) (va_Ql (fun r (_ : Unit) => post r) (fun _ t => t.heap = H) nF) 0 0 nF) (cw : CallW R s args own C index y bytes maxL ret W9 rm 0 0 n)
    (hK : KK D T s) (hP : va_P D vwCl wc H) (hr : ∃ cell : Cell, H[b]? = some cell ∧ cell.vm.isStatics = false ∧ s.vm.findClass C = some cell.cls) (hn : As.length = n) (hsz : ls.size = nL) (hst : st0 = As.reverse ++ .ref b :: rest) (hW : (rest.map fun v => v.category).sum ≤ 8) (hdg : decode cc pc = .ok (.invokevirtual index, 3)) (hf : cells ≤ R.cells ∧ slots ≤ R.slots)
    (kk : ∀ r, post r → W p l e R s m args below meth c H locs cells slots Q (F0 m (pc + 3) ls (.long r :: rest))) : W p l e R s m args below meth c H locs cells slots Q (F0 m pc ls st0) :=
  ro_kl (va_runV F hM cw ⟨blindRO, hr, (preRO hK hP).2⟩ rfl hn hsz hst (lv_room hW) hdg hf) kk
theorem roSi {post : Int32 → Prop} (F : CallFix p m c cc nL s args wsT own) (hM : Met l y W9 rm (va_Pc As (roP D T wc H)) (va_Qi (fun r (_ : Unit) => post r) (fun _ t => t.heap = H) nF) 0 0 nF) (cw : CallB R s args own index y bytes maxL ret W9 rm 0 0 n ∧ (Cond.static y).before args s = true)
    (hK : KK D T s) (hP : va_P D vwCl wc H) (hn : As.length = n) (hsz : ls.size = nL) (hst : st0 = As.reverse ++ rest) (hW : (rest.map fun v => v.category).sum ≤ 8) (hdg : decode cc pc = .ok (.invokestatic index, 3)) (hf : cells ≤ R.cells ∧ slots ≤ R.slots)
    (kk : ∀ r, post r → W p l e R s m args below meth c H locs cells slots Q (F0 m (pc + 3) ls (.int r :: rest))) : W p l e R s m args below meth c H locs cells slots Q (F0 m pc ls st0) :=
  ro_ki (va_runS F hM cw (preRO hK hP) rfl hn hsz hst (lv_room hW) hdg hf) kk
theorem roSl {post : Int64 → Prop} (F : CallFix p m c cc nL s args wsT own) (hM : Met l y W9 rm (va_Pc As (roP D T wc H)) (va_Ql (fun r (_ : Unit) => post r) (fun _ t => t.heap = H) nF) 0 0 nF) (cw : CallB R s args own index y bytes maxL ret W9 rm 0 0 n ∧ (Cond.static y).before args s = true)
    (hK : KK D T s) (hP : va_P D vwCl wc H) (hn : As.length = n) (hsz : ls.size = nL) (hst : st0 = As.reverse ++ rest) (hW : (rest.map fun v => v.category).sum ≤ 8) (hdg : decode cc pc = .ok (.invokestatic index, 3)) (hf : cells ≤ R.cells ∧ slots ≤ R.slots)
    (kk : ∀ r, post r → W p l e R s m args below meth c H locs cells slots Q (F0 m (pc + 3) ls (.long r :: rest))) : W p l e R s m args below meth c H locs cells slots Q (F0 m pc ls st0) :=
  ro_kl (va_runS F hM cw (preRO hK hP) rfl hn hsz hst (lv_room hW) hdg hf) kk
theorem roNi {post : Int32 → Prop} (F : CallFix p m c cc nL s args wsT own) (hM : Met l y W9 rm (va_Pc As (roP D T wc H)) (va_Qi (fun r (_ : Unit) => post r) (fun _ t => t.heap = H) nF) 0 0 nF) (cw : va_CN R s args own index y host bytes maxL ret W9 rm 0 0 n ∧ (Cond.static y).before args s = true)
    (hK : KK D T s) (hP : va_P D vwCl wc H) (hn : As.length = n) (hsz : ls.size = nL) (hst : st0 = As.reverse ++ rest) (hW : (rest.map fun v => v.category).sum ≤ 8) (hdg : decode cc pc = .ok (.invokestatic index, 3)) (hf : cells ≤ R.cells ∧ slots ≤ R.slots)
    (kk : ∀ r, post r → W p l e R s m args below meth c H locs cells slots Q (F0 m (pc + 3) ls (.int r :: rest))) : W p l e R s m args below meth c H locs cells slots Q (F0 m pc ls st0) :=
  ro_ki (va_runSN F hM ⟨cw.1, cw.2, trivial⟩ (preRO hK hP) rfl hn hsz hst (lv_room hW) hdg hf) kk
/-- calls that change their world wc -/
theorem rwVi {S : Type} {post : Int32 → S → Prop} {wf : S → va_W} {mc ms : Nat} (hpm : ws.Perm (wc ++ wr)) (F : CallFix p m c cc nL s args wsT own) (hM : Met l y W9 rm (va_Pc (.ref b :: As) (rwP D T wc H.size)) (va_Qi post (fun u t => va_P D vwCl (wf u) t.heap ∧ va_D (va_A wc H.size) (wf u)) (va_A wc H.size)) mc ms (va_A wc H.size)) (cw : CallW R s args own C index y bytes maxL ret W9 rm mc ms n)
    (hK : KK D T s) (hP : va_P D vwCl ws H) (hD : va_D A ws) (hS : va_S A H0 H locs) (hA : ∀ q, H0.size ≤ q → A q) (hr : ∃ cell : Cell, H[b]? = some cell ∧ cell.vm.isStatics = false ∧ s.vm.findClass C = some cell.cls) (hn : As.length = n) (hsz : ls.size = nL) (hst : st0 = As.reverse ++ .ref b :: rest) (hW : (rest.map fun v => v.category).sum ≤ 8) (hdg : decode cc pc = .ok (.invokevirtual index, 3)) (hf : cells + mc ≤ R.cells ∧ slots + ms ≤ R.slots)
    (kk : ∀ r u H1 locs1, post r u → va_P D vwCl (wf u ++ wr) H1 → va_D A (wf u ++ wr) → va_S A H0 H1 locs1 → W p l e R s m args below meth c H1 locs1 (cells + mc) (slots + ms) Q (F0 m (pc + 3) ls (.int r :: rest))) : W p l e R s m args below meth c H locs cells slots Q (F0 m pc ls st0) :=
  rw_ki (va_runV F hM cw ⟨blindRW, hr, (preRW hpm hK hP hD).2⟩ rfl hn hsz hst (lv_room hW) hdg hf) hpm hP hD hS hA kk
theorem rwVv {S : Type} {post : S → Prop} {wf : S → va_W} {mc ms : Nat} (hpm : ws.Perm (wc ++ wr)) (F : CallFix p m c cc nL s args wsT own) (hM : Met l y W9 rm (va_Pc (.ref b :: As) (rwP D T wc H.size)) (va_Qv post (fun u t => va_P D vwCl (wf u) t.heap ∧ va_D (va_A wc H.size) (wf u)) (va_A wc H.size)) mc ms (va_A wc H.size)) (cw : CallW R s args own C index y bytes maxL ret W9 rm mc ms n)
    (hK : KK D T s) (hP : va_P D vwCl ws H) (hD : va_D A ws) (hS : va_S A H0 H locs) (hA : ∀ q, H0.size ≤ q → A q) (hr : ∃ cell : Cell, H[b]? = some cell ∧ cell.vm.isStatics = false ∧ s.vm.findClass C = some cell.cls) (hn : As.length = n) (hsz : ls.size = nL) (hst : st0 = As.reverse ++ .ref b :: rest) (hW : (rest.map fun v => v.category).sum ≤ 8) (hdg : decode cc pc = .ok (.invokevirtual index, 3)) (hf : cells + mc ≤ R.cells ∧ slots + ms ≤ R.slots)
    (kk : ∀ u H1 locs1, post u → va_P D vwCl (wf u ++ wr) H1 → va_D A (wf u ++ wr) → va_S A H0 H1 locs1 → W p l e R s m args below meth c H1 locs1 (cells + mc) (slots + ms) Q (F0 m (pc + 3) ls rest)) : W p l e R s m args below meth c H locs cells slots Q (F0 m pc ls st0) :=
  rw_kv (va_runV F hM cw ⟨blindRW, hr, (preRW hpm hK hP hD).2⟩ rfl hn hsz hst (lv_room hW) hdg hf) hpm hP hD hS hA kk
theorem rwSv {S : Type} {post : S → Prop} {wf : S → va_W} {mc ms : Nat} (hpm : ws.Perm (wc ++ wr)) (F : CallFix p m c cc nL s args wsT own) (hM : Met l y W9 rm (va_Pc As (rwP D T wc H.size)) (va_Qv post (fun u t => va_P D vwCl (wf u) t.heap ∧ va_D (va_A wc H.size) (wf u)) (va_A wc H.size)) mc ms (va_A wc H.size)) (cw : CallB R s args own index y bytes maxL ret W9 rm mc ms n ∧ (Cond.static y).before args s = true)
    (hK : KK D T s) (hP : va_P D vwCl ws H) (hD : va_D A ws) (hS : va_S A H0 H locs) (hA : ∀ q, H0.size ≤ q → A q) (hn : As.length = n) (hsz : ls.size = nL) (hst : st0 = As.reverse ++ rest) (hW : (rest.map fun v => v.category).sum ≤ 8) (hdg : decode cc pc = .ok (.invokestatic index, 3)) (hf : cells + mc ≤ R.cells ∧ slots + ms ≤ R.slots)
    (kk : ∀ u H1 locs1, post u → va_P D vwCl (wf u ++ wr) H1 → va_D A (wf u ++ wr) → va_S A H0 H1 locs1 → W p l e R s m args below meth c H1 locs1 (cells + mc) (slots + ms) Q (F0 m (pc + 3) ls rest)) : W p l e R s m args below meth c H locs cells slots Q (F0 m pc ls st0) :=
  rw_kv (va_runS F hM cw (preRW hpm hK hP hD) rfl hn hsz hst (lv_room hW) hdg hf) hpm hP hD hS hA kk
theorem rwNv {S : Type} {post : S → Prop} {wf : S → va_W} {mc ms : Nat} (hpm : ws.Perm (wc ++ wr)) (F : CallFix p m c cc nL s args wsT own) (hM : Met l y W9 rm (va_Pc As (rwP D T wc H.size)) (va_Qv post (fun u t => va_P D vwCl (wf u) t.heap ∧ va_D (va_A wc H.size) (wf u)) (va_A wc H.size)) mc ms (va_A wc H.size)) (cw : va_CN R s args own index y host bytes maxL ret W9 rm mc ms n ∧ (Cond.static y).before args s = true)
    (hK : KK D T s) (hP : va_P D vwCl ws H) (hD : va_D A ws) (hS : va_S A H0 H locs) (hA : ∀ q, H0.size ≤ q → A q) (hn : As.length = n) (hsz : ls.size = nL) (hst : st0 = As.reverse ++ rest) (hW : (rest.map fun v => v.category).sum ≤ 8) (hdg : decode cc pc = .ok (.invokestatic index, 3)) (hf : cells + mc ≤ R.cells ∧ slots + ms ≤ R.slots)
    (kk : ∀ u H1 locs1, post u → va_P D vwCl (wf u ++ wr) H1 → va_D A (wf u ++ wr) → va_S A H0 H1 locs1 → W p l e R s m args below meth c H1 locs1 (cells + mc) (slots + ms) Q (F0 m (pc + 3) ls rest)) : W p l e R s m args below meth c H locs cells slots Q (F0 m pc ls st0) :=
  rw_kv (va_runSN F hM ⟨cw.1, cw.2, trivial⟩ (preRW hpm hK hP hD) rfl hn hsz hst (lv_room hW) hdg hf) hpm hP hD hS hA kk
end
/-- one cell of a world written by a callee -/
theorem vP_set1 {D : va_G} {ws : va_W} {k : Nat} {x y : Nat × va_E} {H : Heap} (hk : ws[k]? = some x) (h : va_P D vwCl ([y] ++ ws.eraseIdx k) H) : va_P D vwCl (ws.set k y) H := vP_perm (perm_set ws k y hk) h
theorem vD_set1 {A : Nat → Prop} {ws : va_W} {k : Nat} {x y : Nat × va_E} (hk : ws[k]? = some x) (h : va_D A ([y] ++ ws.eraseIdx k)) : va_D A (ws.set k y) := vD_perm (perm_set ws k y hk) h
/-- contracts: the start and the ends -/
theorem mkROi {l : Launch} {y : MethodName} {cc : ByteArray} {nL : Nat} {rm : Room} {D : va_G} {T : List (ClassId × FieldType)} {wc : va_W} {H0 : Heap} {av : List Value} {post : Int32 → Prop} (hy : plainFor y = true) (hnl : (lg_sl av).length ≤ nL)
    (body : ∀ {p : Program} {e : Env} {s : State} {m : MethodId} {args : Array Value} {below : List Frame} {meth : Method} {c : Code} {Q : State → Prop} {ls : Array Slot}, p.tables.exec = Jvm.exec → c.code = cc → CallFix p m c cc nL s args wsT y.cls → (∀ w ∈ wsT, w.before args s = true) → s.vm.findClass y.cls = some m.cls → KK D T s → va_P D vwCl wc H0 → lv_has ls nL (lv_args 0 av) →
      (∀ {v : Int32} {pc : Nat} {ls : Array Slot}, post v → decode cc pc = .ok (.ireturn, 1) → W p l e rm s m args below meth c H0 [] 0 0 Q (F0 m pc ls [.int v])) → W p l e rm s m args below meth c H0 [] 0 0 Q (F0 m 0 ls [])) :
    Met l y (wsA y cc nL (some .int)) rm (va_Pc av (roP D T wc H0)) (va_Qi (fun r (_ : Unit) => post r) (fun _ t => t.heap = H0) nF) 0 0 nF := by
  refine va_MetF (cc := cc) (maxL := nL) (ret := some .int) hy rfl ?_
  intro p e s m args below meth c s₁ B hml hv
  obtain ⟨rfl, hH, hP, hK⟩ := hv
  have hts : ∀ w ∈ wsT, w.before av.toArray s = true := fun w h => atoms_spec (ws := wsA y cc nL (some .int)) B.pre w (List.mem_cons_of_mem _ h)
  have hl := lv_entry av (n := nL) hnl
  rw [lg_entry_eq]
  subst hH
  refine body B.exec B.bytes ⟨B.exec, B.bytes, hml, findClass_of_methodNamed B.named, hts⟩ hts (findClass_of_methodNamed B.named) hK hP hl (fun {v pc ls} hpv hd => ?_)
  exact W.iret B.exec B.bytes B.returns (fun t ht hW => ⟨⟨v, (), rfl, hpv, ht⟩, (va_S.rf (A := nF) (H0 := s.heap)).F ht⟩) (fun q h => nomatch h) hd B.notSynchronized
theorem mkROl {l : Launch} {y : MethodName} {cc : ByteArray} {nL : Nat} {rm : Room} {D : va_G} {T : List (ClassId × FieldType)} {wc : va_W} {H0 : Heap} {av : List Value} {post : Int64 → Prop} (hy : plainFor y = true) (hnl : (lg_sl av).length ≤ nL)
    (body : ∀ {p : Program} {e : Env} {s : State} {m : MethodId} {args : Array Value} {below : List Frame} {meth : Method} {c : Code} {Q : State → Prop} {ls : Array Slot}, p.tables.exec = Jvm.exec → c.code = cc → CallFix p m c cc nL s args wsT y.cls → (∀ w ∈ wsT, w.before args s = true) → s.vm.findClass y.cls = some m.cls → KK D T s → va_P D vwCl wc H0 → lv_has ls nL (lv_args 0 av) →
      (∀ {v : Int64} {pc : Nat} {ls : Array Slot}, post v → decode cc pc = .ok (.lreturn, 1) → W p l e rm s m args below meth c H0 [] 0 0 Q (F0 m pc ls [.long v])) → W p l e rm s m args below meth c H0 [] 0 0 Q (F0 m 0 ls [])) :
    Met l y (wsA y cc nL (some .long)) rm (va_Pc av (roP D T wc H0)) (va_Ql (fun r (_ : Unit) => post r) (fun _ t => t.heap = H0) nF) 0 0 nF := by
  refine va_MetF (cc := cc) (maxL := nL) (ret := some .long) hy rfl ?_
  intro p e s m args below meth c s₁ B hml hv
  obtain ⟨rfl, hH, hP, hK⟩ := hv
  have hts : ∀ w ∈ wsT, w.before av.toArray s = true := fun w h => atoms_spec (ws := wsA y cc nL (some .long)) B.pre w (List.mem_cons_of_mem _ h)
  have hl := lv_entry av (n := nL) hnl
  rw [lg_entry_eq]
  subst hH
  refine body B.exec B.bytes ⟨B.exec, B.bytes, hml, findClass_of_methodNamed B.named, hts⟩ hts (findClass_of_methodNamed B.named) hK hP hl (fun {v pc ls} hpv hd => ?_)
  exact W.lret B.exec B.bytes B.returns (fun t ht hW => ⟨⟨v, (), rfl, hpv, ht⟩, (va_S.rf (A := nF) (H0 := s.heap)).F ht⟩) (fun q h => nomatch h) hd B.notSynchronized
def bz (v : Int32) : Prop := v = 0 ∨ v = 1
theorem bz0 : bz 0 := Or.inl rfl
theorem bz1 : bz 1 := Or.inr rfl
theorem bz_nar {v : Int32} (h : bz v) : narrow .boolean (.int v) = .int v := by rcases h with rfl | rfl <;> rfl
theorem mkROz {l : Launch} {y : MethodName} {cc : ByteArray} {nL : Nat} {rm : Room} {D : va_G} {T : List (ClassId × FieldType)} {wc : va_W} {H0 : Heap} {av : List Value} {post : Int32 → Prop} (hy : plainFor y = true) (hnl : (lg_sl av).length ≤ nL)
    (body : ∀ {p : Program} {e : Env} {s : State} {m : MethodId} {args : Array Value} {below : List Frame} {meth : Method} {c : Code} {Q : State → Prop} {ls : Array Slot}, p.tables.exec = Jvm.exec → c.code = cc → CallFix p m c cc nL s args wsT y.cls → (∀ w ∈ wsT, w.before args s = true) → s.vm.findClass y.cls = some m.cls → KK D T s → va_P D vwCl wc H0 → lv_has ls nL (lv_args 0 av) →
      (∀ {v : Int32} {pc : Nat} {ls : Array Slot}, bz v → post v → decode cc pc = .ok (.ireturn, 1) → W p l e rm s m args below meth c H0 [] 0 0 Q (F0 m pc ls [.int v])) → W p l e rm s m args below meth c H0 [] 0 0 Q (F0 m 0 ls [])) :
    Met l y (wsA y cc nL (some .boolean)) rm (va_Pc av (roP D T wc H0)) (va_Qi (fun r (_ : Unit) => bz r ∧ post r) (fun _ t => t.heap = H0) nF) 0 0 nF := by
  refine va_MetF (cc := cc) (maxL := nL) (ret := some .boolean) hy rfl ?_
  intro p e s m args below meth c s₁ B hml hv
  obtain ⟨rfl, hH, hP, hK⟩ := hv
  have hts : ∀ w ∈ wsT, w.before av.toArray s = true := fun w h => atoms_spec (ws := wsA y cc nL (some .boolean)) B.pre w (List.mem_cons_of_mem _ h)
  have hl := lv_entry av (n := nL) hnl
  rw [lg_entry_eq]
  subst hH
  refine body B.exec B.bytes ⟨B.exec, B.bytes, hml, findClass_of_methodNamed B.named, hts⟩ hts (findClass_of_methodNamed B.named) hK hP hl (fun {v pc ls} hbz hpv hd => ?_)
  exact W.zret B.exec B.bytes B.returns (bz_nar hbz) (fun t ht hW => ⟨⟨v, (), rfl, ⟨hbz, hpv⟩, ht⟩, (va_S.rf (A := nF) (H0 := s.heap)).F ht⟩) (fun q h => nomatch h) hd B.notSynchronized
theorem mkRWi {l : Launch} {y : MethodName} {cc : ByteArray} {nL : Nat} {rm : Room} {D : va_G} {T : List (ClassId × FieldType)} {S : Type} {wc : va_W} {wf : S → va_W} {sz mc ms : Nat} {av : List Value} {post : Int32 → S → Prop} (hy : plainFor y = true) (hnl : (lg_sl av).length ≤ nL)
    (body : ∀ {p : Program} {e : Env} {s : State} {m : MethodId} {args : Array Value} {below : List Frame} {meth : Method} {c : Code} {Q : State → Prop} {ls : Array Slot} {A : Nat → Prop} {H0 H : Heap} {locs : List Loc}, p.tables.exec = Jvm.exec → c.code = cc → CallFix p m c cc nL s args wsT y.cls → (∀ w ∈ wsT, w.before args s = true) → s.vm.findClass y.cls = some m.cls → KK D T s → va_P D vwCl wc H → va_D A wc → va_S A H0 H locs → (∀ q, H0.size ≤ q → A q) → lv_has ls nL (lv_args 0 av) →
      (∀ {v : Int32} {u : S} {H : Heap} {locs : List Loc} {pc : Nat} {ls : Array Slot}, post v u → va_P D vwCl (wf u) H → va_D A (wf u) → va_S A H0 H locs → decode cc pc = .ok (.ireturn, 1) → W p l e rm s m args below meth c H locs mc ms Q (F0 m pc ls [.int v])) → W p l e rm s m args below meth c H locs 0 0 Q (F0 m 0 ls [])) :
    Met l y (wsA y cc nL (some .int)) rm (va_Pc av (rwP D T wc sz)) (va_Qi post (fun u t => va_P D vwCl (wf u) t.heap ∧ va_D (va_A wc sz) (wf u)) (va_A wc sz)) mc ms (va_A wc sz) := by
  refine va_MetF (cc := cc) (maxL := nL) (ret := some .int) hy rfl ?_
  intro p e s m args below meth c s₁ B hml hv
  obtain ⟨rfl, hsz, hP, hK, hD0⟩ := hv
  have hts : ∀ w ∈ wsT, w.before av.toArray s = true := fun w h => atoms_spec (ws := wsA y cc nL (some .int)) B.pre w (List.mem_cons_of_mem _ h)
  have hl := lv_entry av (n := nL) hnl
  rw [lg_entry_eq]
  subst hsz
  refine body (A := va_A wc s.heap.size) (H0 := s.heap) (H := s.heap) (locs := []) B.exec B.bytes ⟨B.exec, B.bytes, hml, findClass_of_methodNamed B.named, hts⟩ hts (findClass_of_methodNamed B.named) hK hP hD0.self va_S.rf (fun q h => Or.inr h) hl (fun {v u H locs pc ls} hpv hP1 hD1 hS hd => ?_)
  exact W.iret B.exec B.bytes B.returns (fun t ht hW => ⟨⟨v, u, rfl, hpv, by rw [ht]; exact hP1, hD1⟩, hS.F ht⟩) hS.2.2 hd B.notSynchronized
theorem mkRWz {l : Launch} {y : MethodName} {cc : ByteArray} {nL : Nat} {rm : Room} {D : va_G} {T : List (ClassId × FieldType)} {S : Type} {wc : va_W} {wf : S → va_W} {sz mc ms : Nat} {av : List Value} {post : Int32 → S → Prop} (hy : plainFor y = true) (hnl : (lg_sl av).length ≤ nL)
    (body : ∀ {p : Program} {e : Env} {s : State} {m : MethodId} {args : Array Value} {below : List Frame} {meth : Method} {c : Code} {Q : State → Prop} {ls : Array Slot} {A : Nat → Prop} {H0 H : Heap} {locs : List Loc}, p.tables.exec = Jvm.exec → c.code = cc → CallFix p m c cc nL s args wsT y.cls → (∀ w ∈ wsT, w.before args s = true) → s.vm.findClass y.cls = some m.cls → KK D T s → va_P D vwCl wc H → va_D A wc → va_S A H0 H locs → (∀ q, H0.size ≤ q → A q) → lv_has ls nL (lv_args 0 av) →
      (∀ {v : Int32} {u : S} {H : Heap} {locs : List Loc} {pc : Nat} {ls : Array Slot}, bz v → post v u → va_P D vwCl (wf u) H → va_D A (wf u) → va_S A H0 H locs → decode cc pc = .ok (.ireturn, 1) → W p l e rm s m args below meth c H locs mc ms Q (F0 m pc ls [.int v])) → W p l e rm s m args below meth c H locs 0 0 Q (F0 m 0 ls [])) :
    Met l y (wsA y cc nL (some .boolean)) rm (va_Pc av (rwP D T wc sz)) (va_Qi (fun r u => bz r ∧ post r u) (fun u t => va_P D vwCl (wf u) t.heap ∧ va_D (va_A wc sz) (wf u)) (va_A wc sz)) mc ms (va_A wc sz) := by
  refine va_MetF (cc := cc) (maxL := nL) (ret := some .boolean) hy rfl ?_
  intro p e s m args below meth c s₁ B hml hv
  obtain ⟨rfl, hsz, hP, hK, hD0⟩ := hv
  have hts : ∀ w ∈ wsT, w.before av.toArray s = true := fun w h => atoms_spec (ws := wsA y cc nL (some .boolean)) B.pre w (List.mem_cons_of_mem _ h)
  have hl := lv_entry av (n := nL) hnl
  rw [lg_entry_eq]
  subst hsz
  refine body (A := va_A wc s.heap.size) (H0 := s.heap) (H := s.heap) (locs := []) B.exec B.bytes ⟨B.exec, B.bytes, hml, findClass_of_methodNamed B.named, hts⟩ hts (findClass_of_methodNamed B.named) hK hP hD0.self va_S.rf (fun q h => Or.inr h) hl (fun {v u H locs pc ls} hbz hpv hP1 hD1 hS hd => ?_)
  exact W.zret B.exec B.bytes B.returns (bz_nar hbz) (fun t ht hW => ⟨⟨v, u, rfl, ⟨hbz, hpv⟩, by rw [ht]; exact hP1, hD1⟩, hS.F ht⟩) hS.2.2 hd B.notSynchronized
theorem mkRWv {l : Launch} {y : MethodName} {cc : ByteArray} {nL : Nat} {rm : Room} {D : va_G} {T : List (ClassId × FieldType)} {S : Type} {wc : va_W} {wf : S → va_W} {sz mc ms : Nat} {av : List Value} {post : S → Prop} (hy : plainFor y = true) (hnl : (lg_sl av).length ≤ nL)
    (body : ∀ {p : Program} {e : Env} {s : State} {m : MethodId} {args : Array Value} {below : List Frame} {meth : Method} {c : Code} {Q : State → Prop} {ls : Array Slot} {A : Nat → Prop} {H0 H : Heap} {locs : List Loc}, p.tables.exec = Jvm.exec → c.code = cc → CallFix p m c cc nL s args wsT y.cls → (∀ w ∈ wsT, w.before args s = true) → s.vm.findClass y.cls = some m.cls → (y.name = "<init>" → meth.name = "<init>") → KK D T s → va_P D vwCl wc H → va_D A wc → va_S A H0 H locs → (∀ q, H0.size ≤ q → A q) → lv_has ls nL (lv_args 0 av) →
      (∀ {u : S} {H : Heap} {locs : List Loc} {pc : Nat} {ls : Array Slot}, post u → va_P D vwCl (wf u) H → va_D A (wf u) → va_S A H0 H locs → decode cc pc = .ok (.return_, 1) → W p l e rm s m args below meth c H locs mc ms Q (F0 m pc ls [])) → W p l e rm s m args below meth c H locs 0 0 Q (F0 m 0 ls [])) :
    Met l y (wsA y cc nL none) rm (va_Pc av (rwP D T wc sz)) (va_Qv post (fun u t => va_P D vwCl (wf u) t.heap ∧ va_D (va_A wc sz) (wf u)) (va_A wc sz)) mc ms (va_A wc sz) := by
  refine va_MetF (cc := cc) (maxL := nL) (ret := none) hy rfl ?_
  intro p e s m args below meth c s₁ B hml hv
  obtain ⟨rfl, hsz, hP, hK, hD0⟩ := hv
  have hts : ∀ w ∈ wsT, w.before av.toArray s = true := fun w h => atoms_spec (ws := wsA y cc nL none) B.pre w (List.mem_cons_of_mem _ h)
  have hl := lv_entry av (n := nL) hnl
  rw [lg_entry_eq]
  subst hsz
  refine body (A := va_A wc s.heap.size) (H0 := s.heap) (H := s.heap) (locs := []) B.exec B.bytes ⟨B.exec, B.bytes, hml, findClass_of_methodNamed B.named, hts⟩ hts (findClass_of_methodNamed B.named) (fun hi => (name_of_methodNamed B.named B.method).1.trans hi) hK hP hD0.self va_S.rf (fun q h => Or.inr h) hl (fun {u H locs pc ls} hpv hP1 hD1 hS hd => ?_)
  exact W.vret B.exec B.bytes B.returns (fun t ht hW => ⟨⟨u, rfl, hpv, by rw [ht]; exact hP1, hD1⟩, hS.F ht⟩) hS.2.2 hd B.notSynchronized
theorem nw0 {D : va_G} {T : List (ClassId × FieldType)} {U : State} (h : KK D T U) : va_Nw (.methodLinkNest RX2 49 yX3_copyRow RX3) U := h.n 0 (q := (RX2, 49, yX3_copyRow)) rfl
theorem nw1 {D : va_G} {T : List (ClassId × FieldType)} {U : State} (h : KK D T U) : va_Nw (.methodLinkNest RX2 71 yX3_read RX3) U := h.n 1 (q := (RX2, 71, yX3_read)) rfl
theorem nw2 {D : va_G} {T : List (ClassId × FieldType)} {U : State} (h : KK D T U) : va_Nw (.methodLinkNest RX2 97 yX3_isBetween RX3) U := h.n 2 (q := (RX2, 97, yX3_isBetween)) rfl
theorem nw3 {D : va_G} {T : List (ClassId × FieldType)} {U : State} (h : KK D T U) : va_Nw (.methodLinkNest RX2 67 yX3_write RX3) U := h.n 3 (q := (RX2, 67, yX3_write)) rfl
theorem nw4 {D : va_G} {T : List (ClassId × FieldType)} {U : State} (h : KK D T U) : va_Nw (.methodLinkNest RX2 137 yX3_uncovered RX3) U := h.n 4 (q := (RX2, 137, yX3_uncovered)) rfl
theorem nw5 {D : va_G} {T : List (ClassId × FieldType)} {U : State} (h : KK D T U) : va_Nw (.methodLinkNest RX2 107 yX3_covered RX3) U := h.n 5 (q := (RX2, 107, yX3_covered)) rfl
end
section
/-! more ways to call and to end: a static method that answers nothing, one that answers a double; nothing is changed -/
section
variable {p : Program} {l : Launch} {e : Env} {R : Room} {s : State} {m : MethodId} {args : Array Value} {below : List Frame} {meth : Method} {c : Code} {H : Heap} {locs : List Loc} {cells slots : Nat} {Q : State → Prop} {D : va_G} {T : List (ClassId × FieldType)} {wc : va_W} {a : Array Value} {pc : Nat} {ls : Array Slot} {rest st0 : List Value}
variable {y : MethodName} {bytes cc : ByteArray} {maxL nL n index : Nat} {ret : Option FieldType} {rm : Room} {own C : String} {b : Addr} {As : List Value} {W9 : List Cond}
theorem ro_kv {post : Prop} (hr : va_Run p l e R s m args below meth c H locs cells slots 0 0 (F0 m pc ls st0) rest (va_Qv (fun (_ : Unit) => post) (fun _ t => t.heap = H) nF a) nF)
    (kk : post → W p l e R s m args below meth c H locs cells slots Q (F0 m (pc + 3) ls rest)) : W p l e R s m args below meth c H locs cells slots Q (F0 m pc ls st0) := by
  intro T hT X
  obtain ⟨v, st₀, t, T', L, h0, X', hL, e1, e2, ⟨⟨u, hv, hp, hb⟩, hF⟩, st⟩ := hr T hT X
  cases hv
  have hLn : L = [] := List.eq_nil_iff_forall_not_mem.mpr (fun q hq => hL q hq)
  subst hLn
  rw [List.append_nil, Nat.add_zero, Nat.add_zero] at X'
  obtain ⟨t2, a1, b1⟩ := kk hp T' (e1.trans hb) X'
  exact ⟨t2, st t2 a1, b1⟩
theorem ro_kd {post : UInt64 → Prop} (hr : va_Run p l e R s m args below meth c H locs cells slots 0 0 (F0 m pc ls st0) rest (va_Qd (fun r (_ : Unit) => post r) (fun _ t => t.heap = H) nF a) nF)
    (kk : ∀ r, post r → W p l e R s m args below meth c H locs cells slots Q (F0 m (pc + 3) ls (.double r :: rest))) : W p l e R s m args below meth c H locs cells slots Q (F0 m pc ls st0) := by
  intro T hT X
  obtain ⟨v, st₀, t, T', L, h0, X', hL, e1, e2, ⟨⟨r, u, hv, hp, hb⟩, hF⟩, st⟩ := hr T hT X
  cases hv
  have hLn : L = [] := List.eq_nil_iff_forall_not_mem.mpr (fun q hq => hL q hq)
  subst hLn
  rw [List.append_nil, Nat.add_zero, Nat.add_zero] at X'
  obtain ⟨t2, a1, b1⟩ := kk r hp T' (e1.trans hb) X'
  exact ⟨t2, st t2 a1, b1⟩
theorem roSv {post : Prop} (F : CallFix p m c cc nL s args wsT own) (hM : Met l y W9 rm (va_Pc As (roP D T wc H)) (va_Qv (fun (_ : Unit) => post) (fun _ t => t.heap = H) nF) 0 0 nF) (cw : CallB R s args own index y bytes maxL ret W9 rm 0 0 n ∧ (Cond.static y).before args s = true)
    (hK : KK D T s) (hP : va_P D vwCl wc H) (hn : As.length = n) (hsz : ls.size = nL) (hst : st0 = As.reverse ++ rest) (hW : (rest.map fun v => v.category).sum ≤ 8) (hdg : decode cc pc = .ok (.invokestatic index, 3)) (hf : cells ≤ R.cells ∧ slots ≤ R.slots)
    (kk : post → W p l e R s m args below meth c H locs cells slots Q (F0 m (pc + 3) ls rest)) : W p l e R s m args below meth c H locs cells slots Q (F0 m pc ls st0) :=
  ro_kv (va_runS F hM cw (preRO hK hP) rfl hn hsz hst (lv_room hW) hdg hf) kk
theorem roVd {post : UInt64 → Prop} (F : CallFix p m c cc nL s args wsT own) (hM : Met l y W9 rm (va_Pc (.ref b :: As) (roP D T wc H)) (va_Qd (fun r (_ : Unit) => post r) (fun _ t => t.heap = H) nF) 0 0 nF) (cw : CallW R s args own C index y bytes maxL ret W9 rm 0 0 n)
    (hK : KK D T s) (hP : va_P D vwCl wc H) (hr : ∃ cell : Cell, H[b]? = some cell ∧ cell.vm.isStatics = false ∧ s.vm.findClass C = some cell.cls) (hn : As.length = n) (hsz : ls.size = nL) (hst : st0 = As.reverse ++ .ref b :: rest) (hW : (rest.map fun v => v.category).sum ≤ 8) (hdg : decode cc pc = .ok (.invokevirtual index, 3)) (hf : cells ≤ R.cells ∧ slots ≤ R.slots)
    (kk : ∀ r, post r → W p l e R s m args below meth c H locs cells slots Q (F0 m (pc + 3) ls (.double r :: rest))) : W p l e R s m args below meth c H locs cells slots Q (F0 m pc ls st0) :=
  ro_kd (va_runV F hM cw ⟨blindRO, hr, (preRO hK hP).2⟩ rfl hn hsz hst (lv_room hW) hdg hf) kk
end
theorem mkROv {l : Launch} {y : MethodName} {cc : ByteArray} {nL : Nat} {rm : Room} {D : va_G} {T : List (ClassId × FieldType)} {wc : va_W} {H0 : Heap} {av : List Value} {post : Prop} (hy : plainFor y = true) (hnl : (lg_sl av).length ≤ nL)
    (body : ∀ {p : Program} {e : Env} {s : State} {m : MethodId} {args : Array Value} {below : List Frame} {meth : Method} {c : Code} {Q : State → Prop} {ls : Array Slot}, p.tables.exec = Jvm.exec → c.code = cc → CallFix p m c cc nL s args wsT y.cls → (∀ w ∈ wsT, w.before args s = true) → s.vm.findClass y.cls = some m.cls → KK D T s → va_P D vwCl wc H0 → lv_has ls nL (lv_args 0 av) →
      (∀ {pc : Nat} {ls : Array Slot}, post → decode cc pc = .ok (.return_, 1) → W p l e rm s m args below meth c H0 [] 0 0 Q (F0 m pc ls [])) → W p l e rm s m args below meth c H0 [] 0 0 Q (F0 m 0 ls [])) :
    Met l y (wsA y cc nL none) rm (va_Pc av (roP D T wc H0)) (va_Qv (fun (_ : Unit) => post) (fun _ t => t.heap = H0) nF) 0 0 nF := by
  refine va_MetF (cc := cc) (maxL := nL) (ret := none) hy rfl ?_
  intro p e s m args below meth c s₁ B hml hv
  obtain ⟨rfl, hH, hP, hK⟩ := hv
  have hts : ∀ w ∈ wsT, w.before av.toArray s = true := fun w h => atoms_spec (ws := wsA y cc nL none) B.pre w (List.mem_cons_of_mem _ h)
  have hl := lv_entry av (n := nL) hnl
  rw [lg_entry_eq]
  subst hH
  refine body B.exec B.bytes ⟨B.exec, B.bytes, hml, findClass_of_methodNamed B.named, hts⟩ hts (findClass_of_methodNamed B.named) hK hP hl (fun {pc ls} hpv hd => ?_)
  exact W.vret B.exec B.bytes B.returns (fun t ht hW => ⟨⟨(), rfl, hpv, ht⟩, (va_S.rf (A := nF) (H0 := s.heap)).F ht⟩) (fun q h => nomatch h) hd B.notSynchronized
theorem mkROd {l : Launch} {y : MethodName} {cc : ByteArray} {nL : Nat} {rm : Room} {D : va_G} {T : List (ClassId × FieldType)} {wc : va_W} {H0 : Heap} {av : List Value} {post : UInt64 → Prop} (hy : plainFor y = true) (hnl : (lg_sl av).length ≤ nL)
    (body : ∀ {p : Program} {e : Env} {s : State} {m : MethodId} {args : Array Value} {below : List Frame} {meth : Method} {c : Code} {Q : State → Prop} {ls : Array Slot}, p.tables.exec = Jvm.exec → c.code = cc → CallFix p m c cc nL s args wsT y.cls → (∀ w ∈ wsT, w.before args s = true) → s.vm.findClass y.cls = some m.cls → KK D T s → va_P D vwCl wc H0 → lv_has ls nL (lv_args 0 av) →
      (∀ {v : UInt64} {pc : Nat} {ls : Array Slot}, post v → decode cc pc = .ok (.dreturn, 1) → W p l e rm s m args below meth c H0 [] 0 0 Q (F0 m pc ls [.double v])) → W p l e rm s m args below meth c H0 [] 0 0 Q (F0 m 0 ls [])) :
    Met l y (wsA y cc nL (some .double)) rm (va_Pc av (roP D T wc H0)) (va_Qd (fun r (_ : Unit) => post r) (fun _ t => t.heap = H0) nF) 0 0 nF := by
  refine va_MetF (cc := cc) (maxL := nL) (ret := some .double) hy rfl ?_
  intro p e s m args below meth c s₁ B hml hv
  obtain ⟨rfl, hH, hP, hK⟩ := hv
  have hts : ∀ w ∈ wsT, w.before av.toArray s = true := fun w h => atoms_spec (ws := wsA y cc nL (some .double)) B.pre w (List.mem_cons_of_mem _ h)
  have hl := lv_entry av (n := nL) hnl
  rw [lg_entry_eq]
  subst hH
  refine body B.exec B.bytes ⟨B.exec, B.bytes, hml, findClass_of_methodNamed B.named, hts⟩ hts (findClass_of_methodNamed B.named) hK hP hl (fun {v pc ls} hpv hd => ?_)
  exact W.dret B.exec B.bytes B.returns (fun t ht hW => ⟨⟨v, (), rfl, hpv, ht⟩, (va_S.rf (A := nF) (H0 := s.heap)).F ht⟩) (fun q h => nomatch h) hd B.notSynchronized
end
section
/-! worlds: what a State, an OrderText, a Model hold, and where -/
abbrev St : Type := Int32 × (Nat → Int32) × Int32 × (Nat → Int32) × (Nat → Int32) × (Nat → Int32) × Int32 × (Nat → Int32) × (Nat → Int32) × (Nat → Int32) × Int32 × (Nat → Int32)
abbrev S_openMask (u : St) : Int32 := u.1
abbrev S_keys (u : St) : (Nat → Int32) := u.2.1
abbrev S_roadCount (u : St) : Int32 := u.2.2.1
abbrev S_roadInns (u : St) : (Nat → Int32) := u.2.2.2.1
abbrev S_roadKeys (u : St) : (Nat → Int32) := u.2.2.2.2.1
abbrev S_roadHalls (u : St) : (Nat → Int32) := u.2.2.2.2.2.1
abbrev S_envelopeCount (u : St) : Int32 := u.2.2.2.2.2.2.1
abbrev S_envelopeNumbers (u : St) : (Nat → Int32) := u.2.2.2.2.2.2.2.1
abbrev S_letters (u : St) : (Nat → Int32) := u.2.2.2.2.2.2.2.2.1
abbrev S_answerRoads (u : St) : (Nat → Int32) := u.2.2.2.2.2.2.2.2.2.1
abbrev S_answerGot (u : St) : Int32 := u.2.2.2.2.2.2.2.2.2.2.1
abbrev S_counts (u : St) : (Nat → Int32) := u.2.2.2.2.2.2.2.2.2.2.2
abbrev sS_openMask (u : St) (x : Int32) : St := (x, S_keys u, S_roadCount u, S_roadInns u, S_roadKeys u, S_roadHalls u, S_envelopeCount u, S_envelopeNumbers u, S_letters u, S_answerRoads u, S_answerGot u, S_counts u)
abbrev aS_keys (u : St) (f : Nat → Int32) : St := (S_openMask u, f, S_roadCount u, S_roadInns u, S_roadKeys u, S_roadHalls u, S_envelopeCount u, S_envelopeNumbers u, S_letters u, S_answerRoads u, S_answerGot u, S_counts u)
abbrev wS_keys (u : St) (k : Nat) (x : Int32) : St := (S_openMask u, upd (S_keys u) k x, S_roadCount u, S_roadInns u, S_roadKeys u, S_roadHalls u, S_envelopeCount u, S_envelopeNumbers u, S_letters u, S_answerRoads u, S_answerGot u, S_counts u)
abbrev sS_roadCount (u : St) (x : Int32) : St := (S_openMask u, S_keys u, x, S_roadInns u, S_roadKeys u, S_roadHalls u, S_envelopeCount u, S_envelopeNumbers u, S_letters u, S_answerRoads u, S_answerGot u, S_counts u)
abbrev aS_roadInns (u : St) (f : Nat → Int32) : St := (S_openMask u, S_keys u, S_roadCount u, f, S_roadKeys u, S_roadHalls u, S_envelopeCount u, S_envelopeNumbers u, S_letters u, S_answerRoads u, S_answerGot u, S_counts u)
abbrev wS_roadInns (u : St) (k : Nat) (x : Int32) : St := (S_openMask u, S_keys u, S_roadCount u, upd (S_roadInns u) k x, S_roadKeys u, S_roadHalls u, S_envelopeCount u, S_envelopeNumbers u, S_letters u, S_answerRoads u, S_answerGot u, S_counts u)
abbrev aS_roadKeys (u : St) (f : Nat → Int32) : St := (S_openMask u, S_keys u, S_roadCount u, S_roadInns u, f, S_roadHalls u, S_envelopeCount u, S_envelopeNumbers u, S_letters u, S_answerRoads u, S_answerGot u, S_counts u)
abbrev wS_roadKeys (u : St) (k : Nat) (x : Int32) : St := (S_openMask u, S_keys u, S_roadCount u, S_roadInns u, upd (S_roadKeys u) k x, S_roadHalls u, S_envelopeCount u, S_envelopeNumbers u, S_letters u, S_answerRoads u, S_answerGot u, S_counts u)
abbrev aS_roadHalls (u : St) (f : Nat → Int32) : St := (S_openMask u, S_keys u, S_roadCount u, S_roadInns u, S_roadKeys u, f, S_envelopeCount u, S_envelopeNumbers u, S_letters u, S_answerRoads u, S_answerGot u, S_counts u)
abbrev wS_roadHalls (u : St) (k : Nat) (x : Int32) : St := (S_openMask u, S_keys u, S_roadCount u, S_roadInns u, S_roadKeys u, upd (S_roadHalls u) k x, S_envelopeCount u, S_envelopeNumbers u, S_letters u, S_answerRoads u, S_answerGot u, S_counts u)
abbrev sS_envelopeCount (u : St) (x : Int32) : St := (S_openMask u, S_keys u, S_roadCount u, S_roadInns u, S_roadKeys u, S_roadHalls u, x, S_envelopeNumbers u, S_letters u, S_answerRoads u, S_answerGot u, S_counts u)
abbrev aS_envelopeNumbers (u : St) (f : Nat → Int32) : St := (S_openMask u, S_keys u, S_roadCount u, S_roadInns u, S_roadKeys u, S_roadHalls u, S_envelopeCount u, f, S_letters u, S_answerRoads u, S_answerGot u, S_counts u)
abbrev wS_envelopeNumbers (u : St) (k : Nat) (x : Int32) : St := (S_openMask u, S_keys u, S_roadCount u, S_roadInns u, S_roadKeys u, S_roadHalls u, S_envelopeCount u, upd (S_envelopeNumbers u) k x, S_letters u, S_answerRoads u, S_answerGot u, S_counts u)
abbrev aS_letters (u : St) (f : Nat → Int32) : St := (S_openMask u, S_keys u, S_roadCount u, S_roadInns u, S_roadKeys u, S_roadHalls u, S_envelopeCount u, S_envelopeNumbers u, f, S_answerRoads u, S_answerGot u, S_counts u)
abbrev wS_letters (u : St) (k : Nat) (x : Int32) : St := (S_openMask u, S_keys u, S_roadCount u, S_roadInns u, S_roadKeys u, S_roadHalls u, S_envelopeCount u, S_envelopeNumbers u, upd (S_letters u) k x, S_answerRoads u, S_answerGot u, S_counts u)
abbrev aS_answerRoads (u : St) (f : Nat → Int32) : St := (S_openMask u, S_keys u, S_roadCount u, S_roadInns u, S_roadKeys u, S_roadHalls u, S_envelopeCount u, S_envelopeNumbers u, S_letters u, f, S_answerGot u, S_counts u)
abbrev wS_answerRoads (u : St) (k : Nat) (x : Int32) : St := (S_openMask u, S_keys u, S_roadCount u, S_roadInns u, S_roadKeys u, S_roadHalls u, S_envelopeCount u, S_envelopeNumbers u, S_letters u, upd (S_answerRoads u) k x, S_answerGot u, S_counts u)
abbrev sS_answerGot (u : St) (x : Int32) : St := (S_openMask u, S_keys u, S_roadCount u, S_roadInns u, S_roadKeys u, S_roadHalls u, S_envelopeCount u, S_envelopeNumbers u, S_letters u, S_answerRoads u, x, S_counts u)
abbrev aS_counts (u : St) (f : Nat → Int32) : St := (S_openMask u, S_keys u, S_roadCount u, S_roadInns u, S_roadKeys u, S_roadHalls u, S_envelopeCount u, S_envelopeNumbers u, S_letters u, S_answerRoads u, S_answerGot u, f)
abbrev wS_counts (u : St) (k : Nat) (x : Int32) : St := (S_openMask u, S_keys u, S_roadCount u, S_roadInns u, S_roadKeys u, S_roadHalls u, S_envelopeCount u, S_envelopeNumbers u, S_letters u, S_answerRoads u, S_answerGot u, upd (S_counts u) k x)
def stW (cI : ClassId) (a : Nat → Nat) (u : St) : va_W := [(a 0, .inr (2, [.int (S_openMask u), .ref (a 1), .int (S_roadCount u), .ref (a 2), .ref (a 3), .ref (a 4), .int (S_envelopeCount u), .ref (a 5), .ref (a 6), .ref (a 7), .int (S_answerGot u), .ref (a 8)])), (a 1, .inl (cI, 8, .inl (S_keys u))), (a 2, .inl (cI, 18, .inl (S_roadInns u))), (a 3, .inl (cI, 18, .inl (S_roadKeys u))), (a 4, .inl (cI, 6, .inl (S_roadHalls u))), (a 5, .inl (cI, 48, .inl (S_envelopeNumbers u))), (a 6, .inl (cI, 4, .inl (S_letters u))), (a 7, .inl (cI, 4, .inl (S_answerRoads u))), (a 8, .inl (cI, 5, .inl (S_counts u)))]
abbrev Ot : Type := (Nat → Int32) × Int32
abbrev O_codes (u : Ot) : (Nat → Int32) := u.1
abbrev O_length (u : Ot) : Int32 := u.2
abbrev aO_codes (u : Ot) (f : Nat → Int32) : Ot := (f, O_length u)
abbrev wO_codes (u : Ot) (k : Nat) (x : Int32) : Ot := (upd (O_codes u) k x, O_length u)
abbrev sO_length (u : Ot) (x : Int32) : Ot := (O_codes u, x)
def otW (cI : ClassId) (a : Nat → Nat) (u : Ot) : va_W := [(a 0, .inr (0, [.ref (a 1), .int (O_length u)])), (a 1, .inl (cI, 60, .inl (O_codes u)))]
theorem inT0 : ∀ w ∈ u_ws RX0 TX0 2, w ∈ wsT := fun w h => List.mem_filter.mpr ⟨(by decide +kernel : ∀ w ∈ u_ws RX0 TX0 2, w ∈ lw_tbl) w h, (by decide +kernel : ∀ w ∈ u_ws RX0 TX0 2, goodWord w = true) w h⟩
theorem inT1 : ∀ w ∈ u_ws RX1 TX1 3, w ∈ wsT := fun w h => List.mem_filter.mpr ⟨(by decide +kernel : ∀ w ∈ u_ws RX1 TX1 3, w ∈ lw_tbl) w h, (by decide +kernel : ∀ w ∈ u_ws RX1 TX1 3, goodWord w = true) w h⟩
theorem inT2 : ∀ w ∈ u_ws RX2 TX2 12, w ∈ wsT := fun w h => List.mem_filter.mpr ⟨(by decide +kernel : ∀ w ∈ u_ws RX2 TX2 12, w ∈ lw_tbl) w h, (by decide +kernel : ∀ w ∈ u_ws RX2 TX2 12, goodWord w = true) w h⟩
theorem inT3 : ∀ w ∈ u_ws RX3 TX3 3, w ∈ wsT := fun w h => List.mem_filter.mpr ⟨(by decide +kernel : ∀ w ∈ u_ws RX3 TX3 3, w ∈ lw_tbl) w h, (by decide +kernel : ∀ w ∈ u_ws RX3 TX3 3, goodWord w = true) w h⟩
/-- a place where ways meet -/
def jn {γ : Type} (K : γ) (B : γ → Prop) : Prop := B K
theorem jn_e {γ : Type} {K : γ} {B : γ → Prop} {G : Prop} (h : jn K B) (k : ∀ J : γ, J = K → B J → G) : G := k K rfl h
/-- a loop: its body, n times at most -/
def lpc {γ : Type} (bot : γ) (body : γ → γ) : Nat → γ
  | 0 => bot
  | n + 1 => body (lpc bot body n)
theorem lp_e {γ : Type} {bot : γ} {body : γ → γ} (P : γ → Prop) (h0 : P bot) (hs : ∀ K, P K → P (body K)) : ∀ n, P (lpc bot body n)
  | 0 => h0
  | n + 1 => hs _ (lp_e P h0 hs n)
def LP1 {A1 : Type} (body : (A1 → Prop) → A1 → Prop) (x1 : A1) : Prop := ∃ n, lpc (fun _ => False) body n x1
theorem lpu1 {A1 : Type} {body : (A1 → Prop) → A1 → Prop} {x1 : A1} {G : Prop} (h : LP1 body x1) (P : (A1 → Prop) → Prop) (h0 : P (fun _ => False)) (hs : ∀ K, P K → P (body K)) (hG : ∀ K, P K → K x1 → G) : G := by
  obtain ⟨n, h⟩ := h
  exact hG _ (lp_e P h0 hs n) h
theorem lpi1 {A1 : Type} {body : (A1 → Prop) → A1 → Prop} (I : A1 → Prop) (μ : A1 → Nat) (hs : ∀ (K : A1 → Prop) (x1 : A1), I x1 → (∀ (y1 : A1), I y1 → μ y1 < μ x1 → K y1) → body K x1) (x1 : A1) (h : I x1) : LP1 body x1 := by
  have key : ∀ (n : Nat) (x1 : A1), I x1 → μ x1 < n → lpc (fun _ => False) body n x1 := by
    intro n
    induction n with
    | zero => intro x1 _ hm; exact absurd hm (Nat.not_lt_zero _)
    | succ n ih => intro x1 hi hm; exact hs _ x1 hi (fun y1 hj hlt => ih y1 hj (by omega))
  exact ⟨_, key _ x1 h (Nat.lt_succ_self _)⟩
def LP2 {A1 A2 : Type} (body : (A1 → A2 → Prop) → A1 → A2 → Prop) (x1 : A1) (x2 : A2) : Prop := ∃ n, lpc (fun _ _ => False) body n x1 x2
theorem lpu2 {A1 A2 : Type} {body : (A1 → A2 → Prop) → A1 → A2 → Prop} {x1 : A1} {x2 : A2} {G : Prop} (h : LP2 body x1 x2) (P : (A1 → A2 → Prop) → Prop) (h0 : P (fun _ _ => False)) (hs : ∀ K, P K → P (body K)) (hG : ∀ K, P K → K x1 x2 → G) : G := by
  obtain ⟨n, h⟩ := h
  exact hG _ (lp_e P h0 hs n) h
theorem lpi2 {A1 A2 : Type} {body : (A1 → A2 → Prop) → A1 → A2 → Prop} (I : A1 → A2 → Prop) (μ : A1 → A2 → Nat) (hs : ∀ (K : A1 → A2 → Prop) (x1 : A1) (x2 : A2), I x1 x2 → (∀ (y1 : A1) (y2 : A2), I y1 y2 → μ y1 y2 < μ x1 x2 → K y1 y2) → body K x1 x2) (x1 : A1) (x2 : A2) (h : I x1 x2) : LP2 body x1 x2 := by
  have key : ∀ (n : Nat) (x1 : A1) (x2 : A2), I x1 x2 → μ x1 x2 < n → lpc (fun _ _ => False) body n x1 x2 := by
    intro n
    induction n with
    | zero => intro x1 x2 _ hm; exact absurd hm (Nat.not_lt_zero _)
    | succ n ih => intro x1 x2 hi hm; exact hs _ x1 x2 hi (fun y1 y2 hj hlt => ih y1 y2 hj (by omega))
  exact ⟨_, key _ x1 x2 h (Nat.lt_succ_self _)⟩
def LP3 {A1 A2 A3 : Type} (body : (A1 → A2 → A3 → Prop) → A1 → A2 → A3 → Prop) (x1 : A1) (x2 : A2) (x3 : A3) : Prop := ∃ n, lpc (fun _ _ _ => False) body n x1 x2 x3
theorem lpu3 {A1 A2 A3 : Type} {body : (A1 → A2 → A3 → Prop) → A1 → A2 → A3 → Prop} {x1 : A1} {x2 : A2} {x3 : A3} {G : Prop} (h : LP3 body x1 x2 x3) (P : (A1 → A2 → A3 → Prop) → Prop) (h0 : P (fun _ _ _ => False)) (hs : ∀ K, P K → P (body K)) (hG : ∀ K, P K → K x1 x2 x3 → G) : G := by
  obtain ⟨n, h⟩ := h
  exact hG _ (lp_e P h0 hs n) h
theorem lpi3 {A1 A2 A3 : Type} {body : (A1 → A2 → A3 → Prop) → A1 → A2 → A3 → Prop} (I : A1 → A2 → A3 → Prop) (μ : A1 → A2 → A3 → Nat) (hs : ∀ (K : A1 → A2 → A3 → Prop) (x1 : A1) (x2 : A2) (x3 : A3), I x1 x2 x3 → (∀ (y1 : A1) (y2 : A2) (y3 : A3), I y1 y2 y3 → μ y1 y2 y3 < μ x1 x2 x3 → K y1 y2 y3) → body K x1 x2 x3) (x1 : A1) (x2 : A2) (x3 : A3) (h : I x1 x2 x3) : LP3 body x1 x2 x3 := by
  have key : ∀ (n : Nat) (x1 : A1) (x2 : A2) (x3 : A3), I x1 x2 x3 → μ x1 x2 x3 < n → lpc (fun _ _ _ => False) body n x1 x2 x3 := by
    intro n
    induction n with
    | zero => intro x1 x2 x3 _ hm; exact absurd hm (Nat.not_lt_zero _)
    | succ n ih => intro x1 x2 x3 hi hm; exact hs _ x1 x2 x3 hi (fun y1 y2 y3 hj hlt => ih y1 y2 y3 hj (by omega))
  exact ⟨_, key _ x1 x2 x3 h (Nat.lt_succ_self _)⟩
def LP4 {A1 A2 A3 A4 : Type} (body : (A1 → A2 → A3 → A4 → Prop) → A1 → A2 → A3 → A4 → Prop) (x1 : A1) (x2 : A2) (x3 : A3) (x4 : A4) : Prop := ∃ n, lpc (fun _ _ _ _ => False) body n x1 x2 x3 x4
theorem lpu4 {A1 A2 A3 A4 : Type} {body : (A1 → A2 → A3 → A4 → Prop) → A1 → A2 → A3 → A4 → Prop} {x1 : A1} {x2 : A2} {x3 : A3} {x4 : A4} {G : Prop} (h : LP4 body x1 x2 x3 x4) (P : (A1 → A2 → A3 → A4 → Prop) → Prop) (h0 : P (fun _ _ _ _ => False)) (hs : ∀ K, P K → P (body K)) (hG : ∀ K, P K → K x1 x2 x3 x4 → G) : G := by
  obtain ⟨n, h⟩ := h
  exact hG _ (lp_e P h0 hs n) h
theorem lpi4 {A1 A2 A3 A4 : Type} {body : (A1 → A2 → A3 → A4 → Prop) → A1 → A2 → A3 → A4 → Prop} (I : A1 → A2 → A3 → A4 → Prop) (μ : A1 → A2 → A3 → A4 → Nat) (hs : ∀ (K : A1 → A2 → A3 → A4 → Prop) (x1 : A1) (x2 : A2) (x3 : A3) (x4 : A4), I x1 x2 x3 x4 → (∀ (y1 : A1) (y2 : A2) (y3 : A3) (y4 : A4), I y1 y2 y3 y4 → μ y1 y2 y3 y4 < μ x1 x2 x3 x4 → K y1 y2 y3 y4) → body K x1 x2 x3 x4) (x1 : A1) (x2 : A2) (x3 : A3) (x4 : A4) (h : I x1 x2 x3 x4) : LP4 body x1 x2 x3 x4 := by
  have key : ∀ (n : Nat) (x1 : A1) (x2 : A2) (x3 : A3) (x4 : A4), I x1 x2 x3 x4 → μ x1 x2 x3 x4 < n → lpc (fun _ _ _ _ => False) body n x1 x2 x3 x4 := by
    intro n
    induction n with
    | zero => intro x1 x2 x3 x4 _ hm; exact absurd hm (Nat.not_lt_zero _)
    | succ n ih => intro x1 x2 x3 x4 hi hm; exact hs _ x1 x2 x3 x4 hi (fun y1 y2 y3 y4 hj hlt => ih y1 y2 y3 y4 hj (by omega))
  exact ⟨_, key _ x1 x2 x3 x4 h (Nat.lt_succ_self _)⟩
def LP5 {A1 A2 A3 A4 A5 : Type} (body : (A1 → A2 → A3 → A4 → A5 → Prop) → A1 → A2 → A3 → A4 → A5 → Prop) (x1 : A1) (x2 : A2) (x3 : A3) (x4 : A4) (x5 : A5) : Prop := ∃ n, lpc (fun _ _ _ _ _ => False) body n x1 x2 x3 x4 x5
theorem lpu5 {A1 A2 A3 A4 A5 : Type} {body : (A1 → A2 → A3 → A4 → A5 → Prop) → A1 → A2 → A3 → A4 → A5 → Prop} {x1 : A1} {x2 : A2} {x3 : A3} {x4 : A4} {x5 : A5} {G : Prop} (h : LP5 body x1 x2 x3 x4 x5) (P : (A1 → A2 → A3 → A4 → A5 → Prop) → Prop) (h0 : P (fun _ _ _ _ _ => False)) (hs : ∀ K, P K → P (body K)) (hG : ∀ K, P K → K x1 x2 x3 x4 x5 → G) : G := by
  obtain ⟨n, h⟩ := h
  exact hG _ (lp_e P h0 hs n) h
theorem lpi5 {A1 A2 A3 A4 A5 : Type} {body : (A1 → A2 → A3 → A4 → A5 → Prop) → A1 → A2 → A3 → A4 → A5 → Prop} (I : A1 → A2 → A3 → A4 → A5 → Prop) (μ : A1 → A2 → A3 → A4 → A5 → Nat) (hs : ∀ (K : A1 → A2 → A3 → A4 → A5 → Prop) (x1 : A1) (x2 : A2) (x3 : A3) (x4 : A4) (x5 : A5), I x1 x2 x3 x4 x5 → (∀ (y1 : A1) (y2 : A2) (y3 : A3) (y4 : A4) (y5 : A5), I y1 y2 y3 y4 y5 → μ y1 y2 y3 y4 y5 < μ x1 x2 x3 x4 x5 → K y1 y2 y3 y4 y5) → body K x1 x2 x3 x4 x5) (x1 : A1) (x2 : A2) (x3 : A3) (x4 : A4) (x5 : A5) (h : I x1 x2 x3 x4 x5) : LP5 body x1 x2 x3 x4 x5 := by
  have key : ∀ (n : Nat) (x1 : A1) (x2 : A2) (x3 : A3) (x4 : A4) (x5 : A5), I x1 x2 x3 x4 x5 → μ x1 x2 x3 x4 x5 < n → lpc (fun _ _ _ _ _ => False) body n x1 x2 x3 x4 x5 := by
    intro n
    induction n with
    | zero => intro x1 x2 x3 x4 x5 _ hm; exact absurd hm (Nat.not_lt_zero _)
    | succ n ih => intro x1 x2 x3 x4 x5 hi hm; exact hs _ x1 x2 x3 x4 x5 hi (fun y1 y2 y3 y4 y5 hj hlt => ih y1 y2 y3 y4 y5 hj (by omega))
  exact ⟨_, key _ x1 x2 x3 x4 x5 h (Nat.lt_succ_self _)⟩
def LP6 {A1 A2 A3 A4 A5 A6 : Type} (body : (A1 → A2 → A3 → A4 → A5 → A6 → Prop) → A1 → A2 → A3 → A4 → A5 → A6 → Prop) (x1 : A1) (x2 : A2) (x3 : A3) (x4 : A4) (x5 : A5) (x6 : A6) : Prop := ∃ n, lpc (fun _ _ _ _ _ _ => False) body n x1 x2 x3 x4 x5 x6
theorem lpu6 {A1 A2 A3 A4 A5 A6 : Type} {body : (A1 → A2 → A3 → A4 → A5 → A6 → Prop) → A1 → A2 → A3 → A4 → A5 → A6 → Prop} {x1 : A1} {x2 : A2} {x3 : A3} {x4 : A4} {x5 : A5} {x6 : A6} {G : Prop} (h : LP6 body x1 x2 x3 x4 x5 x6) (P : (A1 → A2 → A3 → A4 → A5 → A6 → Prop) → Prop) (h0 : P (fun _ _ _ _ _ _ => False)) (hs : ∀ K, P K → P (body K)) (hG : ∀ K, P K → K x1 x2 x3 x4 x5 x6 → G) : G := by
  obtain ⟨n, h⟩ := h
  exact hG _ (lp_e P h0 hs n) h
theorem lpi6 {A1 A2 A3 A4 A5 A6 : Type} {body : (A1 → A2 → A3 → A4 → A5 → A6 → Prop) → A1 → A2 → A3 → A4 → A5 → A6 → Prop} (I : A1 → A2 → A3 → A4 → A5 → A6 → Prop) (μ : A1 → A2 → A3 → A4 → A5 → A6 → Nat) (hs : ∀ (K : A1 → A2 → A3 → A4 → A5 → A6 → Prop) (x1 : A1) (x2 : A2) (x3 : A3) (x4 : A4) (x5 : A5) (x6 : A6), I x1 x2 x3 x4 x5 x6 → (∀ (y1 : A1) (y2 : A2) (y3 : A3) (y4 : A4) (y5 : A5) (y6 : A6), I y1 y2 y3 y4 y5 y6 → μ y1 y2 y3 y4 y5 y6 < μ x1 x2 x3 x4 x5 x6 → K y1 y2 y3 y4 y5 y6) → body K x1 x2 x3 x4 x5 x6) (x1 : A1) (x2 : A2) (x3 : A3) (x4 : A4) (x5 : A5) (x6 : A6) (h : I x1 x2 x3 x4 x5 x6) : LP6 body x1 x2 x3 x4 x5 x6 := by
  have key : ∀ (n : Nat) (x1 : A1) (x2 : A2) (x3 : A3) (x4 : A4) (x5 : A5) (x6 : A6), I x1 x2 x3 x4 x5 x6 → μ x1 x2 x3 x4 x5 x6 < n → lpc (fun _ _ _ _ _ _ => False) body n x1 x2 x3 x4 x5 x6 := by
    intro n
    induction n with
    | zero => intro x1 x2 x3 x4 x5 x6 _ hm; exact absurd hm (Nat.not_lt_zero _)
    | succ n ih => intro x1 x2 x3 x4 x5 x6 hi hm; exact hs _ x1 x2 x3 x4 x5 x6 hi (fun y1 y2 y3 y4 y5 y6 hj hlt => ih y1 y2 y3 y4 y5 y6 hj (by omega))
  exact ⟨_, key _ x1 x2 x3 x4 x5 x6 h (Nat.lt_succ_self _)⟩
section
variable {p : Program} {l : Launch} {e : Env} {R : Room} {s : State} {m : MethodId} {args : Array Value} {below : List Frame} {meth : Method} {c : Code} {H H0 : Heap} {locs : List Loc} {cells slots : Nat} {Q : State → Prop} {A : Nat → Prop} {D : va_G} {T : List (ClassId × FieldType)} {wc : va_W} {pc : Nat} {ls : Array Slot} {rest st0 : List Value}
variable {y : MethodName} {bytes cc : ByteArray} {maxL nL n index : Nat} {ret : Option FieldType} {rm : Room} {own C : String} {b : Addr} {As : List Value} {W9 : List Cond}
theorem perm0 {α : Type} {w : List α} : w.Perm (w ++ []) := by rw [List.append_nil]
theorem rwVi0 {S : Type} {post : Int32 → S → Prop} {wf : S → va_W} {mc ms : Nat} (F : CallFix p m c cc nL s args wsT own) (hM : Met l y W9 rm (va_Pc (.ref b :: As) (rwP D T wc H.size)) (va_Qi post (fun u t => va_P D vwCl (wf u) t.heap ∧ va_D (va_A wc H.size) (wf u)) (va_A wc H.size)) mc ms (va_A wc H.size)) (cw : CallW R s args own C index y bytes maxL ret W9 rm mc ms n)
    (hK : KK D T s) (hP : va_P D vwCl wc H) (hD : va_D A wc) (hS : va_S A H0 H locs) (hA : ∀ q, H0.size ≤ q → A q) (hr : ∃ cell : Cell, H[b]? = some cell ∧ cell.vm.isStatics = false ∧ s.vm.findClass C = some cell.cls) (hn : As.length = n) (hsz : ls.size = nL) (hst : st0 = As.reverse ++ .ref b :: rest) (hW : (rest.map fun v => v.category).sum ≤ 8) (hdg : decode cc pc = .ok (.invokevirtual index, 3)) (hf : cells + mc ≤ R.cells ∧ slots + ms ≤ R.slots)
    (kk : ∀ r u H1 locs1, post r u → va_P D vwCl (wf u) H1 → va_D A (wf u) → va_S A H0 H1 locs1 → W p l e R s m args below meth c H1 locs1 (cells + mc) (slots + ms) Q (F0 m (pc + 3) ls (.int r :: rest))) : W p l e R s m args below meth c H locs cells slots Q (F0 m pc ls st0) :=
  rwVi perm0 F hM cw hK hP hD hS hA hr hn hsz hst hW hdg hf (fun r u H1 locs1 h1 h2 h3 h4 => kk r u H1 locs1 h1 (by rw [List.append_nil] at h2; exact h2) (by rw [List.append_nil] at h3; exact h3) h4)
theorem rwVv0 {S : Type} {post : S → Prop} {wf : S → va_W} {mc ms : Nat} (F : CallFix p m c cc nL s args wsT own) (hM : Met l y W9 rm (va_Pc (.ref b :: As) (rwP D T wc H.size)) (va_Qv post (fun u t => va_P D vwCl (wf u) t.heap ∧ va_D (va_A wc H.size) (wf u)) (va_A wc H.size)) mc ms (va_A wc H.size)) (cw : CallW R s args own C index y bytes maxL ret W9 rm mc ms n)
    (hK : KK D T s) (hP : va_P D vwCl wc H) (hD : va_D A wc) (hS : va_S A H0 H locs) (hA : ∀ q, H0.size ≤ q → A q) (hr : ∃ cell : Cell, H[b]? = some cell ∧ cell.vm.isStatics = false ∧ s.vm.findClass C = some cell.cls) (hn : As.length = n) (hsz : ls.size = nL) (hst : st0 = As.reverse ++ .ref b :: rest) (hW : (rest.map fun v => v.category).sum ≤ 8) (hdg : decode cc pc = .ok (.invokevirtual index, 3)) (hf : cells + mc ≤ R.cells ∧ slots + ms ≤ R.slots)
    (kk : ∀ u H1 locs1, post u → va_P D vwCl (wf u) H1 → va_D A (wf u) → va_S A H0 H1 locs1 → W p l e R s m args below meth c H1 locs1 (cells + mc) (slots + ms) Q (F0 m (pc + 3) ls rest)) : W p l e R s m args below meth c H locs cells slots Q (F0 m pc ls st0) :=
  rwVv perm0 F hM cw hK hP hD hS hA hr hn hsz hst hW hdg hf (fun u H1 locs1 h1 h2 h3 h4 => kk u H1 locs1 h1 (by rw [List.append_nil] at h2; exact h2) (by rw [List.append_nil] at h3; exact h3) h4)
end
/-- switches -/
theorem lk_hit {ps : List (Int × Int)} {d off : Int} {x y : Int32} (hx : x = y) (h : Op.lookupswitch.offset ps d y.toInt = off) : Op.lookupswitch.offset ps d x.toInt = off := by rw [hx]; exact h
theorem lk_n {d v : Int} : Op.lookupswitch.offset [] d v = d := rfl
theorem lk_c {k o d v : Int} {ps : List (Int × Int)} (h : ¬ k = v) (t : Op.lookupswitch.offset ps d v = d) : Op.lookupswitch.offset ((k, o) :: ps) d v = d := by
  unfold Op.lookupswitch.offset
  rw [if_neg h]
  exact t
theorem lk_d {x y : Int32} {k : Int} (h : ¬ x = y) (hk : y.toInt = k) : ¬ k = x.toInt := fun q => h (Int32.toInt_inj.mp (q.symm.trans hk.symm))
theorem ne_toInt {x y : Int32} {k : Int} (h : ¬ x = y) (hk : y.toInt = k) : x.toInt ≠ k := fun q => h (Int32.toInt_inj.mp (q.trans hk.symm))
end
section
/-! words of the tables, by their places; rooms; calls -/
abbrev rm_J9_floorMod_7cf53 : Room := { frames := 0, cells := 0, slots := 0, locals := 0 }
abbrev rm_J9_min_7cf53 : Room := { frames := 0, cells := 0, slots := 0, locals := 0 }
abbrev rm_X3_refuse : Room := { frames := 1, cells := 0, slots := 0, locals := 20 }
abbrev rm_X3_isBetween : Room := { frames := 0, cells := 0, slots := 0, locals := 0 }
abbrev rm_X3_innFault : Room := { frames := 1, cells := 0, slots := 0, locals := 22 }
abbrev rm_X3_hallFault : Room := { frames := 1, cells := 0, slots := 0, locals := 22 }
abbrev rm_X3_isBody : Room := { frames := 1, cells := 0, slots := 0, locals := 22 }
abbrev rm_X3_innAndBodyFault : Room := { frames := 2, cells := 0, slots := 0, locals := 42 }
abbrev rm_X3_mixed : Room := { frames := 0, cells := 0, slots := 0, locals := 0 }
abbrev rm_X3_mixedRow : Room := { frames := 1, cells := 0, slots := 0, locals := 22 }
abbrev rm_X3_covered : Room := { frames := 1, cells := 0, slots := 0, locals := 22 }
abbrev rm_X3_uncovered : Room := { frames := 1, cells := 0, slots := 0, locals := 22 }
abbrev rm_X3_read : Room := { frames := 0, cells := 0, slots := 0, locals := 0 }
abbrev rm_X3_write : Room := { frames := 0, cells := 0, slots := 0, locals := 0 }
abbrev rm_X2_isInMask : Room := { frames := 0, cells := 0, slots := 0, locals := 0 }
abbrev rm_X2_hasOpen : Room := { frames := 1, cells := 0, slots := 0, locals := 21 }
abbrev rm_X2_turn : Room := { frames := 0, cells := 0, slots := 0, locals := 0 }
abbrev rm_X2_putInn : Room := { frames := 1, cells := 0, slots := 0, locals := 22 }
abbrev rm_X2_addRoad : Room := { frames := 2, cells := 0, slots := 0, locals := 45 }
abbrev rm_X2_removeLastRoad : Room := { frames := 1, cells := 0, slots := 0, locals := 22 }
abbrev rm_X2_ofEnvelope : Room := { frames := 1, cells := 0, slots := 0, locals := 21 }
abbrev rm_X2_isUsed : Room := { frames := 2, cells := 0, slots := 0, locals := 43 }
abbrev rm_X2_innAt : Room := { frames := 1, cells := 0, slots := 0, locals := 21 }
abbrev rm_X2_keyAt : Room := { frames := 1, cells := 0, slots := 0, locals := 21 }
abbrev rm_X2_placeOn : Room := { frames := 2, cells := 0, slots := 0, locals := 43 }
abbrev rm_X2_allOpenOn : Room := { frames := 2, cells := 0, slots := 0, locals := 43 }
abbrev rm_X2_seenBeside : Room := { frames := 3, cells := 0, slots := 0, locals := 66 }
abbrev rm_X2_innBit : Room := { frames := 1, cells := 0, slots := 0, locals := 22 }
abbrev rm_X2_knownMask : Room := { frames := 4, cells := 0, slots := 0, locals := 91 }
abbrev rm_X2_roadsThrough : Room := { frames := 3, cells := 0, slots := 0, locals := 66 }
abbrev rm_X2_leastUsedInn : Room := { frames := 4, cells := 0, slots := 0, locals := 89 }
abbrev rm_X2_putNumber : Room := { frames := 1, cells := 0, slots := 0, locals := 22 }
abbrev rm_X2_countUp : Room := { frames := 1, cells := 0, slots := 0, locals := 22 }
abbrev rm_X2_addEnvelope : Room := { frames := 2, cells := 0, slots := 0, locals := 45 }
abbrev rm_X2_addLetter : Room := { frames := 3, cells := 0, slots := 0, locals := 70 }
abbrev rm_X2_addAnswer : Room := { frames := 3, cells := 0, slots := 0, locals := 70 }
abbrev rm_X2_reachHall : Room := { frames := 2, cells := 0, slots := 0, locals := 45 }
abbrev rm_X2_reachTraveller : Room := { frames := 2, cells := 0, slots := 0, locals := 45 }
abbrev rm_X2_reachInn : Room := { frames := 2, cells := 0, slots := 0, locals := 45 }
abbrev rm_X2_moveOn : Room := { frames := 3, cells := 0, slots := 0, locals := 71 }
abbrev rm_X2_takeOutGone : Room := { frames := 2, cells := 0, slots := 0, locals := 45 }
abbrev rm_X2_letTicksPass : Room := { frames := 4, cells := 0, slots := 0, locals := 94 }
abbrev rm_X2_ticksLeft : Room := { frames := 2, cells := 0, slots := 0, locals := 43 }
abbrev rm_X2_lostWithout : Room := { frames := 3, cells := 0, slots := 0, locals := 70 }
theorem q_3 : Cond.selects RX2 yX2_placeOn yX2_placeOn ∈ wsT := tw 3 (by decide +kernel) rfl
theorem q_6 : Cond.selects RX2 yX2_roadsThrough yX2_roadsThrough ∈ wsT := tw 6 (by decide +kernel) rfl
theorem q_8 : Cond.selects RX2 yX2_putInn yX2_putInn ∈ wsT := tw 8 (by decide +kernel) rfl
theorem q_11 : Cond.selects RX2 yX2_moveOn yX2_moveOn ∈ wsT := tw 11 (by decide +kernel) rfl
theorem q_12 : Cond.selects RX2 yX2_putNumber yX2_putNumber ∈ wsT := tw 12 (by decide +kernel) rfl
theorem q_13 : Cond.selects RX2 yX2_reachHall yX2_reachHall ∈ wsT := tw 13 (by decide +kernel) rfl
theorem q_14 : Cond.selects RX2 yX2_countUp yX2_countUp ∈ wsT := tw 14 (by decide +kernel) rfl
theorem q_15 : Cond.selects RX2 yX2_reachTraveller yX2_reachTraveller ∈ wsT := tw 15 (by decide +kernel) rfl
theorem q_16 : Cond.selects RX2 yX2_keyAt yX2_keyAt ∈ wsT := tw 16 (by decide +kernel) rfl
theorem q_17 : Cond.selects RX2 yX2_reachInn yX2_reachInn ∈ wsT := tw 17 (by decide +kernel) rfl
theorem q_18 : Cond.selects RX2 yX2_takeOutGone yX2_takeOutGone ∈ wsT := tw 18 (by decide +kernel) rfl
theorem q_20 : Cond.selects RX2 yX2_addEnvelope yX2_addEnvelope ∈ wsT := tw 20 (by decide +kernel) rfl
theorem q_23 : Cond.initialized RX3 ∈ wsT := tw 23 (by decide +kernel) rfl
theorem q_24 : Cond.initialized RX2 ∈ wsT := tw 24 (by decide +kernel) rfl
theorem q_34 : Cond.initialized RJ9 ∈ wsT := tw 34 (by decide +kernel) rfl
theorem q_53 : Cond.fieldLink RX2 9 "NestedEnvelopes$State" "openMask" "I" ∈ wsT := tw 53 (by decide +kernel) rfl
theorem q_55 : Cond.fieldLink RX2 15 "NestedEnvelopes$State" "keys" "[I" ∈ wsT := tw 55 (by decide +kernel) rfl
theorem q_57 : Cond.fieldLink RX2 53 "NestedEnvelopes$State" "roadCount" "I" ∈ wsT := tw 57 (by decide +kernel) rfl
theorem q_59 : Cond.fieldLink RX2 19 "NestedEnvelopes$State" "roadInns" "[I" ∈ wsT := tw 59 (by decide +kernel) rfl
theorem q_60 : Cond.fieldLink RX2 22 "NestedEnvelopes$State" "roadKeys" "[I" ∈ wsT := tw 60 (by decide +kernel) rfl
theorem q_61 : Cond.fieldLink RX2 25 "NestedEnvelopes$State" "roadHalls" "[I" ∈ wsT := tw 61 (by decide +kernel) rfl
theorem q_63 : Cond.fieldLink RX2 56 "NestedEnvelopes$State" "envelopeCount" "I" ∈ wsT := tw 63 (by decide +kernel) rfl
theorem q_65 : Cond.fieldLink RX2 28 "NestedEnvelopes$State" "envelopeNumbers" "[I" ∈ wsT := tw 65 (by decide +kernel) rfl
theorem q_66 : Cond.fieldLink RX2 31 "NestedEnvelopes$State" "letters" "[I" ∈ wsT := tw 66 (by decide +kernel) rfl
theorem q_68 : Cond.fieldLink RX2 40 "NestedEnvelopes$State" "answerRoads" "[I" ∈ wsT := tw 68 (by decide +kernel) rfl
theorem q_70 : Cond.fieldLink RX2 43 "NestedEnvelopes$State" "answerGot" "I" ∈ wsT := tw 70 (by decide +kernel) rfl
theorem q_72 : Cond.fieldLink RX2 46 "NestedEnvelopes$State" "counts" "[I" ∈ wsT := tw 72 (by decide +kernel) rfl
theorem q_248 : Cond.methodLink RX3 212 yX3_mixed ∈ wsT := tw 248 (by decide +kernel) rfl
theorem q_249 : Cond.static yX3_mixed ∈ wsT := tw 249 (by decide +kernel) rfl
theorem q_250 : Cond.code yX3_mixed cX3_mixed 3 (some .long) ∈ wsT := tw 250 (by decide +kernel) rfl
theorem q_251 : Cond.constantLong RX3 261 31 ∈ wsT := tw 251 (by decide +kernel) rfl
theorem q_260 : Cond.instanceMethod yX2_hasOpen ∈ wsT := tw 260 (by decide +kernel) rfl
theorem q_261 : Cond.selects RX2 yX2_hasOpen yX2_hasOpen ∈ wsT := tw 261 (by decide +kernel) rfl
theorem q_262 : Cond.code yX2_hasOpen cX2_hasOpen 2 (some .boolean) ∈ wsT := tw 262 (by decide +kernel) rfl
theorem q_263 : Cond.methodLink RX2 59 yX2_isInMask ∈ wsT := tw 263 (by decide +kernel) rfl
theorem q_264 : Cond.static yX2_isInMask ∈ wsT := tw 264 (by decide +kernel) rfl
theorem q_265 : Cond.code yX2_isInMask cX2_isInMask 2 (some .boolean) ∈ wsT := tw 265 (by decide +kernel) rfl
theorem q_267 : Cond.static yX3_read ∈ wsT := tw 267 (by decide +kernel) rfl
theorem q_268 : Cond.code yX3_read cX3_read 2 (some .int) ∈ wsT := tw 268 (by decide +kernel) rfl
theorem q_273 : Cond.methodLink RX2 89 yX2_seenBeside ∈ wsT := tw 273 (by decide +kernel) rfl
theorem q_274 : Cond.instanceMethod yX2_seenBeside ∈ wsT := tw 274 (by decide +kernel) rfl
theorem q_275 : Cond.selects RX2 yX2_seenBeside yX2_seenBeside ∈ wsT := tw 275 (by decide +kernel) rfl
theorem q_276 : Cond.code yX2_seenBeside cX2_seenBeside 6 (some .int) ∈ wsT := tw 276 (by decide +kernel) rfl
theorem q_277 : Cond.methodLink RX2 86 yX2_placeOn ∈ wsT := tw 277 (by decide +kernel) rfl
theorem q_279 : Cond.instanceMethod yX2_placeOn ∈ wsT := tw 279 (by decide +kernel) rfl
theorem q_280 : Cond.code yX2_placeOn cX2_placeOn 4 (some .int) ∈ wsT := tw 280 (by decide +kernel) rfl
theorem q_281 : Cond.methodLink RX2 79 yX2_innAt ∈ wsT := tw 281 (by decide +kernel) rfl
theorem q_282 : Cond.instanceMethod yX2_innAt ∈ wsT := tw 282 (by decide +kernel) rfl
theorem q_283 : Cond.selects RX2 yX2_innAt yX2_innAt ∈ wsT := tw 283 (by decide +kernel) rfl
theorem q_284 : Cond.code yX2_innAt cX2_innAt 3 (some .int) ∈ wsT := tw 284 (by decide +kernel) rfl
theorem q_286 : Cond.methodLink RX2 93 yX2_innBit ∈ wsT := tw 286 (by decide +kernel) rfl
theorem q_287 : Cond.static yX2_innBit ∈ wsT := tw 287 (by decide +kernel) rfl
theorem q_288 : Cond.code yX2_innBit cX2_innBit 1 (some .int) ∈ wsT := tw 288 (by decide +kernel) rfl
theorem q_290 : Cond.static yX3_isBetween ∈ wsT := tw 290 (by decide +kernel) rfl
theorem q_291 : Cond.code yX3_isBetween cX3_isBetween 3 (some .boolean) ∈ wsT := tw 291 (by decide +kernel) rfl
theorem q_296 : Cond.methodLink RX2 140 yX2_ticksLeft ∈ wsT := tw 296 (by decide +kernel) rfl
theorem q_297 : Cond.instanceMethod yX2_ticksLeft ∈ wsT := tw 297 (by decide +kernel) rfl
theorem q_298 : Cond.selects RX2 yX2_ticksLeft yX2_ticksLeft ∈ wsT := tw 298 (by decide +kernel) rfl
theorem q_299 : Cond.code yX2_ticksLeft cX2_ticksLeft 8 (some .int) ∈ wsT := tw 299 (by decide +kernel) rfl
theorem q_300 : Cond.methodLink RX2 75 yX2_ofEnvelope ∈ wsT := tw 300 (by decide +kernel) rfl
theorem q_301 : Cond.instanceMethod yX2_ofEnvelope ∈ wsT := tw 301 (by decide +kernel) rfl
theorem q_302 : Cond.selects RX2 yX2_ofEnvelope yX2_ofEnvelope ∈ wsT := tw 302 (by decide +kernel) rfl
theorem q_303 : Cond.code yX2_ofEnvelope cX2_ofEnvelope 3 (some .int) ∈ wsT := tw 303 (by decide +kernel) rfl
theorem q_313 : Cond.methodLink RX2 82 yX2_hasOpen ∈ wsT := tw 313 (by decide +kernel) rfl
theorem q_324 : Cond.methodLink RX2 101 yX2_roadsThrough ∈ wsT := tw 324 (by decide +kernel) rfl
theorem q_326 : Cond.instanceMethod yX2_roadsThrough ∈ wsT := tw 326 (by decide +kernel) rfl
theorem q_327 : Cond.code yX2_roadsThrough cX2_roadsThrough 4 (some .int) ∈ wsT := tw 327 (by decide +kernel) rfl
theorem q_347 : Cond.methodLink RX3 30 yX3_innFault ∈ wsT := tw 347 (by decide +kernel) rfl
theorem q_348 : Cond.static yX3_innFault ∈ wsT := tw 348 (by decide +kernel) rfl
theorem q_349 : Cond.code yX3_innFault cX3_innFault 1 (some .int) ∈ wsT := tw 349 (by decide +kernel) rfl
theorem q_350 : Cond.methodLink RX3 96 yX3_isBetween ∈ wsT := tw 350 (by decide +kernel) rfl
theorem q_403 : Cond.methodLink RX3 239 yX3_isBody ∈ wsT := tw 403 (by decide +kernel) rfl
theorem q_404 : Cond.static yX3_isBody ∈ wsT := tw 404 (by decide +kernel) rfl
theorem q_405 : Cond.code yX3_isBody cX3_isBody 1 (some .boolean) ∈ wsT := tw 405 (by decide +kernel) rfl
theorem q_407 : Cond.static yX3_write ∈ wsT := tw 407 (by decide +kernel) rfl
theorem q_408 : Cond.code yX3_write cX3_write 3 none ∈ wsT := tw 408 (by decide +kernel) rfl
theorem q_428 : Cond.methodLink RX2 63 yX2_putInn ∈ wsT := tw 428 (by decide +kernel) rfl
theorem q_430 : Cond.instanceMethod yX2_putInn ∈ wsT := tw 430 (by decide +kernel) rfl
theorem q_431 : Cond.code yX2_putInn cX2_putInn 4 none ∈ wsT := tw 431 (by decide +kernel) rfl
theorem q_478 : Cond.methodLink RX2 121 yX2_moveOn ∈ wsT := tw 478 (by decide +kernel) rfl
theorem q_480 : Cond.instanceMethod yX2_moveOn ∈ wsT := tw 480 (by decide +kernel) rfl
theorem q_481 : Cond.code yX2_moveOn cX2_moveOn 4 (some .boolean) ∈ wsT := tw 481 (by decide +kernel) rfl
theorem q_482 : Cond.methodLink RX2 118 yX2_putNumber ∈ wsT := tw 482 (by decide +kernel) rfl
theorem q_484 : Cond.instanceMethod yX2_putNumber ∈ wsT := tw 484 (by decide +kernel) rfl
theorem q_485 : Cond.code yX2_putNumber cX2_putNumber 4 none ∈ wsT := tw 485 (by decide +kernel) rfl
theorem q_486 : Cond.methodLink RX2 127 yX2_reachHall ∈ wsT := tw 486 (by decide +kernel) rfl
theorem q_488 : Cond.instanceMethod yX2_reachHall ∈ wsT := tw 488 (by decide +kernel) rfl
theorem q_489 : Cond.code yX2_reachHall cX2_reachHall 4 none ∈ wsT := tw 489 (by decide +kernel) rfl
theorem q_490 : Cond.methodLink RX2 110 yX2_countUp ∈ wsT := tw 490 (by decide +kernel) rfl
theorem q_492 : Cond.instanceMethod yX2_countUp ∈ wsT := tw 492 (by decide +kernel) rfl
theorem q_493 : Cond.code yX2_countUp cX2_countUp 2 none ∈ wsT := tw 493 (by decide +kernel) rfl
theorem q_494 : Cond.methodLink RX2 130 yX2_reachTraveller ∈ wsT := tw 494 (by decide +kernel) rfl
theorem q_496 : Cond.instanceMethod yX2_reachTraveller ∈ wsT := tw 496 (by decide +kernel) rfl
theorem q_497 : Cond.code yX2_reachTraveller cX2_reachTraveller 5 none ∈ wsT := tw 497 (by decide +kernel) rfl
theorem q_498 : Cond.methodLink RX2 104 yX2_keyAt ∈ wsT := tw 498 (by decide +kernel) rfl
theorem q_500 : Cond.instanceMethod yX2_keyAt ∈ wsT := tw 500 (by decide +kernel) rfl
theorem q_501 : Cond.code yX2_keyAt cX2_keyAt 3 (some .int) ∈ wsT := tw 501 (by decide +kernel) rfl
theorem q_503 : Cond.static yX3_uncovered ∈ wsT := tw 503 (by decide +kernel) rfl
theorem q_504 : Cond.code yX3_uncovered cX3_uncovered 2 (some .int) ∈ wsT := tw 504 (by decide +kernel) rfl
theorem q_505 : Cond.methodLink RX3 263 yJ9_floorMod_7cf53 ∈ wsT := tw 505 (by decide +kernel) rfl
theorem q_506 : Cond.static yJ9_floorMod_7cf53 ∈ wsT := tw 506 (by decide +kernel) rfl
theorem q_507 : Cond.code yJ9_floorMod_7cf53 cJ9_floorMod_7cf53 3 (some .int) ∈ wsT := tw 507 (by decide +kernel) rfl
theorem q_508 : Cond.methodLink RX2 133 yX2_reachInn ∈ wsT := tw 508 (by decide +kernel) rfl
theorem q_510 : Cond.instanceMethod yX2_reachInn ∈ wsT := tw 510 (by decide +kernel) rfl
theorem q_511 : Cond.code yX2_reachInn cX2_reachInn 7 none ∈ wsT := tw 511 (by decide +kernel) rfl
theorem q_513 : Cond.static yX3_covered ∈ wsT := tw 513 (by decide +kernel) rfl
theorem q_514 : Cond.code yX3_covered cX3_covered 2 (some .int) ∈ wsT := tw 514 (by decide +kernel) rfl
theorem q_515 : Cond.methodLink RX2 124 yX2_takeOutGone ∈ wsT := tw 515 (by decide +kernel) rfl
theorem q_517 : Cond.instanceMethod yX2_takeOutGone ∈ wsT := tw 517 (by decide +kernel) rfl
theorem q_518 : Cond.code yX2_takeOutGone cX2_takeOutGone 4 none ∈ wsT := tw 518 (by decide +kernel) rfl
theorem q_531 : Cond.methodLink RX2 114 yX2_addEnvelope ∈ wsT := tw 531 (by decide +kernel) rfl
theorem q_533 : Cond.instanceMethod yX2_addEnvelope ∈ wsT := tw 533 (by decide +kernel) rfl
theorem q_534 : Cond.code yX2_addEnvelope cX2_addEnvelope 6 (some .int) ∈ wsT := tw 534 (by decide +kernel) rfl
theorem cw_X3_96 {R : Room} {s : State} {args : Array Value} (hts : ∀ w ∈ wsT, w.before args s = true) (hf : 0 + 1 ≤ R.frames) (hl : 8 + (3 + 11) + 0 ≤ R.locals) : CallB R s args RX3 96 yX3_isBetween cX3_isBetween 3 (some .boolean) (wsA yX3_isBetween cX3_isBetween 3 (some .boolean)) rm_X3_isBetween 0 0 3 ∧ (Cond.static yX3_isBetween).before args s = true := cwAS 3 hts q_350 q_290 q_23 q_291 rfl rfl (by decide +kernel) ⟨hf, hl⟩
theorem cw_X3_30 {R : Room} {s : State} {args : Array Value} (hts : ∀ w ∈ wsT, w.before args s = true) (hf : 1 + 1 ≤ R.frames) (hl : 8 + (1 + 11) + 22 ≤ R.locals) : CallB R s args RX3 30 yX3_innFault cX3_innFault 1 (some .int) (wsA yX3_innFault cX3_innFault 1 (some .int)) rm_X3_innFault 0 0 1 ∧ (Cond.static yX3_innFault).before args s = true := cwAS 1 hts q_347 q_348 q_23 q_349 rfl rfl (by decide +kernel) ⟨hf, hl⟩
theorem cw_X3_239 {R : Room} {s : State} {args : Array Value} (hts : ∀ w ∈ wsT, w.before args s = true) (hf : 1 + 1 ≤ R.frames) (hl : 8 + (1 + 11) + 22 ≤ R.locals) : CallB R s args RX3 239 yX3_isBody cX3_isBody 1 (some .boolean) (wsA yX3_isBody cX3_isBody 1 (some .boolean)) rm_X3_isBody 0 0 1 ∧ (Cond.static yX3_isBody).before args s = true := cwAS 1 hts q_403 q_404 q_23 q_405 rfl rfl (by decide +kernel) ⟨hf, hl⟩
theorem cw_X3_212 {R : Room} {s : State} {args : Array Value} (hts : ∀ w ∈ wsT, w.before args s = true) (hf : 0 + 1 ≤ R.frames) (hl : 8 + (3 + 11) + 0 ≤ R.locals) : CallB R s args RX3 212 yX3_mixed cX3_mixed 3 (some .long) (wsA yX3_mixed cX3_mixed 3 (some .long)) rm_X3_mixed 0 0 2 ∧ (Cond.static yX3_mixed).before args s = true := cwAS 2 hts q_248 q_249 q_23 q_250 rfl rfl (by decide +kernel) ⟨hf, hl⟩
theorem cw_X3_263 {R : Room} {s : State} {args : Array Value} (hts : ∀ w ∈ wsT, w.before args s = true) (hf : 0 + 1 ≤ R.frames) (hl : 8 + (3 + 11) + 0 ≤ R.locals) : CallB R s args RX3 263 yJ9_floorMod_7cf53 cJ9_floorMod_7cf53 3 (some .int) (wsA yJ9_floorMod_7cf53 cJ9_floorMod_7cf53 3 (some .int)) rm_J9_floorMod_7cf53 0 0 2 ∧ (Cond.static yJ9_floorMod_7cf53).before args s = true := cwAS 2 hts q_505 q_506 q_34 q_507 rfl rfl (by decide +kernel) ⟨hf, hl⟩
theorem cw_X2_59 {R : Room} {s : State} {args : Array Value} (hts : ∀ w ∈ wsT, w.before args s = true) (hf : 0 + 1 ≤ R.frames) (hl : 8 + (2 + 11) + 0 ≤ R.locals) : CallB R s args RX2 59 yX2_isInMask cX2_isInMask 2 (some .boolean) (wsA yX2_isInMask cX2_isInMask 2 (some .boolean)) rm_X2_isInMask 0 0 2 ∧ (Cond.static yX2_isInMask).before args s = true := cwAS 2 hts q_263 q_264 q_24 q_265 rfl rfl (by decide +kernel) ⟨hf, hl⟩
theorem cw_X2_67 {R : Room} {s : State} {args : Array Value} (hts : ∀ w ∈ wsT, w.before args s = true) (hN : va_Nw (.methodLinkNest RX2 67 yX3_write RX3) s) (hf : 0 + 1 ≤ R.frames) (hl : 8 + (3 + 11) + 0 ≤ R.locals) : va_CN R s args RX2 67 yX3_write RX3 cX3_write 3 none (wsA yX3_write cX3_write 3 none) rm_X3_write 0 0 3 ∧ (Cond.static yX3_write).before args s = true := cwAN 3 hts hN q_407 q_23 q_408 rfl rfl (by decide +kernel) ⟨hf, hl⟩
theorem cw_X2_71 {R : Room} {s : State} {args : Array Value} (hts : ∀ w ∈ wsT, w.before args s = true) (hN : va_Nw (.methodLinkNest RX2 71 yX3_read RX3) s) (hf : 0 + 1 ≤ R.frames) (hl : 8 + (2 + 11) + 0 ≤ R.locals) : va_CN R s args RX2 71 yX3_read RX3 cX3_read 2 (some .int) (wsA yX3_read cX3_read 2 (some .int)) rm_X3_read 0 0 2 ∧ (Cond.static yX3_read).before args s = true := cwAN 2 hts hN q_267 q_23 q_268 rfl rfl (by decide +kernel) ⟨hf, hl⟩
theorem cw_X2_63 {R : Room} {s : State} {args : Array Value} (hts : ∀ w ∈ wsT, w.before args s = true) (hf : 1 + 1 ≤ R.frames) (hl : 8 + (4 + 11) + 22 ≤ R.locals) : CallW R s args RX2 RX2 63 yX2_putInn cX2_putInn 4 none (wsA yX2_putInn cX2_putInn 4 none) rm_X2_putInn 0 0 3 := cwAV 3 hts q_428 q_430 q_8 q_24 q_431 rfl rfl (by decide +kernel) ⟨hf, hl⟩
theorem cw_X2_75 {R : Room} {s : State} {args : Array Value} (hts : ∀ w ∈ wsT, w.before args s = true) (hf : 1 + 1 ≤ R.frames) (hl : 8 + (3 + 11) + 21 ≤ R.locals) : CallW R s args RX2 RX2 75 yX2_ofEnvelope cX2_ofEnvelope 3 (some .int) (wsA yX2_ofEnvelope cX2_ofEnvelope 3 (some .int)) rm_X2_ofEnvelope 0 0 2 := cwAV 2 hts q_300 q_301 q_302 q_24 q_303 rfl rfl (by decide +kernel) ⟨hf, hl⟩
theorem cw_X2_79 {R : Room} {s : State} {args : Array Value} (hts : ∀ w ∈ wsT, w.before args s = true) (hf : 1 + 1 ≤ R.frames) (hl : 8 + (3 + 11) + 21 ≤ R.locals) : CallW R s args RX2 RX2 79 yX2_innAt cX2_innAt 3 (some .int) (wsA yX2_innAt cX2_innAt 3 (some .int)) rm_X2_innAt 0 0 2 := cwAV 2 hts q_281 q_282 q_283 q_24 q_284 rfl rfl (by decide +kernel) ⟨hf, hl⟩
theorem cw_X2_82 {R : Room} {s : State} {args : Array Value} (hts : ∀ w ∈ wsT, w.before args s = true) (hf : 1 + 1 ≤ R.frames) (hl : 8 + (2 + 11) + 21 ≤ R.locals) : CallW R s args RX2 RX2 82 yX2_hasOpen cX2_hasOpen 2 (some .boolean) (wsA yX2_hasOpen cX2_hasOpen 2 (some .boolean)) rm_X2_hasOpen 0 0 1 := cwAV 1 hts q_313 q_260 q_261 q_24 q_262 rfl rfl (by decide +kernel) ⟨hf, hl⟩
theorem cw_X2_86 {R : Room} {s : State} {args : Array Value} (hts : ∀ w ∈ wsT, w.before args s = true) (hf : 2 + 1 ≤ R.frames) (hl : 8 + (4 + 11) + 43 ≤ R.locals) : CallW R s args RX2 RX2 86 yX2_placeOn cX2_placeOn 4 (some .int) (wsA yX2_placeOn cX2_placeOn 4 (some .int)) rm_X2_placeOn 0 0 2 := cwAV 2 hts q_277 q_279 q_3 q_24 q_280 rfl rfl (by decide +kernel) ⟨hf, hl⟩
theorem cw_X2_97 {R : Room} {s : State} {args : Array Value} (hts : ∀ w ∈ wsT, w.before args s = true) (hN : va_Nw (.methodLinkNest RX2 97 yX3_isBetween RX3) s) (hf : 0 + 1 ≤ R.frames) (hl : 8 + (3 + 11) + 0 ≤ R.locals) : va_CN R s args RX2 97 yX3_isBetween RX3 cX3_isBetween 3 (some .boolean) (wsA yX3_isBetween cX3_isBetween 3 (some .boolean)) rm_X3_isBetween 0 0 3 ∧ (Cond.static yX3_isBetween).before args s = true := cwAN 3 hts hN q_290 q_23 q_291 rfl rfl (by decide +kernel) ⟨hf, hl⟩
theorem cw_X2_89 {R : Room} {s : State} {args : Array Value} (hts : ∀ w ∈ wsT, w.before args s = true) (hf : 3 + 1 ≤ R.frames) (hl : 8 + (6 + 11) + 66 ≤ R.locals) : CallW R s args RX2 RX2 89 yX2_seenBeside cX2_seenBeside 6 (some .int) (wsA yX2_seenBeside cX2_seenBeside 6 (some .int)) rm_X2_seenBeside 0 0 3 := cwAV 3 hts q_273 q_274 q_275 q_24 q_276 rfl rfl (by decide +kernel) ⟨hf, hl⟩
theorem cw_X2_93 {R : Room} {s : State} {args : Array Value} (hts : ∀ w ∈ wsT, w.before args s = true) (hf : 1 + 1 ≤ R.frames) (hl : 8 + (1 + 11) + 22 ≤ R.locals) : CallB R s args RX2 93 yX2_innBit cX2_innBit 1 (some .int) (wsA yX2_innBit cX2_innBit 1 (some .int)) rm_X2_innBit 0 0 1 ∧ (Cond.static yX2_innBit).before args s = true := cwAS 1 hts q_286 q_287 q_24 q_288 rfl rfl (by decide +kernel) ⟨hf, hl⟩
theorem cw_X2_101 {R : Room} {s : State} {args : Array Value} (hts : ∀ w ∈ wsT, w.before args s = true) (hf : 3 + 1 ≤ R.frames) (hl : 8 + (4 + 11) + 66 ≤ R.locals) : CallW R s args RX2 RX2 101 yX2_roadsThrough cX2_roadsThrough 4 (some .int) (wsA yX2_roadsThrough cX2_roadsThrough 4 (some .int)) rm_X2_roadsThrough 0 0 1 := cwAV 1 hts q_324 q_326 q_6 q_24 q_327 rfl rfl (by decide +kernel) ⟨hf, hl⟩
theorem cw_X2_118 {R : Room} {s : State} {args : Array Value} (hts : ∀ w ∈ wsT, w.before args s = true) (hf : 1 + 1 ≤ R.frames) (hl : 8 + (4 + 11) + 22 ≤ R.locals) : CallW R s args RX2 RX2 118 yX2_putNumber cX2_putNumber 4 none (wsA yX2_putNumber cX2_putNumber 4 none) rm_X2_putNumber 0 0 3 := cwAV 3 hts q_482 q_484 q_12 q_24 q_485 rfl rfl (by decide +kernel) ⟨hf, hl⟩
theorem cw_X2_110 {R : Room} {s : State} {args : Array Value} (hts : ∀ w ∈ wsT, w.before args s = true) (hf : 1 + 1 ≤ R.frames) (hl : 8 + (2 + 11) + 22 ≤ R.locals) : CallW R s args RX2 RX2 110 yX2_countUp cX2_countUp 2 none (wsA yX2_countUp cX2_countUp 2 none) rm_X2_countUp 0 0 1 := cwAV 1 hts q_490 q_492 q_14 q_24 q_493 rfl rfl (by decide +kernel) ⟨hf, hl⟩
theorem cw_X2_114 {R : Room} {s : State} {args : Array Value} (hts : ∀ w ∈ wsT, w.before args s = true) (hf : 2 + 1 ≤ R.frames) (hl : 8 + (6 + 11) + 45 ≤ R.locals) : CallW R s args RX2 RX2 114 yX2_addEnvelope cX2_addEnvelope 6 (some .int) (wsA yX2_addEnvelope cX2_addEnvelope 6 (some .int)) rm_X2_addEnvelope 0 0 4 := cwAV 4 hts q_531 q_533 q_20 q_24 q_534 rfl rfl (by decide +kernel) ⟨hf, hl⟩
theorem cw_X2_104 {R : Room} {s : State} {args : Array Value} (hts : ∀ w ∈ wsT, w.before args s = true) (hf : 1 + 1 ≤ R.frames) (hl : 8 + (3 + 11) + 21 ≤ R.locals) : CallW R s args RX2 RX2 104 yX2_keyAt cX2_keyAt 3 (some .int) (wsA yX2_keyAt cX2_keyAt 3 (some .int)) rm_X2_keyAt 0 0 2 := cwAV 2 hts q_498 q_500 q_16 q_24 q_501 rfl rfl (by decide +kernel) ⟨hf, hl⟩
theorem cw_X2_107 {R : Room} {s : State} {args : Array Value} (hts : ∀ w ∈ wsT, w.before args s = true) (hN : va_Nw (.methodLinkNest RX2 107 yX3_covered RX3) s) (hf : 1 + 1 ≤ R.frames) (hl : 8 + (2 + 11) + 22 ≤ R.locals) : va_CN R s args RX2 107 yX3_covered RX3 cX3_covered 2 (some .int) (wsA yX3_covered cX3_covered 2 (some .int)) rm_X3_covered 0 0 2 ∧ (Cond.static yX3_covered).before args s = true := cwAN 2 hts hN q_513 q_23 q_514 rfl rfl (by decide +kernel) ⟨hf, hl⟩
theorem cw_X2_137 {R : Room} {s : State} {args : Array Value} (hts : ∀ w ∈ wsT, w.before args s = true) (hN : va_Nw (.methodLinkNest RX2 137 yX3_uncovered RX3) s) (hf : 1 + 1 ≤ R.frames) (hl : 8 + (2 + 11) + 22 ≤ R.locals) : va_CN R s args RX2 137 yX3_uncovered RX3 cX3_uncovered 2 (some .int) (wsA yX3_uncovered cX3_uncovered 2 (some .int)) rm_X3_uncovered 0 0 2 ∧ (Cond.static yX3_uncovered).before args s = true := cwAN 2 hts hN q_503 q_23 q_504 rfl rfl (by decide +kernel) ⟨hf, hl⟩
theorem cw_X2_133 {R : Room} {s : State} {args : Array Value} (hts : ∀ w ∈ wsT, w.before args s = true) (hf : 2 + 1 ≤ R.frames) (hl : 8 + (7 + 11) + 45 ≤ R.locals) : CallW R s args RX2 RX2 133 yX2_reachInn cX2_reachInn 7 none (wsA yX2_reachInn cX2_reachInn 7 none) rm_X2_reachInn 0 0 2 := cwAV 2 hts q_508 q_510 q_17 q_24 q_511 rfl rfl (by decide +kernel) ⟨hf, hl⟩
theorem cw_X2_130 {R : Room} {s : State} {args : Array Value} (hts : ∀ w ∈ wsT, w.before args s = true) (hf : 2 + 1 ≤ R.frames) (hl : 8 + (5 + 11) + 45 ≤ R.locals) : CallW R s args RX2 RX2 130 yX2_reachTraveller cX2_reachTraveller 5 none (wsA yX2_reachTraveller cX2_reachTraveller 5 none) rm_X2_reachTraveller 0 0 1 := cwAV 1 hts q_494 q_496 q_15 q_24 q_497 rfl rfl (by decide +kernel) ⟨hf, hl⟩
theorem cw_X2_127 {R : Room} {s : State} {args : Array Value} (hts : ∀ w ∈ wsT, w.before args s = true) (hf : 2 + 1 ≤ R.frames) (hl : 8 + (4 + 11) + 45 ≤ R.locals) : CallW R s args RX2 RX2 127 yX2_reachHall cX2_reachHall 4 none (wsA yX2_reachHall cX2_reachHall 4 none) rm_X2_reachHall 0 0 1 := cwAV 1 hts q_486 q_488 q_13 q_24 q_489 rfl rfl (by decide +kernel) ⟨hf, hl⟩
theorem cw_X2_124 {R : Room} {s : State} {args : Array Value} (hts : ∀ w ∈ wsT, w.before args s = true) (hf : 2 + 1 ≤ R.frames) (hl : 8 + (4 + 11) + 45 ≤ R.locals) : CallW R s args RX2 RX2 124 yX2_takeOutGone cX2_takeOutGone 4 none (wsA yX2_takeOutGone cX2_takeOutGone 4 none) rm_X2_takeOutGone 0 0 0 := cwAV 0 hts q_515 q_517 q_18 q_24 q_518 rfl rfl (by decide +kernel) ⟨hf, hl⟩
theorem cw_X2_121 {R : Room} {s : State} {args : Array Value} (hts : ∀ w ∈ wsT, w.before args s = true) (hf : 3 + 1 ≤ R.frames) (hl : 8 + (4 + 11) + 71 ≤ R.locals) : CallW R s args RX2 RX2 121 yX2_moveOn cX2_moveOn 4 (some .boolean) (wsA yX2_moveOn cX2_moveOn 4 (some .boolean)) rm_X2_moveOn 0 0 1 := cwAV 1 hts q_478 q_480 q_11 q_24 q_481 rfl rfl (by decide +kernel) ⟨hf, hl⟩
theorem cw_X2_140 {R : Room} {s : State} {args : Array Value} (hts : ∀ w ∈ wsT, w.before args s = true) (hf : 2 + 1 ≤ R.frames) (hl : 8 + (8 + 11) + 43 ≤ R.locals) : CallW R s args RX2 RX2 140 yX2_ticksLeft cX2_ticksLeft 8 (some .int) (wsA yX2_ticksLeft cX2_ticksLeft 8 (some .int)) rm_X2_ticksLeft 0 0 2 := cwAV 2 hts q_296 q_297 q_298 q_24 q_299 rfl rfl (by decide +kernel) ⟨hf, hl⟩
end
section
def wp_J9_floorMod_7cf53  (p0 : Int32) (p1 : Int32) (post : Int32 → Prop) : Prop :=
  (¬ p1 = 0) ∧ ((0 ≤ (p0 ^^^ p1) → post (p0 - p0 / p1 * p1)) ∧ (¬ 0 ≤ (p0 ^^^ p1) → ((p0 - p0 / p1 * p1) = 0 → post (p0 - p0 / p1 * p1)) ∧ (¬ (p0 - p0 / p1 * p1) = 0 → post ((p0 - p0 / p1 * p1) + p1))))
set_option maxHeartbeats 4000000 in
set_option maxRecDepth 100000 in
theorem c_J9_floorMod_7cf53 (l : Launch) (D : va_G) (cI cS cJ : ClassId)  (H0 : Heap) (p0 : Int32) (p1 : Int32) {post : Int32 → Prop} (h : wp_J9_floorMod_7cf53 p0 p1 post) : Met l yJ9_floorMod_7cf53 (wsA yJ9_floorMod_7cf53 cJ9_floorMod_7cf53 3 (some .int)) rm_J9_floorMod_7cf53 (va_Pc [.int p0, .int p1] (roP D (tysA cI cS cJ) ([]) H0)) (va_Qi (fun r (_ : Unit) => post r) (fun _ t => t.heap = H0) nF) 0 0 nF := by
  refine mkROi (by decide +kernel) (Nat.le_of_ble_eq_true rfl) (fun {p e s m args below meth c Q ls} hx hb F hts hown hK hP hl hQ => ?_)
  have hown : s.vm.findClass RJ9 = some m.cls := hown
  have F : CallFix p m c cJ9_floorMod_7cf53 3 s args wsT RJ9 := F
  have hl : lv_has ls 3 [(0, .int p0), (1, .int p1)] := hl
  unfold wp_J9_floorMod_7cf53 at h
  refine lv_iload_n hx hb dJ9_floorMod_7cf53_0 rfl (lv_at hl 0 rfl) ?_
  refine lv_iload_n hx hb dJ9_floorMod_7cf53_1 rfl (lv_at hl 1 rfl) ?_
  refine lv_irem hx hb dJ9_floorMod_7cf53_2 h.1 ?_
  replace h := h.2
  refine lv_istore_n (lv' := [(2, .int (p0 - p0 / p1 * p1)), (0, .int p0), (1, .int p1)]) hx hb dJ9_floorMod_7cf53_3 rfl hl (by decide) rfl (fun ls hl => ?_)
  refine lv_iload_n hx hb dJ9_floorMod_7cf53_4 rfl (lv_at hl 1 rfl) ?_
  refine lv_iload_n hx hb dJ9_floorMod_7cf53_5 rfl (lv_at hl 2 rfl) ?_
  refine lv_ixor hx hb dJ9_floorMod_7cf53_6 ?_
  refine lv_if_ge (tgt := 18) hx hb dJ9_floorMod_7cf53_7 (by decide) (fun c1 => ?_) (fun c1 => ?_)
  · replace h := h.1 c1
    refine lv_iload_n hx hb dJ9_floorMod_7cf53_18 rfl (lv_at hl 0 rfl) ?_
    exact hQ h dJ9_floorMod_7cf53_19
  · replace h := h.2 c1
    refine lv_iload_n hx hb dJ9_floorMod_7cf53_10 rfl (lv_at hl 0 rfl) ?_
    refine lv_if_eq (tgt := 18) hx hb dJ9_floorMod_7cf53_11 (by decide) (fun c2 => ?_) (fun c2 => ?_)
    · replace h := h.1 c2
      refine lv_iload_n hx hb dJ9_floorMod_7cf53_18 rfl (lv_at hl 0 rfl) ?_
      exact hQ h dJ9_floorMod_7cf53_19
    · replace h := h.2 c2
      refine lv_iload_n hx hb dJ9_floorMod_7cf53_14 rfl (lv_at hl 0 rfl) ?_
      refine lv_iload_n hx hb dJ9_floorMod_7cf53_15 rfl (lv_at hl 2 rfl) ?_
      refine lv_iadd hx hb dJ9_floorMod_7cf53_16 ?_
      exact hQ h dJ9_floorMod_7cf53_17

def wp_J9_min_7cf53  (p0 : Int32) (p1 : Int32) (post : Int32 → Prop) : Prop :=
  (p1 < p0 → post p1) ∧ (¬ p1 < p0 → post p0)
set_option maxHeartbeats 4000000 in
set_option maxRecDepth 100000 in
theorem c_J9_min_7cf53 (l : Launch) (D : va_G) (cI cS cJ : ClassId)  (H0 : Heap) (p0 : Int32) (p1 : Int32) {post : Int32 → Prop} (h : wp_J9_min_7cf53 p0 p1 post) : Met l yJ9_min_7cf53 (wsA yJ9_min_7cf53 cJ9_min_7cf53 2 (some .int)) rm_J9_min_7cf53 (va_Pc [.int p0, .int p1] (roP D (tysA cI cS cJ) ([]) H0)) (va_Qi (fun r (_ : Unit) => post r) (fun _ t => t.heap = H0) nF) 0 0 nF := by
  refine mkROi (by decide +kernel) (Nat.le_of_ble_eq_true rfl) (fun {p e s m args below meth c Q ls} hx hb F hts hown hK hP hl hQ => ?_)
  have hown : s.vm.findClass RJ9 = some m.cls := hown
  have F : CallFix p m c cJ9_min_7cf53 2 s args wsT RJ9 := F
  have hl : lv_has ls 2 [(0, .int p0), (1, .int p1)] := hl
  unfold wp_J9_min_7cf53 at h
  refine lv_iload_n hx hb dJ9_min_7cf53_0 rfl (lv_at hl 0 rfl) ?_
  refine lv_iload_n hx hb dJ9_min_7cf53_1 rfl (lv_at hl 1 rfl) ?_
  refine lv_icmp_gt (tgt := 9) hx hb dJ9_min_7cf53_2 (by decide) (fun c1 => ?_) (fun c1 => ?_)
  · replace h := h.1 c1
    refine lv_iload_n hx hb dJ9_min_7cf53_9 rfl (lv_at hl 1 rfl) ?_
    exact hQ h dJ9_min_7cf53_10
  · replace h := h.2 c1
    refine lv_iload_n hx hb dJ9_min_7cf53_5 rfl (lv_at hl 0 rfl) ?_
    refine lv_goto (tgt := 10) hx hb dJ9_min_7cf53_6 (by decide) ?_
    exact hQ h dJ9_min_7cf53_10

def wp_X3_refuse  (p0 : Int32) (post : Prop) : Prop :=
  (¬ p0 = (1 : Int32) → (¬ p0 = (2 : Int32) → (¬ p0 = (3 : Int32) → post) ∧ (p0 = (3 : Int32) → False)) ∧ (p0 = (2 : Int32) → False)) ∧ (p0 = (1 : Int32) → False)
set_option maxHeartbeats 4000000 in
set_option maxRecDepth 100000 in
theorem c_X3_refuse (l : Launch) (D : va_G) (cI cS cJ : ClassId)  (H0 : Heap) (p0 : Int32) {post : Prop} (h : wp_X3_refuse p0 post) : Met l yX3_refuse (wsA yX3_refuse cX3_refuse 1 none) rm_X3_refuse (va_Pc [.int p0] (roP D (tysA cI cS cJ) ([]) H0)) (va_Qv (fun (_ : Unit) => post) (fun _ t => t.heap = H0) nF) 0 0 nF := by
  refine mkROv (by decide +kernel) (Nat.le_of_ble_eq_true rfl) (fun {p e s m args below meth c Q ls} hx hb F hts hown hK hP hl hQ => ?_)
  have hown : s.vm.findClass RX3 = some m.cls := hown
  have F : CallFix p m c cX3_refuse 1 s args wsT RX3 := F
  have hl : lv_has ls 1 [(0, .int p0)] := hl
  unfold wp_X3_refuse at h
  refine lv_iload_n hx hb dX3_refuse_0 rfl (lv_at hl 0 rfl) ?_
  refine lv_iconst (v := (1 : Int32)) hx hb dX3_refuse_1 (by decide) ?_
  refine lv_icmp_ne (tgt := 15) hx hb dX3_refuse_2 (by decide) (fun c1 => ?_) (fun c1 => ?_)
  · replace h := h.1 c1
    refine lv_iload_n hx hb dX3_refuse_15 rfl (lv_at hl 0 rfl) ?_
    refine lv_iconst (v := (2 : Int32)) hx hb dX3_refuse_16 (by decide) ?_
    refine lv_icmp_ne (tgt := 30) hx hb dX3_refuse_17 (by decide) (fun c2 => ?_) (fun c2 => ?_)
    · replace h := h.1 c2
      refine lv_iload_n hx hb dX3_refuse_30 rfl (lv_at hl 0 rfl) ?_
      refine lv_iconst (v := (3 : Int32)) hx hb dX3_refuse_31 (by decide) ?_
      refine lv_icmp_ne (tgt := 45) hx hb dX3_refuse_32 (by decide) (fun c3 => ?_) (fun c3 => ?_)
      · replace h := h.1 c3
        exact hQ h dX3_refuse_45
      · replace h := h.2 c3
        exact h.elim
    · replace h := h.2 c2
      exact h.elim
  · replace h := h.2 c1
    exact h.elim

def wp_X3_isBetween  (p0 : Int32) (p1 : Int32) (p2 : Int32) (post : Int32 → Prop) : Prop :=
  (p0 < p1 → post (0 : Int32)) ∧ (¬ p0 < p1 → (p2 < p0 → post (0 : Int32)) ∧ (¬ p2 < p0 → post (1 : Int32)))
set_option maxHeartbeats 4000000 in
set_option maxRecDepth 100000 in
theorem c_X3_isBetween (l : Launch) (D : va_G) (cI cS cJ : ClassId)  (H0 : Heap) (p0 : Int32) (p1 : Int32) (p2 : Int32) {post : Int32 → Prop} (h : wp_X3_isBetween p0 p1 p2 post) : Met l yX3_isBetween (wsA yX3_isBetween cX3_isBetween 3 (some .boolean)) rm_X3_isBetween (va_Pc [.int p0, .int p1, .int p2] (roP D (tysA cI cS cJ) ([]) H0)) (va_Qi (fun r (_ : Unit) => bz r ∧ post r) (fun _ t => t.heap = H0) nF) 0 0 nF := by
  refine mkROz (by decide +kernel) (Nat.le_of_ble_eq_true rfl) (fun {p e s m args below meth c Q ls} hx hb F hts hown hK hP hl hQ => ?_)
  have hown : s.vm.findClass RX3 = some m.cls := hown
  have F : CallFix p m c cX3_isBetween 3 s args wsT RX3 := F
  have hl : lv_has ls 3 [(0, .int p0), (1, .int p1), (2, .int p2)] := hl
  unfold wp_X3_isBetween at h
  refine lv_iload_n hx hb dX3_isBetween_0 rfl (lv_at hl 0 rfl) ?_
  refine lv_iload_n hx hb dX3_isBetween_1 rfl (lv_at hl 1 rfl) ?_
  refine lv_icmp_lt (tgt := 14) hx hb dX3_isBetween_2 (by decide) (fun c1 => ?_) (fun c1 => ?_)
  · replace h := h.1 c1
    refine lv_iconst (v := (0 : Int32)) hx hb dX3_isBetween_14 (by decide) ?_
    exact hQ bz0 h dX3_isBetween_15
  · replace h := h.2 c1
    refine lv_iload_n hx hb dX3_isBetween_5 rfl (lv_at hl 0 rfl) ?_
    refine lv_iload_n hx hb dX3_isBetween_6 rfl (lv_at hl 2 rfl) ?_
    refine lv_icmp_gt (tgt := 14) hx hb dX3_isBetween_7 (by decide) (fun c2 => ?_) (fun c2 => ?_)
    · replace h := h.1 c2
      refine lv_iconst (v := (0 : Int32)) hx hb dX3_isBetween_14 (by decide) ?_
      exact hQ bz0 h dX3_isBetween_15
    · replace h := h.2 c2
      refine lv_iconst (v := (1 : Int32)) hx hb dX3_isBetween_10 (by decide) ?_
      refine lv_goto (tgt := 15) hx hb dX3_isBetween_11 (by decide) ?_
      exact hQ bz1 h dX3_isBetween_15

def wp_X3_innFault  (p0 : Int32) (post : Int32 → Prop) : Prop :=
  wp_X3_isBetween p0 (0 : Int32) (7 : Int32) (fun r1 => (r1 = 0 → post (1 : Int32)) ∧ (¬ r1 = 0 → post (0 : Int32)))
set_option maxHeartbeats 4000000 in
set_option maxRecDepth 100000 in
theorem c_X3_innFault (l : Launch) (D : va_G) (cI cS cJ : ClassId)  (H0 : Heap) (p0 : Int32) {post : Int32 → Prop} (h : wp_X3_innFault p0 post) : Met l yX3_innFault (wsA yX3_innFault cX3_innFault 1 (some .int)) rm_X3_innFault (va_Pc [.int p0] (roP D (tysA cI cS cJ) ([]) H0)) (va_Qi (fun r (_ : Unit) => post r) (fun _ t => t.heap = H0) nF) 0 0 nF := by
  refine mkROi (by decide +kernel) (Nat.le_of_ble_eq_true rfl) (fun {p e s m args below meth c Q ls} hx hb F hts hown hK hP hl hQ => ?_)
  have hown : s.vm.findClass RX3 = some m.cls := hown
  have F : CallFix p m c cX3_innFault 1 s args wsT RX3 := F
  have hl : lv_has ls 1 [(0, .int p0)] := hl
  unfold wp_X3_innFault at h
  refine lv_iload_n hx hb dX3_innFault_0 rfl (lv_at hl 0 rfl) ?_
  refine lv_iconst (v := (0 : Int32)) hx hb dX3_innFault_1 (by decide) ?_
  refine lv_bipush (v := (7 : Int32)) hx hb dX3_innFault_2 (by decide) ?_
  refine roSi (As := [.int p0, .int (0 : Int32), .int (7 : Int32)]) (rest := []) F (c_X3_isBetween l D cI cS cJ H0 p0 (0 : Int32) (7 : Int32) h) (cw_X3_96 hts (Nat.le_of_ble_eq_true rfl) (Nat.le_of_ble_eq_true rfl)) hK vP_nil rfl hl.1 rfl (Nat.le_of_ble_eq_true rfl) dX3_innFault_4 ⟨Nat.zero_le _, Nat.zero_le _⟩ (fun r1 h => ?_)
  obtain ⟨b2, h⟩ := h
  refine lv_if_eq (tgt := 14) hx hb dX3_innFault_7 (by decide) (fun c3 => ?_) (fun c3 => ?_)
  · replace h := h.1 c3
    refine lv_iconst (v := (1 : Int32)) hx hb dX3_innFault_14 (by decide) ?_
    exact hQ h dX3_innFault_15
  · replace h := h.2 c3
    refine lv_iconst (v := (0 : Int32)) hx hb dX3_innFault_10 (by decide) ?_
    refine lv_goto (tgt := 15) hx hb dX3_innFault_11 (by decide) ?_
    exact hQ h dX3_innFault_15

def wp_X3_hallFault  (p0 : Int32) (post : Int32 → Prop) : Prop :=
  wp_X3_isBetween p0 (0 : Int32) (3 : Int32) (fun r1 => (r1 = 0 → post (1 : Int32)) ∧ (¬ r1 = 0 → post (0 : Int32)))
set_option maxHeartbeats 4000000 in
set_option maxRecDepth 100000 in
theorem c_X3_hallFault (l : Launch) (D : va_G) (cI cS cJ : ClassId)  (H0 : Heap) (p0 : Int32) {post : Int32 → Prop} (h : wp_X3_hallFault p0 post) : Met l yX3_hallFault (wsA yX3_hallFault cX3_hallFault 1 (some .int)) rm_X3_hallFault (va_Pc [.int p0] (roP D (tysA cI cS cJ) ([]) H0)) (va_Qi (fun r (_ : Unit) => post r) (fun _ t => t.heap = H0) nF) 0 0 nF := by
  refine mkROi (by decide +kernel) (Nat.le_of_ble_eq_true rfl) (fun {p e s m args below meth c Q ls} hx hb F hts hown hK hP hl hQ => ?_)
  have hown : s.vm.findClass RX3 = some m.cls := hown
  have F : CallFix p m c cX3_hallFault 1 s args wsT RX3 := F
  have hl : lv_has ls 1 [(0, .int p0)] := hl
  unfold wp_X3_hallFault at h
  refine lv_iload_n hx hb dX3_hallFault_0 rfl (lv_at hl 0 rfl) ?_
  refine lv_iconst (v := (0 : Int32)) hx hb dX3_hallFault_1 (by decide) ?_
  refine lv_iconst (v := (3 : Int32)) hx hb dX3_hallFault_2 (by decide) ?_
  refine roSi (As := [.int p0, .int (0 : Int32), .int (3 : Int32)]) (rest := []) F (c_X3_isBetween l D cI cS cJ H0 p0 (0 : Int32) (3 : Int32) h) (cw_X3_96 hts (Nat.le_of_ble_eq_true rfl) (Nat.le_of_ble_eq_true rfl)) hK vP_nil rfl hl.1 rfl (Nat.le_of_ble_eq_true rfl) dX3_hallFault_3 ⟨Nat.zero_le _, Nat.zero_le _⟩ (fun r1 h => ?_)
  obtain ⟨b2, h⟩ := h
  refine lv_if_eq (tgt := 13) hx hb dX3_hallFault_6 (by decide) (fun c3 => ?_) (fun c3 => ?_)
  · replace h := h.1 c3
    refine lv_iconst (v := (1 : Int32)) hx hb dX3_hallFault_13 (by decide) ?_
    exact hQ h dX3_hallFault_14
  · replace h := h.2 c3
    refine lv_iconst (v := (0 : Int32)) hx hb dX3_hallFault_9 (by decide) ?_
    refine lv_goto (tgt := 14) hx hb dX3_hallFault_10 (by decide) ?_
    exact hQ h dX3_hallFault_14

def wp_X3_isBody  (p0 : Int32) (post : Int32 → Prop) : Prop :=
  wp_X3_isBetween p0 (0 : Int32) (9999 : Int32) (fun r1 => post r1)
set_option maxHeartbeats 4000000 in
set_option maxRecDepth 100000 in
theorem c_X3_isBody (l : Launch) (D : va_G) (cI cS cJ : ClassId)  (H0 : Heap) (p0 : Int32) {post : Int32 → Prop} (h : wp_X3_isBody p0 post) : Met l yX3_isBody (wsA yX3_isBody cX3_isBody 1 (some .boolean)) rm_X3_isBody (va_Pc [.int p0] (roP D (tysA cI cS cJ) ([]) H0)) (va_Qi (fun r (_ : Unit) => bz r ∧ post r) (fun _ t => t.heap = H0) nF) 0 0 nF := by
  refine mkROz (by decide +kernel) (Nat.le_of_ble_eq_true rfl) (fun {p e s m args below meth c Q ls} hx hb F hts hown hK hP hl hQ => ?_)
  have hown : s.vm.findClass RX3 = some m.cls := hown
  have F : CallFix p m c cX3_isBody 1 s args wsT RX3 := F
  have hl : lv_has ls 1 [(0, .int p0)] := hl
  unfold wp_X3_isBody at h
  refine lv_iload_n hx hb dX3_isBody_0 rfl (lv_at hl 0 rfl) ?_
  refine lv_iconst (v := (0 : Int32)) hx hb dX3_isBody_1 (by decide) ?_
  refine lv_sipush (v := (9999 : Int32)) hx hb dX3_isBody_2 (by decide) ?_
  refine roSi (As := [.int p0, .int (0 : Int32), .int (9999 : Int32)]) (rest := []) F (c_X3_isBetween l D cI cS cJ H0 p0 (0 : Int32) (9999 : Int32) h) (cw_X3_96 hts (Nat.le_of_ble_eq_true rfl) (Nat.le_of_ble_eq_true rfl)) hK vP_nil rfl hl.1 rfl (Nat.le_of_ble_eq_true rfl) dX3_isBody_5 ⟨Nat.zero_le _, Nat.zero_le _⟩ (fun r1 h => ?_)
  obtain ⟨b2, h⟩ := h
  exact hQ b2 h dX3_isBody_8

def wp_X3_innAndBodyFault  (p0 : Int32) (p1 : Int32) (post : Int32 → Prop) : Prop :=
  wp_X3_innFault p0 (fun r1 => (r1 = 0 → wp_X3_isBody p1 (fun r3 => (r3 = 0 → post (2 : Int32)) ∧ (¬ r3 = 0 → post (0 : Int32)))) ∧ (¬ r1 = 0 → post (1 : Int32)))
set_option maxHeartbeats 4000000 in
set_option maxRecDepth 100000 in
theorem c_X3_innAndBodyFault (l : Launch) (D : va_G) (cI cS cJ : ClassId)  (H0 : Heap) (p0 : Int32) (p1 : Int32) {post : Int32 → Prop} (h : wp_X3_innAndBodyFault p0 p1 post) : Met l yX3_innAndBodyFault (wsA yX3_innAndBodyFault cX3_innAndBodyFault 2 (some .int)) rm_X3_innAndBodyFault (va_Pc [.int p0, .int p1] (roP D (tysA cI cS cJ) ([]) H0)) (va_Qi (fun r (_ : Unit) => post r) (fun _ t => t.heap = H0) nF) 0 0 nF := by
  refine mkROi (by decide +kernel) (Nat.le_of_ble_eq_true rfl) (fun {p e s m args below meth c Q ls} hx hb F hts hown hK hP hl hQ => ?_)
  have hown : s.vm.findClass RX3 = some m.cls := hown
  have F : CallFix p m c cX3_innAndBodyFault 2 s args wsT RX3 := F
  have hl : lv_has ls 2 [(0, .int p0), (1, .int p1)] := hl
  unfold wp_X3_innAndBodyFault at h
  refine lv_iload_n hx hb dX3_innAndBodyFault_0 rfl (lv_at hl 0 rfl) ?_
  refine roSi (As := [.int p0]) (rest := []) F (c_X3_innFault l D cI cS cJ H0 p0 h) (cw_X3_30 hts (Nat.le_of_ble_eq_true rfl) (Nat.le_of_ble_eq_true rfl)) hK vP_nil rfl hl.1 rfl (Nat.le_of_ble_eq_true rfl) dX3_innAndBodyFault_1 ⟨Nat.zero_le _, Nat.zero_le _⟩ (fun r1 h => ?_)
  refine lv_if_eq (tgt := 9) hx hb dX3_innAndBodyFault_4 (by decide) (fun c2 => ?_) (fun c2 => ?_)
  · replace h := h.1 c2
    refine lv_iload_n hx hb dX3_innAndBodyFault_9 rfl (lv_at hl 1 rfl) ?_
    refine roSi (As := [.int p1]) (rest := []) F (c_X3_isBody l D cI cS cJ H0 p1 h) (cw_X3_239 hts (Nat.le_of_ble_eq_true rfl) (Nat.le_of_ble_eq_true rfl)) hK vP_nil rfl hl.1 rfl (Nat.le_of_ble_eq_true rfl) dX3_innAndBodyFault_10 ⟨Nat.zero_le _, Nat.zero_le _⟩ (fun r3 h => ?_)
    obtain ⟨b4, h⟩ := h
    refine lv_if_eq (tgt := 20) hx hb dX3_innAndBodyFault_13 (by decide) (fun c5 => ?_) (fun c5 => ?_)
    · replace h := h.1 c5
      refine lv_iconst (v := (2 : Int32)) hx hb dX3_innAndBodyFault_20 (by decide) ?_
      exact hQ h dX3_innAndBodyFault_21
    · replace h := h.2 c5
      refine lv_iconst (v := (0 : Int32)) hx hb dX3_innAndBodyFault_16 (by decide) ?_
      refine lv_goto (tgt := 21) hx hb dX3_innAndBodyFault_17 (by decide) ?_
      exact hQ h dX3_innAndBodyFault_21
  · replace h := h.2 c2
    refine lv_iconst (v := (1 : Int32)) hx hb dX3_innAndBodyFault_7 (by decide) ?_
    exact hQ h dX3_innAndBodyFault_8

def wp_X3_mixed  (p0 : Int64) (p2 : Int32) (post : Int64 → Prop) : Prop :=
  post (((31 : Int64) * p0) + (Int32.toInt64 p2))
set_option maxHeartbeats 4000000 in
set_option maxRecDepth 100000 in
theorem c_X3_mixed (l : Launch) (D : va_G) (cI cS cJ : ClassId)  (H0 : Heap) (p0 : Int64) (p2 : Int32) {post : Int64 → Prop} (h : wp_X3_mixed p0 p2 post) : Met l yX3_mixed (wsA yX3_mixed cX3_mixed 3 (some .long)) rm_X3_mixed (va_Pc [.long p0, .int p2] (roP D (tysA cI cS cJ) ([]) H0)) (va_Ql (fun r (_ : Unit) => post r) (fun _ t => t.heap = H0) nF) 0 0 nF := by
  refine mkROl (by decide +kernel) (Nat.le_of_ble_eq_true rfl) (fun {p e s m args below meth c Q ls} hx hb F hts hown hK hP hl hQ => ?_)
  have hown : s.vm.findClass RX3 = some m.cls := hown
  have F : CallFix p m c cX3_mixed 3 s args wsT RX3 := F
  have hl : lv_has ls 3 [(0, .long p0), (2, .int p2)] := hl
  unfold wp_X3_mixed at h
  refine lv_ldc2 (v := (31 : Int64)) hx hb hown (hts _ q_251) dX3_mixed_0 ?_
  refine lv_lload_n hx hb dX3_mixed_3 rfl (lv_at hl 0 rfl) ?_
  refine lv_lmul hx hb dX3_mixed_4 ?_
  refine lv_iload_n hx hb dX3_mixed_5 rfl (lv_at hl 1 rfl) ?_
  refine lv_i2l (v := (Int32.toInt64 p2)) hx hb dX3_mixed_6 rfl ?_
  refine lv_ladd hx hb dX3_mixed_7 ?_
  exact hQ h dX3_mixed_8

def wp_X3_mixedRow (n0 : Nat) (f0 : Nat → Int32) (p0 : Int64) (post : Int64 → Prop) : Prop :=
  LP2 (fun (K3 : Int64 → Int32 → Prop) (x1 : Int64) (x2 : Int32) => ((nI n0) ≤ x2 → post x1) ∧ (¬ (nI n0) ≤ x2 → (vp_in x2 n0) ∧ (wp_X3_mixed x1 (f0 (Int32.toNatClampNeg x2)) (fun r6 => K3 r6 (x2 + 1))))) p0 (0 : Int32)
set_option maxHeartbeats 4000000 in
set_option maxRecDepth 100000 in
theorem c_X3_mixedRow (l : Launch) (D : va_G) (cI cS cJ : ClassId) (r0 : Nat) (n0 : Nat) (f0 : Nat → Int32) (H0 : Heap) (p0 : Int64) {post : Int64 → Prop} (h : wp_X3_mixedRow n0 f0 p0 post) : Met l yX3_mixedRow (wsA yX3_mixedRow cX3_mixedRow 6 (some .long)) rm_X3_mixedRow (va_Pc [.long p0, .ref r0] (roP D (tysA cI cS cJ) ([(r0, .inl (cI, n0, .inl f0))]) H0)) (va_Ql (fun r (_ : Unit) => post r) (fun _ t => t.heap = H0) nF) 0 0 nF := by
  refine mkROl (by decide +kernel) (Nat.le_of_ble_eq_true rfl) (fun {p e s m args below meth c Q ls} hx hb F hts hown hK hP hl hQ => ?_)
  have hown : s.vm.findClass RX3 = some m.cls := hown
  have F : CallFix p m c cX3_mixedRow 6 s args wsT RX3 := F
  have hl : lv_has ls 6 [(0, .long p0), (2, .ref r0)] := hl
  unfold wp_X3_mixedRow at h
  refine lv_lload_n hx hb dX3_mixedRow_0 rfl (lv_at hl 0 rfl) ?_
  refine lv_lstore_n (lv' := [(3, .long p0), (0, .long p0), (2, .ref r0)]) hx hb dX3_mixedRow_1 rfl hl (by decide) rfl (fun ls hl => ?_)
  refine lv_iconst (v := (0 : Int32)) hx hb dX3_mixedRow_2 (by decide) ?_
  refine lv_istore (lv' := [(5, .int (0 : Int32)), (3, .long p0), (0, .long p0), (2, .ref r0)]) hx hb dX3_mixedRow_3 hl (by decide) rfl (fun ls hl => ?_)
  refine lpu2 h (fun K3 : Int64 → Int32 → Prop => ∀ (x1 : Int64) (x2 : Int32) (ls : Array Slot), lv_has ls 6 [(2, .ref r0), (3, .long x1), (5, .int x2)] → K3 x1 x2 → W p l e rm_X3_mixedRow s m args below meth c H0 [] 0 0 Q (F0 m 5 ls [])) ?_ ?_ ?_
  · intro x1 x2 ls hl h
    exact h.elim
  · intro K3
    intro w4 x1 x2 ls hl h
    refine lv_iload hx hb dX3_mixedRow_5 (lv_at hl 2 rfl) ?_
    refine lv_aload_n hx hb dX3_mixedRow_7 rfl (lv_at hl 0 rfl) ?_
    refine va_alen (v := (nI n0)) hx hb hK.k hP 0 0 rfl rfl rfl dX3_mixedRow_8 ?_
    refine lv_icmp_ge (tgt := 27) hx hb dX3_mixedRow_9 (by decide) (fun c5 => ?_) (fun c5 => ?_)
    · replace h := h.1 c5
      refine lv_lload_n hx hb dX3_mixedRow_27 rfl (lv_at hl 1 rfl) ?_
      exact hQ h dX3_mixedRow_28
    · replace h := h.2 c5
      refine lv_lload_n hx hb dX3_mixedRow_12 rfl (lv_at hl 1 rfl) ?_
      refine lv_aload_n hx hb dX3_mixedRow_13 rfl (lv_at hl 0 rfl) ?_
      refine lv_iload hx hb dX3_mixedRow_14 (lv_at hl 2 rfl) ?_
      refine va_iald hx hb hK.k hP 0 0 rfl rfl h.1 dX3_mixedRow_16 ?_
      replace h := h.2
      refine roSl (As := [.long x1, .int (f0 (Int32.toNatClampNeg x2))]) (rest := []) F (c_X3_mixed l D cI cS cJ H0 x1 (f0 (Int32.toNatClampNeg x2)) h) (cw_X3_212 hts (Nat.le_of_ble_eq_true rfl) (Nat.le_of_ble_eq_true rfl)) hK vP_nil rfl hl.1 rfl (Nat.le_of_ble_eq_true rfl) dX3_mixedRow_17 ⟨Nat.zero_le _, Nat.zero_le _⟩ (fun r6 h => ?_)
      refine lv_lstore_n (lv' := [(3, .long r6), (2, .ref r0), (5, .int x2)]) hx hb dX3_mixedRow_20 rfl hl (by decide) rfl (fun ls hl => ?_)
      refine lv_iinc (v := (x2 + 1)) (lv' := [(5, .int (x2 + 1)), (3, .long r6), (2, .ref r0)]) hx hb dX3_mixedRow_21 hl (k := 2) rfl rfl (by decide) rfl (fun ls hl => ?_)
      refine lv_goto (tgt := 5) hx hb dX3_mixedRow_24 (by decide) ?_
      exact w4 r6 (x2 + 1) _ (lv_sub hl [2, 1, 0] rfl) h
  · intro K3 w4 h
    exact w4 p0 (0 : Int32) _ (lv_sub hl [3, 1, 0] rfl) h

def wp_X3_covered  (p0 : Int32) (p1 : Int32) (post : Int32 → Prop) : Prop :=
  wp_J9_floorMod_7cf53 (((7 : Int32) * p0) + p1) (10000 : Int32) (fun r1 => post r1)
set_option maxHeartbeats 4000000 in
set_option maxRecDepth 100000 in
theorem c_X3_covered (l : Launch) (D : va_G) (cI cS cJ : ClassId)  (H0 : Heap) (p0 : Int32) (p1 : Int32) {post : Int32 → Prop} (h : wp_X3_covered p0 p1 post) : Met l yX3_covered (wsA yX3_covered cX3_covered 2 (some .int)) rm_X3_covered (va_Pc [.int p0, .int p1] (roP D (tysA cI cS cJ) ([]) H0)) (va_Qi (fun r (_ : Unit) => post r) (fun _ t => t.heap = H0) nF) 0 0 nF := by
  refine mkROi (by decide +kernel) (Nat.le_of_ble_eq_true rfl) (fun {p e s m args below meth c Q ls} hx hb F hts hown hK hP hl hQ => ?_)
  have hown : s.vm.findClass RX3 = some m.cls := hown
  have F : CallFix p m c cX3_covered 2 s args wsT RX3 := F
  have hl : lv_has ls 2 [(0, .int p0), (1, .int p1)] := hl
  unfold wp_X3_covered at h
  refine lv_bipush (v := (7 : Int32)) hx hb dX3_covered_0 (by decide) ?_
  refine lv_iload_n hx hb dX3_covered_2 rfl (lv_at hl 0 rfl) ?_
  refine lv_imul hx hb dX3_covered_3 ?_
  refine lv_iload_n hx hb dX3_covered_4 rfl (lv_at hl 1 rfl) ?_
  refine lv_iadd hx hb dX3_covered_5 ?_
  refine lv_sipush (v := (10000 : Int32)) hx hb dX3_covered_6 (by decide) ?_
  refine roSi (As := [.int (((7 : Int32) * p0) + p1), .int (10000 : Int32)]) (rest := []) F (c_J9_floorMod_7cf53 l D cI cS cJ H0 (((7 : Int32) * p0) + p1) (10000 : Int32) h) (cw_X3_263 hts (Nat.le_of_ble_eq_true rfl) (Nat.le_of_ble_eq_true rfl)) hK vP_nil rfl hl.1 rfl (Nat.le_of_ble_eq_true rfl) dX3_covered_9 ⟨Nat.zero_le _, Nat.zero_le _⟩ (fun r1 h => ?_)
  exact hQ h dX3_covered_12

def wp_X3_uncovered  (p0 : Int32) (p1 : Int32) (post : Int32 → Prop) : Prop :=
  wp_J9_floorMod_7cf53 ((7143 : Int32) * (p0 - p1)) (10000 : Int32) (fun r1 => post r1)
set_option maxHeartbeats 4000000 in
set_option maxRecDepth 100000 in
theorem c_X3_uncovered (l : Launch) (D : va_G) (cI cS cJ : ClassId)  (H0 : Heap) (p0 : Int32) (p1 : Int32) {post : Int32 → Prop} (h : wp_X3_uncovered p0 p1 post) : Met l yX3_uncovered (wsA yX3_uncovered cX3_uncovered 2 (some .int)) rm_X3_uncovered (va_Pc [.int p0, .int p1] (roP D (tysA cI cS cJ) ([]) H0)) (va_Qi (fun r (_ : Unit) => post r) (fun _ t => t.heap = H0) nF) 0 0 nF := by
  refine mkROi (by decide +kernel) (Nat.le_of_ble_eq_true rfl) (fun {p e s m args below meth c Q ls} hx hb F hts hown hK hP hl hQ => ?_)
  have hown : s.vm.findClass RX3 = some m.cls := hown
  have F : CallFix p m c cX3_uncovered 2 s args wsT RX3 := F
  have hl : lv_has ls 2 [(0, .int p0), (1, .int p1)] := hl
  unfold wp_X3_uncovered at h
  refine lv_sipush (v := (7143 : Int32)) hx hb dX3_uncovered_0 (by decide) ?_
  refine lv_iload_n hx hb dX3_uncovered_3 rfl (lv_at hl 0 rfl) ?_
  refine lv_iload_n hx hb dX3_uncovered_4 rfl (lv_at hl 1 rfl) ?_
  refine lv_isub hx hb dX3_uncovered_5 ?_
  refine lv_imul hx hb dX3_uncovered_6 ?_
  refine lv_sipush (v := (10000 : Int32)) hx hb dX3_uncovered_7 (by decide) ?_
  refine roSi (As := [.int ((7143 : Int32) * (p0 - p1)), .int (10000 : Int32)]) (rest := []) F (c_J9_floorMod_7cf53 l D cI cS cJ H0 ((7143 : Int32) * (p0 - p1)) (10000 : Int32) h) (cw_X3_263 hts (Nat.le_of_ble_eq_true rfl) (Nat.le_of_ble_eq_true rfl)) hK vP_nil rfl hl.1 rfl (Nat.le_of_ble_eq_true rfl) dX3_uncovered_10 ⟨Nat.zero_le _, Nat.zero_le _⟩ (fun r1 h => ?_)
  exact hQ h dX3_uncovered_13

def wp_X3_read (n0 : Nat) (f0 : Nat → Int32) (p1 : Int32) (post : Int32 → Prop) : Prop :=
  (p1 < 0 → post (0 : Int32)) ∧ (¬ p1 < 0 → ((nI n0) ≤ p1 → post (0 : Int32)) ∧ (¬ (nI n0) ≤ p1 → (vp_in p1 n0) ∧ (post (f0 (Int32.toNatClampNeg p1)))))
set_option maxHeartbeats 4000000 in
set_option maxRecDepth 100000 in
theorem c_X3_read (l : Launch) (D : va_G) (cI cS cJ : ClassId) (r0 : Nat) (n0 : Nat) (f0 : Nat → Int32) (H0 : Heap) (p1 : Int32) {post : Int32 → Prop} (h : wp_X3_read n0 f0 p1 post) : Met l yX3_read (wsA yX3_read cX3_read 2 (some .int)) rm_X3_read (va_Pc [.ref r0, .int p1] (roP D (tysA cI cS cJ) ([(r0, .inl (cI, n0, .inl f0))]) H0)) (va_Qi (fun r (_ : Unit) => post r) (fun _ t => t.heap = H0) nF) 0 0 nF := by
  refine mkROi (by decide +kernel) (Nat.le_of_ble_eq_true rfl) (fun {p e s m args below meth c Q ls} hx hb F hts hown hK hP hl hQ => ?_)
  have hown : s.vm.findClass RX3 = some m.cls := hown
  have F : CallFix p m c cX3_read 2 s args wsT RX3 := F
  have hl : lv_has ls 2 [(0, .ref r0), (1, .int p1)] := hl
  unfold wp_X3_read at h
  refine lv_iload_n hx hb dX3_read_0 rfl (lv_at hl 1 rfl) ?_
  refine lv_if_lt (tgt := 16) hx hb dX3_read_1 (by decide) (fun c1 => ?_) (fun c1 => ?_)
  · replace h := h.1 c1
    refine lv_iconst (v := (0 : Int32)) hx hb dX3_read_16 (by decide) ?_
    exact hQ h dX3_read_17
  · replace h := h.2 c1
    refine lv_iload_n hx hb dX3_read_4 rfl (lv_at hl 1 rfl) ?_
    refine lv_aload_n hx hb dX3_read_5 rfl (lv_at hl 0 rfl) ?_
    refine va_alen (v := (nI n0)) hx hb hK.k hP 0 0 rfl rfl rfl dX3_read_6 ?_
    refine lv_icmp_ge (tgt := 16) hx hb dX3_read_7 (by decide) (fun c2 => ?_) (fun c2 => ?_)
    · replace h := h.1 c2
      refine lv_iconst (v := (0 : Int32)) hx hb dX3_read_16 (by decide) ?_
      exact hQ h dX3_read_17
    · replace h := h.2 c2
      refine lv_aload_n hx hb dX3_read_10 rfl (lv_at hl 0 rfl) ?_
      refine lv_iload_n hx hb dX3_read_11 rfl (lv_at hl 1 rfl) ?_
      refine va_iald hx hb hK.k hP 0 0 rfl rfl h.1 dX3_read_12 ?_
      replace h := h.2
      refine lv_goto (tgt := 17) hx hb dX3_read_13 (by decide) ?_
      exact hQ h dX3_read_17

def wp_X3_write (n0 : Nat) (f0 : Nat → Int32) (p1 : Int32) (p2 : Int32) (post : (Nat → Int32) → Prop) : Prop :=
  (p1 < 0 → post f0) ∧ (¬ p1 < 0 → ((nI n0) ≤ p1 → post f0) ∧ (¬ (nI n0) ≤ p1 → (vp_in p1 n0) ∧ (post (upd f0 (Int32.toNatClampNeg p1) p2))))
set_option maxHeartbeats 4000000 in
set_option maxRecDepth 100000 in
theorem c_X3_write (l : Launch) (D : va_G) (cI cS cJ : ClassId) (r0 : Nat) (n0 : Nat) (f0 : Nat → Int32) (sz : Nat) (p1 : Int32) (p2 : Int32) {post : (Nat → Int32) → Prop} (h : wp_X3_write n0 f0 p1 p2 post) : Met l yX3_write (wsA yX3_write cX3_write 3 none) rm_X3_write (va_Pc [.ref r0, .int p1, .int p2] (rwP D (tysA cI cS cJ) ([(r0, .inl (cI, n0, .inl f0))]) sz)) (va_Qv post (fun u9 t => va_P D vwCl ((fun f9 => [(r0, .inl (cI, n0, .inl f9))]) u9) t.heap ∧ va_D (va_A ([(r0, .inl (cI, n0, .inl f0))]) sz) ((fun f9 => [(r0, .inl (cI, n0, .inl f9))]) u9)) (va_A ([(r0, .inl (cI, n0, .inl f0))]) sz)) 0 0 (va_A ([(r0, .inl (cI, n0, .inl f0))]) sz) := by
  refine mkRWv (wf := (fun f9 => [(r0, .inl (cI, n0, .inl f9))])) (by decide +kernel) (Nat.le_of_ble_eq_true rfl) (fun {p e s m args below meth c Q ls A H0 H locs} hx hb F hts hown hin hK hP hD hS hA hl hQ => ?_)
  have hown : s.vm.findClass RX3 = some m.cls := hown
  have F : CallFix p m c cX3_write 3 s args wsT RX3 := F
  have hl : lv_has ls 3 [(0, .ref r0), (1, .int p1), (2, .int p2)] := hl
  unfold wp_X3_write at h
  refine lv_iload_n hx hb dX3_write_0 rfl (lv_at hl 1 rfl) ?_
  refine lv_if_lt (tgt := 14) hx hb dX3_write_1 (by decide) (fun c1 => ?_) (fun c1 => ?_)
  · replace h := h.1 c1
    exact hQ h hP hD hS dX3_write_14
  · replace h := h.2 c1
    refine lv_iload_n hx hb dX3_write_4 rfl (lv_at hl 1 rfl) ?_
    refine lv_aload_n hx hb dX3_write_5 rfl (lv_at hl 0 rfl) ?_
    refine va_alen (v := (nI n0)) hx hb hK.k hP 0 0 rfl rfl rfl dX3_write_6 ?_
    refine lv_icmp_ge (tgt := 14) hx hb dX3_write_7 (by decide) (fun c2 => ?_) (fun c2 => ?_)
    · replace h := h.1 c2
      exact hQ h hP hD hS dX3_write_14
    · replace h := h.2 c2
      refine lv_aload_n hx hb dX3_write_10 rfl (lv_at hl 0 rfl) ?_
      refine lv_iload_n hx hb dX3_write_11 rfl (lv_at hl 1 rfl) ?_
      refine lv_iload_n hx hb dX3_write_12 rfl (lv_at hl 2 rfl) ?_
      refine va_iast hx hb hK.k hP hD hS 0 0 rfl rfl h.1 dX3_write_13 (fun H locs hP hD hS => ?_)
      replace h := h.2
      have hP : va_P D vwCl ([(r0, .inl (cI, n0, .inl (upd f0 (Int32.toNatClampNeg p1) p2)))]) H := hP
      have hD : va_D A ([(r0, .inl (cI, n0, .inl (upd f0 (Int32.toNatClampNeg p1) p2)))]) := hD
      exact hQ h hP hD hS dX3_write_14
end
section
def wp_X2_isInMask  (p0 : Int32) (p1 : Int32) (post : Int32 → Prop) : Prop :=
  (((p0 >>> (p1 &&& 31)) &&& (1 : Int32)) = 0 → post (0 : Int32)) ∧ (¬ ((p0 >>> (p1 &&& 31)) &&& (1 : Int32)) = 0 → post (1 : Int32))
set_option maxHeartbeats 4000000 in
set_option maxRecDepth 100000 in
theorem c_X2_isInMask (l : Launch) (D : va_G) (cI cS cJ : ClassId)  (H0 : Heap) (p0 : Int32) (p1 : Int32) {post : Int32 → Prop} (h : wp_X2_isInMask p0 p1 post) : Met l yX2_isInMask (wsA yX2_isInMask cX2_isInMask 2 (some .boolean)) rm_X2_isInMask (va_Pc [.int p0, .int p1] (roP D (tysA cI cS cJ) ([]) H0)) (va_Qi (fun r (_ : Unit) => bz r ∧ post r) (fun _ t => t.heap = H0) nF) 0 0 nF := by
  refine mkROz (by decide +kernel) (Nat.le_of_ble_eq_true rfl) (fun {p e s m args below meth c Q ls} hx hb F hts hown hK hP hl hQ => ?_)
  have hown : s.vm.findClass RX2 = some m.cls := hown
  have F : CallFix p m c cX2_isInMask 2 s args wsT RX2 := F
  have hl : lv_has ls 2 [(0, .int p0), (1, .int p1)] := hl
  unfold wp_X2_isInMask at h
  refine lv_iload_n hx hb dX2_isInMask_0 rfl (lv_at hl 0 rfl) ?_
  refine lv_iload_n hx hb dX2_isInMask_1 rfl (lv_at hl 1 rfl) ?_
  refine lv_ishr hx hb dX2_isInMask_2 ?_
  refine lv_iconst (v := (1 : Int32)) hx hb dX2_isInMask_3 (by decide) ?_
  refine lv_iand hx hb dX2_isInMask_4 ?_
  refine lv_if_eq (tgt := 12) hx hb dX2_isInMask_5 (by decide) (fun c1 => ?_) (fun c1 => ?_)
  · replace h := h.1 c1
    refine lv_iconst (v := (0 : Int32)) hx hb dX2_isInMask_12 (by decide) ?_
    exact hQ bz0 h dX2_isInMask_13
  · replace h := h.2 c1
    refine lv_iconst (v := (1 : Int32)) hx hb dX2_isInMask_8 (by decide) ?_
    refine lv_goto (tgt := 13) hx hb dX2_isInMask_9 (by decide) ?_
    exact hQ bz1 h dX2_isInMask_13

def wp_X2_hasOpen (u : St) (p1 : Int32) (post : Int32 → Prop) : Prop :=
  wp_X2_isInMask (S_openMask u) p1 (fun r1 => post r1)
set_option maxHeartbeats 4000000 in
set_option maxRecDepth 100000 in
theorem c_X2_hasOpen (l : Launch) (D : va_G) (cI cS cJ : ClassId) (a : Nat → Nat) (u : St) (H0 : Heap) (p1 : Int32) {post : Int32 → Prop} (h : wp_X2_hasOpen u p1 post) : Met l yX2_hasOpen (wsA yX2_hasOpen cX2_hasOpen 2 (some .boolean)) rm_X2_hasOpen (va_Pc [.ref (a 0), .int p1] (roP D (tysA cI cS cJ) (stW cI a u) H0)) (va_Qi (fun r (_ : Unit) => bz r ∧ post r) (fun _ t => t.heap = H0) nF) 0 0 nF := by
  refine mkROz (by decide +kernel) (Nat.le_of_ble_eq_true rfl) (fun {p e s m args below meth c Q ls} hx hb F hts hown hK hP hl hQ => ?_)
  have hown : s.vm.findClass RX2 = some m.cls := hown
  have F : CallFix p m c cX2_hasOpen 2 s args wsT RX2 := F
  have hl : lv_has ls 2 [(0, .ref (a 0)), (1, .int p1)] := hl
  unfold wp_X2_hasOpen at h
  refine lv_aload_n hx hb dX2_hasOpen_0 rfl (lv_at hl 0 rfl) ?_
  refine va_get (D := D) (ci := 2) (v := .int (S_openMask u)) (C := RX2) (T := TX2) (N := 12) hx hb hts inT2 hown hK.k hP 0 rfl rfl 0 (by decide) (hts _ q_53) (fun _ h9 => h9) rfl dX2_hasOpen_1 ?_
  refine lv_iload_n hx hb dX2_hasOpen_4 rfl (lv_at hl 1 rfl) ?_
  refine roSi (As := [.int (S_openMask u), .int p1]) (rest := []) F (c_X2_isInMask l D cI cS cJ H0 (S_openMask u) p1 h) (cw_X2_59 hts (Nat.le_of_ble_eq_true rfl) (Nat.le_of_ble_eq_true rfl)) hK vP_nil rfl hl.1 rfl (Nat.le_of_ble_eq_true rfl) dX2_hasOpen_5 ⟨Nat.zero_le _, Nat.zero_le _⟩ (fun r1 h => ?_)
  obtain ⟨b2, h⟩ := h
  exact hQ b2 h dX2_hasOpen_8

def wp_X2_turn (u : St) (p1 : Int32) (p2 : Int32) (post : St → Prop) : Prop :=
  jn (fun (x1 : Int32) => post (sS_openMask u x1)) (fun (J2 : Int32 → Prop) => (p2 = 0 → J2 ((S_openMask u) &&& (((1 : Int32) <<< (p1 &&& 31)) ^^^ (-1 : Int32)))) ∧ (¬ p2 = 0 → J2 ((S_openMask u) ||| ((1 : Int32) <<< (p1 &&& 31)))))
set_option maxHeartbeats 4000000 in
set_option maxRecDepth 100000 in
theorem c_X2_turn (l : Launch) (D : va_G) (cI cS cJ : ClassId) (a : Nat → Nat) (u : St) (sz : Nat) (p1 : Int32) (p2 : Int32) {post : St → Prop} (h : wp_X2_turn u p1 p2 post) : Met l yX2_turn (wsA yX2_turn cX2_turn 4 none) rm_X2_turn (va_Pc [.ref (a 0), .int p1, .int p2] (rwP D (tysA cI cS cJ) (stW cI a u) sz)) (va_Qv post (fun u9 t => va_P D vwCl ((stW cI a) u9) t.heap ∧ va_D (va_A (stW cI a u) sz) ((stW cI a) u9)) (va_A (stW cI a u) sz)) 0 0 (va_A (stW cI a u) sz) := by
  refine mkRWv (wf := (stW cI a)) (by decide +kernel) (Nat.le_of_ble_eq_true rfl) (fun {p e s m args below meth c Q ls A H0 H locs} hx hb F hts hown hin hK hP hD hS hA hl hQ => ?_)
  have hown : s.vm.findClass RX2 = some m.cls := hown
  have F : CallFix p m c cX2_turn 4 s args wsT RX2 := F
  have hl : lv_has ls 4 [(0, .ref (a 0)), (1, .int p1), (2, .int p2)] := hl
  unfold wp_X2_turn at h
  refine lv_iconst (v := (1 : Int32)) hx hb dX2_turn_0 (by decide) ?_
  refine lv_iload_n hx hb dX2_turn_1 rfl (lv_at hl 1 rfl) ?_
  refine lv_ishl hx hb dX2_turn_2 ?_
  refine lv_istore_n (lv' := [(3, .int ((1 : Int32) <<< (p1 &&& 31))), (0, .ref (a 0)), (1, .int p1), (2, .int p2)]) hx hb dX2_turn_3 rfl hl (by decide) rfl (fun ls hl => ?_)
  refine lv_aload_n hx hb dX2_turn_4 rfl (lv_at hl 1 rfl) ?_
  refine lv_iload_n hx hb dX2_turn_5 rfl (lv_at hl 3 rfl) ?_
  refine jn_e h (fun J2 e4 h => ?_)
  have w3 : ∀ (x1 : Int32) (ls : Array Slot) (H : Heap) (locs : List Loc), lv_has ls 4 [] → va_P D vwCl (stW cI a u) H → va_D A (stW cI a u) → va_S A H0 H locs → J2 x1 → W p l e rm_X2_turn s m args below meth c H locs 0 0 Q (F0 m 26 ls [.int x1, .ref (a 0)]) := by
    intro x1 ls H locs hl hP hD hS h
    subst e4
    refine va_put (D := D) (ci := 2) (v := .int x1) (ty := .int) (C := RX2) (T := TX2) (N := 12) hx hb hts inT2 tyX2 tyX2_ok nmX2 hown hK.k hP hD hS 0 rfl rfl 0 (by decide) (hts _ q_53) (fun _ h9 => h9) rfl (by decide +kernel) rfl rfl (Nat.le_of_ble_eq_true rfl) dX2_turn_26 (fun H locs hP hD hS => ?_)
    have hP : va_P D vwCl (stW cI a (sS_openMask u x1)) H := hP
    have hD : va_D A (stW cI a (sS_openMask u x1)) := hD
    exact hQ h hP hD hS dX2_turn_29
  clear e4
  refine lv_if_eq (tgt := 18) hx hb dX2_turn_6 (by decide) (fun c5 => ?_) (fun c5 => ?_)
  · replace h := h.1 c5
    refine lv_aload_n hx hb dX2_turn_18 rfl (lv_at hl 1 rfl) ?_
    refine va_get (D := D) (ci := 2) (v := .int (S_openMask u)) (C := RX2) (T := TX2) (N := 12) hx hb hts inT2 hown hK.k hP 0 rfl rfl 0 (by decide) (hts _ q_53) (fun _ h9 => h9) rfl dX2_turn_19 ?_
    refine lv_iload_n hx hb dX2_turn_22 rfl (lv_at hl 0 rfl) ?_
    refine lv_iconst (v := (-1 : Int32)) hx hb dX2_turn_23 (by decide) ?_
    refine lv_ixor hx hb dX2_turn_24 ?_
    refine lv_iand hx hb dX2_turn_25 ?_
    exact w3 ((S_openMask u) &&& (((1 : Int32) <<< (p1 &&& 31)) ^^^ (-1 : Int32))) _ _ _ (lv_sub hl [] rfl) hP hD hS h
  · replace h := h.2 c5
    refine lv_aload_n hx hb dX2_turn_9 rfl (lv_at hl 1 rfl) ?_
    refine va_get (D := D) (ci := 2) (v := .int (S_openMask u)) (C := RX2) (T := TX2) (N := 12) hx hb hts inT2 hown hK.k hP 0 rfl rfl 0 (by decide) (hts _ q_53) (fun _ h9 => h9) rfl dX2_turn_10 ?_
    refine lv_iload_n hx hb dX2_turn_13 rfl (lv_at hl 0 rfl) ?_
    refine lv_ior hx hb dX2_turn_14 ?_
    refine lv_goto (tgt := 26) hx hb dX2_turn_15 (by decide) ?_
    exact w3 ((S_openMask u) ||| ((1 : Int32) <<< (p1 &&& 31))) _ _ _ (lv_sub hl [] rfl) hP hD hS h

def wp_X2_putInn (u : St) (p1 : Int32) (p2 : Int32) (p3 : Int32) (post : St → Prop) : Prop :=
  wp_X3_write 18 (S_roadInns u) ((((3 : Int32) * p1) + p2) - (1 : Int32)) p3 (fun f2 => wp_X3_read 8 (S_keys (aS_roadInns u f2)) p3 (fun r3 => wp_X3_write 18 (S_roadKeys (aS_roadInns u f2)) ((((3 : Int32) * p1) + p2) - (1 : Int32)) r3 (fun f5 => post (aS_roadKeys (aS_roadInns u f2) f5))))
set_option maxHeartbeats 4000000 in
set_option maxRecDepth 100000 in
theorem c_X2_putInn (l : Launch) (D : va_G) (cI cS cJ : ClassId) (a : Nat → Nat) (u : St) (sz : Nat) (p1 : Int32) (p2 : Int32) (p3 : Int32) {post : St → Prop} (h : wp_X2_putInn u p1 p2 p3 post) : Met l yX2_putInn (wsA yX2_putInn cX2_putInn 4 none) rm_X2_putInn (va_Pc [.ref (a 0), .int p1, .int p2, .int p3] (rwP D (tysA cI cS cJ) (stW cI a u) sz)) (va_Qv post (fun u9 t => va_P D vwCl ((stW cI a) u9) t.heap ∧ va_D (va_A (stW cI a u) sz) ((stW cI a) u9)) (va_A (stW cI a u) sz)) 0 0 (va_A (stW cI a u) sz) := by
  refine mkRWv (wf := (stW cI a)) (by decide +kernel) (Nat.le_of_ble_eq_true rfl) (fun {p e s m args below meth c Q ls A H0 H locs} hx hb F hts hown hin hK hP hD hS hA hl hQ => ?_)
  have hown : s.vm.findClass RX2 = some m.cls := hown
  have F : CallFix p m c cX2_putInn 4 s args wsT RX2 := F
  have hl : lv_has ls 4 [(0, .ref (a 0)), (1, .int p1), (2, .int p2), (3, .int p3)] := hl
  unfold wp_X2_putInn at h
  refine lv_aload_n hx hb dX2_putInn_0 rfl (lv_at hl 0 rfl) ?_
  refine va_get (D := D) (ci := 2) (v := .ref (a 2)) (C := RX2) (T := TX2) (N := 12) hx hb hts inT2 hown hK.k hP 0 rfl rfl 3 (by decide) (hts _ q_59) (fun _ h9 => h9) rfl dX2_putInn_1 ?_
  refine lv_iconst (v := (3 : Int32)) hx hb dX2_putInn_4 (by decide) ?_
  refine lv_iload_n hx hb dX2_putInn_5 rfl (lv_at hl 1 rfl) ?_
  refine lv_imul hx hb dX2_putInn_6 ?_
  refine lv_iload_n hx hb dX2_putInn_7 rfl (lv_at hl 2 rfl) ?_
  refine lv_iadd hx hb dX2_putInn_8 ?_
  refine lv_iconst (v := (1 : Int32)) hx hb dX2_putInn_9 (by decide) ?_
  refine lv_isub hx hb dX2_putInn_10 ?_
  refine lv_iload_n hx hb dX2_putInn_11 rfl (lv_at hl 3 rfl) ?_
  refine rwNv (wr := List.eraseIdx (stW cI a u) 2) (wf := fun f1 => [((a 2), .inl (cI, 18, .inl f1))]) (As := [.ref (a 2), .int ((((3 : Int32) * p1) + p2) - (1 : Int32)), .int p3]) (rest := []) (perm_k _ 2 rfl) F (c_X3_write l D cI cS cJ (a 2) 18 (S_roadInns u) H.size ((((3 : Int32) * p1) + p2) - (1 : Int32)) p3 h) (cw_X2_67 hts (nw3 hK) (Nat.le_of_ble_eq_true rfl) (Nat.le_of_ble_eq_true rfl)) hK hP hD hS hA rfl hl.1 rfl (Nat.le_of_ble_eq_true rfl) dX2_putInn_12 ⟨Nat.zero_le _, Nat.zero_le _⟩ (fun f2 H locs h hP hD hS => ?_)
  have hP : va_P D vwCl (stW cI a (aS_roadInns u f2)) H := vP_set1 (k := 2) (ws := stW cI a u) rfl hP
  have hD : va_D A (stW cI a (aS_roadInns u f2)) := vD_set1 (k := 2) (ws := stW cI a u) rfl hD
  refine lv_aload_n hx hb dX2_putInn_15 rfl (lv_at hl 0 rfl) ?_
  refine va_get (D := D) (ci := 2) (v := .ref (a 3)) (C := RX2) (T := TX2) (N := 12) hx hb hts inT2 hown hK.k hP 0 rfl rfl 4 (by decide) (hts _ q_60) (fun _ h9 => h9) rfl dX2_putInn_16 ?_
  refine lv_iconst (v := (3 : Int32)) hx hb dX2_putInn_19 (by decide) ?_
  refine lv_iload_n hx hb dX2_putInn_20 rfl (lv_at hl 1 rfl) ?_
  refine lv_imul hx hb dX2_putInn_21 ?_
  refine lv_iload_n hx hb dX2_putInn_22 rfl (lv_at hl 2 rfl) ?_
  refine lv_iadd hx hb dX2_putInn_23 ?_
  refine lv_iconst (v := (1 : Int32)) hx hb dX2_putInn_24 (by decide) ?_
  refine lv_isub hx hb dX2_putInn_25 ?_
  refine lv_aload_n hx hb dX2_putInn_26 rfl (lv_at hl 0 rfl) ?_
  refine va_get (D := D) (ci := 2) (v := .ref (a 1)) (C := RX2) (T := TX2) (N := 12) hx hb hts inT2 hown hK.k hP 0 rfl rfl 1 (by decide) (hts _ q_55) (fun _ h9 => h9) rfl dX2_putInn_27 ?_
  refine lv_iload_n hx hb dX2_putInn_30 rfl (lv_at hl 3 rfl) ?_
  refine roNi (As := [.ref (a 1), .int p3]) (rest := [.int ((((3 : Int32) * p1) + p2) - (1 : Int32)), .ref (a 3)]) F (c_X3_read l D cI cS cJ (a 1) 8 (S_keys (aS_roadInns u f2)) H p3 h) (cw_X2_71 hts (nw1 hK) (Nat.le_of_ble_eq_true rfl) (Nat.le_of_ble_eq_true rfl)) hK (vP_one hP 1 rfl) rfl hl.1 rfl (Nat.le_of_ble_eq_true rfl) dX2_putInn_31 ⟨Nat.zero_le _, Nat.zero_le _⟩ (fun r3 h => ?_)
  refine rwNv (wr := List.eraseIdx (stW cI a (aS_roadInns u f2)) 3) (wf := fun f1 => [((a 3), .inl (cI, 18, .inl f1))]) (As := [.ref (a 3), .int ((((3 : Int32) * p1) + p2) - (1 : Int32)), .int r3]) (rest := []) (perm_k _ 3 rfl) F (c_X3_write l D cI cS cJ (a 3) 18 (S_roadKeys (aS_roadInns u f2)) H.size ((((3 : Int32) * p1) + p2) - (1 : Int32)) r3 h) (cw_X2_67 hts (nw3 hK) (Nat.le_of_ble_eq_true rfl) (Nat.le_of_ble_eq_true rfl)) hK hP hD hS hA rfl hl.1 rfl (Nat.le_of_ble_eq_true rfl) dX2_putInn_34 ⟨Nat.zero_le _, Nat.zero_le _⟩ (fun f5 H locs h hP hD hS => ?_)
  have hP : va_P D vwCl (stW cI a (aS_roadKeys (aS_roadInns u f2) f5)) H := vP_set1 (k := 3) (ws := stW cI a (aS_roadInns u f2)) rfl hP
  have hD : va_D A (stW cI a (aS_roadKeys (aS_roadInns u f2) f5)) := vD_set1 (k := 3) (ws := stW cI a (aS_roadInns u f2)) rfl hD
  exact hQ h hP hD hS dX2_putInn_37

def wp_X2_addRoad (u : St) (p1 : Int32) (p2 : Int32) (p3 : Int32) (p4 : Int32) (post : Int32 → St → Prop) : Prop :=
  wp_X2_putInn u (S_roadCount u) (1 : Int32) p1 (fun u2 => wp_X2_putInn u2 (S_roadCount u) (2 : Int32) p2 (fun u4 => wp_X2_putInn u4 (S_roadCount u) (3 : Int32) p3 (fun u6 => wp_X3_write 6 (S_roadHalls u6) (S_roadCount u) p4 (fun f8 => post (S_roadCount u) (sS_roadCount (aS_roadHalls u6 f8) ((S_roadCount (aS_roadHalls u6 f8)) + (1 : Int32)))))))
set_option maxHeartbeats 4000000 in
set_option maxRecDepth 100000 in
theorem c_X2_addRoad (l : Launch) (D : va_G) (cI cS cJ : ClassId) (a : Nat → Nat) (u : St) (sz : Nat) (p1 : Int32) (p2 : Int32) (p3 : Int32) (p4 : Int32) {post : Int32 → St → Prop} (h : wp_X2_addRoad u p1 p2 p3 p4 post) : Met l yX2_addRoad (wsA yX2_addRoad cX2_addRoad 6 (some .int)) rm_X2_addRoad (va_Pc [.ref (a 0), .int p1, .int p2, .int p3, .int p4] (rwP D (tysA cI cS cJ) (stW cI a u) sz)) (va_Qi post (fun u9 t => va_P D vwCl ((stW cI a) u9) t.heap ∧ va_D (va_A (stW cI a u) sz) ((stW cI a) u9)) (va_A (stW cI a u) sz)) 0 0 (va_A (stW cI a u) sz) := by
  refine mkRWi (wf := (stW cI a)) (by decide +kernel) (Nat.le_of_ble_eq_true rfl) (fun {p e s m args below meth c Q ls A H0 H locs} hx hb F hts hown hK hP hD hS hA hl hQ => ?_)
  have hown : s.vm.findClass RX2 = some m.cls := hown
  have F : CallFix p m c cX2_addRoad 6 s args wsT RX2 := F
  have hl : lv_has ls 6 [(0, .ref (a 0)), (1, .int p1), (2, .int p2), (3, .int p3), (4, .int p4)] := hl
  unfold wp_X2_addRoad at h
  refine lv_aload_n hx hb dX2_addRoad_0 rfl (lv_at hl 0 rfl) ?_
  refine va_get (D := D) (ci := 2) (v := .int (S_roadCount u)) (C := RX2) (T := TX2) (N := 12) hx hb hts inT2 hown hK.k hP 0 rfl rfl 2 (by decide) (hts _ q_57) (fun _ h9 => h9) rfl dX2_addRoad_1 ?_
  refine lv_istore (lv' := [(5, .int (S_roadCount u)), (0, .ref (a 0)), (1, .int p1), (2, .int p2), (3, .int p3), (4, .int p4)]) hx hb dX2_addRoad_4 hl (by decide) rfl (fun ls hl => ?_)
  refine lv_aload_n hx hb dX2_addRoad_6 rfl (lv_at hl 1 rfl) ?_
  refine lv_iload hx hb dX2_addRoad_7 (lv_at hl 0 rfl) ?_
  refine lv_iconst (v := (1 : Int32)) hx hb dX2_addRoad_9 (by decide) ?_
  refine lv_iload_n hx hb dX2_addRoad_10 rfl (lv_at hl 2 rfl) ?_
  refine rwVv0 (As := [.int (S_roadCount u), .int (1 : Int32), .int p1]) (rest := []) F (c_X2_putInn l D cI cS cJ a u H.size (S_roadCount u) (1 : Int32) p1 h) (cw_X2_63 hts (Nat.le_of_ble_eq_true rfl) (Nat.le_of_ble_eq_true rfl)) hK hP hD hS hA (recv (ci := 2) (k0 := 0) hK hP rfl rfl) rfl hl.1 rfl (Nat.le_of_ble_eq_true rfl) dX2_addRoad_11 ⟨Nat.zero_le _, Nat.zero_le _⟩ (fun u2 H locs h hP hD hS => ?_)
  refine lv_aload_n hx hb dX2_addRoad_14 rfl (lv_at hl 1 rfl) ?_
  refine lv_iload hx hb dX2_addRoad_15 (lv_at hl 0 rfl) ?_
  refine lv_iconst (v := (2 : Int32)) hx hb dX2_addRoad_17 (by decide) ?_
  refine lv_iload_n hx hb dX2_addRoad_18 rfl (lv_at hl 3 rfl) ?_
  refine rwVv0 (As := [.int (S_roadCount u), .int (2 : Int32), .int p2]) (rest := []) F (c_X2_putInn l D cI cS cJ a u2 H.size (S_roadCount u) (2 : Int32) p2 h) (cw_X2_63 hts (Nat.le_of_ble_eq_true rfl) (Nat.le_of_ble_eq_true rfl)) hK hP hD hS hA (recv (ci := 2) (k0 := 0) hK hP rfl rfl) rfl hl.1 rfl (Nat.le_of_ble_eq_true rfl) dX2_addRoad_19 ⟨Nat.zero_le _, Nat.zero_le _⟩ (fun u4 H locs h hP hD hS => ?_)
  refine lv_aload_n hx hb dX2_addRoad_22 rfl (lv_at hl 1 rfl) ?_
  refine lv_iload hx hb dX2_addRoad_23 (lv_at hl 0 rfl) ?_
  refine lv_iconst (v := (3 : Int32)) hx hb dX2_addRoad_25 (by decide) ?_
  refine lv_iload_n hx hb dX2_addRoad_26 rfl (lv_at hl 4 rfl) ?_
  refine rwVv0 (As := [.int (S_roadCount u), .int (3 : Int32), .int p3]) (rest := []) F (c_X2_putInn l D cI cS cJ a u4 H.size (S_roadCount u) (3 : Int32) p3 h) (cw_X2_63 hts (Nat.le_of_ble_eq_true rfl) (Nat.le_of_ble_eq_true rfl)) hK hP hD hS hA (recv (ci := 2) (k0 := 0) hK hP rfl rfl) rfl hl.1 rfl (Nat.le_of_ble_eq_true rfl) dX2_addRoad_27 ⟨Nat.zero_le _, Nat.zero_le _⟩ (fun u6 H locs h hP hD hS => ?_)
  refine lv_aload_n hx hb dX2_addRoad_30 rfl (lv_at hl 1 rfl) ?_
  refine va_get (D := D) (ci := 2) (v := .ref (a 4)) (C := RX2) (T := TX2) (N := 12) hx hb hts inT2 hown hK.k hP 0 rfl rfl 5 (by decide) (hts _ q_61) (fun _ h9 => h9) rfl dX2_addRoad_31 ?_
  refine lv_iload hx hb dX2_addRoad_34 (lv_at hl 0 rfl) ?_
  refine lv_iload hx hb dX2_addRoad_36 (lv_at hl 5 rfl) ?_
  refine rwNv (wr := List.eraseIdx (stW cI a u6) 4) (wf := fun f1 => [((a 4), .inl (cI, 6, .inl f1))]) (As := [.ref (a 4), .int (S_roadCount u), .int p4]) (rest := []) (perm_k _ 4 rfl) F (c_X3_write l D cI cS cJ (a 4) 6 (S_roadHalls u6) H.size (S_roadCount u) p4 h) (cw_X2_67 hts (nw3 hK) (Nat.le_of_ble_eq_true rfl) (Nat.le_of_ble_eq_true rfl)) hK hP hD hS hA rfl hl.1 rfl (Nat.le_of_ble_eq_true rfl) dX2_addRoad_38 ⟨Nat.zero_le _, Nat.zero_le _⟩ (fun f8 H locs h hP hD hS => ?_)
  have hP : va_P D vwCl (stW cI a (aS_roadHalls u6 f8)) H := vP_set1 (k := 4) (ws := stW cI a u6) rfl hP
  have hD : va_D A (stW cI a (aS_roadHalls u6 f8)) := vD_set1 (k := 4) (ws := stW cI a u6) rfl hD
  refine lv_aload_n hx hb dX2_addRoad_41 rfl (lv_at hl 1 rfl) ?_
  refine lv_dup hx hb dX2_addRoad_42 rfl ?_
  refine va_get (D := D) (ci := 2) (v := .int (S_roadCount (aS_roadHalls u6 f8))) (C := RX2) (T := TX2) (N := 12) hx hb hts inT2 hown hK.k hP 0 rfl rfl 2 (by decide) (hts _ q_57) (fun _ h9 => h9) rfl dX2_addRoad_43 ?_
  refine lv_iconst (v := (1 : Int32)) hx hb dX2_addRoad_46 (by decide) ?_
  refine lv_iadd hx hb dX2_addRoad_47 ?_
  refine va_put (D := D) (ci := 2) (v := .int ((S_roadCount (aS_roadHalls u6 f8)) + (1 : Int32))) (ty := .int) (C := RX2) (T := TX2) (N := 12) hx hb hts inT2 tyX2 tyX2_ok nmX2 hown hK.k hP hD hS 0 rfl rfl 2 (by decide) (hts _ q_57) (fun _ h9 => h9) rfl (by decide +kernel) rfl rfl (Nat.le_of_ble_eq_true rfl) dX2_addRoad_48 (fun H locs hP hD hS => ?_)
  have hP : va_P D vwCl (stW cI a (sS_roadCount (aS_roadHalls u6 f8) ((S_roadCount (aS_roadHalls u6 f8)) + (1 : Int32)))) H := hP
  have hD : va_D A (stW cI a (sS_roadCount (aS_roadHalls u6 f8) ((S_roadCount (aS_roadHalls u6 f8)) + (1 : Int32)))) := hD
  refine lv_iload hx hb dX2_addRoad_51 (lv_at hl 0 rfl) ?_
  exact hQ h hP hD hS dX2_addRoad_53

def wp_X2_removeLastRoad (u : St)  (post : St → Prop) : Prop :=
  LP2 (fun (K3 : Int32 → St → Prop) (x1 : Int32) (u2 : St) => ((4 : Int32) ≤ x1 → post u2) ∧ (¬ (4 : Int32) ≤ x1 → wp_X3_read 4 (S_answerRoads u2) x1 (fun r6 => (¬ r6 = (S_roadCount u2) → K3 (x1 + 1) u2) ∧ (r6 = (S_roadCount u2) → wp_X3_write 4 (S_answerRoads u2) x1 (-1 : Int32) (fun f9 => K3 (x1 + 1) (aS_answerRoads u2 f9)))))) (0 : Int32) (sS_roadCount u ((S_roadCount u) - (1 : Int32)))
set_option maxHeartbeats 4000000 in
set_option maxRecDepth 100000 in
theorem c_X2_removeLastRoad (l : Launch) (D : va_G) (cI cS cJ : ClassId) (a : Nat → Nat) (u : St) (sz : Nat)  {post : St → Prop} (h : wp_X2_removeLastRoad u post) : Met l yX2_removeLastRoad (wsA yX2_removeLastRoad cX2_removeLastRoad 2 none) rm_X2_removeLastRoad (va_Pc [.ref (a 0)] (rwP D (tysA cI cS cJ) (stW cI a u) sz)) (va_Qv post (fun u9 t => va_P D vwCl ((stW cI a) u9) t.heap ∧ va_D (va_A (stW cI a u) sz) ((stW cI a) u9)) (va_A (stW cI a u) sz)) 0 0 (va_A (stW cI a u) sz) := by
  refine mkRWv (wf := (stW cI a)) (by decide +kernel) (Nat.le_of_ble_eq_true rfl) (fun {p e s m args below meth c Q ls A H0 H locs} hx hb F hts hown hin hK hP hD hS hA hl hQ => ?_)
  have hown : s.vm.findClass RX2 = some m.cls := hown
  have F : CallFix p m c cX2_removeLastRoad 2 s args wsT RX2 := F
  have hl : lv_has ls 2 [(0, .ref (a 0))] := hl
  unfold wp_X2_removeLastRoad at h
  refine lv_aload_n hx hb dX2_removeLastRoad_0 rfl (lv_at hl 0 rfl) ?_
  refine lv_dup hx hb dX2_removeLastRoad_1 rfl ?_
  refine va_get (D := D) (ci := 2) (v := .int (S_roadCount u)) (C := RX2) (T := TX2) (N := 12) hx hb hts inT2 hown hK.k hP 0 rfl rfl 2 (by decide) (hts _ q_57) (fun _ h9 => h9) rfl dX2_removeLastRoad_2 ?_
  refine lv_iconst (v := (1 : Int32)) hx hb dX2_removeLastRoad_5 (by decide) ?_
  refine lv_isub hx hb dX2_removeLastRoad_6 ?_
  refine va_put (D := D) (ci := 2) (v := .int ((S_roadCount u) - (1 : Int32))) (ty := .int) (C := RX2) (T := TX2) (N := 12) hx hb hts inT2 tyX2 tyX2_ok nmX2 hown hK.k hP hD hS 0 rfl rfl 2 (by decide) (hts _ q_57) (fun _ h9 => h9) rfl (by decide +kernel) rfl rfl (Nat.le_of_ble_eq_true rfl) dX2_removeLastRoad_7 (fun H locs hP hD hS => ?_)
  have hP : va_P D vwCl (stW cI a (sS_roadCount u ((S_roadCount u) - (1 : Int32)))) H := hP
  have hD : va_D A (stW cI a (sS_roadCount u ((S_roadCount u) - (1 : Int32)))) := hD
  refine lv_iconst (v := (0 : Int32)) hx hb dX2_removeLastRoad_10 (by decide) ?_
  refine lv_istore_n (lv' := [(1, .int (0 : Int32)), (0, .ref (a 0))]) hx hb dX2_removeLastRoad_11 rfl hl (by decide) rfl (fun ls hl => ?_)
  refine lpu2 h (fun K3 : Int32 → St → Prop => ∀ (x1 : Int32) (u2 : St) (ls : Array Slot) (H : Heap) (locs : List Loc), lv_has ls 2 [(0, .ref (a 0)), (1, .int x1)] → va_P D vwCl (stW cI a u2) H → va_D A (stW cI a u2) → va_S A H0 H locs → K3 x1 u2 → W p l e rm_X2_removeLastRoad s m args below meth c H locs 0 0 Q (F0 m 12 ls [])) ?_ ?_ ?_
  · intro x1 u2 ls H locs hl hP hD hS h
    exact h.elim
  · intro K3
    intro w4 x1 u2 ls H locs hl hP hD hS h
    refine lv_iload_n hx hb dX2_removeLastRoad_12 rfl (lv_at hl 1 rfl) ?_
    refine lv_iconst (v := (4 : Int32)) hx hb dX2_removeLastRoad_13 (by decide) ?_
    refine lv_icmp_ge (tgt := 47) hx hb dX2_removeLastRoad_14 (by decide) (fun c5 => ?_) (fun c5 => ?_)
    · replace h := h.1 c5
      exact hQ h hP hD hS dX2_removeLastRoad_47
    · replace h := h.2 c5
      refine lv_aload_n hx hb dX2_removeLastRoad_17 rfl (lv_at hl 0 rfl) ?_
      refine va_get (D := D) (ci := 2) (v := .ref (a 7)) (C := RX2) (T := TX2) (N := 12) hx hb hts inT2 hown hK.k hP 0 rfl rfl 9 (by decide) (hts _ q_68) (fun _ h9 => h9) rfl dX2_removeLastRoad_18 ?_
      refine lv_iload_n hx hb dX2_removeLastRoad_21 rfl (lv_at hl 1 rfl) ?_
      refine roNi (As := [.ref (a 7), .int x1]) (rest := []) F (c_X3_read l D cI cS cJ (a 7) 4 (S_answerRoads u2) H x1 h) (cw_X2_71 hts (nw1 hK) (Nat.le_of_ble_eq_true rfl) (Nat.le_of_ble_eq_true rfl)) hK (vP_one hP 7 rfl) rfl hl.1 rfl (Nat.le_of_ble_eq_true rfl) dX2_removeLastRoad_22 ⟨Nat.zero_le _, Nat.zero_le _⟩ (fun r6 h => ?_)
      refine lv_aload_n hx hb dX2_removeLastRoad_25 rfl (lv_at hl 0 rfl) ?_
      refine va_get (D := D) (ci := 2) (v := .int (S_roadCount u2)) (C := RX2) (T := TX2) (N := 12) hx hb hts inT2 hown hK.k hP 0 rfl rfl 2 (by decide) (hts _ q_57) (fun _ h9 => h9) rfl dX2_removeLastRoad_26 ?_
      refine lv_icmp_ne (tgt := 41) hx hb dX2_removeLastRoad_29 (by decide) (fun c7 => ?_) (fun c7 => ?_)
      · replace h := h.1 c7
        refine lv_iinc (v := (x1 + 1)) (lv' := [(1, .int (x1 + 1)), (0, .ref (a 0))]) hx hb dX2_removeLastRoad_41 hl (k := 1) rfl rfl (by decide) rfl (fun ls hl => ?_)
        refine lv_goto (tgt := 12) hx hb dX2_removeLastRoad_44 (by decide) ?_
        exact w4 (x1 + 1) u2 _ _ _ (lv_sub hl [1, 0] rfl) hP hD hS h
      · replace h := h.2 c7
        refine lv_aload_n hx hb dX2_removeLastRoad_32 rfl (lv_at hl 0 rfl) ?_
        refine va_get (D := D) (ci := 2) (v := .ref (a 7)) (C := RX2) (T := TX2) (N := 12) hx hb hts inT2 hown hK.k hP 0 rfl rfl 9 (by decide) (hts _ q_68) (fun _ h9 => h9) rfl dX2_removeLastRoad_33 ?_
        refine lv_iload_n hx hb dX2_removeLastRoad_36 rfl (lv_at hl 1 rfl) ?_
        refine lv_iconst (v := (-1 : Int32)) hx hb dX2_removeLastRoad_37 (by decide) ?_
        refine rwNv (wr := List.eraseIdx (stW cI a u2) 7) (wf := fun f1 => [((a 7), .inl (cI, 4, .inl f1))]) (As := [.ref (a 7), .int x1, .int (-1 : Int32)]) (rest := []) (perm_k _ 7 rfl) F (c_X3_write l D cI cS cJ (a 7) 4 (S_answerRoads u2) H.size x1 (-1 : Int32) h) (cw_X2_67 hts (nw3 hK) (Nat.le_of_ble_eq_true rfl) (Nat.le_of_ble_eq_true rfl)) hK hP hD hS hA rfl hl.1 rfl (Nat.le_of_ble_eq_true rfl) dX2_removeLastRoad_38 ⟨Nat.zero_le _, Nat.zero_le _⟩ (fun f9 H locs h hP hD hS => ?_)
        have hP : va_P D vwCl (stW cI a (aS_answerRoads u2 f9)) H := vP_set1 (k := 7) (ws := stW cI a u2) rfl hP
        have hD : va_D A (stW cI a (aS_answerRoads u2 f9)) := vD_set1 (k := 7) (ws := stW cI a u2) rfl hD
        refine lv_iinc (v := (x1 + 1)) (lv' := [(1, .int (x1 + 1)), (0, .ref (a 0))]) hx hb dX2_removeLastRoad_41 hl (k := 1) rfl rfl (by decide) rfl (fun ls hl => ?_)
        refine lv_goto (tgt := 12) hx hb dX2_removeLastRoad_44 (by decide) ?_
        exact w4 (x1 + 1) (aS_answerRoads u2 f9) _ _ _ (lv_sub hl [1, 0] rfl) hP hD hS h
  · intro K3 w4 h
    exact w4 (0 : Int32) (sS_roadCount u ((S_roadCount u) - (1 : Int32))) _ _ _ (lv_sub hl [1, 0] rfl) hP hD hS h

def wp_X2_ofEnvelope (u : St) (p1 : Int32) (p2 : Int32) (post : Int32 → Prop) : Prop :=
  wp_X3_read 48 (S_envelopeNumbers u) (((4 : Int32) * p1) + p2) (fun r1 => post r1)
set_option maxHeartbeats 4000000 in
set_option maxRecDepth 100000 in
theorem c_X2_ofEnvelope (l : Launch) (D : va_G) (cI cS cJ : ClassId) (a : Nat → Nat) (u : St) (H0 : Heap) (p1 : Int32) (p2 : Int32) {post : Int32 → Prop} (h : wp_X2_ofEnvelope u p1 p2 post) : Met l yX2_ofEnvelope (wsA yX2_ofEnvelope cX2_ofEnvelope 3 (some .int)) rm_X2_ofEnvelope (va_Pc [.ref (a 0), .int p1, .int p2] (roP D (tysA cI cS cJ) (stW cI a u) H0)) (va_Qi (fun r (_ : Unit) => post r) (fun _ t => t.heap = H0) nF) 0 0 nF := by
  refine mkROi (by decide +kernel) (Nat.le_of_ble_eq_true rfl) (fun {p e s m args below meth c Q ls} hx hb F hts hown hK hP hl hQ => ?_)
  have hown : s.vm.findClass RX2 = some m.cls := hown
  have F : CallFix p m c cX2_ofEnvelope 3 s args wsT RX2 := F
  have hl : lv_has ls 3 [(0, .ref (a 0)), (1, .int p1), (2, .int p2)] := hl
  unfold wp_X2_ofEnvelope at h
  refine lv_aload_n hx hb dX2_ofEnvelope_0 rfl (lv_at hl 0 rfl) ?_
  refine va_get (D := D) (ci := 2) (v := .ref (a 5)) (C := RX2) (T := TX2) (N := 12) hx hb hts inT2 hown hK.k hP 0 rfl rfl 7 (by decide) (hts _ q_65) (fun _ h9 => h9) rfl dX2_ofEnvelope_1 ?_
  refine lv_iconst (v := (4 : Int32)) hx hb dX2_ofEnvelope_4 (by decide) ?_
  refine lv_iload_n hx hb dX2_ofEnvelope_5 rfl (lv_at hl 1 rfl) ?_
  refine lv_imul hx hb dX2_ofEnvelope_6 ?_
  refine lv_iload_n hx hb dX2_ofEnvelope_7 rfl (lv_at hl 2 rfl) ?_
  refine lv_iadd hx hb dX2_ofEnvelope_8 ?_
  refine roNi (As := [.ref (a 5), .int (((4 : Int32) * p1) + p2)]) (rest := []) F (c_X3_read l D cI cS cJ (a 5) 48 (S_envelopeNumbers u) H0 (((4 : Int32) * p1) + p2) h) (cw_X2_71 hts (nw1 hK) (Nat.le_of_ble_eq_true rfl) (Nat.le_of_ble_eq_true rfl)) hK (vP_one hP 5 rfl) rfl hl.1 rfl (Nat.le_of_ble_eq_true rfl) dX2_ofEnvelope_9 ⟨Nat.zero_le _, Nat.zero_le _⟩ (fun r1 h => ?_)
  exact hQ h dX2_ofEnvelope_12

def wp_X2_isUsed (u : St) (p1 : Int32) (post : Int32 → Prop) : Prop :=
  LP1 (fun (K2 : Int32 → Prop) (x1 : Int32) => ((S_envelopeCount u) ≤ x1 → post (0 : Int32)) ∧ (¬ (S_envelopeCount u) ≤ x1 → wp_X2_ofEnvelope u x1 (0 : Int32) (fun r5 => (¬ r5 = p1 → K2 (x1 + 1)) ∧ (r5 = p1 → post (1 : Int32))))) (0 : Int32)
set_option maxHeartbeats 4000000 in
set_option maxRecDepth 100000 in
theorem c_X2_isUsed (l : Launch) (D : va_G) (cI cS cJ : ClassId) (a : Nat → Nat) (u : St) (H0 : Heap) (p1 : Int32) {post : Int32 → Prop} (h : wp_X2_isUsed u p1 post) : Met l yX2_isUsed (wsA yX2_isUsed cX2_isUsed 3 (some .boolean)) rm_X2_isUsed (va_Pc [.ref (a 0), .int p1] (roP D (tysA cI cS cJ) (stW cI a u) H0)) (va_Qi (fun r (_ : Unit) => bz r ∧ post r) (fun _ t => t.heap = H0) nF) 0 0 nF := by
  refine mkROz (by decide +kernel) (Nat.le_of_ble_eq_true rfl) (fun {p e s m args below meth c Q ls} hx hb F hts hown hK hP hl hQ => ?_)
  have hown : s.vm.findClass RX2 = some m.cls := hown
  have F : CallFix p m c cX2_isUsed 3 s args wsT RX2 := F
  have hl : lv_has ls 3 [(0, .ref (a 0)), (1, .int p1)] := hl
  unfold wp_X2_isUsed at h
  refine lv_iconst (v := (0 : Int32)) hx hb dX2_isUsed_0 (by decide) ?_
  refine lv_istore_n (lv' := [(2, .int (0 : Int32)), (0, .ref (a 0)), (1, .int p1)]) hx hb dX2_isUsed_1 rfl hl (by decide) rfl (fun ls hl => ?_)
  refine lpu1 h (fun K2 : Int32 → Prop => ∀ (x1 : Int32) (ls : Array Slot), lv_has ls 3 [(0, .ref (a 0)), (1, .int p1), (2, .int x1)] → K2 x1 → W p l e rm_X2_isUsed s m args below meth c H0 [] 0 0 Q (F0 m 2 ls [])) ?_ ?_ ?_
  · intro x1 ls hl h
    exact h.elim
  · intro K2
    intro w3 x1 ls hl h
    refine lv_iload_n hx hb dX2_isUsed_2 rfl (lv_at hl 2 rfl) ?_
    refine lv_aload_n hx hb dX2_isUsed_3 rfl (lv_at hl 0 rfl) ?_
    refine va_get (D := D) (ci := 2) (v := .int (S_envelopeCount u)) (C := RX2) (T := TX2) (N := 12) hx hb hts inT2 hown hK.k hP 0 rfl rfl 6 (by decide) (hts _ q_63) (fun _ h9 => h9) rfl dX2_isUsed_4 ?_
    refine lv_icmp_ge (tgt := 28) hx hb dX2_isUsed_7 (by decide) (fun c4 => ?_) (fun c4 => ?_)
    · replace h := h.1 c4
      refine lv_iconst (v := (0 : Int32)) hx hb dX2_isUsed_28 (by decide) ?_
      exact hQ bz0 h dX2_isUsed_29
    · replace h := h.2 c4
      refine lv_aload_n hx hb dX2_isUsed_10 rfl (lv_at hl 0 rfl) ?_
      refine lv_iload_n hx hb dX2_isUsed_11 rfl (lv_at hl 2 rfl) ?_
      refine lv_iconst (v := (0 : Int32)) hx hb dX2_isUsed_12 (by decide) ?_
      refine roVi (As := [.int x1, .int (0 : Int32)]) (rest := []) F (c_X2_ofEnvelope l D cI cS cJ a u H0 x1 (0 : Int32) h) (cw_X2_75 hts (Nat.le_of_ble_eq_true rfl) (Nat.le_of_ble_eq_true rfl)) hK hP (recv (ci := 2) (k0 := 0) hK hP rfl rfl) rfl hl.1 rfl (Nat.le_of_ble_eq_true rfl) dX2_isUsed_13 ⟨Nat.zero_le _, Nat.zero_le _⟩ (fun r5 h => ?_)
      refine lv_iload_n hx hb dX2_isUsed_16 rfl (lv_at hl 1 rfl) ?_
      refine lv_icmp_ne (tgt := 22) hx hb dX2_isUsed_17 (by decide) (fun c6 => ?_) (fun c6 => ?_)
      · replace h := h.1 c6
        refine lv_iinc (v := (x1 + 1)) (lv' := [(2, .int (x1 + 1)), (0, .ref (a 0)), (1, .int p1)]) hx hb dX2_isUsed_22 hl (k := 2) rfl rfl (by decide) rfl (fun ls hl => ?_)
        refine lv_goto (tgt := 2) hx hb dX2_isUsed_25 (by decide) ?_
        exact w3 (x1 + 1) _ (lv_sub hl [1, 2, 0] rfl) h
      · replace h := h.2 c6
        refine lv_iconst (v := (1 : Int32)) hx hb dX2_isUsed_20 (by decide) ?_
        exact hQ bz1 h dX2_isUsed_21
  · intro K2 w3 h
    exact w3 (0 : Int32) _ (lv_sub hl [1, 2, 0] rfl) h

def wp_X2_innAt (u : St) (p1 : Int32) (p2 : Int32) (post : Int32 → Prop) : Prop :=
  wp_X3_read 18 (S_roadInns u) ((((3 : Int32) * p1) + p2) - (1 : Int32)) (fun r1 => post r1)
set_option maxHeartbeats 4000000 in
set_option maxRecDepth 100000 in
theorem c_X2_innAt (l : Launch) (D : va_G) (cI cS cJ : ClassId) (a : Nat → Nat) (u : St) (H0 : Heap) (p1 : Int32) (p2 : Int32) {post : Int32 → Prop} (h : wp_X2_innAt u p1 p2 post) : Met l yX2_innAt (wsA yX2_innAt cX2_innAt 3 (some .int)) rm_X2_innAt (va_Pc [.ref (a 0), .int p1, .int p2] (roP D (tysA cI cS cJ) (stW cI a u) H0)) (va_Qi (fun r (_ : Unit) => post r) (fun _ t => t.heap = H0) nF) 0 0 nF := by
  refine mkROi (by decide +kernel) (Nat.le_of_ble_eq_true rfl) (fun {p e s m args below meth c Q ls} hx hb F hts hown hK hP hl hQ => ?_)
  have hown : s.vm.findClass RX2 = some m.cls := hown
  have F : CallFix p m c cX2_innAt 3 s args wsT RX2 := F
  have hl : lv_has ls 3 [(0, .ref (a 0)), (1, .int p1), (2, .int p2)] := hl
  unfold wp_X2_innAt at h
  refine lv_aload_n hx hb dX2_innAt_0 rfl (lv_at hl 0 rfl) ?_
  refine va_get (D := D) (ci := 2) (v := .ref (a 2)) (C := RX2) (T := TX2) (N := 12) hx hb hts inT2 hown hK.k hP 0 rfl rfl 3 (by decide) (hts _ q_59) (fun _ h9 => h9) rfl dX2_innAt_1 ?_
  refine lv_iconst (v := (3 : Int32)) hx hb dX2_innAt_4 (by decide) ?_
  refine lv_iload_n hx hb dX2_innAt_5 rfl (lv_at hl 1 rfl) ?_
  refine lv_imul hx hb dX2_innAt_6 ?_
  refine lv_iload_n hx hb dX2_innAt_7 rfl (lv_at hl 2 rfl) ?_
  refine lv_iadd hx hb dX2_innAt_8 ?_
  refine lv_iconst (v := (1 : Int32)) hx hb dX2_innAt_9 (by decide) ?_
  refine lv_isub hx hb dX2_innAt_10 ?_
  refine roNi (As := [.ref (a 2), .int ((((3 : Int32) * p1) + p2) - (1 : Int32))]) (rest := []) F (c_X3_read l D cI cS cJ (a 2) 18 (S_roadInns u) H0 ((((3 : Int32) * p1) + p2) - (1 : Int32)) h) (cw_X2_71 hts (nw1 hK) (Nat.le_of_ble_eq_true rfl) (Nat.le_of_ble_eq_true rfl)) hK (vP_one hP 2 rfl) rfl hl.1 rfl (Nat.le_of_ble_eq_true rfl) dX2_innAt_11 ⟨Nat.zero_le _, Nat.zero_le _⟩ (fun r1 h => ?_)
  exact hQ h dX2_innAt_14

def wp_X2_keyAt (u : St) (p1 : Int32) (p2 : Int32) (post : Int32 → Prop) : Prop :=
  wp_X3_read 18 (S_roadKeys u) ((((3 : Int32) * p1) + p2) - (1 : Int32)) (fun r1 => post r1)
set_option maxHeartbeats 4000000 in
set_option maxRecDepth 100000 in
theorem c_X2_keyAt (l : Launch) (D : va_G) (cI cS cJ : ClassId) (a : Nat → Nat) (u : St) (H0 : Heap) (p1 : Int32) (p2 : Int32) {post : Int32 → Prop} (h : wp_X2_keyAt u p1 p2 post) : Met l yX2_keyAt (wsA yX2_keyAt cX2_keyAt 3 (some .int)) rm_X2_keyAt (va_Pc [.ref (a 0), .int p1, .int p2] (roP D (tysA cI cS cJ) (stW cI a u) H0)) (va_Qi (fun r (_ : Unit) => post r) (fun _ t => t.heap = H0) nF) 0 0 nF := by
  refine mkROi (by decide +kernel) (Nat.le_of_ble_eq_true rfl) (fun {p e s m args below meth c Q ls} hx hb F hts hown hK hP hl hQ => ?_)
  have hown : s.vm.findClass RX2 = some m.cls := hown
  have F : CallFix p m c cX2_keyAt 3 s args wsT RX2 := F
  have hl : lv_has ls 3 [(0, .ref (a 0)), (1, .int p1), (2, .int p2)] := hl
  unfold wp_X2_keyAt at h
  refine lv_aload_n hx hb dX2_keyAt_0 rfl (lv_at hl 0 rfl) ?_
  refine va_get (D := D) (ci := 2) (v := .ref (a 3)) (C := RX2) (T := TX2) (N := 12) hx hb hts inT2 hown hK.k hP 0 rfl rfl 4 (by decide) (hts _ q_60) (fun _ h9 => h9) rfl dX2_keyAt_1 ?_
  refine lv_iconst (v := (3 : Int32)) hx hb dX2_keyAt_4 (by decide) ?_
  refine lv_iload_n hx hb dX2_keyAt_5 rfl (lv_at hl 1 rfl) ?_
  refine lv_imul hx hb dX2_keyAt_6 ?_
  refine lv_iload_n hx hb dX2_keyAt_7 rfl (lv_at hl 2 rfl) ?_
  refine lv_iadd hx hb dX2_keyAt_8 ?_
  refine lv_iconst (v := (1 : Int32)) hx hb dX2_keyAt_9 (by decide) ?_
  refine lv_isub hx hb dX2_keyAt_10 ?_
  refine roNi (As := [.ref (a 3), .int ((((3 : Int32) * p1) + p2) - (1 : Int32))]) (rest := []) F (c_X3_read l D cI cS cJ (a 3) 18 (S_roadKeys u) H0 ((((3 : Int32) * p1) + p2) - (1 : Int32)) h) (cw_X2_71 hts (nw1 hK) (Nat.le_of_ble_eq_true rfl) (Nat.le_of_ble_eq_true rfl)) hK (vP_one hP 3 rfl) rfl hl.1 rfl (Nat.le_of_ble_eq_true rfl) dX2_keyAt_11 ⟨Nat.zero_le _, Nat.zero_le _⟩ (fun r1 h => ?_)
  exact hQ h dX2_keyAt_14

def wp_X2_placeOn (u : St) (p1 : Int32) (p2 : Int32) (post : Int32 → Prop) : Prop :=
  LP1 (fun (K2 : Int32 → Prop) (x1 : Int32) => ((3 : Int32) < x1 → post (-1 : Int32)) ∧ (¬ (3 : Int32) < x1 → wp_X2_innAt u p1 x1 (fun r5 => (¬ r5 = p2 → K2 (x1 + 1)) ∧ (r5 = p2 → post x1)))) (1 : Int32)
set_option maxHeartbeats 4000000 in
set_option maxRecDepth 100000 in
theorem c_X2_placeOn (l : Launch) (D : va_G) (cI cS cJ : ClassId) (a : Nat → Nat) (u : St) (H0 : Heap) (p1 : Int32) (p2 : Int32) {post : Int32 → Prop} (h : wp_X2_placeOn u p1 p2 post) : Met l yX2_placeOn (wsA yX2_placeOn cX2_placeOn 4 (some .int)) rm_X2_placeOn (va_Pc [.ref (a 0), .int p1, .int p2] (roP D (tysA cI cS cJ) (stW cI a u) H0)) (va_Qi (fun r (_ : Unit) => post r) (fun _ t => t.heap = H0) nF) 0 0 nF := by
  refine mkROi (by decide +kernel) (Nat.le_of_ble_eq_true rfl) (fun {p e s m args below meth c Q ls} hx hb F hts hown hK hP hl hQ => ?_)
  have hown : s.vm.findClass RX2 = some m.cls := hown
  have F : CallFix p m c cX2_placeOn 4 s args wsT RX2 := F
  have hl : lv_has ls 4 [(0, .ref (a 0)), (1, .int p1), (2, .int p2)] := hl
  unfold wp_X2_placeOn at h
  refine lv_iconst (v := (1 : Int32)) hx hb dX2_placeOn_0 (by decide) ?_
  refine lv_istore_n (lv' := [(3, .int (1 : Int32)), (0, .ref (a 0)), (1, .int p1), (2, .int p2)]) hx hb dX2_placeOn_1 rfl hl (by decide) rfl (fun ls hl => ?_)
  refine lpu1 h (fun K2 : Int32 → Prop => ∀ (x1 : Int32) (ls : Array Slot), lv_has ls 4 [(0, .ref (a 0)), (1, .int p1), (2, .int p2), (3, .int x1)] → K2 x1 → W p l e rm_X2_placeOn s m args below meth c H0 [] 0 0 Q (F0 m 2 ls [])) ?_ ?_ ?_
  · intro x1 ls hl h
    exact h.elim
  · intro K2
    intro w3 x1 ls hl h
    refine lv_iload_n hx hb dX2_placeOn_2 rfl (lv_at hl 3 rfl) ?_
    refine lv_iconst (v := (3 : Int32)) hx hb dX2_placeOn_3 (by decide) ?_
    refine lv_icmp_gt (tgt := 25) hx hb dX2_placeOn_4 (by decide) (fun c4 => ?_) (fun c4 => ?_)
    · replace h := h.1 c4
      refine lv_iconst (v := (-1 : Int32)) hx hb dX2_placeOn_25 (by decide) ?_
      exact hQ h dX2_placeOn_26
    · replace h := h.2 c4
      refine lv_aload_n hx hb dX2_placeOn_7 rfl (lv_at hl 0 rfl) ?_
      refine lv_iload_n hx hb dX2_placeOn_8 rfl (lv_at hl 1 rfl) ?_
      refine lv_iload_n hx hb dX2_placeOn_9 rfl (lv_at hl 3 rfl) ?_
      refine roVi (As := [.int p1, .int x1]) (rest := []) F (c_X2_innAt l D cI cS cJ a u H0 p1 x1 h) (cw_X2_79 hts (Nat.le_of_ble_eq_true rfl) (Nat.le_of_ble_eq_true rfl)) hK hP (recv (ci := 2) (k0 := 0) hK hP rfl rfl) rfl hl.1 rfl (Nat.le_of_ble_eq_true rfl) dX2_placeOn_10 ⟨Nat.zero_le _, Nat.zero_le _⟩ (fun r5 h => ?_)
      refine lv_iload_n hx hb dX2_placeOn_13 rfl (lv_at hl 2 rfl) ?_
      refine lv_icmp_ne (tgt := 19) hx hb dX2_placeOn_14 (by decide) (fun c6 => ?_) (fun c6 => ?_)
      · replace h := h.1 c6
        refine lv_iinc (v := (x1 + 1)) (lv' := [(3, .int (x1 + 1)), (0, .ref (a 0)), (1, .int p1), (2, .int p2)]) hx hb dX2_placeOn_19 hl (k := 3) rfl rfl (by decide) rfl (fun ls hl => ?_)
        refine lv_goto (tgt := 2) hx hb dX2_placeOn_22 (by decide) ?_
        exact w3 (x1 + 1) _ (lv_sub hl [1, 2, 3, 0] rfl) h
      · replace h := h.2 c6
        refine lv_iload_n hx hb dX2_placeOn_17 rfl (lv_at hl 3 rfl) ?_
        exact hQ h dX2_placeOn_18
  · intro K2 w3 h
    exact w3 (1 : Int32) _ (lv_sub hl [1, 2, 3, 0] rfl) h

def wp_X2_allOpenOn (u : St) (p1 : Int32) (post : Int32 → Prop) : Prop :=
  LP1 (fun (K2 : Int32 → Prop) (x1 : Int32) => ((3 : Int32) < x1 → post (1 : Int32)) ∧ (¬ (3 : Int32) < x1 → wp_X2_innAt u p1 x1 (fun r5 => wp_X2_hasOpen u r5 (fun r6 => (¬ r6 = 0 → K2 (x1 + 1)) ∧ (r6 = 0 → post (0 : Int32)))))) (1 : Int32)
set_option maxHeartbeats 4000000 in
set_option maxRecDepth 100000 in
theorem c_X2_allOpenOn (l : Launch) (D : va_G) (cI cS cJ : ClassId) (a : Nat → Nat) (u : St) (H0 : Heap) (p1 : Int32) {post : Int32 → Prop} (h : wp_X2_allOpenOn u p1 post) : Met l yX2_allOpenOn (wsA yX2_allOpenOn cX2_allOpenOn 3 (some .boolean)) rm_X2_allOpenOn (va_Pc [.ref (a 0), .int p1] (roP D (tysA cI cS cJ) (stW cI a u) H0)) (va_Qi (fun r (_ : Unit) => bz r ∧ post r) (fun _ t => t.heap = H0) nF) 0 0 nF := by
  refine mkROz (by decide +kernel) (Nat.le_of_ble_eq_true rfl) (fun {p e s m args below meth c Q ls} hx hb F hts hown hK hP hl hQ => ?_)
  have hown : s.vm.findClass RX2 = some m.cls := hown
  have F : CallFix p m c cX2_allOpenOn 3 s args wsT RX2 := F
  have hl : lv_has ls 3 [(0, .ref (a 0)), (1, .int p1)] := hl
  unfold wp_X2_allOpenOn at h
  refine lv_iconst (v := (1 : Int32)) hx hb dX2_allOpenOn_0 (by decide) ?_
  refine lv_istore_n (lv' := [(2, .int (1 : Int32)), (0, .ref (a 0)), (1, .int p1)]) hx hb dX2_allOpenOn_1 rfl hl (by decide) rfl (fun ls hl => ?_)
  refine lpu1 h (fun K2 : Int32 → Prop => ∀ (x1 : Int32) (ls : Array Slot), lv_has ls 3 [(0, .ref (a 0)), (1, .int p1), (2, .int x1)] → K2 x1 → W p l e rm_X2_allOpenOn s m args below meth c H0 [] 0 0 Q (F0 m 2 ls [])) ?_ ?_ ?_
  · intro x1 ls hl h
    exact h.elim
  · intro K2
    intro w3 x1 ls hl h
    refine lv_iload_n hx hb dX2_allOpenOn_2 rfl (lv_at hl 2 rfl) ?_
    refine lv_iconst (v := (3 : Int32)) hx hb dX2_allOpenOn_3 (by decide) ?_
    refine lv_icmp_gt (tgt := 28) hx hb dX2_allOpenOn_4 (by decide) (fun c4 => ?_) (fun c4 => ?_)
    · replace h := h.1 c4
      refine lv_iconst (v := (1 : Int32)) hx hb dX2_allOpenOn_28 (by decide) ?_
      exact hQ bz1 h dX2_allOpenOn_29
    · replace h := h.2 c4
      refine lv_aload_n hx hb dX2_allOpenOn_7 rfl (lv_at hl 0 rfl) ?_
      refine lv_aload_n hx hb dX2_allOpenOn_8 rfl (lv_at hl 0 rfl) ?_
      refine lv_iload_n hx hb dX2_allOpenOn_9 rfl (lv_at hl 1 rfl) ?_
      refine lv_iload_n hx hb dX2_allOpenOn_10 rfl (lv_at hl 2 rfl) ?_
      refine roVi (As := [.int p1, .int x1]) (rest := [.ref (a 0)]) F (c_X2_innAt l D cI cS cJ a u H0 p1 x1 h) (cw_X2_79 hts (Nat.le_of_ble_eq_true rfl) (Nat.le_of_ble_eq_true rfl)) hK hP (recv (ci := 2) (k0 := 0) hK hP rfl rfl) rfl hl.1 rfl (Nat.le_of_ble_eq_true rfl) dX2_allOpenOn_11 ⟨Nat.zero_le _, Nat.zero_le _⟩ (fun r5 h => ?_)
      refine roVi (As := [.int r5]) (rest := []) F (c_X2_hasOpen l D cI cS cJ a u H0 r5 h) (cw_X2_82 hts (Nat.le_of_ble_eq_true rfl) (Nat.le_of_ble_eq_true rfl)) hK hP (recv (ci := 2) (k0 := 0) hK hP rfl rfl) rfl hl.1 rfl (Nat.le_of_ble_eq_true rfl) dX2_allOpenOn_14 ⟨Nat.zero_le _, Nat.zero_le _⟩ (fun r6 h => ?_)
      obtain ⟨b7, h⟩ := h
      refine lv_if_ne (tgt := 22) hx hb dX2_allOpenOn_17 (by decide) (fun c8 => ?_) (fun c8 => ?_)
      · replace h := h.1 c8
        refine lv_iinc (v := (x1 + 1)) (lv' := [(2, .int (x1 + 1)), (0, .ref (a 0)), (1, .int p1)]) hx hb dX2_allOpenOn_22 hl (k := 2) rfl rfl (by decide) rfl (fun ls hl => ?_)
        refine lv_goto (tgt := 2) hx hb dX2_allOpenOn_25 (by decide) ?_
        exact w3 (x1 + 1) _ (lv_sub hl [1, 2, 0] rfl) h
      · replace h := h.2 c8
        refine lv_iconst (v := (0 : Int32)) hx hb dX2_allOpenOn_20 (by decide) ?_
        exact hQ bz0 h dX2_allOpenOn_21
  · intro K2 w3 h
    exact w3 (1 : Int32) _ (lv_sub hl [1, 2, 0] rfl) h

def wp_X2_seenBeside (u : St) (p1 : Int32) (p2 : Int32) (p3 : Int32) (post : Int32 → Prop) : Prop :=
  wp_X2_placeOn u p2 p1 (fun r1 => (¬ r1 = (-1 : Int32) → jn (fun (x3 : Int32) => (¬ x3 = 0 → (¬ x3 = (4 : Int32) → wp_X2_innAt u p2 x3 (fun r9 => post r9)) ∧ (x3 = (4 : Int32) → wp_X3_read 6 (S_roadHalls u) p2 (fun r10 => post ((10 : Int32) + r10)))) ∧ (x3 = 0 → post (8 : Int32))) (fun (J4 : Int32 → Prop) => (¬ p3 = 0 → J4 (r1 + (1 : Int32))) ∧ (p3 = 0 → J4 (r1 - (1 : Int32))))) ∧ (r1 = (-1 : Int32) → post (-1 : Int32)))
set_option maxHeartbeats 4000000 in
set_option maxRecDepth 100000 in
theorem c_X2_seenBeside (l : Launch) (D : va_G) (cI cS cJ : ClassId) (a : Nat → Nat) (u : St) (H0 : Heap) (p1 : Int32) (p2 : Int32) (p3 : Int32) {post : Int32 → Prop} (h : wp_X2_seenBeside u p1 p2 p3 post) : Met l yX2_seenBeside (wsA yX2_seenBeside cX2_seenBeside 6 (some .int)) rm_X2_seenBeside (va_Pc [.ref (a 0), .int p1, .int p2, .int p3] (roP D (tysA cI cS cJ) (stW cI a u) H0)) (va_Qi (fun r (_ : Unit) => post r) (fun _ t => t.heap = H0) nF) 0 0 nF := by
  refine mkROi (by decide +kernel) (Nat.le_of_ble_eq_true rfl) (fun {p e s m args below meth c Q ls} hx hb F hts hown hK hP hl hQ => ?_)
  have hown : s.vm.findClass RX2 = some m.cls := hown
  have F : CallFix p m c cX2_seenBeside 6 s args wsT RX2 := F
  have hl : lv_has ls 6 [(0, .ref (a 0)), (1, .int p1), (2, .int p2), (3, .int p3)] := hl
  unfold wp_X2_seenBeside at h
  refine lv_aload_n hx hb dX2_seenBeside_0 rfl (lv_at hl 0 rfl) ?_
  refine lv_iload_n hx hb dX2_seenBeside_1 rfl (lv_at hl 2 rfl) ?_
  refine lv_iload_n hx hb dX2_seenBeside_2 rfl (lv_at hl 1 rfl) ?_
  refine roVi (As := [.int p2, .int p1]) (rest := []) F (c_X2_placeOn l D cI cS cJ a u H0 p2 p1 h) (cw_X2_86 hts (Nat.le_of_ble_eq_true rfl) (Nat.le_of_ble_eq_true rfl)) hK hP (recv (ci := 2) (k0 := 0) hK hP rfl rfl) rfl hl.1 rfl (Nat.le_of_ble_eq_true rfl) dX2_seenBeside_3 ⟨Nat.zero_le _, Nat.zero_le _⟩ (fun r1 h => ?_)
  refine lv_istore (lv' := [(4, .int r1), (0, .ref (a 0)), (1, .int p1), (2, .int p2), (3, .int p3)]) hx hb dX2_seenBeside_6 hl (by decide) rfl (fun ls hl => ?_)
  refine lv_iload hx hb dX2_seenBeside_8 (lv_at hl 0 rfl) ?_
  refine lv_iconst (v := (-1 : Int32)) hx hb dX2_seenBeside_10 (by decide) ?_
  refine lv_icmp_ne (tgt := 16) hx hb dX2_seenBeside_11 (by decide) (fun c2 => ?_) (fun c2 => ?_)
  · replace h := h.1 c2
    refine lv_iload_n hx hb dX2_seenBeside_16 rfl (lv_at hl 4 rfl) ?_
    refine jn_e h (fun J4 e6 h => ?_)
    have w5 : ∀ (x3 : Int32) (ls : Array Slot), lv_has ls 6 [(0, .ref (a 0)), (2, .int p2)] → J4 x3 → W p l e rm_X2_seenBeside s m args below meth c H0 [] 0 0 Q (F0 m 31 ls [.int x3]) := by
      intro x3 ls hl h
      subst e6
      refine lv_istore (lv' := [(5, .int x3), (0, .ref (a 0)), (2, .int p2)]) hx hb dX2_seenBeside_31 hl (by decide) rfl (fun ls hl => ?_)
      refine lv_iload hx hb dX2_seenBeside_33 (lv_at hl 0 rfl) ?_
      refine lv_if_ne (tgt := 41) hx hb dX2_seenBeside_35 (by decide) (fun c7 => ?_) (fun c7 => ?_)
      · replace h := h.1 c7
        refine lv_iload hx hb dX2_seenBeside_41 (lv_at hl 0 rfl) ?_
        refine lv_iconst (v := (4 : Int32)) hx hb dX2_seenBeside_43 (by decide) ?_
        refine lv_icmp_ne (tgt := 59) hx hb dX2_seenBeside_44 (by decide) (fun c8 => ?_) (fun c8 => ?_)
        · replace h := h.1 c8
          refine lv_aload_n hx hb dX2_seenBeside_59 rfl (lv_at hl 1 rfl) ?_
          refine lv_iload_n hx hb dX2_seenBeside_60 rfl (lv_at hl 2 rfl) ?_
          refine lv_iload hx hb dX2_seenBeside_61 (lv_at hl 0 rfl) ?_
          refine roVi (As := [.int p2, .int x3]) (rest := []) F (c_X2_innAt l D cI cS cJ a u H0 p2 x3 h) (cw_X2_79 hts (Nat.le_of_ble_eq_true rfl) (Nat.le_of_ble_eq_true rfl)) hK hP (recv (ci := 2) (k0 := 0) hK hP rfl rfl) rfl hl.1 rfl (Nat.le_of_ble_eq_true rfl) dX2_seenBeside_63 ⟨Nat.zero_le _, Nat.zero_le _⟩ (fun r9 h => ?_)
          exact hQ h dX2_seenBeside_66
        · replace h := h.2 c8
          refine lv_bipush (v := (10 : Int32)) hx hb dX2_seenBeside_47 (by decide) ?_
          refine lv_aload_n hx hb dX2_seenBeside_49 rfl (lv_at hl 1 rfl) ?_
          refine va_get (D := D) (ci := 2) (v := .ref (a 4)) (C := RX2) (T := TX2) (N := 12) hx hb hts inT2 hown hK.k hP 0 rfl rfl 5 (by decide) (hts _ q_61) (fun _ h9 => h9) rfl dX2_seenBeside_50 ?_
          refine lv_iload_n hx hb dX2_seenBeside_53 rfl (lv_at hl 2 rfl) ?_
          refine roNi (As := [.ref (a 4), .int p2]) (rest := [.int (10 : Int32)]) F (c_X3_read l D cI cS cJ (a 4) 6 (S_roadHalls u) H0 p2 h) (cw_X2_71 hts (nw1 hK) (Nat.le_of_ble_eq_true rfl) (Nat.le_of_ble_eq_true rfl)) hK (vP_one hP 4 rfl) rfl hl.1 rfl (Nat.le_of_ble_eq_true rfl) dX2_seenBeside_54 ⟨Nat.zero_le _, Nat.zero_le _⟩ (fun r10 h => ?_)
          refine lv_iadd hx hb dX2_seenBeside_57 ?_
          exact hQ h dX2_seenBeside_58
      · replace h := h.2 c7
        refine lv_bipush (v := (8 : Int32)) hx hb dX2_seenBeside_38 (by decide) ?_
        exact hQ h dX2_seenBeside_40
    clear e6
    refine lv_if_ne (tgt := 27) hx hb dX2_seenBeside_17 (by decide) (fun c11 => ?_) (fun c11 => ?_)
    · replace h := h.1 c11
      refine lv_iload hx hb dX2_seenBeside_27 (lv_at hl 0 rfl) ?_
      refine lv_iconst (v := (1 : Int32)) hx hb dX2_seenBeside_29 (by decide) ?_
      refine lv_iadd hx hb dX2_seenBeside_30 ?_
      exact w5 (r1 + (1 : Int32)) _ (lv_sub hl [1, 3] rfl) h
    · replace h := h.2 c11
      refine lv_iload hx hb dX2_seenBeside_20 (lv_at hl 0 rfl) ?_
      refine lv_iconst (v := (1 : Int32)) hx hb dX2_seenBeside_22 (by decide) ?_
      refine lv_isub hx hb dX2_seenBeside_23 ?_
      refine lv_goto (tgt := 31) hx hb dX2_seenBeside_24 (by decide) ?_
      exact w5 (r1 - (1 : Int32)) _ (lv_sub hl [1, 3] rfl) h
  · replace h := h.2 c2
    refine lv_iconst (v := (-1 : Int32)) hx hb dX2_seenBeside_14 (by decide) ?_
    exact hQ h dX2_seenBeside_15

def wp_X2_innBit  (p0 : Int32) (post : Int32 → Prop) : Prop :=
  wp_X3_isBetween p0 (0 : Int32) (7 : Int32) (fun r1 => (r1 = 0 → post (0 : Int32)) ∧ (¬ r1 = 0 → post ((1 : Int32) <<< (p0 &&& 31))))
set_option maxHeartbeats 4000000 in
set_option maxRecDepth 100000 in
theorem c_X2_innBit (l : Launch) (D : va_G) (cI cS cJ : ClassId)  (H0 : Heap) (p0 : Int32) {post : Int32 → Prop} (h : wp_X2_innBit p0 post) : Met l yX2_innBit (wsA yX2_innBit cX2_innBit 1 (some .int)) rm_X2_innBit (va_Pc [.int p0] (roP D (tysA cI cS cJ) ([]) H0)) (va_Qi (fun r (_ : Unit) => post r) (fun _ t => t.heap = H0) nF) 0 0 nF := by
  refine mkROi (by decide +kernel) (Nat.le_of_ble_eq_true rfl) (fun {p e s m args below meth c Q ls} hx hb F hts hown hK hP hl hQ => ?_)
  have hown : s.vm.findClass RX2 = some m.cls := hown
  have F : CallFix p m c cX2_innBit 1 s args wsT RX2 := F
  have hl : lv_has ls 1 [(0, .int p0)] := hl
  unfold wp_X2_innBit at h
  refine lv_iload_n hx hb dX2_innBit_0 rfl (lv_at hl 0 rfl) ?_
  refine lv_iconst (v := (0 : Int32)) hx hb dX2_innBit_1 (by decide) ?_
  refine lv_bipush (v := (7 : Int32)) hx hb dX2_innBit_2 (by decide) ?_
  refine roNi (As := [.int p0, .int (0 : Int32), .int (7 : Int32)]) (rest := []) F (c_X3_isBetween l D cI cS cJ H0 p0 (0 : Int32) (7 : Int32) h) (cw_X2_97 hts (nw2 hK) (Nat.le_of_ble_eq_true rfl) (Nat.le_of_ble_eq_true rfl)) hK vP_nil rfl hl.1 rfl (Nat.le_of_ble_eq_true rfl) dX2_innBit_4 ⟨Nat.zero_le _, Nat.zero_le _⟩ (fun r1 h => ?_)
  obtain ⟨b2, h⟩ := h
  refine lv_if_eq (tgt := 16) hx hb dX2_innBit_7 (by decide) (fun c3 => ?_) (fun c3 => ?_)
  · replace h := h.1 c3
    refine lv_iconst (v := (0 : Int32)) hx hb dX2_innBit_16 (by decide) ?_
    exact hQ h dX2_innBit_17
  · replace h := h.2 c3
    refine lv_iconst (v := (1 : Int32)) hx hb dX2_innBit_10 (by decide) ?_
    refine lv_iload_n hx hb dX2_innBit_11 rfl (lv_at hl 0 rfl) ?_
    refine lv_ishl hx hb dX2_innBit_12 ?_
    refine lv_goto (tgt := 17) hx hb dX2_innBit_13 (by decide) ?_
    exact hQ h dX2_innBit_17

def wp_X2_knownMask (u : St) (p1 : Int32) (post : Int32 → Prop) : Prop :=
  LP2 (fun (K3 : Int32 → Int32 → Prop) (x1 : Int32) (x2 : Int32) => ((S_roadCount u) ≤ x2 → post x1) ∧ (¬ (S_roadCount u) ≤ x2 → wp_X2_seenBeside u p1 x2 (0 : Int32) (fun r6 => wp_X2_innBit r6 (fun r7 => wp_X2_seenBeside u p1 x2 (1 : Int32) (fun r8 => wp_X2_innBit r8 (fun r9 => K3 (x1 ||| (r7 ||| r9)) (x2 + 1))))))) (0 : Int32) (0 : Int32)
set_option maxHeartbeats 4000000 in
set_option maxRecDepth 100000 in
theorem c_X2_knownMask (l : Launch) (D : va_G) (cI cS cJ : ClassId) (a : Nat → Nat) (u : St) (H0 : Heap) (p1 : Int32) {post : Int32 → Prop} (h : wp_X2_knownMask u p1 post) : Met l yX2_knownMask (wsA yX2_knownMask cX2_knownMask 4 (some .int)) rm_X2_knownMask (va_Pc [.ref (a 0), .int p1] (roP D (tysA cI cS cJ) (stW cI a u) H0)) (va_Qi (fun r (_ : Unit) => post r) (fun _ t => t.heap = H0) nF) 0 0 nF := by
  refine mkROi (by decide +kernel) (Nat.le_of_ble_eq_true rfl) (fun {p e s m args below meth c Q ls} hx hb F hts hown hK hP hl hQ => ?_)
  have hown : s.vm.findClass RX2 = some m.cls := hown
  have F : CallFix p m c cX2_knownMask 4 s args wsT RX2 := F
  have hl : lv_has ls 4 [(0, .ref (a 0)), (1, .int p1)] := hl
  unfold wp_X2_knownMask at h
  refine lv_iconst (v := (0 : Int32)) hx hb dX2_knownMask_0 (by decide) ?_
  refine lv_istore_n (lv' := [(2, .int (0 : Int32)), (0, .ref (a 0)), (1, .int p1)]) hx hb dX2_knownMask_1 rfl hl (by decide) rfl (fun ls hl => ?_)
  refine lv_iconst (v := (0 : Int32)) hx hb dX2_knownMask_2 (by decide) ?_
  refine lv_istore_n (lv' := [(3, .int (0 : Int32)), (2, .int (0 : Int32)), (0, .ref (a 0)), (1, .int p1)]) hx hb dX2_knownMask_3 rfl hl (by decide) rfl (fun ls hl => ?_)
  refine lpu2 h (fun K3 : Int32 → Int32 → Prop => ∀ (x1 : Int32) (x2 : Int32) (ls : Array Slot), lv_has ls 4 [(0, .ref (a 0)), (1, .int p1), (2, .int x1), (3, .int x2)] → K3 x1 x2 → W p l e rm_X2_knownMask s m args below meth c H0 [] 0 0 Q (F0 m 4 ls [])) ?_ ?_ ?_
  · intro x1 x2 ls hl h
    exact h.elim
  · intro K3
    intro w4 x1 x2 ls hl h
    refine lv_iload_n hx hb dX2_knownMask_4 rfl (lv_at hl 3 rfl) ?_
    refine lv_aload_n hx hb dX2_knownMask_5 rfl (lv_at hl 0 rfl) ?_
    refine va_get (D := D) (ci := 2) (v := .int (S_roadCount u)) (C := RX2) (T := TX2) (N := 12) hx hb hts inT2 hown hK.k hP 0 rfl rfl 2 (by decide) (hts _ q_57) (fun _ h9 => h9) rfl dX2_knownMask_6 ?_
    refine lv_icmp_ge (tgt := 42) hx hb dX2_knownMask_9 (by decide) (fun c5 => ?_) (fun c5 => ?_)
    · replace h := h.1 c5
      refine lv_iload_n hx hb dX2_knownMask_42 rfl (lv_at hl 2 rfl) ?_
      exact hQ h dX2_knownMask_43
    · replace h := h.2 c5
      refine lv_iload_n hx hb dX2_knownMask_12 rfl (lv_at hl 2 rfl) ?_
      refine lv_aload_n hx hb dX2_knownMask_13 rfl (lv_at hl 0 rfl) ?_
      refine lv_iload_n hx hb dX2_knownMask_14 rfl (lv_at hl 1 rfl) ?_
      refine lv_iload_n hx hb dX2_knownMask_15 rfl (lv_at hl 3 rfl) ?_
      refine lv_iconst (v := (0 : Int32)) hx hb dX2_knownMask_16 (by decide) ?_
      refine roVi (As := [.int p1, .int x2, .int (0 : Int32)]) (rest := [.int x1]) F (c_X2_seenBeside l D cI cS cJ a u H0 p1 x2 (0 : Int32) h) (cw_X2_89 hts (Nat.le_of_ble_eq_true rfl) (Nat.le_of_ble_eq_true rfl)) hK hP (recv (ci := 2) (k0 := 0) hK hP rfl rfl) rfl hl.1 rfl (Nat.le_of_ble_eq_true rfl) dX2_knownMask_17 ⟨Nat.zero_le _, Nat.zero_le _⟩ (fun r6 h => ?_)
      refine roSi (As := [.int r6]) (rest := [.int x1]) F (c_X2_innBit l D cI cS cJ H0 r6 h) (cw_X2_93 hts (Nat.le_of_ble_eq_true rfl) (Nat.le_of_ble_eq_true rfl)) hK vP_nil rfl hl.1 rfl (Nat.le_of_ble_eq_true rfl) dX2_knownMask_20 ⟨Nat.zero_le _, Nat.zero_le _⟩ (fun r7 h => ?_)
      refine lv_aload_n hx hb dX2_knownMask_23 rfl (lv_at hl 0 rfl) ?_
      refine lv_iload_n hx hb dX2_knownMask_24 rfl (lv_at hl 1 rfl) ?_
      refine lv_iload_n hx hb dX2_knownMask_25 rfl (lv_at hl 3 rfl) ?_
      refine lv_iconst (v := (1 : Int32)) hx hb dX2_knownMask_26 (by decide) ?_
      refine roVi (As := [.int p1, .int x2, .int (1 : Int32)]) (rest := [.int r7, .int x1]) F (c_X2_seenBeside l D cI cS cJ a u H0 p1 x2 (1 : Int32) h) (cw_X2_89 hts (Nat.le_of_ble_eq_true rfl) (Nat.le_of_ble_eq_true rfl)) hK hP (recv (ci := 2) (k0 := 0) hK hP rfl rfl) rfl hl.1 rfl (Nat.le_of_ble_eq_true rfl) dX2_knownMask_27 ⟨Nat.zero_le _, Nat.zero_le _⟩ (fun r8 h => ?_)
      refine roSi (As := [.int r8]) (rest := [.int r7, .int x1]) F (c_X2_innBit l D cI cS cJ H0 r8 h) (cw_X2_93 hts (Nat.le_of_ble_eq_true rfl) (Nat.le_of_ble_eq_true rfl)) hK vP_nil rfl hl.1 rfl (Nat.le_of_ble_eq_true rfl) dX2_knownMask_30 ⟨Nat.zero_le _, Nat.zero_le _⟩ (fun r9 h => ?_)
      refine lv_ior hx hb dX2_knownMask_33 ?_
      refine lv_ior hx hb dX2_knownMask_34 ?_
      refine lv_istore_n (lv' := [(2, .int (x1 ||| (r7 ||| r9))), (0, .ref (a 0)), (1, .int p1), (3, .int x2)]) hx hb dX2_knownMask_35 rfl hl (by decide) rfl (fun ls hl => ?_)
      refine lv_iinc (v := (x2 + 1)) (lv' := [(3, .int (x2 + 1)), (2, .int (x1 ||| (r7 ||| r9))), (0, .ref (a 0)), (1, .int p1)]) hx hb dX2_knownMask_36 hl (k := 3) rfl rfl (by decide) rfl (fun ls hl => ?_)
      refine lv_goto (tgt := 4) hx hb dX2_knownMask_39 (by decide) ?_
      exact w4 (x1 ||| (r7 ||| r9)) (x2 + 1) _ (lv_sub hl [2, 3, 1, 0] rfl) h
  · intro K3 w4 h
    exact w4 (0 : Int32) (0 : Int32) _ (lv_sub hl [2, 3, 1, 0] rfl) h

def wp_X2_roadsThrough (u : St) (p1 : Int32) (post : Int32 → Prop) : Prop :=
  LP2 (fun (K3 : Int32 → Int32 → Prop) (x1 : Int32) (x2 : Int32) => ((S_roadCount u) ≤ x2 → post x1) ∧ (¬ (S_roadCount u) ≤ x2 → wp_X2_placeOn u x2 p1 (fun r6 => (r6 = (-1 : Int32) → K3 x1 (x2 + 1)) ∧ (¬ r6 = (-1 : Int32) → K3 (x1 + 1) (x2 + 1))))) (0 : Int32) (0 : Int32)
set_option maxHeartbeats 4000000 in
set_option maxRecDepth 100000 in
theorem c_X2_roadsThrough (l : Launch) (D : va_G) (cI cS cJ : ClassId) (a : Nat → Nat) (u : St) (H0 : Heap) (p1 : Int32) {post : Int32 → Prop} (h : wp_X2_roadsThrough u p1 post) : Met l yX2_roadsThrough (wsA yX2_roadsThrough cX2_roadsThrough 4 (some .int)) rm_X2_roadsThrough (va_Pc [.ref (a 0), .int p1] (roP D (tysA cI cS cJ) (stW cI a u) H0)) (va_Qi (fun r (_ : Unit) => post r) (fun _ t => t.heap = H0) nF) 0 0 nF := by
  refine mkROi (by decide +kernel) (Nat.le_of_ble_eq_true rfl) (fun {p e s m args below meth c Q ls} hx hb F hts hown hK hP hl hQ => ?_)
  have hown : s.vm.findClass RX2 = some m.cls := hown
  have F : CallFix p m c cX2_roadsThrough 4 s args wsT RX2 := F
  have hl : lv_has ls 4 [(0, .ref (a 0)), (1, .int p1)] := hl
  unfold wp_X2_roadsThrough at h
  refine lv_iconst (v := (0 : Int32)) hx hb dX2_roadsThrough_0 (by decide) ?_
  refine lv_istore_n (lv' := [(2, .int (0 : Int32)), (0, .ref (a 0)), (1, .int p1)]) hx hb dX2_roadsThrough_1 rfl hl (by decide) rfl (fun ls hl => ?_)
  refine lv_iconst (v := (0 : Int32)) hx hb dX2_roadsThrough_2 (by decide) ?_
  refine lv_istore_n (lv' := [(3, .int (0 : Int32)), (2, .int (0 : Int32)), (0, .ref (a 0)), (1, .int p1)]) hx hb dX2_roadsThrough_3 rfl hl (by decide) rfl (fun ls hl => ?_)
  refine lpu2 h (fun K3 : Int32 → Int32 → Prop => ∀ (x1 : Int32) (x2 : Int32) (ls : Array Slot), lv_has ls 4 [(0, .ref (a 0)), (1, .int p1), (2, .int x1), (3, .int x2)] → K3 x1 x2 → W p l e rm_X2_roadsThrough s m args below meth c H0 [] 0 0 Q (F0 m 4 ls [])) ?_ ?_ ?_
  · intro x1 x2 ls hl h
    exact h.elim
  · intro K3
    intro w4 x1 x2 ls hl h
    refine lv_iload_n hx hb dX2_roadsThrough_4 rfl (lv_at hl 3 rfl) ?_
    refine lv_aload_n hx hb dX2_roadsThrough_5 rfl (lv_at hl 0 rfl) ?_
    refine va_get (D := D) (ci := 2) (v := .int (S_roadCount u)) (C := RX2) (T := TX2) (N := 12) hx hb hts inT2 hown hK.k hP 0 rfl rfl 2 (by decide) (hts _ q_57) (fun _ h9 => h9) rfl dX2_roadsThrough_6 ?_
    refine lv_icmp_ge (tgt := 31) hx hb dX2_roadsThrough_9 (by decide) (fun c5 => ?_) (fun c5 => ?_)
    · replace h := h.1 c5
      refine lv_iload_n hx hb dX2_roadsThrough_31 rfl (lv_at hl 2 rfl) ?_
      exact hQ h dX2_roadsThrough_32
    · replace h := h.2 c5
      refine lv_aload_n hx hb dX2_roadsThrough_12 rfl (lv_at hl 0 rfl) ?_
      refine lv_iload_n hx hb dX2_roadsThrough_13 rfl (lv_at hl 3 rfl) ?_
      refine lv_iload_n hx hb dX2_roadsThrough_14 rfl (lv_at hl 1 rfl) ?_
      refine roVi (As := [.int x2, .int p1]) (rest := []) F (c_X2_placeOn l D cI cS cJ a u H0 x2 p1 h) (cw_X2_86 hts (Nat.le_of_ble_eq_true rfl) (Nat.le_of_ble_eq_true rfl)) hK hP (recv (ci := 2) (k0 := 0) hK hP rfl rfl) rfl hl.1 rfl (Nat.le_of_ble_eq_true rfl) dX2_roadsThrough_15 ⟨Nat.zero_le _, Nat.zero_le _⟩ (fun r6 h => ?_)
      refine lv_iconst (v := (-1 : Int32)) hx hb dX2_roadsThrough_18 (by decide) ?_
      refine lv_icmp_eq (tgt := 25) hx hb dX2_roadsThrough_19 (by decide) (fun c7 => ?_) (fun c7 => ?_)
      · replace h := h.1 c7
        refine lv_iinc (v := (x2 + 1)) (lv' := [(3, .int (x2 + 1)), (0, .ref (a 0)), (1, .int p1), (2, .int x1)]) hx hb dX2_roadsThrough_25 hl (k := 3) rfl rfl (by decide) rfl (fun ls hl => ?_)
        refine lv_goto (tgt := 4) hx hb dX2_roadsThrough_28 (by decide) ?_
        exact w4 x1 (x2 + 1) _ (lv_sub hl [1, 2, 3, 0] rfl) h
      · replace h := h.2 c7
        refine lv_iinc (v := (x1 + 1)) (lv' := [(2, .int (x1 + 1)), (0, .ref (a 0)), (1, .int p1), (3, .int x2)]) hx hb dX2_roadsThrough_22 hl (k := 2) rfl rfl (by decide) rfl (fun ls hl => ?_)
        refine lv_iinc (v := (x2 + 1)) (lv' := [(3, .int (x2 + 1)), (2, .int (x1 + 1)), (0, .ref (a 0)), (1, .int p1)]) hx hb dX2_roadsThrough_25 hl (k := 3) rfl rfl (by decide) rfl (fun ls hl => ?_)
        refine lv_goto (tgt := 4) hx hb dX2_roadsThrough_28 (by decide) ?_
        exact w4 (x1 + 1) (x2 + 1) _ (lv_sub hl [2, 3, 1, 0] rfl) h
  · intro K3 w4 h
    exact w4 (0 : Int32) (0 : Int32) _ (lv_sub hl [2, 3, 1, 0] rfl) h

def wp_X2_leastUsedInn (u : St) (p1 : Int32) (post : Int32 → Prop) : Prop :=
  LP2 (fun (K3 : Int32 → Int32 → Prop) (x1 : Int32) (x2 : Int32) => ((6 : Int32) < x2 → post (-1 : Int32)) ∧ (¬ (6 : Int32) < x2 → LP2 (fun (K8 : Int32 → Int32 → Prop) (x6 : Int32) (x7 : Int32) => ((8 : Int32) ≤ x7 → K3 x6 (x2 + 1)) ∧ (¬ (8 : Int32) ≤ x7 → wp_X2_hasOpen u x7 (fun r11 => (r11 = 0 → K8 x6 (x7 + 1)) ∧ (¬ r11 = 0 → wp_X2_roadsThrough u x7 (fun r14 => (¬ r14 = x2 → K8 x6 (x7 + 1)) ∧ (r14 = x2 → (¬ (x6 + 1) = p1 → K8 (x6 + 1) (x7 + 1)) ∧ ((x6 + 1) = p1 → post x7))))))) x1 (0 : Int32))) (0 : Int32) (0 : Int32)
set_option maxHeartbeats 4000000 in
set_option maxRecDepth 100000 in
theorem c_X2_leastUsedInn (l : Launch) (D : va_G) (cI cS cJ : ClassId) (a : Nat → Nat) (u : St) (H0 : Heap) (p1 : Int32) {post : Int32 → Prop} (h : wp_X2_leastUsedInn u p1 post) : Met l yX2_leastUsedInn (wsA yX2_leastUsedInn cX2_leastUsedInn 5 (some .int)) rm_X2_leastUsedInn (va_Pc [.ref (a 0), .int p1] (roP D (tysA cI cS cJ) (stW cI a u) H0)) (va_Qi (fun r (_ : Unit) => post r) (fun _ t => t.heap = H0) nF) 0 0 nF := by
  refine mkROi (by decide +kernel) (Nat.le_of_ble_eq_true rfl) (fun {p e s m args below meth c Q ls} hx hb F hts hown hK hP hl hQ => ?_)
  have hown : s.vm.findClass RX2 = some m.cls := hown
  have F : CallFix p m c cX2_leastUsedInn 5 s args wsT RX2 := F
  have hl : lv_has ls 5 [(0, .ref (a 0)), (1, .int p1)] := hl
  unfold wp_X2_leastUsedInn at h
  refine lv_iconst (v := (0 : Int32)) hx hb dX2_leastUsedInn_0 (by decide) ?_
  refine lv_istore_n (lv' := [(2, .int (0 : Int32)), (0, .ref (a 0)), (1, .int p1)]) hx hb dX2_leastUsedInn_1 rfl hl (by decide) rfl (fun ls hl => ?_)
  refine lv_iconst (v := (0 : Int32)) hx hb dX2_leastUsedInn_2 (by decide) ?_
  refine lv_istore_n (lv' := [(3, .int (0 : Int32)), (2, .int (0 : Int32)), (0, .ref (a 0)), (1, .int p1)]) hx hb dX2_leastUsedInn_3 rfl hl (by decide) rfl (fun ls hl => ?_)
  refine lpu2 h (fun K3 : Int32 → Int32 → Prop => ∀ (x1 : Int32) (x2 : Int32) (ls : Array Slot), lv_has ls 5 [(0, .ref (a 0)), (1, .int p1), (2, .int x1), (3, .int x2)] → K3 x1 x2 → W p l e rm_X2_leastUsedInn s m args below meth c H0 [] 0 0 Q (F0 m 4 ls [])) ?_ ?_ ?_
  · intro x1 x2 ls hl h
    exact h.elim
  · intro K3
    intro w4 x1 x2 ls hl h
    refine lv_iload_n hx hb dX2_leastUsedInn_4 rfl (lv_at hl 3 rfl) ?_
    refine lv_bipush (v := (6 : Int32)) hx hb dX2_leastUsedInn_5 (by decide) ?_
    refine lv_icmp_gt (tgt := 62) hx hb dX2_leastUsedInn_7 (by decide) (fun c5 => ?_) (fun c5 => ?_)
    · replace h := h.1 c5
      refine lv_iconst (v := (-1 : Int32)) hx hb dX2_leastUsedInn_62 (by decide) ?_
      exact hQ h dX2_leastUsedInn_63
    · replace h := h.2 c5
      refine lv_iconst (v := (0 : Int32)) hx hb dX2_leastUsedInn_10 (by decide) ?_
      refine lv_istore (lv' := [(4, .int (0 : Int32)), (0, .ref (a 0)), (1, .int p1), (2, .int x1), (3, .int x2)]) hx hb dX2_leastUsedInn_11 hl (by decide) rfl (fun ls hl => ?_)
      refine lpu2 h (fun K8 : Int32 → Int32 → Prop => ∀ (x6 : Int32) (x7 : Int32) (ls : Array Slot), lv_has ls 5 [(0, .ref (a 0)), (1, .int p1), (2, .int x6), (3, .int x2), (4, .int x7)] → K8 x6 x7 → W p l e rm_X2_leastUsedInn s m args below meth c H0 [] 0 0 Q (F0 m 13 ls [])) ?_ ?_ ?_
      · intro x6 x7 ls hl h
        exact h.elim
      · intro K8
        intro w9 x6 x7 ls hl h
        refine lv_iload hx hb dX2_leastUsedInn_13 (lv_at hl 4 rfl) ?_
        refine lv_bipush (v := (8 : Int32)) hx hb dX2_leastUsedInn_15 (by decide) ?_
        refine lv_icmp_ge (tgt := 56) hx hb dX2_leastUsedInn_17 (by decide) (fun c10 => ?_) (fun c10 => ?_)
        · replace h := h.1 c10
          refine lv_iinc (v := (x2 + 1)) (lv' := [(3, .int (x2 + 1)), (0, .ref (a 0)), (1, .int p1), (2, .int x6), (4, .int x7)]) hx hb dX2_leastUsedInn_56 hl (k := 3) rfl rfl (by decide) rfl (fun ls hl => ?_)
          refine lv_goto (tgt := 4) hx hb dX2_leastUsedInn_59 (by decide) ?_
          exact w4 x6 (x2 + 1) _ (lv_sub hl [1, 2, 3, 0] rfl) h
        · replace h := h.2 c10
          refine lv_aload_n hx hb dX2_leastUsedInn_20 rfl (lv_at hl 0 rfl) ?_
          refine lv_iload hx hb dX2_leastUsedInn_21 (lv_at hl 4 rfl) ?_
          refine roVi (As := [.int x7]) (rest := []) F (c_X2_hasOpen l D cI cS cJ a u H0 x7 h) (cw_X2_82 hts (Nat.le_of_ble_eq_true rfl) (Nat.le_of_ble_eq_true rfl)) hK hP (recv (ci := 2) (k0 := 0) hK hP rfl rfl) rfl hl.1 rfl (Nat.le_of_ble_eq_true rfl) dX2_leastUsedInn_23 ⟨Nat.zero_le _, Nat.zero_le _⟩ (fun r11 h => ?_)
          obtain ⟨b12, h⟩ := h
          refine lv_if_eq (tgt := 50) hx hb dX2_leastUsedInn_26 (by decide) (fun c13 => ?_) (fun c13 => ?_)
          · replace h := h.1 c13
            refine lv_iinc (v := (x7 + 1)) (lv' := [(4, .int (x7 + 1)), (0, .ref (a 0)), (1, .int p1), (2, .int x6), (3, .int x2)]) hx hb dX2_leastUsedInn_50 hl (k := 4) rfl rfl (by decide) rfl (fun ls hl => ?_)
            refine lv_goto (tgt := 13) hx hb dX2_leastUsedInn_53 (by decide) ?_
            exact w9 x6 (x7 + 1) _ (lv_sub hl [1, 2, 3, 4, 0] rfl) h
          · replace h := h.2 c13
            refine lv_aload_n hx hb dX2_leastUsedInn_29 rfl (lv_at hl 0 rfl) ?_
            refine lv_iload hx hb dX2_leastUsedInn_30 (lv_at hl 4 rfl) ?_
            refine roVi (As := [.int x7]) (rest := []) F (c_X2_roadsThrough l D cI cS cJ a u H0 x7 h) (cw_X2_101 hts (Nat.le_of_ble_eq_true rfl) (Nat.le_of_ble_eq_true rfl)) hK hP (recv (ci := 2) (k0 := 0) hK hP rfl rfl) rfl hl.1 rfl (Nat.le_of_ble_eq_true rfl) dX2_leastUsedInn_32 ⟨Nat.zero_le _, Nat.zero_le _⟩ (fun r14 h => ?_)
            refine lv_iload_n hx hb dX2_leastUsedInn_35 rfl (lv_at hl 3 rfl) ?_
            refine lv_icmp_ne (tgt := 50) hx hb dX2_leastUsedInn_36 (by decide) (fun c15 => ?_) (fun c15 => ?_)
            · replace h := h.1 c15
              refine lv_iinc (v := (x7 + 1)) (lv' := [(4, .int (x7 + 1)), (0, .ref (a 0)), (1, .int p1), (2, .int x6), (3, .int x2)]) hx hb dX2_leastUsedInn_50 hl (k := 4) rfl rfl (by decide) rfl (fun ls hl => ?_)
              refine lv_goto (tgt := 13) hx hb dX2_leastUsedInn_53 (by decide) ?_
              exact w9 x6 (x7 + 1) _ (lv_sub hl [1, 2, 3, 4, 0] rfl) h
            · replace h := h.2 c15
              refine lv_iinc (v := (x6 + 1)) (lv' := [(2, .int (x6 + 1)), (0, .ref (a 0)), (1, .int p1), (3, .int x2), (4, .int x7)]) hx hb dX2_leastUsedInn_39 hl (k := 2) rfl rfl (by decide) rfl (fun ls hl => ?_)
              refine lv_iload_n hx hb dX2_leastUsedInn_42 rfl (lv_at hl 0 rfl) ?_
              refine lv_iload_n hx hb dX2_leastUsedInn_43 rfl (lv_at hl 2 rfl) ?_
              refine lv_icmp_ne (tgt := 50) hx hb dX2_leastUsedInn_44 (by decide) (fun c16 => ?_) (fun c16 => ?_)
              · replace h := h.1 c16
                refine lv_iinc (v := (x7 + 1)) (lv' := [(4, .int (x7 + 1)), (2, .int (x6 + 1)), (0, .ref (a 0)), (1, .int p1), (3, .int x2)]) hx hb dX2_leastUsedInn_50 hl (k := 4) rfl rfl (by decide) rfl (fun ls hl => ?_)
                refine lv_goto (tgt := 13) hx hb dX2_leastUsedInn_53 (by decide) ?_
                exact w9 (x6 + 1) (x7 + 1) _ (lv_sub hl [2, 3, 1, 4, 0] rfl) h
              · replace h := h.2 c16
                refine lv_iload hx hb dX2_leastUsedInn_47 (lv_at hl 4 rfl) ?_
                exact hQ h dX2_leastUsedInn_49
      · intro K8 w9 h
        exact w9 x1 (0 : Int32) _ (lv_sub hl [1, 2, 3, 4, 0] rfl) h
  · intro K3 w4 h
    exact w4 (0 : Int32) (0 : Int32) _ (lv_sub hl [2, 3, 1, 0] rfl) h

def wp_X2_putNumber (u : St) (p1 : Int32) (p2 : Int32) (p3 : Int32) (post : St → Prop) : Prop :=
  wp_X3_write 48 (S_envelopeNumbers u) (((4 : Int32) * p1) + p2) p3 (fun f2 => post (aS_envelopeNumbers u f2))
set_option maxHeartbeats 4000000 in
set_option maxRecDepth 100000 in
theorem c_X2_putNumber (l : Launch) (D : va_G) (cI cS cJ : ClassId) (a : Nat → Nat) (u : St) (sz : Nat) (p1 : Int32) (p2 : Int32) (p3 : Int32) {post : St → Prop} (h : wp_X2_putNumber u p1 p2 p3 post) : Met l yX2_putNumber (wsA yX2_putNumber cX2_putNumber 4 none) rm_X2_putNumber (va_Pc [.ref (a 0), .int p1, .int p2, .int p3] (rwP D (tysA cI cS cJ) (stW cI a u) sz)) (va_Qv post (fun u9 t => va_P D vwCl ((stW cI a) u9) t.heap ∧ va_D (va_A (stW cI a u) sz) ((stW cI a) u9)) (va_A (stW cI a u) sz)) 0 0 (va_A (stW cI a u) sz) := by
  refine mkRWv (wf := (stW cI a)) (by decide +kernel) (Nat.le_of_ble_eq_true rfl) (fun {p e s m args below meth c Q ls A H0 H locs} hx hb F hts hown hin hK hP hD hS hA hl hQ => ?_)
  have hown : s.vm.findClass RX2 = some m.cls := hown
  have F : CallFix p m c cX2_putNumber 4 s args wsT RX2 := F
  have hl : lv_has ls 4 [(0, .ref (a 0)), (1, .int p1), (2, .int p2), (3, .int p3)] := hl
  unfold wp_X2_putNumber at h
  refine lv_aload_n hx hb dX2_putNumber_0 rfl (lv_at hl 0 rfl) ?_
  refine va_get (D := D) (ci := 2) (v := .ref (a 5)) (C := RX2) (T := TX2) (N := 12) hx hb hts inT2 hown hK.k hP 0 rfl rfl 7 (by decide) (hts _ q_65) (fun _ h9 => h9) rfl dX2_putNumber_1 ?_
  refine lv_iconst (v := (4 : Int32)) hx hb dX2_putNumber_4 (by decide) ?_
  refine lv_iload_n hx hb dX2_putNumber_5 rfl (lv_at hl 1 rfl) ?_
  refine lv_imul hx hb dX2_putNumber_6 ?_
  refine lv_iload_n hx hb dX2_putNumber_7 rfl (lv_at hl 2 rfl) ?_
  refine lv_iadd hx hb dX2_putNumber_8 ?_
  refine lv_iload_n hx hb dX2_putNumber_9 rfl (lv_at hl 3 rfl) ?_
  refine rwNv (wr := List.eraseIdx (stW cI a u) 5) (wf := fun f1 => [((a 5), .inl (cI, 48, .inl f1))]) (As := [.ref (a 5), .int (((4 : Int32) * p1) + p2), .int p3]) (rest := []) (perm_k _ 5 rfl) F (c_X3_write l D cI cS cJ (a 5) 48 (S_envelopeNumbers u) H.size (((4 : Int32) * p1) + p2) p3 h) (cw_X2_67 hts (nw3 hK) (Nat.le_of_ble_eq_true rfl) (Nat.le_of_ble_eq_true rfl)) hK hP hD hS hA rfl hl.1 rfl (Nat.le_of_ble_eq_true rfl) dX2_putNumber_10 ⟨Nat.zero_le _, Nat.zero_le _⟩ (fun f2 H locs h hP hD hS => ?_)
  have hP : va_P D vwCl (stW cI a (aS_envelopeNumbers u f2)) H := vP_set1 (k := 5) (ws := stW cI a u) rfl hP
  have hD : va_D A (stW cI a (aS_envelopeNumbers u f2)) := vD_set1 (k := 5) (ws := stW cI a u) rfl hD
  exact hQ h hP hD hS dX2_putNumber_13

def wp_X2_countUp (u : St) (p1 : Int32) (post : St → Prop) : Prop :=
  wp_X3_read 5 (S_counts u) p1 (fun r1 => wp_X3_write 5 (S_counts u) p1 (r1 + (1 : Int32)) (fun f3 => post (aS_counts u f3)))
set_option maxHeartbeats 4000000 in
set_option maxRecDepth 100000 in
theorem c_X2_countUp (l : Launch) (D : va_G) (cI cS cJ : ClassId) (a : Nat → Nat) (u : St) (sz : Nat) (p1 : Int32) {post : St → Prop} (h : wp_X2_countUp u p1 post) : Met l yX2_countUp (wsA yX2_countUp cX2_countUp 2 none) rm_X2_countUp (va_Pc [.ref (a 0), .int p1] (rwP D (tysA cI cS cJ) (stW cI a u) sz)) (va_Qv post (fun u9 t => va_P D vwCl ((stW cI a) u9) t.heap ∧ va_D (va_A (stW cI a u) sz) ((stW cI a) u9)) (va_A (stW cI a u) sz)) 0 0 (va_A (stW cI a u) sz) := by
  refine mkRWv (wf := (stW cI a)) (by decide +kernel) (Nat.le_of_ble_eq_true rfl) (fun {p e s m args below meth c Q ls A H0 H locs} hx hb F hts hown hin hK hP hD hS hA hl hQ => ?_)
  have hown : s.vm.findClass RX2 = some m.cls := hown
  have F : CallFix p m c cX2_countUp 2 s args wsT RX2 := F
  have hl : lv_has ls 2 [(0, .ref (a 0)), (1, .int p1)] := hl
  unfold wp_X2_countUp at h
  refine lv_aload_n hx hb dX2_countUp_0 rfl (lv_at hl 0 rfl) ?_
  refine va_get (D := D) (ci := 2) (v := .ref (a 8)) (C := RX2) (T := TX2) (N := 12) hx hb hts inT2 hown hK.k hP 0 rfl rfl 11 (by decide) (hts _ q_72) (fun _ h9 => h9) rfl dX2_countUp_1 ?_
  refine lv_iload_n hx hb dX2_countUp_4 rfl (lv_at hl 1 rfl) ?_
  refine lv_aload_n hx hb dX2_countUp_5 rfl (lv_at hl 0 rfl) ?_
  refine va_get (D := D) (ci := 2) (v := .ref (a 8)) (C := RX2) (T := TX2) (N := 12) hx hb hts inT2 hown hK.k hP 0 rfl rfl 11 (by decide) (hts _ q_72) (fun _ h9 => h9) rfl dX2_countUp_6 ?_
  refine lv_iload_n hx hb dX2_countUp_9 rfl (lv_at hl 1 rfl) ?_
  refine roNi (As := [.ref (a 8), .int p1]) (rest := [.int p1, .ref (a 8)]) F (c_X3_read l D cI cS cJ (a 8) 5 (S_counts u) H p1 h) (cw_X2_71 hts (nw1 hK) (Nat.le_of_ble_eq_true rfl) (Nat.le_of_ble_eq_true rfl)) hK (vP_one hP 8 rfl) rfl hl.1 rfl (Nat.le_of_ble_eq_true rfl) dX2_countUp_10 ⟨Nat.zero_le _, Nat.zero_le _⟩ (fun r1 h => ?_)
  refine lv_iconst (v := (1 : Int32)) hx hb dX2_countUp_13 (by decide) ?_
  refine lv_iadd hx hb dX2_countUp_14 ?_
  refine rwNv (wr := List.eraseIdx (stW cI a u) 8) (wf := fun f1 => [((a 8), .inl (cI, 5, .inl f1))]) (As := [.ref (a 8), .int p1, .int (r1 + (1 : Int32))]) (rest := []) (perm_k _ 8 rfl) F (c_X3_write l D cI cS cJ (a 8) 5 (S_counts u) H.size p1 (r1 + (1 : Int32)) h) (cw_X2_67 hts (nw3 hK) (Nat.le_of_ble_eq_true rfl) (Nat.le_of_ble_eq_true rfl)) hK hP hD hS hA rfl hl.1 rfl (Nat.le_of_ble_eq_true rfl) dX2_countUp_15 ⟨Nat.zero_le _, Nat.zero_le _⟩ (fun f3 H locs h hP hD hS => ?_)
  have hP : va_P D vwCl (stW cI a (aS_counts u f3)) H := vP_set1 (k := 8) (ws := stW cI a u) rfl hP
  have hD : va_D A (stW cI a (aS_counts u f3)) := vD_set1 (k := 8) (ws := stW cI a u) rfl hD
  exact hQ h hP hD hS dX2_countUp_18

def wp_X2_addEnvelope (u : St) (p1 : Int32) (p2 : Int32) (p3 : Int32) (p4 : Int32) (post : Int32 → St → Prop) : Prop :=
  wp_X2_putNumber u (S_envelopeCount u) (0 : Int32) p1 (fun u2 => wp_X2_putNumber u2 (S_envelopeCount u) (1 : Int32) p2 (fun u4 => wp_X2_putNumber u4 (S_envelopeCount u) (2 : Int32) p3 (fun u6 => wp_X2_putNumber u6 (S_envelopeCount u) (3 : Int32) p4 (fun u8 => post (S_envelopeCount u) (sS_envelopeCount u8 ((S_envelopeCount u8) + (1 : Int32)))))))
set_option maxHeartbeats 4000000 in
set_option maxRecDepth 100000 in
theorem c_X2_addEnvelope (l : Launch) (D : va_G) (cI cS cJ : ClassId) (a : Nat → Nat) (u : St) (sz : Nat) (p1 : Int32) (p2 : Int32) (p3 : Int32) (p4 : Int32) {post : Int32 → St → Prop} (h : wp_X2_addEnvelope u p1 p2 p3 p4 post) : Met l yX2_addEnvelope (wsA yX2_addEnvelope cX2_addEnvelope 6 (some .int)) rm_X2_addEnvelope (va_Pc [.ref (a 0), .int p1, .int p2, .int p3, .int p4] (rwP D (tysA cI cS cJ) (stW cI a u) sz)) (va_Qi post (fun u9 t => va_P D vwCl ((stW cI a) u9) t.heap ∧ va_D (va_A (stW cI a u) sz) ((stW cI a) u9)) (va_A (stW cI a u) sz)) 0 0 (va_A (stW cI a u) sz) := by
  refine mkRWi (wf := (stW cI a)) (by decide +kernel) (Nat.le_of_ble_eq_true rfl) (fun {p e s m args below meth c Q ls A H0 H locs} hx hb F hts hown hK hP hD hS hA hl hQ => ?_)
  have hown : s.vm.findClass RX2 = some m.cls := hown
  have F : CallFix p m c cX2_addEnvelope 6 s args wsT RX2 := F
  have hl : lv_has ls 6 [(0, .ref (a 0)), (1, .int p1), (2, .int p2), (3, .int p3), (4, .int p4)] := hl
  unfold wp_X2_addEnvelope at h
  refine lv_aload_n hx hb dX2_addEnvelope_0 rfl (lv_at hl 0 rfl) ?_
  refine va_get (D := D) (ci := 2) (v := .int (S_envelopeCount u)) (C := RX2) (T := TX2) (N := 12) hx hb hts inT2 hown hK.k hP 0 rfl rfl 6 (by decide) (hts _ q_63) (fun _ h9 => h9) rfl dX2_addEnvelope_1 ?_
  refine lv_istore (lv' := [(5, .int (S_envelopeCount u)), (0, .ref (a 0)), (1, .int p1), (2, .int p2), (3, .int p3), (4, .int p4)]) hx hb dX2_addEnvelope_4 hl (by decide) rfl (fun ls hl => ?_)
  refine lv_aload_n hx hb dX2_addEnvelope_6 rfl (lv_at hl 1 rfl) ?_
  refine lv_iload hx hb dX2_addEnvelope_7 (lv_at hl 0 rfl) ?_
  refine lv_iconst (v := (0 : Int32)) hx hb dX2_addEnvelope_9 (by decide) ?_
  refine lv_iload_n hx hb dX2_addEnvelope_10 rfl (lv_at hl 2 rfl) ?_
  refine rwVv0 (As := [.int (S_envelopeCount u), .int (0 : Int32), .int p1]) (rest := []) F (c_X2_putNumber l D cI cS cJ a u H.size (S_envelopeCount u) (0 : Int32) p1 h) (cw_X2_118 hts (Nat.le_of_ble_eq_true rfl) (Nat.le_of_ble_eq_true rfl)) hK hP hD hS hA (recv (ci := 2) (k0 := 0) hK hP rfl rfl) rfl hl.1 rfl (Nat.le_of_ble_eq_true rfl) dX2_addEnvelope_11 ⟨Nat.zero_le _, Nat.zero_le _⟩ (fun u2 H locs h hP hD hS => ?_)
  refine lv_aload_n hx hb dX2_addEnvelope_14 rfl (lv_at hl 1 rfl) ?_
  refine lv_iload hx hb dX2_addEnvelope_15 (lv_at hl 0 rfl) ?_
  refine lv_iconst (v := (1 : Int32)) hx hb dX2_addEnvelope_17 (by decide) ?_
  refine lv_iload_n hx hb dX2_addEnvelope_18 rfl (lv_at hl 3 rfl) ?_
  refine rwVv0 (As := [.int (S_envelopeCount u), .int (1 : Int32), .int p2]) (rest := []) F (c_X2_putNumber l D cI cS cJ a u2 H.size (S_envelopeCount u) (1 : Int32) p2 h) (cw_X2_118 hts (Nat.le_of_ble_eq_true rfl) (Nat.le_of_ble_eq_true rfl)) hK hP hD hS hA (recv (ci := 2) (k0 := 0) hK hP rfl rfl) rfl hl.1 rfl (Nat.le_of_ble_eq_true rfl) dX2_addEnvelope_19 ⟨Nat.zero_le _, Nat.zero_le _⟩ (fun u4 H locs h hP hD hS => ?_)
  refine lv_aload_n hx hb dX2_addEnvelope_22 rfl (lv_at hl 1 rfl) ?_
  refine lv_iload hx hb dX2_addEnvelope_23 (lv_at hl 0 rfl) ?_
  refine lv_iconst (v := (2 : Int32)) hx hb dX2_addEnvelope_25 (by decide) ?_
  refine lv_iload_n hx hb dX2_addEnvelope_26 rfl (lv_at hl 4 rfl) ?_
  refine rwVv0 (As := [.int (S_envelopeCount u), .int (2 : Int32), .int p3]) (rest := []) F (c_X2_putNumber l D cI cS cJ a u4 H.size (S_envelopeCount u) (2 : Int32) p3 h) (cw_X2_118 hts (Nat.le_of_ble_eq_true rfl) (Nat.le_of_ble_eq_true rfl)) hK hP hD hS hA (recv (ci := 2) (k0 := 0) hK hP rfl rfl) rfl hl.1 rfl (Nat.le_of_ble_eq_true rfl) dX2_addEnvelope_27 ⟨Nat.zero_le _, Nat.zero_le _⟩ (fun u6 H locs h hP hD hS => ?_)
  refine lv_aload_n hx hb dX2_addEnvelope_30 rfl (lv_at hl 1 rfl) ?_
  refine lv_iload hx hb dX2_addEnvelope_31 (lv_at hl 0 rfl) ?_
  refine lv_iconst (v := (3 : Int32)) hx hb dX2_addEnvelope_33 (by decide) ?_
  refine lv_iload hx hb dX2_addEnvelope_34 (lv_at hl 5 rfl) ?_
  refine rwVv0 (As := [.int (S_envelopeCount u), .int (3 : Int32), .int p4]) (rest := []) F (c_X2_putNumber l D cI cS cJ a u6 H.size (S_envelopeCount u) (3 : Int32) p4 h) (cw_X2_118 hts (Nat.le_of_ble_eq_true rfl) (Nat.le_of_ble_eq_true rfl)) hK hP hD hS hA (recv (ci := 2) (k0 := 0) hK hP rfl rfl) rfl hl.1 rfl (Nat.le_of_ble_eq_true rfl) dX2_addEnvelope_36 ⟨Nat.zero_le _, Nat.zero_le _⟩ (fun u8 H locs h hP hD hS => ?_)
  refine lv_aload_n hx hb dX2_addEnvelope_39 rfl (lv_at hl 1 rfl) ?_
  refine lv_dup hx hb dX2_addEnvelope_40 rfl ?_
  refine va_get (D := D) (ci := 2) (v := .int (S_envelopeCount u8)) (C := RX2) (T := TX2) (N := 12) hx hb hts inT2 hown hK.k hP 0 rfl rfl 6 (by decide) (hts _ q_63) (fun _ h9 => h9) rfl dX2_addEnvelope_41 ?_
  refine lv_iconst (v := (1 : Int32)) hx hb dX2_addEnvelope_44 (by decide) ?_
  refine lv_iadd hx hb dX2_addEnvelope_45 ?_
  refine va_put (D := D) (ci := 2) (v := .int ((S_envelopeCount u8) + (1 : Int32))) (ty := .int) (C := RX2) (T := TX2) (N := 12) hx hb hts inT2 tyX2 tyX2_ok nmX2 hown hK.k hP hD hS 0 rfl rfl 6 (by decide) (hts _ q_63) (fun _ h9 => h9) rfl (by decide +kernel) rfl rfl (Nat.le_of_ble_eq_true rfl) dX2_addEnvelope_46 (fun H locs hP hD hS => ?_)
  have hP : va_P D vwCl (stW cI a (sS_envelopeCount u8 ((S_envelopeCount u8) + (1 : Int32)))) H := hP
  have hD : va_D A (stW cI a (sS_envelopeCount u8 ((S_envelopeCount u8) + (1 : Int32)))) := hD
  refine lv_iload hx hb dX2_addEnvelope_49 (lv_at hl 0 rfl) ?_
  exact hQ h hP hD hS dX2_addEnvelope_51

def wp_X2_addLetter (u : St) (p1 : Int32) (p2 : Int32) (post : Int32 → St → Prop) : Prop :=
  LP2 (fun (K3 : Int32 → Int32 → Prop) (x1 : Int32) (x2 : Int32) => (x2 < (1 : Int32) → wp_X2_countUp u (0 : Int32) (fun u7 => wp_X2_addEnvelope u7 p1 (0 : Int32) x1 (0 : Int32) (fun r8 u9 => post r8 u9))) ∧ (¬ x2 < (1 : Int32) → wp_X2_keyAt u p1 x2 (fun r10 => wp_X3_covered x1 r10 (fun r11 => K3 r11 (x2 + (-1)))))) p2 (3 : Int32)
set_option maxHeartbeats 4000000 in
set_option maxRecDepth 100000 in
theorem c_X2_addLetter (l : Launch) (D : va_G) (cI cS cJ : ClassId) (a : Nat → Nat) (u : St) (sz : Nat) (p1 : Int32) (p2 : Int32) {post : Int32 → St → Prop} (h : wp_X2_addLetter u p1 p2 post) : Met l yX2_addLetter (wsA yX2_addLetter cX2_addLetter 5 (some .int)) rm_X2_addLetter (va_Pc [.ref (a 0), .int p1, .int p2] (rwP D (tysA cI cS cJ) (stW cI a u) sz)) (va_Qi post (fun u9 t => va_P D vwCl ((stW cI a) u9) t.heap ∧ va_D (va_A (stW cI a u) sz) ((stW cI a) u9)) (va_A (stW cI a u) sz)) 0 0 (va_A (stW cI a u) sz) := by
  refine mkRWi (wf := (stW cI a)) (by decide +kernel) (Nat.le_of_ble_eq_true rfl) (fun {p e s m args below meth c Q ls A H0 H locs} hx hb F hts hown hK hP hD hS hA hl hQ => ?_)
  have hown : s.vm.findClass RX2 = some m.cls := hown
  have F : CallFix p m c cX2_addLetter 5 s args wsT RX2 := F
  have hl : lv_has ls 5 [(0, .ref (a 0)), (1, .int p1), (2, .int p2)] := hl
  unfold wp_X2_addLetter at h
  refine lv_iload_n hx hb dX2_addLetter_0 rfl (lv_at hl 2 rfl) ?_
  refine lv_istore_n (lv' := [(3, .int p2), (0, .ref (a 0)), (1, .int p1), (2, .int p2)]) hx hb dX2_addLetter_1 rfl hl (by decide) rfl (fun ls hl => ?_)
  refine lv_iconst (v := (3 : Int32)) hx hb dX2_addLetter_2 (by decide) ?_
  refine lv_istore (lv' := [(4, .int (3 : Int32)), (3, .int p2), (0, .ref (a 0)), (1, .int p1), (2, .int p2)]) hx hb dX2_addLetter_3 hl (by decide) rfl (fun ls hl => ?_)
  refine lpu2 h (fun K3 : Int32 → Int32 → Prop => ∀ (x1 : Int32) (x2 : Int32) (ls : Array Slot) (H : Heap) (locs : List Loc), lv_has ls 5 [(0, .ref (a 0)), (1, .int p1), (3, .int x1), (4, .int x2)] → va_P D vwCl (stW cI a u) H → va_D A (stW cI a u) → va_S A H0 H locs → K3 x1 x2 → W p l e rm_X2_addLetter s m args below meth c H locs 0 0 Q (F0 m 5 ls [])) ?_ ?_ ?_
  · intro x1 x2 ls H locs hl hP hD hS h
    exact h.elim
  · intro K3
    intro w4 x1 x2 ls H locs hl hP hD hS h
    refine lv_iload hx hb dX2_addLetter_5 (lv_at hl 3 rfl) ?_
    refine lv_iconst (v := (1 : Int32)) hx hb dX2_addLetter_7 (by decide) ?_
    refine lv_icmp_lt (tgt := 29) hx hb dX2_addLetter_8 (by decide) (fun c5 => ?_) (fun c5 => ?_)
    · replace h := h.1 c5
      refine lv_aload_n hx hb dX2_addLetter_29 rfl (lv_at hl 0 rfl) ?_
      refine lv_iconst (v := (0 : Int32)) hx hb dX2_addLetter_30 (by decide) ?_
      refine rwVv0 (As := [.int (0 : Int32)]) (rest := []) F (c_X2_countUp l D cI cS cJ a u H.size (0 : Int32) h) (cw_X2_110 hts (Nat.le_of_ble_eq_true rfl) (Nat.le_of_ble_eq_true rfl)) hK hP hD hS hA (recv (ci := 2) (k0 := 0) hK hP rfl rfl) rfl hl.1 rfl (Nat.le_of_ble_eq_true rfl) dX2_addLetter_31 ⟨Nat.zero_le _, Nat.zero_le _⟩ (fun u7 H locs h hP hD hS => ?_)
      refine lv_aload_n hx hb dX2_addLetter_34 rfl (lv_at hl 0 rfl) ?_
      refine lv_iload_n hx hb dX2_addLetter_35 rfl (lv_at hl 1 rfl) ?_
      refine lv_iconst (v := (0 : Int32)) hx hb dX2_addLetter_36 (by decide) ?_
      refine lv_iload_n hx hb dX2_addLetter_37 rfl (lv_at hl 2 rfl) ?_
      refine lv_iconst (v := (0 : Int32)) hx hb dX2_addLetter_38 (by decide) ?_
      refine rwVi0 (As := [.int p1, .int (0 : Int32), .int x1, .int (0 : Int32)]) (rest := []) F (c_X2_addEnvelope l D cI cS cJ a u7 H.size p1 (0 : Int32) x1 (0 : Int32) h) (cw_X2_114 hts (Nat.le_of_ble_eq_true rfl) (Nat.le_of_ble_eq_true rfl)) hK hP hD hS hA (recv (ci := 2) (k0 := 0) hK hP rfl rfl) rfl hl.1 rfl (Nat.le_of_ble_eq_true rfl) dX2_addLetter_39 ⟨Nat.zero_le _, Nat.zero_le _⟩ (fun r8 u9 H locs h hP hD hS => ?_)
      exact hQ h hP hD hS dX2_addLetter_42
    · replace h := h.2 c5
      refine lv_iload_n hx hb dX2_addLetter_11 rfl (lv_at hl 2 rfl) ?_
      refine lv_aload_n hx hb dX2_addLetter_12 rfl (lv_at hl 0 rfl) ?_
      refine lv_iload_n hx hb dX2_addLetter_13 rfl (lv_at hl 1 rfl) ?_
      refine lv_iload hx hb dX2_addLetter_14 (lv_at hl 3 rfl) ?_
      refine roVi (As := [.int p1, .int x2]) (rest := [.int x1]) F (c_X2_keyAt l D cI cS cJ a u H p1 x2 h) (cw_X2_104 hts (Nat.le_of_ble_eq_true rfl) (Nat.le_of_ble_eq_true rfl)) hK hP (recv (ci := 2) (k0 := 0) hK hP rfl rfl) rfl hl.1 rfl (Nat.le_of_ble_eq_true rfl) dX2_addLetter_16 ⟨Nat.zero_le _, Nat.zero_le _⟩ (fun r10 h => ?_)
      refine roNi (As := [.int x1, .int r10]) (rest := []) F (c_X3_covered l D cI cS cJ H x1 r10 h) (cw_X2_107 hts (nw5 hK) (Nat.le_of_ble_eq_true rfl) (Nat.le_of_ble_eq_true rfl)) hK vP_nil rfl hl.1 rfl (Nat.le_of_ble_eq_true rfl) dX2_addLetter_19 ⟨Nat.zero_le _, Nat.zero_le _⟩ (fun r11 h => ?_)
      refine lv_istore_n (lv' := [(3, .int r11), (0, .ref (a 0)), (1, .int p1), (4, .int x2)]) hx hb dX2_addLetter_22 rfl hl (by decide) rfl (fun ls hl => ?_)
      refine lv_iinc (v := (x2 + (-1))) (lv' := [(4, .int (x2 + (-1))), (3, .int r11), (0, .ref (a 0)), (1, .int p1)]) hx hb dX2_addLetter_23 hl (k := 3) rfl rfl (by decide) rfl (fun ls hl => ?_)
      refine lv_goto (tgt := 5) hx hb dX2_addLetter_26 (by decide) ?_
      exact w4 r11 (x2 + (-1)) _ _ _ (lv_sub hl [2, 3, 1, 0] rfl) hP hD hS h
  · intro K3 w4 h
    exact w4 p2 (3 : Int32) _ _ _ (lv_sub hl [2, 3, 1, 0] rfl) hP hD hS h

def wp_X2_addAnswer (u : St) (p1 : Int32) (p2 : Int32) (post : Int32 → St → Prop) : Prop :=
  wp_X2_countUp u (2 : Int32) (fun u2 => wp_X3_read 4 (S_answerRoads u2) p1 (fun r3 => wp_X2_addEnvelope u2 r3 (4 : Int32) p2 (1 : Int32) (fun r4 u5 => post r4 u5)))
set_option maxHeartbeats 4000000 in
set_option maxRecDepth 100000 in
theorem c_X2_addAnswer (l : Launch) (D : va_G) (cI cS cJ : ClassId) (a : Nat → Nat) (u : St) (sz : Nat) (p1 : Int32) (p2 : Int32) {post : Int32 → St → Prop} (h : wp_X2_addAnswer u p1 p2 post) : Met l yX2_addAnswer (wsA yX2_addAnswer cX2_addAnswer 3 (some .int)) rm_X2_addAnswer (va_Pc [.ref (a 0), .int p1, .int p2] (rwP D (tysA cI cS cJ) (stW cI a u) sz)) (va_Qi post (fun u9 t => va_P D vwCl ((stW cI a) u9) t.heap ∧ va_D (va_A (stW cI a u) sz) ((stW cI a) u9)) (va_A (stW cI a u) sz)) 0 0 (va_A (stW cI a u) sz) := by
  refine mkRWi (wf := (stW cI a)) (by decide +kernel) (Nat.le_of_ble_eq_true rfl) (fun {p e s m args below meth c Q ls A H0 H locs} hx hb F hts hown hK hP hD hS hA hl hQ => ?_)
  have hown : s.vm.findClass RX2 = some m.cls := hown
  have F : CallFix p m c cX2_addAnswer 3 s args wsT RX2 := F
  have hl : lv_has ls 3 [(0, .ref (a 0)), (1, .int p1), (2, .int p2)] := hl
  unfold wp_X2_addAnswer at h
  refine lv_aload_n hx hb dX2_addAnswer_0 rfl (lv_at hl 0 rfl) ?_
  refine lv_iconst (v := (2 : Int32)) hx hb dX2_addAnswer_1 (by decide) ?_
  refine rwVv0 (As := [.int (2 : Int32)]) (rest := []) F (c_X2_countUp l D cI cS cJ a u H.size (2 : Int32) h) (cw_X2_110 hts (Nat.le_of_ble_eq_true rfl) (Nat.le_of_ble_eq_true rfl)) hK hP hD hS hA (recv (ci := 2) (k0 := 0) hK hP rfl rfl) rfl hl.1 rfl (Nat.le_of_ble_eq_true rfl) dX2_addAnswer_2 ⟨Nat.zero_le _, Nat.zero_le _⟩ (fun u2 H locs h hP hD hS => ?_)
  refine lv_aload_n hx hb dX2_addAnswer_5 rfl (lv_at hl 0 rfl) ?_
  refine lv_aload_n hx hb dX2_addAnswer_6 rfl (lv_at hl 0 rfl) ?_
  refine va_get (D := D) (ci := 2) (v := .ref (a 7)) (C := RX2) (T := TX2) (N := 12) hx hb hts inT2 hown hK.k hP 0 rfl rfl 9 (by decide) (hts _ q_68) (fun _ h9 => h9) rfl dX2_addAnswer_7 ?_
  refine lv_iload_n hx hb dX2_addAnswer_10 rfl (lv_at hl 1 rfl) ?_
  refine roNi (As := [.ref (a 7), .int p1]) (rest := [.ref (a 0)]) F (c_X3_read l D cI cS cJ (a 7) 4 (S_answerRoads u2) H p1 h) (cw_X2_71 hts (nw1 hK) (Nat.le_of_ble_eq_true rfl) (Nat.le_of_ble_eq_true rfl)) hK (vP_one hP 7 rfl) rfl hl.1 rfl (Nat.le_of_ble_eq_true rfl) dX2_addAnswer_11 ⟨Nat.zero_le _, Nat.zero_le _⟩ (fun r3 h => ?_)
  refine lv_iconst (v := (4 : Int32)) hx hb dX2_addAnswer_14 (by decide) ?_
  refine lv_iload_n hx hb dX2_addAnswer_15 rfl (lv_at hl 2 rfl) ?_
  refine lv_iconst (v := (1 : Int32)) hx hb dX2_addAnswer_16 (by decide) ?_
  refine rwVi0 (As := [.int r3, .int (4 : Int32), .int p2, .int (1 : Int32)]) (rest := []) F (c_X2_addEnvelope l D cI cS cJ a u2 H.size r3 (4 : Int32) p2 (1 : Int32) h) (cw_X2_114 hts (Nat.le_of_ble_eq_true rfl) (Nat.le_of_ble_eq_true rfl)) hK hP hD hS hA (recv (ci := 2) (k0 := 0) hK hP rfl rfl) rfl hl.1 rfl (Nat.le_of_ble_eq_true rfl) dX2_addAnswer_17 ⟨Nat.zero_le _, Nat.zero_le _⟩ (fun r4 u5 H locs h hP hD hS => ?_)
  exact hQ h hP hD hS dX2_addAnswer_20

def wp_X2_reachHall (u : St) (p1 : Int32) (post : St → Prop) : Prop :=
  wp_X2_ofEnvelope u p1 (0 : Int32) (fun r1 => wp_X3_read 6 (S_roadHalls u) r1 (fun r2 => wp_X2_ofEnvelope u p1 (2 : Int32) (fun r3 => wp_X3_write 4 (S_letters u) r2 r3 (fun f5 => wp_X3_write 4 (S_answerRoads (aS_letters u f5)) r2 r1 (fun f7 => wp_X2_countUp (aS_answerRoads (aS_letters u f5) f7) (1 : Int32) (fun u9 => wp_X2_putNumber u9 p1 (1 : Int32) (-1 : Int32) (fun u11 => post u11)))))))
set_option maxHeartbeats 4000000 in
set_option maxRecDepth 100000 in
theorem c_X2_reachHall (l : Launch) (D : va_G) (cI cS cJ : ClassId) (a : Nat → Nat) (u : St) (sz : Nat) (p1 : Int32) {post : St → Prop} (h : wp_X2_reachHall u p1 post) : Met l yX2_reachHall (wsA yX2_reachHall cX2_reachHall 4 none) rm_X2_reachHall (va_Pc [.ref (a 0), .int p1] (rwP D (tysA cI cS cJ) (stW cI a u) sz)) (va_Qv post (fun u9 t => va_P D vwCl ((stW cI a) u9) t.heap ∧ va_D (va_A (stW cI a u) sz) ((stW cI a) u9)) (va_A (stW cI a u) sz)) 0 0 (va_A (stW cI a u) sz) := by
  refine mkRWv (wf := (stW cI a)) (by decide +kernel) (Nat.le_of_ble_eq_true rfl) (fun {p e s m args below meth c Q ls A H0 H locs} hx hb F hts hown hin hK hP hD hS hA hl hQ => ?_)
  have hown : s.vm.findClass RX2 = some m.cls := hown
  have F : CallFix p m c cX2_reachHall 4 s args wsT RX2 := F
  have hl : lv_has ls 4 [(0, .ref (a 0)), (1, .int p1)] := hl
  unfold wp_X2_reachHall at h
  refine lv_aload_n hx hb dX2_reachHall_0 rfl (lv_at hl 0 rfl) ?_
  refine lv_iload_n hx hb dX2_reachHall_1 rfl (lv_at hl 1 rfl) ?_
  refine lv_iconst (v := (0 : Int32)) hx hb dX2_reachHall_2 (by decide) ?_
  refine roVi (As := [.int p1, .int (0 : Int32)]) (rest := []) F (c_X2_ofEnvelope l D cI cS cJ a u H p1 (0 : Int32) h) (cw_X2_75 hts (Nat.le_of_ble_eq_true rfl) (Nat.le_of_ble_eq_true rfl)) hK hP (recv (ci := 2) (k0 := 0) hK hP rfl rfl) rfl hl.1 rfl (Nat.le_of_ble_eq_true rfl) dX2_reachHall_3 ⟨Nat.zero_le _, Nat.zero_le _⟩ (fun r1 h => ?_)
  refine lv_istore_n (lv' := [(2, .int r1), (0, .ref (a 0)), (1, .int p1)]) hx hb dX2_reachHall_6 rfl hl (by decide) rfl (fun ls hl => ?_)
  refine lv_aload_n hx hb dX2_reachHall_7 rfl (lv_at hl 1 rfl) ?_
  refine va_get (D := D) (ci := 2) (v := .ref (a 4)) (C := RX2) (T := TX2) (N := 12) hx hb hts inT2 hown hK.k hP 0 rfl rfl 5 (by decide) (hts _ q_61) (fun _ h9 => h9) rfl dX2_reachHall_8 ?_
  refine lv_iload_n hx hb dX2_reachHall_11 rfl (lv_at hl 0 rfl) ?_
  refine roNi (As := [.ref (a 4), .int r1]) (rest := []) F (c_X3_read l D cI cS cJ (a 4) 6 (S_roadHalls u) H r1 h) (cw_X2_71 hts (nw1 hK) (Nat.le_of_ble_eq_true rfl) (Nat.le_of_ble_eq_true rfl)) hK (vP_one hP 4 rfl) rfl hl.1 rfl (Nat.le_of_ble_eq_true rfl) dX2_reachHall_12 ⟨Nat.zero_le _, Nat.zero_le _⟩ (fun r2 h => ?_)
  refine lv_istore_n (lv' := [(3, .int r2), (2, .int r1), (0, .ref (a 0)), (1, .int p1)]) hx hb dX2_reachHall_15 rfl hl (by decide) rfl (fun ls hl => ?_)
  refine lv_aload_n hx hb dX2_reachHall_16 rfl (lv_at hl 2 rfl) ?_
  refine va_get (D := D) (ci := 2) (v := .ref (a 6)) (C := RX2) (T := TX2) (N := 12) hx hb hts inT2 hown hK.k hP 0 rfl rfl 8 (by decide) (hts _ q_66) (fun _ h9 => h9) rfl dX2_reachHall_17 ?_
  refine lv_iload_n hx hb dX2_reachHall_20 rfl (lv_at hl 0 rfl) ?_
  refine lv_aload_n hx hb dX2_reachHall_21 rfl (lv_at hl 2 rfl) ?_
  refine lv_iload_n hx hb dX2_reachHall_22 rfl (lv_at hl 3 rfl) ?_
  refine lv_iconst (v := (2 : Int32)) hx hb dX2_reachHall_23 (by decide) ?_
  refine roVi (As := [.int p1, .int (2 : Int32)]) (rest := [.int r2, .ref (a 6)]) F (c_X2_ofEnvelope l D cI cS cJ a u H p1 (2 : Int32) h) (cw_X2_75 hts (Nat.le_of_ble_eq_true rfl) (Nat.le_of_ble_eq_true rfl)) hK hP (recv (ci := 2) (k0 := 0) hK hP rfl rfl) rfl hl.1 rfl (Nat.le_of_ble_eq_true rfl) dX2_reachHall_24 ⟨Nat.zero_le _, Nat.zero_le _⟩ (fun r3 h => ?_)
  refine rwNv (wr := List.eraseIdx (stW cI a u) 6) (wf := fun f1 => [((a 6), .inl (cI, 4, .inl f1))]) (As := [.ref (a 6), .int r2, .int r3]) (rest := []) (perm_k _ 6 rfl) F (c_X3_write l D cI cS cJ (a 6) 4 (S_letters u) H.size r2 r3 h) (cw_X2_67 hts (nw3 hK) (Nat.le_of_ble_eq_true rfl) (Nat.le_of_ble_eq_true rfl)) hK hP hD hS hA rfl hl.1 rfl (Nat.le_of_ble_eq_true rfl) dX2_reachHall_27 ⟨Nat.zero_le _, Nat.zero_le _⟩ (fun f5 H locs h hP hD hS => ?_)
  have hP : va_P D vwCl (stW cI a (aS_letters u f5)) H := vP_set1 (k := 6) (ws := stW cI a u) rfl hP
  have hD : va_D A (stW cI a (aS_letters u f5)) := vD_set1 (k := 6) (ws := stW cI a u) rfl hD
  refine lv_aload_n hx hb dX2_reachHall_30 rfl (lv_at hl 2 rfl) ?_
  refine va_get (D := D) (ci := 2) (v := .ref (a 7)) (C := RX2) (T := TX2) (N := 12) hx hb hts inT2 hown hK.k hP 0 rfl rfl 9 (by decide) (hts _ q_68) (fun _ h9 => h9) rfl dX2_reachHall_31 ?_
  refine lv_iload_n hx hb dX2_reachHall_34 rfl (lv_at hl 0 rfl) ?_
  refine lv_iload_n hx hb dX2_reachHall_35 rfl (lv_at hl 1 rfl) ?_
  refine rwNv (wr := List.eraseIdx (stW cI a (aS_letters u f5)) 7) (wf := fun f1 => [((a 7), .inl (cI, 4, .inl f1))]) (As := [.ref (a 7), .int r2, .int r1]) (rest := []) (perm_k _ 7 rfl) F (c_X3_write l D cI cS cJ (a 7) 4 (S_answerRoads (aS_letters u f5)) H.size r2 r1 h) (cw_X2_67 hts (nw3 hK) (Nat.le_of_ble_eq_true rfl) (Nat.le_of_ble_eq_true rfl)) hK hP hD hS hA rfl hl.1 rfl (Nat.le_of_ble_eq_true rfl) dX2_reachHall_36 ⟨Nat.zero_le _, Nat.zero_le _⟩ (fun f7 H locs h hP hD hS => ?_)
  have hP : va_P D vwCl (stW cI a (aS_answerRoads (aS_letters u f5) f7)) H := vP_set1 (k := 7) (ws := stW cI a (aS_letters u f5)) rfl hP
  have hD : va_D A (stW cI a (aS_answerRoads (aS_letters u f5) f7)) := vD_set1 (k := 7) (ws := stW cI a (aS_letters u f5)) rfl hD
  refine lv_aload_n hx hb dX2_reachHall_39 rfl (lv_at hl 2 rfl) ?_
  refine lv_iconst (v := (1 : Int32)) hx hb dX2_reachHall_40 (by decide) ?_
  refine rwVv0 (As := [.int (1 : Int32)]) (rest := []) F (c_X2_countUp l D cI cS cJ a (aS_answerRoads (aS_letters u f5) f7) H.size (1 : Int32) h) (cw_X2_110 hts (Nat.le_of_ble_eq_true rfl) (Nat.le_of_ble_eq_true rfl)) hK hP hD hS hA (recv (ci := 2) (k0 := 0) hK hP rfl rfl) rfl hl.1 rfl (Nat.le_of_ble_eq_true rfl) dX2_reachHall_41 ⟨Nat.zero_le _, Nat.zero_le _⟩ (fun u9 H locs h hP hD hS => ?_)
  refine lv_aload_n hx hb dX2_reachHall_44 rfl (lv_at hl 2 rfl) ?_
  refine lv_iload_n hx hb dX2_reachHall_45 rfl (lv_at hl 3 rfl) ?_
  refine lv_iconst (v := (1 : Int32)) hx hb dX2_reachHall_46 (by decide) ?_
  refine lv_iconst (v := (-1 : Int32)) hx hb dX2_reachHall_47 (by decide) ?_
  refine rwVv0 (As := [.int p1, .int (1 : Int32), .int (-1 : Int32)]) (rest := []) F (c_X2_putNumber l D cI cS cJ a u9 H.size p1 (1 : Int32) (-1 : Int32) h) (cw_X2_118 hts (Nat.le_of_ble_eq_true rfl) (Nat.le_of_ble_eq_true rfl)) hK hP hD hS hA (recv (ci := 2) (k0 := 0) hK hP rfl rfl) rfl hl.1 rfl (Nat.le_of_ble_eq_true rfl) dX2_reachHall_48 ⟨Nat.zero_le _, Nat.zero_le _⟩ (fun u11 H locs h hP hD hS => ?_)
  exact hQ h hP hD hS dX2_reachHall_51

def wp_X2_reachTraveller (u : St) (p1 : Int32) (post : St → Prop) : Prop :=
  wp_X2_ofEnvelope u p1 (0 : Int32) (fun r1 => wp_X2_ofEnvelope u p1 (2 : Int32) (fun r2 => LP2 (fun (K5 : Int32 → Int32 → Prop) (x3 : Int32) (x4 : Int32) => ((3 : Int32) < x4 → wp_X2_countUp (sS_answerGot u x3) (3 : Int32) (fun u9 => wp_X2_putNumber u9 p1 (1 : Int32) (-1 : Int32) (fun u11 => post u11))) ∧ (¬ (3 : Int32) < x4 → wp_X2_keyAt u r1 x4 (fun r12 => wp_X3_uncovered x3 r12 (fun r13 => K5 r13 (x4 + 1))))) r2 (1 : Int32)))
set_option maxHeartbeats 4000000 in
set_option maxRecDepth 100000 in
theorem c_X2_reachTraveller (l : Launch) (D : va_G) (cI cS cJ : ClassId) (a : Nat → Nat) (u : St) (sz : Nat) (p1 : Int32) {post : St → Prop} (h : wp_X2_reachTraveller u p1 post) : Met l yX2_reachTraveller (wsA yX2_reachTraveller cX2_reachTraveller 5 none) rm_X2_reachTraveller (va_Pc [.ref (a 0), .int p1] (rwP D (tysA cI cS cJ) (stW cI a u) sz)) (va_Qv post (fun u9 t => va_P D vwCl ((stW cI a) u9) t.heap ∧ va_D (va_A (stW cI a u) sz) ((stW cI a) u9)) (va_A (stW cI a u) sz)) 0 0 (va_A (stW cI a u) sz) := by
  refine mkRWv (wf := (stW cI a)) (by decide +kernel) (Nat.le_of_ble_eq_true rfl) (fun {p e s m args below meth c Q ls A H0 H locs} hx hb F hts hown hin hK hP hD hS hA hl hQ => ?_)
  have hown : s.vm.findClass RX2 = some m.cls := hown
  have F : CallFix p m c cX2_reachTraveller 5 s args wsT RX2 := F
  have hl : lv_has ls 5 [(0, .ref (a 0)), (1, .int p1)] := hl
  unfold wp_X2_reachTraveller at h
  refine lv_aload_n hx hb dX2_reachTraveller_0 rfl (lv_at hl 0 rfl) ?_
  refine lv_iload_n hx hb dX2_reachTraveller_1 rfl (lv_at hl 1 rfl) ?_
  refine lv_iconst (v := (0 : Int32)) hx hb dX2_reachTraveller_2 (by decide) ?_
  refine roVi (As := [.int p1, .int (0 : Int32)]) (rest := []) F (c_X2_ofEnvelope l D cI cS cJ a u H p1 (0 : Int32) h) (cw_X2_75 hts (Nat.le_of_ble_eq_true rfl) (Nat.le_of_ble_eq_true rfl)) hK hP (recv (ci := 2) (k0 := 0) hK hP rfl rfl) rfl hl.1 rfl (Nat.le_of_ble_eq_true rfl) dX2_reachTraveller_3 ⟨Nat.zero_le _, Nat.zero_le _⟩ (fun r1 h => ?_)
  refine lv_istore_n (lv' := [(2, .int r1), (0, .ref (a 0)), (1, .int p1)]) hx hb dX2_reachTraveller_6 rfl hl (by decide) rfl (fun ls hl => ?_)
  refine lv_aload_n hx hb dX2_reachTraveller_7 rfl (lv_at hl 1 rfl) ?_
  refine lv_iload_n hx hb dX2_reachTraveller_8 rfl (lv_at hl 2 rfl) ?_
  refine lv_iconst (v := (2 : Int32)) hx hb dX2_reachTraveller_9 (by decide) ?_
  refine roVi (As := [.int p1, .int (2 : Int32)]) (rest := []) F (c_X2_ofEnvelope l D cI cS cJ a u H p1 (2 : Int32) h) (cw_X2_75 hts (Nat.le_of_ble_eq_true rfl) (Nat.le_of_ble_eq_true rfl)) hK hP (recv (ci := 2) (k0 := 0) hK hP rfl rfl) rfl hl.1 rfl (Nat.le_of_ble_eq_true rfl) dX2_reachTraveller_10 ⟨Nat.zero_le _, Nat.zero_le _⟩ (fun r2 h => ?_)
  refine lv_istore_n (lv' := [(3, .int r2), (2, .int r1), (0, .ref (a 0)), (1, .int p1)]) hx hb dX2_reachTraveller_13 rfl hl (by decide) rfl (fun ls hl => ?_)
  refine lv_iconst (v := (1 : Int32)) hx hb dX2_reachTraveller_14 (by decide) ?_
  refine lv_istore (lv' := [(4, .int (1 : Int32)), (3, .int r2), (2, .int r1), (0, .ref (a 0)), (1, .int p1)]) hx hb dX2_reachTraveller_15 hl (by decide) rfl (fun ls hl => ?_)
  refine lpu2 h (fun K5 : Int32 → Int32 → Prop => ∀ (x3 : Int32) (x4 : Int32) (ls : Array Slot) (H : Heap) (locs : List Loc), lv_has ls 5 [(0, .ref (a 0)), (1, .int p1), (2, .int r1), (3, .int x3), (4, .int x4)] → va_P D vwCl (stW cI a u) H → va_D A (stW cI a u) → va_S A H0 H locs → K5 x3 x4 → W p l e rm_X2_reachTraveller s m args below meth c H locs 0 0 Q (F0 m 17 ls [])) ?_ ?_ ?_
  · intro x3 x4 ls H locs hl hP hD hS h
    exact h.elim
  · intro K5
    intro w6 x3 x4 ls H locs hl hP hD hS h
    refine lv_iload hx hb dX2_reachTraveller_17 (lv_at hl 4 rfl) ?_
    refine lv_iconst (v := (3 : Int32)) hx hb dX2_reachTraveller_19 (by decide) ?_
    refine lv_icmp_gt (tgt := 41) hx hb dX2_reachTraveller_20 (by decide) (fun c7 => ?_) (fun c7 => ?_)
    · replace h := h.1 c7
      refine lv_aload_n hx hb dX2_reachTraveller_41 rfl (lv_at hl 0 rfl) ?_
      refine lv_iload_n hx hb dX2_reachTraveller_42 rfl (lv_at hl 3 rfl) ?_
      refine va_put (D := D) (ci := 2) (v := .int x3) (ty := .int) (C := RX2) (T := TX2) (N := 12) hx hb hts inT2 tyX2 tyX2_ok nmX2 hown hK.k hP hD hS 0 rfl rfl 10 (by decide) (hts _ q_70) (fun _ h9 => h9) rfl (by decide +kernel) rfl rfl (Nat.le_of_ble_eq_true rfl) dX2_reachTraveller_43 (fun H locs hP hD hS => ?_)
      have hP : va_P D vwCl (stW cI a (sS_answerGot u x3)) H := hP
      have hD : va_D A (stW cI a (sS_answerGot u x3)) := hD
      refine lv_aload_n hx hb dX2_reachTraveller_46 rfl (lv_at hl 0 rfl) ?_
      refine lv_iconst (v := (3 : Int32)) hx hb dX2_reachTraveller_47 (by decide) ?_
      refine rwVv0 (As := [.int (3 : Int32)]) (rest := []) F (c_X2_countUp l D cI cS cJ a (sS_answerGot u x3) H.size (3 : Int32) h) (cw_X2_110 hts (Nat.le_of_ble_eq_true rfl) (Nat.le_of_ble_eq_true rfl)) hK hP hD hS hA (recv (ci := 2) (k0 := 0) hK hP rfl rfl) rfl hl.1 rfl (Nat.le_of_ble_eq_true rfl) dX2_reachTraveller_48 ⟨Nat.zero_le _, Nat.zero_le _⟩ (fun u9 H locs h hP hD hS => ?_)
      refine lv_aload_n hx hb dX2_reachTraveller_51 rfl (lv_at hl 0 rfl) ?_
      refine lv_iload_n hx hb dX2_reachTraveller_52 rfl (lv_at hl 1 rfl) ?_
      refine lv_iconst (v := (1 : Int32)) hx hb dX2_reachTraveller_53 (by decide) ?_
      refine lv_iconst (v := (-1 : Int32)) hx hb dX2_reachTraveller_54 (by decide) ?_
      refine rwVv0 (As := [.int p1, .int (1 : Int32), .int (-1 : Int32)]) (rest := []) F (c_X2_putNumber l D cI cS cJ a u9 H.size p1 (1 : Int32) (-1 : Int32) h) (cw_X2_118 hts (Nat.le_of_ble_eq_true rfl) (Nat.le_of_ble_eq_true rfl)) hK hP hD hS hA (recv (ci := 2) (k0 := 0) hK hP rfl rfl) rfl hl.1 rfl (Nat.le_of_ble_eq_true rfl) dX2_reachTraveller_55 ⟨Nat.zero_le _, Nat.zero_le _⟩ (fun u11 H locs h hP hD hS => ?_)
      exact hQ h hP hD hS dX2_reachTraveller_58
    · replace h := h.2 c7
      refine lv_iload_n hx hb dX2_reachTraveller_23 rfl (lv_at hl 3 rfl) ?_
      refine lv_aload_n hx hb dX2_reachTraveller_24 rfl (lv_at hl 0 rfl) ?_
      refine lv_iload_n hx hb dX2_reachTraveller_25 rfl (lv_at hl 2 rfl) ?_
      refine lv_iload hx hb dX2_reachTraveller_26 (lv_at hl 4 rfl) ?_
      refine roVi (As := [.int r1, .int x4]) (rest := [.int x3]) F (c_X2_keyAt l D cI cS cJ a u H r1 x4 h) (cw_X2_104 hts (Nat.le_of_ble_eq_true rfl) (Nat.le_of_ble_eq_true rfl)) hK hP (recv (ci := 2) (k0 := 0) hK hP rfl rfl) rfl hl.1 rfl (Nat.le_of_ble_eq_true rfl) dX2_reachTraveller_28 ⟨Nat.zero_le _, Nat.zero_le _⟩ (fun r12 h => ?_)
      refine roNi (As := [.int x3, .int r12]) (rest := []) F (c_X3_uncovered l D cI cS cJ H x3 r12 h) (cw_X2_137 hts (nw4 hK) (Nat.le_of_ble_eq_true rfl) (Nat.le_of_ble_eq_true rfl)) hK vP_nil rfl hl.1 rfl (Nat.le_of_ble_eq_true rfl) dX2_reachTraveller_31 ⟨Nat.zero_le _, Nat.zero_le _⟩ (fun r13 h => ?_)
      refine lv_istore_n (lv' := [(3, .int r13), (0, .ref (a 0)), (1, .int p1), (2, .int r1), (4, .int x4)]) hx hb dX2_reachTraveller_34 rfl hl (by decide) rfl (fun ls hl => ?_)
      refine lv_iinc (v := (x4 + 1)) (lv' := [(4, .int (x4 + 1)), (3, .int r13), (0, .ref (a 0)), (1, .int p1), (2, .int r1)]) hx hb dX2_reachTraveller_35 hl (k := 4) rfl rfl (by decide) rfl (fun ls hl => ?_)
      refine lv_goto (tgt := 17) hx hb dX2_reachTraveller_38 (by decide) ?_
      exact w6 r13 (x4 + 1) _ _ _ (lv_sub hl [2, 3, 4, 1, 0] rfl) hP hD hS h
  · intro K5 w6 h
    exact w6 r2 (1 : Int32) _ _ _ (lv_sub hl [3, 4, 2, 1, 0] rfl) hP hD hS h

def wp_X2_reachInn (u : St) (p1 : Int32) (p2 : Int32) (post : St → Prop) : Prop :=
  wp_X2_ofEnvelope u p1 (0 : Int32) (fun r1 => wp_X2_innAt u r1 p2 (fun r2 => wp_X2_hasOpen u r2 (fun r3 => (¬ r3 = 0 → wp_X2_ofEnvelope u p1 (2 : Int32) (fun r6 => wp_X2_keyAt u r1 p2 (fun r7 => wp_X2_ofEnvelope u p1 (3 : Int32) (fun r8 => jn (fun (x9 : Int32) => jn (fun (x14 : Int32) => wp_X2_putNumber u p1 (2 : Int32) x14 (fun u19 => post u19)) (fun (J15 : Int32 → Prop) => (x9 = 0 → wp_X3_covered r6 r7 (fun r21 => J15 r21)) ∧ (¬ x9 = 0 → wp_X3_uncovered r6 r7 (fun r22 => J15 r22)))) (fun (J11 : Int32 → Prop) => (¬ r8 = 0 → J11 (0 : Int32)) ∧ (r8 = 0 → J11 (1 : Int32))))))) ∧ (r3 = 0 → wp_X2_countUp u (4 : Int32) (fun u25 => wp_X2_putNumber u25 p1 (1 : Int32) (-1 : Int32) (fun u27 => post u27))))))
set_option maxHeartbeats 4000000 in
set_option maxRecDepth 100000 in
theorem c_X2_reachInn (l : Launch) (D : va_G) (cI cS cJ : ClassId) (a : Nat → Nat) (u : St) (sz : Nat) (p1 : Int32) (p2 : Int32) {post : St → Prop} (h : wp_X2_reachInn u p1 p2 post) : Met l yX2_reachInn (wsA yX2_reachInn cX2_reachInn 7 none) rm_X2_reachInn (va_Pc [.ref (a 0), .int p1, .int p2] (rwP D (tysA cI cS cJ) (stW cI a u) sz)) (va_Qv post (fun u9 t => va_P D vwCl ((stW cI a) u9) t.heap ∧ va_D (va_A (stW cI a u) sz) ((stW cI a) u9)) (va_A (stW cI a u) sz)) 0 0 (va_A (stW cI a u) sz) := by
  refine mkRWv (wf := (stW cI a)) (by decide +kernel) (Nat.le_of_ble_eq_true rfl) (fun {p e s m args below meth c Q ls A H0 H locs} hx hb F hts hown hin hK hP hD hS hA hl hQ => ?_)
  have hown : s.vm.findClass RX2 = some m.cls := hown
  have F : CallFix p m c cX2_reachInn 7 s args wsT RX2 := F
  have hl : lv_has ls 7 [(0, .ref (a 0)), (1, .int p1), (2, .int p2)] := hl
  unfold wp_X2_reachInn at h
  refine lv_aload_n hx hb dX2_reachInn_0 rfl (lv_at hl 0 rfl) ?_
  refine lv_iload_n hx hb dX2_reachInn_1 rfl (lv_at hl 1 rfl) ?_
  refine lv_iconst (v := (0 : Int32)) hx hb dX2_reachInn_2 (by decide) ?_
  refine roVi (As := [.int p1, .int (0 : Int32)]) (rest := []) F (c_X2_ofEnvelope l D cI cS cJ a u H p1 (0 : Int32) h) (cw_X2_75 hts (Nat.le_of_ble_eq_true rfl) (Nat.le_of_ble_eq_true rfl)) hK hP (recv (ci := 2) (k0 := 0) hK hP rfl rfl) rfl hl.1 rfl (Nat.le_of_ble_eq_true rfl) dX2_reachInn_3 ⟨Nat.zero_le _, Nat.zero_le _⟩ (fun r1 h => ?_)
  refine lv_istore_n (lv' := [(3, .int r1), (0, .ref (a 0)), (1, .int p1), (2, .int p2)]) hx hb dX2_reachInn_6 rfl hl (by decide) rfl (fun ls hl => ?_)
  refine lv_aload_n hx hb dX2_reachInn_7 rfl (lv_at hl 1 rfl) ?_
  refine lv_aload_n hx hb dX2_reachInn_8 rfl (lv_at hl 1 rfl) ?_
  refine lv_iload_n hx hb dX2_reachInn_9 rfl (lv_at hl 0 rfl) ?_
  refine lv_iload_n hx hb dX2_reachInn_10 rfl (lv_at hl 3 rfl) ?_
  refine roVi (As := [.int r1, .int p2]) (rest := [.ref (a 0)]) F (c_X2_innAt l D cI cS cJ a u H r1 p2 h) (cw_X2_79 hts (Nat.le_of_ble_eq_true rfl) (Nat.le_of_ble_eq_true rfl)) hK hP (recv (ci := 2) (k0 := 0) hK hP rfl rfl) rfl hl.1 rfl (Nat.le_of_ble_eq_true rfl) dX2_reachInn_11 ⟨Nat.zero_le _, Nat.zero_le _⟩ (fun r2 h => ?_)
  refine roVi (As := [.int r2]) (rest := []) F (c_X2_hasOpen l D cI cS cJ a u H r2 h) (cw_X2_82 hts (Nat.le_of_ble_eq_true rfl) (Nat.le_of_ble_eq_true rfl)) hK hP (recv (ci := 2) (k0 := 0) hK hP rfl rfl) rfl hl.1 rfl (Nat.le_of_ble_eq_true rfl) dX2_reachInn_14 ⟨Nat.zero_le _, Nat.zero_le _⟩ (fun r3 h => ?_)
  obtain ⟨b4, h⟩ := h
  refine lv_if_ne (tgt := 33) hx hb dX2_reachInn_17 (by decide) (fun c5 => ?_) (fun c5 => ?_)
  · replace h := h.1 c5
    refine lv_aload_n hx hb dX2_reachInn_33 rfl (lv_at hl 1 rfl) ?_
    refine lv_iload_n hx hb dX2_reachInn_34 rfl (lv_at hl 2 rfl) ?_
    refine lv_iconst (v := (2 : Int32)) hx hb dX2_reachInn_35 (by decide) ?_
    refine roVi (As := [.int p1, .int (2 : Int32)]) (rest := []) F (c_X2_ofEnvelope l D cI cS cJ a u H p1 (2 : Int32) h) (cw_X2_75 hts (Nat.le_of_ble_eq_true rfl) (Nat.le_of_ble_eq_true rfl)) hK hP (recv (ci := 2) (k0 := 0) hK hP rfl rfl) rfl hl.1 rfl (Nat.le_of_ble_eq_true rfl) dX2_reachInn_36 ⟨Nat.zero_le _, Nat.zero_le _⟩ (fun r6 h => ?_)
    refine lv_istore (lv' := [(4, .int r6), (3, .int r1), (0, .ref (a 0)), (1, .int p1), (2, .int p2)]) hx hb dX2_reachInn_39 hl (by decide) rfl (fun ls hl => ?_)
    refine lv_aload_n hx hb dX2_reachInn_41 rfl (lv_at hl 2 rfl) ?_
    refine lv_iload_n hx hb dX2_reachInn_42 rfl (lv_at hl 1 rfl) ?_
    refine lv_iload_n hx hb dX2_reachInn_43 rfl (lv_at hl 4 rfl) ?_
    refine roVi (As := [.int r1, .int p2]) (rest := []) F (c_X2_keyAt l D cI cS cJ a u H r1 p2 h) (cw_X2_104 hts (Nat.le_of_ble_eq_true rfl) (Nat.le_of_ble_eq_true rfl)) hK hP (recv (ci := 2) (k0 := 0) hK hP rfl rfl) rfl hl.1 rfl (Nat.le_of_ble_eq_true rfl) dX2_reachInn_44 ⟨Nat.zero_le _, Nat.zero_le _⟩ (fun r7 h => ?_)
    refine lv_istore (lv' := [(5, .int r7), (4, .int r6), (3, .int r1), (0, .ref (a 0)), (1, .int p1), (2, .int p2)]) hx hb dX2_reachInn_47 hl (by decide) rfl (fun ls hl => ?_)
    refine lv_aload_n hx hb dX2_reachInn_49 rfl (lv_at hl 3 rfl) ?_
    refine lv_iload_n hx hb dX2_reachInn_50 rfl (lv_at hl 4 rfl) ?_
    refine lv_iconst (v := (3 : Int32)) hx hb dX2_reachInn_51 (by decide) ?_
    refine roVi (As := [.int p1, .int (3 : Int32)]) (rest := []) F (c_X2_ofEnvelope l D cI cS cJ a u H p1 (3 : Int32) h) (cw_X2_75 hts (Nat.le_of_ble_eq_true rfl) (Nat.le_of_ble_eq_true rfl)) hK hP (recv (ci := 2) (k0 := 0) hK hP rfl rfl) rfl hl.1 rfl (Nat.le_of_ble_eq_true rfl) dX2_reachInn_52 ⟨Nat.zero_le _, Nat.zero_le _⟩ (fun r8 h => ?_)
    refine jn_e h (fun J11 e13 h => ?_)
    have w12 : ∀ (x9 : Int32) (ls : Array Slot) (H : Heap) (locs : List Loc), bz x9 → lv_has ls 7 [(0, .ref (a 0)), (1, .int p1), (4, .int r6), (5, .int r7)] → va_P D vwCl (stW cI a u) H → va_D A (stW cI a u) → va_S A H0 H locs → J11 x9 → W p l e rm_X2_reachInn s m args below meth c H locs 0 0 Q (F0 m 63 ls [.int x9]) := by
      intro x9 ls H locs b10 hl hP hD hS h
      subst e13
      refine lv_istore (lv' := [(6, .int x9), (0, .ref (a 0)), (1, .int p1), (4, .int r6), (5, .int r7)]) hx hb dX2_reachInn_63 hl (by decide) rfl (fun ls hl => ?_)
      refine lv_aload_n hx hb dX2_reachInn_65 rfl (lv_at hl 1 rfl) ?_
      refine lv_iload_n hx hb dX2_reachInn_66 rfl (lv_at hl 2 rfl) ?_
      refine lv_iconst (v := (2 : Int32)) hx hb dX2_reachInn_67 (by decide) ?_
      refine lv_iload hx hb dX2_reachInn_68 (lv_at hl 0 rfl) ?_
      refine jn_e h (fun J15 e17 h => ?_)
      have w16 : ∀ (x14 : Int32) (ls : Array Slot) (H : Heap) (locs : List Loc), lv_has ls 7 [] → va_P D vwCl (stW cI a u) H → va_D A (stW cI a u) → va_S A H0 H locs → J15 x14 → W p l e rm_X2_reachInn s m args below meth c H locs 0 0 Q (F0 m 90 ls [.int x14, .int (2 : Int32), .int p1, .ref (a 0)]) := by
        intro x14 ls H locs hl hP hD hS h
        subst e17
        refine rwVv0 (As := [.int p1, .int (2 : Int32), .int x14]) (rest := []) F (c_X2_putNumber l D cI cS cJ a u H.size p1 (2 : Int32) x14 h) (cw_X2_118 hts (Nat.le_of_ble_eq_true rfl) (Nat.le_of_ble_eq_true rfl)) hK hP hD hS hA (recv (ci := 2) (k0 := 0) hK hP rfl rfl) rfl hl.1 rfl (Nat.le_of_ble_eq_true rfl) dX2_reachInn_90 ⟨Nat.zero_le _, Nat.zero_le _⟩ (fun u19 H locs h hP hD hS => ?_)
        exact hQ h hP hD hS dX2_reachInn_93
      clear e17
      refine lv_if_eq (tgt := 83) hx hb dX2_reachInn_70 (by decide) (fun c20 => ?_) (fun c20 => ?_)
      · replace h := h.1 c20
        refine lv_iload hx hb dX2_reachInn_83 (lv_at hl 3 rfl) ?_
        refine lv_iload hx hb dX2_reachInn_85 (lv_at hl 4 rfl) ?_
        refine roNi (As := [.int r6, .int r7]) (rest := [.int (2 : Int32), .int p1, .ref (a 0)]) F (c_X3_covered l D cI cS cJ H r6 r7 h) (cw_X2_107 hts (nw5 hK) (Nat.le_of_ble_eq_true rfl) (Nat.le_of_ble_eq_true rfl)) hK vP_nil rfl hl.1 rfl (Nat.le_of_ble_eq_true rfl) dX2_reachInn_87 ⟨Nat.zero_le _, Nat.zero_le _⟩ (fun r21 h => ?_)
        exact w16 r21 _ _ _ (lv_sub hl [] rfl) hP hD hS h
      · replace h := h.2 c20
        refine lv_iload hx hb dX2_reachInn_73 (lv_at hl 3 rfl) ?_
        refine lv_iload hx hb dX2_reachInn_75 (lv_at hl 4 rfl) ?_
        refine roNi (As := [.int r6, .int r7]) (rest := [.int (2 : Int32), .int p1, .ref (a 0)]) F (c_X3_uncovered l D cI cS cJ H r6 r7 h) (cw_X2_137 hts (nw4 hK) (Nat.le_of_ble_eq_true rfl) (Nat.le_of_ble_eq_true rfl)) hK vP_nil rfl hl.1 rfl (Nat.le_of_ble_eq_true rfl) dX2_reachInn_77 ⟨Nat.zero_le _, Nat.zero_le _⟩ (fun r22 h => ?_)
        refine lv_goto (tgt := 90) hx hb dX2_reachInn_80 (by decide) ?_
        exact w16 r22 _ _ _ (lv_sub hl [] rfl) hP hD hS h
    clear e13
    refine lv_if_ne (tgt := 62) hx hb dX2_reachInn_55 (by decide) (fun c23 => ?_) (fun c23 => ?_)
    · replace h := h.1 c23
      refine lv_iconst (v := (0 : Int32)) hx hb dX2_reachInn_62 (by decide) ?_
      exact w12 (0 : Int32) _ _ _ bz0 (lv_sub hl [3, 4, 1, 0] rfl) hP hD hS h
    · replace h := h.2 c23
      refine lv_iconst (v := (1 : Int32)) hx hb dX2_reachInn_58 (by decide) ?_
      refine lv_goto (tgt := 63) hx hb dX2_reachInn_59 (by decide) ?_
      exact w12 (1 : Int32) _ _ _ bz1 (lv_sub hl [3, 4, 1, 0] rfl) hP hD hS h
  · replace h := h.2 c5
    refine lv_aload_n hx hb dX2_reachInn_20 rfl (lv_at hl 1 rfl) ?_
    refine lv_iconst (v := (4 : Int32)) hx hb dX2_reachInn_21 (by decide) ?_
    refine rwVv0 (As := [.int (4 : Int32)]) (rest := []) F (c_X2_countUp l D cI cS cJ a u H.size (4 : Int32) h) (cw_X2_110 hts (Nat.le_of_ble_eq_true rfl) (Nat.le_of_ble_eq_true rfl)) hK hP hD hS hA (recv (ci := 2) (k0 := 0) hK hP rfl rfl) rfl hl.1 rfl (Nat.le_of_ble_eq_true rfl) dX2_reachInn_22 ⟨Nat.zero_le _, Nat.zero_le _⟩ (fun u25 H locs h hP hD hS => ?_)
    refine lv_aload_n hx hb dX2_reachInn_25 rfl (lv_at hl 1 rfl) ?_
    refine lv_iload_n hx hb dX2_reachInn_26 rfl (lv_at hl 2 rfl) ?_
    refine lv_iconst (v := (1 : Int32)) hx hb dX2_reachInn_27 (by decide) ?_
    refine lv_iconst (v := (-1 : Int32)) hx hb dX2_reachInn_28 (by decide) ?_
    refine rwVv0 (As := [.int p1, .int (1 : Int32), .int (-1 : Int32)]) (rest := []) F (c_X2_putNumber l D cI cS cJ a u25 H.size p1 (1 : Int32) (-1 : Int32) h) (cw_X2_118 hts (Nat.le_of_ble_eq_true rfl) (Nat.le_of_ble_eq_true rfl)) hK hP hD hS hA (recv (ci := 2) (k0 := 0) hK hP rfl rfl) rfl hl.1 rfl (Nat.le_of_ble_eq_true rfl) dX2_reachInn_29 ⟨Nat.zero_le _, Nat.zero_le _⟩ (fun u27 H locs h hP hD hS => ?_)
    exact hQ h hP hD hS dX2_reachInn_32

def wp_X2_moveOn (u : St) (p1 : Int32) (post : Int32 → St → Prop) : Prop :=
  wp_X2_ofEnvelope u p1 (3 : Int32) (fun r1 => jn (fun (x2 : Int32) => wp_X2_ofEnvelope u p1 (1 : Int32) (fun r6 => wp_X2_putNumber u p1 (1 : Int32) (r6 + x2) (fun u8 => (¬ (r6 + x2) = (4 : Int32) → (¬ (r6 + x2) = 0 → wp_X2_reachInn u8 p1 (r6 + x2) (fun u12 => post (0 : Int32) u12)) ∧ ((r6 + x2) = 0 → wp_X2_reachTraveller u8 p1 (fun u14 => post (1 : Int32) u14))) ∧ ((r6 + x2) = (4 : Int32) → wp_X2_reachHall u8 p1 (fun u16 => post (1 : Int32) u16))))) (fun (J3 : Int32 → Prop) => (¬ r1 = 0 → J3 (-1 : Int32)) ∧ (r1 = 0 → J3 (1 : Int32))))
set_option maxHeartbeats 4000000 in
set_option maxRecDepth 100000 in
theorem c_X2_moveOn (l : Launch) (D : va_G) (cI cS cJ : ClassId) (a : Nat → Nat) (u : St) (sz : Nat) (p1 : Int32) {post : Int32 → St → Prop} (h : wp_X2_moveOn u p1 post) : Met l yX2_moveOn (wsA yX2_moveOn cX2_moveOn 4 (some .boolean)) rm_X2_moveOn (va_Pc [.ref (a 0), .int p1] (rwP D (tysA cI cS cJ) (stW cI a u) sz)) (va_Qi (fun r u9 => bz r ∧ post r u9) (fun u9 t => va_P D vwCl ((stW cI a) u9) t.heap ∧ va_D (va_A (stW cI a u) sz) ((stW cI a) u9)) (va_A (stW cI a u) sz)) 0 0 (va_A (stW cI a u) sz) := by
  refine mkRWz (wf := (stW cI a)) (by decide +kernel) (Nat.le_of_ble_eq_true rfl) (fun {p e s m args below meth c Q ls A H0 H locs} hx hb F hts hown hK hP hD hS hA hl hQ => ?_)
  have hown : s.vm.findClass RX2 = some m.cls := hown
  have F : CallFix p m c cX2_moveOn 4 s args wsT RX2 := F
  have hl : lv_has ls 4 [(0, .ref (a 0)), (1, .int p1)] := hl
  unfold wp_X2_moveOn at h
  refine lv_aload_n hx hb dX2_moveOn_0 rfl (lv_at hl 0 rfl) ?_
  refine lv_iload_n hx hb dX2_moveOn_1 rfl (lv_at hl 1 rfl) ?_
  refine lv_iconst (v := (3 : Int32)) hx hb dX2_moveOn_2 (by decide) ?_
  refine roVi (As := [.int p1, .int (3 : Int32)]) (rest := []) F (c_X2_ofEnvelope l D cI cS cJ a u H p1 (3 : Int32) h) (cw_X2_75 hts (Nat.le_of_ble_eq_true rfl) (Nat.le_of_ble_eq_true rfl)) hK hP (recv (ci := 2) (k0 := 0) hK hP rfl rfl) rfl hl.1 rfl (Nat.le_of_ble_eq_true rfl) dX2_moveOn_3 ⟨Nat.zero_le _, Nat.zero_le _⟩ (fun r1 h => ?_)
  refine jn_e h (fun J3 e5 h => ?_)
  have w4 : ∀ (x2 : Int32) (ls : Array Slot) (H : Heap) (locs : List Loc), lv_has ls 4 [(0, .ref (a 0)), (1, .int p1)] → va_P D vwCl (stW cI a u) H → va_D A (stW cI a u) → va_S A H0 H locs → J3 x2 → W p l e rm_X2_moveOn s m args below meth c H locs 0 0 Q (F0 m 14 ls [.int x2]) := by
    intro x2 ls H locs hl hP hD hS h
    subst e5
    refine lv_istore_n (lv' := [(2, .int x2), (0, .ref (a 0)), (1, .int p1)]) hx hb dX2_moveOn_14 rfl hl (by decide) rfl (fun ls hl => ?_)
    refine lv_aload_n hx hb dX2_moveOn_15 rfl (lv_at hl 1 rfl) ?_
    refine lv_iload_n hx hb dX2_moveOn_16 rfl (lv_at hl 2 rfl) ?_
    refine lv_iconst (v := (1 : Int32)) hx hb dX2_moveOn_17 (by decide) ?_
    refine roVi (As := [.int p1, .int (1 : Int32)]) (rest := []) F (c_X2_ofEnvelope l D cI cS cJ a u H p1 (1 : Int32) h) (cw_X2_75 hts (Nat.le_of_ble_eq_true rfl) (Nat.le_of_ble_eq_true rfl)) hK hP (recv (ci := 2) (k0 := 0) hK hP rfl rfl) rfl hl.1 rfl (Nat.le_of_ble_eq_true rfl) dX2_moveOn_18 ⟨Nat.zero_le _, Nat.zero_le _⟩ (fun r6 h => ?_)
    refine lv_iload_n hx hb dX2_moveOn_21 rfl (lv_at hl 0 rfl) ?_
    refine lv_iadd hx hb dX2_moveOn_22 ?_
    refine lv_istore_n (lv' := [(3, .int (r6 + x2)), (2, .int x2), (0, .ref (a 0)), (1, .int p1)]) hx hb dX2_moveOn_23 rfl hl (by decide) rfl (fun ls hl => ?_)
    refine lv_aload_n hx hb dX2_moveOn_24 rfl (lv_at hl 2 rfl) ?_
    refine lv_iload_n hx hb dX2_moveOn_25 rfl (lv_at hl 3 rfl) ?_
    refine lv_iconst (v := (1 : Int32)) hx hb dX2_moveOn_26 (by decide) ?_
    refine lv_iload_n hx hb dX2_moveOn_27 rfl (lv_at hl 0 rfl) ?_
    refine rwVv0 (As := [.int p1, .int (1 : Int32), .int (r6 + x2)]) (rest := []) F (c_X2_putNumber l D cI cS cJ a u H.size p1 (1 : Int32) (r6 + x2) h) (cw_X2_118 hts (Nat.le_of_ble_eq_true rfl) (Nat.le_of_ble_eq_true rfl)) hK hP hD hS hA (recv (ci := 2) (k0 := 0) hK hP rfl rfl) rfl hl.1 rfl (Nat.le_of_ble_eq_true rfl) dX2_moveOn_28 ⟨Nat.zero_le _, Nat.zero_le _⟩ (fun u8 H locs h hP hD hS => ?_)
    refine lv_iload_n hx hb dX2_moveOn_31 rfl (lv_at hl 0 rfl) ?_
    refine lv_iconst (v := (4 : Int32)) hx hb dX2_moveOn_32 (by decide) ?_
    refine lv_icmp_ne (tgt := 43) hx hb dX2_moveOn_33 (by decide) (fun c9 => ?_) (fun c9 => ?_)
    · replace h := h.1 c9
      refine lv_iload_n hx hb dX2_moveOn_43 rfl (lv_at hl 0 rfl) ?_
      refine lv_if_ne (tgt := 54) hx hb dX2_moveOn_44 (by decide) (fun c10 => ?_) (fun c10 => ?_)
      · replace h := h.1 c10
        refine lv_aload_n hx hb dX2_moveOn_54 rfl (lv_at hl 2 rfl) ?_
        refine lv_iload_n hx hb dX2_moveOn_55 rfl (lv_at hl 3 rfl) ?_
        refine lv_iload_n hx hb dX2_moveOn_56 rfl (lv_at hl 0 rfl) ?_
        refine rwVv0 (As := [.int p1, .int (r6 + x2)]) (rest := []) F (c_X2_reachInn l D cI cS cJ a u8 H.size p1 (r6 + x2) h) (cw_X2_133 hts (Nat.le_of_ble_eq_true rfl) (Nat.le_of_ble_eq_true rfl)) hK hP hD hS hA (recv (ci := 2) (k0 := 0) hK hP rfl rfl) rfl hl.1 rfl (Nat.le_of_ble_eq_true rfl) dX2_moveOn_57 ⟨Nat.zero_le _, Nat.zero_le _⟩ (fun u12 H locs h hP hD hS => ?_)
        refine lv_iconst (v := (0 : Int32)) hx hb dX2_moveOn_60 (by decide) ?_
        exact hQ bz0 h hP hD hS dX2_moveOn_61
      · replace h := h.2 c10
        refine lv_aload_n hx hb dX2_moveOn_47 rfl (lv_at hl 2 rfl) ?_
        refine lv_iload_n hx hb dX2_moveOn_48 rfl (lv_at hl 3 rfl) ?_
        refine rwVv0 (As := [.int p1]) (rest := []) F (c_X2_reachTraveller l D cI cS cJ a u8 H.size p1 h) (cw_X2_130 hts (Nat.le_of_ble_eq_true rfl) (Nat.le_of_ble_eq_true rfl)) hK hP hD hS hA (recv (ci := 2) (k0 := 0) hK hP rfl rfl) rfl hl.1 rfl (Nat.le_of_ble_eq_true rfl) dX2_moveOn_49 ⟨Nat.zero_le _, Nat.zero_le _⟩ (fun u14 H locs h hP hD hS => ?_)
        refine lv_iconst (v := (1 : Int32)) hx hb dX2_moveOn_52 (by decide) ?_
        exact hQ bz1 h hP hD hS dX2_moveOn_53
    · replace h := h.2 c9
      refine lv_aload_n hx hb dX2_moveOn_36 rfl (lv_at hl 2 rfl) ?_
      refine lv_iload_n hx hb dX2_moveOn_37 rfl (lv_at hl 3 rfl) ?_
      refine rwVv0 (As := [.int p1]) (rest := []) F (c_X2_reachHall l D cI cS cJ a u8 H.size p1 h) (cw_X2_127 hts (Nat.le_of_ble_eq_true rfl) (Nat.le_of_ble_eq_true rfl)) hK hP hD hS hA (recv (ci := 2) (k0 := 0) hK hP rfl rfl) rfl hl.1 rfl (Nat.le_of_ble_eq_true rfl) dX2_moveOn_38 ⟨Nat.zero_le _, Nat.zero_le _⟩ (fun u16 H locs h hP hD hS => ?_)
      refine lv_iconst (v := (1 : Int32)) hx hb dX2_moveOn_41 (by decide) ?_
      exact hQ bz1 h hP hD hS dX2_moveOn_42
  clear e5
  refine lv_if_ne (tgt := 13) hx hb dX2_moveOn_6 (by decide) (fun c17 => ?_) (fun c17 => ?_)
  · replace h := h.1 c17
    refine lv_iconst (v := (-1 : Int32)) hx hb dX2_moveOn_13 (by decide) ?_
    exact w4 (-1 : Int32) _ _ _ hl hP hD hS h
  · replace h := h.2 c17
    refine lv_iconst (v := (1 : Int32)) hx hb dX2_moveOn_9 (by decide) ?_
    refine lv_goto (tgt := 14) hx hb dX2_moveOn_10 (by decide) ?_
    exact w4 (1 : Int32) _ _ _ hl hP hD hS h

def wp_X2_takeOutGone (u : St)  (post : St → Prop) : Prop :=
  LP3 (fun (K4 : Int32 → Int32 → St → Prop) (x1 : Int32) (x2 : Int32) (u3 : St) => ((S_envelopeCount u3) ≤ x2 → post (sS_envelopeCount u3 x1)) ∧ (¬ (S_envelopeCount u3) ≤ x2 → wp_X2_ofEnvelope u3 x2 (1 : Int32) (fun r7 => (r7 = (-1 : Int32) → K4 x1 (x2 + 1) u3) ∧ (¬ r7 = (-1 : Int32) → LP2 (fun (K11 : Int32 → St → Prop) (x9 : Int32) (u10 : St) => ((4 : Int32) ≤ x9 → K4 (x1 + 1) (x2 + 1) u10) ∧ (¬ (4 : Int32) ≤ x9 → wp_X2_ofEnvelope u10 x2 x9 (fun r14 => wp_X2_putNumber u10 x1 x9 r14 (fun u16 => K11 (x9 + 1) u16)))) (0 : Int32) u3)))) (0 : Int32) (0 : Int32) u
set_option maxHeartbeats 4000000 in
set_option maxRecDepth 100000 in
theorem c_X2_takeOutGone (l : Launch) (D : va_G) (cI cS cJ : ClassId) (a : Nat → Nat) (u : St) (sz : Nat)  {post : St → Prop} (h : wp_X2_takeOutGone u post) : Met l yX2_takeOutGone (wsA yX2_takeOutGone cX2_takeOutGone 4 none) rm_X2_takeOutGone (va_Pc [.ref (a 0)] (rwP D (tysA cI cS cJ) (stW cI a u) sz)) (va_Qv post (fun u9 t => va_P D vwCl ((stW cI a) u9) t.heap ∧ va_D (va_A (stW cI a u) sz) ((stW cI a) u9)) (va_A (stW cI a u) sz)) 0 0 (va_A (stW cI a u) sz) := by
  refine mkRWv (wf := (stW cI a)) (by decide +kernel) (Nat.le_of_ble_eq_true rfl) (fun {p e s m args below meth c Q ls A H0 H locs} hx hb F hts hown hin hK hP hD hS hA hl hQ => ?_)
  have hown : s.vm.findClass RX2 = some m.cls := hown
  have F : CallFix p m c cX2_takeOutGone 4 s args wsT RX2 := F
  have hl : lv_has ls 4 [(0, .ref (a 0))] := hl
  unfold wp_X2_takeOutGone at h
  refine lv_iconst (v := (0 : Int32)) hx hb dX2_takeOutGone_0 (by decide) ?_
  refine lv_istore_n (lv' := [(1, .int (0 : Int32)), (0, .ref (a 0))]) hx hb dX2_takeOutGone_1 rfl hl (by decide) rfl (fun ls hl => ?_)
  refine lv_iconst (v := (0 : Int32)) hx hb dX2_takeOutGone_2 (by decide) ?_
  refine lv_istore_n (lv' := [(2, .int (0 : Int32)), (1, .int (0 : Int32)), (0, .ref (a 0))]) hx hb dX2_takeOutGone_3 rfl hl (by decide) rfl (fun ls hl => ?_)
  refine lpu3 h (fun K4 : Int32 → Int32 → St → Prop => ∀ (x1 : Int32) (x2 : Int32) (u3 : St) (ls : Array Slot) (H : Heap) (locs : List Loc), lv_has ls 4 [(0, .ref (a 0)), (1, .int x1), (2, .int x2)] → va_P D vwCl (stW cI a u3) H → va_D A (stW cI a u3) → va_S A H0 H locs → K4 x1 x2 u3 → W p l e rm_X2_takeOutGone s m args below meth c H locs 0 0 Q (F0 m 4 ls [])) ?_ ?_ ?_
  · intro x1 x2 u3 ls H locs hl hP hD hS h
    exact h.elim
  · intro K4
    intro w5 x1 x2 u3 ls H locs hl hP hD hS h
    refine lv_iload_n hx hb dX2_takeOutGone_4 rfl (lv_at hl 2 rfl) ?_
    refine lv_aload_n hx hb dX2_takeOutGone_5 rfl (lv_at hl 0 rfl) ?_
    refine va_get (D := D) (ci := 2) (v := .int (S_envelopeCount u3)) (C := RX2) (T := TX2) (N := 12) hx hb hts inT2 hown hK.k hP 0 rfl rfl 6 (by decide) (hts _ q_63) (fun _ h9 => h9) rfl dX2_takeOutGone_6 ?_
    refine lv_icmp_ge (tgt := 56) hx hb dX2_takeOutGone_9 (by decide) (fun c6 => ?_) (fun c6 => ?_)
    · replace h := h.1 c6
      refine lv_aload_n hx hb dX2_takeOutGone_56 rfl (lv_at hl 0 rfl) ?_
      refine lv_iload_n hx hb dX2_takeOutGone_57 rfl (lv_at hl 1 rfl) ?_
      refine va_put (D := D) (ci := 2) (v := .int x1) (ty := .int) (C := RX2) (T := TX2) (N := 12) hx hb hts inT2 tyX2 tyX2_ok nmX2 hown hK.k hP hD hS 0 rfl rfl 6 (by decide) (hts _ q_63) (fun _ h9 => h9) rfl (by decide +kernel) rfl rfl (Nat.le_of_ble_eq_true rfl) dX2_takeOutGone_58 (fun H locs hP hD hS => ?_)
      have hP : va_P D vwCl (stW cI a (sS_envelopeCount u3 x1)) H := hP
      have hD : va_D A (stW cI a (sS_envelopeCount u3 x1)) := hD
      exact hQ h hP hD hS dX2_takeOutGone_61
    · replace h := h.2 c6
      refine lv_aload_n hx hb dX2_takeOutGone_12 rfl (lv_at hl 0 rfl) ?_
      refine lv_iload_n hx hb dX2_takeOutGone_13 rfl (lv_at hl 2 rfl) ?_
      refine lv_iconst (v := (1 : Int32)) hx hb dX2_takeOutGone_14 (by decide) ?_
      refine roVi (As := [.int x2, .int (1 : Int32)]) (rest := []) F (c_X2_ofEnvelope l D cI cS cJ a u3 H x2 (1 : Int32) h) (cw_X2_75 hts (Nat.le_of_ble_eq_true rfl) (Nat.le_of_ble_eq_true rfl)) hK hP (recv (ci := 2) (k0 := 0) hK hP rfl rfl) rfl hl.1 rfl (Nat.le_of_ble_eq_true rfl) dX2_takeOutGone_15 ⟨Nat.zero_le _, Nat.zero_le _⟩ (fun r7 h => ?_)
      refine lv_iconst (v := (-1 : Int32)) hx hb dX2_takeOutGone_18 (by decide) ?_
      refine lv_icmp_eq (tgt := 50) hx hb dX2_takeOutGone_19 (by decide) (fun c8 => ?_) (fun c8 => ?_)
      · replace h := h.1 c8
        refine lv_iinc (v := (x2 + 1)) (lv' := [(2, .int (x2 + 1)), (0, .ref (a 0)), (1, .int x1)]) hx hb dX2_takeOutGone_50 hl (k := 2) rfl rfl (by decide) rfl (fun ls hl => ?_)
        refine lv_goto (tgt := 4) hx hb dX2_takeOutGone_53 (by decide) ?_
        exact w5 x1 (x2 + 1) u3 _ _ _ (lv_sub hl [1, 2, 0] rfl) hP hD hS h
      · replace h := h.2 c8
        refine lv_iconst (v := (0 : Int32)) hx hb dX2_takeOutGone_22 (by decide) ?_
        refine lv_istore_n (lv' := [(3, .int (0 : Int32)), (0, .ref (a 0)), (1, .int x1), (2, .int x2)]) hx hb dX2_takeOutGone_23 rfl hl (by decide) rfl (fun ls hl => ?_)
        refine lpu2 h (fun K11 : Int32 → St → Prop => ∀ (x9 : Int32) (u10 : St) (ls : Array Slot) (H : Heap) (locs : List Loc), lv_has ls 4 [(0, .ref (a 0)), (1, .int x1), (2, .int x2), (3, .int x9)] → va_P D vwCl (stW cI a u10) H → va_D A (stW cI a u10) → va_S A H0 H locs → K11 x9 u10 → W p l e rm_X2_takeOutGone s m args below meth c H locs 0 0 Q (F0 m 24 ls [])) ?_ ?_ ?_
        · intro x9 u10 ls H locs hl hP hD hS h
          exact h.elim
        · intro K11
          intro w12 x9 u10 ls H locs hl hP hD hS h
          refine lv_iload_n hx hb dX2_takeOutGone_24 rfl (lv_at hl 3 rfl) ?_
          refine lv_iconst (v := (4 : Int32)) hx hb dX2_takeOutGone_25 (by decide) ?_
          refine lv_icmp_ge (tgt := 47) hx hb dX2_takeOutGone_26 (by decide) (fun c13 => ?_) (fun c13 => ?_)
          · replace h := h.1 c13
            refine lv_iinc (v := (x1 + 1)) (lv' := [(1, .int (x1 + 1)), (0, .ref (a 0)), (2, .int x2), (3, .int x9)]) hx hb dX2_takeOutGone_47 hl (k := 1) rfl rfl (by decide) rfl (fun ls hl => ?_)
            refine lv_iinc (v := (x2 + 1)) (lv' := [(2, .int (x2 + 1)), (1, .int (x1 + 1)), (0, .ref (a 0)), (3, .int x9)]) hx hb dX2_takeOutGone_50 hl (k := 2) rfl rfl (by decide) rfl (fun ls hl => ?_)
            refine lv_goto (tgt := 4) hx hb dX2_takeOutGone_53 (by decide) ?_
            exact w5 (x1 + 1) (x2 + 1) u10 _ _ _ (lv_sub hl [2, 1, 0] rfl) hP hD hS h
          · replace h := h.2 c13
            refine lv_aload_n hx hb dX2_takeOutGone_29 rfl (lv_at hl 0 rfl) ?_
            refine lv_iload_n hx hb dX2_takeOutGone_30 rfl (lv_at hl 1 rfl) ?_
            refine lv_iload_n hx hb dX2_takeOutGone_31 rfl (lv_at hl 3 rfl) ?_
            refine lv_aload_n hx hb dX2_takeOutGone_32 rfl (lv_at hl 0 rfl) ?_
            refine lv_iload_n hx hb dX2_takeOutGone_33 rfl (lv_at hl 2 rfl) ?_
            refine lv_iload_n hx hb dX2_takeOutGone_34 rfl (lv_at hl 3 rfl) ?_
            refine roVi (As := [.int x2, .int x9]) (rest := [.int x9, .int x1, .ref (a 0)]) F (c_X2_ofEnvelope l D cI cS cJ a u10 H x2 x9 h) (cw_X2_75 hts (Nat.le_of_ble_eq_true rfl) (Nat.le_of_ble_eq_true rfl)) hK hP (recv (ci := 2) (k0 := 0) hK hP rfl rfl) rfl hl.1 rfl (Nat.le_of_ble_eq_true rfl) dX2_takeOutGone_35 ⟨Nat.zero_le _, Nat.zero_le _⟩ (fun r14 h => ?_)
            refine rwVv0 (As := [.int x1, .int x9, .int r14]) (rest := []) F (c_X2_putNumber l D cI cS cJ a u10 H.size x1 x9 r14 h) (cw_X2_118 hts (Nat.le_of_ble_eq_true rfl) (Nat.le_of_ble_eq_true rfl)) hK hP hD hS hA (recv (ci := 2) (k0 := 0) hK hP rfl rfl) rfl hl.1 rfl (Nat.le_of_ble_eq_true rfl) dX2_takeOutGone_38 ⟨Nat.zero_le _, Nat.zero_le _⟩ (fun u16 H locs h hP hD hS => ?_)
            refine lv_iinc (v := (x9 + 1)) (lv' := [(3, .int (x9 + 1)), (0, .ref (a 0)), (1, .int x1), (2, .int x2)]) hx hb dX2_takeOutGone_41 hl (k := 3) rfl rfl (by decide) rfl (fun ls hl => ?_)
            refine lv_goto (tgt := 24) hx hb dX2_takeOutGone_44 (by decide) ?_
            exact w12 (x9 + 1) u16 _ _ _ (lv_sub hl [1, 2, 3, 0] rfl) hP hD hS h
        · intro K11 w12 h
          exact w12 (0 : Int32) u3 _ _ _ (lv_sub hl [1, 2, 3, 0] rfl) hP hD hS h
  · intro K4 w5 h
    exact w5 (0 : Int32) (0 : Int32) u _ _ _ (lv_sub hl [2, 1, 0] rfl) hP hD hS h

def wp_X2_letTicksPass (u : St) (p1 : Int32) (post : Int32 → St → Prop) : Prop :=
  LP3 (fun (K4 : Int32 → Int32 → St → Prop) (x1 : Int32) (x2 : Int32) (u3 : St) => (p1 ≤ x2 → post x1 u3) ∧ (¬ p1 ≤ x2 → LP3 (fun (K10 : Int32 → Int32 → St → Prop) (x7 : Int32) (x8 : Int32) (u9 : St) => ((S_envelopeCount u9) ≤ x8 → wp_X2_takeOutGone u9 (fun u14 => K4 x7 (x2 + 1) u14)) ∧ (¬ (S_envelopeCount u9) ≤ x8 → wp_X2_moveOn u9 x8 (fun r15 u17 => (r15 = 0 → K10 x7 (x8 + 1) u17) ∧ (¬ r15 = 0 → K10 (x7 + 1) (x8 + 1) u17)))) x1 (0 : Int32) u3)) (0 : Int32) (0 : Int32) u
set_option maxHeartbeats 4000000 in
set_option maxRecDepth 100000 in
theorem c_X2_letTicksPass (l : Launch) (D : va_G) (cI cS cJ : ClassId) (a : Nat → Nat) (u : St) (sz : Nat) (p1 : Int32) {post : Int32 → St → Prop} (h : wp_X2_letTicksPass u p1 post) : Met l yX2_letTicksPass (wsA yX2_letTicksPass cX2_letTicksPass 5 (some .int)) rm_X2_letTicksPass (va_Pc [.ref (a 0), .int p1] (rwP D (tysA cI cS cJ) (stW cI a u) sz)) (va_Qi post (fun u9 t => va_P D vwCl ((stW cI a) u9) t.heap ∧ va_D (va_A (stW cI a u) sz) ((stW cI a) u9)) (va_A (stW cI a u) sz)) 0 0 (va_A (stW cI a u) sz) := by
  refine mkRWi (wf := (stW cI a)) (by decide +kernel) (Nat.le_of_ble_eq_true rfl) (fun {p e s m args below meth c Q ls A H0 H locs} hx hb F hts hown hK hP hD hS hA hl hQ => ?_)
  have hown : s.vm.findClass RX2 = some m.cls := hown
  have F : CallFix p m c cX2_letTicksPass 5 s args wsT RX2 := F
  have hl : lv_has ls 5 [(0, .ref (a 0)), (1, .int p1)] := hl
  unfold wp_X2_letTicksPass at h
  refine lv_iconst (v := (0 : Int32)) hx hb dX2_letTicksPass_0 (by decide) ?_
  refine lv_istore_n (lv' := [(2, .int (0 : Int32)), (0, .ref (a 0)), (1, .int p1)]) hx hb dX2_letTicksPass_1 rfl hl (by decide) rfl (fun ls hl => ?_)
  refine lv_iconst (v := (0 : Int32)) hx hb dX2_letTicksPass_2 (by decide) ?_
  refine lv_istore_n (lv' := [(3, .int (0 : Int32)), (2, .int (0 : Int32)), (0, .ref (a 0)), (1, .int p1)]) hx hb dX2_letTicksPass_3 rfl hl (by decide) rfl (fun ls hl => ?_)
  refine lpu3 h (fun K4 : Int32 → Int32 → St → Prop => ∀ (x1 : Int32) (x2 : Int32) (u3 : St) (ls : Array Slot) (H : Heap) (locs : List Loc), lv_has ls 5 [(0, .ref (a 0)), (1, .int p1), (2, .int x1), (3, .int x2)] → va_P D vwCl (stW cI a u3) H → va_D A (stW cI a u3) → va_S A H0 H locs → K4 x1 x2 u3 → W p l e rm_X2_letTicksPass s m args below meth c H locs 0 0 Q (F0 m 4 ls [])) ?_ ?_ ?_
  · intro x1 x2 u3 ls H locs hl hP hD hS h
    exact h.elim
  · intro K4
    intro w5 x1 x2 u3 ls H locs hl hP hD hS h
    refine lv_iload_n hx hb dX2_letTicksPass_4 rfl (lv_at hl 3 rfl) ?_
    refine lv_iload_n hx hb dX2_letTicksPass_5 rfl (lv_at hl 1 rfl) ?_
    refine lv_icmp_ge (tgt := 49) hx hb dX2_letTicksPass_6 (by decide) (fun c6 => ?_) (fun c6 => ?_)
    · replace h := h.1 c6
      refine lv_iload_n hx hb dX2_letTicksPass_49 rfl (lv_at hl 2 rfl) ?_
      exact hQ h hP hD hS dX2_letTicksPass_50
    · replace h := h.2 c6
      refine lv_iconst (v := (0 : Int32)) hx hb dX2_letTicksPass_9 (by decide) ?_
      refine lv_istore (lv' := [(4, .int (0 : Int32)), (0, .ref (a 0)), (1, .int p1), (2, .int x1), (3, .int x2)]) hx hb dX2_letTicksPass_10 hl (by decide) rfl (fun ls hl => ?_)
      refine lpu3 h (fun K10 : Int32 → Int32 → St → Prop => ∀ (x7 : Int32) (x8 : Int32) (u9 : St) (ls : Array Slot) (H : Heap) (locs : List Loc), lv_has ls 5 [(0, .ref (a 0)), (1, .int p1), (2, .int x7), (3, .int x2), (4, .int x8)] → va_P D vwCl (stW cI a u9) H → va_D A (stW cI a u9) → va_S A H0 H locs → K10 x7 x8 u9 → W p l e rm_X2_letTicksPass s m args below meth c H locs 0 0 Q (F0 m 12 ls [])) ?_ ?_ ?_
      · intro x7 x8 u9 ls H locs hl hP hD hS h
        exact h.elim
      · intro K10
        intro w11 x7 x8 u9 ls H locs hl hP hD hS h
        refine lv_iload hx hb dX2_letTicksPass_12 (lv_at hl 4 rfl) ?_
        refine lv_aload_n hx hb dX2_letTicksPass_14 rfl (lv_at hl 0 rfl) ?_
        refine va_get (D := D) (ci := 2) (v := .int (S_envelopeCount u9)) (C := RX2) (T := TX2) (N := 12) hx hb hts inT2 hown hK.k hP 0 rfl rfl 6 (by decide) (hts _ q_63) (fun _ h9 => h9) rfl dX2_letTicksPass_15 ?_
        refine lv_icmp_ge (tgt := 39) hx hb dX2_letTicksPass_18 (by decide) (fun c12 => ?_) (fun c12 => ?_)
        · replace h := h.1 c12
          refine lv_aload_n hx hb dX2_letTicksPass_39 rfl (lv_at hl 0 rfl) ?_
          refine rwVv0 (As := []) (rest := []) F (c_X2_takeOutGone l D cI cS cJ a u9 H.size  h) (cw_X2_124 hts (Nat.le_of_ble_eq_true rfl) (Nat.le_of_ble_eq_true rfl)) hK hP hD hS hA (recv (ci := 2) (k0 := 0) hK hP rfl rfl) rfl hl.1 rfl (Nat.le_of_ble_eq_true rfl) dX2_letTicksPass_40 ⟨Nat.zero_le _, Nat.zero_le _⟩ (fun u14 H locs h hP hD hS => ?_)
          refine lv_iinc (v := (x2 + 1)) (lv' := [(3, .int (x2 + 1)), (0, .ref (a 0)), (1, .int p1), (2, .int x7), (4, .int x8)]) hx hb dX2_letTicksPass_43 hl (k := 3) rfl rfl (by decide) rfl (fun ls hl => ?_)
          refine lv_goto (tgt := 4) hx hb dX2_letTicksPass_46 (by decide) ?_
          exact w5 x7 (x2 + 1) u14 _ _ _ (lv_sub hl [1, 2, 3, 0] rfl) hP hD hS h
        · replace h := h.2 c12
          refine lv_aload_n hx hb dX2_letTicksPass_21 rfl (lv_at hl 0 rfl) ?_
          refine lv_iload hx hb dX2_letTicksPass_22 (lv_at hl 4 rfl) ?_
          refine rwVi0 (As := [.int x8]) (rest := []) F (c_X2_moveOn l D cI cS cJ a u9 H.size x8 h) (cw_X2_121 hts (Nat.le_of_ble_eq_true rfl) (Nat.le_of_ble_eq_true rfl)) hK hP hD hS hA (recv (ci := 2) (k0 := 0) hK hP rfl rfl) rfl hl.1 rfl (Nat.le_of_ble_eq_true rfl) dX2_letTicksPass_24 ⟨Nat.zero_le _, Nat.zero_le _⟩ (fun r15 u17 H locs h hP hD hS => ?_)
          obtain ⟨b16, h⟩ := h
          refine lv_if_eq (tgt := 33) hx hb dX2_letTicksPass_27 (by decide) (fun c18 => ?_) (fun c18 => ?_)
          · replace h := h.1 c18
            refine lv_iinc (v := (x8 + 1)) (lv' := [(4, .int (x8 + 1)), (0, .ref (a 0)), (1, .int p1), (2, .int x7), (3, .int x2)]) hx hb dX2_letTicksPass_33 hl (k := 4) rfl rfl (by decide) rfl (fun ls hl => ?_)
            refine lv_goto (tgt := 12) hx hb dX2_letTicksPass_36 (by decide) ?_
            exact w11 x7 (x8 + 1) u17 _ _ _ (lv_sub hl [1, 2, 3, 4, 0] rfl) hP hD hS h
          · replace h := h.2 c18
            refine lv_iinc (v := (x7 + 1)) (lv' := [(2, .int (x7 + 1)), (0, .ref (a 0)), (1, .int p1), (3, .int x2), (4, .int x8)]) hx hb dX2_letTicksPass_30 hl (k := 2) rfl rfl (by decide) rfl (fun ls hl => ?_)
            refine lv_iinc (v := (x8 + 1)) (lv' := [(4, .int (x8 + 1)), (2, .int (x7 + 1)), (0, .ref (a 0)), (1, .int p1), (3, .int x2)]) hx hb dX2_letTicksPass_33 hl (k := 4) rfl rfl (by decide) rfl (fun ls hl => ?_)
            refine lv_goto (tgt := 12) hx hb dX2_letTicksPass_36 (by decide) ?_
            exact w11 (x7 + 1) (x8 + 1) u17 _ _ _ (lv_sub hl [2, 3, 1, 4, 0] rfl) hP hD hS h
      · intro K10 w11 h
        exact w11 x1 (0 : Int32) u3 _ _ _ (lv_sub hl [1, 2, 3, 4, 0] rfl) hP hD hS h
  · intro K4 w5 h
    exact w5 (0 : Int32) (0 : Int32) u _ _ _ (lv_sub hl [2, 3, 1, 0] rfl) hP hD hS h

def wp_X2_ticksLeft (u : St) (p1 : Int32) (p2 : Int32) (post : Int32 → Prop) : Prop :=
  wp_X2_ofEnvelope u p1 (0 : Int32) (fun r1 => wp_X2_ofEnvelope u p1 (1 : Int32) (fun r2 => wp_X2_ofEnvelope u p1 (3 : Int32) (fun r3 => jn (fun (x4 : Int32) => LP1 (fun (K10 : Int32 → Prop) (x9 : Int32) => ((3 : Int32) < x9 → (x4 = 0 → post r2) ∧ (¬ x4 = 0 → post ((4 : Int32) - r2))) ∧ (¬ (3 : Int32) < x9 → jn (fun (x14 : Int32) => (x14 = 0 → K10 (x9 + 1)) ∧ (¬ x14 = 0 → wp_X2_innAt u r1 x9 (fun r20 => wp_X2_isInMask p2 r20 (fun r21 => (¬ r21 = 0 → K10 (x9 + 1)) ∧ (r21 = 0 → post (-1 : Int32)))))) (fun (J16 : Int32 → Prop) => (x4 = 0 → (r2 ≤ x9 → J16 (0 : Int32)) ∧ (¬ r2 ≤ x9 → J16 (1 : Int32))) ∧ (¬ x4 = 0 → (x9 ≤ r2 → J16 (0 : Int32)) ∧ (¬ x9 ≤ r2 → J16 (1 : Int32)))))) (1 : Int32)) (fun (J6 : Int32 → Prop) => (¬ r3 = 0 → J6 (0 : Int32)) ∧ (r3 = 0 → J6 (1 : Int32))))))
set_option maxHeartbeats 4000000 in
set_option maxRecDepth 100000 in
theorem c_X2_ticksLeft (l : Launch) (D : va_G) (cI cS cJ : ClassId) (a : Nat → Nat) (u : St) (H0 : Heap) (p1 : Int32) (p2 : Int32) {post : Int32 → Prop} (h : wp_X2_ticksLeft u p1 p2 post) : Met l yX2_ticksLeft (wsA yX2_ticksLeft cX2_ticksLeft 8 (some .int)) rm_X2_ticksLeft (va_Pc [.ref (a 0), .int p1, .int p2] (roP D (tysA cI cS cJ) (stW cI a u) H0)) (va_Qi (fun r (_ : Unit) => post r) (fun _ t => t.heap = H0) nF) 0 0 nF := by
  refine mkROi (by decide +kernel) (Nat.le_of_ble_eq_true rfl) (fun {p e s m args below meth c Q ls} hx hb F hts hown hK hP hl hQ => ?_)
  have hown : s.vm.findClass RX2 = some m.cls := hown
  have F : CallFix p m c cX2_ticksLeft 8 s args wsT RX2 := F
  have hl : lv_has ls 8 [(0, .ref (a 0)), (1, .int p1), (2, .int p2)] := hl
  unfold wp_X2_ticksLeft at h
  refine lv_aload_n hx hb dX2_ticksLeft_0 rfl (lv_at hl 0 rfl) ?_
  refine lv_iload_n hx hb dX2_ticksLeft_1 rfl (lv_at hl 1 rfl) ?_
  refine lv_iconst (v := (0 : Int32)) hx hb dX2_ticksLeft_2 (by decide) ?_
  refine roVi (As := [.int p1, .int (0 : Int32)]) (rest := []) F (c_X2_ofEnvelope l D cI cS cJ a u H0 p1 (0 : Int32) h) (cw_X2_75 hts (Nat.le_of_ble_eq_true rfl) (Nat.le_of_ble_eq_true rfl)) hK hP (recv (ci := 2) (k0 := 0) hK hP rfl rfl) rfl hl.1 rfl (Nat.le_of_ble_eq_true rfl) dX2_ticksLeft_3 ⟨Nat.zero_le _, Nat.zero_le _⟩ (fun r1 h => ?_)
  refine lv_istore_n (lv' := [(3, .int r1), (0, .ref (a 0)), (1, .int p1), (2, .int p2)]) hx hb dX2_ticksLeft_6 rfl hl (by decide) rfl (fun ls hl => ?_)
  refine lv_aload_n hx hb dX2_ticksLeft_7 rfl (lv_at hl 1 rfl) ?_
  refine lv_iload_n hx hb dX2_ticksLeft_8 rfl (lv_at hl 2 rfl) ?_
  refine lv_iconst (v := (1 : Int32)) hx hb dX2_ticksLeft_9 (by decide) ?_
  refine roVi (As := [.int p1, .int (1 : Int32)]) (rest := []) F (c_X2_ofEnvelope l D cI cS cJ a u H0 p1 (1 : Int32) h) (cw_X2_75 hts (Nat.le_of_ble_eq_true rfl) (Nat.le_of_ble_eq_true rfl)) hK hP (recv (ci := 2) (k0 := 0) hK hP rfl rfl) rfl hl.1 rfl (Nat.le_of_ble_eq_true rfl) dX2_ticksLeft_10 ⟨Nat.zero_le _, Nat.zero_le _⟩ (fun r2 h => ?_)
  refine lv_istore (lv' := [(4, .int r2), (3, .int r1), (0, .ref (a 0)), (1, .int p1), (2, .int p2)]) hx hb dX2_ticksLeft_13 hl (by decide) rfl (fun ls hl => ?_)
  refine lv_aload_n hx hb dX2_ticksLeft_15 rfl (lv_at hl 2 rfl) ?_
  refine lv_iload_n hx hb dX2_ticksLeft_16 rfl (lv_at hl 3 rfl) ?_
  refine lv_iconst (v := (3 : Int32)) hx hb dX2_ticksLeft_17 (by decide) ?_
  refine roVi (As := [.int p1, .int (3 : Int32)]) (rest := []) F (c_X2_ofEnvelope l D cI cS cJ a u H0 p1 (3 : Int32) h) (cw_X2_75 hts (Nat.le_of_ble_eq_true rfl) (Nat.le_of_ble_eq_true rfl)) hK hP (recv (ci := 2) (k0 := 0) hK hP rfl rfl) rfl hl.1 rfl (Nat.le_of_ble_eq_true rfl) dX2_ticksLeft_18 ⟨Nat.zero_le _, Nat.zero_le _⟩ (fun r3 h => ?_)
  refine jn_e h (fun J6 e8 h => ?_)
  have w7 : ∀ (x4 : Int32) (ls : Array Slot), bz x4 → lv_has ls 8 [(0, .ref (a 0)), (2, .int p2), (3, .int r1), (4, .int r2)] → J6 x4 → W p l e rm_X2_ticksLeft s m args below meth c H0 [] 0 0 Q (F0 m 29 ls [.int x4]) := by
    intro x4 ls b5 hl h
    subst e8
    refine lv_istore (lv' := [(5, .int x4), (0, .ref (a 0)), (2, .int p2), (3, .int r1), (4, .int r2)]) hx hb dX2_ticksLeft_29 hl (by decide) rfl (fun ls hl => ?_)
    refine lv_iconst (v := (1 : Int32)) hx hb dX2_ticksLeft_31 (by decide) ?_
    refine lv_istore (lv' := [(6, .int (1 : Int32)), (5, .int x4), (0, .ref (a 0)), (2, .int p2), (3, .int r1), (4, .int r2)]) hx hb dX2_ticksLeft_32 hl (by decide) rfl (fun ls hl => ?_)
    refine lpu1 h (fun K10 : Int32 → Prop => ∀ (x9 : Int32) (ls : Array Slot), lv_has ls 8 [(0, .ref (a 0)), (2, .int p2), (3, .int r1), (4, .int r2), (5, .int x4), (6, .int x9)] → K10 x9 → W p l e rm_X2_ticksLeft s m args below meth c H0 [] 0 0 Q (F0 m 34 ls [])) ?_ ?_ ?_
    · intro x9 ls hl h
      exact h.elim
    · intro K10
      intro w11 x9 ls hl h
      refine lv_iload hx hb dX2_ticksLeft_34 (lv_at hl 5 rfl) ?_
      refine lv_iconst (v := (3 : Int32)) hx hb dX2_ticksLeft_36 (by decide) ?_
      refine lv_icmp_gt (tgt := 101) hx hb dX2_ticksLeft_37 (by decide) (fun c12 => ?_) (fun c12 => ?_)
      · replace h := h.1 c12
        refine lv_iload hx hb dX2_ticksLeft_101 (lv_at hl 4 rfl) ?_
        refine lv_if_eq (tgt := 113) hx hb dX2_ticksLeft_103 (by decide) (fun c13 => ?_) (fun c13 => ?_)
        · replace h := h.1 c13
          refine lv_iload hx hb dX2_ticksLeft_113 (lv_at hl 3 rfl) ?_
          exact hQ h dX2_ticksLeft_115
        · replace h := h.2 c13
          refine lv_iconst (v := (4 : Int32)) hx hb dX2_ticksLeft_106 (by decide) ?_
          refine lv_iload hx hb dX2_ticksLeft_107 (lv_at hl 3 rfl) ?_
          refine lv_isub hx hb dX2_ticksLeft_109 ?_
          refine lv_goto (tgt := 115) hx hb dX2_ticksLeft_110 (by decide) ?_
          exact hQ h dX2_ticksLeft_115
      · replace h := h.2 c12
        refine lv_iload hx hb dX2_ticksLeft_40 (lv_at hl 4 rfl) ?_
        refine jn_e h (fun J16 e18 h => ?_)
        have w17 : ∀ (x14 : Int32) (ls : Array Slot), bz x14 → lv_has ls 8 [(0, .ref (a 0)), (2, .int p2), (3, .int r1), (4, .int r2), (5, .int x4), (6, .int x9)] → J16 x14 → W p l e rm_X2_ticksLeft s m args below meth c H0 [] 0 0 Q (F0 m 72 ls [.int x14]) := by
          intro x14 ls b15 hl h
          subst e18
          refine lv_istore (lv' := [(7, .int x14), (0, .ref (a 0)), (2, .int p2), (3, .int r1), (4, .int r2), (5, .int x4), (6, .int x9)]) hx hb dX2_ticksLeft_72 hl (by decide) rfl (fun ls hl => ?_)
          refine lv_iload hx hb dX2_ticksLeft_74 (lv_at hl 0 rfl) ?_
          refine lv_if_eq (tgt := 95) hx hb dX2_ticksLeft_76 (by decide) (fun c19 => ?_) (fun c19 => ?_)
          · replace h := h.1 c19
            refine lv_iinc (v := (x9 + 1)) (lv' := [(6, .int (x9 + 1)), (7, .int x14), (0, .ref (a 0)), (2, .int p2), (3, .int r1), (4, .int r2), (5, .int x4)]) hx hb dX2_ticksLeft_95 hl (k := 6) rfl rfl (by decide) rfl (fun ls hl => ?_)
            refine lv_goto (tgt := 34) hx hb dX2_ticksLeft_98 (by decide) ?_
            exact w11 (x9 + 1) _ (lv_sub hl [2, 3, 4, 5, 6, 0] rfl) h
          · replace h := h.2 c19
            refine lv_iload_n hx hb dX2_ticksLeft_79 rfl (lv_at hl 2 rfl) ?_
            refine lv_aload_n hx hb dX2_ticksLeft_80 rfl (lv_at hl 1 rfl) ?_
            refine lv_iload_n hx hb dX2_ticksLeft_81 rfl (lv_at hl 3 rfl) ?_
            refine lv_iload hx hb dX2_ticksLeft_82 (lv_at hl 6 rfl) ?_
            refine roVi (As := [.int r1, .int x9]) (rest := [.int p2]) F (c_X2_innAt l D cI cS cJ a u H0 r1 x9 h) (cw_X2_79 hts (Nat.le_of_ble_eq_true rfl) (Nat.le_of_ble_eq_true rfl)) hK hP (recv (ci := 2) (k0 := 0) hK hP rfl rfl) rfl hl.1 rfl (Nat.le_of_ble_eq_true rfl) dX2_ticksLeft_84 ⟨Nat.zero_le _, Nat.zero_le _⟩ (fun r20 h => ?_)
            refine roSi (As := [.int p2, .int r20]) (rest := []) F (c_X2_isInMask l D cI cS cJ H0 p2 r20 h) (cw_X2_59 hts (Nat.le_of_ble_eq_true rfl) (Nat.le_of_ble_eq_true rfl)) hK vP_nil rfl hl.1 rfl (Nat.le_of_ble_eq_true rfl) dX2_ticksLeft_87 ⟨Nat.zero_le _, Nat.zero_le _⟩ (fun r21 h => ?_)
            obtain ⟨b22, h⟩ := h
            refine lv_if_ne (tgt := 95) hx hb dX2_ticksLeft_90 (by decide) (fun c23 => ?_) (fun c23 => ?_)
            · replace h := h.1 c23
              refine lv_iinc (v := (x9 + 1)) (lv' := [(6, .int (x9 + 1)), (7, .int x14), (0, .ref (a 0)), (2, .int p2), (3, .int r1), (4, .int r2), (5, .int x4)]) hx hb dX2_ticksLeft_95 hl (k := 6) rfl rfl (by decide) rfl (fun ls hl => ?_)
              refine lv_goto (tgt := 34) hx hb dX2_ticksLeft_98 (by decide) ?_
              exact w11 (x9 + 1) _ (lv_sub hl [2, 3, 4, 5, 6, 0] rfl) h
            · replace h := h.2 c23
              refine lv_iconst (v := (-1 : Int32)) hx hb dX2_ticksLeft_93 (by decide) ?_
              exact hQ h dX2_ticksLeft_94
        clear e18
        refine lv_if_eq (tgt := 60) hx hb dX2_ticksLeft_42 (by decide) (fun c24 => ?_) (fun c24 => ?_)
        · replace h := h.1 c24
          refine lv_iload hx hb dX2_ticksLeft_60 (lv_at hl 5 rfl) ?_
          refine lv_iload hx hb dX2_ticksLeft_62 (lv_at hl 3 rfl) ?_
          refine lv_icmp_ge (tgt := 71) hx hb dX2_ticksLeft_64 (by decide) (fun c25 => ?_) (fun c25 => ?_)
          · replace h := h.1 c25
            refine lv_iconst (v := (0 : Int32)) hx hb dX2_ticksLeft_71 (by decide) ?_
            exact w17 (0 : Int32) _ bz0 hl h
          · replace h := h.2 c25
            refine lv_iconst (v := (1 : Int32)) hx hb dX2_ticksLeft_67 (by decide) ?_
            refine lv_goto (tgt := 72) hx hb dX2_ticksLeft_68 (by decide) ?_
            exact w17 (1 : Int32) _ bz1 hl h
        · replace h := h.2 c24
          refine lv_iload hx hb dX2_ticksLeft_45 (lv_at hl 5 rfl) ?_
          refine lv_iload hx hb dX2_ticksLeft_47 (lv_at hl 3 rfl) ?_
          refine lv_icmp_le (tgt := 56) hx hb dX2_ticksLeft_49 (by decide) (fun c26 => ?_) (fun c26 => ?_)
          · replace h := h.1 c26
            refine lv_iconst (v := (0 : Int32)) hx hb dX2_ticksLeft_56 (by decide) ?_
            refine lv_goto (tgt := 72) hx hb dX2_ticksLeft_57 (by decide) ?_
            exact w17 (0 : Int32) _ bz0 hl h
          · replace h := h.2 c26
            refine lv_iconst (v := (1 : Int32)) hx hb dX2_ticksLeft_52 (by decide) ?_
            refine lv_goto (tgt := 72) hx hb dX2_ticksLeft_53 (by decide) ?_
            exact w17 (1 : Int32) _ bz1 hl h
    · intro K10 w11 h
      exact w11 (1 : Int32) _ (lv_sub hl [2, 3, 4, 5, 1, 0] rfl) h
  clear e8
  refine lv_if_ne (tgt := 28) hx hb dX2_ticksLeft_21 (by decide) (fun c27 => ?_) (fun c27 => ?_)
  · replace h := h.1 c27
    refine lv_iconst (v := (0 : Int32)) hx hb dX2_ticksLeft_28 (by decide) ?_
    exact w7 (0 : Int32) _ bz0 (lv_sub hl [2, 4, 1, 0] rfl) h
  · replace h := h.2 c27
    refine lv_iconst (v := (1 : Int32)) hx hb dX2_ticksLeft_24 (by decide) ?_
    refine lv_goto (tgt := 29) hx hb dX2_ticksLeft_25 (by decide) ?_
    exact w7 (1 : Int32) _ bz1 (lv_sub hl [2, 4, 1, 0] rfl) h

def wp_X2_lostWithout (u : St) (p1 : Int32) (post : Int32 → Prop) : Prop :=
  LP2 (fun (K3 : Int32 → Int32 → Prop) (x1 : Int32) (x2 : Int32) => ((S_envelopeCount u) ≤ x2 → post x1) ∧ (¬ (S_envelopeCount u) ≤ x2 → wp_X2_ticksLeft u x2 ((S_openMask u) &&& (((1 : Int32) <<< (p1 &&& 31)) ^^^ (-1 : Int32))) (fun r6 => (¬ r6 = (-1 : Int32) → K3 x1 (x2 + 1)) ∧ (r6 = (-1 : Int32) → K3 (x1 + 1) (x2 + 1))))) (0 : Int32) (0 : Int32)
set_option maxHeartbeats 4000000 in
set_option maxRecDepth 100000 in
theorem c_X2_lostWithout (l : Launch) (D : va_G) (cI cS cJ : ClassId) (a : Nat → Nat) (u : St) (H0 : Heap) (p1 : Int32) {post : Int32 → Prop} (h : wp_X2_lostWithout u p1 post) : Met l yX2_lostWithout (wsA yX2_lostWithout cX2_lostWithout 4 (some .int)) rm_X2_lostWithout (va_Pc [.ref (a 0), .int p1] (roP D (tysA cI cS cJ) (stW cI a u) H0)) (va_Qi (fun r (_ : Unit) => post r) (fun _ t => t.heap = H0) nF) 0 0 nF := by
  refine mkROi (by decide +kernel) (Nat.le_of_ble_eq_true rfl) (fun {p e s m args below meth c Q ls} hx hb F hts hown hK hP hl hQ => ?_)
  have hown : s.vm.findClass RX2 = some m.cls := hown
  have F : CallFix p m c cX2_lostWithout 4 s args wsT RX2 := F
  have hl : lv_has ls 4 [(0, .ref (a 0)), (1, .int p1)] := hl
  unfold wp_X2_lostWithout at h
  refine lv_iconst (v := (0 : Int32)) hx hb dX2_lostWithout_0 (by decide) ?_
  refine lv_istore_n (lv' := [(2, .int (0 : Int32)), (0, .ref (a 0)), (1, .int p1)]) hx hb dX2_lostWithout_1 rfl hl (by decide) rfl (fun ls hl => ?_)
  refine lv_iconst (v := (0 : Int32)) hx hb dX2_lostWithout_2 (by decide) ?_
  refine lv_istore_n (lv' := [(3, .int (0 : Int32)), (2, .int (0 : Int32)), (0, .ref (a 0)), (1, .int p1)]) hx hb dX2_lostWithout_3 rfl hl (by decide) rfl (fun ls hl => ?_)
  refine lpu2 h (fun K3 : Int32 → Int32 → Prop => ∀ (x1 : Int32) (x2 : Int32) (ls : Array Slot), lv_has ls 4 [(0, .ref (a 0)), (1, .int p1), (2, .int x1), (3, .int x2)] → K3 x1 x2 → W p l e rm_X2_lostWithout s m args below meth c H0 [] 0 0 Q (F0 m 4 ls [])) ?_ ?_ ?_
  · intro x1 x2 ls hl h
    exact h.elim
  · intro K3
    intro w4 x1 x2 ls hl h
    refine lv_iload_n hx hb dX2_lostWithout_4 rfl (lv_at hl 3 rfl) ?_
    refine lv_aload_n hx hb dX2_lostWithout_5 rfl (lv_at hl 0 rfl) ?_
    refine va_get (D := D) (ci := 2) (v := .int (S_envelopeCount u)) (C := RX2) (T := TX2) (N := 12) hx hb hts inT2 hown hK.k hP 0 rfl rfl 6 (by decide) (hts _ q_63) (fun _ h9 => h9) rfl dX2_lostWithout_6 ?_
    refine lv_icmp_ge (tgt := 40) hx hb dX2_lostWithout_9 (by decide) (fun c5 => ?_) (fun c5 => ?_)
    · replace h := h.1 c5
      refine lv_iload_n hx hb dX2_lostWithout_40 rfl (lv_at hl 2 rfl) ?_
      exact hQ h dX2_lostWithout_41
    · replace h := h.2 c5
      refine lv_aload_n hx hb dX2_lostWithout_12 rfl (lv_at hl 0 rfl) ?_
      refine lv_iload_n hx hb dX2_lostWithout_13 rfl (lv_at hl 3 rfl) ?_
      refine lv_aload_n hx hb dX2_lostWithout_14 rfl (lv_at hl 0 rfl) ?_
      refine va_get (D := D) (ci := 2) (v := .int (S_openMask u)) (C := RX2) (T := TX2) (N := 12) hx hb hts inT2 hown hK.k hP 0 rfl rfl 0 (by decide) (hts _ q_53) (fun _ h9 => h9) rfl dX2_lostWithout_15 ?_
      refine lv_iconst (v := (1 : Int32)) hx hb dX2_lostWithout_18 (by decide) ?_
      refine lv_iload_n hx hb dX2_lostWithout_19 rfl (lv_at hl 1 rfl) ?_
      refine lv_ishl hx hb dX2_lostWithout_20 ?_
      refine lv_iconst (v := (-1 : Int32)) hx hb dX2_lostWithout_21 (by decide) ?_
      refine lv_ixor hx hb dX2_lostWithout_22 ?_
      refine lv_iand hx hb dX2_lostWithout_23 ?_
      refine roVi (As := [.int x2, .int ((S_openMask u) &&& (((1 : Int32) <<< (p1 &&& 31)) ^^^ (-1 : Int32)))]) (rest := []) F (c_X2_ticksLeft l D cI cS cJ a u H0 x2 ((S_openMask u) &&& (((1 : Int32) <<< (p1 &&& 31)) ^^^ (-1 : Int32))) h) (cw_X2_140 hts (Nat.le_of_ble_eq_true rfl) (Nat.le_of_ble_eq_true rfl)) hK hP (recv (ci := 2) (k0 := 0) hK hP rfl rfl) rfl hl.1 rfl (Nat.le_of_ble_eq_true rfl) dX2_lostWithout_24 ⟨Nat.zero_le _, Nat.zero_le _⟩ (fun r6 h => ?_)
      refine lv_iconst (v := (-1 : Int32)) hx hb dX2_lostWithout_27 (by decide) ?_
      refine lv_icmp_ne (tgt := 34) hx hb dX2_lostWithout_28 (by decide) (fun c7 => ?_) (fun c7 => ?_)
      · replace h := h.1 c7
        refine lv_iinc (v := (x2 + 1)) (lv' := [(3, .int (x2 + 1)), (0, .ref (a 0)), (1, .int p1), (2, .int x1)]) hx hb dX2_lostWithout_34 hl (k := 3) rfl rfl (by decide) rfl (fun ls hl => ?_)
        refine lv_goto (tgt := 4) hx hb dX2_lostWithout_37 (by decide) ?_
        exact w4 x1 (x2 + 1) _ (lv_sub hl [1, 2, 3, 0] rfl) h
      · replace h := h.2 c7
        refine lv_iinc (v := (x1 + 1)) (lv' := [(2, .int (x1 + 1)), (0, .ref (a 0)), (1, .int p1), (3, .int x2)]) hx hb dX2_lostWithout_31 hl (k := 2) rfl rfl (by decide) rfl (fun ls hl => ?_)
        refine lv_iinc (v := (x2 + 1)) (lv' := [(3, .int (x2 + 1)), (2, .int (x1 + 1)), (0, .ref (a 0)), (1, .int p1)]) hx hb dX2_lostWithout_34 hl (k := 3) rfl rfl (by decide) rfl (fun ls hl => ?_)
        refine lv_goto (tgt := 4) hx hb dX2_lostWithout_37 (by decide) ?_
        exact w4 (x1 + 1) (x2 + 1) _ (lv_sub hl [2, 3, 1, 0] rfl) h
  · intro K3 w4 h
    exact w4 (0 : Int32) (0 : Int32) _ (lv_sub hl [2, 3, 1, 0] rfl) h
end
section
/-! more ways to call -/
theorem perm_kk {α : Type} (ws : List α) (i j : Nat) {x y : α} (hx : ws[i]? = some x) (hy : ws[j]? = some y) (hij : i ≠ j) : ∃ wr, ws.Perm ([x, y] ++ wr) ∧ ∀ y', ([x, y'] ++ wr).Perm (ws.set j y') := by
  have hm : x ∈ ws.eraseIdx j := by
    rcases Nat.lt_or_ge i j with h | h
    · exact List.mem_of_getElem? (i := i) (by rw [List.getElem?_eraseIdx_of_lt h]; exact hx)
    · have h2 : j < i := by omega
      exact List.mem_of_getElem? (i := i - 1) (by rw [List.getElem?_eraseIdx_of_ge (by omega), show i - 1 + 1 = i by omega]; exact hx)
  obtain ⟨s, t, he⟩ := List.append_of_mem hm
  refine ⟨s ++ t, ?_, fun y' => ?_⟩
  · exact ((perm_k ws j hy).trans ((by rw [he]; exact List.perm_middle : (ws.eraseIdx j).Perm (x :: (s ++ t))).cons y)).trans (List.Perm.swap x y _)
  · exact (List.Perm.swap y' x _).trans ((((by rw [he]; exact List.perm_middle : (ws.eraseIdx j).Perm (x :: (s ++ t))).symm).cons y').trans (perm_set ws j y' hy))
abbrev rm_J7_fill_53178 : Room := { frames := 0, cells := 0, slots := 0, locals := 0 }
abbrev rm_X3_copyRow : Room := { frames := 1, cells := 0, slots := 0, locals := 60 }
abbrev rm_X2_become : Room := { frames := 2, cells := 0, slots := 0, locals := 81 }
theorem q_35 : Cond.initialized "java/lang/System" ∈ wsT := tw 35 (by decide +kernel) rfl
theorem q_231 : Cond.static yX3_copyRow ∈ wsT := tw 231 (by decide +kernel) rfl
theorem q_232 : Cond.code yX3_copyRow cX3_copyRow 2 none ∈ wsT := tw 232 (by decide +kernel) rfl
theorem q_233 : Cond.methodLink RX3 268 yJ9_min_7cf53 ∈ wsT := tw 233 (by decide +kernel) rfl
theorem q_234 : Cond.static yJ9_min_7cf53 ∈ wsT := tw 234 (by decide +kernel) rfl
theorem q_235 : Cond.code yJ9_min_7cf53 cJ9_min_7cf53 2 (some .int) ∈ wsT := tw 235 (by decide +kernel) rfl
theorem q_236 : Cond.methodLink RX3 271 arraycopyName ∈ wsT := tw 236 (by decide +kernel) rfl
theorem q_237 : Cond.static arraycopyName ∈ wsT := tw 237 (by decide +kernel) rfl
theorem q_238 : Cond.native arraycopyName ∈ wsT := tw 238 (by decide +kernel) rfl
theorem cw_X3_268 {R : Room} {s : State} {args : Array Value} (hts : ∀ w ∈ wsT, w.before args s = true) (hf : 0 + 1 ≤ R.frames) (hl : 8 + (2 + 11) + 0 ≤ R.locals) : CallB R s args RX3 268 yJ9_min_7cf53 cJ9_min_7cf53 2 (some .int) (wsA yJ9_min_7cf53 cJ9_min_7cf53 2 (some .int)) rm_J9_min_7cf53 0 0 2 ∧ (Cond.static yJ9_min_7cf53).before args s = true := cwAS 2 hts q_233 q_234 q_34 q_235 rfl rfl (by decide +kernel) ⟨hf, hl⟩
theorem cw_X2_49 {R : Room} {s : State} {args : Array Value} (hts : ∀ w ∈ wsT, w.before args s = true) (hN : va_Nw (.methodLinkNest RX2 49 yX3_copyRow RX3) s) (hf : 1 + 1 ≤ R.frames) (hl : 8 + (2 + 11) + 60 ≤ R.locals) : va_CN R s args RX2 49 yX3_copyRow RX3 cX3_copyRow 2 none (wsA yX3_copyRow cX3_copyRow 2 none) rm_X3_copyRow 0 0 2 ∧ (Cond.static yX3_copyRow).before args s = true := cwAN 2 hts hN q_231 q_23 q_232 rfl rfl (by decide +kernel) ⟨hf, hl⟩
def wp_J7_fill_53178 (n0 : Nat) (f0 : Nat → Int32) (p1 : Int32) (post : (Nat → Int32) → Prop) : Prop :=
  LP2 (fun (K3 : Int32 → (Nat → Int32) → Prop) (x1 : Int32) (f2 : (Nat → Int32)) => ((nI n0) ≤ x1 → post f2) ∧ (¬ (nI n0) ≤ x1 → (vp_in x1 n0) ∧ (K3 (x1 + 1) (upd f2 (Int32.toNatClampNeg x1) p1)))) (0 : Int32) f0
set_option maxHeartbeats 4000000 in
set_option maxRecDepth 100000 in
theorem c_J7_fill_53178 (l : Launch) (D : va_G) (cI cS cJ : ClassId) (r0 : Nat) (n0 : Nat) (f0 : Nat → Int32) (sz : Nat) (p1 : Int32) {post : (Nat → Int32) → Prop} (h : wp_J7_fill_53178 n0 f0 p1 post) : Met l yJ7_fill_53178 (wsA yJ7_fill_53178 cJ7_fill_53178 4 none) rm_J7_fill_53178 (va_Pc [.ref r0, .int p1] (rwP D (tysA cI cS cJ) ([(r0, .inl (cI, n0, .inl f0))]) sz)) (va_Qv post (fun u9 t => va_P D vwCl ((fun f9 => [(r0, .inl (cI, n0, .inl f9))]) u9) t.heap ∧ va_D (va_A ([(r0, .inl (cI, n0, .inl f0))]) sz) ((fun f9 => [(r0, .inl (cI, n0, .inl f9))]) u9)) (va_A ([(r0, .inl (cI, n0, .inl f0))]) sz)) 0 0 (va_A ([(r0, .inl (cI, n0, .inl f0))]) sz) := by
  refine mkRWv (wf := (fun f9 => [(r0, .inl (cI, n0, .inl f9))])) (by decide +kernel) (Nat.le_of_ble_eq_true rfl) (fun {p e s m args below meth c Q ls A H0 H locs} hx hb F hts hown hin hK hP hD hS hA hl hQ => ?_)
  have hown : s.vm.findClass RJ7 = some m.cls := hown
  have F : CallFix p m c cJ7_fill_53178 4 s args wsT RJ7 := F
  have hl : lv_has ls 4 [(0, .ref r0), (1, .int p1)] := hl
  unfold wp_J7_fill_53178 at h
  refine lv_iconst (v := (0 : Int32)) hx hb dJ7_fill_53178_0 (by decide) ?_
  refine lv_istore_n (lv' := [(2, .int (0 : Int32)), (0, .ref r0), (1, .int p1)]) hx hb dJ7_fill_53178_1 rfl hl (by decide) rfl (fun ls hl => ?_)
  refine lv_aload_n hx hb dJ7_fill_53178_2 rfl (lv_at hl 1 rfl) ?_
  refine va_alen (v := (nI n0)) hx hb hK.k hP 0 0 rfl rfl rfl dJ7_fill_53178_3 ?_
  refine lv_istore_n (lv' := [(3, .int (nI n0)), (2, .int (0 : Int32)), (0, .ref r0), (1, .int p1)]) hx hb dJ7_fill_53178_4 rfl hl (by decide) rfl (fun ls hl => ?_)
  refine lpu2 h (fun K3 : Int32 → (Nat → Int32) → Prop => ∀ (x1 : Int32) (f2 : (Nat → Int32)) (ls : Array Slot) (H : Heap) (locs : List Loc), lv_has ls 4 [(0, .ref r0), (1, .int p1), (2, .int x1), (3, .int (nI n0))] → va_P D vwCl ([(r0, .inl (cI, n0, .inl f2))]) H → va_D A ([(r0, .inl (cI, n0, .inl f2))]) → va_S A H0 H locs → K3 x1 f2 → W p l e rm_J7_fill_53178 s m args below meth c H locs 0 0 Q (F0 m 5 ls [])) ?_ ?_ ?_
  · intro x1 f2 ls H locs hl hP hD hS h
    exact h.elim
  · intro K3
    intro w4 x1 f2 ls H locs hl hP hD hS h
    refine lv_iload_n hx hb dJ7_fill_53178_5 rfl (lv_at hl 2 rfl) ?_
    refine lv_iload_n hx hb dJ7_fill_53178_6 rfl (lv_at hl 3 rfl) ?_
    refine lv_icmp_ge (tgt := 20) hx hb dJ7_fill_53178_7 (by decide) (fun c5 => ?_) (fun c5 => ?_)
    · replace h := h.1 c5
      exact hQ h hP hD hS dJ7_fill_53178_20
    · replace h := h.2 c5
      refine lv_aload_n hx hb dJ7_fill_53178_10 rfl (lv_at hl 0 rfl) ?_
      refine lv_iload_n hx hb dJ7_fill_53178_11 rfl (lv_at hl 2 rfl) ?_
      refine lv_iload_n hx hb dJ7_fill_53178_12 rfl (lv_at hl 1 rfl) ?_
      refine va_iast hx hb hK.k hP hD hS 0 0 rfl rfl h.1 dJ7_fill_53178_13 (fun H locs hP hD hS => ?_)
      replace h := h.2
      have hP : va_P D vwCl ([(r0, .inl (cI, n0, .inl (upd f2 (Int32.toNatClampNeg x1) p1)))]) H := hP
      have hD : va_D A ([(r0, .inl (cI, n0, .inl (upd f2 (Int32.toNatClampNeg x1) p1)))]) := hD
      refine lv_iinc (v := (x1 + 1)) (lv' := [(2, .int (x1 + 1)), (0, .ref r0), (1, .int p1), (3, .int (nI n0))]) hx hb dJ7_fill_53178_14 hl (k := 2) rfl rfl (by decide) rfl (fun ls hl => ?_)
      refine lv_goto (tgt := 5) hx hb dJ7_fill_53178_17 (by decide) ?_
      exact w4 (x1 + 1) (upd f2 (Int32.toNatClampNeg x1) p1) _ _ _ (lv_sub hl [1, 2, 0, 3] rfl) hP hD hS h
  · intro K3 w4 h
    exact w4 (0 : Int32) f0 _ _ _ (lv_sub hl [2, 3, 1, 0] rfl) hP hD hS h

def wp_X3_copyRow (n0 : Nat) (f0 : Nat → Int32) (n1 : Nat) (f1 : Nat → Int32)  (post : (Nat → Int32) → Prop) : Prop :=
  wp_J9_min_7cf53 (nI n0) (nI n1) (fun r1 => (¬ r1 < 0) ∧ ((Int32.toNatClampNeg (0 : Int32)) + (Int32.toNatClampNeg r1) ≤ n0) ∧ ((Int32.toNatClampNeg (0 : Int32)) + (Int32.toNatClampNeg r1) ≤ n1) ∧ (post (va_cpy f0 f1 (Int32.toNatClampNeg (0 : Int32)) (Int32.toNatClampNeg (0 : Int32)) (Int32.toNatClampNeg r1))))
set_option maxHeartbeats 4000000 in
set_option maxRecDepth 100000 in
theorem c_X3_copyRow (l : Launch) (D : va_G) (cI cS cJ : ClassId) (r0 : Nat) (n0 : Nat) (f0 : Nat → Int32) (rr1 : Nat) (n1 : Nat) (f1 : Nat → Int32) (sz : Nat)  {post : (Nat → Int32) → Prop} (h : wp_X3_copyRow n0 f0 n1 f1 post) : Met l yX3_copyRow (wsA yX3_copyRow cX3_copyRow 2 none) rm_X3_copyRow (va_Pc [.ref r0, .ref rr1] (rwP D (tysA cI cS cJ) ([(r0, .inl (cI, n0, .inl f0)), (rr1, .inl (cI, n1, .inl f1))]) sz)) (va_Qv post (fun u9 t => va_P D vwCl ((fun f9 => [(r0, .inl (cI, n0, .inl f0)), (rr1, .inl (cI, n1, .inl f9))]) u9) t.heap ∧ va_D (va_A ([(r0, .inl (cI, n0, .inl f0)), (rr1, .inl (cI, n1, .inl f1))]) sz) ((fun f9 => [(r0, .inl (cI, n0, .inl f0)), (rr1, .inl (cI, n1, .inl f9))]) u9)) (va_A ([(r0, .inl (cI, n0, .inl f0)), (rr1, .inl (cI, n1, .inl f1))]) sz)) 0 0 (va_A ([(r0, .inl (cI, n0, .inl f0)), (rr1, .inl (cI, n1, .inl f1))]) sz) := by
  refine mkRWv (wf := (fun f9 => [(r0, .inl (cI, n0, .inl f0)), (rr1, .inl (cI, n1, .inl f9))])) (by decide +kernel) (Nat.le_of_ble_eq_true rfl) (fun {p e s m args below meth c Q ls A H0 H locs} hx hb F hts hown hin hK hP hD hS hA hl hQ => ?_)
  have hown : s.vm.findClass RX3 = some m.cls := hown
  have F : CallFix p m c cX3_copyRow 2 s args wsT RX3 := F
  have hl : lv_has ls 2 [(0, .ref r0), (1, .ref rr1)] := hl
  unfold wp_X3_copyRow at h
  refine lv_aload_n hx hb dX3_copyRow_0 rfl (lv_at hl 0 rfl) ?_
  refine lv_iconst (v := (0 : Int32)) hx hb dX3_copyRow_1 (by decide) ?_
  refine lv_aload_n hx hb dX3_copyRow_2 rfl (lv_at hl 1 rfl) ?_
  refine lv_iconst (v := (0 : Int32)) hx hb dX3_copyRow_3 (by decide) ?_
  refine lv_aload_n hx hb dX3_copyRow_4 rfl (lv_at hl 0 rfl) ?_
  refine va_alen (v := (nI n0)) hx hb hK.k hP 0 0 rfl rfl rfl dX3_copyRow_5 ?_
  refine lv_aload_n hx hb dX3_copyRow_6 rfl (lv_at hl 1 rfl) ?_
  refine va_alen (v := (nI n1)) hx hb hK.k hP 1 0 rfl rfl rfl dX3_copyRow_7 ?_
  refine roSi (As := [.int (nI n0), .int (nI n1)]) (rest := [.int (0 : Int32), .ref rr1, .int (0 : Int32), .ref r0]) F (c_J9_min_7cf53 l D cI cS cJ H (nI n0) (nI n1) h) (cw_X3_268 hts (Nat.le_of_ble_eq_true rfl) (Nat.le_of_ble_eq_true rfl)) hK vP_nil rfl hl.1 rfl (Nat.le_of_ble_eq_true rfl) dX3_copyRow_8 ⟨Nat.zero_le _, Nat.zero_le _⟩ (fun r1 h => ?_)
  refine va_copyi hx hb (F.2.2.1.trans hl.1.symm) hown (hts _ q_236) (hts _ q_238) (hts _ q_237) (hts _ q_35) hK.k hP hD hS 0 1 0 0 rfl rfl rfl rfl rfl (by decide) (by decide) h.1 h.2.1 h.2.2.1 (fun _ _ => rfl) (Nat.le_of_ble_eq_true rfl) (by decide +kernel) dX3_copyRow_11 (fun H locs hP hD hS => ?_)
  replace h := h.2.2.2
  have hP : va_P D vwCl ([(r0, .inl (cI, n0, .inl f0)), (rr1, .inl (cI, n1, .inl (va_cpy f0 f1 (Int32.toNatClampNeg (0 : Int32)) (Int32.toNatClampNeg (0 : Int32)) (Int32.toNatClampNeg r1))))]) H := hP
  have hD : va_D A ([(r0, .inl (cI, n0, .inl f0)), (rr1, .inl (cI, n1, .inl (va_cpy f0 f1 (Int32.toNatClampNeg (0 : Int32)) (Int32.toNatClampNeg (0 : Int32)) (Int32.toNatClampNeg r1))))]) := hD
  exact hQ h hP hD hS dX3_copyRow_14

def wp_X2_become (u : St) (w : St)  (post : St → Prop) : Prop :=
  wp_X3_copyRow 8 (S_keys w) 8 (S_keys (sS_openMask u (S_openMask w))) (fun f2 => wp_X3_copyRow 18 (S_roadInns w) 18 (S_roadInns (sS_roadCount (aS_keys (sS_openMask u (S_openMask w)) f2) (S_roadCount w))) (fun f5 => wp_X3_copyRow 18 (S_roadKeys w) 18 (S_roadKeys (aS_roadInns (sS_roadCount (aS_keys (sS_openMask u (S_openMask w)) f2) (S_roadCount w)) f5)) (fun f8 => wp_X3_copyRow 6 (S_roadHalls w) 6 (S_roadHalls (aS_roadKeys (aS_roadInns (sS_roadCount (aS_keys (sS_openMask u (S_openMask w)) f2) (S_roadCount w)) f5) f8)) (fun f11 => wp_X3_copyRow 48 (S_envelopeNumbers w) 48 (S_envelopeNumbers (sS_envelopeCount (aS_roadHalls (aS_roadKeys (aS_roadInns (sS_roadCount (aS_keys (sS_openMask u (S_openMask w)) f2) (S_roadCount w)) f5) f8) f11) (S_envelopeCount w))) (fun f14 => wp_X3_copyRow 4 (S_letters w) 4 (S_letters (aS_envelopeNumbers (sS_envelopeCount (aS_roadHalls (aS_roadKeys (aS_roadInns (sS_roadCount (aS_keys (sS_openMask u (S_openMask w)) f2) (S_roadCount w)) f5) f8) f11) (S_envelopeCount w)) f14)) (fun f17 => wp_X3_copyRow 4 (S_answerRoads w) 4 (S_answerRoads (aS_letters (aS_envelopeNumbers (sS_envelopeCount (aS_roadHalls (aS_roadKeys (aS_roadInns (sS_roadCount (aS_keys (sS_openMask u (S_openMask w)) f2) (S_roadCount w)) f5) f8) f11) (S_envelopeCount w)) f14) f17)) (fun f20 => wp_X3_copyRow 5 (S_counts w) 5 (S_counts (sS_answerGot (aS_answerRoads (aS_letters (aS_envelopeNumbers (sS_envelopeCount (aS_roadHalls (aS_roadKeys (aS_roadInns (sS_roadCount (aS_keys (sS_openMask u (S_openMask w)) f2) (S_roadCount w)) f5) f8) f11) (S_envelopeCount w)) f14) f17) f20) (S_answerGot w))) (fun f23 => post (aS_counts (sS_answerGot (aS_answerRoads (aS_letters (aS_envelopeNumbers (sS_envelopeCount (aS_roadHalls (aS_roadKeys (aS_roadInns (sS_roadCount (aS_keys (sS_openMask u (S_openMask w)) f2) (S_roadCount w)) f5) f8) f11) (S_envelopeCount w)) f14) f17) f20) (S_answerGot w)) f23)))))))))
set_option maxHeartbeats 4000000 in
set_option maxRecDepth 100000 in
theorem c_X2_become (l : Launch) (D : va_G) (cI cS cJ : ClassId) (a : Nat → Nat) (u : St) (b : Nat → Nat) (w : St) (sz : Nat)  {post : St → Prop} (h : wp_X2_become u w post) : Met l yX2_become (wsA yX2_become cX2_become 2 none) rm_X2_become (va_Pc [.ref (a 0), .ref (b 0)] (rwP D (tysA cI cS cJ) (stW cI a u ++ stW cI b w) sz)) (va_Qv post (fun u9 t => va_P D vwCl ((fun f9 => stW cI a f9 ++ stW cI b w) u9) t.heap ∧ va_D (va_A (stW cI a u ++ stW cI b w) sz) ((fun f9 => stW cI a f9 ++ stW cI b w) u9)) (va_A (stW cI a u ++ stW cI b w) sz)) 0 0 (va_A (stW cI a u ++ stW cI b w) sz) := by
  refine mkRWv (wf := (fun f9 => stW cI a f9 ++ stW cI b w)) (by decide +kernel) (Nat.le_of_ble_eq_true rfl) (fun {p e s m args below meth c Q ls A H0 H locs} hx hb F hts hown hin hK hP hD hS hA hl hQ => ?_)
  have hown : s.vm.findClass RX2 = some m.cls := hown
  have F : CallFix p m c cX2_become 2 s args wsT RX2 := F
  have hl : lv_has ls 2 [(0, .ref (a 0)), (1, .ref (b 0))] := hl
  unfold wp_X2_become at h
  refine lv_aload_n hx hb dX2_become_0 rfl (lv_at hl 0 rfl) ?_
  refine lv_aload_n hx hb dX2_become_1 rfl (lv_at hl 1 rfl) ?_
  refine va_get (D := D) (ci := 2) (v := .int (S_openMask w)) (C := RX2) (T := TX2) (N := 12) hx hb hts inT2 hown hK.k hP 9 rfl rfl 0 (by decide) (hts _ q_53) (fun _ h9 => h9) rfl dX2_become_2 ?_
  refine va_put (D := D) (ci := 2) (v := .int (S_openMask w)) (ty := .int) (C := RX2) (T := TX2) (N := 12) hx hb hts inT2 tyX2 tyX2_ok nmX2 hown hK.k hP hD hS 0 rfl rfl 0 (by decide) (hts _ q_53) (fun _ h9 => h9) rfl (by decide +kernel) rfl rfl (Nat.le_of_ble_eq_true rfl) dX2_become_5 (fun H locs hP hD hS => ?_)
  have hP : va_P D vwCl (stW cI a (sS_openMask u (S_openMask w)) ++ stW cI b w) H := hP
  have hD : va_D A (stW cI a (sS_openMask u (S_openMask w)) ++ stW cI b w) := hD
  refine lv_aload_n hx hb dX2_become_8 rfl (lv_at hl 1 rfl) ?_
  refine va_get (D := D) (ci := 2) (v := .ref (b 1)) (C := RX2) (T := TX2) (N := 12) hx hb hts inT2 hown hK.k hP 9 rfl rfl 1 (by decide) (hts _ q_55) (fun _ h9 => h9) rfl dX2_become_9 ?_
  refine lv_aload_n hx hb dX2_become_12 rfl (lv_at hl 0 rfl) ?_
  refine va_get (D := D) (ci := 2) (v := .ref (a 1)) (C := RX2) (T := TX2) (N := 12) hx hb hts inT2 hown hK.k hP 0 rfl rfl 1 (by decide) (hts _ q_55) (fun _ h9 => h9) rfl dX2_become_13 ?_
  obtain ⟨wr, hp31, hp32⟩ := perm_kk (stW cI a (sS_openMask u (S_openMask w)) ++ stW cI b w) 10 1 (x := ((b 1), .inl (cI, 8, .inl (S_keys w)))) (y := ((a 1), .inl (cI, 8, .inl (S_keys (sS_openMask u (S_openMask w)))))) rfl rfl (by decide)
  refine rwNv (wr := wr) (wf := fun f1 => [((b 1), .inl (cI, 8, .inl (S_keys w))), ((a 1), .inl (cI, 8, .inl f1))]) (As := [.ref (b 1), .ref (a 1)]) (rest := []) hp31 F (c_X3_copyRow l D cI cS cJ (b 1) 8 (S_keys w) (a 1) 8 (S_keys (sS_openMask u (S_openMask w))) H.size h) (cw_X2_49 hts (nw0 hK) (Nat.le_of_ble_eq_true rfl) (Nat.le_of_ble_eq_true rfl)) hK hP hD hS hA rfl hl.1 rfl (Nat.le_of_ble_eq_true rfl) dX2_become_16 ⟨Nat.zero_le _, Nat.zero_le _⟩ (fun f2 H locs h hP hD hS => ?_)
  have hP : va_P D vwCl (stW cI a (aS_keys (sS_openMask u (S_openMask w)) f2) ++ stW cI b w) H := vP_perm (hp32 _) hP
  have hD : va_D A (stW cI a (aS_keys (sS_openMask u (S_openMask w)) f2) ++ stW cI b w) := vD_perm (hp32 _) hD
  clear hp31 hp32
  refine lv_aload_n hx hb dX2_become_19 rfl (lv_at hl 0 rfl) ?_
  refine lv_aload_n hx hb dX2_become_20 rfl (lv_at hl 1 rfl) ?_
  refine va_get (D := D) (ci := 2) (v := .int (S_roadCount w)) (C := RX2) (T := TX2) (N := 12) hx hb hts inT2 hown hK.k hP 9 rfl rfl 2 (by decide) (hts _ q_57) (fun _ h9 => h9) rfl dX2_become_21 ?_
  refine va_put (D := D) (ci := 2) (v := .int (S_roadCount w)) (ty := .int) (C := RX2) (T := TX2) (N := 12) hx hb hts inT2 tyX2 tyX2_ok nmX2 hown hK.k hP hD hS 0 rfl rfl 2 (by decide) (hts _ q_57) (fun _ h9 => h9) rfl (by decide +kernel) rfl rfl (Nat.le_of_ble_eq_true rfl) dX2_become_24 (fun H locs hP hD hS => ?_)
  have hP : va_P D vwCl (stW cI a (sS_roadCount (aS_keys (sS_openMask u (S_openMask w)) f2) (S_roadCount w)) ++ stW cI b w) H := hP
  have hD : va_D A (stW cI a (sS_roadCount (aS_keys (sS_openMask u (S_openMask w)) f2) (S_roadCount w)) ++ stW cI b w) := hD
  refine lv_aload_n hx hb dX2_become_27 rfl (lv_at hl 1 rfl) ?_
  refine va_get (D := D) (ci := 2) (v := .ref (b 2)) (C := RX2) (T := TX2) (N := 12) hx hb hts inT2 hown hK.k hP 9 rfl rfl 3 (by decide) (hts _ q_59) (fun _ h9 => h9) rfl dX2_become_28 ?_
  refine lv_aload_n hx hb dX2_become_31 rfl (lv_at hl 0 rfl) ?_
  refine va_get (D := D) (ci := 2) (v := .ref (a 2)) (C := RX2) (T := TX2) (N := 12) hx hb hts inT2 hown hK.k hP 0 rfl rfl 3 (by decide) (hts _ q_59) (fun _ h9 => h9) rfl dX2_become_32 ?_
  obtain ⟨wr, hp61, hp62⟩ := perm_kk (stW cI a (sS_roadCount (aS_keys (sS_openMask u (S_openMask w)) f2) (S_roadCount w)) ++ stW cI b w) 11 2 (x := ((b 2), .inl (cI, 18, .inl (S_roadInns w)))) (y := ((a 2), .inl (cI, 18, .inl (S_roadInns (sS_roadCount (aS_keys (sS_openMask u (S_openMask w)) f2) (S_roadCount w)))))) rfl rfl (by decide)
  refine rwNv (wr := wr) (wf := fun f1 => [((b 2), .inl (cI, 18, .inl (S_roadInns w))), ((a 2), .inl (cI, 18, .inl f1))]) (As := [.ref (b 2), .ref (a 2)]) (rest := []) hp61 F (c_X3_copyRow l D cI cS cJ (b 2) 18 (S_roadInns w) (a 2) 18 (S_roadInns (sS_roadCount (aS_keys (sS_openMask u (S_openMask w)) f2) (S_roadCount w))) H.size h) (cw_X2_49 hts (nw0 hK) (Nat.le_of_ble_eq_true rfl) (Nat.le_of_ble_eq_true rfl)) hK hP hD hS hA rfl hl.1 rfl (Nat.le_of_ble_eq_true rfl) dX2_become_35 ⟨Nat.zero_le _, Nat.zero_le _⟩ (fun f5 H locs h hP hD hS => ?_)
  have hP : va_P D vwCl (stW cI a (aS_roadInns (sS_roadCount (aS_keys (sS_openMask u (S_openMask w)) f2) (S_roadCount w)) f5) ++ stW cI b w) H := vP_perm (hp62 _) hP
  have hD : va_D A (stW cI a (aS_roadInns (sS_roadCount (aS_keys (sS_openMask u (S_openMask w)) f2) (S_roadCount w)) f5) ++ stW cI b w) := vD_perm (hp62 _) hD
  clear hp61 hp62
  refine lv_aload_n hx hb dX2_become_38 rfl (lv_at hl 1 rfl) ?_
  refine va_get (D := D) (ci := 2) (v := .ref (b 3)) (C := RX2) (T := TX2) (N := 12) hx hb hts inT2 hown hK.k hP 9 rfl rfl 4 (by decide) (hts _ q_60) (fun _ h9 => h9) rfl dX2_become_39 ?_
  refine lv_aload_n hx hb dX2_become_42 rfl (lv_at hl 0 rfl) ?_
  refine va_get (D := D) (ci := 2) (v := .ref (a 3)) (C := RX2) (T := TX2) (N := 12) hx hb hts inT2 hown hK.k hP 0 rfl rfl 4 (by decide) (hts _ q_60) (fun _ h9 => h9) rfl dX2_become_43 ?_
  obtain ⟨wr, hp91, hp92⟩ := perm_kk (stW cI a (aS_roadInns (sS_roadCount (aS_keys (sS_openMask u (S_openMask w)) f2) (S_roadCount w)) f5) ++ stW cI b w) 12 3 (x := ((b 3), .inl (cI, 18, .inl (S_roadKeys w)))) (y := ((a 3), .inl (cI, 18, .inl (S_roadKeys (aS_roadInns (sS_roadCount (aS_keys (sS_openMask u (S_openMask w)) f2) (S_roadCount w)) f5))))) rfl rfl (by decide)
  refine rwNv (wr := wr) (wf := fun f1 => [((b 3), .inl (cI, 18, .inl (S_roadKeys w))), ((a 3), .inl (cI, 18, .inl f1))]) (As := [.ref (b 3), .ref (a 3)]) (rest := []) hp91 F (c_X3_copyRow l D cI cS cJ (b 3) 18 (S_roadKeys w) (a 3) 18 (S_roadKeys (aS_roadInns (sS_roadCount (aS_keys (sS_openMask u (S_openMask w)) f2) (S_roadCount w)) f5)) H.size h) (cw_X2_49 hts (nw0 hK) (Nat.le_of_ble_eq_true rfl) (Nat.le_of_ble_eq_true rfl)) hK hP hD hS hA rfl hl.1 rfl (Nat.le_of_ble_eq_true rfl) dX2_become_46 ⟨Nat.zero_le _, Nat.zero_le _⟩ (fun f8 H locs h hP hD hS => ?_)
  have hP : va_P D vwCl (stW cI a (aS_roadKeys (aS_roadInns (sS_roadCount (aS_keys (sS_openMask u (S_openMask w)) f2) (S_roadCount w)) f5) f8) ++ stW cI b w) H := vP_perm (hp92 _) hP
  have hD : va_D A (stW cI a (aS_roadKeys (aS_roadInns (sS_roadCount (aS_keys (sS_openMask u (S_openMask w)) f2) (S_roadCount w)) f5) f8) ++ stW cI b w) := vD_perm (hp92 _) hD
  clear hp91 hp92
  refine lv_aload_n hx hb dX2_become_49 rfl (lv_at hl 1 rfl) ?_
  refine va_get (D := D) (ci := 2) (v := .ref (b 4)) (C := RX2) (T := TX2) (N := 12) hx hb hts inT2 hown hK.k hP 9 rfl rfl 5 (by decide) (hts _ q_61) (fun _ h9 => h9) rfl dX2_become_50 ?_
  refine lv_aload_n hx hb dX2_become_53 rfl (lv_at hl 0 rfl) ?_
  refine va_get (D := D) (ci := 2) (v := .ref (a 4)) (C := RX2) (T := TX2) (N := 12) hx hb hts inT2 hown hK.k hP 0 rfl rfl 5 (by decide) (hts _ q_61) (fun _ h9 => h9) rfl dX2_become_54 ?_
  obtain ⟨wr, hp121, hp122⟩ := perm_kk (stW cI a (aS_roadKeys (aS_roadInns (sS_roadCount (aS_keys (sS_openMask u (S_openMask w)) f2) (S_roadCount w)) f5) f8) ++ stW cI b w) 13 4 (x := ((b 4), .inl (cI, 6, .inl (S_roadHalls w)))) (y := ((a 4), .inl (cI, 6, .inl (S_roadHalls (aS_roadKeys (aS_roadInns (sS_roadCount (aS_keys (sS_openMask u (S_openMask w)) f2) (S_roadCount w)) f5) f8))))) rfl rfl (by decide)
  refine rwNv (wr := wr) (wf := fun f1 => [((b 4), .inl (cI, 6, .inl (S_roadHalls w))), ((a 4), .inl (cI, 6, .inl f1))]) (As := [.ref (b 4), .ref (a 4)]) (rest := []) hp121 F (c_X3_copyRow l D cI cS cJ (b 4) 6 (S_roadHalls w) (a 4) 6 (S_roadHalls (aS_roadKeys (aS_roadInns (sS_roadCount (aS_keys (sS_openMask u (S_openMask w)) f2) (S_roadCount w)) f5) f8)) H.size h) (cw_X2_49 hts (nw0 hK) (Nat.le_of_ble_eq_true rfl) (Nat.le_of_ble_eq_true rfl)) hK hP hD hS hA rfl hl.1 rfl (Nat.le_of_ble_eq_true rfl) dX2_become_57 ⟨Nat.zero_le _, Nat.zero_le _⟩ (fun f11 H locs h hP hD hS => ?_)
  have hP : va_P D vwCl (stW cI a (aS_roadHalls (aS_roadKeys (aS_roadInns (sS_roadCount (aS_keys (sS_openMask u (S_openMask w)) f2) (S_roadCount w)) f5) f8) f11) ++ stW cI b w) H := vP_perm (hp122 _) hP
  have hD : va_D A (stW cI a (aS_roadHalls (aS_roadKeys (aS_roadInns (sS_roadCount (aS_keys (sS_openMask u (S_openMask w)) f2) (S_roadCount w)) f5) f8) f11) ++ stW cI b w) := vD_perm (hp122 _) hD
  clear hp121 hp122
  refine lv_aload_n hx hb dX2_become_60 rfl (lv_at hl 0 rfl) ?_
  refine lv_aload_n hx hb dX2_become_61 rfl (lv_at hl 1 rfl) ?_
  refine va_get (D := D) (ci := 2) (v := .int (S_envelopeCount w)) (C := RX2) (T := TX2) (N := 12) hx hb hts inT2 hown hK.k hP 9 rfl rfl 6 (by decide) (hts _ q_63) (fun _ h9 => h9) rfl dX2_become_62 ?_
  refine va_put (D := D) (ci := 2) (v := .int (S_envelopeCount w)) (ty := .int) (C := RX2) (T := TX2) (N := 12) hx hb hts inT2 tyX2 tyX2_ok nmX2 hown hK.k hP hD hS 0 rfl rfl 6 (by decide) (hts _ q_63) (fun _ h9 => h9) rfl (by decide +kernel) rfl rfl (Nat.le_of_ble_eq_true rfl) dX2_become_65 (fun H locs hP hD hS => ?_)
  have hP : va_P D vwCl (stW cI a (sS_envelopeCount (aS_roadHalls (aS_roadKeys (aS_roadInns (sS_roadCount (aS_keys (sS_openMask u (S_openMask w)) f2) (S_roadCount w)) f5) f8) f11) (S_envelopeCount w)) ++ stW cI b w) H := hP
  have hD : va_D A (stW cI a (sS_envelopeCount (aS_roadHalls (aS_roadKeys (aS_roadInns (sS_roadCount (aS_keys (sS_openMask u (S_openMask w)) f2) (S_roadCount w)) f5) f8) f11) (S_envelopeCount w)) ++ stW cI b w) := hD
  refine lv_aload_n hx hb dX2_become_68 rfl (lv_at hl 1 rfl) ?_
  refine va_get (D := D) (ci := 2) (v := .ref (b 5)) (C := RX2) (T := TX2) (N := 12) hx hb hts inT2 hown hK.k hP 9 rfl rfl 7 (by decide) (hts _ q_65) (fun _ h9 => h9) rfl dX2_become_69 ?_
  refine lv_aload_n hx hb dX2_become_72 rfl (lv_at hl 0 rfl) ?_
  refine va_get (D := D) (ci := 2) (v := .ref (a 5)) (C := RX2) (T := TX2) (N := 12) hx hb hts inT2 hown hK.k hP 0 rfl rfl 7 (by decide) (hts _ q_65) (fun _ h9 => h9) rfl dX2_become_73 ?_
  obtain ⟨wr, hp151, hp152⟩ := perm_kk (stW cI a (sS_envelopeCount (aS_roadHalls (aS_roadKeys (aS_roadInns (sS_roadCount (aS_keys (sS_openMask u (S_openMask w)) f2) (S_roadCount w)) f5) f8) f11) (S_envelopeCount w)) ++ stW cI b w) 14 5 (x := ((b 5), .inl (cI, 48, .inl (S_envelopeNumbers w)))) (y := ((a 5), .inl (cI, 48, .inl (S_envelopeNumbers (sS_envelopeCount (aS_roadHalls (aS_roadKeys (aS_roadInns (sS_roadCount (aS_keys (sS_openMask u (S_openMask w)) f2) (S_roadCount w)) f5) f8) f11) (S_envelopeCount w)))))) rfl rfl (by decide)
  refine rwNv (wr := wr) (wf := fun f1 => [((b 5), .inl (cI, 48, .inl (S_envelopeNumbers w))), ((a 5), .inl (cI, 48, .inl f1))]) (As := [.ref (b 5), .ref (a 5)]) (rest := []) hp151 F (c_X3_copyRow l D cI cS cJ (b 5) 48 (S_envelopeNumbers w) (a 5) 48 (S_envelopeNumbers (sS_envelopeCount (aS_roadHalls (aS_roadKeys (aS_roadInns (sS_roadCount (aS_keys (sS_openMask u (S_openMask w)) f2) (S_roadCount w)) f5) f8) f11) (S_envelopeCount w))) H.size h) (cw_X2_49 hts (nw0 hK) (Nat.le_of_ble_eq_true rfl) (Nat.le_of_ble_eq_true rfl)) hK hP hD hS hA rfl hl.1 rfl (Nat.le_of_ble_eq_true rfl) dX2_become_76 ⟨Nat.zero_le _, Nat.zero_le _⟩ (fun f14 H locs h hP hD hS => ?_)
  have hP : va_P D vwCl (stW cI a (aS_envelopeNumbers (sS_envelopeCount (aS_roadHalls (aS_roadKeys (aS_roadInns (sS_roadCount (aS_keys (sS_openMask u (S_openMask w)) f2) (S_roadCount w)) f5) f8) f11) (S_envelopeCount w)) f14) ++ stW cI b w) H := vP_perm (hp152 _) hP
  have hD : va_D A (stW cI a (aS_envelopeNumbers (sS_envelopeCount (aS_roadHalls (aS_roadKeys (aS_roadInns (sS_roadCount (aS_keys (sS_openMask u (S_openMask w)) f2) (S_roadCount w)) f5) f8) f11) (S_envelopeCount w)) f14) ++ stW cI b w) := vD_perm (hp152 _) hD
  clear hp151 hp152
  refine lv_aload_n hx hb dX2_become_79 rfl (lv_at hl 1 rfl) ?_
  refine va_get (D := D) (ci := 2) (v := .ref (b 6)) (C := RX2) (T := TX2) (N := 12) hx hb hts inT2 hown hK.k hP 9 rfl rfl 8 (by decide) (hts _ q_66) (fun _ h9 => h9) rfl dX2_become_80 ?_
  refine lv_aload_n hx hb dX2_become_83 rfl (lv_at hl 0 rfl) ?_
  refine va_get (D := D) (ci := 2) (v := .ref (a 6)) (C := RX2) (T := TX2) (N := 12) hx hb hts inT2 hown hK.k hP 0 rfl rfl 8 (by decide) (hts _ q_66) (fun _ h9 => h9) rfl dX2_become_84 ?_
  obtain ⟨wr, hp181, hp182⟩ := perm_kk (stW cI a (aS_envelopeNumbers (sS_envelopeCount (aS_roadHalls (aS_roadKeys (aS_roadInns (sS_roadCount (aS_keys (sS_openMask u (S_openMask w)) f2) (S_roadCount w)) f5) f8) f11) (S_envelopeCount w)) f14) ++ stW cI b w) 15 6 (x := ((b 6), .inl (cI, 4, .inl (S_letters w)))) (y := ((a 6), .inl (cI, 4, .inl (S_letters (aS_envelopeNumbers (sS_envelopeCount (aS_roadHalls (aS_roadKeys (aS_roadInns (sS_roadCount (aS_keys (sS_openMask u (S_openMask w)) f2) (S_roadCount w)) f5) f8) f11) (S_envelopeCount w)) f14))))) rfl rfl (by decide)
  refine rwNv (wr := wr) (wf := fun f1 => [((b 6), .inl (cI, 4, .inl (S_letters w))), ((a 6), .inl (cI, 4, .inl f1))]) (As := [.ref (b 6), .ref (a 6)]) (rest := []) hp181 F (c_X3_copyRow l D cI cS cJ (b 6) 4 (S_letters w) (a 6) 4 (S_letters (aS_envelopeNumbers (sS_envelopeCount (aS_roadHalls (aS_roadKeys (aS_roadInns (sS_roadCount (aS_keys (sS_openMask u (S_openMask w)) f2) (S_roadCount w)) f5) f8) f11) (S_envelopeCount w)) f14)) H.size h) (cw_X2_49 hts (nw0 hK) (Nat.le_of_ble_eq_true rfl) (Nat.le_of_ble_eq_true rfl)) hK hP hD hS hA rfl hl.1 rfl (Nat.le_of_ble_eq_true rfl) dX2_become_87 ⟨Nat.zero_le _, Nat.zero_le _⟩ (fun f17 H locs h hP hD hS => ?_)
  have hP : va_P D vwCl (stW cI a (aS_letters (aS_envelopeNumbers (sS_envelopeCount (aS_roadHalls (aS_roadKeys (aS_roadInns (sS_roadCount (aS_keys (sS_openMask u (S_openMask w)) f2) (S_roadCount w)) f5) f8) f11) (S_envelopeCount w)) f14) f17) ++ stW cI b w) H := vP_perm (hp182 _) hP
  have hD : va_D A (stW cI a (aS_letters (aS_envelopeNumbers (sS_envelopeCount (aS_roadHalls (aS_roadKeys (aS_roadInns (sS_roadCount (aS_keys (sS_openMask u (S_openMask w)) f2) (S_roadCount w)) f5) f8) f11) (S_envelopeCount w)) f14) f17) ++ stW cI b w) := vD_perm (hp182 _) hD
  clear hp181 hp182
  refine lv_aload_n hx hb dX2_become_90 rfl (lv_at hl 1 rfl) ?_
  refine va_get (D := D) (ci := 2) (v := .ref (b 7)) (C := RX2) (T := TX2) (N := 12) hx hb hts inT2 hown hK.k hP 9 rfl rfl 9 (by decide) (hts _ q_68) (fun _ h9 => h9) rfl dX2_become_91 ?_
  refine lv_aload_n hx hb dX2_become_94 rfl (lv_at hl 0 rfl) ?_
  refine va_get (D := D) (ci := 2) (v := .ref (a 7)) (C := RX2) (T := TX2) (N := 12) hx hb hts inT2 hown hK.k hP 0 rfl rfl 9 (by decide) (hts _ q_68) (fun _ h9 => h9) rfl dX2_become_95 ?_
  obtain ⟨wr, hp211, hp212⟩ := perm_kk (stW cI a (aS_letters (aS_envelopeNumbers (sS_envelopeCount (aS_roadHalls (aS_roadKeys (aS_roadInns (sS_roadCount (aS_keys (sS_openMask u (S_openMask w)) f2) (S_roadCount w)) f5) f8) f11) (S_envelopeCount w)) f14) f17) ++ stW cI b w) 16 7 (x := ((b 7), .inl (cI, 4, .inl (S_answerRoads w)))) (y := ((a 7), .inl (cI, 4, .inl (S_answerRoads (aS_letters (aS_envelopeNumbers (sS_envelopeCount (aS_roadHalls (aS_roadKeys (aS_roadInns (sS_roadCount (aS_keys (sS_openMask u (S_openMask w)) f2) (S_roadCount w)) f5) f8) f11) (S_envelopeCount w)) f14) f17))))) rfl rfl (by decide)
  refine rwNv (wr := wr) (wf := fun f1 => [((b 7), .inl (cI, 4, .inl (S_answerRoads w))), ((a 7), .inl (cI, 4, .inl f1))]) (As := [.ref (b 7), .ref (a 7)]) (rest := []) hp211 F (c_X3_copyRow l D cI cS cJ (b 7) 4 (S_answerRoads w) (a 7) 4 (S_answerRoads (aS_letters (aS_envelopeNumbers (sS_envelopeCount (aS_roadHalls (aS_roadKeys (aS_roadInns (sS_roadCount (aS_keys (sS_openMask u (S_openMask w)) f2) (S_roadCount w)) f5) f8) f11) (S_envelopeCount w)) f14) f17)) H.size h) (cw_X2_49 hts (nw0 hK) (Nat.le_of_ble_eq_true rfl) (Nat.le_of_ble_eq_true rfl)) hK hP hD hS hA rfl hl.1 rfl (Nat.le_of_ble_eq_true rfl) dX2_become_98 ⟨Nat.zero_le _, Nat.zero_le _⟩ (fun f20 H locs h hP hD hS => ?_)
  have hP : va_P D vwCl (stW cI a (aS_answerRoads (aS_letters (aS_envelopeNumbers (sS_envelopeCount (aS_roadHalls (aS_roadKeys (aS_roadInns (sS_roadCount (aS_keys (sS_openMask u (S_openMask w)) f2) (S_roadCount w)) f5) f8) f11) (S_envelopeCount w)) f14) f17) f20) ++ stW cI b w) H := vP_perm (hp212 _) hP
  have hD : va_D A (stW cI a (aS_answerRoads (aS_letters (aS_envelopeNumbers (sS_envelopeCount (aS_roadHalls (aS_roadKeys (aS_roadInns (sS_roadCount (aS_keys (sS_openMask u (S_openMask w)) f2) (S_roadCount w)) f5) f8) f11) (S_envelopeCount w)) f14) f17) f20) ++ stW cI b w) := vD_perm (hp212 _) hD
  clear hp211 hp212
  refine lv_aload_n hx hb dX2_become_101 rfl (lv_at hl 0 rfl) ?_
  refine lv_aload_n hx hb dX2_become_102 rfl (lv_at hl 1 rfl) ?_
  refine va_get (D := D) (ci := 2) (v := .int (S_answerGot w)) (C := RX2) (T := TX2) (N := 12) hx hb hts inT2 hown hK.k hP 9 rfl rfl 10 (by decide) (hts _ q_70) (fun _ h9 => h9) rfl dX2_become_103 ?_
  refine va_put (D := D) (ci := 2) (v := .int (S_answerGot w)) (ty := .int) (C := RX2) (T := TX2) (N := 12) hx hb hts inT2 tyX2 tyX2_ok nmX2 hown hK.k hP hD hS 0 rfl rfl 10 (by decide) (hts _ q_70) (fun _ h9 => h9) rfl (by decide +kernel) rfl rfl (Nat.le_of_ble_eq_true rfl) dX2_become_106 (fun H locs hP hD hS => ?_)
  have hP : va_P D vwCl (stW cI a (sS_answerGot (aS_answerRoads (aS_letters (aS_envelopeNumbers (sS_envelopeCount (aS_roadHalls (aS_roadKeys (aS_roadInns (sS_roadCount (aS_keys (sS_openMask u (S_openMask w)) f2) (S_roadCount w)) f5) f8) f11) (S_envelopeCount w)) f14) f17) f20) (S_answerGot w)) ++ stW cI b w) H := hP
  have hD : va_D A (stW cI a (sS_answerGot (aS_answerRoads (aS_letters (aS_envelopeNumbers (sS_envelopeCount (aS_roadHalls (aS_roadKeys (aS_roadInns (sS_roadCount (aS_keys (sS_openMask u (S_openMask w)) f2) (S_roadCount w)) f5) f8) f11) (S_envelopeCount w)) f14) f17) f20) (S_answerGot w)) ++ stW cI b w) := hD
  refine lv_aload_n hx hb dX2_become_109 rfl (lv_at hl 1 rfl) ?_
  refine va_get (D := D) (ci := 2) (v := .ref (b 8)) (C := RX2) (T := TX2) (N := 12) hx hb hts inT2 hown hK.k hP 9 rfl rfl 11 (by decide) (hts _ q_72) (fun _ h9 => h9) rfl dX2_become_110 ?_
  refine lv_aload_n hx hb dX2_become_113 rfl (lv_at hl 0 rfl) ?_
  refine va_get (D := D) (ci := 2) (v := .ref (a 8)) (C := RX2) (T := TX2) (N := 12) hx hb hts inT2 hown hK.k hP 0 rfl rfl 11 (by decide) (hts _ q_72) (fun _ h9 => h9) rfl dX2_become_114 ?_
  obtain ⟨wr, hp241, hp242⟩ := perm_kk (stW cI a (sS_answerGot (aS_answerRoads (aS_letters (aS_envelopeNumbers (sS_envelopeCount (aS_roadHalls (aS_roadKeys (aS_roadInns (sS_roadCount (aS_keys (sS_openMask u (S_openMask w)) f2) (S_roadCount w)) f5) f8) f11) (S_envelopeCount w)) f14) f17) f20) (S_answerGot w)) ++ stW cI b w) 17 8 (x := ((b 8), .inl (cI, 5, .inl (S_counts w)))) (y := ((a 8), .inl (cI, 5, .inl (S_counts (sS_answerGot (aS_answerRoads (aS_letters (aS_envelopeNumbers (sS_envelopeCount (aS_roadHalls (aS_roadKeys (aS_roadInns (sS_roadCount (aS_keys (sS_openMask u (S_openMask w)) f2) (S_roadCount w)) f5) f8) f11) (S_envelopeCount w)) f14) f17) f20) (S_answerGot w)))))) rfl rfl (by decide)
  refine rwNv (wr := wr) (wf := fun f1 => [((b 8), .inl (cI, 5, .inl (S_counts w))), ((a 8), .inl (cI, 5, .inl f1))]) (As := [.ref (b 8), .ref (a 8)]) (rest := []) hp241 F (c_X3_copyRow l D cI cS cJ (b 8) 5 (S_counts w) (a 8) 5 (S_counts (sS_answerGot (aS_answerRoads (aS_letters (aS_envelopeNumbers (sS_envelopeCount (aS_roadHalls (aS_roadKeys (aS_roadInns (sS_roadCount (aS_keys (sS_openMask u (S_openMask w)) f2) (S_roadCount w)) f5) f8) f11) (S_envelopeCount w)) f14) f17) f20) (S_answerGot w))) H.size h) (cw_X2_49 hts (nw0 hK) (Nat.le_of_ble_eq_true rfl) (Nat.le_of_ble_eq_true rfl)) hK hP hD hS hA rfl hl.1 rfl (Nat.le_of_ble_eq_true rfl) dX2_become_117 ⟨Nat.zero_le _, Nat.zero_le _⟩ (fun f23 H locs h hP hD hS => ?_)
  have hP : va_P D vwCl (stW cI a (aS_counts (sS_answerGot (aS_answerRoads (aS_letters (aS_envelopeNumbers (sS_envelopeCount (aS_roadHalls (aS_roadKeys (aS_roadInns (sS_roadCount (aS_keys (sS_openMask u (S_openMask w)) f2) (S_roadCount w)) f5) f8) f11) (S_envelopeCount w)) f14) f17) f20) (S_answerGot w)) f23) ++ stW cI b w) H := vP_perm (hp242 _) hP
  have hD : va_D A (stW cI a (aS_counts (sS_answerGot (aS_answerRoads (aS_letters (aS_envelopeNumbers (sS_envelopeCount (aS_roadHalls (aS_roadKeys (aS_roadInns (sS_roadCount (aS_keys (sS_openMask u (S_openMask w)) f2) (S_roadCount w)) f5) f8) f11) (S_envelopeCount w)) f14) f17) f20) (S_answerGot w)) f23) ++ stW cI b w) := vD_perm (hp242 _) hD
  clear hp241 hp242
  exact hQ h hP hD hS dX2_become_120
end
section
/-! worlds: the saved states, and the whole object -/
abbrev Sv : Type := (Nat → St) × Int32 × Int32
abbrev V_slots (v : Sv) : Nat → St := v.1
abbrev V_next (v : Sv) : Int32 := v.2.1
abbrev V_size (v : Sv) : Int32 := v.2.2
abbrev sV_slots (v : Sv) (x : Nat → St) : Sv := (x, V_next v, V_size v)
abbrev sV_next (v : Sv) (x : Int32) : Sv := (V_slots v, x, V_size v)
abbrev sV_size (v : Sv) (x : Int32) : Sv := (V_slots v, V_next v, x)
abbrev Ne : Type := St × Ot × Sv
abbrev N_now (u : Ne) : St := u.1
abbrev N_text (u : Ne) : Ot := u.2.1
abbrev N_saved (u : Ne) : Sv := u.2.2
abbrev sN_now (u : Ne) (x : St) : Ne := (x, N_text u, N_saved u)
abbrev sN_text (u : Ne) (x : Ot) : Ne := (N_now u, x, N_saved u)
abbrev sN_saved (u : Ne) (x : Sv) : Ne := (N_now u, N_text u, x)
/-- n States, at the addresses A 0, A 1, .. -/
def famW (cI : ClassId) (A : Nat → Nat → Nat) (S : Nat → St) : Nat → va_W
  | 0 => []
  | n + 1 => famW cI A S n ++ stW cI (A n) (S n)
/-- a row of n States -/
def slF (A : Nat → Nat → Nat) (n : Nat) : Nat → Option Nat := fun k => if k < n then some (A k 0) else none
/-- SavedStates: its cell h, its row q, the six States -/
def ssX (cI cS : ClassId) (h q : Nat) (A : Nat → Nat → Nat) (v : Sv) : va_W := [(h, .inr (1, [.ref q, .int (V_next v), .int (V_size v)])), (q, .inl (cS, 6, .inr (.inr (.inr (.inr (slF A 6))))))] ++ famW cI A (V_slots v) 6
def ssW (cI cS : ClassId) (G : Nat → Nat → Nat) (v : Sv) : va_W := ssX cI cS (G 2 1) (G 2 2) (fun k => G (3 + k)) v
/-- the object: its cell G 2 0, the State G 0, the OrderText G 1, the SavedStates -/
def neW (cI cS : ClassId) (G : Nat → Nat → Nat) (u : Ne) : va_W := [(G 2 0, .inr (3, [.ref (G 0 0), .ref (G 2 1), .ref (G 1 0)]))] ++ (stW cI (G 0) (N_now u) ++ (otW cI (G 1) (N_text u) ++ ssW cI cS G (N_saved u)))
def neRS (cI cS : ClassId) (G : Nat → Nat → Nat) (u : Ne) : va_W := [(G 2 0, .inr (3, [.ref (G 0 0), .ref (G 2 1), .ref (G 1 0)]))] ++ (otW cI (G 1) (N_text u) ++ ssW cI cS G (N_saved u))
def neRO (cI cS : ClassId) (G : Nat → Nat → Nat) (u : Ne) : va_W := [(G 2 0, .inr (3, [.ref (G 0 0), .ref (G 2 1), .ref (G 1 0)]))] ++ (stW cI (G 0) (N_now u) ++ ssW cI cS G (N_saved u))
def neRK (cI : ClassId) (G : Nat → Nat → Nat) (u : Ne) : va_W := [(G 2 0, .inr (3, [.ref (G 0 0), .ref (G 2 1), .ref (G 1 0)]))] ++ otW cI (G 1) (N_text u)
/-- the State beside the saved ones -/
def kW (cI cS : ClassId) (G : Nat → Nat → Nat) (q : Sv × St) : va_W := stW cI (G 0) q.2 ++ ssW cI cS G q.1
theorem pm1 {α : Type} (a b c : List α) : (a ++ (b ++ c)).Perm (b ++ (a ++ c)) := List.perm_append_comm_assoc a b c
theorem neS_f {cI cS : ClassId} {G : Nat → Nat → Nat} {u : Ne} : (neW cI cS G u).Perm (stW cI (G 0) (N_now u) ++ neRS cI cS G u) := pm1 _ _ _
theorem neS_b {cI cS : ClassId} {G : Nat → Nat → Nat} {u : Ne} (x : St) : (stW cI (G 0) x ++ neRS cI cS G u).Perm (neW cI cS G (sN_now u x)) := pm1 _ _ _
theorem neO_f {cI cS : ClassId} {G : Nat → Nat → Nat} {u : Ne} : (neW cI cS G u).Perm (otW cI (G 1) (N_text u) ++ neRO cI cS G u) :=
  (List.Perm.append_left _ (pm1 _ _ _)).trans (pm1 _ _ _)
theorem neO_b {cI cS : ClassId} {G : Nat → Nat → Nat} {u : Ne} (x : Ot) : (otW cI (G 1) x ++ neRO cI cS G u).Perm (neW cI cS G (sN_text u x)) :=
  (pm1 _ _ _).trans (List.Perm.append_left _ (pm1 _ _ _))
theorem pm2 {α : Type} (a b c d : List α) : (a ++ (b ++ (c ++ d))).Perm ((b ++ d) ++ (a ++ c)) :=
  (List.Perm.append_left a (List.Perm.append_left b List.perm_append_comm)).trans
    ((by rw [List.append_assoc b d]; exact (pm1 a b (d ++ c)).trans (List.Perm.append_left b (pm1 a d c)) : (a ++ (b ++ (d ++ c))).Perm ((b ++ d) ++ (a ++ c))))
theorem neK_f {cI cS : ClassId} {G : Nat → Nat → Nat} {u : Ne} : (neW cI cS G u).Perm (kW cI cS G (N_saved u, N_now u) ++ neRK cI G u) := pm2 _ _ _ _
theorem neK_b {cI cS : ClassId} {G : Nat → Nat → Nat} {u : Ne} (q : Sv × St) : (kW cI cS G q ++ neRK cI G u).Perm (neW cI cS G (sN_saved (sN_now u q.2) q.1)) := (pm2 _ _ _ _).symm
theorem neS {D : va_G} {H : Heap} {cI cS : ClassId} {G : Nat → Nat → Nat} {u : Ne} (h : va_P D vwCl (neW cI cS G u) H) : va_P D vwCl (stW cI (G 0) (N_now u)) H := vP_L (vP_perm neS_f h)
theorem neO {D : va_G} {H : Heap} {cI cS : ClassId} {G : Nat → Nat → Nat} {u : Ne} (h : va_P D vwCl (neW cI cS G u) H) : va_P D vwCl (otW cI (G 1) (N_text u)) H := vP_L (vP_perm neO_f h)
/-- one of the saved States, and the others -/
theorem fam_f {cI : ClassId} {A : Nat → Nat → Nat} {S : Nat → St} : ∀ (n k : Nat), k < n → ∃ r, (famW cI A S n).Perm (stW cI (A k) (S k) ++ r) ∧ ∀ x, (stW cI (A k) x ++ r).Perm (famW cI A (va_up S k x) n)
  | 0, k, h => absurd h (Nat.not_lt_zero k)
  | n + 1, k, h => by
    have keep : ∀ (n k : Nat) (x : St), n ≤ k → famW cI A (va_up S k x) n = famW cI A S n := by
      intro n
      induction n with
      | zero => intros; rfl
      | succ n ih =>
        intro k x hk
        show famW cI A (va_up S k x) n ++ stW cI (A n) (va_up S k x n) = famW cI A S n ++ stW cI (A n) (S n)
        rw [ih k x (by omega), show va_up S k x n = S n from va_up_ne _ _ (by omega)]
    by_cases hk : k = n
    · subst hk
      refine ⟨famW cI A S k, List.perm_append_comm, fun x => ?_⟩
      show (stW cI (A k) x ++ famW cI A S k).Perm (famW cI A (va_up S k x) k ++ stW cI (A k) (va_up S k x k))
      rw [keep k k x (Nat.le_refl k), show va_up S k x k = x from va_up_self _ _ _]
      exact List.perm_append_comm
    · obtain ⟨r, h1, h2⟩ := fam_f (cI := cI) (A := A) (S := S) n k (by omega)
      refine ⟨r ++ stW cI (A n) (S n), ?_, fun x => ?_⟩
      · show (famW cI A S n ++ stW cI (A n) (S n)).Perm _
        rw [← List.append_assoc]
        exact h1.append_right _
      · show _
        rw [← List.append_assoc]
        refine ((h2 x).append_right _).trans ?_
        show (famW cI A (va_up S k x) n ++ stW cI (A n) (S n)).Perm (famW cI A (va_up S k x) n ++ stW cI (A n) (va_up S k x n))
        rw [show va_up S k x n = S n from va_up_ne _ _ (by omega)]
end
section
/-! SavedStates: one of its States beside the others -/
theorem kW_f {cI cS : ClassId} {G : Nat → Nat → Nat} (q : Sv × St) {k : Nat} (hk : k < 6) : ∃ wr, (kW cI cS G q).Perm ((stW cI (G (3 + k)) (V_slots q.1 k) ++ stW cI (G 0) q.2) ++ wr) ∧ ∀ x, ((stW cI (G (3 + k)) x ++ stW cI (G 0) q.2) ++ wr).Perm (kW cI cS G (sV_slots q.1 (va_up (V_slots q.1) k x), q.2)) := by
  obtain ⟨r, h1, h2⟩ := fam_f (cI := cI) (A := fun k => G (3 + k)) (S := V_slots q.1) 6 k hk
  have key : ∀ (a b c d : List (Nat × va_E)), (a ++ (b ++ (c ++ d))).Perm ((c ++ a) ++ (b ++ d)) := fun a b c d =>
    (List.Perm.append_left a (pm1 b c d)).trans (by rw [List.append_assoc c a]; exact pm1 a c (b ++ d))
  refine ⟨[(G 2 1, .inr (1, [.ref (G 2 2), .int (V_next q.1), .int (V_size q.1)])), (G 2 2, .inl (cS, 6, .inr (.inr (.inr (.inr (slF (fun k => G (3 + k)) 6))))))] ++ r, ?_, fun x => ?_⟩
  · exact (List.Perm.append_left _ (List.Perm.append_left _ h1)).trans (key _ _ _ _)
  · exact (key _ _ _ _).symm.trans (List.Perm.append_left _ (List.Perm.append_left _ (h2 x)))
theorem kW_g {cI cS : ClassId} {G : Nat → Nat → Nat} (q : Sv × St) {k : Nat} (hk : k < 6) : ∃ wr, (kW cI cS G q).Perm ((stW cI (G 0) q.2 ++ stW cI (G (3 + k)) (V_slots q.1 k)) ++ wr) ∧ ∀ x, ((stW cI (G 0) x ++ stW cI (G (3 + k)) (V_slots q.1 k)) ++ wr).Perm (kW cI cS G (q.1, x)) := by
  obtain ⟨r, h1, h2⟩ := fam_f (cI := cI) (A := fun k => G (3 + k)) (S := V_slots q.1) 6 k hk
  have key : ∀ (a b c d : List (Nat × va_E)), (a ++ (b ++ (c ++ d))).Perm ((a ++ c) ++ (b ++ d)) := fun a b c d => by
    rw [List.append_assoc a c]
    exact List.Perm.append_left a (pm1 b c d)
  refine ⟨[(G 2 1, .inr (1, [.ref (G 2 2), .int (V_next q.1), .int (V_size q.1)])), (G 2 2, .inl (cS, 6, .inr (.inr (.inr (.inr (slF (fun k => G (3 + k)) 6))))))] ++ r, ?_, fun x => ?_⟩
  · exact (List.Perm.append_left _ (List.Perm.append_left _ h1)).trans (key _ _ _ _)
  · exact (key _ _ _ _).symm.trans (List.Perm.append_left _ (List.Perm.append_left _ h1.symm))
section
variable {p : Program} {l : Launch} {e : Env} {R : Room} {s : State} {m : MethodId} {args : Array Value} {below : List Frame} {meth : Method} {c : Code} {H : Heap} {locs : List Loc} {cells slots : Nat} {Q : State → Prop} {D : va_G} {T : List (ClassId × FieldType)} {wc : va_W} {pc : Nat} {ls : Array Slot} {rest st0 : List Value}
variable {y : MethodName} {bytes cc : ByteArray} {maxL nL n index : Nat} {ret : Option FieldType} {rm : Room} {own C : String} {b : Addr} {As : List Value} {W9 : List Cond} {v : Value}
/-- a call that changes nothing and answers the reference v -/
theorem roVr (F : CallFix p m c cc nL s args wsT own) (hM : Met l y W9 rm (va_Pc (.ref b :: As) (roP D T wc H)) (fun _ _ oc t => oc = .returned (some v) ∧ t.heap = H) 0 0 nF) (cw : CallW R s args own C index y bytes maxL ret W9 rm 0 0 n)
    (hK : KK D T s) (hP : va_P D vwCl wc H) (hr : ∃ cell : Cell, H[b]? = some cell ∧ cell.vm.isStatics = false ∧ s.vm.findClass C = some cell.cls) (hn : As.length = n) (hsz : ls.size = nL) (hst : st0 = As.reverse ++ .ref b :: rest) (hW : (rest.map fun v => v.category).sum ≤ 8) (hdg : decode cc pc = .ok (.invokevirtual index, 3)) (hf : cells ≤ R.cells ∧ slots ≤ R.slots)
    (kk : W p l e R s m args below meth c H locs cells slots Q (F0 m (pc + 3) ls (v :: rest))) : W p l e R s m args below meth c H locs cells slots Q (F0 m pc ls st0) := by
  have hr := va_runV (p := p) (l := l) (e := e) (R := R) (s := s) (m := m) (args := args) (below := below) (meth := meth) (c := c) (H := H) (locs := locs) (cells := cells) (slots := slots) (g := F0 m pc ls st0) F hM cw ⟨blindRO, hr, (preRO hK hP).2⟩ rfl hn hsz hst (lv_room hW) hdg hf
  intro T hT X
  obtain ⟨w, st₀, t, T', L, h0, X', hL, e1, e2, ⟨hv, hb⟩, st⟩ := hr T hT X
  cases hv
  have hLn : L = [] := List.eq_nil_iff_forall_not_mem.mpr (fun q hq => hL q hq)
  subst hLn
  rw [List.append_nil, Nat.add_zero, Nat.add_zero] at X'
  obtain ⟨t2, a1, b1⟩ := kk T' (e1.trans hb) X'
  exact ⟨t2, st t2 a1, b1⟩
end
abbrev rm_X1_slotAt : Room := { frames := 0, cells := 0, slots := 0, locals := 0 }
abbrev rm_X1_keep : Room := { frames := 3, cells := 0, slots := 0, locals := 102 }
abbrev rm_X1_giveBack : Room := { frames := 3, cells := 0, slots := 0, locals := 102 }
theorem q_1 : Cond.selects RX1 yX1_slotAt yX1_slotAt ∈ wsT := tw 1 (by decide +kernel) rfl
theorem q_26 : Cond.initialized RX1 ∈ wsT := tw 26 (by decide +kernel) rfl
theorem q_109 : Cond.fieldLink RX1 11 "NestedEnvelopes$SavedStates" "slots" "[LNestedEnvelopes$State;" ∈ wsT := tw 109 (by decide +kernel) rfl
theorem q_110 : Cond.fieldLink RX1 18 "NestedEnvelopes$SavedStates" "next" "I" ∈ wsT := tw 110 (by decide +kernel) rfl
theorem q_111 : Cond.fieldLink RX1 30 "NestedEnvelopes$SavedStates" "size" "I" ∈ wsT := tw 111 (by decide +kernel) rfl
theorem q_222 : Cond.methodLink RX1 22 yX1_slotAt ∈ wsT := tw 222 (by decide +kernel) rfl
theorem q_224 : Cond.instanceMethod yX1_slotAt ∈ wsT := tw 224 (by decide +kernel) rfl
theorem q_225 : Cond.code yX1_slotAt cX1_slotAt 2 (some (.object RX2)) ∈ wsT := tw 225 (by decide +kernel) rfl
theorem q_226 : Cond.methodLink RX1 26 yX2_become ∈ wsT := tw 226 (by decide +kernel) rfl
theorem q_227 : Cond.instanceMethod yX2_become ∈ wsT := tw 227 (by decide +kernel) rfl
theorem q_228 : Cond.selects RX2 yX2_become yX2_become ∈ wsT := tw 228 (by decide +kernel) rfl
theorem q_229 : Cond.code yX2_become cX2_become 2 none ∈ wsT := tw 229 (by decide +kernel) rfl
theorem q_391 : Cond.methodLink RX1 33 yJ9_min_7cf53 ∈ wsT := tw 391 (by decide +kernel) rfl
theorem cw_X1_22 {R : Room} {s : State} {args : Array Value} (hts : ∀ w ∈ wsT, w.before args s = true) (hf : 0 + 1 ≤ R.frames) (hl : 8 + (2 + 11) + 0 ≤ R.locals) : CallW R s args RX1 RX1 22 yX1_slotAt cX1_slotAt 2 (some (.object RX2)) (wsA yX1_slotAt cX1_slotAt 2 (some (.object RX2))) rm_X1_slotAt 0 0 1 := cwAV 1 hts q_222 q_224 q_1 q_26 q_225 rfl rfl (by decide +kernel) ⟨hf, hl⟩
theorem cw_X1_26 {R : Room} {s : State} {args : Array Value} (hts : ∀ w ∈ wsT, w.before args s = true) (hf : 2 + 1 ≤ R.frames) (hl : 8 + (2 + 11) + 81 ≤ R.locals) : CallW R s args RX1 RX2 26 yX2_become cX2_become 2 none (wsA yX2_become cX2_become 2 none) rm_X2_become 0 0 1 := cwAV 1 hts q_226 q_227 q_228 q_24 q_229 rfl rfl (by decide +kernel) ⟨hf, hl⟩
theorem cw_X1_33 {R : Room} {s : State} {args : Array Value} (hts : ∀ w ∈ wsT, w.before args s = true) (hf : 0 + 1 ≤ R.frames) (hl : 8 + (2 + 11) + 0 ≤ R.locals) : CallB R s args RX1 33 yJ9_min_7cf53 cJ9_min_7cf53 2 (some .int) (wsA yJ9_min_7cf53 cJ9_min_7cf53 2 (some .int)) rm_J9_min_7cf53 0 0 2 ∧ (Cond.static yJ9_min_7cf53).before args s = true := cwAS 2 hts q_391 q_234 q_34 q_235 rfl rfl (by decide +kernel) ⟨hf, hl⟩
set_option maxHeartbeats 4000000 in
set_option maxRecDepth 100000 in
theorem c_X1_slotAt (l : Launch) (D : va_G) (cI cS cJ : ClassId) (G : Nat → Nat → Nat) (q : Sv × St) (H0 : Heap) (p1 : Int32) {k : Nat} (hk : k < 6) (he : p1 = nI k) : Met l yX1_slotAt (wsA yX1_slotAt cX1_slotAt 2 (some (.object RX2))) rm_X1_slotAt (va_Pc [.ref (G 2 1), .int p1] (roP D (tysA cI cS cJ) (kW cI cS G q) H0)) (fun _ _ oc t => oc = .returned (some (.ref (G (3 + k) 0))) ∧ t.heap = H0) 0 0 nF := by
  refine va_MetF (cc := cX1_slotAt) (maxL := 2) (ret := some (.object RX2)) (by decide +kernel) rfl ?_
  intro p e s m args below meth c s₁ B hml hv
  obtain ⟨rfl, hH, hP, hK⟩ := hv
  have hts : ∀ w ∈ wsT, w.before ([.ref (G 2 1), .int p1] : List Value).toArray s = true := fun w h => atoms_spec (ws := wsA yX1_slotAt cX1_slotAt 2 (some (.object RX2))) B.pre w (List.mem_cons_of_mem _ h)
  have hl := lv_entry [.ref (G 2 1), .int p1] (n := 2) (Nat.le_of_ble_eq_true rfl)
  rw [lg_entry_eq]
  subst hH
  have hx := B.exec
  have hb := B.bytes
  have hown : s.vm.findClass RX1 = some m.cls := findClass_of_methodNamed B.named
  have hl : lv_has _ 2 [(0, .ref (G 2 1)), (1, .int p1)] := hl
  subst he
  refine lv_iload_n hx hb dX1_slotAt_0 rfl (lv_at hl 1 rfl) ?_
  refine lv_if_lt (tgt := 22) hx hb dX1_slotAt_1 (by decide) (fun c1 => absurd c1 (nI_pos (by omega))) (fun _ => ?_)
  refine lv_iload_n hx hb dX1_slotAt_4 rfl (lv_at hl 1 rfl) ?_
  refine lv_aload_n hx hb dX1_slotAt_5 rfl (lv_at hl 0 rfl) ?_
  refine va_get (D := D) (ci := 1) (v := .ref (G 2 2)) (C := RX1) (T := TX1) (N := 3) hx hb hts inT1 hown hK.k hP 9 rfl rfl 0 (by decide) (hts _ q_109) (fun _ h9 => h9) rfl dX1_slotAt_6 ?_
  refine va_alen (v := nI 6) hx hb hK.k hP 10 1 rfl rfl rfl dX1_slotAt_9 ?_
  refine lv_icmp_ge (tgt := 22) hx hb dX1_slotAt_10 (by decide) (fun c1 => absurd c1 (nI_ge hk (by decide))) (fun _ => ?_)
  refine lv_aload_n hx hb dX1_slotAt_13 rfl (lv_at hl 0 rfl) ?_
  refine va_get (D := D) (ci := 1) (v := .ref (G 2 2)) (C := RX1) (T := TX1) (N := 3) hx hb hts inT1 hown hK.k hP 9 rfl rfl 0 (by decide) (hts _ q_109) (fun _ h9 => h9) rfl dX1_slotAt_14 ?_
  refine lv_iload_n hx hb dX1_slotAt_17 rfl (lv_at hl 1 rfl) ?_
  refine va_aldq hx hb hK.k hP 10 1 rfl rfl (vp_in_nI hk (by decide)) dX1_slotAt_18 ?_
  refine lv_goto (tgt := 23) hx hb dX1_slotAt_19 (by decide) ?_
  have e1 : va_rf (slF (fun k => G (3 + k)) 6 (nI k).toNatClampNeg) = .ref (G (3 + k) 0) := by rw [nI_clamp (by omega)]; simp [slF, hk, va_rf]
  exact W.aret hx hb B.returns (Or.inl ⟨_, rfl⟩) (Or.inr ⟨_, e1⟩) (fun t ht hW => ⟨by rw [e1], ht⟩) (fun q h => nomatch h) dX1_slotAt_23 B.notSynchronized
def wp_X1_keep (u : (Sv × St))  (post : (Sv × St) → Prop) : Prop :=
  ∃ k1 : Nat, k1 < 6 ∧ (V_next u.1) = nI k1 ∧ (wp_X2_become (V_slots u.1 k1) u.2 (fun x5 => jn (fun (x6 : Int32) => wp_J9_min_7cf53 ((V_size ((sV_next (sV_slots u.1 (va_up (V_slots u.1) k1 x5), u.2).1 x6, (sV_slots u.1 (va_up (V_slots u.1) k1 x5), u.2).2).1)) + (1 : Int32)) (6 : Int32) (fun r10 => post (sV_size (sV_next (sV_slots u.1 (va_up (V_slots u.1) k1 x5), u.2).1 x6, (sV_slots u.1 (va_up (V_slots u.1) k1 x5), u.2).2).1 r10, (sV_next (sV_slots u.1 (va_up (V_slots u.1) k1 x5), u.2).1 x6, (sV_slots u.1 (va_up (V_slots u.1) k1 x5), u.2).2).2))) (fun (J7 : Int32 → Prop) => ((6 : Int32) ≤ ((V_next ((sV_slots u.1 (va_up (V_slots u.1) k1 x5), u.2).1)) + (1 : Int32)) → J7 (0 : Int32)) ∧ (¬ (6 : Int32) ≤ ((V_next ((sV_slots u.1 (va_up (V_slots u.1) k1 x5), u.2).1)) + (1 : Int32)) → J7 ((V_next ((sV_slots u.1 (va_up (V_slots u.1) k1 x5), u.2).1)) + (1 : Int32))))))
set_option maxHeartbeats 4000000 in
set_option maxRecDepth 100000 in
theorem c_X1_keep (l : Launch) (D : va_G) (cI cS cJ : ClassId) (G : Nat → Nat → Nat) (u : (Sv × St)) (sz : Nat)  {post : (Sv × St) → Prop} (h : wp_X1_keep u post) : Met l yX1_keep (wsA yX1_keep cX1_keep 3 none) rm_X1_keep (va_Pc [.ref (G 2 1), .ref (G 0 0)] (rwP D (tysA cI cS cJ) (kW cI cS G u) sz)) (va_Qv post (fun u9 t => va_P D vwCl ((kW cI cS G) u9) t.heap ∧ va_D (va_A (kW cI cS G u) sz) ((kW cI cS G) u9)) (va_A (kW cI cS G u) sz)) 0 0 (va_A (kW cI cS G u) sz) := by
  refine mkRWv (wf := (kW cI cS G)) (by decide +kernel) (Nat.le_of_ble_eq_true rfl) (fun {p e s m args below meth c Q ls A H0 H locs} hx hb F hts hown hin hK hP hD hS hA hl hQ => ?_)
  have hown : s.vm.findClass RX1 = some m.cls := hown
  have F : CallFix p m c cX1_keep 3 s args wsT RX1 := F
  have hl : lv_has ls 3 [(0, .ref (G 2 1)), (1, .ref (G 0 0))] := hl
  unfold wp_X1_keep at h
  refine lv_aload_n hx hb dX1_keep_0 rfl (lv_at hl 0 rfl) ?_
  refine lv_aload_n hx hb dX1_keep_1 rfl (lv_at hl 0 rfl) ?_
  refine va_get (D := D) (ci := 1) (v := .int (V_next u.1)) (C := RX1) (T := TX1) (N := 3) hx hb hts inT1 hown hK.k hP 9 rfl rfl 1 (by decide) (hts _ q_110) (fun _ h9 => h9) rfl dX1_keep_2 ?_
  obtain ⟨k1, hk2, he3, h⟩ := h
  refine roVr (As := [.int (V_next u.1)]) (rest := []) F (c_X1_slotAt l D cI cS cJ G u H (V_next u.1) hk2 he3) (cw_X1_22 hts (Nat.le_of_ble_eq_true rfl) (Nat.le_of_ble_eq_true rfl)) hK hP (recv (ci := 1) (k0 := 9) hK hP rfl rfl) rfl hl.1 rfl (Nat.le_of_ble_eq_true rfl) dX1_keep_5 ⟨Nat.zero_le _, Nat.zero_le _⟩ ?_
  refine lv_astore_n (lv' := [(2, .ref (G (3 + k1) 0)), (0, .ref (G 2 1)), (1, .ref (G 0 0))]) hx hb dX1_keep_8 rfl hl (by decide) rfl (fun ls hl => ?_)
  refine lv_aload_n hx hb dX1_keep_9 rfl (lv_at hl 0 rfl) ?_
  refine lv_ifnull hx hb dX1_keep_10 ?_
  refine lv_aload_n hx hb dX1_keep_13 rfl (lv_at hl 0 rfl) ?_
  refine lv_aload_n hx hb dX1_keep_14 rfl (lv_at hl 2 rfl) ?_
  obtain ⟨wr, hp41, hp42⟩ := kW_f (cI := cI) (cS := cS) (G := G) u hk2
  refine rwVv (wr := wr) (wf := fun x9 => stW cI (G (3 + k1)) x9 ++ stW cI (G 0) u.2) (As := [.ref (G 0 0)]) (rest := []) hp41 F (c_X2_become l D cI cS cJ (G (3 + k1)) (V_slots u.1 k1) (G 0) u.2 H.size h) (cw_X1_26 hts (Nat.le_of_ble_eq_true rfl) (Nat.le_of_ble_eq_true rfl)) hK hP hD hS hA (recv (ci := 2) (k0 := 0) hK (vP_L (vP_perm hp41 hP)) rfl rfl) rfl hl.1 rfl (Nat.le_of_ble_eq_true rfl) dX1_keep_15 ⟨Nat.zero_le _, Nat.zero_le _⟩ (fun x5 H locs h hP hD hS => ?_)
  have hP : va_P D vwCl (kW cI cS G (sV_slots u.1 (va_up (V_slots u.1) k1 x5), u.2)) H := vP_perm (hp42 _) hP
  have hD : va_D A (kW cI cS G (sV_slots u.1 (va_up (V_slots u.1) k1 x5), u.2)) := vD_perm (hp42 _) hD
  refine lv_aload_n hx hb dX1_keep_18 rfl (lv_at hl 1 rfl) ?_
  refine lv_aload_n hx hb dX1_keep_19 rfl (lv_at hl 1 rfl) ?_
  refine va_get (D := D) (ci := 1) (v := .int (V_next ((sV_slots u.1 (va_up (V_slots u.1) k1 x5), u.2).1))) (C := RX1) (T := TX1) (N := 3) hx hb hts inT1 hown hK.k hP 9 rfl rfl 1 (by decide) (hts _ q_110) (fun _ h9 => h9) rfl dX1_keep_20 ?_
  refine lv_iconst (v := (1 : Int32)) hx hb dX1_keep_23 (by decide) ?_
  refine lv_iadd hx hb dX1_keep_24 ?_
  refine lv_bipush (v := (6 : Int32)) hx hb dX1_keep_25 (by decide) ?_
  refine jn_e h (fun J7 e9 h => ?_)
  have w8 : ∀ (x6 : Int32) (ls : Array Slot) (H : Heap) (locs : List Loc), lv_has ls 3 [(0, .ref (G 2 1))] → va_P D vwCl (kW cI cS G (sV_slots u.1 (va_up (V_slots u.1) k1 x5), u.2)) H → va_D A (kW cI cS G (sV_slots u.1 (va_up (V_slots u.1) k1 x5), u.2)) → va_S A H0 H locs → J7 x6 → W p l e rm_X1_keep s m args below meth c H locs 0 0 Q (F0 m 40 ls [.int x6, .ref (G 2 1)]) := by
    intro x6 ls H locs hl hP hD hS h
    subst e9
    refine va_put (D := D) (ci := 1) (v := .int x6) (ty := .int) (C := RX1) (T := TX1) (N := 3) hx hb hts inT1 tyX1 tyX1_ok nmX1 hown hK.k hP hD hS 9 rfl rfl 1 (by decide) (hts _ q_110) (fun _ h9 => h9) rfl (by decide +kernel) rfl rfl (Nat.le_of_ble_eq_true rfl) dX1_keep_40 (fun H locs hP hD hS => ?_)
    have hP : va_P D vwCl (kW cI cS G (sV_next (sV_slots u.1 (va_up (V_slots u.1) k1 x5), u.2).1 x6, (sV_slots u.1 (va_up (V_slots u.1) k1 x5), u.2).2)) H := hP
    have hD : va_D A (kW cI cS G (sV_next (sV_slots u.1 (va_up (V_slots u.1) k1 x5), u.2).1 x6, (sV_slots u.1 (va_up (V_slots u.1) k1 x5), u.2).2)) := hD
    refine lv_aload_n hx hb dX1_keep_43 rfl (lv_at hl 0 rfl) ?_
    refine lv_aload_n hx hb dX1_keep_44 rfl (lv_at hl 0 rfl) ?_
    refine va_get (D := D) (ci := 1) (v := .int (V_size ((sV_next (sV_slots u.1 (va_up (V_slots u.1) k1 x5), u.2).1 x6, (sV_slots u.1 (va_up (V_slots u.1) k1 x5), u.2).2).1))) (C := RX1) (T := TX1) (N := 3) hx hb hts inT1 hown hK.k hP 9 rfl rfl 2 (by decide) (hts _ q_111) (fun _ h9 => h9) rfl dX1_keep_45 ?_
    refine lv_iconst (v := (1 : Int32)) hx hb dX1_keep_48 (by decide) ?_
    refine lv_iadd hx hb dX1_keep_49 ?_
    refine lv_bipush (v := (6 : Int32)) hx hb dX1_keep_50 (by decide) ?_
    refine roSi (As := [.int ((V_size ((sV_next (sV_slots u.1 (va_up (V_slots u.1) k1 x5), u.2).1 x6, (sV_slots u.1 (va_up (V_slots u.1) k1 x5), u.2).2).1)) + (1 : Int32)), .int (6 : Int32)]) (rest := [.ref (G 2 1)]) F (c_J9_min_7cf53 l D cI cS cJ H ((V_size ((sV_next (sV_slots u.1 (va_up (V_slots u.1) k1 x5), u.2).1 x6, (sV_slots u.1 (va_up (V_slots u.1) k1 x5), u.2).2).1)) + (1 : Int32)) (6 : Int32) h) (cw_X1_33 hts (Nat.le_of_ble_eq_true rfl) (Nat.le_of_ble_eq_true rfl)) hK vP_nil rfl hl.1 rfl (Nat.le_of_ble_eq_true rfl) dX1_keep_52 ⟨Nat.zero_le _, Nat.zero_le _⟩ (fun r10 h => ?_)
    refine va_put (D := D) (ci := 1) (v := .int r10) (ty := .int) (C := RX1) (T := TX1) (N := 3) hx hb hts inT1 tyX1 tyX1_ok nmX1 hown hK.k hP hD hS 9 rfl rfl 2 (by decide) (hts _ q_111) (fun _ h9 => h9) rfl (by decide +kernel) rfl rfl (Nat.le_of_ble_eq_true rfl) dX1_keep_55 (fun H locs hP hD hS => ?_)
    have hP : va_P D vwCl (kW cI cS G (sV_size (sV_next (sV_slots u.1 (va_up (V_slots u.1) k1 x5), u.2).1 x6, (sV_slots u.1 (va_up (V_slots u.1) k1 x5), u.2).2).1 r10, (sV_next (sV_slots u.1 (va_up (V_slots u.1) k1 x5), u.2).1 x6, (sV_slots u.1 (va_up (V_slots u.1) k1 x5), u.2).2).2)) H := hP
    have hD : va_D A (kW cI cS G (sV_size (sV_next (sV_slots u.1 (va_up (V_slots u.1) k1 x5), u.2).1 x6, (sV_slots u.1 (va_up (V_slots u.1) k1 x5), u.2).2).1 r10, (sV_next (sV_slots u.1 (va_up (V_slots u.1) k1 x5), u.2).1 x6, (sV_slots u.1 (va_up (V_slots u.1) k1 x5), u.2).2).2)) := hD
    exact hQ h hP hD hS dX1_keep_58
  clear e9
  refine lv_icmp_ge (tgt := 39) hx hb dX1_keep_27 (by decide) (fun c11 => ?_) (fun c11 => ?_)
  · replace h := h.1 c11
    refine lv_iconst (v := (0 : Int32)) hx hb dX1_keep_39 (by decide) ?_
    exact w8 (0 : Int32) _ _ _ (lv_sub hl [1] rfl) hP hD hS h
  · replace h := h.2 c11
    refine lv_aload_n hx hb dX1_keep_30 rfl (lv_at hl 1 rfl) ?_
    refine va_get (D := D) (ci := 1) (v := .int (V_next ((sV_slots u.1 (va_up (V_slots u.1) k1 x5), u.2).1))) (C := RX1) (T := TX1) (N := 3) hx hb hts inT1 hown hK.k hP 9 rfl rfl 1 (by decide) (hts _ q_110) (fun _ h9 => h9) rfl dX1_keep_31 ?_
    refine lv_iconst (v := (1 : Int32)) hx hb dX1_keep_34 (by decide) ?_
    refine lv_iadd hx hb dX1_keep_35 ?_
    refine lv_goto (tgt := 40) hx hb dX1_keep_36 (by decide) ?_
    exact w8 ((V_next ((sV_slots u.1 (va_up (V_slots u.1) k1 x5), u.2).1)) + (1 : Int32)) _ _ _ (lv_sub hl [1] rfl) hP hD hS h

def wp_X1_giveBack (u : (Sv × St))  (post : (Sv × St) → Prop) : Prop :=
  jn (fun (x1 : Int32) => ∃ k5 : Nat, k5 < 6 ∧ (V_next ((sV_size (sV_next u.1 x1, u.2).1 ((V_size ((sV_next u.1 x1, u.2).1)) - (1 : Int32)), (sV_next u.1 x1, u.2).2).1)) = nI k5 ∧ (wp_X2_become (sV_size (sV_next u.1 x1, u.2).1 ((V_size ((sV_next u.1 x1, u.2).1)) - (1 : Int32)), (sV_next u.1 x1, u.2).2).2 (V_slots (sV_size (sV_next u.1 x1, u.2).1 ((V_size ((sV_next u.1 x1, u.2).1)) - (1 : Int32)), (sV_next u.1 x1, u.2).2).1 k5) (fun x9 => post ((sV_size (sV_next u.1 x1, u.2).1 ((V_size ((sV_next u.1 x1, u.2).1)) - (1 : Int32)), (sV_next u.1 x1, u.2).2).1, x9)))) (fun (J2 : Int32 → Prop) => ((V_next u.1) ≤ 0 → J2 (5 : Int32)) ∧ (¬ (V_next u.1) ≤ 0 → J2 ((V_next u.1) - (1 : Int32))))
set_option maxHeartbeats 4000000 in
set_option maxRecDepth 100000 in
theorem c_X1_giveBack (l : Launch) (D : va_G) (cI cS cJ : ClassId) (G : Nat → Nat → Nat) (u : (Sv × St)) (sz : Nat)  {post : (Sv × St) → Prop} (h : wp_X1_giveBack u post) : Met l yX1_giveBack (wsA yX1_giveBack cX1_giveBack 3 none) rm_X1_giveBack (va_Pc [.ref (G 2 1), .ref (G 0 0)] (rwP D (tysA cI cS cJ) (kW cI cS G u) sz)) (va_Qv post (fun u9 t => va_P D vwCl ((kW cI cS G) u9) t.heap ∧ va_D (va_A (kW cI cS G u) sz) ((kW cI cS G) u9)) (va_A (kW cI cS G u) sz)) 0 0 (va_A (kW cI cS G u) sz) := by
  refine mkRWv (wf := (kW cI cS G)) (by decide +kernel) (Nat.le_of_ble_eq_true rfl) (fun {p e s m args below meth c Q ls A H0 H locs} hx hb F hts hown hin hK hP hD hS hA hl hQ => ?_)
  have hown : s.vm.findClass RX1 = some m.cls := hown
  have F : CallFix p m c cX1_giveBack 3 s args wsT RX1 := F
  have hl : lv_has ls 3 [(0, .ref (G 2 1)), (1, .ref (G 0 0))] := hl
  unfold wp_X1_giveBack at h
  refine lv_aload_n hx hb dX1_giveBack_0 rfl (lv_at hl 0 rfl) ?_
  refine lv_aload_n hx hb dX1_giveBack_1 rfl (lv_at hl 0 rfl) ?_
  refine va_get (D := D) (ci := 1) (v := .int (V_next u.1)) (C := RX1) (T := TX1) (N := 3) hx hb hts inT1 hown hK.k hP 9 rfl rfl 1 (by decide) (hts _ q_110) (fun _ h9 => h9) rfl dX1_giveBack_2 ?_
  refine jn_e h (fun J2 e4 h => ?_)
  have w3 : ∀ (x1 : Int32) (ls : Array Slot) (H : Heap) (locs : List Loc), lv_has ls 3 [(0, .ref (G 2 1)), (1, .ref (G 0 0))] → va_P D vwCl (kW cI cS G u) H → va_D A (kW cI cS G u) → va_S A H0 H locs → J2 x1 → W p l e rm_X1_giveBack s m args below meth c H locs 0 0 Q (F0 m 18 ls [.int x1, .ref (G 2 1)]) := by
    intro x1 ls H locs hl hP hD hS h
    subst e4
    refine va_put (D := D) (ci := 1) (v := .int x1) (ty := .int) (C := RX1) (T := TX1) (N := 3) hx hb hts inT1 tyX1 tyX1_ok nmX1 hown hK.k hP hD hS 9 rfl rfl 1 (by decide) (hts _ q_110) (fun _ h9 => h9) rfl (by decide +kernel) rfl rfl (Nat.le_of_ble_eq_true rfl) dX1_giveBack_18 (fun H locs hP hD hS => ?_)
    have hP : va_P D vwCl (kW cI cS G (sV_next u.1 x1, u.2)) H := hP
    have hD : va_D A (kW cI cS G (sV_next u.1 x1, u.2)) := hD
    refine lv_aload_n hx hb dX1_giveBack_21 rfl (lv_at hl 0 rfl) ?_
    refine lv_dup hx hb dX1_giveBack_22 rfl ?_
    refine va_get (D := D) (ci := 1) (v := .int (V_size ((sV_next u.1 x1, u.2).1))) (C := RX1) (T := TX1) (N := 3) hx hb hts inT1 hown hK.k hP 9 rfl rfl 2 (by decide) (hts _ q_111) (fun _ h9 => h9) rfl dX1_giveBack_23 ?_
    refine lv_iconst (v := (1 : Int32)) hx hb dX1_giveBack_26 (by decide) ?_
    refine lv_isub hx hb dX1_giveBack_27 ?_
    refine va_put (D := D) (ci := 1) (v := .int ((V_size ((sV_next u.1 x1, u.2).1)) - (1 : Int32))) (ty := .int) (C := RX1) (T := TX1) (N := 3) hx hb hts inT1 tyX1 tyX1_ok nmX1 hown hK.k hP hD hS 9 rfl rfl 2 (by decide) (hts _ q_111) (fun _ h9 => h9) rfl (by decide +kernel) rfl rfl (Nat.le_of_ble_eq_true rfl) dX1_giveBack_28 (fun H locs hP hD hS => ?_)
    have hP : va_P D vwCl (kW cI cS G (sV_size (sV_next u.1 x1, u.2).1 ((V_size ((sV_next u.1 x1, u.2).1)) - (1 : Int32)), (sV_next u.1 x1, u.2).2)) H := hP
    have hD : va_D A (kW cI cS G (sV_size (sV_next u.1 x1, u.2).1 ((V_size ((sV_next u.1 x1, u.2).1)) - (1 : Int32)), (sV_next u.1 x1, u.2).2)) := hD
    refine lv_aload_n hx hb dX1_giveBack_31 rfl (lv_at hl 0 rfl) ?_
    refine lv_aload_n hx hb dX1_giveBack_32 rfl (lv_at hl 0 rfl) ?_
    refine va_get (D := D) (ci := 1) (v := .int (V_next ((sV_size (sV_next u.1 x1, u.2).1 ((V_size ((sV_next u.1 x1, u.2).1)) - (1 : Int32)), (sV_next u.1 x1, u.2).2).1))) (C := RX1) (T := TX1) (N := 3) hx hb hts inT1 hown hK.k hP 9 rfl rfl 1 (by decide) (hts _ q_110) (fun _ h9 => h9) rfl dX1_giveBack_33 ?_
    obtain ⟨k5, hk6, he7, h⟩ := h
    refine roVr (As := [.int (V_next ((sV_size (sV_next u.1 x1, u.2).1 ((V_size ((sV_next u.1 x1, u.2).1)) - (1 : Int32)), (sV_next u.1 x1, u.2).2).1))]) (rest := []) F (c_X1_slotAt l D cI cS cJ G (sV_size (sV_next u.1 x1, u.2).1 ((V_size ((sV_next u.1 x1, u.2).1)) - (1 : Int32)), (sV_next u.1 x1, u.2).2) H (V_next ((sV_size (sV_next u.1 x1, u.2).1 ((V_size ((sV_next u.1 x1, u.2).1)) - (1 : Int32)), (sV_next u.1 x1, u.2).2).1)) hk6 he7) (cw_X1_22 hts (Nat.le_of_ble_eq_true rfl) (Nat.le_of_ble_eq_true rfl)) hK hP (recv (ci := 1) (k0 := 9) hK hP rfl rfl) rfl hl.1 rfl (Nat.le_of_ble_eq_true rfl) dX1_giveBack_36 ⟨Nat.zero_le _, Nat.zero_le _⟩ ?_
    refine lv_astore_n (lv' := [(2, .ref (G (3 + k5) 0)), (0, .ref (G 2 1)), (1, .ref (G 0 0))]) hx hb dX1_giveBack_39 rfl hl (by decide) rfl (fun ls hl => ?_)
    refine lv_aload_n hx hb dX1_giveBack_40 rfl (lv_at hl 0 rfl) ?_
    refine lv_ifnull hx hb dX1_giveBack_41 ?_
    refine lv_aload_n hx hb dX1_giveBack_44 rfl (lv_at hl 2 rfl) ?_
    refine lv_aload_n hx hb dX1_giveBack_45 rfl (lv_at hl 0 rfl) ?_
    obtain ⟨wr, hp81, hp82⟩ := kW_g (cI := cI) (cS := cS) (G := G) (sV_size (sV_next u.1 x1, u.2).1 ((V_size ((sV_next u.1 x1, u.2).1)) - (1 : Int32)), (sV_next u.1 x1, u.2).2) hk6
    refine rwVv (wr := wr) (wf := fun x9 => stW cI (G 0) x9 ++ stW cI (G (3 + k5)) (V_slots (sV_size (sV_next u.1 x1, u.2).1 ((V_size ((sV_next u.1 x1, u.2).1)) - (1 : Int32)), (sV_next u.1 x1, u.2).2).1 k5)) (As := [.ref (G (3 + k5) 0)]) (rest := []) hp81 F (c_X2_become l D cI cS cJ (G 0) (sV_size (sV_next u.1 x1, u.2).1 ((V_size ((sV_next u.1 x1, u.2).1)) - (1 : Int32)), (sV_next u.1 x1, u.2).2).2 (G (3 + k5)) (V_slots (sV_size (sV_next u.1 x1, u.2).1 ((V_size ((sV_next u.1 x1, u.2).1)) - (1 : Int32)), (sV_next u.1 x1, u.2).2).1 k5) H.size h) (cw_X1_26 hts (Nat.le_of_ble_eq_true rfl) (Nat.le_of_ble_eq_true rfl)) hK hP hD hS hA (recv (ci := 2) (k0 := 0) hK (vP_L (vP_perm hp81 hP)) rfl rfl) rfl hl.1 rfl (Nat.le_of_ble_eq_true rfl) dX1_giveBack_46 ⟨Nat.zero_le _, Nat.zero_le _⟩ (fun x9 H locs h hP hD hS => ?_)
    have hP : va_P D vwCl (kW cI cS G ((sV_size (sV_next u.1 x1, u.2).1 ((V_size ((sV_next u.1 x1, u.2).1)) - (1 : Int32)), (sV_next u.1 x1, u.2).2).1, x9)) H := vP_perm (hp82 _) hP
    have hD : va_D A (kW cI cS G ((sV_size (sV_next u.1 x1, u.2).1 ((V_size ((sV_next u.1 x1, u.2).1)) - (1 : Int32)), (sV_next u.1 x1, u.2).2).1, x9)) := vD_perm (hp82 _) hD
    exact hQ h hP hD hS dX1_giveBack_49
  clear e4
  refine lv_if_le (tgt := 17) hx hb dX1_giveBack_5 (by decide) (fun c10 => ?_) (fun c10 => ?_)
  · replace h := h.1 c10
    refine lv_iconst (v := (5 : Int32)) hx hb dX1_giveBack_17 (by decide) ?_
    exact w3 (5 : Int32) _ _ _ hl hP hD hS h
  · replace h := h.2 c10
    refine lv_aload_n hx hb dX1_giveBack_8 rfl (lv_at hl 0 rfl) ?_
    refine va_get (D := D) (ci := 1) (v := .int (V_next u.1)) (C := RX1) (T := TX1) (N := 3) hx hb hts inT1 hown hK.k hP 9 rfl rfl 1 (by decide) (hts _ q_110) (fun _ h9 => h9) rfl dX1_giveBack_9 ?_
    refine lv_iconst (v := (1 : Int32)) hx hb dX1_giveBack_12 (by decide) ?_
    refine lv_isub hx hb dX1_giveBack_13 ?_
    refine lv_goto (tgt := 18) hx hb dX1_giveBack_14 (by decide) ?_
    exact w3 ((V_next u.1) - (1 : Int32)) _ _ _ hl hP hD hS h
end
section
abbrev rm_X3_setOpen : Room := { frames := 4, cells := 0, slots := 0, locals := 124 }
abbrev rm_X3_setKey : Room := { frames := 4, cells := 0, slots := 0, locals := 124 }
abbrev rm_X3_isOpen : Room := { frames := 2, cells := 0, slots := 0, locals := 42 }
abbrev rm_X3_cover : Room := { frames := 3, cells := 0, slots := 0, locals := 63 }
abbrev rm_X3_uncover : Room := { frames := 3, cells := 0, slots := 0, locals := 63 }
abbrev rm_X3_layFault : Room := { frames := 2, cells := 0, slots := 0, locals := 42 }
abbrev rm_X3_lay : Room := { frames := 4, cells := 0, slots := 0, locals := 124 }
abbrev rm_X3_takeUp : Room := { frames := 4, cells := 0, slots := 0, locals := 124 }
abbrev rm_X3_roads : Room := { frames := 0, cells := 0, slots := 0, locals := 0 }
abbrev rm_X3_roadFault : Room := { frames := 1, cells := 0, slots := 0, locals := 22 }
abbrev rm_X3_inn : Room := { frames := 2, cells := 0, slots := 0, locals := 43 }
abbrev rm_X3_hall : Room := { frames := 2, cells := 0, slots := 0, locals := 43 }
abbrev rm_X3_stands : Room := { frames := 3, cells := 0, slots := 0, locals := 65 }
abbrev rm_X3_see : Room := { frames := 4, cells := 0, slots := 0, locals := 91 }
abbrev rm_X3_known : Room := { frames := 5, cells := 0, slots := 0, locals := 114 }
abbrev rm_X3_sendFault : Room := { frames := 2, cells := 0, slots := 0, locals := 43 }
abbrev rm_X3_send : Room := { frames := 4, cells := 0, slots := 0, locals := 124 }
abbrev rm_X3_answerFault : Room := { frames := 2, cells := 0, slots := 0, locals := 42 }
abbrev rm_X3_answer : Room := { frames := 4, cells := 0, slots := 0, locals := 124 }
abbrev rm_X3_pass : Room := { frames := 5, cells := 0, slots := 0, locals := 124 }
abbrev rm_X3_envelopes : Room := { frames := 0, cells := 0, slots := 0, locals := 0 }
abbrev rm_X3_envelopeFault : Room := { frames := 1, cells := 0, slots := 0, locals := 22 }
abbrev rm_X3_envelope : Room := { frames := 2, cells := 0, slots := 0, locals := 43 }
abbrev rm_X3_letter : Room := { frames := 2, cells := 0, slots := 0, locals := 42 }
abbrev rm_X3_lastAnswer : Room := { frames := 0, cells := 0, slots := 0, locals := 0 }
abbrev rm_X3_count : Room := { frames := 2, cells := 0, slots := 0, locals := 40 }
abbrev rm_X3_deliveredShare : Room := { frames := 1, cells := 0, slots := 0, locals := 21 }
abbrev rm_X3_lostIfClosed : Room := { frames := 4, cells := 0, slots := 0, locals := 93 }
abbrev rm_X3_ticksTo : Room := { frames := 3, cells := 0, slots := 0, locals := 70 }
abbrev rm_X3_leastWork : Room := { frames := 5, cells := 0, slots := 0, locals := 113 }
abbrev rm_X3_undo : Room := { frames := 4, cells := 0, slots := 0, locals := 124 }
abbrev rm_X3_savedStates : Room := { frames := 0, cells := 0, slots := 0, locals := 0 }
abbrev rm_X3_mixedInns : Room := { frames := 5, cells := 0, slots := 0, locals := 114 }
abbrev rm_X3_mixedRoads : Room := { frames := 3, cells := 0, slots := 0, locals := 65 }
abbrev rm_X3_mixedEnvelopes : Room := { frames := 3, cells := 0, slots := 0, locals := 70 }
abbrev rm_X3_digest : Room := { frames := 6, cells := 0, slots := 0, locals := 139 }
theorem q_2 : Cond.selects RX3 yX3_mixedInns yX3_mixedInns ∈ wsT := tw 2 (by decide +kernel) rfl
theorem q_4 : Cond.selects RX3 yX3_mixedRoads yX3_mixedRoads ∈ wsT := tw 4 (by decide +kernel) rfl
theorem q_5 : Cond.selects RX3 yX3_mixedEnvelopes yX3_mixedEnvelopes ∈ wsT := tw 5 (by decide +kernel) rfl
theorem q_7 : Cond.selects RX3 yX3_layFault yX3_layFault ∈ wsT := tw 7 (by decide +kernel) rfl
theorem q_9 : Cond.selects RX3 yX3_envelopeFault yX3_envelopeFault ∈ wsT := tw 9 (by decide +kernel) rfl
theorem q_10 : Cond.selects RX3 yX3_roadFault yX3_roadFault ∈ wsT := tw 10 (by decide +kernel) rfl
theorem q_19 : Cond.selects RX3 yX3_answerFault yX3_answerFault ∈ wsT := tw 19 (by decide +kernel) rfl
theorem q_21 : Cond.selects RX3 yX3_sendFault yX3_sendFault ∈ wsT := tw 21 (by decide +kernel) rfl
theorem q_54 : Cond.fieldLink RX3 163 "NestedEnvelopes$State" "openMask" "I" ∈ wsT := tw 54 (by decide +kernel) rfl
theorem q_56 : Cond.fieldLink RX3 54 "NestedEnvelopes$State" "keys" "[I" ∈ wsT := tw 56 (by decide +kernel) rfl
theorem q_58 : Cond.fieldLink RX3 79 "NestedEnvelopes$State" "roadCount" "I" ∈ wsT := tw 58 (by decide +kernel) rfl
theorem q_62 : Cond.fieldLink RX3 106 "NestedEnvelopes$State" "roadHalls" "[I" ∈ wsT := tw 62 (by decide +kernel) rfl
theorem q_64 : Cond.fieldLink RX3 139 "NestedEnvelopes$State" "envelopeCount" "I" ∈ wsT := tw 64 (by decide +kernel) rfl
theorem q_67 : Cond.fieldLink RX3 151 "NestedEnvelopes$State" "letters" "[I" ∈ wsT := tw 67 (by decide +kernel) rfl
theorem q_69 : Cond.fieldLink RX3 242 "NestedEnvelopes$State" "answerRoads" "[I" ∈ wsT := tw 69 (by decide +kernel) rfl
theorem q_71 : Cond.fieldLink RX3 154 "NestedEnvelopes$State" "answerGot" "I" ∈ wsT := tw 71 (by decide +kernel) rfl
theorem q_73 : Cond.fieldLink RX3 157 "NestedEnvelopes$State" "counts" "[I" ∈ wsT := tw 73 (by decide +kernel) rfl
theorem q_112 : Cond.fieldLink RX3 202 "NestedEnvelopes$SavedStates" "size" "I" ∈ wsT := tw 112 (by decide +kernel) rfl
theorem q_132 : Cond.fieldLink RX3 10 "NestedEnvelopes" "now" "LNestedEnvelopes$State;" ∈ wsT := tw 132 (by decide +kernel) rfl
theorem q_133 : Cond.fieldLink RX3 19 "NestedEnvelopes" "saved" "LNestedEnvelopes$SavedStates;" ∈ wsT := tw 133 (by decide +kernel) rfl
theorem q_218 : Cond.methodLink RX3 207 yX1_giveBack ∈ wsT := tw 218 (by decide +kernel) rfl
theorem q_219 : Cond.instanceMethod yX1_giveBack ∈ wsT := tw 219 (by decide +kernel) rfl
theorem q_220 : Cond.selects RX1 yX1_giveBack yX1_giveBack ∈ wsT := tw 220 (by decide +kernel) rfl
theorem q_221 : Cond.code yX1_giveBack cX1_giveBack 3 none ∈ wsT := tw 221 (by decide +kernel) rfl
theorem q_247 : Cond.constantLong RX3 210 4726 ∈ wsT := tw 247 (by decide +kernel) rfl
theorem q_252 : Cond.methodLink RX3 216 yX3_mixedRow ∈ wsT := tw 252 (by decide +kernel) rfl
theorem q_253 : Cond.static yX3_mixedRow ∈ wsT := tw 253 (by decide +kernel) rfl
theorem q_254 : Cond.code yX3_mixedRow cX3_mixedRow 6 (some .long) ∈ wsT := tw 254 (by decide +kernel) rfl
theorem q_255 : Cond.methodLink RX3 220 yX3_mixedInns ∈ wsT := tw 255 (by decide +kernel) rfl
theorem q_257 : Cond.instanceMethod yX3_mixedInns ∈ wsT := tw 257 (by decide +kernel) rfl
theorem q_258 : Cond.code yX3_mixedInns cX3_mixedInns 6 (some .long) ∈ wsT := tw 258 (by decide +kernel) rfl
theorem q_259 : Cond.methodLink RX3 42 yX2_hasOpen ∈ wsT := tw 259 (by decide +kernel) rfl
theorem q_266 : Cond.methodLink RX3 58 yX3_read ∈ wsT := tw 266 (by decide +kernel) rfl
theorem q_269 : Cond.methodLink RX3 116 yX2_knownMask ∈ wsT := tw 269 (by decide +kernel) rfl
theorem q_270 : Cond.instanceMethod yX2_knownMask ∈ wsT := tw 270 (by decide +kernel) rfl
theorem q_271 : Cond.selects RX2 yX2_knownMask yX2_knownMask ∈ wsT := tw 271 (by decide +kernel) rfl
theorem q_272 : Cond.code yX2_knownMask cX2_knownMask 4 (some .int) ∈ wsT := tw 272 (by decide +kernel) rfl
theorem q_292 : Cond.methodLink RX3 160 yX2_lostWithout ∈ wsT := tw 292 (by decide +kernel) rfl
theorem q_293 : Cond.instanceMethod yX2_lostWithout ∈ wsT := tw 293 (by decide +kernel) rfl
theorem q_294 : Cond.selects RX2 yX2_lostWithout yX2_lostWithout ∈ wsT := tw 294 (by decide +kernel) rfl
theorem q_295 : Cond.code yX2_lostWithout cX2_lostWithout 4 (some .int) ∈ wsT := tw 295 (by decide +kernel) rfl
theorem q_304 : Cond.methodLink RX3 224 yX3_mixedRoads ∈ wsT := tw 304 (by decide +kernel) rfl
theorem q_306 : Cond.instanceMethod yX3_mixedRoads ∈ wsT := tw 306 (by decide +kernel) rfl
theorem q_307 : Cond.code yX3_mixedRoads cX3_mixedRoads 7 (some .long) ∈ wsT := tw 307 (by decide +kernel) rfl
theorem q_308 : Cond.methodLink RX3 103 yX2_innAt ∈ wsT := tw 308 (by decide +kernel) rfl
theorem q_309 : Cond.methodLink RX3 109 yX2_allOpenOn ∈ wsT := tw 309 (by decide +kernel) rfl
theorem q_310 : Cond.instanceMethod yX2_allOpenOn ∈ wsT := tw 310 (by decide +kernel) rfl
theorem q_311 : Cond.selects RX2 yX2_allOpenOn yX2_allOpenOn ∈ wsT := tw 311 (by decide +kernel) rfl
theorem q_312 : Cond.code yX2_allOpenOn cX2_allOpenOn 3 (some .boolean) ∈ wsT := tw 312 (by decide +kernel) rfl
theorem q_314 : Cond.methodLink RX3 227 yX3_mixedEnvelopes ∈ wsT := tw 314 (by decide +kernel) rfl
theorem q_316 : Cond.instanceMethod yX3_mixedEnvelopes ∈ wsT := tw 316 (by decide +kernel) rfl
theorem q_317 : Cond.code yX3_mixedEnvelopes cX3_mixedEnvelopes 7 (some .long) ∈ wsT := tw 317 (by decide +kernel) rfl
theorem q_318 : Cond.methodLink RX3 145 yX2_ofEnvelope ∈ wsT := tw 318 (by decide +kernel) rfl
theorem q_319 : Cond.methodLink RX3 166 yX2_ticksLeft ∈ wsT := tw 319 (by decide +kernel) rfl
theorem q_320 : Cond.methodLink RX3 169 yX2_leastUsedInn ∈ wsT := tw 320 (by decide +kernel) rfl
theorem q_321 : Cond.instanceMethod yX2_leastUsedInn ∈ wsT := tw 321 (by decide +kernel) rfl
theorem q_322 : Cond.selects RX2 yX2_leastUsedInn yX2_leastUsedInn ∈ wsT := tw 322 (by decide +kernel) rfl
theorem q_323 : Cond.code yX2_leastUsedInn cX2_leastUsedInn 5 (some .int) ∈ wsT := tw 323 (by decide +kernel) rfl
theorem q_351 : Cond.methodLink RX3 34 yX3_refuse ∈ wsT := tw 351 (by decide +kernel) rfl
theorem q_352 : Cond.static yX3_refuse ∈ wsT := tw 352 (by decide +kernel) rfl
theorem q_353 : Cond.code yX3_refuse cX3_refuse 1 none ∈ wsT := tw 353 (by decide +kernel) rfl
theorem q_387 : Cond.methodLink RX3 38 yX1_keep ∈ wsT := tw 387 (by decide +kernel) rfl
theorem q_388 : Cond.instanceMethod yX1_keep ∈ wsT := tw 388 (by decide +kernel) rfl
theorem q_389 : Cond.selects RX1 yX1_keep yX1_keep ∈ wsT := tw 389 (by decide +kernel) rfl
theorem q_390 : Cond.code yX1_keep cX1_keep 3 none ∈ wsT := tw 390 (by decide +kernel) rfl
theorem q_392 : Cond.methodLink RX3 46 yX2_turn ∈ wsT := tw 392 (by decide +kernel) rfl
theorem q_393 : Cond.instanceMethod yX2_turn ∈ wsT := tw 393 (by decide +kernel) rfl
theorem q_394 : Cond.selects RX2 yX2_turn yX2_turn ∈ wsT := tw 394 (by decide +kernel) rfl
theorem q_395 : Cond.code yX2_turn cX2_turn 4 none ∈ wsT := tw 395 (by decide +kernel) rfl
theorem q_400 : Cond.methodLink RX3 50 yX3_innAndBodyFault ∈ wsT := tw 400 (by decide +kernel) rfl
theorem q_401 : Cond.static yX3_innAndBodyFault ∈ wsT := tw 401 (by decide +kernel) rfl
theorem q_402 : Cond.code yX3_innAndBodyFault cX3_innAndBodyFault 2 (some .int) ∈ wsT := tw 402 (by decide +kernel) rfl
theorem q_406 : Cond.methodLink RX3 62 yX3_write ∈ wsT := tw 406 (by decide +kernel) rfl
theorem q_417 : Cond.methodLink RX3 72 yX3_layFault ∈ wsT := tw 417 (by decide +kernel) rfl
theorem q_419 : Cond.instanceMethod yX3_layFault ∈ wsT := tw 419 (by decide +kernel) rfl
theorem q_420 : Cond.code yX3_layFault cX3_layFault 6 (some .int) ∈ wsT := tw 420 (by decide +kernel) rfl
theorem q_421 : Cond.methodLink RX3 148 yX3_hallFault ∈ wsT := tw 421 (by decide +kernel) rfl
theorem q_422 : Cond.static yX3_hallFault ∈ wsT := tw 422 (by decide +kernel) rfl
theorem q_423 : Cond.code yX3_hallFault cX3_hallFault 1 (some .int) ∈ wsT := tw 423 (by decide +kernel) rfl
theorem q_424 : Cond.methodLink RX3 76 yX2_addRoad ∈ wsT := tw 424 (by decide +kernel) rfl
theorem q_425 : Cond.instanceMethod yX2_addRoad ∈ wsT := tw 425 (by decide +kernel) rfl
theorem q_426 : Cond.selects RX2 yX2_addRoad yX2_addRoad ∈ wsT := tw 426 (by decide +kernel) rfl
theorem q_427 : Cond.code yX2_addRoad cX2_addRoad 6 (some .int) ∈ wsT := tw 427 (by decide +kernel) rfl
theorem q_437 : Cond.methodLink RX3 142 yX3_envelopeFault ∈ wsT := tw 437 (by decide +kernel) rfl
theorem q_439 : Cond.instanceMethod yX3_envelopeFault ∈ wsT := tw 439 (by decide +kernel) rfl
theorem q_440 : Cond.code yX3_envelopeFault cX3_envelopeFault 2 (some .int) ∈ wsT := tw 440 (by decide +kernel) rfl
theorem q_445 : Cond.methodLink RX3 83 yX2_isUsed ∈ wsT := tw 445 (by decide +kernel) rfl
theorem q_446 : Cond.instanceMethod yX2_isUsed ∈ wsT := tw 446 (by decide +kernel) rfl
theorem q_447 : Cond.selects RX2 yX2_isUsed yX2_isUsed ∈ wsT := tw 447 (by decide +kernel) rfl
theorem q_448 : Cond.code yX2_isUsed cX2_isUsed 3 (some .boolean) ∈ wsT := tw 448 (by decide +kernel) rfl
theorem q_450 : Cond.methodLink RX3 93 yX2_removeLastRoad ∈ wsT := tw 450 (by decide +kernel) rfl
theorem q_451 : Cond.instanceMethod yX2_removeLastRoad ∈ wsT := tw 451 (by decide +kernel) rfl
theorem q_452 : Cond.selects RX2 yX2_removeLastRoad yX2_removeLastRoad ∈ wsT := tw 452 (by decide +kernel) rfl
theorem q_453 : Cond.code yX2_removeLastRoad cX2_removeLastRoad 2 none ∈ wsT := tw 453 (by decide +kernel) rfl
theorem q_465 : Cond.methodLink RX3 100 yX3_roadFault ∈ wsT := tw 465 (by decide +kernel) rfl
theorem q_467 : Cond.instanceMethod yX3_roadFault ∈ wsT := tw 467 (by decide +kernel) rfl
theorem q_468 : Cond.code yX3_roadFault cX3_roadFault 2 (some .int) ∈ wsT := tw 468 (by decide +kernel) rfl
theorem q_474 : Cond.methodLink RX3 136 yX2_letTicksPass ∈ wsT := tw 474 (by decide +kernel) rfl
theorem q_475 : Cond.instanceMethod yX2_letTicksPass ∈ wsT := tw 475 (by decide +kernel) rfl
theorem q_476 : Cond.selects RX2 yX2_letTicksPass yX2_letTicksPass ∈ wsT := tw 476 (by decide +kernel) rfl
theorem q_477 : Cond.code yX2_letTicksPass cX2_letTicksPass 5 (some .int) ∈ wsT := tw 477 (by decide +kernel) rfl
theorem q_523 : Cond.methodLink RX3 125 yX3_answerFault ∈ wsT := tw 523 (by decide +kernel) rfl
theorem q_525 : Cond.instanceMethod yX3_answerFault ∈ wsT := tw 525 (by decide +kernel) rfl
theorem q_526 : Cond.code yX3_answerFault cX3_answerFault 4 (some .int) ∈ wsT := tw 526 (by decide +kernel) rfl
theorem q_527 : Cond.methodLink RX3 128 yX2_addAnswer ∈ wsT := tw 527 (by decide +kernel) rfl
theorem q_528 : Cond.instanceMethod yX2_addAnswer ∈ wsT := tw 528 (by decide +kernel) rfl
theorem q_529 : Cond.selects RX2 yX2_addAnswer yX2_addAnswer ∈ wsT := tw 529 (by decide +kernel) rfl
theorem q_530 : Cond.code yX2_addAnswer cX2_addAnswer 3 (some .int) ∈ wsT := tw 530 (by decide +kernel) rfl
theorem q_539 : Cond.methodLink RX3 119 yX3_sendFault ∈ wsT := tw 539 (by decide +kernel) rfl
theorem q_541 : Cond.instanceMethod yX3_sendFault ∈ wsT := tw 541 (by decide +kernel) rfl
theorem q_542 : Cond.code yX3_sendFault cX3_sendFault 3 (some .int) ∈ wsT := tw 542 (by decide +kernel) rfl
theorem q_543 : Cond.methodLink RX3 122 yX2_addLetter ∈ wsT := tw 543 (by decide +kernel) rfl
theorem q_544 : Cond.instanceMethod yX2_addLetter ∈ wsT := tw 544 (by decide +kernel) rfl
theorem q_545 : Cond.selects RX2 yX2_addLetter yX2_addLetter ∈ wsT := tw 545 (by decide +kernel) rfl
theorem q_546 : Cond.code yX2_addLetter cX2_addLetter 5 (some .int) ∈ wsT := tw 546 (by decide +kernel) rfl
theorem q_562 : Cond.methodLink RX3 112 yX2_seenBeside ∈ wsT := tw 562 (by decide +kernel) rfl
theorem q_601 : Cond.methodLink RX3 66 yX3_covered ∈ wsT := tw 601 (by decide +kernel) rfl
theorem q_606 : Cond.methodLink RX3 69 yX3_uncovered ∈ wsT := tw 606 (by decide +kernel) rfl
theorem cw_X3_34 {R : Room} {s : State} {args : Array Value} (hts : ∀ w ∈ wsT, w.before args s = true) (hf : 1 + 1 ≤ R.frames) (hl : 8 + (1 + 11) + 20 ≤ R.locals) : CallB R s args RX3 34 yX3_refuse cX3_refuse 1 none (wsA yX3_refuse cX3_refuse 1 none) rm_X3_refuse 0 0 1 ∧ (Cond.static yX3_refuse).before args s = true := cwAS 1 hts q_351 q_352 q_23 q_353 rfl rfl (by decide +kernel) ⟨hf, hl⟩
theorem cw_X3_38 {R : Room} {s : State} {args : Array Value} (hts : ∀ w ∈ wsT, w.before args s = true) (hf : 3 + 1 ≤ R.frames) (hl : 8 + (3 + 11) + 102 ≤ R.locals) : CallW R s args RX3 RX1 38 yX1_keep cX1_keep 3 none (wsA yX1_keep cX1_keep 3 none) rm_X1_keep 0 0 1 := cwAV 1 hts q_387 q_388 q_389 q_26 q_390 rfl rfl (by decide +kernel) ⟨hf, hl⟩
theorem cw_X3_42 {R : Room} {s : State} {args : Array Value} (hts : ∀ w ∈ wsT, w.before args s = true) (hf : 1 + 1 ≤ R.frames) (hl : 8 + (2 + 11) + 21 ≤ R.locals) : CallW R s args RX3 RX2 42 yX2_hasOpen cX2_hasOpen 2 (some .boolean) (wsA yX2_hasOpen cX2_hasOpen 2 (some .boolean)) rm_X2_hasOpen 0 0 1 := cwAV 1 hts q_259 q_260 q_261 q_24 q_262 rfl rfl (by decide +kernel) ⟨hf, hl⟩
theorem cw_X3_46 {R : Room} {s : State} {args : Array Value} (hts : ∀ w ∈ wsT, w.before args s = true) (hf : 0 + 1 ≤ R.frames) (hl : 8 + (4 + 11) + 0 ≤ R.locals) : CallW R s args RX3 RX2 46 yX2_turn cX2_turn 4 none (wsA yX2_turn cX2_turn 4 none) rm_X2_turn 0 0 2 := cwAV 2 hts q_392 q_393 q_394 q_24 q_395 rfl rfl (by decide +kernel) ⟨hf, hl⟩
theorem cw_X3_50 {R : Room} {s : State} {args : Array Value} (hts : ∀ w ∈ wsT, w.before args s = true) (hf : 2 + 1 ≤ R.frames) (hl : 8 + (2 + 11) + 42 ≤ R.locals) : CallB R s args RX3 50 yX3_innAndBodyFault cX3_innAndBodyFault 2 (some .int) (wsA yX3_innAndBodyFault cX3_innAndBodyFault 2 (some .int)) rm_X3_innAndBodyFault 0 0 2 ∧ (Cond.static yX3_innAndBodyFault).before args s = true := cwAS 2 hts q_400 q_401 q_23 q_402 rfl rfl (by decide +kernel) ⟨hf, hl⟩
theorem cw_X3_58 {R : Room} {s : State} {args : Array Value} (hts : ∀ w ∈ wsT, w.before args s = true) (hf : 0 + 1 ≤ R.frames) (hl : 8 + (2 + 11) + 0 ≤ R.locals) : CallB R s args RX3 58 yX3_read cX3_read 2 (some .int) (wsA yX3_read cX3_read 2 (some .int)) rm_X3_read 0 0 2 ∧ (Cond.static yX3_read).before args s = true := cwAS 2 hts q_266 q_267 q_23 q_268 rfl rfl (by decide +kernel) ⟨hf, hl⟩
theorem cw_X3_62 {R : Room} {s : State} {args : Array Value} (hts : ∀ w ∈ wsT, w.before args s = true) (hf : 0 + 1 ≤ R.frames) (hl : 8 + (3 + 11) + 0 ≤ R.locals) : CallB R s args RX3 62 yX3_write cX3_write 3 none (wsA yX3_write cX3_write 3 none) rm_X3_write 0 0 3 ∧ (Cond.static yX3_write).before args s = true := cwAS 3 hts q_406 q_407 q_23 q_408 rfl rfl (by decide +kernel) ⟨hf, hl⟩
theorem cw_X3_66 {R : Room} {s : State} {args : Array Value} (hts : ∀ w ∈ wsT, w.before args s = true) (hf : 1 + 1 ≤ R.frames) (hl : 8 + (2 + 11) + 22 ≤ R.locals) : CallB R s args RX3 66 yX3_covered cX3_covered 2 (some .int) (wsA yX3_covered cX3_covered 2 (some .int)) rm_X3_covered 0 0 2 ∧ (Cond.static yX3_covered).before args s = true := cwAS 2 hts q_601 q_513 q_23 q_514 rfl rfl (by decide +kernel) ⟨hf, hl⟩
theorem cw_X3_69 {R : Room} {s : State} {args : Array Value} (hts : ∀ w ∈ wsT, w.before args s = true) (hf : 1 + 1 ≤ R.frames) (hl : 8 + (2 + 11) + 22 ≤ R.locals) : CallB R s args RX3 69 yX3_uncovered cX3_uncovered 2 (some .int) (wsA yX3_uncovered cX3_uncovered 2 (some .int)) rm_X3_uncovered 0 0 2 ∧ (Cond.static yX3_uncovered).before args s = true := cwAS 2 hts q_606 q_503 q_23 q_504 rfl rfl (by decide +kernel) ⟨hf, hl⟩
theorem cw_X3_148 {R : Room} {s : State} {args : Array Value} (hts : ∀ w ∈ wsT, w.before args s = true) (hf : 1 + 1 ≤ R.frames) (hl : 8 + (1 + 11) + 22 ≤ R.locals) : CallB R s args RX3 148 yX3_hallFault cX3_hallFault 1 (some .int) (wsA yX3_hallFault cX3_hallFault 1 (some .int)) rm_X3_hallFault 0 0 1 ∧ (Cond.static yX3_hallFault).before args s = true := cwAS 1 hts q_421 q_422 q_23 q_423 rfl rfl (by decide +kernel) ⟨hf, hl⟩
theorem cw_X3_72 {R : Room} {s : State} {args : Array Value} (hts : ∀ w ∈ wsT, w.before args s = true) (hf : 2 + 1 ≤ R.frames) (hl : 8 + (6 + 11) + 42 ≤ R.locals) : CallW R s args RX3 RX3 72 yX3_layFault cX3_layFault 6 (some .int) (wsA yX3_layFault cX3_layFault 6 (some .int)) rm_X3_layFault 0 0 4 := cwAV 4 hts q_417 q_419 q_7 q_23 q_420 rfl rfl (by decide +kernel) ⟨hf, hl⟩
theorem cw_X3_76 {R : Room} {s : State} {args : Array Value} (hts : ∀ w ∈ wsT, w.before args s = true) (hf : 2 + 1 ≤ R.frames) (hl : 8 + (6 + 11) + 45 ≤ R.locals) : CallW R s args RX3 RX2 76 yX2_addRoad cX2_addRoad 6 (some .int) (wsA yX2_addRoad cX2_addRoad 6 (some .int)) rm_X2_addRoad 0 0 4 := cwAV 4 hts q_424 q_425 q_426 q_24 q_427 rfl rfl (by decide +kernel) ⟨hf, hl⟩
theorem cw_X3_83 {R : Room} {s : State} {args : Array Value} (hts : ∀ w ∈ wsT, w.before args s = true) (hf : 2 + 1 ≤ R.frames) (hl : 8 + (3 + 11) + 43 ≤ R.locals) : CallW R s args RX3 RX2 83 yX2_isUsed cX2_isUsed 3 (some .boolean) (wsA yX2_isUsed cX2_isUsed 3 (some .boolean)) rm_X2_isUsed 0 0 1 := cwAV 1 hts q_445 q_446 q_447 q_24 q_448 rfl rfl (by decide +kernel) ⟨hf, hl⟩
theorem cw_X3_93 {R : Room} {s : State} {args : Array Value} (hts : ∀ w ∈ wsT, w.before args s = true) (hf : 1 + 1 ≤ R.frames) (hl : 8 + (2 + 11) + 22 ≤ R.locals) : CallW R s args RX3 RX2 93 yX2_removeLastRoad cX2_removeLastRoad 2 none (wsA yX2_removeLastRoad cX2_removeLastRoad 2 none) rm_X2_removeLastRoad 0 0 0 := cwAV 0 hts q_450 q_451 q_452 q_24 q_453 rfl rfl (by decide +kernel) ⟨hf, hl⟩
theorem cw_X3_103 {R : Room} {s : State} {args : Array Value} (hts : ∀ w ∈ wsT, w.before args s = true) (hf : 1 + 1 ≤ R.frames) (hl : 8 + (3 + 11) + 21 ≤ R.locals) : CallW R s args RX3 RX2 103 yX2_innAt cX2_innAt 3 (some .int) (wsA yX2_innAt cX2_innAt 3 (some .int)) rm_X2_innAt 0 0 2 := cwAV 2 hts q_308 q_282 q_283 q_24 q_284 rfl rfl (by decide +kernel) ⟨hf, hl⟩
theorem cw_X3_100 {R : Room} {s : State} {args : Array Value} (hts : ∀ w ∈ wsT, w.before args s = true) (hf : 1 + 1 ≤ R.frames) (hl : 8 + (2 + 11) + 22 ≤ R.locals) : CallW R s args RX3 RX3 100 yX3_roadFault cX3_roadFault 2 (some .int) (wsA yX3_roadFault cX3_roadFault 2 (some .int)) rm_X3_roadFault 0 0 1 := cwAV 1 hts q_465 q_467 q_10 q_23 q_468 rfl rfl (by decide +kernel) ⟨hf, hl⟩
theorem cw_X3_109 {R : Room} {s : State} {args : Array Value} (hts : ∀ w ∈ wsT, w.before args s = true) (hf : 2 + 1 ≤ R.frames) (hl : 8 + (3 + 11) + 43 ≤ R.locals) : CallW R s args RX3 RX2 109 yX2_allOpenOn cX2_allOpenOn 3 (some .boolean) (wsA yX2_allOpenOn cX2_allOpenOn 3 (some .boolean)) rm_X2_allOpenOn 0 0 1 := cwAV 1 hts q_309 q_310 q_311 q_24 q_312 rfl rfl (by decide +kernel) ⟨hf, hl⟩
theorem cw_X3_112 {R : Room} {s : State} {args : Array Value} (hts : ∀ w ∈ wsT, w.before args s = true) (hf : 3 + 1 ≤ R.frames) (hl : 8 + (6 + 11) + 66 ≤ R.locals) : CallW R s args RX3 RX2 112 yX2_seenBeside cX2_seenBeside 6 (some .int) (wsA yX2_seenBeside cX2_seenBeside 6 (some .int)) rm_X2_seenBeside 0 0 3 := cwAV 3 hts q_562 q_274 q_275 q_24 q_276 rfl rfl (by decide +kernel) ⟨hf, hl⟩
theorem cw_X3_116 {R : Room} {s : State} {args : Array Value} (hts : ∀ w ∈ wsT, w.before args s = true) (hf : 4 + 1 ≤ R.frames) (hl : 8 + (4 + 11) + 91 ≤ R.locals) : CallW R s args RX3 RX2 116 yX2_knownMask cX2_knownMask 4 (some .int) (wsA yX2_knownMask cX2_knownMask 4 (some .int)) rm_X2_knownMask 0 0 1 := cwAV 1 hts q_269 q_270 q_271 q_24 q_272 rfl rfl (by decide +kernel) ⟨hf, hl⟩
theorem cw_X3_119 {R : Room} {s : State} {args : Array Value} (hts : ∀ w ∈ wsT, w.before args s = true) (hf : 2 + 1 ≤ R.frames) (hl : 8 + (3 + 11) + 43 ≤ R.locals) : CallW R s args RX3 RX3 119 yX3_sendFault cX3_sendFault 3 (some .int) (wsA yX3_sendFault cX3_sendFault 3 (some .int)) rm_X3_sendFault 0 0 2 := cwAV 2 hts q_539 q_541 q_21 q_23 q_542 rfl rfl (by decide +kernel) ⟨hf, hl⟩
theorem cw_X3_122 {R : Room} {s : State} {args : Array Value} (hts : ∀ w ∈ wsT, w.before args s = true) (hf : 3 + 1 ≤ R.frames) (hl : 8 + (5 + 11) + 70 ≤ R.locals) : CallW R s args RX3 RX2 122 yX2_addLetter cX2_addLetter 5 (some .int) (wsA yX2_addLetter cX2_addLetter 5 (some .int)) rm_X2_addLetter 0 0 2 := cwAV 2 hts q_543 q_544 q_545 q_24 q_546 rfl rfl (by decide +kernel) ⟨hf, hl⟩
theorem cw_X3_125 {R : Room} {s : State} {args : Array Value} (hts : ∀ w ∈ wsT, w.before args s = true) (hf : 2 + 1 ≤ R.frames) (hl : 8 + (4 + 11) + 42 ≤ R.locals) : CallW R s args RX3 RX3 125 yX3_answerFault cX3_answerFault 4 (some .int) (wsA yX3_answerFault cX3_answerFault 4 (some .int)) rm_X3_answerFault 0 0 2 := cwAV 2 hts q_523 q_525 q_19 q_23 q_526 rfl rfl (by decide +kernel) ⟨hf, hl⟩
theorem cw_X3_128 {R : Room} {s : State} {args : Array Value} (hts : ∀ w ∈ wsT, w.before args s = true) (hf : 3 + 1 ≤ R.frames) (hl : 8 + (3 + 11) + 70 ≤ R.locals) : CallW R s args RX3 RX2 128 yX2_addAnswer cX2_addAnswer 3 (some .int) (wsA yX2_addAnswer cX2_addAnswer 3 (some .int)) rm_X2_addAnswer 0 0 2 := cwAV 2 hts q_527 q_528 q_529 q_24 q_530 rfl rfl (by decide +kernel) ⟨hf, hl⟩
theorem cw_X3_136 {R : Room} {s : State} {args : Array Value} (hts : ∀ w ∈ wsT, w.before args s = true) (hf : 4 + 1 ≤ R.frames) (hl : 8 + (5 + 11) + 94 ≤ R.locals) : CallW R s args RX3 RX2 136 yX2_letTicksPass cX2_letTicksPass 5 (some .int) (wsA yX2_letTicksPass cX2_letTicksPass 5 (some .int)) rm_X2_letTicksPass 0 0 1 := cwAV 1 hts q_474 q_475 q_476 q_24 q_477 rfl rfl (by decide +kernel) ⟨hf, hl⟩
theorem cw_X3_145 {R : Room} {s : State} {args : Array Value} (hts : ∀ w ∈ wsT, w.before args s = true) (hf : 1 + 1 ≤ R.frames) (hl : 8 + (3 + 11) + 21 ≤ R.locals) : CallW R s args RX3 RX2 145 yX2_ofEnvelope cX2_ofEnvelope 3 (some .int) (wsA yX2_ofEnvelope cX2_ofEnvelope 3 (some .int)) rm_X2_ofEnvelope 0 0 2 := cwAV 2 hts q_318 q_301 q_302 q_24 q_303 rfl rfl (by decide +kernel) ⟨hf, hl⟩
theorem cw_X3_142 {R : Room} {s : State} {args : Array Value} (hts : ∀ w ∈ wsT, w.before args s = true) (hf : 1 + 1 ≤ R.frames) (hl : 8 + (2 + 11) + 22 ≤ R.locals) : CallW R s args RX3 RX3 142 yX3_envelopeFault cX3_envelopeFault 2 (some .int) (wsA yX3_envelopeFault cX3_envelopeFault 2 (some .int)) rm_X3_envelopeFault 0 0 1 := cwAV 1 hts q_437 q_439 q_9 q_23 q_440 rfl rfl (by decide +kernel) ⟨hf, hl⟩
theorem cw_X3_160 {R : Room} {s : State} {args : Array Value} (hts : ∀ w ∈ wsT, w.before args s = true) (hf : 3 + 1 ≤ R.frames) (hl : 8 + (4 + 11) + 70 ≤ R.locals) : CallW R s args RX3 RX2 160 yX2_lostWithout cX2_lostWithout 4 (some .int) (wsA yX2_lostWithout cX2_lostWithout 4 (some .int)) rm_X2_lostWithout 0 0 1 := cwAV 1 hts q_292 q_293 q_294 q_24 q_295 rfl rfl (by decide +kernel) ⟨hf, hl⟩
theorem cw_X3_166 {R : Room} {s : State} {args : Array Value} (hts : ∀ w ∈ wsT, w.before args s = true) (hf : 2 + 1 ≤ R.frames) (hl : 8 + (8 + 11) + 43 ≤ R.locals) : CallW R s args RX3 RX2 166 yX2_ticksLeft cX2_ticksLeft 8 (some .int) (wsA yX2_ticksLeft cX2_ticksLeft 8 (some .int)) rm_X2_ticksLeft 0 0 2 := cwAV 2 hts q_319 q_297 q_298 q_24 q_299 rfl rfl (by decide +kernel) ⟨hf, hl⟩
theorem cw_X3_169 {R : Room} {s : State} {args : Array Value} (hts : ∀ w ∈ wsT, w.before args s = true) (hf : 4 + 1 ≤ R.frames) (hl : 8 + (5 + 11) + 89 ≤ R.locals) : CallW R s args RX3 RX2 169 yX2_leastUsedInn cX2_leastUsedInn 5 (some .int) (wsA yX2_leastUsedInn cX2_leastUsedInn 5 (some .int)) rm_X2_leastUsedInn 0 0 1 := cwAV 1 hts q_320 q_321 q_322 q_24 q_323 rfl rfl (by decide +kernel) ⟨hf, hl⟩
theorem cw_X3_207 {R : Room} {s : State} {args : Array Value} (hts : ∀ w ∈ wsT, w.before args s = true) (hf : 3 + 1 ≤ R.frames) (hl : 8 + (3 + 11) + 102 ≤ R.locals) : CallW R s args RX3 RX1 207 yX1_giveBack cX1_giveBack 3 none (wsA yX1_giveBack cX1_giveBack 3 none) rm_X1_giveBack 0 0 1 := cwAV 1 hts q_218 q_219 q_220 q_26 q_221 rfl rfl (by decide +kernel) ⟨hf, hl⟩
theorem cw_X3_216 {R : Room} {s : State} {args : Array Value} (hts : ∀ w ∈ wsT, w.before args s = true) (hf : 1 + 1 ≤ R.frames) (hl : 8 + (6 + 11) + 22 ≤ R.locals) : CallB R s args RX3 216 yX3_mixedRow cX3_mixedRow 6 (some .long) (wsA yX3_mixedRow cX3_mixedRow 6 (some .long)) rm_X3_mixedRow 0 0 2 ∧ (Cond.static yX3_mixedRow).before args s = true := cwAS 2 hts q_252 q_253 q_23 q_254 rfl rfl (by decide +kernel) ⟨hf, hl⟩
theorem cw_X3_220 {R : Room} {s : State} {args : Array Value} (hts : ∀ w ∈ wsT, w.before args s = true) (hf : 5 + 1 ≤ R.frames) (hl : 8 + (6 + 11) + 114 ≤ R.locals) : CallW R s args RX3 RX3 220 yX3_mixedInns cX3_mixedInns 6 (some .long) (wsA yX3_mixedInns cX3_mixedInns 6 (some .long)) rm_X3_mixedInns 0 0 1 := cwAV 1 hts q_255 q_257 q_2 q_23 q_258 rfl rfl (by decide +kernel) ⟨hf, hl⟩
theorem cw_X3_224 {R : Room} {s : State} {args : Array Value} (hts : ∀ w ∈ wsT, w.before args s = true) (hf : 3 + 1 ≤ R.frames) (hl : 8 + (7 + 11) + 65 ≤ R.locals) : CallW R s args RX3 RX3 224 yX3_mixedRoads cX3_mixedRoads 7 (some .long) (wsA yX3_mixedRoads cX3_mixedRoads 7 (some .long)) rm_X3_mixedRoads 0 0 1 := cwAV 1 hts q_304 q_306 q_4 q_23 q_307 rfl rfl (by decide +kernel) ⟨hf, hl⟩
theorem cw_X3_227 {R : Room} {s : State} {args : Array Value} (hts : ∀ w ∈ wsT, w.before args s = true) (hf : 3 + 1 ≤ R.frames) (hl : 8 + (7 + 11) + 70 ≤ R.locals) : CallW R s args RX3 RX3 227 yX3_mixedEnvelopes cX3_mixedEnvelopes 7 (some .long) (wsA yX3_mixedEnvelopes cX3_mixedEnvelopes 7 (some .long)) rm_X3_mixedEnvelopes 0 0 1 := cwAV 1 hts q_314 q_316 q_5 q_23 q_317 rfl rfl (by decide +kernel) ⟨hf, hl⟩
end
section
def wp_X3_setOpen (u : Ne) (p1 : Int32) (p2 : Int32) (post : Int32 → Ne → Prop) : Prop :=
  wp_X3_innFault p1 (fun r1 => wp_X3_refuse r1 (wp_X1_keep (N_saved u, N_now u) (fun u4 => wp_X2_hasOpen (N_now (sN_saved (sN_now u u4.2) u4.1)) p1 (fun r5 => wp_X2_turn (N_now (sN_saved (sN_now u u4.2) u4.1)) p1 p2 (fun u8 => post r5 (sN_now (sN_saved (sN_now u u4.2) u4.1) u8))))))
set_option maxHeartbeats 4000000 in
set_option maxRecDepth 100000 in
theorem c_X3_setOpen (l : Launch) (D : va_G) (cI cS cJ : ClassId) (G : Nat → Nat → Nat) (u : Ne) (sz : Nat) (p1 : Int32) (p2 : Int32) {post : Int32 → Ne → Prop} (h : wp_X3_setOpen u p1 p2 post) : Met l yX3_setOpen (wsA yX3_setOpen cX3_setOpen 4 (some .boolean)) rm_X3_setOpen (va_Pc [.ref (G 2 0), .int p1, .int p2] (rwP D (tysA cI cS cJ) (neW cI cS G u) sz)) (va_Qi (fun r u9 => bz r ∧ post r u9) (fun u9 t => va_P D vwCl ((neW cI cS G) u9) t.heap ∧ va_D (va_A (neW cI cS G u) sz) ((neW cI cS G) u9)) (va_A (neW cI cS G u) sz)) 0 0 (va_A (neW cI cS G u) sz) := by
  refine mkRWz (wf := (neW cI cS G)) (by decide +kernel) (Nat.le_of_ble_eq_true rfl) (fun {p e s m args below meth c Q ls A H0 H locs} hx hb F hts hown hK hP hD hS hA hl hQ => ?_)
  have hown : s.vm.findClass RX3 = some m.cls := hown
  have F : CallFix p m c cX3_setOpen 4 s args wsT RX3 := F
  have hl : lv_has ls 4 [(0, .ref (G 2 0)), (1, .int p1), (2, .int p2)] := hl
  unfold wp_X3_setOpen at h
  refine lv_iload_n hx hb dX3_setOpen_0 rfl (lv_at hl 1 rfl) ?_
  refine roSi (As := [.int p1]) (rest := []) F (c_X3_innFault l D cI cS cJ H p1 h) (cw_X3_30 hts (Nat.le_of_ble_eq_true rfl) (Nat.le_of_ble_eq_true rfl)) hK vP_nil rfl hl.1 rfl (Nat.le_of_ble_eq_true rfl) dX3_setOpen_1 ⟨(Nat.le_of_ble_eq_true rfl), (Nat.le_of_ble_eq_true rfl)⟩ (fun r1 h => ?_)
  refine roSv (As := [.int r1]) (rest := []) F (c_X3_refuse l D cI cS cJ H r1 h) (cw_X3_34 hts (Nat.le_of_ble_eq_true rfl) (Nat.le_of_ble_eq_true rfl)) hK vP_nil rfl hl.1 rfl (Nat.le_of_ble_eq_true rfl) dX3_setOpen_4 ⟨(Nat.le_of_ble_eq_true rfl), (Nat.le_of_ble_eq_true rfl)⟩ (fun h => ?_)
  refine lv_aload_n hx hb dX3_setOpen_7 rfl (lv_at hl 0 rfl) ?_
  refine va_get (D := D) (ci := 3) (v := .ref (G 2 1)) (C := RX3) (T := TX3) (N := 3) hx hb hts inT3 hown hK.k hP 0 rfl rfl 1 (by decide) (hts _ q_133) (fun _ h9 => h9) rfl dX3_setOpen_8 ?_
  refine lv_aload_n hx hb dX3_setOpen_11 rfl (lv_at hl 0 rfl) ?_
  refine va_get (D := D) (ci := 3) (v := .ref (G 0 0)) (C := RX3) (T := TX3) (N := 3) hx hb hts inT3 hown hK.k hP 0 rfl rfl 0 (by decide) (hts _ q_132) (fun _ h9 => h9) rfl dX3_setOpen_12 ?_
  refine rwVv (wr := neRK cI G u) (As := [.ref (G 0 0)]) (rest := []) neK_f F (c_X1_keep l D cI cS cJ G (N_saved u, N_now u) H.size h) (cw_X3_38 hts (Nat.le_of_ble_eq_true rfl) (Nat.le_of_ble_eq_true rfl)) hK hP hD hS hA (recv (ci := 1) (k0 := 12) hK hP rfl rfl) rfl hl.1 rfl (Nat.le_of_ble_eq_true rfl) dX3_setOpen_15 ⟨(Nat.le_of_ble_eq_true rfl), (Nat.le_of_ble_eq_true rfl)⟩ (fun u4 H locs h hP hD hS => ?_)
  have hP : va_P D vwCl (neW cI cS G (sN_saved (sN_now u u4.2) u4.1)) H := vP_perm (neK_b u4) hP
  have hD : va_D A (neW cI cS G (sN_saved (sN_now u u4.2) u4.1)) := vD_perm (neK_b u4) hD
  refine lv_aload_n hx hb dX3_setOpen_18 rfl (lv_at hl 0 rfl) ?_
  refine va_get (D := D) (ci := 3) (v := .ref (G 0 0)) (C := RX3) (T := TX3) (N := 3) hx hb hts inT3 hown hK.k hP 0 rfl rfl 0 (by decide) (hts _ q_132) (fun _ h9 => h9) rfl dX3_setOpen_19 ?_
  refine lv_iload_n hx hb dX3_setOpen_22 rfl (lv_at hl 1 rfl) ?_
  refine roVi (As := [.int p1]) (rest := []) F (c_X2_hasOpen l D cI cS cJ (G 0) (N_now (sN_saved (sN_now u u4.2) u4.1)) H p1 h) (cw_X3_42 hts (Nat.le_of_ble_eq_true rfl) (Nat.le_of_ble_eq_true rfl)) hK (neS hP) (recv (ci := 2) (k0 := 1) hK hP rfl rfl) rfl hl.1 rfl (Nat.le_of_ble_eq_true rfl) dX3_setOpen_23 ⟨(Nat.le_of_ble_eq_true rfl), (Nat.le_of_ble_eq_true rfl)⟩ (fun r5 h => ?_)
  obtain ⟨b6, h⟩ := h
  refine lv_istore_n (lv' := [(3, .int r5), (0, .ref (G 2 0)), (1, .int p1), (2, .int p2)]) hx hb dX3_setOpen_26 rfl hl (by decide) rfl (fun ls hl => ?_)
  refine lv_aload_n hx hb dX3_setOpen_27 rfl (lv_at hl 1 rfl) ?_
  refine va_get (D := D) (ci := 3) (v := .ref (G 0 0)) (C := RX3) (T := TX3) (N := 3) hx hb hts inT3 hown hK.k hP 0 rfl rfl 0 (by decide) (hts _ q_132) (fun _ h9 => h9) rfl dX3_setOpen_28 ?_
  refine lv_iload_n hx hb dX3_setOpen_31 rfl (lv_at hl 2 rfl) ?_
  refine lv_iload_n hx hb dX3_setOpen_32 rfl (lv_at hl 3 rfl) ?_
  refine rwVv (wr := neRS cI cS G (sN_saved (sN_now u u4.2) u4.1)) (As := [.int p1, .int p2]) (rest := []) neS_f F (c_X2_turn l D cI cS cJ (G 0) (N_now (sN_saved (sN_now u u4.2) u4.1)) H.size p1 p2 h) (cw_X3_46 hts (Nat.le_of_ble_eq_true rfl) (Nat.le_of_ble_eq_true rfl)) hK hP hD hS hA (recv (ci := 2) (k0 := 1) hK hP rfl rfl) rfl hl.1 rfl (Nat.le_of_ble_eq_true rfl) dX3_setOpen_33 ⟨(Nat.le_of_ble_eq_true rfl), (Nat.le_of_ble_eq_true rfl)⟩ (fun u8 H locs h hP hD hS => ?_)
  have hP : va_P D vwCl (neW cI cS G (sN_now (sN_saved (sN_now u u4.2) u4.1) u8)) H := vP_perm (neS_b u8) hP
  have hD : va_D A (neW cI cS G (sN_now (sN_saved (sN_now u u4.2) u4.1) u8)) := vD_perm (neS_b u8) hD
  refine lv_iload_n hx hb dX3_setOpen_36 rfl (lv_at hl 0 rfl) ?_
  exact hQ b6 h hP hD hS dX3_setOpen_37

def wp_X3_setKey (u : Ne) (p1 : Int32) (p2 : Int32) (post : Int32 → Ne → Prop) : Prop :=
  wp_X3_innAndBodyFault p1 p2 (fun r1 => wp_X3_refuse r1 (wp_X1_keep (N_saved u, N_now u) (fun u4 => wp_X3_read 8 (S_keys (N_now (sN_saved (sN_now u u4.2) u4.1))) p1 (fun r5 => wp_X3_write 8 (S_keys (N_now (sN_saved (sN_now u u4.2) u4.1))) p1 p2 (fun f7 => post r5 (sN_now (sN_saved (sN_now u u4.2) u4.1) (aS_keys (N_now (sN_saved (sN_now u u4.2) u4.1)) f7)))))))
set_option maxHeartbeats 4000000 in
set_option maxRecDepth 100000 in
theorem c_X3_setKey (l : Launch) (D : va_G) (cI cS cJ : ClassId) (G : Nat → Nat → Nat) (u : Ne) (sz : Nat) (p1 : Int32) (p2 : Int32) {post : Int32 → Ne → Prop} (h : wp_X3_setKey u p1 p2 post) : Met l yX3_setKey (wsA yX3_setKey cX3_setKey 4 (some .int)) rm_X3_setKey (va_Pc [.ref (G 2 0), .int p1, .int p2] (rwP D (tysA cI cS cJ) (neW cI cS G u) sz)) (va_Qi post (fun u9 t => va_P D vwCl ((neW cI cS G) u9) t.heap ∧ va_D (va_A (neW cI cS G u) sz) ((neW cI cS G) u9)) (va_A (neW cI cS G u) sz)) 0 0 (va_A (neW cI cS G u) sz) := by
  refine mkRWi (wf := (neW cI cS G)) (by decide +kernel) (Nat.le_of_ble_eq_true rfl) (fun {p e s m args below meth c Q ls A H0 H locs} hx hb F hts hown hK hP hD hS hA hl hQ => ?_)
  have hown : s.vm.findClass RX3 = some m.cls := hown
  have F : CallFix p m c cX3_setKey 4 s args wsT RX3 := F
  have hl : lv_has ls 4 [(0, .ref (G 2 0)), (1, .int p1), (2, .int p2)] := hl
  unfold wp_X3_setKey at h
  refine lv_iload_n hx hb dX3_setKey_0 rfl (lv_at hl 1 rfl) ?_
  refine lv_iload_n hx hb dX3_setKey_1 rfl (lv_at hl 2 rfl) ?_
  refine roSi (As := [.int p1, .int p2]) (rest := []) F (c_X3_innAndBodyFault l D cI cS cJ H p1 p2 h) (cw_X3_50 hts (Nat.le_of_ble_eq_true rfl) (Nat.le_of_ble_eq_true rfl)) hK vP_nil rfl hl.1 rfl (Nat.le_of_ble_eq_true rfl) dX3_setKey_2 ⟨(Nat.le_of_ble_eq_true rfl), (Nat.le_of_ble_eq_true rfl)⟩ (fun r1 h => ?_)
  refine roSv (As := [.int r1]) (rest := []) F (c_X3_refuse l D cI cS cJ H r1 h) (cw_X3_34 hts (Nat.le_of_ble_eq_true rfl) (Nat.le_of_ble_eq_true rfl)) hK vP_nil rfl hl.1 rfl (Nat.le_of_ble_eq_true rfl) dX3_setKey_5 ⟨(Nat.le_of_ble_eq_true rfl), (Nat.le_of_ble_eq_true rfl)⟩ (fun h => ?_)
  refine lv_aload_n hx hb dX3_setKey_8 rfl (lv_at hl 0 rfl) ?_
  refine va_get (D := D) (ci := 3) (v := .ref (G 2 1)) (C := RX3) (T := TX3) (N := 3) hx hb hts inT3 hown hK.k hP 0 rfl rfl 1 (by decide) (hts _ q_133) (fun _ h9 => h9) rfl dX3_setKey_9 ?_
  refine lv_aload_n hx hb dX3_setKey_12 rfl (lv_at hl 0 rfl) ?_
  refine va_get (D := D) (ci := 3) (v := .ref (G 0 0)) (C := RX3) (T := TX3) (N := 3) hx hb hts inT3 hown hK.k hP 0 rfl rfl 0 (by decide) (hts _ q_132) (fun _ h9 => h9) rfl dX3_setKey_13 ?_
  refine rwVv (wr := neRK cI G u) (As := [.ref (G 0 0)]) (rest := []) neK_f F (c_X1_keep l D cI cS cJ G (N_saved u, N_now u) H.size h) (cw_X3_38 hts (Nat.le_of_ble_eq_true rfl) (Nat.le_of_ble_eq_true rfl)) hK hP hD hS hA (recv (ci := 1) (k0 := 12) hK hP rfl rfl) rfl hl.1 rfl (Nat.le_of_ble_eq_true rfl) dX3_setKey_16 ⟨(Nat.le_of_ble_eq_true rfl), (Nat.le_of_ble_eq_true rfl)⟩ (fun u4 H locs h hP hD hS => ?_)
  have hP : va_P D vwCl (neW cI cS G (sN_saved (sN_now u u4.2) u4.1)) H := vP_perm (neK_b u4) hP
  have hD : va_D A (neW cI cS G (sN_saved (sN_now u u4.2) u4.1)) := vD_perm (neK_b u4) hD
  refine lv_aload_n hx hb dX3_setKey_19 rfl (lv_at hl 0 rfl) ?_
  refine va_get (D := D) (ci := 3) (v := .ref (G 0 0)) (C := RX3) (T := TX3) (N := 3) hx hb hts inT3 hown hK.k hP 0 rfl rfl 0 (by decide) (hts _ q_132) (fun _ h9 => h9) rfl dX3_setKey_20 ?_
  refine va_get (D := D) (ci := 2) (v := .ref ((G 0) 1)) (C := RX2) (T := TX2) (N := 12) hx hb hts inT2 hown hK.k hP 1 rfl rfl 1 (by decide) (hts _ q_56) (fun _ h9 => h9) rfl dX3_setKey_23 ?_
  refine lv_iload_n hx hb dX3_setKey_26 rfl (lv_at hl 1 rfl) ?_
  refine roSi (As := [.ref ((G 0) 1), .int p1]) (rest := []) F (c_X3_read l D cI cS cJ ((G 0) 1) 8 (S_keys (N_now (sN_saved (sN_now u u4.2) u4.1))) H p1 h) (cw_X3_58 hts (Nat.le_of_ble_eq_true rfl) (Nat.le_of_ble_eq_true rfl)) hK (vP_one hP 2 rfl) rfl hl.1 rfl (Nat.le_of_ble_eq_true rfl) dX3_setKey_27 ⟨(Nat.le_of_ble_eq_true rfl), (Nat.le_of_ble_eq_true rfl)⟩ (fun r5 h => ?_)
  refine lv_istore_n (lv' := [(3, .int r5), (0, .ref (G 2 0)), (1, .int p1), (2, .int p2)]) hx hb dX3_setKey_30 rfl hl (by decide) rfl (fun ls hl => ?_)
  refine lv_aload_n hx hb dX3_setKey_31 rfl (lv_at hl 1 rfl) ?_
  refine va_get (D := D) (ci := 3) (v := .ref (G 0 0)) (C := RX3) (T := TX3) (N := 3) hx hb hts inT3 hown hK.k hP 0 rfl rfl 0 (by decide) (hts _ q_132) (fun _ h9 => h9) rfl dX3_setKey_32 ?_
  refine va_get (D := D) (ci := 2) (v := .ref ((G 0) 1)) (C := RX2) (T := TX2) (N := 12) hx hb hts inT2 hown hK.k hP 1 rfl rfl 1 (by decide) (hts _ q_56) (fun _ h9 => h9) rfl dX3_setKey_35 ?_
  refine lv_iload_n hx hb dX3_setKey_38 rfl (lv_at hl 2 rfl) ?_
  refine lv_iload_n hx hb dX3_setKey_39 rfl (lv_at hl 3 rfl) ?_
  refine rwSv (wr := List.eraseIdx (neW cI cS G (sN_saved (sN_now u u4.2) u4.1)) 2) (wf := fun f1 => [(((G 0) 1), .inl (cI, 8, .inl f1))]) (As := [.ref ((G 0) 1), .int p1, .int p2]) (rest := []) (perm_k _ 2 rfl) F (c_X3_write l D cI cS cJ ((G 0) 1) 8 (S_keys (N_now (sN_saved (sN_now u u4.2) u4.1))) H.size p1 p2 h) (cw_X3_62 hts (Nat.le_of_ble_eq_true rfl) (Nat.le_of_ble_eq_true rfl)) hK hP hD hS hA rfl hl.1 rfl (Nat.le_of_ble_eq_true rfl) dX3_setKey_40 ⟨(Nat.le_of_ble_eq_true rfl), (Nat.le_of_ble_eq_true rfl)⟩ (fun f7 H locs h hP hD hS => ?_)
  have hP : va_P D vwCl (neW cI cS G (sN_now (sN_saved (sN_now u u4.2) u4.1) (aS_keys (N_now (sN_saved (sN_now u u4.2) u4.1)) f7))) H := vP_set1 (k := 2) (ws := neW cI cS G (sN_saved (sN_now u u4.2) u4.1)) rfl hP
  have hD : va_D A (neW cI cS G (sN_now (sN_saved (sN_now u u4.2) u4.1) (aS_keys (N_now (sN_saved (sN_now u u4.2) u4.1)) f7))) := vD_set1 (k := 2) (ws := neW cI cS G (sN_saved (sN_now u u4.2) u4.1)) rfl hD
  refine lv_iload_n hx hb dX3_setKey_43 rfl (lv_at hl 0 rfl) ?_
  exact hQ h hP hD hS dX3_setKey_44

def wp_X3_isOpen (u : Ne) (p1 : Int32) (post : Int32 → Prop) : Prop :=
  wp_X3_innFault p1 (fun r1 => wp_X3_refuse r1 (wp_X2_hasOpen (N_now u) p1 (fun r3 => post r3)))
set_option maxHeartbeats 4000000 in
set_option maxRecDepth 100000 in
theorem c_X3_isOpen (l : Launch) (D : va_G) (cI cS cJ : ClassId) (G : Nat → Nat → Nat) (u : Ne) (H0 : Heap) (p1 : Int32) {post : Int32 → Prop} (h : wp_X3_isOpen u p1 post) : Met l yX3_isOpen (wsA yX3_isOpen cX3_isOpen 2 (some .boolean)) rm_X3_isOpen (va_Pc [.ref (G 2 0), .int p1] (roP D (tysA cI cS cJ) (neW cI cS G u) H0)) (va_Qi (fun r (_ : Unit) => bz r ∧ post r) (fun _ t => t.heap = H0) nF) 0 0 nF := by
  refine mkROz (by decide +kernel) (Nat.le_of_ble_eq_true rfl) (fun {p e s m args below meth c Q ls} hx hb F hts hown hK hP hl hQ => ?_)
  have hown : s.vm.findClass RX3 = some m.cls := hown
  have F : CallFix p m c cX3_isOpen 2 s args wsT RX3 := F
  have hl : lv_has ls 2 [(0, .ref (G 2 0)), (1, .int p1)] := hl
  unfold wp_X3_isOpen at h
  refine lv_iload_n hx hb dX3_isOpen_0 rfl (lv_at hl 1 rfl) ?_
  refine roSi (As := [.int p1]) (rest := []) F (c_X3_innFault l D cI cS cJ H0 p1 h) (cw_X3_30 hts (Nat.le_of_ble_eq_true rfl) (Nat.le_of_ble_eq_true rfl)) hK vP_nil rfl hl.1 rfl (Nat.le_of_ble_eq_true rfl) dX3_isOpen_1 ⟨(Nat.le_of_ble_eq_true rfl), (Nat.le_of_ble_eq_true rfl)⟩ (fun r1 h => ?_)
  refine roSv (As := [.int r1]) (rest := []) F (c_X3_refuse l D cI cS cJ H0 r1 h) (cw_X3_34 hts (Nat.le_of_ble_eq_true rfl) (Nat.le_of_ble_eq_true rfl)) hK vP_nil rfl hl.1 rfl (Nat.le_of_ble_eq_true rfl) dX3_isOpen_4 ⟨(Nat.le_of_ble_eq_true rfl), (Nat.le_of_ble_eq_true rfl)⟩ (fun h => ?_)
  refine lv_aload_n hx hb dX3_isOpen_7 rfl (lv_at hl 0 rfl) ?_
  refine va_get (D := D) (ci := 3) (v := .ref (G 0 0)) (C := RX3) (T := TX3) (N := 3) hx hb hts inT3 hown hK.k hP 0 rfl rfl 0 (by decide) (hts _ q_132) (fun _ h9 => h9) rfl dX3_isOpen_8 ?_
  refine lv_iload_n hx hb dX3_isOpen_11 rfl (lv_at hl 1 rfl) ?_
  refine roVi (As := [.int p1]) (rest := []) F (c_X2_hasOpen l D cI cS cJ (G 0) (N_now u) H0 p1 h) (cw_X3_42 hts (Nat.le_of_ble_eq_true rfl) (Nat.le_of_ble_eq_true rfl)) hK (neS hP) (recv (ci := 2) (k0 := 1) hK hP rfl rfl) rfl hl.1 rfl (Nat.le_of_ble_eq_true rfl) dX3_isOpen_12 ⟨(Nat.le_of_ble_eq_true rfl), (Nat.le_of_ble_eq_true rfl)⟩ (fun r3 h => ?_)
  obtain ⟨b4, h⟩ := h
  exact hQ b4 h dX3_isOpen_15

def wp_X3_cover (u : Ne) (p1 : Int32) (p2 : Int32) (post : Int32 → Prop) : Prop :=
  wp_X3_innAndBodyFault p1 p2 (fun r1 => wp_X3_refuse r1 (wp_X3_read 8 (S_keys (N_now u)) p1 (fun r3 => wp_X3_covered p2 r3 (fun r4 => post r4))))
set_option maxHeartbeats 4000000 in
set_option maxRecDepth 100000 in
theorem c_X3_cover (l : Launch) (D : va_G) (cI cS cJ : ClassId) (G : Nat → Nat → Nat) (u : Ne) (H0 : Heap) (p1 : Int32) (p2 : Int32) {post : Int32 → Prop} (h : wp_X3_cover u p1 p2 post) : Met l yX3_cover (wsA yX3_cover cX3_cover 3 (some .int)) rm_X3_cover (va_Pc [.ref (G 2 0), .int p1, .int p2] (roP D (tysA cI cS cJ) (neW cI cS G u) H0)) (va_Qi (fun r (_ : Unit) => post r) (fun _ t => t.heap = H0) nF) 0 0 nF := by
  refine mkROi (by decide +kernel) (Nat.le_of_ble_eq_true rfl) (fun {p e s m args below meth c Q ls} hx hb F hts hown hK hP hl hQ => ?_)
  have hown : s.vm.findClass RX3 = some m.cls := hown
  have F : CallFix p m c cX3_cover 3 s args wsT RX3 := F
  have hl : lv_has ls 3 [(0, .ref (G 2 0)), (1, .int p1), (2, .int p2)] := hl
  unfold wp_X3_cover at h
  refine lv_iload_n hx hb dX3_cover_0 rfl (lv_at hl 1 rfl) ?_
  refine lv_iload_n hx hb dX3_cover_1 rfl (lv_at hl 2 rfl) ?_
  refine roSi (As := [.int p1, .int p2]) (rest := []) F (c_X3_innAndBodyFault l D cI cS cJ H0 p1 p2 h) (cw_X3_50 hts (Nat.le_of_ble_eq_true rfl) (Nat.le_of_ble_eq_true rfl)) hK vP_nil rfl hl.1 rfl (Nat.le_of_ble_eq_true rfl) dX3_cover_2 ⟨(Nat.le_of_ble_eq_true rfl), (Nat.le_of_ble_eq_true rfl)⟩ (fun r1 h => ?_)
  refine roSv (As := [.int r1]) (rest := []) F (c_X3_refuse l D cI cS cJ H0 r1 h) (cw_X3_34 hts (Nat.le_of_ble_eq_true rfl) (Nat.le_of_ble_eq_true rfl)) hK vP_nil rfl hl.1 rfl (Nat.le_of_ble_eq_true rfl) dX3_cover_5 ⟨(Nat.le_of_ble_eq_true rfl), (Nat.le_of_ble_eq_true rfl)⟩ (fun h => ?_)
  refine lv_iload_n hx hb dX3_cover_8 rfl (lv_at hl 2 rfl) ?_
  refine lv_aload_n hx hb dX3_cover_9 rfl (lv_at hl 0 rfl) ?_
  refine va_get (D := D) (ci := 3) (v := .ref (G 0 0)) (C := RX3) (T := TX3) (N := 3) hx hb hts inT3 hown hK.k hP 0 rfl rfl 0 (by decide) (hts _ q_132) (fun _ h9 => h9) rfl dX3_cover_10 ?_
  refine va_get (D := D) (ci := 2) (v := .ref ((G 0) 1)) (C := RX2) (T := TX2) (N := 12) hx hb hts inT2 hown hK.k hP 1 rfl rfl 1 (by decide) (hts _ q_56) (fun _ h9 => h9) rfl dX3_cover_13 ?_
  refine lv_iload_n hx hb dX3_cover_16 rfl (lv_at hl 1 rfl) ?_
  refine roSi (As := [.ref ((G 0) 1), .int p1]) (rest := [.int p2]) F (c_X3_read l D cI cS cJ ((G 0) 1) 8 (S_keys (N_now u)) H0 p1 h) (cw_X3_58 hts (Nat.le_of_ble_eq_true rfl) (Nat.le_of_ble_eq_true rfl)) hK (vP_one hP 2 rfl) rfl hl.1 rfl (Nat.le_of_ble_eq_true rfl) dX3_cover_17 ⟨(Nat.le_of_ble_eq_true rfl), (Nat.le_of_ble_eq_true rfl)⟩ (fun r3 h => ?_)
  refine roSi (As := [.int p2, .int r3]) (rest := []) F (c_X3_covered l D cI cS cJ H0 p2 r3 h) (cw_X3_66 hts (Nat.le_of_ble_eq_true rfl) (Nat.le_of_ble_eq_true rfl)) hK vP_nil rfl hl.1 rfl (Nat.le_of_ble_eq_true rfl) dX3_cover_20 ⟨(Nat.le_of_ble_eq_true rfl), (Nat.le_of_ble_eq_true rfl)⟩ (fun r4 h => ?_)
  exact hQ h dX3_cover_23

def wp_X3_uncover (u : Ne) (p1 : Int32) (p2 : Int32) (post : Int32 → Prop) : Prop :=
  wp_X3_innAndBodyFault p1 p2 (fun r1 => wp_X3_refuse r1 (wp_X3_read 8 (S_keys (N_now u)) p1 (fun r3 => wp_X3_uncovered p2 r3 (fun r4 => post r4))))
set_option maxHeartbeats 4000000 in
set_option maxRecDepth 100000 in
theorem c_X3_uncover (l : Launch) (D : va_G) (cI cS cJ : ClassId) (G : Nat → Nat → Nat) (u : Ne) (H0 : Heap) (p1 : Int32) (p2 : Int32) {post : Int32 → Prop} (h : wp_X3_uncover u p1 p2 post) : Met l yX3_uncover (wsA yX3_uncover cX3_uncover 3 (some .int)) rm_X3_uncover (va_Pc [.ref (G 2 0), .int p1, .int p2] (roP D (tysA cI cS cJ) (neW cI cS G u) H0)) (va_Qi (fun r (_ : Unit) => post r) (fun _ t => t.heap = H0) nF) 0 0 nF := by
  refine mkROi (by decide +kernel) (Nat.le_of_ble_eq_true rfl) (fun {p e s m args below meth c Q ls} hx hb F hts hown hK hP hl hQ => ?_)
  have hown : s.vm.findClass RX3 = some m.cls := hown
  have F : CallFix p m c cX3_uncover 3 s args wsT RX3 := F
  have hl : lv_has ls 3 [(0, .ref (G 2 0)), (1, .int p1), (2, .int p2)] := hl
  unfold wp_X3_uncover at h
  refine lv_iload_n hx hb dX3_uncover_0 rfl (lv_at hl 1 rfl) ?_
  refine lv_iload_n hx hb dX3_uncover_1 rfl (lv_at hl 2 rfl) ?_
  refine roSi (As := [.int p1, .int p2]) (rest := []) F (c_X3_innAndBodyFault l D cI cS cJ H0 p1 p2 h) (cw_X3_50 hts (Nat.le_of_ble_eq_true rfl) (Nat.le_of_ble_eq_true rfl)) hK vP_nil rfl hl.1 rfl (Nat.le_of_ble_eq_true rfl) dX3_uncover_2 ⟨(Nat.le_of_ble_eq_true rfl), (Nat.le_of_ble_eq_true rfl)⟩ (fun r1 h => ?_)
  refine roSv (As := [.int r1]) (rest := []) F (c_X3_refuse l D cI cS cJ H0 r1 h) (cw_X3_34 hts (Nat.le_of_ble_eq_true rfl) (Nat.le_of_ble_eq_true rfl)) hK vP_nil rfl hl.1 rfl (Nat.le_of_ble_eq_true rfl) dX3_uncover_5 ⟨(Nat.le_of_ble_eq_true rfl), (Nat.le_of_ble_eq_true rfl)⟩ (fun h => ?_)
  refine lv_iload_n hx hb dX3_uncover_8 rfl (lv_at hl 2 rfl) ?_
  refine lv_aload_n hx hb dX3_uncover_9 rfl (lv_at hl 0 rfl) ?_
  refine va_get (D := D) (ci := 3) (v := .ref (G 0 0)) (C := RX3) (T := TX3) (N := 3) hx hb hts inT3 hown hK.k hP 0 rfl rfl 0 (by decide) (hts _ q_132) (fun _ h9 => h9) rfl dX3_uncover_10 ?_
  refine va_get (D := D) (ci := 2) (v := .ref ((G 0) 1)) (C := RX2) (T := TX2) (N := 12) hx hb hts inT2 hown hK.k hP 1 rfl rfl 1 (by decide) (hts _ q_56) (fun _ h9 => h9) rfl dX3_uncover_13 ?_
  refine lv_iload_n hx hb dX3_uncover_16 rfl (lv_at hl 1 rfl) ?_
  refine roSi (As := [.ref ((G 0) 1), .int p1]) (rest := [.int p2]) F (c_X3_read l D cI cS cJ ((G 0) 1) 8 (S_keys (N_now u)) H0 p1 h) (cw_X3_58 hts (Nat.le_of_ble_eq_true rfl) (Nat.le_of_ble_eq_true rfl)) hK (vP_one hP 2 rfl) rfl hl.1 rfl (Nat.le_of_ble_eq_true rfl) dX3_uncover_17 ⟨(Nat.le_of_ble_eq_true rfl), (Nat.le_of_ble_eq_true rfl)⟩ (fun r3 h => ?_)
  refine roSi (As := [.int p2, .int r3]) (rest := []) F (c_X3_uncovered l D cI cS cJ H0 p2 r3 h) (cw_X3_69 hts (Nat.le_of_ble_eq_true rfl) (Nat.le_of_ble_eq_true rfl)) hK vP_nil rfl hl.1 rfl (Nat.le_of_ble_eq_true rfl) dX3_uncover_20 ⟨(Nat.le_of_ble_eq_true rfl), (Nat.le_of_ble_eq_true rfl)⟩ (fun r4 h => ?_)
  exact hQ h dX3_uncover_23

def wp_X3_layFault (u : Ne) (p1 : Int32) (p2 : Int32) (p3 : Int32) (p4 : Int32) (post : Int32 → Prop) : Prop :=
  wp_X3_innFault p1 (fun r1 => (¬ r1 = 0 → post (1 : Int32)) ∧ (r1 = 0 → wp_X3_innFault p2 (fun r3 => (¬ r3 = 0 → post (1 : Int32)) ∧ (r3 = 0 → wp_X3_innFault p3 (fun r5 => (¬ r5 = 0 → post (1 : Int32)) ∧ (r5 = 0 → wp_X3_hallFault p4 (fun r7 => (r7 = 0 → (p1 = p2 → post (2 : Int32)) ∧ (¬ p1 = p2 → (p1 = p3 → post (2 : Int32)) ∧ (¬ p1 = p3 → (¬ p2 = p3 → wp_X2_hasOpen (N_now u) p1 (fun r12 => jn (fun (x14 : Int32) => (x14 = 0 → post (3 : Int32)) ∧ (¬ x14 = 0 → ((6 : Int32) ≤ (S_roadCount (N_now u)) → post (3 : Int32)) ∧ (¬ (6 : Int32) ≤ (S_roadCount (N_now u)) → post (0 : Int32)))) (fun (J16 : Int32 → Prop) => jn (J16 (0 : Int32)) (fun (J21 : Prop) => (r12 = 0 → J21) ∧ (¬ r12 = 0 → wp_X2_hasOpen (N_now u) p2 (fun r25 => (r25 = 0 → J21) ∧ (¬ r25 = 0 → wp_X2_hasOpen (N_now u) p3 (fun r28 => (r28 = 0 → J21) ∧ (¬ r28 = 0 → J16 (1 : Int32)))))))))) ∧ (p2 = p3 → post (2 : Int32))))) ∧ (¬ r7 = 0 → post (1 : Int32)))))))))
set_option maxHeartbeats 4000000 in
set_option maxRecDepth 100000 in
theorem c_X3_layFault (l : Launch) (D : va_G) (cI cS cJ : ClassId) (G : Nat → Nat → Nat) (u : Ne) (H0 : Heap) (p1 : Int32) (p2 : Int32) (p3 : Int32) (p4 : Int32) {post : Int32 → Prop} (h : wp_X3_layFault u p1 p2 p3 p4 post) : Met l yX3_layFault (wsA yX3_layFault cX3_layFault 6 (some .int)) rm_X3_layFault (va_Pc [.ref (G 2 0), .int p1, .int p2, .int p3, .int p4] (roP D (tysA cI cS cJ) (neW cI cS G u) H0)) (va_Qi (fun r (_ : Unit) => post r) (fun _ t => t.heap = H0) nF) 0 0 nF := by
  refine mkROi (by decide +kernel) (Nat.le_of_ble_eq_true rfl) (fun {p e s m args below meth c Q ls} hx hb F hts hown hK hP hl hQ => ?_)
  have hown : s.vm.findClass RX3 = some m.cls := hown
  have F : CallFix p m c cX3_layFault 6 s args wsT RX3 := F
  have hl : lv_has ls 6 [(0, .ref (G 2 0)), (1, .int p1), (2, .int p2), (3, .int p3), (4, .int p4)] := hl
  unfold wp_X3_layFault at h
  refine lv_iload_n hx hb dX3_layFault_0 rfl (lv_at hl 1 rfl) ?_
  refine roSi (As := [.int p1]) (rest := []) F (c_X3_innFault l D cI cS cJ H0 p1 h) (cw_X3_30 hts (Nat.le_of_ble_eq_true rfl) (Nat.le_of_ble_eq_true rfl)) hK vP_nil rfl hl.1 rfl (Nat.le_of_ble_eq_true rfl) dX3_layFault_1 ⟨(Nat.le_of_ble_eq_true rfl), (Nat.le_of_ble_eq_true rfl)⟩ (fun r1 h => ?_)
  refine lv_if_ne (tgt := 29) hx hb dX3_layFault_4 (by decide) (fun c2 => ?_) (fun c2 => ?_)
  · replace h := h.1 c2
    refine lv_iconst (v := (1 : Int32)) hx hb dX3_layFault_29 (by decide) ?_
    exact hQ h dX3_layFault_30
  · replace h := h.2 c2
    refine lv_iload_n hx hb dX3_layFault_7 rfl (lv_at hl 2 rfl) ?_
    refine roSi (As := [.int p2]) (rest := []) F (c_X3_innFault l D cI cS cJ H0 p2 h) (cw_X3_30 hts (Nat.le_of_ble_eq_true rfl) (Nat.le_of_ble_eq_true rfl)) hK vP_nil rfl hl.1 rfl (Nat.le_of_ble_eq_true rfl) dX3_layFault_8 ⟨(Nat.le_of_ble_eq_true rfl), (Nat.le_of_ble_eq_true rfl)⟩ (fun r3 h => ?_)
    refine lv_if_ne (tgt := 29) hx hb dX3_layFault_11 (by decide) (fun c4 => ?_) (fun c4 => ?_)
    · replace h := h.1 c4
      refine lv_iconst (v := (1 : Int32)) hx hb dX3_layFault_29 (by decide) ?_
      exact hQ h dX3_layFault_30
    · replace h := h.2 c4
      refine lv_iload_n hx hb dX3_layFault_14 rfl (lv_at hl 3 rfl) ?_
      refine roSi (As := [.int p3]) (rest := []) F (c_X3_innFault l D cI cS cJ H0 p3 h) (cw_X3_30 hts (Nat.le_of_ble_eq_true rfl) (Nat.le_of_ble_eq_true rfl)) hK vP_nil rfl hl.1 rfl (Nat.le_of_ble_eq_true rfl) dX3_layFault_15 ⟨(Nat.le_of_ble_eq_true rfl), (Nat.le_of_ble_eq_true rfl)⟩ (fun r5 h => ?_)
      refine lv_if_ne (tgt := 29) hx hb dX3_layFault_18 (by decide) (fun c6 => ?_) (fun c6 => ?_)
      · replace h := h.1 c6
        refine lv_iconst (v := (1 : Int32)) hx hb dX3_layFault_29 (by decide) ?_
        exact hQ h dX3_layFault_30
      · replace h := h.2 c6
        refine lv_iload hx hb dX3_layFault_21 (lv_at hl 4 rfl) ?_
        refine roSi (As := [.int p4]) (rest := []) F (c_X3_hallFault l D cI cS cJ H0 p4 h) (cw_X3_148 hts (Nat.le_of_ble_eq_true rfl) (Nat.le_of_ble_eq_true rfl)) hK vP_nil rfl hl.1 rfl (Nat.le_of_ble_eq_true rfl) dX3_layFault_23 ⟨(Nat.le_of_ble_eq_true rfl), (Nat.le_of_ble_eq_true rfl)⟩ (fun r7 h => ?_)
        refine lv_if_eq (tgt := 31) hx hb dX3_layFault_26 (by decide) (fun c8 => ?_) (fun c8 => ?_)
        · replace h := h.1 c8
          refine lv_iload_n hx hb dX3_layFault_31 rfl (lv_at hl 1 rfl) ?_
          refine lv_iload_n hx hb dX3_layFault_32 rfl (lv_at hl 2 rfl) ?_
          refine lv_icmp_eq (tgt := 46) hx hb dX3_layFault_33 (by decide) (fun c9 => ?_) (fun c9 => ?_)
          · replace h := h.1 c9
            refine lv_iconst (v := (2 : Int32)) hx hb dX3_layFault_46 (by decide) ?_
            exact hQ h dX3_layFault_47
          · replace h := h.2 c9
            refine lv_iload_n hx hb dX3_layFault_36 rfl (lv_at hl 1 rfl) ?_
            refine lv_iload_n hx hb dX3_layFault_37 rfl (lv_at hl 3 rfl) ?_
            refine lv_icmp_eq (tgt := 46) hx hb dX3_layFault_38 (by decide) (fun c10 => ?_) (fun c10 => ?_)
            · replace h := h.1 c10
              refine lv_iconst (v := (2 : Int32)) hx hb dX3_layFault_46 (by decide) ?_
              exact hQ h dX3_layFault_47
            · replace h := h.2 c10
              refine lv_iload_n hx hb dX3_layFault_41 rfl (lv_at hl 2 rfl) ?_
              refine lv_iload_n hx hb dX3_layFault_42 rfl (lv_at hl 3 rfl) ?_
              refine lv_icmp_ne (tgt := 48) hx hb dX3_layFault_43 (by decide) (fun c11 => ?_) (fun c11 => ?_)
              · replace h := h.1 c11
                refine lv_aload_n hx hb dX3_layFault_48 rfl (lv_at hl 0 rfl) ?_
                refine va_get (D := D) (ci := 3) (v := .ref (G 0 0)) (C := RX3) (T := TX3) (N := 3) hx hb hts inT3 hown hK.k hP 0 rfl rfl 0 (by decide) (hts _ q_132) (fun _ h9 => h9) rfl dX3_layFault_49 ?_
                refine lv_iload_n hx hb dX3_layFault_52 rfl (lv_at hl 1 rfl) ?_
                refine roVi (As := [.int p1]) (rest := []) F (c_X2_hasOpen l D cI cS cJ (G 0) (N_now u) H0 p1 h) (cw_X3_42 hts (Nat.le_of_ble_eq_true rfl) (Nat.le_of_ble_eq_true rfl)) hK (neS hP) (recv (ci := 2) (k0 := 1) hK hP rfl rfl) rfl hl.1 rfl (Nat.le_of_ble_eq_true rfl) dX3_layFault_53 ⟨(Nat.le_of_ble_eq_true rfl), (Nat.le_of_ble_eq_true rfl)⟩ (fun r12 h => ?_)
                obtain ⟨b13, h⟩ := h
                refine jn_e h (fun J16 e18 h => ?_)
                have w17 : ∀ (x14 : Int32) (ls : Array Slot), bz x14 → lv_has ls 6 [(0, .ref (G 2 0))] → J16 x14 → W p l e rm_X3_layFault s m args below meth c H0 [] 0 0 Q (F0 m 86 ls [.int x14]) := by
                  intro x14 ls b15 hl h
                  subst e18
                  refine lv_istore (lv' := [(5, .int x14), (0, .ref (G 2 0))]) hx hb dX3_layFault_86 hl (by decide) rfl (fun ls hl => ?_)
                  refine lv_iload hx hb dX3_layFault_88 (lv_at hl 0 rfl) ?_
                  refine lv_if_eq (tgt := 109) hx hb dX3_layFault_90 (by decide) (fun c19 => ?_) (fun c19 => ?_)
                  · replace h := h.1 c19
                    refine lv_iconst (v := (3 : Int32)) hx hb dX3_layFault_109 (by decide) ?_
                    exact hQ h dX3_layFault_110
                  · replace h := h.2 c19
                    refine lv_aload_n hx hb dX3_layFault_93 rfl (lv_at hl 1 rfl) ?_
                    refine va_get (D := D) (ci := 3) (v := .ref (G 0 0)) (C := RX3) (T := TX3) (N := 3) hx hb hts inT3 hown hK.k hP 0 rfl rfl 0 (by decide) (hts _ q_132) (fun _ h9 => h9) rfl dX3_layFault_94 ?_
                    refine va_get (D := D) (ci := 2) (v := .int (S_roadCount (N_now u))) (C := RX2) (T := TX2) (N := 12) hx hb hts inT2 hown hK.k hP 1 rfl rfl 2 (by decide) (hts _ q_58) (fun _ h9 => h9) rfl dX3_layFault_97 ?_
                    refine lv_bipush (v := (6 : Int32)) hx hb dX3_layFault_100 (by decide) ?_
                    refine lv_icmp_ge (tgt := 109) hx hb dX3_layFault_102 (by decide) (fun c20 => ?_) (fun c20 => ?_)
                    · replace h := h.1 c20
                      refine lv_iconst (v := (3 : Int32)) hx hb dX3_layFault_109 (by decide) ?_
                      exact hQ h dX3_layFault_110
                    · replace h := h.2 c20
                      refine lv_iconst (v := (0 : Int32)) hx hb dX3_layFault_105 (by decide) ?_
                      refine lv_goto (tgt := 110) hx hb dX3_layFault_106 (by decide) ?_
                      exact hQ h dX3_layFault_110
                clear e18
                refine jn_e h (fun J21 e23 h => ?_)
                have w22 : ∀  (ls : Array Slot), lv_has ls 6 [(0, .ref (G 2 0))] → J21 → W p l e rm_X3_layFault s m args below meth c H0 [] 0 0 Q (F0 m 85 ls []) := by
                  intro ls hl h
                  subst e23
                  refine lv_iconst (v := (0 : Int32)) hx hb dX3_layFault_85 (by decide) ?_
                  exact w17 (0 : Int32) _ bz0 hl h
                clear e23
                refine lv_if_eq (tgt := 85) hx hb dX3_layFault_56 (by decide) (fun c24 => ?_) (fun c24 => ?_)
                · replace h := h.1 c24
                  exact w22 _ (lv_sub hl [0] rfl) h
                · replace h := h.2 c24
                  refine lv_aload_n hx hb dX3_layFault_59 rfl (lv_at hl 0 rfl) ?_
                  refine va_get (D := D) (ci := 3) (v := .ref (G 0 0)) (C := RX3) (T := TX3) (N := 3) hx hb hts inT3 hown hK.k hP 0 rfl rfl 0 (by decide) (hts _ q_132) (fun _ h9 => h9) rfl dX3_layFault_60 ?_
                  refine lv_iload_n hx hb dX3_layFault_63 rfl (lv_at hl 2 rfl) ?_
                  refine roVi (As := [.int p2]) (rest := []) F (c_X2_hasOpen l D cI cS cJ (G 0) (N_now u) H0 p2 h) (cw_X3_42 hts (Nat.le_of_ble_eq_true rfl) (Nat.le_of_ble_eq_true rfl)) hK (neS hP) (recv (ci := 2) (k0 := 1) hK hP rfl rfl) rfl hl.1 rfl (Nat.le_of_ble_eq_true rfl) dX3_layFault_64 ⟨(Nat.le_of_ble_eq_true rfl), (Nat.le_of_ble_eq_true rfl)⟩ (fun r25 h => ?_)
                  obtain ⟨b26, h⟩ := h
                  refine lv_if_eq (tgt := 85) hx hb dX3_layFault_67 (by decide) (fun c27 => ?_) (fun c27 => ?_)
                  · replace h := h.1 c27
                    exact w22 _ (lv_sub hl [0] rfl) h
                  · replace h := h.2 c27
                    refine lv_aload_n hx hb dX3_layFault_70 rfl (lv_at hl 0 rfl) ?_
                    refine va_get (D := D) (ci := 3) (v := .ref (G 0 0)) (C := RX3) (T := TX3) (N := 3) hx hb hts inT3 hown hK.k hP 0 rfl rfl 0 (by decide) (hts _ q_132) (fun _ h9 => h9) rfl dX3_layFault_71 ?_
                    refine lv_iload_n hx hb dX3_layFault_74 rfl (lv_at hl 3 rfl) ?_
                    refine roVi (As := [.int p3]) (rest := []) F (c_X2_hasOpen l D cI cS cJ (G 0) (N_now u) H0 p3 h) (cw_X3_42 hts (Nat.le_of_ble_eq_true rfl) (Nat.le_of_ble_eq_true rfl)) hK (neS hP) (recv (ci := 2) (k0 := 1) hK hP rfl rfl) rfl hl.1 rfl (Nat.le_of_ble_eq_true rfl) dX3_layFault_75 ⟨(Nat.le_of_ble_eq_true rfl), (Nat.le_of_ble_eq_true rfl)⟩ (fun r28 h => ?_)
                    obtain ⟨b29, h⟩ := h
                    refine lv_if_eq (tgt := 85) hx hb dX3_layFault_78 (by decide) (fun c30 => ?_) (fun c30 => ?_)
                    · replace h := h.1 c30
                      exact w22 _ (lv_sub hl [0] rfl) h
                    · replace h := h.2 c30
                      refine lv_iconst (v := (1 : Int32)) hx hb dX3_layFault_81 (by decide) ?_
                      refine lv_goto (tgt := 86) hx hb dX3_layFault_82 (by decide) ?_
                      exact w17 (1 : Int32) _ bz1 (lv_sub hl [0] rfl) h
              · replace h := h.2 c11
                refine lv_iconst (v := (2 : Int32)) hx hb dX3_layFault_46 (by decide) ?_
                exact hQ h dX3_layFault_47
        · replace h := h.2 c8
          refine lv_iconst (v := (1 : Int32)) hx hb dX3_layFault_29 (by decide) ?_
          exact hQ h dX3_layFault_30

def wp_X3_lay (u : Ne) (p1 : Int32) (p2 : Int32) (p3 : Int32) (p4 : Int32) (post : Int32 → Ne → Prop) : Prop :=
  wp_X3_layFault u p1 p2 p3 p4 (fun r1 => wp_X3_refuse r1 (wp_X1_keep (N_saved u, N_now u) (fun u4 => wp_X2_addRoad (N_now (sN_saved (sN_now u u4.2) u4.1)) p1 p2 p3 p4 (fun r5 u6 => post r5 (sN_now (sN_saved (sN_now u u4.2) u4.1) u6)))))
set_option maxHeartbeats 4000000 in
set_option maxRecDepth 100000 in
theorem c_X3_lay (l : Launch) (D : va_G) (cI cS cJ : ClassId) (G : Nat → Nat → Nat) (u : Ne) (sz : Nat) (p1 : Int32) (p2 : Int32) (p3 : Int32) (p4 : Int32) {post : Int32 → Ne → Prop} (h : wp_X3_lay u p1 p2 p3 p4 post) : Met l yX3_lay (wsA yX3_lay cX3_lay 5 (some .int)) rm_X3_lay (va_Pc [.ref (G 2 0), .int p1, .int p2, .int p3, .int p4] (rwP D (tysA cI cS cJ) (neW cI cS G u) sz)) (va_Qi post (fun u9 t => va_P D vwCl ((neW cI cS G) u9) t.heap ∧ va_D (va_A (neW cI cS G u) sz) ((neW cI cS G) u9)) (va_A (neW cI cS G u) sz)) 0 0 (va_A (neW cI cS G u) sz) := by
  refine mkRWi (wf := (neW cI cS G)) (by decide +kernel) (Nat.le_of_ble_eq_true rfl) (fun {p e s m args below meth c Q ls A H0 H locs} hx hb F hts hown hK hP hD hS hA hl hQ => ?_)
  have hown : s.vm.findClass RX3 = some m.cls := hown
  have F : CallFix p m c cX3_lay 5 s args wsT RX3 := F
  have hl : lv_has ls 5 [(0, .ref (G 2 0)), (1, .int p1), (2, .int p2), (3, .int p3), (4, .int p4)] := hl
  unfold wp_X3_lay at h
  refine lv_aload_n hx hb dX3_lay_0 rfl (lv_at hl 0 rfl) ?_
  refine lv_iload_n hx hb dX3_lay_1 rfl (lv_at hl 1 rfl) ?_
  refine lv_iload_n hx hb dX3_lay_2 rfl (lv_at hl 2 rfl) ?_
  refine lv_iload_n hx hb dX3_lay_3 rfl (lv_at hl 3 rfl) ?_
  refine lv_iload hx hb dX3_lay_4 (lv_at hl 4 rfl) ?_
  refine roVi (As := [.int p1, .int p2, .int p3, .int p4]) (rest := []) F (c_X3_layFault l D cI cS cJ G u H p1 p2 p3 p4 h) (cw_X3_72 hts (Nat.le_of_ble_eq_true rfl) (Nat.le_of_ble_eq_true rfl)) hK hP (recv (ci := 3) (k0 := 0) hK hP rfl rfl) rfl hl.1 rfl (Nat.le_of_ble_eq_true rfl) dX3_lay_6 ⟨(Nat.le_of_ble_eq_true rfl), (Nat.le_of_ble_eq_true rfl)⟩ (fun r1 h => ?_)
  refine roSv (As := [.int r1]) (rest := []) F (c_X3_refuse l D cI cS cJ H r1 h) (cw_X3_34 hts (Nat.le_of_ble_eq_true rfl) (Nat.le_of_ble_eq_true rfl)) hK vP_nil rfl hl.1 rfl (Nat.le_of_ble_eq_true rfl) dX3_lay_9 ⟨(Nat.le_of_ble_eq_true rfl), (Nat.le_of_ble_eq_true rfl)⟩ (fun h => ?_)
  refine lv_aload_n hx hb dX3_lay_12 rfl (lv_at hl 0 rfl) ?_
  refine va_get (D := D) (ci := 3) (v := .ref (G 2 1)) (C := RX3) (T := TX3) (N := 3) hx hb hts inT3 hown hK.k hP 0 rfl rfl 1 (by decide) (hts _ q_133) (fun _ h9 => h9) rfl dX3_lay_13 ?_
  refine lv_aload_n hx hb dX3_lay_16 rfl (lv_at hl 0 rfl) ?_
  refine va_get (D := D) (ci := 3) (v := .ref (G 0 0)) (C := RX3) (T := TX3) (N := 3) hx hb hts inT3 hown hK.k hP 0 rfl rfl 0 (by decide) (hts _ q_132) (fun _ h9 => h9) rfl dX3_lay_17 ?_
  refine rwVv (wr := neRK cI G u) (As := [.ref (G 0 0)]) (rest := []) neK_f F (c_X1_keep l D cI cS cJ G (N_saved u, N_now u) H.size h) (cw_X3_38 hts (Nat.le_of_ble_eq_true rfl) (Nat.le_of_ble_eq_true rfl)) hK hP hD hS hA (recv (ci := 1) (k0 := 12) hK hP rfl rfl) rfl hl.1 rfl (Nat.le_of_ble_eq_true rfl) dX3_lay_20 ⟨(Nat.le_of_ble_eq_true rfl), (Nat.le_of_ble_eq_true rfl)⟩ (fun u4 H locs h hP hD hS => ?_)
  have hP : va_P D vwCl (neW cI cS G (sN_saved (sN_now u u4.2) u4.1)) H := vP_perm (neK_b u4) hP
  have hD : va_D A (neW cI cS G (sN_saved (sN_now u u4.2) u4.1)) := vD_perm (neK_b u4) hD
  refine lv_aload_n hx hb dX3_lay_23 rfl (lv_at hl 0 rfl) ?_
  refine va_get (D := D) (ci := 3) (v := .ref (G 0 0)) (C := RX3) (T := TX3) (N := 3) hx hb hts inT3 hown hK.k hP 0 rfl rfl 0 (by decide) (hts _ q_132) (fun _ h9 => h9) rfl dX3_lay_24 ?_
  refine lv_iload_n hx hb dX3_lay_27 rfl (lv_at hl 1 rfl) ?_
  refine lv_iload_n hx hb dX3_lay_28 rfl (lv_at hl 2 rfl) ?_
  refine lv_iload_n hx hb dX3_lay_29 rfl (lv_at hl 3 rfl) ?_
  refine lv_iload hx hb dX3_lay_30 (lv_at hl 4 rfl) ?_
  refine rwVi (wr := neRS cI cS G (sN_saved (sN_now u u4.2) u4.1)) (As := [.int p1, .int p2, .int p3, .int p4]) (rest := []) neS_f F (c_X2_addRoad l D cI cS cJ (G 0) (N_now (sN_saved (sN_now u u4.2) u4.1)) H.size p1 p2 p3 p4 h) (cw_X3_76 hts (Nat.le_of_ble_eq_true rfl) (Nat.le_of_ble_eq_true rfl)) hK hP hD hS hA (recv (ci := 2) (k0 := 1) hK hP rfl rfl) rfl hl.1 rfl (Nat.le_of_ble_eq_true rfl) dX3_lay_32 ⟨(Nat.le_of_ble_eq_true rfl), (Nat.le_of_ble_eq_true rfl)⟩ (fun r5 u6 H locs h hP hD hS => ?_)
  have hP : va_P D vwCl (neW cI cS G (sN_now (sN_saved (sN_now u u4.2) u4.1) u6)) H := vP_perm (neS_b u6) hP
  have hD : va_D A (neW cI cS G (sN_now (sN_saved (sN_now u u4.2) u4.1) u6)) := vD_perm (neS_b u6) hD
  exact hQ h hP hD hS dX3_lay_35

def wp_X3_takeUp (u : Ne)  (post : Int32 → Ne → Prop) : Prop :=
  jn (False) (fun (J1 : Prop) => ((S_roadCount (N_now u)) = 0 → J1) ∧ (¬ (S_roadCount (N_now u)) = 0 → wp_X2_isUsed (N_now u) ((S_roadCount (N_now u)) - (1 : Int32)) (fun r5 => (r5 = 0 → wp_X1_keep (N_saved u, N_now u) (fun u9 => wp_X2_removeLastRoad (N_now (sN_saved (sN_now u u9.2) u9.1)) (fun u11 => post (S_roadCount (N_now (sN_now (sN_saved (sN_now u u9.2) u9.1) u11))) (sN_now (sN_saved (sN_now u u9.2) u9.1) u11)))) ∧ (¬ r5 = 0 → J1))))
set_option maxHeartbeats 4000000 in
set_option maxRecDepth 100000 in
theorem c_X3_takeUp (l : Launch) (D : va_G) (cI cS cJ : ClassId) (G : Nat → Nat → Nat) (u : Ne) (sz : Nat)  {post : Int32 → Ne → Prop} (h : wp_X3_takeUp u post) : Met l yX3_takeUp (wsA yX3_takeUp cX3_takeUp 1 (some .int)) rm_X3_takeUp (va_Pc [.ref (G 2 0)] (rwP D (tysA cI cS cJ) (neW cI cS G u) sz)) (va_Qi post (fun u9 t => va_P D vwCl ((neW cI cS G) u9) t.heap ∧ va_D (va_A (neW cI cS G u) sz) ((neW cI cS G) u9)) (va_A (neW cI cS G u) sz)) 0 0 (va_A (neW cI cS G u) sz) := by
  refine mkRWi (wf := (neW cI cS G)) (by decide +kernel) (Nat.le_of_ble_eq_true rfl) (fun {p e s m args below meth c Q ls A H0 H locs} hx hb F hts hown hK hP hD hS hA hl hQ => ?_)
  have hown : s.vm.findClass RX3 = some m.cls := hown
  have F : CallFix p m c cX3_takeUp 1 s args wsT RX3 := F
  have hl : lv_has ls 1 [(0, .ref (G 2 0))] := hl
  unfold wp_X3_takeUp at h
  refine lv_aload_n hx hb dX3_takeUp_0 rfl (lv_at hl 0 rfl) ?_
  refine va_get (D := D) (ci := 3) (v := .ref (G 0 0)) (C := RX3) (T := TX3) (N := 3) hx hb hts inT3 hown hK.k hP 0 rfl rfl 0 (by decide) (hts _ q_132) (fun _ h9 => h9) rfl dX3_takeUp_1 ?_
  refine va_get (D := D) (ci := 2) (v := .int (S_roadCount (N_now u))) (C := RX2) (T := TX2) (N := 12) hx hb hts inT2 hown hK.k hP 1 rfl rfl 2 (by decide) (hts _ q_58) (fun _ h9 => h9) rfl dX3_takeUp_4 ?_
  refine jn_e h (fun J1 e3 h => ?_)
  have w2 : ∀  (ls : Array Slot) (H : Heap) (locs : List Loc), lv_has ls 1 [] → va_P D vwCl (neW cI cS G u) H → va_D A (neW cI cS G u) → va_S A H0 H locs → J1 → W p l e rm_X3_takeUp s m args below meth c H locs 0 0 Q (F0 m 29 ls []) := by
    intro ls H locs hl hP hD hS h
    subst e3
    exact h.elim
  clear e3
  refine lv_if_eq (tgt := 29) hx hb dX3_takeUp_7 (by decide) (fun c4 => ?_) (fun c4 => ?_)
  · replace h := h.1 c4
    exact w2 _ _ _ (lv_sub hl [] rfl) hP hD hS h
  · replace h := h.2 c4
    refine lv_aload_n hx hb dX3_takeUp_10 rfl (lv_at hl 0 rfl) ?_
    refine va_get (D := D) (ci := 3) (v := .ref (G 0 0)) (C := RX3) (T := TX3) (N := 3) hx hb hts inT3 hown hK.k hP 0 rfl rfl 0 (by decide) (hts _ q_132) (fun _ h9 => h9) rfl dX3_takeUp_11 ?_
    refine lv_aload_n hx hb dX3_takeUp_14 rfl (lv_at hl 0 rfl) ?_
    refine va_get (D := D) (ci := 3) (v := .ref (G 0 0)) (C := RX3) (T := TX3) (N := 3) hx hb hts inT3 hown hK.k hP 0 rfl rfl 0 (by decide) (hts _ q_132) (fun _ h9 => h9) rfl dX3_takeUp_15 ?_
    refine va_get (D := D) (ci := 2) (v := .int (S_roadCount (N_now u))) (C := RX2) (T := TX2) (N := 12) hx hb hts inT2 hown hK.k hP 1 rfl rfl 2 (by decide) (hts _ q_58) (fun _ h9 => h9) rfl dX3_takeUp_18 ?_
    refine lv_iconst (v := (1 : Int32)) hx hb dX3_takeUp_21 (by decide) ?_
    refine lv_isub hx hb dX3_takeUp_22 ?_
    refine roVi (As := [.int ((S_roadCount (N_now u)) - (1 : Int32))]) (rest := []) F (c_X2_isUsed l D cI cS cJ (G 0) (N_now u) H ((S_roadCount (N_now u)) - (1 : Int32)) h) (cw_X3_83 hts (Nat.le_of_ble_eq_true rfl) (Nat.le_of_ble_eq_true rfl)) hK (neS hP) (recv (ci := 2) (k0 := 1) hK hP rfl rfl) rfl hl.1 rfl (Nat.le_of_ble_eq_true rfl) dX3_takeUp_23 ⟨(Nat.le_of_ble_eq_true rfl), (Nat.le_of_ble_eq_true rfl)⟩ (fun r5 h => ?_)
    obtain ⟨b6, h⟩ := h
    refine lv_if_eq (tgt := 39) hx hb dX3_takeUp_26 (by decide) (fun c7 => ?_) (fun c7 => ?_)
    · replace h := h.1 c7
      refine lv_aload_n hx hb dX3_takeUp_39 rfl (lv_at hl 0 rfl) ?_
      refine va_get (D := D) (ci := 3) (v := .ref (G 2 1)) (C := RX3) (T := TX3) (N := 3) hx hb hts inT3 hown hK.k hP 0 rfl rfl 1 (by decide) (hts _ q_133) (fun _ h9 => h9) rfl dX3_takeUp_40 ?_
      refine lv_aload_n hx hb dX3_takeUp_43 rfl (lv_at hl 0 rfl) ?_
      refine va_get (D := D) (ci := 3) (v := .ref (G 0 0)) (C := RX3) (T := TX3) (N := 3) hx hb hts inT3 hown hK.k hP 0 rfl rfl 0 (by decide) (hts _ q_132) (fun _ h9 => h9) rfl dX3_takeUp_44 ?_
      refine rwVv (wr := neRK cI G u) (As := [.ref (G 0 0)]) (rest := []) neK_f F (c_X1_keep l D cI cS cJ G (N_saved u, N_now u) H.size h) (cw_X3_38 hts (Nat.le_of_ble_eq_true rfl) (Nat.le_of_ble_eq_true rfl)) hK hP hD hS hA (recv (ci := 1) (k0 := 12) hK hP rfl rfl) rfl hl.1 rfl (Nat.le_of_ble_eq_true rfl) dX3_takeUp_47 ⟨(Nat.le_of_ble_eq_true rfl), (Nat.le_of_ble_eq_true rfl)⟩ (fun u9 H locs h hP hD hS => ?_)
      have hP : va_P D vwCl (neW cI cS G (sN_saved (sN_now u u9.2) u9.1)) H := vP_perm (neK_b u9) hP
      have hD : va_D A (neW cI cS G (sN_saved (sN_now u u9.2) u9.1)) := vD_perm (neK_b u9) hD
      refine lv_aload_n hx hb dX3_takeUp_50 rfl (lv_at hl 0 rfl) ?_
      refine va_get (D := D) (ci := 3) (v := .ref (G 0 0)) (C := RX3) (T := TX3) (N := 3) hx hb hts inT3 hown hK.k hP 0 rfl rfl 0 (by decide) (hts _ q_132) (fun _ h9 => h9) rfl dX3_takeUp_51 ?_
      refine rwVv (wr := neRS cI cS G (sN_saved (sN_now u u9.2) u9.1)) (As := []) (rest := []) neS_f F (c_X2_removeLastRoad l D cI cS cJ (G 0) (N_now (sN_saved (sN_now u u9.2) u9.1)) H.size  h) (cw_X3_93 hts (Nat.le_of_ble_eq_true rfl) (Nat.le_of_ble_eq_true rfl)) hK hP hD hS hA (recv (ci := 2) (k0 := 1) hK hP rfl rfl) rfl hl.1 rfl (Nat.le_of_ble_eq_true rfl) dX3_takeUp_54 ⟨(Nat.le_of_ble_eq_true rfl), (Nat.le_of_ble_eq_true rfl)⟩ (fun u11 H locs h hP hD hS => ?_)
      have hP : va_P D vwCl (neW cI cS G (sN_now (sN_saved (sN_now u u9.2) u9.1) u11)) H := vP_perm (neS_b u11) hP
      have hD : va_D A (neW cI cS G (sN_now (sN_saved (sN_now u u9.2) u9.1) u11)) := vD_perm (neS_b u11) hD
      refine lv_aload_n hx hb dX3_takeUp_57 rfl (lv_at hl 0 rfl) ?_
      refine va_get (D := D) (ci := 3) (v := .ref (G 0 0)) (C := RX3) (T := TX3) (N := 3) hx hb hts inT3 hown hK.k hP 0 rfl rfl 0 (by decide) (hts _ q_132) (fun _ h9 => h9) rfl dX3_takeUp_58 ?_
      refine va_get (D := D) (ci := 2) (v := .int (S_roadCount (N_now (sN_now (sN_saved (sN_now u u9.2) u9.1) u11)))) (C := RX2) (T := TX2) (N := 12) hx hb hts inT2 hown hK.k hP 1 rfl rfl 2 (by decide) (hts _ q_58) (fun _ h9 => h9) rfl dX3_takeUp_61 ?_
      exact hQ h hP hD hS dX3_takeUp_64
    · replace h := h.2 c7
      exact w2 _ _ _ (lv_sub hl [] rfl) hP hD hS h

def wp_X3_roads (u : Ne)  (post : Int32 → Prop) : Prop :=
  post (S_roadCount (N_now u))
set_option maxHeartbeats 4000000 in
set_option maxRecDepth 100000 in
theorem c_X3_roads (l : Launch) (D : va_G) (cI cS cJ : ClassId) (G : Nat → Nat → Nat) (u : Ne) (H0 : Heap)  {post : Int32 → Prop} (h : wp_X3_roads u post) : Met l yX3_roads (wsA yX3_roads cX3_roads 1 (some .int)) rm_X3_roads (va_Pc [.ref (G 2 0)] (roP D (tysA cI cS cJ) (neW cI cS G u) H0)) (va_Qi (fun r (_ : Unit) => post r) (fun _ t => t.heap = H0) nF) 0 0 nF := by
  refine mkROi (by decide +kernel) (Nat.le_of_ble_eq_true rfl) (fun {p e s m args below meth c Q ls} hx hb F hts hown hK hP hl hQ => ?_)
  have hown : s.vm.findClass RX3 = some m.cls := hown
  have F : CallFix p m c cX3_roads 1 s args wsT RX3 := F
  have hl : lv_has ls 1 [(0, .ref (G 2 0))] := hl
  unfold wp_X3_roads at h
  refine lv_aload_n hx hb dX3_roads_0 rfl (lv_at hl 0 rfl) ?_
  refine va_get (D := D) (ci := 3) (v := .ref (G 0 0)) (C := RX3) (T := TX3) (N := 3) hx hb hts inT3 hown hK.k hP 0 rfl rfl 0 (by decide) (hts _ q_132) (fun _ h9 => h9) rfl dX3_roads_1 ?_
  refine va_get (D := D) (ci := 2) (v := .int (S_roadCount (N_now u))) (C := RX2) (T := TX2) (N := 12) hx hb hts inT2 hown hK.k hP 1 rfl rfl 2 (by decide) (hts _ q_58) (fun _ h9 => h9) rfl dX3_roads_4 ?_
  exact hQ h dX3_roads_7

def wp_X3_roadFault (u : Ne) (p1 : Int32) (post : Int32 → Prop) : Prop :=
  wp_X3_isBetween p1 (0 : Int32) ((S_roadCount (N_now u)) - (1 : Int32)) (fun r1 => (r1 = 0 → post (1 : Int32)) ∧ (¬ r1 = 0 → post (0 : Int32)))
set_option maxHeartbeats 4000000 in
set_option maxRecDepth 100000 in
theorem c_X3_roadFault (l : Launch) (D : va_G) (cI cS cJ : ClassId) (G : Nat → Nat → Nat) (u : Ne) (H0 : Heap) (p1 : Int32) {post : Int32 → Prop} (h : wp_X3_roadFault u p1 post) : Met l yX3_roadFault (wsA yX3_roadFault cX3_roadFault 2 (some .int)) rm_X3_roadFault (va_Pc [.ref (G 2 0), .int p1] (roP D (tysA cI cS cJ) (neW cI cS G u) H0)) (va_Qi (fun r (_ : Unit) => post r) (fun _ t => t.heap = H0) nF) 0 0 nF := by
  refine mkROi (by decide +kernel) (Nat.le_of_ble_eq_true rfl) (fun {p e s m args below meth c Q ls} hx hb F hts hown hK hP hl hQ => ?_)
  have hown : s.vm.findClass RX3 = some m.cls := hown
  have F : CallFix p m c cX3_roadFault 2 s args wsT RX3 := F
  have hl : lv_has ls 2 [(0, .ref (G 2 0)), (1, .int p1)] := hl
  unfold wp_X3_roadFault at h
  refine lv_iload_n hx hb dX3_roadFault_0 rfl (lv_at hl 1 rfl) ?_
  refine lv_iconst (v := (0 : Int32)) hx hb dX3_roadFault_1 (by decide) ?_
  refine lv_aload_n hx hb dX3_roadFault_2 rfl (lv_at hl 0 rfl) ?_
  refine va_get (D := D) (ci := 3) (v := .ref (G 0 0)) (C := RX3) (T := TX3) (N := 3) hx hb hts inT3 hown hK.k hP 0 rfl rfl 0 (by decide) (hts _ q_132) (fun _ h9 => h9) rfl dX3_roadFault_3 ?_
  refine va_get (D := D) (ci := 2) (v := .int (S_roadCount (N_now u))) (C := RX2) (T := TX2) (N := 12) hx hb hts inT2 hown hK.k hP 1 rfl rfl 2 (by decide) (hts _ q_58) (fun _ h9 => h9) rfl dX3_roadFault_6 ?_
  refine lv_iconst (v := (1 : Int32)) hx hb dX3_roadFault_9 (by decide) ?_
  refine lv_isub hx hb dX3_roadFault_10 ?_
  refine roSi (As := [.int p1, .int (0 : Int32), .int ((S_roadCount (N_now u)) - (1 : Int32))]) (rest := []) F (c_X3_isBetween l D cI cS cJ H0 p1 (0 : Int32) ((S_roadCount (N_now u)) - (1 : Int32)) h) (cw_X3_96 hts (Nat.le_of_ble_eq_true rfl) (Nat.le_of_ble_eq_true rfl)) hK vP_nil rfl hl.1 rfl (Nat.le_of_ble_eq_true rfl) dX3_roadFault_11 ⟨(Nat.le_of_ble_eq_true rfl), (Nat.le_of_ble_eq_true rfl)⟩ (fun r1 h => ?_)
  obtain ⟨b2, h⟩ := h
  refine lv_if_eq (tgt := 21) hx hb dX3_roadFault_14 (by decide) (fun c3 => ?_) (fun c3 => ?_)
  · replace h := h.1 c3
    refine lv_iconst (v := (1 : Int32)) hx hb dX3_roadFault_21 (by decide) ?_
    exact hQ h dX3_roadFault_22
  · replace h := h.2 c3
    refine lv_iconst (v := (0 : Int32)) hx hb dX3_roadFault_17 (by decide) ?_
    refine lv_goto (tgt := 22) hx hb dX3_roadFault_18 (by decide) ?_
    exact hQ h dX3_roadFault_22

def wp_X3_inn (u : Ne) (p1 : Int32) (p2 : Int32) (post : Int32 → Prop) : Prop :=
  wp_X3_isBetween p2 (1 : Int32) (3 : Int32) (fun r1 => jn (fun (x3 : Int32) => wp_X3_refuse x3 (wp_X2_innAt (N_now u) p1 p2 (fun r8 => post r8))) (fun (J4 : Int32 → Prop) => (r1 = 0 → J4 (1 : Int32)) ∧ (¬ r1 = 0 → wp_X3_roadFault u p1 (fun r10 => J4 r10))))
set_option maxHeartbeats 4000000 in
set_option maxRecDepth 100000 in
theorem c_X3_inn (l : Launch) (D : va_G) (cI cS cJ : ClassId) (G : Nat → Nat → Nat) (u : Ne) (H0 : Heap) (p1 : Int32) (p2 : Int32) {post : Int32 → Prop} (h : wp_X3_inn u p1 p2 post) : Met l yX3_inn (wsA yX3_inn cX3_inn 3 (some .int)) rm_X3_inn (va_Pc [.ref (G 2 0), .int p1, .int p2] (roP D (tysA cI cS cJ) (neW cI cS G u) H0)) (va_Qi (fun r (_ : Unit) => post r) (fun _ t => t.heap = H0) nF) 0 0 nF := by
  refine mkROi (by decide +kernel) (Nat.le_of_ble_eq_true rfl) (fun {p e s m args below meth c Q ls} hx hb F hts hown hK hP hl hQ => ?_)
  have hown : s.vm.findClass RX3 = some m.cls := hown
  have F : CallFix p m c cX3_inn 3 s args wsT RX3 := F
  have hl : lv_has ls 3 [(0, .ref (G 2 0)), (1, .int p1), (2, .int p2)] := hl
  unfold wp_X3_inn at h
  refine lv_iload_n hx hb dX3_inn_0 rfl (lv_at hl 2 rfl) ?_
  refine lv_iconst (v := (1 : Int32)) hx hb dX3_inn_1 (by decide) ?_
  refine lv_iconst (v := (3 : Int32)) hx hb dX3_inn_2 (by decide) ?_
  refine roSi (As := [.int p2, .int (1 : Int32), .int (3 : Int32)]) (rest := []) F (c_X3_isBetween l D cI cS cJ H0 p2 (1 : Int32) (3 : Int32) h) (cw_X3_96 hts (Nat.le_of_ble_eq_true rfl) (Nat.le_of_ble_eq_true rfl)) hK vP_nil rfl hl.1 rfl (Nat.le_of_ble_eq_true rfl) dX3_inn_3 ⟨(Nat.le_of_ble_eq_true rfl), (Nat.le_of_ble_eq_true rfl)⟩ (fun r1 h => ?_)
  obtain ⟨b2, h⟩ := h
  refine jn_e h (fun J4 e6 h => ?_)
  have w5 : ∀ (x3 : Int32) (ls : Array Slot), lv_has ls 3 [(0, .ref (G 2 0)), (1, .int p1), (2, .int p2)] → J4 x3 → W p l e rm_X3_inn s m args below meth c H0 [] 0 0 Q (F0 m 18 ls [.int x3]) := by
    intro x3 ls hl h
    subst e6
    refine roSv (As := [.int x3]) (rest := []) F (c_X3_refuse l D cI cS cJ H0 x3 h) (cw_X3_34 hts (Nat.le_of_ble_eq_true rfl) (Nat.le_of_ble_eq_true rfl)) hK vP_nil rfl hl.1 rfl (Nat.le_of_ble_eq_true rfl) dX3_inn_18 ⟨(Nat.le_of_ble_eq_true rfl), (Nat.le_of_ble_eq_true rfl)⟩ (fun h => ?_)
    refine lv_aload_n hx hb dX3_inn_21 rfl (lv_at hl 0 rfl) ?_
    refine va_get (D := D) (ci := 3) (v := .ref (G 0 0)) (C := RX3) (T := TX3) (N := 3) hx hb hts inT3 hown hK.k hP 0 rfl rfl 0 (by decide) (hts _ q_132) (fun _ h9 => h9) rfl dX3_inn_22 ?_
    refine lv_iload_n hx hb dX3_inn_25 rfl (lv_at hl 1 rfl) ?_
    refine lv_iload_n hx hb dX3_inn_26 rfl (lv_at hl 2 rfl) ?_
    refine roVi (As := [.int p1, .int p2]) (rest := []) F (c_X2_innAt l D cI cS cJ (G 0) (N_now u) H0 p1 p2 h) (cw_X3_103 hts (Nat.le_of_ble_eq_true rfl) (Nat.le_of_ble_eq_true rfl)) hK (neS hP) (recv (ci := 2) (k0 := 1) hK hP rfl rfl) rfl hl.1 rfl (Nat.le_of_ble_eq_true rfl) dX3_inn_27 ⟨(Nat.le_of_ble_eq_true rfl), (Nat.le_of_ble_eq_true rfl)⟩ (fun r8 h => ?_)
    exact hQ h dX3_inn_30
  clear e6
  refine lv_if_eq (tgt := 17) hx hb dX3_inn_6 (by decide) (fun c9 => ?_) (fun c9 => ?_)
  · replace h := h.1 c9
    refine lv_iconst (v := (1 : Int32)) hx hb dX3_inn_17 (by decide) ?_
    exact w5 (1 : Int32) _ hl h
  · replace h := h.2 c9
    refine lv_aload_n hx hb dX3_inn_9 rfl (lv_at hl 0 rfl) ?_
    refine lv_iload_n hx hb dX3_inn_10 rfl (lv_at hl 1 rfl) ?_
    refine roVi (As := [.int p1]) (rest := []) F (c_X3_roadFault l D cI cS cJ G u H0 p1 h) (cw_X3_100 hts (Nat.le_of_ble_eq_true rfl) (Nat.le_of_ble_eq_true rfl)) hK hP (recv (ci := 3) (k0 := 0) hK hP rfl rfl) rfl hl.1 rfl (Nat.le_of_ble_eq_true rfl) dX3_inn_11 ⟨(Nat.le_of_ble_eq_true rfl), (Nat.le_of_ble_eq_true rfl)⟩ (fun r10 h => ?_)
    refine lv_goto (tgt := 18) hx hb dX3_inn_14 (by decide) ?_
    exact w5 r10 _ hl h

def wp_X3_hall (u : Ne) (p1 : Int32) (post : Int32 → Prop) : Prop :=
  wp_X3_roadFault u p1 (fun r1 => wp_X3_refuse r1 (wp_X3_read 6 (S_roadHalls (N_now u)) p1 (fun r3 => post r3)))
set_option maxHeartbeats 4000000 in
set_option maxRecDepth 100000 in
theorem c_X3_hall (l : Launch) (D : va_G) (cI cS cJ : ClassId) (G : Nat → Nat → Nat) (u : Ne) (H0 : Heap) (p1 : Int32) {post : Int32 → Prop} (h : wp_X3_hall u p1 post) : Met l yX3_hall (wsA yX3_hall cX3_hall 2 (some .int)) rm_X3_hall (va_Pc [.ref (G 2 0), .int p1] (roP D (tysA cI cS cJ) (neW cI cS G u) H0)) (va_Qi (fun r (_ : Unit) => post r) (fun _ t => t.heap = H0) nF) 0 0 nF := by
  refine mkROi (by decide +kernel) (Nat.le_of_ble_eq_true rfl) (fun {p e s m args below meth c Q ls} hx hb F hts hown hK hP hl hQ => ?_)
  have hown : s.vm.findClass RX3 = some m.cls := hown
  have F : CallFix p m c cX3_hall 2 s args wsT RX3 := F
  have hl : lv_has ls 2 [(0, .ref (G 2 0)), (1, .int p1)] := hl
  unfold wp_X3_hall at h
  refine lv_aload_n hx hb dX3_hall_0 rfl (lv_at hl 0 rfl) ?_
  refine lv_iload_n hx hb dX3_hall_1 rfl (lv_at hl 1 rfl) ?_
  refine roVi (As := [.int p1]) (rest := []) F (c_X3_roadFault l D cI cS cJ G u H0 p1 h) (cw_X3_100 hts (Nat.le_of_ble_eq_true rfl) (Nat.le_of_ble_eq_true rfl)) hK hP (recv (ci := 3) (k0 := 0) hK hP rfl rfl) rfl hl.1 rfl (Nat.le_of_ble_eq_true rfl) dX3_hall_2 ⟨(Nat.le_of_ble_eq_true rfl), (Nat.le_of_ble_eq_true rfl)⟩ (fun r1 h => ?_)
  refine roSv (As := [.int r1]) (rest := []) F (c_X3_refuse l D cI cS cJ H0 r1 h) (cw_X3_34 hts (Nat.le_of_ble_eq_true rfl) (Nat.le_of_ble_eq_true rfl)) hK vP_nil rfl hl.1 rfl (Nat.le_of_ble_eq_true rfl) dX3_hall_5 ⟨(Nat.le_of_ble_eq_true rfl), (Nat.le_of_ble_eq_true rfl)⟩ (fun h => ?_)
  refine lv_aload_n hx hb dX3_hall_8 rfl (lv_at hl 0 rfl) ?_
  refine va_get (D := D) (ci := 3) (v := .ref (G 0 0)) (C := RX3) (T := TX3) (N := 3) hx hb hts inT3 hown hK.k hP 0 rfl rfl 0 (by decide) (hts _ q_132) (fun _ h9 => h9) rfl dX3_hall_9 ?_
  refine va_get (D := D) (ci := 2) (v := .ref ((G 0) 4)) (C := RX2) (T := TX2) (N := 12) hx hb hts inT2 hown hK.k hP 1 rfl rfl 5 (by decide) (hts _ q_62) (fun _ h9 => h9) rfl dX3_hall_12 ?_
  refine lv_iload_n hx hb dX3_hall_15 rfl (lv_at hl 1 rfl) ?_
  refine roSi (As := [.ref ((G 0) 4), .int p1]) (rest := []) F (c_X3_read l D cI cS cJ ((G 0) 4) 6 (S_roadHalls (N_now u)) H0 p1 h) (cw_X3_58 hts (Nat.le_of_ble_eq_true rfl) (Nat.le_of_ble_eq_true rfl)) hK (vP_one hP 5 rfl) rfl hl.1 rfl (Nat.le_of_ble_eq_true rfl) dX3_hall_16 ⟨(Nat.le_of_ble_eq_true rfl), (Nat.le_of_ble_eq_true rfl)⟩ (fun r3 h => ?_)
  exact hQ h dX3_hall_19

def wp_X3_stands (u : Ne) (p1 : Int32) (post : Int32 → Prop) : Prop :=
  wp_X3_roadFault u p1 (fun r1 => wp_X3_refuse r1 (wp_X2_allOpenOn (N_now u) p1 (fun r3 => post r3)))
set_option maxHeartbeats 4000000 in
set_option maxRecDepth 100000 in
theorem c_X3_stands (l : Launch) (D : va_G) (cI cS cJ : ClassId) (G : Nat → Nat → Nat) (u : Ne) (H0 : Heap) (p1 : Int32) {post : Int32 → Prop} (h : wp_X3_stands u p1 post) : Met l yX3_stands (wsA yX3_stands cX3_stands 2 (some .boolean)) rm_X3_stands (va_Pc [.ref (G 2 0), .int p1] (roP D (tysA cI cS cJ) (neW cI cS G u) H0)) (va_Qi (fun r (_ : Unit) => bz r ∧ post r) (fun _ t => t.heap = H0) nF) 0 0 nF := by
  refine mkROz (by decide +kernel) (Nat.le_of_ble_eq_true rfl) (fun {p e s m args below meth c Q ls} hx hb F hts hown hK hP hl hQ => ?_)
  have hown : s.vm.findClass RX3 = some m.cls := hown
  have F : CallFix p m c cX3_stands 2 s args wsT RX3 := F
  have hl : lv_has ls 2 [(0, .ref (G 2 0)), (1, .int p1)] := hl
  unfold wp_X3_stands at h
  refine lv_aload_n hx hb dX3_stands_0 rfl (lv_at hl 0 rfl) ?_
  refine lv_iload_n hx hb dX3_stands_1 rfl (lv_at hl 1 rfl) ?_
  refine roVi (As := [.int p1]) (rest := []) F (c_X3_roadFault l D cI cS cJ G u H0 p1 h) (cw_X3_100 hts (Nat.le_of_ble_eq_true rfl) (Nat.le_of_ble_eq_true rfl)) hK hP (recv (ci := 3) (k0 := 0) hK hP rfl rfl) rfl hl.1 rfl (Nat.le_of_ble_eq_true rfl) dX3_stands_2 ⟨(Nat.le_of_ble_eq_true rfl), (Nat.le_of_ble_eq_true rfl)⟩ (fun r1 h => ?_)
  refine roSv (As := [.int r1]) (rest := []) F (c_X3_refuse l D cI cS cJ H0 r1 h) (cw_X3_34 hts (Nat.le_of_ble_eq_true rfl) (Nat.le_of_ble_eq_true rfl)) hK vP_nil rfl hl.1 rfl (Nat.le_of_ble_eq_true rfl) dX3_stands_5 ⟨(Nat.le_of_ble_eq_true rfl), (Nat.le_of_ble_eq_true rfl)⟩ (fun h => ?_)
  refine lv_aload_n hx hb dX3_stands_8 rfl (lv_at hl 0 rfl) ?_
  refine va_get (D := D) (ci := 3) (v := .ref (G 0 0)) (C := RX3) (T := TX3) (N := 3) hx hb hts inT3 hown hK.k hP 0 rfl rfl 0 (by decide) (hts _ q_132) (fun _ h9 => h9) rfl dX3_stands_9 ?_
  refine lv_iload_n hx hb dX3_stands_12 rfl (lv_at hl 1 rfl) ?_
  refine roVi (As := [.int p1]) (rest := []) F (c_X2_allOpenOn l D cI cS cJ (G 0) (N_now u) H0 p1 h) (cw_X3_109 hts (Nat.le_of_ble_eq_true rfl) (Nat.le_of_ble_eq_true rfl)) hK (neS hP) (recv (ci := 2) (k0 := 1) hK hP rfl rfl) rfl hl.1 rfl (Nat.le_of_ble_eq_true rfl) dX3_stands_13 ⟨(Nat.le_of_ble_eq_true rfl), (Nat.le_of_ble_eq_true rfl)⟩ (fun r3 h => ?_)
  obtain ⟨b4, h⟩ := h
  exact hQ b4 h dX3_stands_16

def wp_X3_see (u : Ne) (p1 : Int32) (p2 : Int32) (p3 : Int32) (post : Int32 → Prop) : Prop :=
  wp_X3_innFault p1 (fun r1 => wp_X3_refuse r1 (wp_X3_isBetween p3 (0 : Int32) (1 : Int32) (fun r3 => jn (fun (x5 : Int32) => wp_X3_refuse x5 (wp_X2_seenBeside (N_now u) p1 p2 p3 (fun r10 => post r10))) (fun (J6 : Int32 → Prop) => (r3 = 0 → J6 (1 : Int32)) ∧ (¬ r3 = 0 → wp_X3_roadFault u p2 (fun r12 => J6 r12))))))
set_option maxHeartbeats 4000000 in
set_option maxRecDepth 100000 in
theorem c_X3_see (l : Launch) (D : va_G) (cI cS cJ : ClassId) (G : Nat → Nat → Nat) (u : Ne) (H0 : Heap) (p1 : Int32) (p2 : Int32) (p3 : Int32) {post : Int32 → Prop} (h : wp_X3_see u p1 p2 p3 post) : Met l yX3_see (wsA yX3_see cX3_see 4 (some .int)) rm_X3_see (va_Pc [.ref (G 2 0), .int p1, .int p2, .int p3] (roP D (tysA cI cS cJ) (neW cI cS G u) H0)) (va_Qi (fun r (_ : Unit) => post r) (fun _ t => t.heap = H0) nF) 0 0 nF := by
  refine mkROi (by decide +kernel) (Nat.le_of_ble_eq_true rfl) (fun {p e s m args below meth c Q ls} hx hb F hts hown hK hP hl hQ => ?_)
  have hown : s.vm.findClass RX3 = some m.cls := hown
  have F : CallFix p m c cX3_see 4 s args wsT RX3 := F
  have hl : lv_has ls 4 [(0, .ref (G 2 0)), (1, .int p1), (2, .int p2), (3, .int p3)] := hl
  unfold wp_X3_see at h
  refine lv_iload_n hx hb dX3_see_0 rfl (lv_at hl 1 rfl) ?_
  refine roSi (As := [.int p1]) (rest := []) F (c_X3_innFault l D cI cS cJ H0 p1 h) (cw_X3_30 hts (Nat.le_of_ble_eq_true rfl) (Nat.le_of_ble_eq_true rfl)) hK vP_nil rfl hl.1 rfl (Nat.le_of_ble_eq_true rfl) dX3_see_1 ⟨(Nat.le_of_ble_eq_true rfl), (Nat.le_of_ble_eq_true rfl)⟩ (fun r1 h => ?_)
  refine roSv (As := [.int r1]) (rest := []) F (c_X3_refuse l D cI cS cJ H0 r1 h) (cw_X3_34 hts (Nat.le_of_ble_eq_true rfl) (Nat.le_of_ble_eq_true rfl)) hK vP_nil rfl hl.1 rfl (Nat.le_of_ble_eq_true rfl) dX3_see_4 ⟨(Nat.le_of_ble_eq_true rfl), (Nat.le_of_ble_eq_true rfl)⟩ (fun h => ?_)
  refine lv_iload_n hx hb dX3_see_7 rfl (lv_at hl 3 rfl) ?_
  refine lv_iconst (v := (0 : Int32)) hx hb dX3_see_8 (by decide) ?_
  refine lv_iconst (v := (1 : Int32)) hx hb dX3_see_9 (by decide) ?_
  refine roSi (As := [.int p3, .int (0 : Int32), .int (1 : Int32)]) (rest := []) F (c_X3_isBetween l D cI cS cJ H0 p3 (0 : Int32) (1 : Int32) h) (cw_X3_96 hts (Nat.le_of_ble_eq_true rfl) (Nat.le_of_ble_eq_true rfl)) hK vP_nil rfl hl.1 rfl (Nat.le_of_ble_eq_true rfl) dX3_see_10 ⟨(Nat.le_of_ble_eq_true rfl), (Nat.le_of_ble_eq_true rfl)⟩ (fun r3 h => ?_)
  obtain ⟨b4, h⟩ := h
  refine jn_e h (fun J6 e8 h => ?_)
  have w7 : ∀ (x5 : Int32) (ls : Array Slot), lv_has ls 4 [(0, .ref (G 2 0)), (1, .int p1), (2, .int p2), (3, .int p3)] → J6 x5 → W p l e rm_X3_see s m args below meth c H0 [] 0 0 Q (F0 m 25 ls [.int x5]) := by
    intro x5 ls hl h
    subst e8
    refine roSv (As := [.int x5]) (rest := []) F (c_X3_refuse l D cI cS cJ H0 x5 h) (cw_X3_34 hts (Nat.le_of_ble_eq_true rfl) (Nat.le_of_ble_eq_true rfl)) hK vP_nil rfl hl.1 rfl (Nat.le_of_ble_eq_true rfl) dX3_see_25 ⟨(Nat.le_of_ble_eq_true rfl), (Nat.le_of_ble_eq_true rfl)⟩ (fun h => ?_)
    refine lv_aload_n hx hb dX3_see_28 rfl (lv_at hl 0 rfl) ?_
    refine va_get (D := D) (ci := 3) (v := .ref (G 0 0)) (C := RX3) (T := TX3) (N := 3) hx hb hts inT3 hown hK.k hP 0 rfl rfl 0 (by decide) (hts _ q_132) (fun _ h9 => h9) rfl dX3_see_29 ?_
    refine lv_iload_n hx hb dX3_see_32 rfl (lv_at hl 1 rfl) ?_
    refine lv_iload_n hx hb dX3_see_33 rfl (lv_at hl 2 rfl) ?_
    refine lv_iload_n hx hb dX3_see_34 rfl (lv_at hl 3 rfl) ?_
    refine roVi (As := [.int p1, .int p2, .int p3]) (rest := []) F (c_X2_seenBeside l D cI cS cJ (G 0) (N_now u) H0 p1 p2 p3 h) (cw_X3_112 hts (Nat.le_of_ble_eq_true rfl) (Nat.le_of_ble_eq_true rfl)) hK (neS hP) (recv (ci := 2) (k0 := 1) hK hP rfl rfl) rfl hl.1 rfl (Nat.le_of_ble_eq_true rfl) dX3_see_35 ⟨(Nat.le_of_ble_eq_true rfl), (Nat.le_of_ble_eq_true rfl)⟩ (fun r10 h => ?_)
    exact hQ h dX3_see_38
  clear e8
  refine lv_if_eq (tgt := 24) hx hb dX3_see_13 (by decide) (fun c11 => ?_) (fun c11 => ?_)
  · replace h := h.1 c11
    refine lv_iconst (v := (1 : Int32)) hx hb dX3_see_24 (by decide) ?_
    exact w7 (1 : Int32) _ hl h
  · replace h := h.2 c11
    refine lv_aload_n hx hb dX3_see_16 rfl (lv_at hl 0 rfl) ?_
    refine lv_iload_n hx hb dX3_see_17 rfl (lv_at hl 2 rfl) ?_
    refine roVi (As := [.int p2]) (rest := []) F (c_X3_roadFault l D cI cS cJ G u H0 p2 h) (cw_X3_100 hts (Nat.le_of_ble_eq_true rfl) (Nat.le_of_ble_eq_true rfl)) hK hP (recv (ci := 3) (k0 := 0) hK hP rfl rfl) rfl hl.1 rfl (Nat.le_of_ble_eq_true rfl) dX3_see_18 ⟨(Nat.le_of_ble_eq_true rfl), (Nat.le_of_ble_eq_true rfl)⟩ (fun r12 h => ?_)
    refine lv_goto (tgt := 25) hx hb dX3_see_21 (by decide) ?_
    exact w7 r12 _ hl h

def wp_X3_known (u : Ne) (p1 : Int32) (post : Int32 → Prop) : Prop :=
  wp_X3_innFault p1 (fun r1 => wp_X3_refuse r1 (wp_X2_knownMask (N_now u) p1 (fun r3 => post r3)))
set_option maxHeartbeats 4000000 in
set_option maxRecDepth 100000 in
theorem c_X3_known (l : Launch) (D : va_G) (cI cS cJ : ClassId) (G : Nat → Nat → Nat) (u : Ne) (H0 : Heap) (p1 : Int32) {post : Int32 → Prop} (h : wp_X3_known u p1 post) : Met l yX3_known (wsA yX3_known cX3_known 2 (some .int)) rm_X3_known (va_Pc [.ref (G 2 0), .int p1] (roP D (tysA cI cS cJ) (neW cI cS G u) H0)) (va_Qi (fun r (_ : Unit) => post r) (fun _ t => t.heap = H0) nF) 0 0 nF := by
  refine mkROi (by decide +kernel) (Nat.le_of_ble_eq_true rfl) (fun {p e s m args below meth c Q ls} hx hb F hts hown hK hP hl hQ => ?_)
  have hown : s.vm.findClass RX3 = some m.cls := hown
  have F : CallFix p m c cX3_known 2 s args wsT RX3 := F
  have hl : lv_has ls 2 [(0, .ref (G 2 0)), (1, .int p1)] := hl
  unfold wp_X3_known at h
  refine lv_iload_n hx hb dX3_known_0 rfl (lv_at hl 1 rfl) ?_
  refine roSi (As := [.int p1]) (rest := []) F (c_X3_innFault l D cI cS cJ H0 p1 h) (cw_X3_30 hts (Nat.le_of_ble_eq_true rfl) (Nat.le_of_ble_eq_true rfl)) hK vP_nil rfl hl.1 rfl (Nat.le_of_ble_eq_true rfl) dX3_known_1 ⟨(Nat.le_of_ble_eq_true rfl), (Nat.le_of_ble_eq_true rfl)⟩ (fun r1 h => ?_)
  refine roSv (As := [.int r1]) (rest := []) F (c_X3_refuse l D cI cS cJ H0 r1 h) (cw_X3_34 hts (Nat.le_of_ble_eq_true rfl) (Nat.le_of_ble_eq_true rfl)) hK vP_nil rfl hl.1 rfl (Nat.le_of_ble_eq_true rfl) dX3_known_4 ⟨(Nat.le_of_ble_eq_true rfl), (Nat.le_of_ble_eq_true rfl)⟩ (fun h => ?_)
  refine lv_aload_n hx hb dX3_known_7 rfl (lv_at hl 0 rfl) ?_
  refine va_get (D := D) (ci := 3) (v := .ref (G 0 0)) (C := RX3) (T := TX3) (N := 3) hx hb hts inT3 hown hK.k hP 0 rfl rfl 0 (by decide) (hts _ q_132) (fun _ h9 => h9) rfl dX3_known_8 ?_
  refine lv_iload_n hx hb dX3_known_11 rfl (lv_at hl 1 rfl) ?_
  refine roVi (As := [.int p1]) (rest := []) F (c_X2_knownMask l D cI cS cJ (G 0) (N_now u) H0 p1 h) (cw_X3_116 hts (Nat.le_of_ble_eq_true rfl) (Nat.le_of_ble_eq_true rfl)) hK (neS hP) (recv (ci := 2) (k0 := 1) hK hP rfl rfl) rfl hl.1 rfl (Nat.le_of_ble_eq_true rfl) dX3_known_12 ⟨(Nat.le_of_ble_eq_true rfl), (Nat.le_of_ble_eq_true rfl)⟩ (fun r3 h => ?_)
  exact hQ h dX3_known_15

def wp_X3_sendFault (u : Ne) (p1 : Int32) (p2 : Int32) (post : Int32 → Prop) : Prop :=
  wp_X3_roadFault u p1 (fun r1 => (r1 = 0 → wp_X3_isBody p2 (fun r3 => (¬ r3 = 0 → ((12 : Int32) ≤ (S_envelopeCount (N_now u)) → post (3 : Int32)) ∧ (¬ (12 : Int32) ≤ (S_envelopeCount (N_now u)) → post (0 : Int32))) ∧ (r3 = 0 → post (2 : Int32)))) ∧ (¬ r1 = 0 → post (1 : Int32)))
set_option maxHeartbeats 4000000 in
set_option maxRecDepth 100000 in
theorem c_X3_sendFault (l : Launch) (D : va_G) (cI cS cJ : ClassId) (G : Nat → Nat → Nat) (u : Ne) (H0 : Heap) (p1 : Int32) (p2 : Int32) {post : Int32 → Prop} (h : wp_X3_sendFault u p1 p2 post) : Met l yX3_sendFault (wsA yX3_sendFault cX3_sendFault 3 (some .int)) rm_X3_sendFault (va_Pc [.ref (G 2 0), .int p1, .int p2] (roP D (tysA cI cS cJ) (neW cI cS G u) H0)) (va_Qi (fun r (_ : Unit) => post r) (fun _ t => t.heap = H0) nF) 0 0 nF := by
  refine mkROi (by decide +kernel) (Nat.le_of_ble_eq_true rfl) (fun {p e s m args below meth c Q ls} hx hb F hts hown hK hP hl hQ => ?_)
  have hown : s.vm.findClass RX3 = some m.cls := hown
  have F : CallFix p m c cX3_sendFault 3 s args wsT RX3 := F
  have hl : lv_has ls 3 [(0, .ref (G 2 0)), (1, .int p1), (2, .int p2)] := hl
  unfold wp_X3_sendFault at h
  refine lv_aload_n hx hb dX3_sendFault_0 rfl (lv_at hl 0 rfl) ?_
  refine lv_iload_n hx hb dX3_sendFault_1 rfl (lv_at hl 1 rfl) ?_
  refine roVi (As := [.int p1]) (rest := []) F (c_X3_roadFault l D cI cS cJ G u H0 p1 h) (cw_X3_100 hts (Nat.le_of_ble_eq_true rfl) (Nat.le_of_ble_eq_true rfl)) hK hP (recv (ci := 3) (k0 := 0) hK hP rfl rfl) rfl hl.1 rfl (Nat.le_of_ble_eq_true rfl) dX3_sendFault_2 ⟨(Nat.le_of_ble_eq_true rfl), (Nat.le_of_ble_eq_true rfl)⟩ (fun r1 h => ?_)
  refine lv_if_eq (tgt := 10) hx hb dX3_sendFault_5 (by decide) (fun c2 => ?_) (fun c2 => ?_)
  · replace h := h.1 c2
    refine lv_iload_n hx hb dX3_sendFault_10 rfl (lv_at hl 2 rfl) ?_
    refine roSi (As := [.int p2]) (rest := []) F (c_X3_isBody l D cI cS cJ H0 p2 h) (cw_X3_239 hts (Nat.le_of_ble_eq_true rfl) (Nat.le_of_ble_eq_true rfl)) hK vP_nil rfl hl.1 rfl (Nat.le_of_ble_eq_true rfl) dX3_sendFault_11 ⟨(Nat.le_of_ble_eq_true rfl), (Nat.le_of_ble_eq_true rfl)⟩ (fun r3 h => ?_)
    obtain ⟨b4, h⟩ := h
    refine lv_if_ne (tgt := 19) hx hb dX3_sendFault_14 (by decide) (fun c5 => ?_) (fun c5 => ?_)
    · replace h := h.1 c5
      refine lv_aload_n hx hb dX3_sendFault_19 rfl (lv_at hl 0 rfl) ?_
      refine va_get (D := D) (ci := 3) (v := .ref (G 0 0)) (C := RX3) (T := TX3) (N := 3) hx hb hts inT3 hown hK.k hP 0 rfl rfl 0 (by decide) (hts _ q_132) (fun _ h9 => h9) rfl dX3_sendFault_20 ?_
      refine va_get (D := D) (ci := 2) (v := .int (S_envelopeCount (N_now u))) (C := RX2) (T := TX2) (N := 12) hx hb hts inT2 hown hK.k hP 1 rfl rfl 6 (by decide) (hts _ q_64) (fun _ h9 => h9) rfl dX3_sendFault_23 ?_
      refine lv_bipush (v := (12 : Int32)) hx hb dX3_sendFault_26 (by decide) ?_
      refine lv_icmp_ge (tgt := 35) hx hb dX3_sendFault_28 (by decide) (fun c6 => ?_) (fun c6 => ?_)
      · replace h := h.1 c6
        refine lv_iconst (v := (3 : Int32)) hx hb dX3_sendFault_35 (by decide) ?_
        exact hQ h dX3_sendFault_36
      · replace h := h.2 c6
        refine lv_iconst (v := (0 : Int32)) hx hb dX3_sendFault_31 (by decide) ?_
        refine lv_goto (tgt := 36) hx hb dX3_sendFault_32 (by decide) ?_
        exact hQ h dX3_sendFault_36
    · replace h := h.2 c5
      refine lv_iconst (v := (2 : Int32)) hx hb dX3_sendFault_17 (by decide) ?_
      exact hQ h dX3_sendFault_18
  · replace h := h.2 c2
    refine lv_iconst (v := (1 : Int32)) hx hb dX3_sendFault_8 (by decide) ?_
    exact hQ h dX3_sendFault_9

def wp_X3_send (u : Ne) (p1 : Int32) (p2 : Int32) (post : Int32 → Ne → Prop) : Prop :=
  wp_X3_sendFault u p1 p2 (fun r1 => wp_X3_refuse r1 (wp_X1_keep (N_saved u, N_now u) (fun u4 => wp_X2_addLetter (N_now (sN_saved (sN_now u u4.2) u4.1)) p1 p2 (fun r5 u6 => post r5 (sN_now (sN_saved (sN_now u u4.2) u4.1) u6)))))
set_option maxHeartbeats 4000000 in
set_option maxRecDepth 100000 in
theorem c_X3_send (l : Launch) (D : va_G) (cI cS cJ : ClassId) (G : Nat → Nat → Nat) (u : Ne) (sz : Nat) (p1 : Int32) (p2 : Int32) {post : Int32 → Ne → Prop} (h : wp_X3_send u p1 p2 post) : Met l yX3_send (wsA yX3_send cX3_send 3 (some .int)) rm_X3_send (va_Pc [.ref (G 2 0), .int p1, .int p2] (rwP D (tysA cI cS cJ) (neW cI cS G u) sz)) (va_Qi post (fun u9 t => va_P D vwCl ((neW cI cS G) u9) t.heap ∧ va_D (va_A (neW cI cS G u) sz) ((neW cI cS G) u9)) (va_A (neW cI cS G u) sz)) 0 0 (va_A (neW cI cS G u) sz) := by
  refine mkRWi (wf := (neW cI cS G)) (by decide +kernel) (Nat.le_of_ble_eq_true rfl) (fun {p e s m args below meth c Q ls A H0 H locs} hx hb F hts hown hK hP hD hS hA hl hQ => ?_)
  have hown : s.vm.findClass RX3 = some m.cls := hown
  have F : CallFix p m c cX3_send 3 s args wsT RX3 := F
  have hl : lv_has ls 3 [(0, .ref (G 2 0)), (1, .int p1), (2, .int p2)] := hl
  unfold wp_X3_send at h
  refine lv_aload_n hx hb dX3_send_0 rfl (lv_at hl 0 rfl) ?_
  refine lv_iload_n hx hb dX3_send_1 rfl (lv_at hl 1 rfl) ?_
  refine lv_iload_n hx hb dX3_send_2 rfl (lv_at hl 2 rfl) ?_
  refine roVi (As := [.int p1, .int p2]) (rest := []) F (c_X3_sendFault l D cI cS cJ G u H p1 p2 h) (cw_X3_119 hts (Nat.le_of_ble_eq_true rfl) (Nat.le_of_ble_eq_true rfl)) hK hP (recv (ci := 3) (k0 := 0) hK hP rfl rfl) rfl hl.1 rfl (Nat.le_of_ble_eq_true rfl) dX3_send_3 ⟨(Nat.le_of_ble_eq_true rfl), (Nat.le_of_ble_eq_true rfl)⟩ (fun r1 h => ?_)
  refine roSv (As := [.int r1]) (rest := []) F (c_X3_refuse l D cI cS cJ H r1 h) (cw_X3_34 hts (Nat.le_of_ble_eq_true rfl) (Nat.le_of_ble_eq_true rfl)) hK vP_nil rfl hl.1 rfl (Nat.le_of_ble_eq_true rfl) dX3_send_6 ⟨(Nat.le_of_ble_eq_true rfl), (Nat.le_of_ble_eq_true rfl)⟩ (fun h => ?_)
  refine lv_aload_n hx hb dX3_send_9 rfl (lv_at hl 0 rfl) ?_
  refine va_get (D := D) (ci := 3) (v := .ref (G 2 1)) (C := RX3) (T := TX3) (N := 3) hx hb hts inT3 hown hK.k hP 0 rfl rfl 1 (by decide) (hts _ q_133) (fun _ h9 => h9) rfl dX3_send_10 ?_
  refine lv_aload_n hx hb dX3_send_13 rfl (lv_at hl 0 rfl) ?_
  refine va_get (D := D) (ci := 3) (v := .ref (G 0 0)) (C := RX3) (T := TX3) (N := 3) hx hb hts inT3 hown hK.k hP 0 rfl rfl 0 (by decide) (hts _ q_132) (fun _ h9 => h9) rfl dX3_send_14 ?_
  refine rwVv (wr := neRK cI G u) (As := [.ref (G 0 0)]) (rest := []) neK_f F (c_X1_keep l D cI cS cJ G (N_saved u, N_now u) H.size h) (cw_X3_38 hts (Nat.le_of_ble_eq_true rfl) (Nat.le_of_ble_eq_true rfl)) hK hP hD hS hA (recv (ci := 1) (k0 := 12) hK hP rfl rfl) rfl hl.1 rfl (Nat.le_of_ble_eq_true rfl) dX3_send_17 ⟨(Nat.le_of_ble_eq_true rfl), (Nat.le_of_ble_eq_true rfl)⟩ (fun u4 H locs h hP hD hS => ?_)
  have hP : va_P D vwCl (neW cI cS G (sN_saved (sN_now u u4.2) u4.1)) H := vP_perm (neK_b u4) hP
  have hD : va_D A (neW cI cS G (sN_saved (sN_now u u4.2) u4.1)) := vD_perm (neK_b u4) hD
  refine lv_aload_n hx hb dX3_send_20 rfl (lv_at hl 0 rfl) ?_
  refine va_get (D := D) (ci := 3) (v := .ref (G 0 0)) (C := RX3) (T := TX3) (N := 3) hx hb hts inT3 hown hK.k hP 0 rfl rfl 0 (by decide) (hts _ q_132) (fun _ h9 => h9) rfl dX3_send_21 ?_
  refine lv_iload_n hx hb dX3_send_24 rfl (lv_at hl 1 rfl) ?_
  refine lv_iload_n hx hb dX3_send_25 rfl (lv_at hl 2 rfl) ?_
  refine rwVi (wr := neRS cI cS G (sN_saved (sN_now u u4.2) u4.1)) (As := [.int p1, .int p2]) (rest := []) neS_f F (c_X2_addLetter l D cI cS cJ (G 0) (N_now (sN_saved (sN_now u u4.2) u4.1)) H.size p1 p2 h) (cw_X3_122 hts (Nat.le_of_ble_eq_true rfl) (Nat.le_of_ble_eq_true rfl)) hK hP hD hS hA (recv (ci := 2) (k0 := 1) hK hP rfl rfl) rfl hl.1 rfl (Nat.le_of_ble_eq_true rfl) dX3_send_26 ⟨(Nat.le_of_ble_eq_true rfl), (Nat.le_of_ble_eq_true rfl)⟩ (fun r5 u6 H locs h hP hD hS => ?_)
  have hP : va_P D vwCl (neW cI cS G (sN_now (sN_saved (sN_now u u4.2) u4.1) u6)) H := vP_perm (neS_b u6) hP
  have hD : va_D A (neW cI cS G (sN_now (sN_saved (sN_now u u4.2) u4.1) u6)) := vD_perm (neS_b u6) hD
  exact hQ h hP hD hS dX3_send_29

def wp_X3_answerFault (u : Ne) (p1 : Int32) (p2 : Int32) (post : Int32 → Prop) : Prop :=
  wp_X3_hallFault p1 (fun r1 => (r1 = 0 → wp_X3_isBody p2 (fun r3 => (¬ r3 = 0 → wp_X3_read 4 (S_answerRoads (N_now u)) p1 (fun r6 => jn (fun (x7 : Int32) => (x7 = 0 → post (3 : Int32)) ∧ (¬ x7 = 0 → ((12 : Int32) ≤ (S_envelopeCount (N_now u)) → post (3 : Int32)) ∧ (¬ (12 : Int32) ≤ (S_envelopeCount (N_now u)) → post (0 : Int32)))) (fun (J9 : Int32 → Prop) => (r6 = (-1 : Int32) → J9 (0 : Int32)) ∧ (¬ r6 = (-1 : Int32) → J9 (1 : Int32))))) ∧ (r3 = 0 → post (2 : Int32)))) ∧ (¬ r1 = 0 → post (1 : Int32)))
set_option maxHeartbeats 4000000 in
set_option maxRecDepth 100000 in
theorem c_X3_answerFault (l : Launch) (D : va_G) (cI cS cJ : ClassId) (G : Nat → Nat → Nat) (u : Ne) (H0 : Heap) (p1 : Int32) (p2 : Int32) {post : Int32 → Prop} (h : wp_X3_answerFault u p1 p2 post) : Met l yX3_answerFault (wsA yX3_answerFault cX3_answerFault 4 (some .int)) rm_X3_answerFault (va_Pc [.ref (G 2 0), .int p1, .int p2] (roP D (tysA cI cS cJ) (neW cI cS G u) H0)) (va_Qi (fun r (_ : Unit) => post r) (fun _ t => t.heap = H0) nF) 0 0 nF := by
  refine mkROi (by decide +kernel) (Nat.le_of_ble_eq_true rfl) (fun {p e s m args below meth c Q ls} hx hb F hts hown hK hP hl hQ => ?_)
  have hown : s.vm.findClass RX3 = some m.cls := hown
  have F : CallFix p m c cX3_answerFault 4 s args wsT RX3 := F
  have hl : lv_has ls 4 [(0, .ref (G 2 0)), (1, .int p1), (2, .int p2)] := hl
  unfold wp_X3_answerFault at h
  refine lv_iload_n hx hb dX3_answerFault_0 rfl (lv_at hl 1 rfl) ?_
  refine roSi (As := [.int p1]) (rest := []) F (c_X3_hallFault l D cI cS cJ H0 p1 h) (cw_X3_148 hts (Nat.le_of_ble_eq_true rfl) (Nat.le_of_ble_eq_true rfl)) hK vP_nil rfl hl.1 rfl (Nat.le_of_ble_eq_true rfl) dX3_answerFault_1 ⟨(Nat.le_of_ble_eq_true rfl), (Nat.le_of_ble_eq_true rfl)⟩ (fun r1 h => ?_)
  refine lv_if_eq (tgt := 9) hx hb dX3_answerFault_4 (by decide) (fun c2 => ?_) (fun c2 => ?_)
  · replace h := h.1 c2
    refine lv_iload_n hx hb dX3_answerFault_9 rfl (lv_at hl 2 rfl) ?_
    refine roSi (As := [.int p2]) (rest := []) F (c_X3_isBody l D cI cS cJ H0 p2 h) (cw_X3_239 hts (Nat.le_of_ble_eq_true rfl) (Nat.le_of_ble_eq_true rfl)) hK vP_nil rfl hl.1 rfl (Nat.le_of_ble_eq_true rfl) dX3_answerFault_10 ⟨(Nat.le_of_ble_eq_true rfl), (Nat.le_of_ble_eq_true rfl)⟩ (fun r3 h => ?_)
    obtain ⟨b4, h⟩ := h
    refine lv_if_ne (tgt := 18) hx hb dX3_answerFault_13 (by decide) (fun c5 => ?_) (fun c5 => ?_)
    · replace h := h.1 c5
      refine lv_aload_n hx hb dX3_answerFault_18 rfl (lv_at hl 0 rfl) ?_
      refine va_get (D := D) (ci := 3) (v := .ref (G 0 0)) (C := RX3) (T := TX3) (N := 3) hx hb hts inT3 hown hK.k hP 0 rfl rfl 0 (by decide) (hts _ q_132) (fun _ h9 => h9) rfl dX3_answerFault_19 ?_
      refine va_get (D := D) (ci := 2) (v := .ref ((G 0) 7)) (C := RX2) (T := TX2) (N := 12) hx hb hts inT2 hown hK.k hP 1 rfl rfl 9 (by decide) (hts _ q_69) (fun _ h9 => h9) rfl dX3_answerFault_22 ?_
      refine lv_iload_n hx hb dX3_answerFault_25 rfl (lv_at hl 1 rfl) ?_
      refine roSi (As := [.ref ((G 0) 7), .int p1]) (rest := []) F (c_X3_read l D cI cS cJ ((G 0) 7) 4 (S_answerRoads (N_now u)) H0 p1 h) (cw_X3_58 hts (Nat.le_of_ble_eq_true rfl) (Nat.le_of_ble_eq_true rfl)) hK (vP_one hP 8 rfl) rfl hl.1 rfl (Nat.le_of_ble_eq_true rfl) dX3_answerFault_26 ⟨(Nat.le_of_ble_eq_true rfl), (Nat.le_of_ble_eq_true rfl)⟩ (fun r6 h => ?_)
      refine lv_iconst (v := (-1 : Int32)) hx hb dX3_answerFault_29 (by decide) ?_
      refine jn_e h (fun J9 e11 h => ?_)
      have w10 : ∀ (x7 : Int32) (ls : Array Slot), bz x7 → lv_has ls 4 [(0, .ref (G 2 0))] → J9 x7 → W p l e rm_X3_answerFault s m args below meth c H0 [] 0 0 Q (F0 m 38 ls [.int x7]) := by
        intro x7 ls b8 hl h
        subst e11
        refine lv_istore_n (lv' := [(3, .int x7), (0, .ref (G 2 0))]) hx hb dX3_answerFault_38 rfl hl (by decide) rfl (fun ls hl => ?_)
        refine lv_iload_n hx hb dX3_answerFault_39 rfl (lv_at hl 0 rfl) ?_
        refine lv_if_eq (tgt := 59) hx hb dX3_answerFault_40 (by decide) (fun c12 => ?_) (fun c12 => ?_)
        · replace h := h.1 c12
          refine lv_iconst (v := (3 : Int32)) hx hb dX3_answerFault_59 (by decide) ?_
          exact hQ h dX3_answerFault_60
        · replace h := h.2 c12
          refine lv_aload_n hx hb dX3_answerFault_43 rfl (lv_at hl 1 rfl) ?_
          refine va_get (D := D) (ci := 3) (v := .ref (G 0 0)) (C := RX3) (T := TX3) (N := 3) hx hb hts inT3 hown hK.k hP 0 rfl rfl 0 (by decide) (hts _ q_132) (fun _ h9 => h9) rfl dX3_answerFault_44 ?_
          refine va_get (D := D) (ci := 2) (v := .int (S_envelopeCount (N_now u))) (C := RX2) (T := TX2) (N := 12) hx hb hts inT2 hown hK.k hP 1 rfl rfl 6 (by decide) (hts _ q_64) (fun _ h9 => h9) rfl dX3_answerFault_47 ?_
          refine lv_bipush (v := (12 : Int32)) hx hb dX3_answerFault_50 (by decide) ?_
          refine lv_icmp_ge (tgt := 59) hx hb dX3_answerFault_52 (by decide) (fun c13 => ?_) (fun c13 => ?_)
          · replace h := h.1 c13
            refine lv_iconst (v := (3 : Int32)) hx hb dX3_answerFault_59 (by decide) ?_
            exact hQ h dX3_answerFault_60
          · replace h := h.2 c13
            refine lv_iconst (v := (0 : Int32)) hx hb dX3_answerFault_55 (by decide) ?_
            refine lv_goto (tgt := 60) hx hb dX3_answerFault_56 (by decide) ?_
            exact hQ h dX3_answerFault_60
      clear e11
      refine lv_icmp_eq (tgt := 37) hx hb dX3_answerFault_30 (by decide) (fun c14 => ?_) (fun c14 => ?_)
      · replace h := h.1 c14
        refine lv_iconst (v := (0 : Int32)) hx hb dX3_answerFault_37 (by decide) ?_
        exact w10 (0 : Int32) _ bz0 (lv_sub hl [0] rfl) h
      · replace h := h.2 c14
        refine lv_iconst (v := (1 : Int32)) hx hb dX3_answerFault_33 (by decide) ?_
        refine lv_goto (tgt := 38) hx hb dX3_answerFault_34 (by decide) ?_
        exact w10 (1 : Int32) _ bz1 (lv_sub hl [0] rfl) h
    · replace h := h.2 c5
      refine lv_iconst (v := (2 : Int32)) hx hb dX3_answerFault_16 (by decide) ?_
      exact hQ h dX3_answerFault_17
  · replace h := h.2 c2
    refine lv_iconst (v := (1 : Int32)) hx hb dX3_answerFault_7 (by decide) ?_
    exact hQ h dX3_answerFault_8
end
section
def wp_X3_answer (u : Ne) (p1 : Int32) (p2 : Int32) (post : Int32 → Ne → Prop) : Prop :=
  wp_X3_answerFault u p1 p2 (fun r1 => wp_X3_refuse r1 (wp_X1_keep (N_saved u, N_now u) (fun u4 => wp_X2_addAnswer (N_now (sN_saved (sN_now u u4.2) u4.1)) p1 p2 (fun r5 u6 => post r5 (sN_now (sN_saved (sN_now u u4.2) u4.1) u6)))))
set_option maxHeartbeats 4000000 in
set_option maxRecDepth 100000 in
theorem c_X3_answer (l : Launch) (D : va_G) (cI cS cJ : ClassId) (G : Nat → Nat → Nat) (u : Ne) (sz : Nat) (p1 : Int32) (p2 : Int32) {post : Int32 → Ne → Prop} (h : wp_X3_answer u p1 p2 post) : Met l yX3_answer (wsA yX3_answer cX3_answer 3 (some .int)) rm_X3_answer (va_Pc [.ref (G 2 0), .int p1, .int p2] (rwP D (tysA cI cS cJ) (neW cI cS G u) sz)) (va_Qi post (fun u9 t => va_P D vwCl ((neW cI cS G) u9) t.heap ∧ va_D (va_A (neW cI cS G u) sz) ((neW cI cS G) u9)) (va_A (neW cI cS G u) sz)) 0 0 (va_A (neW cI cS G u) sz) := by
  refine mkRWi (wf := (neW cI cS G)) (by decide +kernel) (Nat.le_of_ble_eq_true rfl) (fun {p e s m args below meth c Q ls A H0 H locs} hx hb F hts hown hK hP hD hS hA hl hQ => ?_)
  have hown : s.vm.findClass RX3 = some m.cls := hown
  have F : CallFix p m c cX3_answer 3 s args wsT RX3 := F
  have hl : lv_has ls 3 [(0, .ref (G 2 0)), (1, .int p1), (2, .int p2)] := hl
  unfold wp_X3_answer at h
  refine lv_aload_n hx hb dX3_answer_0 rfl (lv_at hl 0 rfl) ?_
  refine lv_iload_n hx hb dX3_answer_1 rfl (lv_at hl 1 rfl) ?_
  refine lv_iload_n hx hb dX3_answer_2 rfl (lv_at hl 2 rfl) ?_
  refine roVi (As := [.int p1, .int p2]) (rest := []) F (c_X3_answerFault l D cI cS cJ G u H p1 p2 h) (cw_X3_125 hts (Nat.le_of_ble_eq_true rfl) (Nat.le_of_ble_eq_true rfl)) hK hP (recv (ci := 3) (k0 := 0) hK hP rfl rfl) rfl hl.1 rfl (Nat.le_of_ble_eq_true rfl) dX3_answer_3 ⟨(Nat.le_of_ble_eq_true rfl), (Nat.le_of_ble_eq_true rfl)⟩ (fun r1 h => ?_)
  refine roSv (As := [.int r1]) (rest := []) F (c_X3_refuse l D cI cS cJ H r1 h) (cw_X3_34 hts (Nat.le_of_ble_eq_true rfl) (Nat.le_of_ble_eq_true rfl)) hK vP_nil rfl hl.1 rfl (Nat.le_of_ble_eq_true rfl) dX3_answer_6 ⟨(Nat.le_of_ble_eq_true rfl), (Nat.le_of_ble_eq_true rfl)⟩ (fun h => ?_)
  refine lv_aload_n hx hb dX3_answer_9 rfl (lv_at hl 0 rfl) ?_
  refine va_get (D := D) (ci := 3) (v := .ref (G 2 1)) (C := RX3) (T := TX3) (N := 3) hx hb hts inT3 hown hK.k hP 0 rfl rfl 1 (by decide) (hts _ q_133) (fun _ h9 => h9) rfl dX3_answer_10 ?_
  refine lv_aload_n hx hb dX3_answer_13 rfl (lv_at hl 0 rfl) ?_
  refine va_get (D := D) (ci := 3) (v := .ref (G 0 0)) (C := RX3) (T := TX3) (N := 3) hx hb hts inT3 hown hK.k hP 0 rfl rfl 0 (by decide) (hts _ q_132) (fun _ h9 => h9) rfl dX3_answer_14 ?_
  refine rwVv (wr := neRK cI G u) (As := [.ref (G 0 0)]) (rest := []) neK_f F (c_X1_keep l D cI cS cJ G (N_saved u, N_now u) H.size h) (cw_X3_38 hts (Nat.le_of_ble_eq_true rfl) (Nat.le_of_ble_eq_true rfl)) hK hP hD hS hA (recv (ci := 1) (k0 := 12) hK hP rfl rfl) rfl hl.1 rfl (Nat.le_of_ble_eq_true rfl) dX3_answer_17 ⟨(Nat.le_of_ble_eq_true rfl), (Nat.le_of_ble_eq_true rfl)⟩ (fun u4 H locs h hP hD hS => ?_)
  have hP : va_P D vwCl (neW cI cS G (sN_saved (sN_now u u4.2) u4.1)) H := vP_perm (neK_b u4) hP
  have hD : va_D A (neW cI cS G (sN_saved (sN_now u u4.2) u4.1)) := vD_perm (neK_b u4) hD
  refine lv_aload_n hx hb dX3_answer_20 rfl (lv_at hl 0 rfl) ?_
  refine va_get (D := D) (ci := 3) (v := .ref (G 0 0)) (C := RX3) (T := TX3) (N := 3) hx hb hts inT3 hown hK.k hP 0 rfl rfl 0 (by decide) (hts _ q_132) (fun _ h9 => h9) rfl dX3_answer_21 ?_
  refine lv_iload_n hx hb dX3_answer_24 rfl (lv_at hl 1 rfl) ?_
  refine lv_iload_n hx hb dX3_answer_25 rfl (lv_at hl 2 rfl) ?_
  refine rwVi (wr := neRS cI cS G (sN_saved (sN_now u u4.2) u4.1)) (As := [.int p1, .int p2]) (rest := []) neS_f F (c_X2_addAnswer l D cI cS cJ (G 0) (N_now (sN_saved (sN_now u u4.2) u4.1)) H.size p1 p2 h) (cw_X3_128 hts (Nat.le_of_ble_eq_true rfl) (Nat.le_of_ble_eq_true rfl)) hK hP hD hS hA (recv (ci := 2) (k0 := 1) hK hP rfl rfl) rfl hl.1 rfl (Nat.le_of_ble_eq_true rfl) dX3_answer_26 ⟨(Nat.le_of_ble_eq_true rfl), (Nat.le_of_ble_eq_true rfl)⟩ (fun r5 u6 H locs h hP hD hS => ?_)
  have hP : va_P D vwCl (neW cI cS G (sN_now (sN_saved (sN_now u u4.2) u4.1) u6)) H := vP_perm (neS_b u6) hP
  have hD : va_D A (neW cI cS G (sN_now (sN_saved (sN_now u u4.2) u4.1) u6)) := vD_perm (neS_b u6) hD
  exact hQ h hP hD hS dX3_answer_29

def wp_X3_pass (u : Ne) (p1 : Int32) (post : Int32 → Ne → Prop) : Prop :=
  wp_X3_isBetween p1 (1 : Int32) (9 : Int32) (fun r1 => (¬ r1 = 0 → wp_X1_keep (N_saved u, N_now u) (fun u5 => wp_X2_letTicksPass (N_now (sN_saved (sN_now u u5.2) u5.1)) p1 (fun r6 u7 => post r6 (sN_now (sN_saved (sN_now u u5.2) u5.1) u7)))) ∧ (r1 = 0 → False))
set_option maxHeartbeats 4000000 in
set_option maxRecDepth 100000 in
theorem c_X3_pass (l : Launch) (D : va_G) (cI cS cJ : ClassId) (G : Nat → Nat → Nat) (u : Ne) (sz : Nat) (p1 : Int32) {post : Int32 → Ne → Prop} (h : wp_X3_pass u p1 post) : Met l yX3_pass (wsA yX3_pass cX3_pass 2 (some .int)) rm_X3_pass (va_Pc [.ref (G 2 0), .int p1] (rwP D (tysA cI cS cJ) (neW cI cS G u) sz)) (va_Qi post (fun u9 t => va_P D vwCl ((neW cI cS G) u9) t.heap ∧ va_D (va_A (neW cI cS G u) sz) ((neW cI cS G) u9)) (va_A (neW cI cS G u) sz)) 0 0 (va_A (neW cI cS G u) sz) := by
  refine mkRWi (wf := (neW cI cS G)) (by decide +kernel) (Nat.le_of_ble_eq_true rfl) (fun {p e s m args below meth c Q ls A H0 H locs} hx hb F hts hown hK hP hD hS hA hl hQ => ?_)
  have hown : s.vm.findClass RX3 = some m.cls := hown
  have F : CallFix p m c cX3_pass 2 s args wsT RX3 := F
  have hl : lv_has ls 2 [(0, .ref (G 2 0)), (1, .int p1)] := hl
  unfold wp_X3_pass at h
  refine lv_iload_n hx hb dX3_pass_0 rfl (lv_at hl 1 rfl) ?_
  refine lv_iconst (v := (1 : Int32)) hx hb dX3_pass_1 (by decide) ?_
  refine lv_bipush (v := (9 : Int32)) hx hb dX3_pass_2 (by decide) ?_
  refine roSi (As := [.int p1, .int (1 : Int32), .int (9 : Int32)]) (rest := []) F (c_X3_isBetween l D cI cS cJ H p1 (1 : Int32) (9 : Int32) h) (cw_X3_96 hts (Nat.le_of_ble_eq_true rfl) (Nat.le_of_ble_eq_true rfl)) hK vP_nil rfl hl.1 rfl (Nat.le_of_ble_eq_true rfl) dX3_pass_4 ⟨(Nat.le_of_ble_eq_true rfl), (Nat.le_of_ble_eq_true rfl)⟩ (fun r1 h => ?_)
  obtain ⟨b2, h⟩ := h
  refine lv_if_ne (tgt := 20) hx hb dX3_pass_7 (by decide) (fun c3 => ?_) (fun c3 => ?_)
  · replace h := h.1 c3
    refine lv_aload_n hx hb dX3_pass_20 rfl (lv_at hl 0 rfl) ?_
    refine va_get (D := D) (ci := 3) (v := .ref (G 2 1)) (C := RX3) (T := TX3) (N := 3) hx hb hts inT3 hown hK.k hP 0 rfl rfl 1 (by decide) (hts _ q_133) (fun _ h9 => h9) rfl dX3_pass_21 ?_
    refine lv_aload_n hx hb dX3_pass_24 rfl (lv_at hl 0 rfl) ?_
    refine va_get (D := D) (ci := 3) (v := .ref (G 0 0)) (C := RX3) (T := TX3) (N := 3) hx hb hts inT3 hown hK.k hP 0 rfl rfl 0 (by decide) (hts _ q_132) (fun _ h9 => h9) rfl dX3_pass_25 ?_
    refine rwVv (wr := neRK cI G u) (As := [.ref (G 0 0)]) (rest := []) neK_f F (c_X1_keep l D cI cS cJ G (N_saved u, N_now u) H.size h) (cw_X3_38 hts (Nat.le_of_ble_eq_true rfl) (Nat.le_of_ble_eq_true rfl)) hK hP hD hS hA (recv (ci := 1) (k0 := 12) hK hP rfl rfl) rfl hl.1 rfl (Nat.le_of_ble_eq_true rfl) dX3_pass_28 ⟨(Nat.le_of_ble_eq_true rfl), (Nat.le_of_ble_eq_true rfl)⟩ (fun u5 H locs h hP hD hS => ?_)
    have hP : va_P D vwCl (neW cI cS G (sN_saved (sN_now u u5.2) u5.1)) H := vP_perm (neK_b u5) hP
    have hD : va_D A (neW cI cS G (sN_saved (sN_now u u5.2) u5.1)) := vD_perm (neK_b u5) hD
    refine lv_aload_n hx hb dX3_pass_31 rfl (lv_at hl 0 rfl) ?_
    refine va_get (D := D) (ci := 3) (v := .ref (G 0 0)) (C := RX3) (T := TX3) (N := 3) hx hb hts inT3 hown hK.k hP 0 rfl rfl 0 (by decide) (hts _ q_132) (fun _ h9 => h9) rfl dX3_pass_32 ?_
    refine lv_iload_n hx hb dX3_pass_35 rfl (lv_at hl 1 rfl) ?_
    refine rwVi (wr := neRS cI cS G (sN_saved (sN_now u u5.2) u5.1)) (As := [.int p1]) (rest := []) neS_f F (c_X2_letTicksPass l D cI cS cJ (G 0) (N_now (sN_saved (sN_now u u5.2) u5.1)) H.size p1 h) (cw_X3_136 hts (Nat.le_of_ble_eq_true rfl) (Nat.le_of_ble_eq_true rfl)) hK hP hD hS hA (recv (ci := 2) (k0 := 1) hK hP rfl rfl) rfl hl.1 rfl (Nat.le_of_ble_eq_true rfl) dX3_pass_36 ⟨(Nat.le_of_ble_eq_true rfl), (Nat.le_of_ble_eq_true rfl)⟩ (fun r6 u7 H locs h hP hD hS => ?_)
    have hP : va_P D vwCl (neW cI cS G (sN_now (sN_saved (sN_now u u5.2) u5.1) u7)) H := vP_perm (neS_b u7) hP
    have hD : va_D A (neW cI cS G (sN_now (sN_saved (sN_now u u5.2) u5.1) u7)) := vD_perm (neS_b u7) hD
    exact hQ h hP hD hS dX3_pass_39
  · replace h := h.2 c3
    exact h.elim

def wp_X3_envelopes (u : Ne)  (post : Int32 → Prop) : Prop :=
  post (S_envelopeCount (N_now u))
set_option maxHeartbeats 4000000 in
set_option maxRecDepth 100000 in
theorem c_X3_envelopes (l : Launch) (D : va_G) (cI cS cJ : ClassId) (G : Nat → Nat → Nat) (u : Ne) (H0 : Heap)  {post : Int32 → Prop} (h : wp_X3_envelopes u post) : Met l yX3_envelopes (wsA yX3_envelopes cX3_envelopes 1 (some .int)) rm_X3_envelopes (va_Pc [.ref (G 2 0)] (roP D (tysA cI cS cJ) (neW cI cS G u) H0)) (va_Qi (fun r (_ : Unit) => post r) (fun _ t => t.heap = H0) nF) 0 0 nF := by
  refine mkROi (by decide +kernel) (Nat.le_of_ble_eq_true rfl) (fun {p e s m args below meth c Q ls} hx hb F hts hown hK hP hl hQ => ?_)
  have hown : s.vm.findClass RX3 = some m.cls := hown
  have F : CallFix p m c cX3_envelopes 1 s args wsT RX3 := F
  have hl : lv_has ls 1 [(0, .ref (G 2 0))] := hl
  unfold wp_X3_envelopes at h
  refine lv_aload_n hx hb dX3_envelopes_0 rfl (lv_at hl 0 rfl) ?_
  refine va_get (D := D) (ci := 3) (v := .ref (G 0 0)) (C := RX3) (T := TX3) (N := 3) hx hb hts inT3 hown hK.k hP 0 rfl rfl 0 (by decide) (hts _ q_132) (fun _ h9 => h9) rfl dX3_envelopes_1 ?_
  refine va_get (D := D) (ci := 2) (v := .int (S_envelopeCount (N_now u))) (C := RX2) (T := TX2) (N := 12) hx hb hts inT2 hown hK.k hP 1 rfl rfl 6 (by decide) (hts _ q_64) (fun _ h9 => h9) rfl dX3_envelopes_4 ?_
  exact hQ h dX3_envelopes_7

def wp_X3_envelopeFault (u : Ne) (p1 : Int32) (post : Int32 → Prop) : Prop :=
  wp_X3_isBetween p1 (0 : Int32) ((S_envelopeCount (N_now u)) - (1 : Int32)) (fun r1 => (r1 = 0 → post (1 : Int32)) ∧ (¬ r1 = 0 → post (0 : Int32)))
set_option maxHeartbeats 4000000 in
set_option maxRecDepth 100000 in
theorem c_X3_envelopeFault (l : Launch) (D : va_G) (cI cS cJ : ClassId) (G : Nat → Nat → Nat) (u : Ne) (H0 : Heap) (p1 : Int32) {post : Int32 → Prop} (h : wp_X3_envelopeFault u p1 post) : Met l yX3_envelopeFault (wsA yX3_envelopeFault cX3_envelopeFault 2 (some .int)) rm_X3_envelopeFault (va_Pc [.ref (G 2 0), .int p1] (roP D (tysA cI cS cJ) (neW cI cS G u) H0)) (va_Qi (fun r (_ : Unit) => post r) (fun _ t => t.heap = H0) nF) 0 0 nF := by
  refine mkROi (by decide +kernel) (Nat.le_of_ble_eq_true rfl) (fun {p e s m args below meth c Q ls} hx hb F hts hown hK hP hl hQ => ?_)
  have hown : s.vm.findClass RX3 = some m.cls := hown
  have F : CallFix p m c cX3_envelopeFault 2 s args wsT RX3 := F
  have hl : lv_has ls 2 [(0, .ref (G 2 0)), (1, .int p1)] := hl
  unfold wp_X3_envelopeFault at h
  refine lv_iload_n hx hb dX3_envelopeFault_0 rfl (lv_at hl 1 rfl) ?_
  refine lv_iconst (v := (0 : Int32)) hx hb dX3_envelopeFault_1 (by decide) ?_
  refine lv_aload_n hx hb dX3_envelopeFault_2 rfl (lv_at hl 0 rfl) ?_
  refine va_get (D := D) (ci := 3) (v := .ref (G 0 0)) (C := RX3) (T := TX3) (N := 3) hx hb hts inT3 hown hK.k hP 0 rfl rfl 0 (by decide) (hts _ q_132) (fun _ h9 => h9) rfl dX3_envelopeFault_3 ?_
  refine va_get (D := D) (ci := 2) (v := .int (S_envelopeCount (N_now u))) (C := RX2) (T := TX2) (N := 12) hx hb hts inT2 hown hK.k hP 1 rfl rfl 6 (by decide) (hts _ q_64) (fun _ h9 => h9) rfl dX3_envelopeFault_6 ?_
  refine lv_iconst (v := (1 : Int32)) hx hb dX3_envelopeFault_9 (by decide) ?_
  refine lv_isub hx hb dX3_envelopeFault_10 ?_
  refine roSi (As := [.int p1, .int (0 : Int32), .int ((S_envelopeCount (N_now u)) - (1 : Int32))]) (rest := []) F (c_X3_isBetween l D cI cS cJ H0 p1 (0 : Int32) ((S_envelopeCount (N_now u)) - (1 : Int32)) h) (cw_X3_96 hts (Nat.le_of_ble_eq_true rfl) (Nat.le_of_ble_eq_true rfl)) hK vP_nil rfl hl.1 rfl (Nat.le_of_ble_eq_true rfl) dX3_envelopeFault_11 ⟨(Nat.le_of_ble_eq_true rfl), (Nat.le_of_ble_eq_true rfl)⟩ (fun r1 h => ?_)
  obtain ⟨b2, h⟩ := h
  refine lv_if_eq (tgt := 21) hx hb dX3_envelopeFault_14 (by decide) (fun c3 => ?_) (fun c3 => ?_)
  · replace h := h.1 c3
    refine lv_iconst (v := (1 : Int32)) hx hb dX3_envelopeFault_21 (by decide) ?_
    exact hQ h dX3_envelopeFault_22
  · replace h := h.2 c3
    refine lv_iconst (v := (0 : Int32)) hx hb dX3_envelopeFault_17 (by decide) ?_
    refine lv_goto (tgt := 22) hx hb dX3_envelopeFault_18 (by decide) ?_
    exact hQ h dX3_envelopeFault_22

def wp_X3_envelope (u : Ne) (p1 : Int32) (p2 : Int32) (post : Int32 → Prop) : Prop :=
  wp_X3_isBetween p2 (0 : Int32) (3 : Int32) (fun r1 => jn (fun (x3 : Int32) => wp_X3_refuse x3 (wp_X2_ofEnvelope (N_now u) p1 p2 (fun r8 => post r8))) (fun (J4 : Int32 → Prop) => (r1 = 0 → J4 (1 : Int32)) ∧ (¬ r1 = 0 → wp_X3_envelopeFault u p1 (fun r10 => J4 r10))))
set_option maxHeartbeats 4000000 in
set_option maxRecDepth 100000 in
theorem c_X3_envelope (l : Launch) (D : va_G) (cI cS cJ : ClassId) (G : Nat → Nat → Nat) (u : Ne) (H0 : Heap) (p1 : Int32) (p2 : Int32) {post : Int32 → Prop} (h : wp_X3_envelope u p1 p2 post) : Met l yX3_envelope (wsA yX3_envelope cX3_envelope 3 (some .int)) rm_X3_envelope (va_Pc [.ref (G 2 0), .int p1, .int p2] (roP D (tysA cI cS cJ) (neW cI cS G u) H0)) (va_Qi (fun r (_ : Unit) => post r) (fun _ t => t.heap = H0) nF) 0 0 nF := by
  refine mkROi (by decide +kernel) (Nat.le_of_ble_eq_true rfl) (fun {p e s m args below meth c Q ls} hx hb F hts hown hK hP hl hQ => ?_)
  have hown : s.vm.findClass RX3 = some m.cls := hown
  have F : CallFix p m c cX3_envelope 3 s args wsT RX3 := F
  have hl : lv_has ls 3 [(0, .ref (G 2 0)), (1, .int p1), (2, .int p2)] := hl
  unfold wp_X3_envelope at h
  refine lv_iload_n hx hb dX3_envelope_0 rfl (lv_at hl 2 rfl) ?_
  refine lv_iconst (v := (0 : Int32)) hx hb dX3_envelope_1 (by decide) ?_
  refine lv_iconst (v := (3 : Int32)) hx hb dX3_envelope_2 (by decide) ?_
  refine roSi (As := [.int p2, .int (0 : Int32), .int (3 : Int32)]) (rest := []) F (c_X3_isBetween l D cI cS cJ H0 p2 (0 : Int32) (3 : Int32) h) (cw_X3_96 hts (Nat.le_of_ble_eq_true rfl) (Nat.le_of_ble_eq_true rfl)) hK vP_nil rfl hl.1 rfl (Nat.le_of_ble_eq_true rfl) dX3_envelope_3 ⟨(Nat.le_of_ble_eq_true rfl), (Nat.le_of_ble_eq_true rfl)⟩ (fun r1 h => ?_)
  obtain ⟨b2, h⟩ := h
  refine jn_e h (fun J4 e6 h => ?_)
  have w5 : ∀ (x3 : Int32) (ls : Array Slot), lv_has ls 3 [(0, .ref (G 2 0)), (1, .int p1), (2, .int p2)] → J4 x3 → W p l e rm_X3_envelope s m args below meth c H0 [] 0 0 Q (F0 m 18 ls [.int x3]) := by
    intro x3 ls hl h
    subst e6
    refine roSv (As := [.int x3]) (rest := []) F (c_X3_refuse l D cI cS cJ H0 x3 h) (cw_X3_34 hts (Nat.le_of_ble_eq_true rfl) (Nat.le_of_ble_eq_true rfl)) hK vP_nil rfl hl.1 rfl (Nat.le_of_ble_eq_true rfl) dX3_envelope_18 ⟨(Nat.le_of_ble_eq_true rfl), (Nat.le_of_ble_eq_true rfl)⟩ (fun h => ?_)
    refine lv_aload_n hx hb dX3_envelope_21 rfl (lv_at hl 0 rfl) ?_
    refine va_get (D := D) (ci := 3) (v := .ref (G 0 0)) (C := RX3) (T := TX3) (N := 3) hx hb hts inT3 hown hK.k hP 0 rfl rfl 0 (by decide) (hts _ q_132) (fun _ h9 => h9) rfl dX3_envelope_22 ?_
    refine lv_iload_n hx hb dX3_envelope_25 rfl (lv_at hl 1 rfl) ?_
    refine lv_iload_n hx hb dX3_envelope_26 rfl (lv_at hl 2 rfl) ?_
    refine roVi (As := [.int p1, .int p2]) (rest := []) F (c_X2_ofEnvelope l D cI cS cJ (G 0) (N_now u) H0 p1 p2 h) (cw_X3_145 hts (Nat.le_of_ble_eq_true rfl) (Nat.le_of_ble_eq_true rfl)) hK (neS hP) (recv (ci := 2) (k0 := 1) hK hP rfl rfl) rfl hl.1 rfl (Nat.le_of_ble_eq_true rfl) dX3_envelope_27 ⟨(Nat.le_of_ble_eq_true rfl), (Nat.le_of_ble_eq_true rfl)⟩ (fun r8 h => ?_)
    exact hQ h dX3_envelope_30
  clear e6
  refine lv_if_eq (tgt := 17) hx hb dX3_envelope_6 (by decide) (fun c9 => ?_) (fun c9 => ?_)
  · replace h := h.1 c9
    refine lv_iconst (v := (1 : Int32)) hx hb dX3_envelope_17 (by decide) ?_
    exact w5 (1 : Int32) _ hl h
  · replace h := h.2 c9
    refine lv_aload_n hx hb dX3_envelope_9 rfl (lv_at hl 0 rfl) ?_
    refine lv_iload_n hx hb dX3_envelope_10 rfl (lv_at hl 1 rfl) ?_
    refine roVi (As := [.int p1]) (rest := []) F (c_X3_envelopeFault l D cI cS cJ G u H0 p1 h) (cw_X3_142 hts (Nat.le_of_ble_eq_true rfl) (Nat.le_of_ble_eq_true rfl)) hK hP (recv (ci := 3) (k0 := 0) hK hP rfl rfl) rfl hl.1 rfl (Nat.le_of_ble_eq_true rfl) dX3_envelope_11 ⟨(Nat.le_of_ble_eq_true rfl), (Nat.le_of_ble_eq_true rfl)⟩ (fun r10 h => ?_)
    refine lv_goto (tgt := 18) hx hb dX3_envelope_14 (by decide) ?_
    exact w5 r10 _ hl h

def wp_X3_letter (u : Ne) (p1 : Int32) (post : Int32 → Prop) : Prop :=
  wp_X3_hallFault p1 (fun r1 => wp_X3_refuse r1 (wp_X3_read 4 (S_letters (N_now u)) p1 (fun r3 => post r3)))
set_option maxHeartbeats 4000000 in
set_option maxRecDepth 100000 in
theorem c_X3_letter (l : Launch) (D : va_G) (cI cS cJ : ClassId) (G : Nat → Nat → Nat) (u : Ne) (H0 : Heap) (p1 : Int32) {post : Int32 → Prop} (h : wp_X3_letter u p1 post) : Met l yX3_letter (wsA yX3_letter cX3_letter 2 (some .int)) rm_X3_letter (va_Pc [.ref (G 2 0), .int p1] (roP D (tysA cI cS cJ) (neW cI cS G u) H0)) (va_Qi (fun r (_ : Unit) => post r) (fun _ t => t.heap = H0) nF) 0 0 nF := by
  refine mkROi (by decide +kernel) (Nat.le_of_ble_eq_true rfl) (fun {p e s m args below meth c Q ls} hx hb F hts hown hK hP hl hQ => ?_)
  have hown : s.vm.findClass RX3 = some m.cls := hown
  have F : CallFix p m c cX3_letter 2 s args wsT RX3 := F
  have hl : lv_has ls 2 [(0, .ref (G 2 0)), (1, .int p1)] := hl
  unfold wp_X3_letter at h
  refine lv_iload_n hx hb dX3_letter_0 rfl (lv_at hl 1 rfl) ?_
  refine roSi (As := [.int p1]) (rest := []) F (c_X3_hallFault l D cI cS cJ H0 p1 h) (cw_X3_148 hts (Nat.le_of_ble_eq_true rfl) (Nat.le_of_ble_eq_true rfl)) hK vP_nil rfl hl.1 rfl (Nat.le_of_ble_eq_true rfl) dX3_letter_1 ⟨(Nat.le_of_ble_eq_true rfl), (Nat.le_of_ble_eq_true rfl)⟩ (fun r1 h => ?_)
  refine roSv (As := [.int r1]) (rest := []) F (c_X3_refuse l D cI cS cJ H0 r1 h) (cw_X3_34 hts (Nat.le_of_ble_eq_true rfl) (Nat.le_of_ble_eq_true rfl)) hK vP_nil rfl hl.1 rfl (Nat.le_of_ble_eq_true rfl) dX3_letter_4 ⟨(Nat.le_of_ble_eq_true rfl), (Nat.le_of_ble_eq_true rfl)⟩ (fun h => ?_)
  refine lv_aload_n hx hb dX3_letter_7 rfl (lv_at hl 0 rfl) ?_
  refine va_get (D := D) (ci := 3) (v := .ref (G 0 0)) (C := RX3) (T := TX3) (N := 3) hx hb hts inT3 hown hK.k hP 0 rfl rfl 0 (by decide) (hts _ q_132) (fun _ h9 => h9) rfl dX3_letter_8 ?_
  refine va_get (D := D) (ci := 2) (v := .ref ((G 0) 6)) (C := RX2) (T := TX2) (N := 12) hx hb hts inT2 hown hK.k hP 1 rfl rfl 8 (by decide) (hts _ q_67) (fun _ h9 => h9) rfl dX3_letter_11 ?_
  refine lv_iload_n hx hb dX3_letter_14 rfl (lv_at hl 1 rfl) ?_
  refine roSi (As := [.ref ((G 0) 6), .int p1]) (rest := []) F (c_X3_read l D cI cS cJ ((G 0) 6) 4 (S_letters (N_now u)) H0 p1 h) (cw_X3_58 hts (Nat.le_of_ble_eq_true rfl) (Nat.le_of_ble_eq_true rfl)) hK (vP_one hP 7 rfl) rfl hl.1 rfl (Nat.le_of_ble_eq_true rfl) dX3_letter_15 ⟨(Nat.le_of_ble_eq_true rfl), (Nat.le_of_ble_eq_true rfl)⟩ (fun r3 h => ?_)
  exact hQ h dX3_letter_18

def wp_X3_lastAnswer (u : Ne)  (post : Int32 → Prop) : Prop :=
  post (S_answerGot (N_now u))
set_option maxHeartbeats 4000000 in
set_option maxRecDepth 100000 in
theorem c_X3_lastAnswer (l : Launch) (D : va_G) (cI cS cJ : ClassId) (G : Nat → Nat → Nat) (u : Ne) (H0 : Heap)  {post : Int32 → Prop} (h : wp_X3_lastAnswer u post) : Met l yX3_lastAnswer (wsA yX3_lastAnswer cX3_lastAnswer 1 (some .int)) rm_X3_lastAnswer (va_Pc [.ref (G 2 0)] (roP D (tysA cI cS cJ) (neW cI cS G u) H0)) (va_Qi (fun r (_ : Unit) => post r) (fun _ t => t.heap = H0) nF) 0 0 nF := by
  refine mkROi (by decide +kernel) (Nat.le_of_ble_eq_true rfl) (fun {p e s m args below meth c Q ls} hx hb F hts hown hK hP hl hQ => ?_)
  have hown : s.vm.findClass RX3 = some m.cls := hown
  have F : CallFix p m c cX3_lastAnswer 1 s args wsT RX3 := F
  have hl : lv_has ls 1 [(0, .ref (G 2 0))] := hl
  unfold wp_X3_lastAnswer at h
  refine lv_aload_n hx hb dX3_lastAnswer_0 rfl (lv_at hl 0 rfl) ?_
  refine va_get (D := D) (ci := 3) (v := .ref (G 0 0)) (C := RX3) (T := TX3) (N := 3) hx hb hts inT3 hown hK.k hP 0 rfl rfl 0 (by decide) (hts _ q_132) (fun _ h9 => h9) rfl dX3_lastAnswer_1 ?_
  refine va_get (D := D) (ci := 2) (v := .int (S_answerGot (N_now u))) (C := RX2) (T := TX2) (N := 12) hx hb hts inT2 hown hK.k hP 1 rfl rfl 10 (by decide) (hts _ q_71) (fun _ h9 => h9) rfl dX3_lastAnswer_4 ?_
  exact hQ h dX3_lastAnswer_7

def wp_X3_count (u : Ne) (p1 : Int32) (post : Int32 → Prop) : Prop :=
  wp_X3_isBetween p1 (0 : Int32) (4 : Int32) (fun r1 => jn (fun (x3 : Int32) => wp_X3_refuse x3 (wp_X3_read 5 (S_counts (N_now u)) p1 (fun r9 => post r9))) (fun (J5 : Int32 → Prop) => (r1 = 0 → J5 (1 : Int32)) ∧ (¬ r1 = 0 → J5 (0 : Int32))))
set_option maxHeartbeats 4000000 in
set_option maxRecDepth 100000 in
theorem c_X3_count (l : Launch) (D : va_G) (cI cS cJ : ClassId) (G : Nat → Nat → Nat) (u : Ne) (H0 : Heap) (p1 : Int32) {post : Int32 → Prop} (h : wp_X3_count u p1 post) : Met l yX3_count (wsA yX3_count cX3_count 2 (some .int)) rm_X3_count (va_Pc [.ref (G 2 0), .int p1] (roP D (tysA cI cS cJ) (neW cI cS G u) H0)) (va_Qi (fun r (_ : Unit) => post r) (fun _ t => t.heap = H0) nF) 0 0 nF := by
  refine mkROi (by decide +kernel) (Nat.le_of_ble_eq_true rfl) (fun {p e s m args below meth c Q ls} hx hb F hts hown hK hP hl hQ => ?_)
  have hown : s.vm.findClass RX3 = some m.cls := hown
  have F : CallFix p m c cX3_count 2 s args wsT RX3 := F
  have hl : lv_has ls 2 [(0, .ref (G 2 0)), (1, .int p1)] := hl
  unfold wp_X3_count at h
  refine lv_iload_n hx hb dX3_count_0 rfl (lv_at hl 1 rfl) ?_
  refine lv_iconst (v := (0 : Int32)) hx hb dX3_count_1 (by decide) ?_
  refine lv_iconst (v := (4 : Int32)) hx hb dX3_count_2 (by decide) ?_
  refine roSi (As := [.int p1, .int (0 : Int32), .int (4 : Int32)]) (rest := []) F (c_X3_isBetween l D cI cS cJ H0 p1 (0 : Int32) (4 : Int32) h) (cw_X3_96 hts (Nat.le_of_ble_eq_true rfl) (Nat.le_of_ble_eq_true rfl)) hK vP_nil rfl hl.1 rfl (Nat.le_of_ble_eq_true rfl) dX3_count_3 ⟨(Nat.le_of_ble_eq_true rfl), (Nat.le_of_ble_eq_true rfl)⟩ (fun r1 h => ?_)
  obtain ⟨b2, h⟩ := h
  refine jn_e h (fun J5 e7 h => ?_)
  have w6 : ∀ (x3 : Int32) (ls : Array Slot), bz x3 → lv_has ls 2 [(0, .ref (G 2 0)), (1, .int p1)] → J5 x3 → W p l e rm_X3_count s m args below meth c H0 [] 0 0 Q (F0 m 14 ls [.int x3]) := by
    intro x3 ls b4 hl h
    subst e7
    refine roSv (As := [.int x3]) (rest := []) F (c_X3_refuse l D cI cS cJ H0 x3 h) (cw_X3_34 hts (Nat.le_of_ble_eq_true rfl) (Nat.le_of_ble_eq_true rfl)) hK vP_nil rfl hl.1 rfl (Nat.le_of_ble_eq_true rfl) dX3_count_14 ⟨(Nat.le_of_ble_eq_true rfl), (Nat.le_of_ble_eq_true rfl)⟩ (fun h => ?_)
    refine lv_aload_n hx hb dX3_count_17 rfl (lv_at hl 0 rfl) ?_
    refine va_get (D := D) (ci := 3) (v := .ref (G 0 0)) (C := RX3) (T := TX3) (N := 3) hx hb hts inT3 hown hK.k hP 0 rfl rfl 0 (by decide) (hts _ q_132) (fun _ h9 => h9) rfl dX3_count_18 ?_
    refine va_get (D := D) (ci := 2) (v := .ref ((G 0) 8)) (C := RX2) (T := TX2) (N := 12) hx hb hts inT2 hown hK.k hP 1 rfl rfl 11 (by decide) (hts _ q_73) (fun _ h9 => h9) rfl dX3_count_21 ?_
    refine lv_iload_n hx hb dX3_count_24 rfl (lv_at hl 1 rfl) ?_
    refine roSi (As := [.ref ((G 0) 8), .int p1]) (rest := []) F (c_X3_read l D cI cS cJ ((G 0) 8) 5 (S_counts (N_now u)) H0 p1 h) (cw_X3_58 hts (Nat.le_of_ble_eq_true rfl) (Nat.le_of_ble_eq_true rfl)) hK (vP_one hP 9 rfl) rfl hl.1 rfl (Nat.le_of_ble_eq_true rfl) dX3_count_25 ⟨(Nat.le_of_ble_eq_true rfl), (Nat.le_of_ble_eq_true rfl)⟩ (fun r9 h => ?_)
    exact hQ h dX3_count_28
  clear e7
  refine lv_if_eq (tgt := 13) hx hb dX3_count_6 (by decide) (fun c10 => ?_) (fun c10 => ?_)
  · replace h := h.1 c10
    refine lv_iconst (v := (1 : Int32)) hx hb dX3_count_13 (by decide) ?_
    exact w6 (1 : Int32) _ bz1 hl h
  · replace h := h.2 c10
    refine lv_iconst (v := (0 : Int32)) hx hb dX3_count_9 (by decide) ?_
    refine lv_goto (tgt := 14) hx hb dX3_count_10 (by decide) ?_
    exact w6 (0 : Int32) _ bz0 hl h

def wp_X3_deliveredShare (u : Ne)  (post : UInt64 → Prop) : Prop :=
  wp_X3_read 5 (S_counts (N_now u)) (0 : Int32) (fun r1 => (¬ r1 = 0 → wp_X3_read 5 (S_counts (N_now u)) (1 : Int32) (fun r3 => vf_n64 (FP.ddiv (FP.i2d r3) (FP.i2d r1)) ∧ (post (FP.ddiv (FP.i2d r3) (FP.i2d r1))))) ∧ (r1 = 0 → post FP.dconst1))
set_option maxHeartbeats 4000000 in
set_option maxRecDepth 100000 in
theorem c_X3_deliveredShare (l : Launch) (D : va_G) (cI cS cJ : ClassId) (G : Nat → Nat → Nat) (u : Ne) (H0 : Heap)  {post : UInt64 → Prop} (h : wp_X3_deliveredShare u post) : Met l yX3_deliveredShare (wsA yX3_deliveredShare cX3_deliveredShare 2 (some .double)) rm_X3_deliveredShare (va_Pc [.ref (G 2 0)] (roP D (tysA cI cS cJ) (neW cI cS G u) H0)) (va_Qd (fun r (_ : Unit) => post r) (fun _ t => t.heap = H0) nF) 0 0 nF := by
  refine mkROd (by decide +kernel) (Nat.le_of_ble_eq_true rfl) (fun {p e s m args below meth c Q ls} hx hb F hts hown hK hP hl hQ => ?_)
  have hown : s.vm.findClass RX3 = some m.cls := hown
  have F : CallFix p m c cX3_deliveredShare 2 s args wsT RX3 := F
  have hl : lv_has ls 2 [(0, .ref (G 2 0))] := hl
  unfold wp_X3_deliveredShare at h
  refine lv_aload_n hx hb dX3_deliveredShare_0 rfl (lv_at hl 0 rfl) ?_
  refine va_get (D := D) (ci := 3) (v := .ref (G 0 0)) (C := RX3) (T := TX3) (N := 3) hx hb hts inT3 hown hK.k hP 0 rfl rfl 0 (by decide) (hts _ q_132) (fun _ h9 => h9) rfl dX3_deliveredShare_1 ?_
  refine va_get (D := D) (ci := 2) (v := .ref ((G 0) 8)) (C := RX2) (T := TX2) (N := 12) hx hb hts inT2 hown hK.k hP 1 rfl rfl 11 (by decide) (hts _ q_73) (fun _ h9 => h9) rfl dX3_deliveredShare_4 ?_
  refine lv_iconst (v := (0 : Int32)) hx hb dX3_deliveredShare_7 (by decide) ?_
  refine roSi (As := [.ref ((G 0) 8), .int (0 : Int32)]) (rest := []) F (c_X3_read l D cI cS cJ ((G 0) 8) 5 (S_counts (N_now u)) H0 (0 : Int32) h) (cw_X3_58 hts (Nat.le_of_ble_eq_true rfl) (Nat.le_of_ble_eq_true rfl)) hK (vP_one hP 9 rfl) rfl hl.1 rfl (Nat.le_of_ble_eq_true rfl) dX3_deliveredShare_8 ⟨(Nat.le_of_ble_eq_true rfl), (Nat.le_of_ble_eq_true rfl)⟩ (fun r1 h => ?_)
  refine lv_istore_n (lv' := [(1, .int r1), (0, .ref (G 2 0))]) hx hb dX3_deliveredShare_11 rfl hl (by decide) rfl (fun ls hl => ?_)
  refine lv_iload_n hx hb dX3_deliveredShare_12 rfl (lv_at hl 0 rfl) ?_
  refine lv_if_ne (tgt := 18) hx hb dX3_deliveredShare_13 (by decide) (fun c2 => ?_) (fun c2 => ?_)
  · replace h := h.1 c2
    refine lv_aload_n hx hb dX3_deliveredShare_18 rfl (lv_at hl 1 rfl) ?_
    refine va_get (D := D) (ci := 3) (v := .ref (G 0 0)) (C := RX3) (T := TX3) (N := 3) hx hb hts inT3 hown hK.k hP 0 rfl rfl 0 (by decide) (hts _ q_132) (fun _ h9 => h9) rfl dX3_deliveredShare_19 ?_
    refine va_get (D := D) (ci := 2) (v := .ref ((G 0) 8)) (C := RX2) (T := TX2) (N := 12) hx hb hts inT2 hown hK.k hP 1 rfl rfl 11 (by decide) (hts _ q_73) (fun _ h9 => h9) rfl dX3_deliveredShare_22 ?_
    refine lv_iconst (v := (1 : Int32)) hx hb dX3_deliveredShare_25 (by decide) ?_
    refine roSi (As := [.ref ((G 0) 8), .int (1 : Int32)]) (rest := []) F (c_X3_read l D cI cS cJ ((G 0) 8) 5 (S_counts (N_now u)) H0 (1 : Int32) h) (cw_X3_58 hts (Nat.le_of_ble_eq_true rfl) (Nat.le_of_ble_eq_true rfl)) hK (vP_one hP 9 rfl) rfl hl.1 rfl (Nat.le_of_ble_eq_true rfl) dX3_deliveredShare_26 ⟨(Nat.le_of_ble_eq_true rfl), (Nat.le_of_ble_eq_true rfl)⟩ (fun r3 h => ?_)
    refine lv_i2d hx hb dX3_deliveredShare_29 ?_
    refine lv_iload_n hx hb dX3_deliveredShare_30 rfl (lv_at hl 0 rfl) ?_
    refine lv_i2d hx hb dX3_deliveredShare_31 ?_
    refine lv_ddiv hx hb dX3_deliveredShare_32 h.1 ?_
    replace h := h.2
    exact hQ h dX3_deliveredShare_33
  · replace h := h.2 c2
    refine lv_dconst1 hx hb dX3_deliveredShare_16 ?_
    exact hQ h dX3_deliveredShare_17

def wp_X3_lostIfClosed (u : Ne) (p1 : Int32) (post : Int32 → Prop) : Prop :=
  wp_X3_innFault p1 (fun r1 => wp_X3_refuse r1 (wp_X2_lostWithout (N_now u) p1 (fun r3 => post r3)))
set_option maxHeartbeats 4000000 in
set_option maxRecDepth 100000 in
theorem c_X3_lostIfClosed (l : Launch) (D : va_G) (cI cS cJ : ClassId) (G : Nat → Nat → Nat) (u : Ne) (H0 : Heap) (p1 : Int32) {post : Int32 → Prop} (h : wp_X3_lostIfClosed u p1 post) : Met l yX3_lostIfClosed (wsA yX3_lostIfClosed cX3_lostIfClosed 2 (some .int)) rm_X3_lostIfClosed (va_Pc [.ref (G 2 0), .int p1] (roP D (tysA cI cS cJ) (neW cI cS G u) H0)) (va_Qi (fun r (_ : Unit) => post r) (fun _ t => t.heap = H0) nF) 0 0 nF := by
  refine mkROi (by decide +kernel) (Nat.le_of_ble_eq_true rfl) (fun {p e s m args below meth c Q ls} hx hb F hts hown hK hP hl hQ => ?_)
  have hown : s.vm.findClass RX3 = some m.cls := hown
  have F : CallFix p m c cX3_lostIfClosed 2 s args wsT RX3 := F
  have hl : lv_has ls 2 [(0, .ref (G 2 0)), (1, .int p1)] := hl
  unfold wp_X3_lostIfClosed at h
  refine lv_iload_n hx hb dX3_lostIfClosed_0 rfl (lv_at hl 1 rfl) ?_
  refine roSi (As := [.int p1]) (rest := []) F (c_X3_innFault l D cI cS cJ H0 p1 h) (cw_X3_30 hts (Nat.le_of_ble_eq_true rfl) (Nat.le_of_ble_eq_true rfl)) hK vP_nil rfl hl.1 rfl (Nat.le_of_ble_eq_true rfl) dX3_lostIfClosed_1 ⟨(Nat.le_of_ble_eq_true rfl), (Nat.le_of_ble_eq_true rfl)⟩ (fun r1 h => ?_)
  refine roSv (As := [.int r1]) (rest := []) F (c_X3_refuse l D cI cS cJ H0 r1 h) (cw_X3_34 hts (Nat.le_of_ble_eq_true rfl) (Nat.le_of_ble_eq_true rfl)) hK vP_nil rfl hl.1 rfl (Nat.le_of_ble_eq_true rfl) dX3_lostIfClosed_4 ⟨(Nat.le_of_ble_eq_true rfl), (Nat.le_of_ble_eq_true rfl)⟩ (fun h => ?_)
  refine lv_aload_n hx hb dX3_lostIfClosed_7 rfl (lv_at hl 0 rfl) ?_
  refine va_get (D := D) (ci := 3) (v := .ref (G 0 0)) (C := RX3) (T := TX3) (N := 3) hx hb hts inT3 hown hK.k hP 0 rfl rfl 0 (by decide) (hts _ q_132) (fun _ h9 => h9) rfl dX3_lostIfClosed_8 ?_
  refine lv_iload_n hx hb dX3_lostIfClosed_11 rfl (lv_at hl 1 rfl) ?_
  refine roVi (As := [.int p1]) (rest := []) F (c_X2_lostWithout l D cI cS cJ (G 0) (N_now u) H0 p1 h) (cw_X3_160 hts (Nat.le_of_ble_eq_true rfl) (Nat.le_of_ble_eq_true rfl)) hK (neS hP) (recv (ci := 2) (k0 := 1) hK hP rfl rfl) rfl hl.1 rfl (Nat.le_of_ble_eq_true rfl) dX3_lostIfClosed_12 ⟨(Nat.le_of_ble_eq_true rfl), (Nat.le_of_ble_eq_true rfl)⟩ (fun r3 h => ?_)
  exact hQ h dX3_lostIfClosed_15

def wp_X3_ticksTo (u : Ne) (p1 : Int32) (post : Int32 → Prop) : Prop :=
  wp_X3_envelopeFault u p1 (fun r1 => wp_X3_refuse r1 (wp_X2_ticksLeft (N_now u) p1 (S_openMask (N_now u)) (fun r3 => post r3)))
set_option maxHeartbeats 4000000 in
set_option maxRecDepth 100000 in
theorem c_X3_ticksTo (l : Launch) (D : va_G) (cI cS cJ : ClassId) (G : Nat → Nat → Nat) (u : Ne) (H0 : Heap) (p1 : Int32) {post : Int32 → Prop} (h : wp_X3_ticksTo u p1 post) : Met l yX3_ticksTo (wsA yX3_ticksTo cX3_ticksTo 2 (some .int)) rm_X3_ticksTo (va_Pc [.ref (G 2 0), .int p1] (roP D (tysA cI cS cJ) (neW cI cS G u) H0)) (va_Qi (fun r (_ : Unit) => post r) (fun _ t => t.heap = H0) nF) 0 0 nF := by
  refine mkROi (by decide +kernel) (Nat.le_of_ble_eq_true rfl) (fun {p e s m args below meth c Q ls} hx hb F hts hown hK hP hl hQ => ?_)
  have hown : s.vm.findClass RX3 = some m.cls := hown
  have F : CallFix p m c cX3_ticksTo 2 s args wsT RX3 := F
  have hl : lv_has ls 2 [(0, .ref (G 2 0)), (1, .int p1)] := hl
  unfold wp_X3_ticksTo at h
  refine lv_aload_n hx hb dX3_ticksTo_0 rfl (lv_at hl 0 rfl) ?_
  refine lv_iload_n hx hb dX3_ticksTo_1 rfl (lv_at hl 1 rfl) ?_
  refine roVi (As := [.int p1]) (rest := []) F (c_X3_envelopeFault l D cI cS cJ G u H0 p1 h) (cw_X3_142 hts (Nat.le_of_ble_eq_true rfl) (Nat.le_of_ble_eq_true rfl)) hK hP (recv (ci := 3) (k0 := 0) hK hP rfl rfl) rfl hl.1 rfl (Nat.le_of_ble_eq_true rfl) dX3_ticksTo_2 ⟨(Nat.le_of_ble_eq_true rfl), (Nat.le_of_ble_eq_true rfl)⟩ (fun r1 h => ?_)
  refine roSv (As := [.int r1]) (rest := []) F (c_X3_refuse l D cI cS cJ H0 r1 h) (cw_X3_34 hts (Nat.le_of_ble_eq_true rfl) (Nat.le_of_ble_eq_true rfl)) hK vP_nil rfl hl.1 rfl (Nat.le_of_ble_eq_true rfl) dX3_ticksTo_5 ⟨(Nat.le_of_ble_eq_true rfl), (Nat.le_of_ble_eq_true rfl)⟩ (fun h => ?_)
  refine lv_aload_n hx hb dX3_ticksTo_8 rfl (lv_at hl 0 rfl) ?_
  refine va_get (D := D) (ci := 3) (v := .ref (G 0 0)) (C := RX3) (T := TX3) (N := 3) hx hb hts inT3 hown hK.k hP 0 rfl rfl 0 (by decide) (hts _ q_132) (fun _ h9 => h9) rfl dX3_ticksTo_9 ?_
  refine lv_iload_n hx hb dX3_ticksTo_12 rfl (lv_at hl 1 rfl) ?_
  refine lv_aload_n hx hb dX3_ticksTo_13 rfl (lv_at hl 0 rfl) ?_
  refine va_get (D := D) (ci := 3) (v := .ref (G 0 0)) (C := RX3) (T := TX3) (N := 3) hx hb hts inT3 hown hK.k hP 0 rfl rfl 0 (by decide) (hts _ q_132) (fun _ h9 => h9) rfl dX3_ticksTo_14 ?_
  refine va_get (D := D) (ci := 2) (v := .int (S_openMask (N_now u))) (C := RX2) (T := TX2) (N := 12) hx hb hts inT2 hown hK.k hP 1 rfl rfl 0 (by decide) (hts _ q_54) (fun _ h9 => h9) rfl dX3_ticksTo_17 ?_
  refine roVi (As := [.int p1, .int (S_openMask (N_now u))]) (rest := []) F (c_X2_ticksLeft l D cI cS cJ (G 0) (N_now u) H0 p1 (S_openMask (N_now u)) h) (cw_X3_166 hts (Nat.le_of_ble_eq_true rfl) (Nat.le_of_ble_eq_true rfl)) hK (neS hP) (recv (ci := 2) (k0 := 1) hK hP rfl rfl) rfl hl.1 rfl (Nat.le_of_ble_eq_true rfl) dX3_ticksTo_20 ⟨(Nat.le_of_ble_eq_true rfl), (Nat.le_of_ble_eq_true rfl)⟩ (fun r3 h => ?_)
  exact hQ h dX3_ticksTo_23

def wp_X3_leastWork (u : Ne) (p1 : Int32) (post : Int32 → Prop) : Prop :=
  wp_X3_isBetween p1 (1 : Int32) (3 : Int32) (fun r1 => jn (fun (x3 : Int32) => wp_X3_refuse x3 (wp_X2_leastUsedInn (N_now u) p1 (fun r9 => post r9))) (fun (J5 : Int32 → Prop) => (r1 = 0 → J5 (1 : Int32)) ∧ (¬ r1 = 0 → J5 (0 : Int32))))
set_option maxHeartbeats 4000000 in
set_option maxRecDepth 100000 in
theorem c_X3_leastWork (l : Launch) (D : va_G) (cI cS cJ : ClassId) (G : Nat → Nat → Nat) (u : Ne) (H0 : Heap) (p1 : Int32) {post : Int32 → Prop} (h : wp_X3_leastWork u p1 post) : Met l yX3_leastWork (wsA yX3_leastWork cX3_leastWork 2 (some .int)) rm_X3_leastWork (va_Pc [.ref (G 2 0), .int p1] (roP D (tysA cI cS cJ) (neW cI cS G u) H0)) (va_Qi (fun r (_ : Unit) => post r) (fun _ t => t.heap = H0) nF) 0 0 nF := by
  refine mkROi (by decide +kernel) (Nat.le_of_ble_eq_true rfl) (fun {p e s m args below meth c Q ls} hx hb F hts hown hK hP hl hQ => ?_)
  have hown : s.vm.findClass RX3 = some m.cls := hown
  have F : CallFix p m c cX3_leastWork 2 s args wsT RX3 := F
  have hl : lv_has ls 2 [(0, .ref (G 2 0)), (1, .int p1)] := hl
  unfold wp_X3_leastWork at h
  refine lv_iload_n hx hb dX3_leastWork_0 rfl (lv_at hl 1 rfl) ?_
  refine lv_iconst (v := (1 : Int32)) hx hb dX3_leastWork_1 (by decide) ?_
  refine lv_iconst (v := (3 : Int32)) hx hb dX3_leastWork_2 (by decide) ?_
  refine roSi (As := [.int p1, .int (1 : Int32), .int (3 : Int32)]) (rest := []) F (c_X3_isBetween l D cI cS cJ H0 p1 (1 : Int32) (3 : Int32) h) (cw_X3_96 hts (Nat.le_of_ble_eq_true rfl) (Nat.le_of_ble_eq_true rfl)) hK vP_nil rfl hl.1 rfl (Nat.le_of_ble_eq_true rfl) dX3_leastWork_3 ⟨(Nat.le_of_ble_eq_true rfl), (Nat.le_of_ble_eq_true rfl)⟩ (fun r1 h => ?_)
  obtain ⟨b2, h⟩ := h
  refine jn_e h (fun J5 e7 h => ?_)
  have w6 : ∀ (x3 : Int32) (ls : Array Slot), bz x3 → lv_has ls 2 [(0, .ref (G 2 0)), (1, .int p1)] → J5 x3 → W p l e rm_X3_leastWork s m args below meth c H0 [] 0 0 Q (F0 m 14 ls [.int x3]) := by
    intro x3 ls b4 hl h
    subst e7
    refine roSv (As := [.int x3]) (rest := []) F (c_X3_refuse l D cI cS cJ H0 x3 h) (cw_X3_34 hts (Nat.le_of_ble_eq_true rfl) (Nat.le_of_ble_eq_true rfl)) hK vP_nil rfl hl.1 rfl (Nat.le_of_ble_eq_true rfl) dX3_leastWork_14 ⟨(Nat.le_of_ble_eq_true rfl), (Nat.le_of_ble_eq_true rfl)⟩ (fun h => ?_)
    refine lv_aload_n hx hb dX3_leastWork_17 rfl (lv_at hl 0 rfl) ?_
    refine va_get (D := D) (ci := 3) (v := .ref (G 0 0)) (C := RX3) (T := TX3) (N := 3) hx hb hts inT3 hown hK.k hP 0 rfl rfl 0 (by decide) (hts _ q_132) (fun _ h9 => h9) rfl dX3_leastWork_18 ?_
    refine lv_iload_n hx hb dX3_leastWork_21 rfl (lv_at hl 1 rfl) ?_
    refine roVi (As := [.int p1]) (rest := []) F (c_X2_leastUsedInn l D cI cS cJ (G 0) (N_now u) H0 p1 h) (cw_X3_169 hts (Nat.le_of_ble_eq_true rfl) (Nat.le_of_ble_eq_true rfl)) hK (neS hP) (recv (ci := 2) (k0 := 1) hK hP rfl rfl) rfl hl.1 rfl (Nat.le_of_ble_eq_true rfl) dX3_leastWork_22 ⟨(Nat.le_of_ble_eq_true rfl), (Nat.le_of_ble_eq_true rfl)⟩ (fun r9 h => ?_)
    exact hQ h dX3_leastWork_25
  clear e7
  refine lv_if_eq (tgt := 13) hx hb dX3_leastWork_6 (by decide) (fun c10 => ?_) (fun c10 => ?_)
  · replace h := h.1 c10
    refine lv_iconst (v := (1 : Int32)) hx hb dX3_leastWork_13 (by decide) ?_
    exact w6 (1 : Int32) _ bz1 hl h
  · replace h := h.2 c10
    refine lv_iconst (v := (0 : Int32)) hx hb dX3_leastWork_9 (by decide) ?_
    refine lv_goto (tgt := 14) hx hb dX3_leastWork_10 (by decide) ?_
    exact w6 (0 : Int32) _ bz0 hl h

def wp_X3_undo (u : Ne)  (post : Int32 → Ne → Prop) : Prop :=
  (¬ (V_size (N_saved u)) = 0 → wp_X1_giveBack (N_saved u, N_now u) (fun u3 => post (V_size (N_saved (sN_saved (sN_now u u3.2) u3.1))) (sN_saved (sN_now u u3.2) u3.1))) ∧ ((V_size (N_saved u)) = 0 → False)
set_option maxHeartbeats 4000000 in
set_option maxRecDepth 100000 in
theorem c_X3_undo (l : Launch) (D : va_G) (cI cS cJ : ClassId) (G : Nat → Nat → Nat) (u : Ne) (sz : Nat)  {post : Int32 → Ne → Prop} (h : wp_X3_undo u post) : Met l yX3_undo (wsA yX3_undo cX3_undo 1 (some .int)) rm_X3_undo (va_Pc [.ref (G 2 0)] (rwP D (tysA cI cS cJ) (neW cI cS G u) sz)) (va_Qi post (fun u9 t => va_P D vwCl ((neW cI cS G) u9) t.heap ∧ va_D (va_A (neW cI cS G u) sz) ((neW cI cS G) u9)) (va_A (neW cI cS G u) sz)) 0 0 (va_A (neW cI cS G u) sz) := by
  refine mkRWi (wf := (neW cI cS G)) (by decide +kernel) (Nat.le_of_ble_eq_true rfl) (fun {p e s m args below meth c Q ls A H0 H locs} hx hb F hts hown hK hP hD hS hA hl hQ => ?_)
  have hown : s.vm.findClass RX3 = some m.cls := hown
  have F : CallFix p m c cX3_undo 1 s args wsT RX3 := F
  have hl : lv_has ls 1 [(0, .ref (G 2 0))] := hl
  unfold wp_X3_undo at h
  refine lv_aload_n hx hb dX3_undo_0 rfl (lv_at hl 0 rfl) ?_
  refine va_get (D := D) (ci := 3) (v := .ref (G 2 1)) (C := RX3) (T := TX3) (N := 3) hx hb hts inT3 hown hK.k hP 0 rfl rfl 1 (by decide) (hts _ q_133) (fun _ h9 => h9) rfl dX3_undo_1 ?_
  refine va_get (D := D) (ci := 1) (v := .int (V_size (N_saved u))) (C := RX1) (T := TX1) (N := 3) hx hb hts inT1 hown hK.k hP 12 rfl rfl 2 (by decide) (hts _ q_112) (fun _ h9 => h9) rfl dX3_undo_4 ?_
  refine lv_if_ne (tgt := 20) hx hb dX3_undo_7 (by decide) (fun c1 => ?_) (fun c1 => ?_)
  · replace h := h.1 c1
    refine lv_aload_n hx hb dX3_undo_20 rfl (lv_at hl 0 rfl) ?_
    refine va_get (D := D) (ci := 3) (v := .ref (G 2 1)) (C := RX3) (T := TX3) (N := 3) hx hb hts inT3 hown hK.k hP 0 rfl rfl 1 (by decide) (hts _ q_133) (fun _ h9 => h9) rfl dX3_undo_21 ?_
    refine lv_aload_n hx hb dX3_undo_24 rfl (lv_at hl 0 rfl) ?_
    refine va_get (D := D) (ci := 3) (v := .ref (G 0 0)) (C := RX3) (T := TX3) (N := 3) hx hb hts inT3 hown hK.k hP 0 rfl rfl 0 (by decide) (hts _ q_132) (fun _ h9 => h9) rfl dX3_undo_25 ?_
    refine rwVv (wr := neRK cI G u) (As := [.ref (G 0 0)]) (rest := []) neK_f F (c_X1_giveBack l D cI cS cJ G (N_saved u, N_now u) H.size h) (cw_X3_207 hts (Nat.le_of_ble_eq_true rfl) (Nat.le_of_ble_eq_true rfl)) hK hP hD hS hA (recv (ci := 1) (k0 := 12) hK hP rfl rfl) rfl hl.1 rfl (Nat.le_of_ble_eq_true rfl) dX3_undo_28 ⟨(Nat.le_of_ble_eq_true rfl), (Nat.le_of_ble_eq_true rfl)⟩ (fun u3 H locs h hP hD hS => ?_)
    have hP : va_P D vwCl (neW cI cS G (sN_saved (sN_now u u3.2) u3.1)) H := vP_perm (neK_b u3) hP
    have hD : va_D A (neW cI cS G (sN_saved (sN_now u u3.2) u3.1)) := vD_perm (neK_b u3) hD
    refine lv_aload_n hx hb dX3_undo_31 rfl (lv_at hl 0 rfl) ?_
    refine va_get (D := D) (ci := 3) (v := .ref (G 2 1)) (C := RX3) (T := TX3) (N := 3) hx hb hts inT3 hown hK.k hP 0 rfl rfl 1 (by decide) (hts _ q_133) (fun _ h9 => h9) rfl dX3_undo_32 ?_
    refine va_get (D := D) (ci := 1) (v := .int (V_size (N_saved (sN_saved (sN_now u u3.2) u3.1)))) (C := RX1) (T := TX1) (N := 3) hx hb hts inT1 hown hK.k hP 12 rfl rfl 2 (by decide) (hts _ q_112) (fun _ h9 => h9) rfl dX3_undo_35 ?_
    exact hQ h hP hD hS dX3_undo_38
  · replace h := h.2 c1
    exact h.elim

def wp_X3_savedStates (u : Ne)  (post : Int32 → Prop) : Prop :=
  post (V_size (N_saved u))
set_option maxHeartbeats 4000000 in
set_option maxRecDepth 100000 in
theorem c_X3_savedStates (l : Launch) (D : va_G) (cI cS cJ : ClassId) (G : Nat → Nat → Nat) (u : Ne) (H0 : Heap)  {post : Int32 → Prop} (h : wp_X3_savedStates u post) : Met l yX3_savedStates (wsA yX3_savedStates cX3_savedStates 1 (some .int)) rm_X3_savedStates (va_Pc [.ref (G 2 0)] (roP D (tysA cI cS cJ) (neW cI cS G u) H0)) (va_Qi (fun r (_ : Unit) => post r) (fun _ t => t.heap = H0) nF) 0 0 nF := by
  refine mkROi (by decide +kernel) (Nat.le_of_ble_eq_true rfl) (fun {p e s m args below meth c Q ls} hx hb F hts hown hK hP hl hQ => ?_)
  have hown : s.vm.findClass RX3 = some m.cls := hown
  have F : CallFix p m c cX3_savedStates 1 s args wsT RX3 := F
  have hl : lv_has ls 1 [(0, .ref (G 2 0))] := hl
  unfold wp_X3_savedStates at h
  refine lv_aload_n hx hb dX3_savedStates_0 rfl (lv_at hl 0 rfl) ?_
  refine va_get (D := D) (ci := 3) (v := .ref (G 2 1)) (C := RX3) (T := TX3) (N := 3) hx hb hts inT3 hown hK.k hP 0 rfl rfl 1 (by decide) (hts _ q_133) (fun _ h9 => h9) rfl dX3_savedStates_1 ?_
  refine va_get (D := D) (ci := 1) (v := .int (V_size (N_saved u))) (C := RX1) (T := TX1) (N := 3) hx hb hts inT1 hown hK.k hP 12 rfl rfl 2 (by decide) (hts _ q_112) (fun _ h9 => h9) rfl dX3_savedStates_4 ?_
  exact hQ h dX3_savedStates_7

def wp_X3_mixedInns (u : Ne) (p1 : Int64) (post : Int64 → Prop) : Prop :=
  LP2 (fun (K3 : Int64 → Int32 → Prop) (x1 : Int64) (x2 : Int32) => ((8 : Int32) ≤ x2 → post x1) ∧ (¬ (8 : Int32) ≤ x2 → wp_X2_hasOpen (N_now u) x2 (fun r6 => jn (fun (x8 : Int32) => wp_X3_mixed x1 x8 (fun r13 => wp_X3_read 8 (S_keys (N_now u)) x2 (fun r14 => wp_X3_mixed r13 r14 (fun r15 => wp_X2_knownMask (N_now u) x2 (fun r16 => wp_X3_mixed r15 r16 (fun r17 => wp_X2_lostWithout (N_now u) x2 (fun r18 => wp_X3_mixed r17 r18 (fun r19 => K3 r19 (x2 + 1))))))))) (fun (J10 : Int32 → Prop) => (r6 = 0 → J10 (0 : Int32)) ∧ (¬ r6 = 0 → J10 (1 : Int32)))))) p1 (0 : Int32)
set_option maxHeartbeats 4000000 in
set_option maxRecDepth 100000 in
theorem c_X3_mixedInns (l : Launch) (D : va_G) (cI cS cJ : ClassId) (G : Nat → Nat → Nat) (u : Ne) (H0 : Heap) (p1 : Int64) {post : Int64 → Prop} (h : wp_X3_mixedInns u p1 post) : Met l yX3_mixedInns (wsA yX3_mixedInns cX3_mixedInns 6 (some .long)) rm_X3_mixedInns (va_Pc [.ref (G 2 0), .long p1] (roP D (tysA cI cS cJ) (neW cI cS G u) H0)) (va_Ql (fun r (_ : Unit) => post r) (fun _ t => t.heap = H0) nF) 0 0 nF := by
  refine mkROl (by decide +kernel) (Nat.le_of_ble_eq_true rfl) (fun {p e s m args below meth c Q ls} hx hb F hts hown hK hP hl hQ => ?_)
  have hown : s.vm.findClass RX3 = some m.cls := hown
  have F : CallFix p m c cX3_mixedInns 6 s args wsT RX3 := F
  have hl : lv_has ls 6 [(0, .ref (G 2 0)), (1, .long p1)] := hl
  unfold wp_X3_mixedInns at h
  refine lv_lload_n hx hb dX3_mixedInns_0 rfl (lv_at hl 1 rfl) ?_
  refine lv_lstore_n (lv' := [(3, .long p1), (0, .ref (G 2 0)), (1, .long p1)]) hx hb dX3_mixedInns_1 rfl hl (by decide) rfl (fun ls hl => ?_)
  refine lv_iconst (v := (0 : Int32)) hx hb dX3_mixedInns_2 (by decide) ?_
  refine lv_istore (lv' := [(5, .int (0 : Int32)), (3, .long p1), (0, .ref (G 2 0)), (1, .long p1)]) hx hb dX3_mixedInns_3 hl (by decide) rfl (fun ls hl => ?_)
  refine lpu2 h (fun K3 : Int64 → Int32 → Prop => ∀ (x1 : Int64) (x2 : Int32) (ls : Array Slot), lv_has ls 6 [(0, .ref (G 2 0)), (3, .long x1), (5, .int x2)] → K3 x1 x2 → W p l e rm_X3_mixedInns s m args below meth c H0 [] 0 0 Q (F0 m 5 ls [])) ?_ ?_ ?_
  · intro x1 x2 ls hl h
    exact h.elim
  · intro K3
    intro w4 x1 x2 ls hl h
    refine lv_iload hx hb dX3_mixedInns_5 (lv_at hl 2 rfl) ?_
    refine lv_bipush (v := (8 : Int32)) hx hb dX3_mixedInns_7 (by decide) ?_
    refine lv_icmp_ge (tgt := 85) hx hb dX3_mixedInns_9 (by decide) (fun c5 => ?_) (fun c5 => ?_)
    · replace h := h.1 c5
      refine lv_lload_n hx hb dX3_mixedInns_85 rfl (lv_at hl 1 rfl) ?_
      exact hQ h dX3_mixedInns_86
    · replace h := h.2 c5
      refine lv_lload_n hx hb dX3_mixedInns_12 rfl (lv_at hl 1 rfl) ?_
      refine lv_aload_n hx hb dX3_mixedInns_13 rfl (lv_at hl 0 rfl) ?_
      refine va_get (D := D) (ci := 3) (v := .ref (G 0 0)) (C := RX3) (T := TX3) (N := 3) hx hb hts inT3 hown hK.k hP 0 rfl rfl 0 (by decide) (hts _ q_132) (fun _ h9 => h9) rfl dX3_mixedInns_14 ?_
      refine lv_iload hx hb dX3_mixedInns_17 (lv_at hl 2 rfl) ?_
      refine roVi (As := [.int x2]) (rest := [.long x1]) F (c_X2_hasOpen l D cI cS cJ (G 0) (N_now u) H0 x2 h) (cw_X3_42 hts (Nat.le_of_ble_eq_true rfl) (Nat.le_of_ble_eq_true rfl)) hK (neS hP) (recv (ci := 2) (k0 := 1) hK hP rfl rfl) rfl hl.1 rfl (Nat.le_of_ble_eq_true rfl) dX3_mixedInns_19 ⟨(Nat.le_of_ble_eq_true rfl), (Nat.le_of_ble_eq_true rfl)⟩ (fun r6 h => ?_)
      obtain ⟨b7, h⟩ := h
      refine jn_e h (fun J10 e12 h => ?_)
      have w11 : ∀ (x8 : Int32) (ls : Array Slot), bz x8 → lv_has ls 6 [(0, .ref (G 2 0)), (5, .int x2)] → J10 x8 → W p l e rm_X3_mixedInns s m args below meth c H0 [] 0 0 Q (F0 m 30 ls [.int x8, .long x1]) := by
        intro x8 ls b9 hl h
        subst e12
        refine roSl (As := [.long x1, .int x8]) (rest := []) F (c_X3_mixed l D cI cS cJ H0 x1 x8 h) (cw_X3_212 hts (Nat.le_of_ble_eq_true rfl) (Nat.le_of_ble_eq_true rfl)) hK vP_nil rfl hl.1 rfl (Nat.le_of_ble_eq_true rfl) dX3_mixedInns_30 ⟨(Nat.le_of_ble_eq_true rfl), (Nat.le_of_ble_eq_true rfl)⟩ (fun r13 h => ?_)
        refine lv_lstore_n (lv' := [(3, .long r13), (0, .ref (G 2 0)), (5, .int x2)]) hx hb dX3_mixedInns_33 rfl hl (by decide) rfl (fun ls hl => ?_)
        refine lv_lload_n hx hb dX3_mixedInns_34 rfl (lv_at hl 0 rfl) ?_
        refine lv_aload_n hx hb dX3_mixedInns_35 rfl (lv_at hl 1 rfl) ?_
        refine va_get (D := D) (ci := 3) (v := .ref (G 0 0)) (C := RX3) (T := TX3) (N := 3) hx hb hts inT3 hown hK.k hP 0 rfl rfl 0 (by decide) (hts _ q_132) (fun _ h9 => h9) rfl dX3_mixedInns_36 ?_
        refine va_get (D := D) (ci := 2) (v := .ref ((G 0) 1)) (C := RX2) (T := TX2) (N := 12) hx hb hts inT2 hown hK.k hP 1 rfl rfl 1 (by decide) (hts _ q_56) (fun _ h9 => h9) rfl dX3_mixedInns_39 ?_
        refine lv_iload hx hb dX3_mixedInns_42 (lv_at hl 2 rfl) ?_
        refine roSi (As := [.ref ((G 0) 1), .int x2]) (rest := [.long r13]) F (c_X3_read l D cI cS cJ ((G 0) 1) 8 (S_keys (N_now u)) H0 x2 h) (cw_X3_58 hts (Nat.le_of_ble_eq_true rfl) (Nat.le_of_ble_eq_true rfl)) hK (vP_one hP 2 rfl) rfl hl.1 rfl (Nat.le_of_ble_eq_true rfl) dX3_mixedInns_44 ⟨(Nat.le_of_ble_eq_true rfl), (Nat.le_of_ble_eq_true rfl)⟩ (fun r14 h => ?_)
        refine roSl (As := [.long r13, .int r14]) (rest := []) F (c_X3_mixed l D cI cS cJ H0 r13 r14 h) (cw_X3_212 hts (Nat.le_of_ble_eq_true rfl) (Nat.le_of_ble_eq_true rfl)) hK vP_nil rfl hl.1 rfl (Nat.le_of_ble_eq_true rfl) dX3_mixedInns_47 ⟨(Nat.le_of_ble_eq_true rfl), (Nat.le_of_ble_eq_true rfl)⟩ (fun r15 h => ?_)
        refine lv_lstore_n (lv' := [(3, .long r15), (0, .ref (G 2 0)), (5, .int x2)]) hx hb dX3_mixedInns_50 rfl hl (by decide) rfl (fun ls hl => ?_)
        refine lv_lload_n hx hb dX3_mixedInns_51 rfl (lv_at hl 0 rfl) ?_
        refine lv_aload_n hx hb dX3_mixedInns_52 rfl (lv_at hl 1 rfl) ?_
        refine va_get (D := D) (ci := 3) (v := .ref (G 0 0)) (C := RX3) (T := TX3) (N := 3) hx hb hts inT3 hown hK.k hP 0 rfl rfl 0 (by decide) (hts _ q_132) (fun _ h9 => h9) rfl dX3_mixedInns_53 ?_
        refine lv_iload hx hb dX3_mixedInns_56 (lv_at hl 2 rfl) ?_
        refine roVi (As := [.int x2]) (rest := [.long r15]) F (c_X2_knownMask l D cI cS cJ (G 0) (N_now u) H0 x2 h) (cw_X3_116 hts (Nat.le_of_ble_eq_true rfl) (Nat.le_of_ble_eq_true rfl)) hK (neS hP) (recv (ci := 2) (k0 := 1) hK hP rfl rfl) rfl hl.1 rfl (Nat.le_of_ble_eq_true rfl) dX3_mixedInns_58 ⟨(Nat.le_of_ble_eq_true rfl), (Nat.le_of_ble_eq_true rfl)⟩ (fun r16 h => ?_)
        refine roSl (As := [.long r15, .int r16]) (rest := []) F (c_X3_mixed l D cI cS cJ H0 r15 r16 h) (cw_X3_212 hts (Nat.le_of_ble_eq_true rfl) (Nat.le_of_ble_eq_true rfl)) hK vP_nil rfl hl.1 rfl (Nat.le_of_ble_eq_true rfl) dX3_mixedInns_61 ⟨(Nat.le_of_ble_eq_true rfl), (Nat.le_of_ble_eq_true rfl)⟩ (fun r17 h => ?_)
        refine lv_lstore_n (lv' := [(3, .long r17), (0, .ref (G 2 0)), (5, .int x2)]) hx hb dX3_mixedInns_64 rfl hl (by decide) rfl (fun ls hl => ?_)
        refine lv_lload_n hx hb dX3_mixedInns_65 rfl (lv_at hl 0 rfl) ?_
        refine lv_aload_n hx hb dX3_mixedInns_66 rfl (lv_at hl 1 rfl) ?_
        refine va_get (D := D) (ci := 3) (v := .ref (G 0 0)) (C := RX3) (T := TX3) (N := 3) hx hb hts inT3 hown hK.k hP 0 rfl rfl 0 (by decide) (hts _ q_132) (fun _ h9 => h9) rfl dX3_mixedInns_67 ?_
        refine lv_iload hx hb dX3_mixedInns_70 (lv_at hl 2 rfl) ?_
        refine roVi (As := [.int x2]) (rest := [.long r17]) F (c_X2_lostWithout l D cI cS cJ (G 0) (N_now u) H0 x2 h) (cw_X3_160 hts (Nat.le_of_ble_eq_true rfl) (Nat.le_of_ble_eq_true rfl)) hK (neS hP) (recv (ci := 2) (k0 := 1) hK hP rfl rfl) rfl hl.1 rfl (Nat.le_of_ble_eq_true rfl) dX3_mixedInns_72 ⟨(Nat.le_of_ble_eq_true rfl), (Nat.le_of_ble_eq_true rfl)⟩ (fun r18 h => ?_)
        refine roSl (As := [.long r17, .int r18]) (rest := []) F (c_X3_mixed l D cI cS cJ H0 r17 r18 h) (cw_X3_212 hts (Nat.le_of_ble_eq_true rfl) (Nat.le_of_ble_eq_true rfl)) hK vP_nil rfl hl.1 rfl (Nat.le_of_ble_eq_true rfl) dX3_mixedInns_75 ⟨(Nat.le_of_ble_eq_true rfl), (Nat.le_of_ble_eq_true rfl)⟩ (fun r19 h => ?_)
        refine lv_lstore_n (lv' := [(3, .long r19), (0, .ref (G 2 0)), (5, .int x2)]) hx hb dX3_mixedInns_78 rfl hl (by decide) rfl (fun ls hl => ?_)
        refine lv_iinc (v := (x2 + 1)) (lv' := [(5, .int (x2 + 1)), (3, .long r19), (0, .ref (G 2 0))]) hx hb dX3_mixedInns_79 hl (k := 2) rfl rfl (by decide) rfl (fun ls hl => ?_)
        refine lv_goto (tgt := 5) hx hb dX3_mixedInns_82 (by decide) ?_
        exact w4 r19 (x2 + 1) _ (lv_sub hl [2, 1, 0] rfl) h
      clear e12
      refine lv_if_eq (tgt := 29) hx hb dX3_mixedInns_22 (by decide) (fun c20 => ?_) (fun c20 => ?_)
      · replace h := h.1 c20
        refine lv_iconst (v := (0 : Int32)) hx hb dX3_mixedInns_29 (by decide) ?_
        exact w11 (0 : Int32) _ bz0 (lv_sub hl [0, 2] rfl) h
      · replace h := h.2 c20
        refine lv_iconst (v := (1 : Int32)) hx hb dX3_mixedInns_25 (by decide) ?_
        refine lv_goto (tgt := 30) hx hb dX3_mixedInns_26 (by decide) ?_
        exact w11 (1 : Int32) _ bz1 (lv_sub hl [0, 2] rfl) h
  · intro K3 w4 h
    exact w4 p1 (0 : Int32) _ (lv_sub hl [2, 1, 0] rfl) h

def wp_X3_mixedRoads (u : Ne) (p1 : Int64) (post : Int64 → Prop) : Prop :=
  LP2 (fun (K3 : Int64 → Int32 → Prop) (x1 : Int64) (x2 : Int32) => ((S_roadCount (N_now u)) ≤ x2 → post x1) ∧ (¬ (S_roadCount (N_now u)) ≤ x2 → LP2 (fun (K8 : Int64 → Int32 → Prop) (x6 : Int64) (x7 : Int32) => ((3 : Int32) < x7 → wp_X3_read 6 (S_roadHalls (N_now u)) x2 (fun r11 => wp_X3_mixed x6 r11 (fun r12 => wp_X2_allOpenOn (N_now u) x2 (fun r13 => jn (fun (x15 : Int32) => wp_X3_mixed r12 x15 (fun r20 => K3 r20 (x2 + 1))) (fun (J17 : Int32 → Prop) => (r13 = 0 → J17 (0 : Int32)) ∧ (¬ r13 = 0 → J17 (1 : Int32))))))) ∧ (¬ (3 : Int32) < x7 → wp_X2_innAt (N_now u) x2 x7 (fun r22 => wp_X3_mixed x6 r22 (fun r23 => K8 r23 (x7 + 1))))) x1 (1 : Int32))) p1 (0 : Int32)
set_option maxHeartbeats 4000000 in
set_option maxRecDepth 100000 in
theorem c_X3_mixedRoads (l : Launch) (D : va_G) (cI cS cJ : ClassId) (G : Nat → Nat → Nat) (u : Ne) (H0 : Heap) (p1 : Int64) {post : Int64 → Prop} (h : wp_X3_mixedRoads u p1 post) : Met l yX3_mixedRoads (wsA yX3_mixedRoads cX3_mixedRoads 7 (some .long)) rm_X3_mixedRoads (va_Pc [.ref (G 2 0), .long p1] (roP D (tysA cI cS cJ) (neW cI cS G u) H0)) (va_Ql (fun r (_ : Unit) => post r) (fun _ t => t.heap = H0) nF) 0 0 nF := by
  refine mkROl (by decide +kernel) (Nat.le_of_ble_eq_true rfl) (fun {p e s m args below meth c Q ls} hx hb F hts hown hK hP hl hQ => ?_)
  have hown : s.vm.findClass RX3 = some m.cls := hown
  have F : CallFix p m c cX3_mixedRoads 7 s args wsT RX3 := F
  have hl : lv_has ls 7 [(0, .ref (G 2 0)), (1, .long p1)] := hl
  unfold wp_X3_mixedRoads at h
  refine lv_lload_n hx hb dX3_mixedRoads_0 rfl (lv_at hl 1 rfl) ?_
  refine lv_lstore_n (lv' := [(3, .long p1), (0, .ref (G 2 0)), (1, .long p1)]) hx hb dX3_mixedRoads_1 rfl hl (by decide) rfl (fun ls hl => ?_)
  refine lv_iconst (v := (0 : Int32)) hx hb dX3_mixedRoads_2 (by decide) ?_
  refine lv_istore (lv' := [(5, .int (0 : Int32)), (3, .long p1), (0, .ref (G 2 0)), (1, .long p1)]) hx hb dX3_mixedRoads_3 hl (by decide) rfl (fun ls hl => ?_)
  refine lpu2 h (fun K3 : Int64 → Int32 → Prop => ∀ (x1 : Int64) (x2 : Int32) (ls : Array Slot), lv_has ls 7 [(0, .ref (G 2 0)), (3, .long x1), (5, .int x2)] → K3 x1 x2 → W p l e rm_X3_mixedRoads s m args below meth c H0 [] 0 0 Q (F0 m 5 ls [])) ?_ ?_ ?_
  · intro x1 x2 ls hl h
    exact h.elim
  · intro K3
    intro w4 x1 x2 ls hl h
    refine lv_iload hx hb dX3_mixedRoads_5 (lv_at hl 2 rfl) ?_
    refine lv_aload_n hx hb dX3_mixedRoads_7 rfl (lv_at hl 0 rfl) ?_
    refine va_get (D := D) (ci := 3) (v := .ref (G 0 0)) (C := RX3) (T := TX3) (N := 3) hx hb hts inT3 hown hK.k hP 0 rfl rfl 0 (by decide) (hts _ q_132) (fun _ h9 => h9) rfl dX3_mixedRoads_8 ?_
    refine va_get (D := D) (ci := 2) (v := .int (S_roadCount (N_now u))) (C := RX2) (T := TX2) (N := 12) hx hb hts inT2 hown hK.k hP 1 rfl rfl 2 (by decide) (hts _ q_58) (fun _ h9 => h9) rfl dX3_mixedRoads_11 ?_
    refine lv_icmp_ge (tgt := 93) hx hb dX3_mixedRoads_14 (by decide) (fun c5 => ?_) (fun c5 => ?_)
    · replace h := h.1 c5
      refine lv_lload_n hx hb dX3_mixedRoads_93 rfl (lv_at hl 1 rfl) ?_
      exact hQ h dX3_mixedRoads_94
    · replace h := h.2 c5
      refine lv_iconst (v := (1 : Int32)) hx hb dX3_mixedRoads_17 (by decide) ?_
      refine lv_istore (lv' := [(6, .int (1 : Int32)), (0, .ref (G 2 0)), (3, .long x1), (5, .int x2)]) hx hb dX3_mixedRoads_18 hl (by decide) rfl (fun ls hl => ?_)
      refine lpu2 h (fun K8 : Int64 → Int32 → Prop => ∀ (x6 : Int64) (x7 : Int32) (ls : Array Slot), lv_has ls 7 [(0, .ref (G 2 0)), (3, .long x6), (5, .int x2), (6, .int x7)] → K8 x6 x7 → W p l e rm_X3_mixedRoads s m args below meth c H0 [] 0 0 Q (F0 m 20 ls [])) ?_ ?_ ?_
      · intro x6 x7 ls hl h
        exact h.elim
      · intro K8
        intro w9 x6 x7 ls hl h
        refine lv_iload hx hb dX3_mixedRoads_20 (lv_at hl 3 rfl) ?_
        refine lv_iconst (v := (3 : Int32)) hx hb dX3_mixedRoads_22 (by decide) ?_
        refine lv_icmp_gt (tgt := 48) hx hb dX3_mixedRoads_23 (by decide) (fun c10 => ?_) (fun c10 => ?_)
        · replace h := h.1 c10
          refine lv_lload_n hx hb dX3_mixedRoads_48 rfl (lv_at hl 1 rfl) ?_
          refine lv_aload_n hx hb dX3_mixedRoads_49 rfl (lv_at hl 0 rfl) ?_
          refine va_get (D := D) (ci := 3) (v := .ref (G 0 0)) (C := RX3) (T := TX3) (N := 3) hx hb hts inT3 hown hK.k hP 0 rfl rfl 0 (by decide) (hts _ q_132) (fun _ h9 => h9) rfl dX3_mixedRoads_50 ?_
          refine va_get (D := D) (ci := 2) (v := .ref ((G 0) 4)) (C := RX2) (T := TX2) (N := 12) hx hb hts inT2 hown hK.k hP 1 rfl rfl 5 (by decide) (hts _ q_62) (fun _ h9 => h9) rfl dX3_mixedRoads_53 ?_
          refine lv_iload hx hb dX3_mixedRoads_56 (lv_at hl 2 rfl) ?_
          refine roSi (As := [.ref ((G 0) 4), .int x2]) (rest := [.long x6]) F (c_X3_read l D cI cS cJ ((G 0) 4) 6 (S_roadHalls (N_now u)) H0 x2 h) (cw_X3_58 hts (Nat.le_of_ble_eq_true rfl) (Nat.le_of_ble_eq_true rfl)) hK (vP_one hP 5 rfl) rfl hl.1 rfl (Nat.le_of_ble_eq_true rfl) dX3_mixedRoads_58 ⟨(Nat.le_of_ble_eq_true rfl), (Nat.le_of_ble_eq_true rfl)⟩ (fun r11 h => ?_)
          refine roSl (As := [.long x6, .int r11]) (rest := []) F (c_X3_mixed l D cI cS cJ H0 x6 r11 h) (cw_X3_212 hts (Nat.le_of_ble_eq_true rfl) (Nat.le_of_ble_eq_true rfl)) hK vP_nil rfl hl.1 rfl (Nat.le_of_ble_eq_true rfl) dX3_mixedRoads_61 ⟨(Nat.le_of_ble_eq_true rfl), (Nat.le_of_ble_eq_true rfl)⟩ (fun r12 h => ?_)
          refine lv_lstore_n (lv' := [(3, .long r12), (0, .ref (G 2 0)), (5, .int x2), (6, .int x7)]) hx hb dX3_mixedRoads_64 rfl hl (by decide) rfl (fun ls hl => ?_)
          refine lv_lload_n hx hb dX3_mixedRoads_65 rfl (lv_at hl 0 rfl) ?_
          refine lv_aload_n hx hb dX3_mixedRoads_66 rfl (lv_at hl 1 rfl) ?_
          refine va_get (D := D) (ci := 3) (v := .ref (G 0 0)) (C := RX3) (T := TX3) (N := 3) hx hb hts inT3 hown hK.k hP 0 rfl rfl 0 (by decide) (hts _ q_132) (fun _ h9 => h9) rfl dX3_mixedRoads_67 ?_
          refine lv_iload hx hb dX3_mixedRoads_70 (lv_at hl 2 rfl) ?_
          refine roVi (As := [.int x2]) (rest := [.long r12]) F (c_X2_allOpenOn l D cI cS cJ (G 0) (N_now u) H0 x2 h) (cw_X3_109 hts (Nat.le_of_ble_eq_true rfl) (Nat.le_of_ble_eq_true rfl)) hK (neS hP) (recv (ci := 2) (k0 := 1) hK hP rfl rfl) rfl hl.1 rfl (Nat.le_of_ble_eq_true rfl) dX3_mixedRoads_72 ⟨(Nat.le_of_ble_eq_true rfl), (Nat.le_of_ble_eq_true rfl)⟩ (fun r13 h => ?_)
          obtain ⟨b14, h⟩ := h
          refine jn_e h (fun J17 e19 h => ?_)
          have w18 : ∀ (x15 : Int32) (ls : Array Slot), bz x15 → lv_has ls 7 [(0, .ref (G 2 0)), (5, .int x2)] → J17 x15 → W p l e rm_X3_mixedRoads s m args below meth c H0 [] 0 0 Q (F0 m 83 ls [.int x15, .long r12]) := by
            intro x15 ls b16 hl h
            subst e19
            refine roSl (As := [.long r12, .int x15]) (rest := []) F (c_X3_mixed l D cI cS cJ H0 r12 x15 h) (cw_X3_212 hts (Nat.le_of_ble_eq_true rfl) (Nat.le_of_ble_eq_true rfl)) hK vP_nil rfl hl.1 rfl (Nat.le_of_ble_eq_true rfl) dX3_mixedRoads_83 ⟨(Nat.le_of_ble_eq_true rfl), (Nat.le_of_ble_eq_true rfl)⟩ (fun r20 h => ?_)
            refine lv_lstore_n (lv' := [(3, .long r20), (0, .ref (G 2 0)), (5, .int x2)]) hx hb dX3_mixedRoads_86 rfl hl (by decide) rfl (fun ls hl => ?_)
            refine lv_iinc (v := (x2 + 1)) (lv' := [(5, .int (x2 + 1)), (3, .long r20), (0, .ref (G 2 0))]) hx hb dX3_mixedRoads_87 hl (k := 2) rfl rfl (by decide) rfl (fun ls hl => ?_)
            refine lv_goto (tgt := 5) hx hb dX3_mixedRoads_90 (by decide) ?_
            exact w4 r20 (x2 + 1) _ (lv_sub hl [2, 1, 0] rfl) h
          clear e19
          refine lv_if_eq (tgt := 82) hx hb dX3_mixedRoads_75 (by decide) (fun c21 => ?_) (fun c21 => ?_)
          · replace h := h.1 c21
            refine lv_iconst (v := (0 : Int32)) hx hb dX3_mixedRoads_82 (by decide) ?_
            exact w18 (0 : Int32) _ bz0 (lv_sub hl [1, 2] rfl) h
          · replace h := h.2 c21
            refine lv_iconst (v := (1 : Int32)) hx hb dX3_mixedRoads_78 (by decide) ?_
            refine lv_goto (tgt := 83) hx hb dX3_mixedRoads_79 (by decide) ?_
            exact w18 (1 : Int32) _ bz1 (lv_sub hl [1, 2] rfl) h
        · replace h := h.2 c10
          refine lv_lload_n hx hb dX3_mixedRoads_26 rfl (lv_at hl 1 rfl) ?_
          refine lv_aload_n hx hb dX3_mixedRoads_27 rfl (lv_at hl 0 rfl) ?_
          refine va_get (D := D) (ci := 3) (v := .ref (G 0 0)) (C := RX3) (T := TX3) (N := 3) hx hb hts inT3 hown hK.k hP 0 rfl rfl 0 (by decide) (hts _ q_132) (fun _ h9 => h9) rfl dX3_mixedRoads_28 ?_
          refine lv_iload hx hb dX3_mixedRoads_31 (lv_at hl 2 rfl) ?_
          refine lv_iload hx hb dX3_mixedRoads_33 (lv_at hl 3 rfl) ?_
          refine roVi (As := [.int x2, .int x7]) (rest := [.long x6]) F (c_X2_innAt l D cI cS cJ (G 0) (N_now u) H0 x2 x7 h) (cw_X3_103 hts (Nat.le_of_ble_eq_true rfl) (Nat.le_of_ble_eq_true rfl)) hK (neS hP) (recv (ci := 2) (k0 := 1) hK hP rfl rfl) rfl hl.1 rfl (Nat.le_of_ble_eq_true rfl) dX3_mixedRoads_35 ⟨(Nat.le_of_ble_eq_true rfl), (Nat.le_of_ble_eq_true rfl)⟩ (fun r22 h => ?_)
          refine roSl (As := [.long x6, .int r22]) (rest := []) F (c_X3_mixed l D cI cS cJ H0 x6 r22 h) (cw_X3_212 hts (Nat.le_of_ble_eq_true rfl) (Nat.le_of_ble_eq_true rfl)) hK vP_nil rfl hl.1 rfl (Nat.le_of_ble_eq_true rfl) dX3_mixedRoads_38 ⟨(Nat.le_of_ble_eq_true rfl), (Nat.le_of_ble_eq_true rfl)⟩ (fun r23 h => ?_)
          refine lv_lstore_n (lv' := [(3, .long r23), (0, .ref (G 2 0)), (5, .int x2), (6, .int x7)]) hx hb dX3_mixedRoads_41 rfl hl (by decide) rfl (fun ls hl => ?_)
          refine lv_iinc (v := (x7 + 1)) (lv' := [(6, .int (x7 + 1)), (3, .long r23), (0, .ref (G 2 0)), (5, .int x2)]) hx hb dX3_mixedRoads_42 hl (k := 3) rfl rfl (by decide) rfl (fun ls hl => ?_)
          refine lv_goto (tgt := 20) hx hb dX3_mixedRoads_45 (by decide) ?_
          exact w9 r23 (x7 + 1) _ (lv_sub hl [2, 1, 3, 0] rfl) h
      · intro K8 w9 h
        exact w9 x1 (1 : Int32) _ (lv_sub hl [1, 2, 3, 0] rfl) h
  · intro K3 w4 h
    exact w4 p1 (0 : Int32) _ (lv_sub hl [2, 1, 0] rfl) h

def wp_X3_mixedEnvelopes (u : Ne) (p1 : Int64) (post : Int64 → Prop) : Prop :=
  LP2 (fun (K3 : Int64 → Int32 → Prop) (x1 : Int64) (x2 : Int32) => ((S_envelopeCount (N_now u)) ≤ x2 → post x1) ∧ (¬ (S_envelopeCount (N_now u)) ≤ x2 → LP2 (fun (K8 : Int64 → Int32 → Prop) (x6 : Int64) (x7 : Int32) => ((4 : Int32) ≤ x7 → wp_X2_ticksLeft (N_now u) x2 (S_openMask (N_now u)) (fun r11 => wp_X3_mixed x6 r11 (fun r12 => K3 r12 (x2 + 1)))) ∧ (¬ (4 : Int32) ≤ x7 → wp_X2_ofEnvelope (N_now u) x2 x7 (fun r13 => wp_X3_mixed x6 r13 (fun r14 => K8 r14 (x7 + 1))))) x1 (0 : Int32))) p1 (0 : Int32)
set_option maxHeartbeats 4000000 in
set_option maxRecDepth 100000 in
theorem c_X3_mixedEnvelopes (l : Launch) (D : va_G) (cI cS cJ : ClassId) (G : Nat → Nat → Nat) (u : Ne) (H0 : Heap) (p1 : Int64) {post : Int64 → Prop} (h : wp_X3_mixedEnvelopes u p1 post) : Met l yX3_mixedEnvelopes (wsA yX3_mixedEnvelopes cX3_mixedEnvelopes 7 (some .long)) rm_X3_mixedEnvelopes (va_Pc [.ref (G 2 0), .long p1] (roP D (tysA cI cS cJ) (neW cI cS G u) H0)) (va_Ql (fun r (_ : Unit) => post r) (fun _ t => t.heap = H0) nF) 0 0 nF := by
  refine mkROl (by decide +kernel) (Nat.le_of_ble_eq_true rfl) (fun {p e s m args below meth c Q ls} hx hb F hts hown hK hP hl hQ => ?_)
  have hown : s.vm.findClass RX3 = some m.cls := hown
  have F : CallFix p m c cX3_mixedEnvelopes 7 s args wsT RX3 := F
  have hl : lv_has ls 7 [(0, .ref (G 2 0)), (1, .long p1)] := hl
  unfold wp_X3_mixedEnvelopes at h
  refine lv_lload_n hx hb dX3_mixedEnvelopes_0 rfl (lv_at hl 1 rfl) ?_
  refine lv_lstore_n (lv' := [(3, .long p1), (0, .ref (G 2 0)), (1, .long p1)]) hx hb dX3_mixedEnvelopes_1 rfl hl (by decide) rfl (fun ls hl => ?_)
  refine lv_iconst (v := (0 : Int32)) hx hb dX3_mixedEnvelopes_2 (by decide) ?_
  refine lv_istore (lv' := [(5, .int (0 : Int32)), (3, .long p1), (0, .ref (G 2 0)), (1, .long p1)]) hx hb dX3_mixedEnvelopes_3 hl (by decide) rfl (fun ls hl => ?_)
  refine lpu2 h (fun K3 : Int64 → Int32 → Prop => ∀ (x1 : Int64) (x2 : Int32) (ls : Array Slot), lv_has ls 7 [(0, .ref (G 2 0)), (3, .long x1), (5, .int x2)] → K3 x1 x2 → W p l e rm_X3_mixedEnvelopes s m args below meth c H0 [] 0 0 Q (F0 m 5 ls [])) ?_ ?_ ?_
  · intro x1 x2 ls hl h
    exact h.elim
  · intro K3
    intro w4 x1 x2 ls hl h
    refine lv_iload hx hb dX3_mixedEnvelopes_5 (lv_at hl 2 rfl) ?_
    refine lv_aload_n hx hb dX3_mixedEnvelopes_7 rfl (lv_at hl 0 rfl) ?_
    refine va_get (D := D) (ci := 3) (v := .ref (G 0 0)) (C := RX3) (T := TX3) (N := 3) hx hb hts inT3 hown hK.k hP 0 rfl rfl 0 (by decide) (hts _ q_132) (fun _ h9 => h9) rfl dX3_mixedEnvelopes_8 ?_
    refine va_get (D := D) (ci := 2) (v := .int (S_envelopeCount (N_now u))) (C := RX2) (T := TX2) (N := 12) hx hb hts inT2 hown hK.k hP 1 rfl rfl 6 (by decide) (hts _ q_64) (fun _ h9 => h9) rfl dX3_mixedEnvelopes_11 ?_
    refine lv_icmp_ge (tgt := 75) hx hb dX3_mixedEnvelopes_14 (by decide) (fun c5 => ?_) (fun c5 => ?_)
    · replace h := h.1 c5
      refine lv_lload_n hx hb dX3_mixedEnvelopes_75 rfl (lv_at hl 1 rfl) ?_
      exact hQ h dX3_mixedEnvelopes_76
    · replace h := h.2 c5
      refine lv_iconst (v := (0 : Int32)) hx hb dX3_mixedEnvelopes_17 (by decide) ?_
      refine lv_istore (lv' := [(6, .int (0 : Int32)), (0, .ref (G 2 0)), (3, .long x1), (5, .int x2)]) hx hb dX3_mixedEnvelopes_18 hl (by decide) rfl (fun ls hl => ?_)
      refine lpu2 h (fun K8 : Int64 → Int32 → Prop => ∀ (x6 : Int64) (x7 : Int32) (ls : Array Slot), lv_has ls 7 [(0, .ref (G 2 0)), (3, .long x6), (5, .int x2), (6, .int x7)] → K8 x6 x7 → W p l e rm_X3_mixedEnvelopes s m args below meth c H0 [] 0 0 Q (F0 m 20 ls [])) ?_ ?_ ?_
      · intro x6 x7 ls hl h
        exact h.elim
      · intro K8
        intro w9 x6 x7 ls hl h
        refine lv_iload hx hb dX3_mixedEnvelopes_20 (lv_at hl 3 rfl) ?_
        refine lv_iconst (v := (4 : Int32)) hx hb dX3_mixedEnvelopes_22 (by decide) ?_
        refine lv_icmp_ge (tgt := 48) hx hb dX3_mixedEnvelopes_23 (by decide) (fun c10 => ?_) (fun c10 => ?_)
        · replace h := h.1 c10
          refine lv_lload_n hx hb dX3_mixedEnvelopes_48 rfl (lv_at hl 1 rfl) ?_
          refine lv_aload_n hx hb dX3_mixedEnvelopes_49 rfl (lv_at hl 0 rfl) ?_
          refine va_get (D := D) (ci := 3) (v := .ref (G 0 0)) (C := RX3) (T := TX3) (N := 3) hx hb hts inT3 hown hK.k hP 0 rfl rfl 0 (by decide) (hts _ q_132) (fun _ h9 => h9) rfl dX3_mixedEnvelopes_50 ?_
          refine lv_iload hx hb dX3_mixedEnvelopes_53 (lv_at hl 2 rfl) ?_
          refine lv_aload_n hx hb dX3_mixedEnvelopes_55 rfl (lv_at hl 0 rfl) ?_
          refine va_get (D := D) (ci := 3) (v := .ref (G 0 0)) (C := RX3) (T := TX3) (N := 3) hx hb hts inT3 hown hK.k hP 0 rfl rfl 0 (by decide) (hts _ q_132) (fun _ h9 => h9) rfl dX3_mixedEnvelopes_56 ?_
          refine va_get (D := D) (ci := 2) (v := .int (S_openMask (N_now u))) (C := RX2) (T := TX2) (N := 12) hx hb hts inT2 hown hK.k hP 1 rfl rfl 0 (by decide) (hts _ q_54) (fun _ h9 => h9) rfl dX3_mixedEnvelopes_59 ?_
          refine roVi (As := [.int x2, .int (S_openMask (N_now u))]) (rest := [.long x6]) F (c_X2_ticksLeft l D cI cS cJ (G 0) (N_now u) H0 x2 (S_openMask (N_now u)) h) (cw_X3_166 hts (Nat.le_of_ble_eq_true rfl) (Nat.le_of_ble_eq_true rfl)) hK (neS hP) (recv (ci := 2) (k0 := 1) hK hP rfl rfl) rfl hl.1 rfl (Nat.le_of_ble_eq_true rfl) dX3_mixedEnvelopes_62 ⟨(Nat.le_of_ble_eq_true rfl), (Nat.le_of_ble_eq_true rfl)⟩ (fun r11 h => ?_)
          refine roSl (As := [.long x6, .int r11]) (rest := []) F (c_X3_mixed l D cI cS cJ H0 x6 r11 h) (cw_X3_212 hts (Nat.le_of_ble_eq_true rfl) (Nat.le_of_ble_eq_true rfl)) hK vP_nil rfl hl.1 rfl (Nat.le_of_ble_eq_true rfl) dX3_mixedEnvelopes_65 ⟨(Nat.le_of_ble_eq_true rfl), (Nat.le_of_ble_eq_true rfl)⟩ (fun r12 h => ?_)
          refine lv_lstore_n (lv' := [(3, .long r12), (0, .ref (G 2 0)), (5, .int x2), (6, .int x7)]) hx hb dX3_mixedEnvelopes_68 rfl hl (by decide) rfl (fun ls hl => ?_)
          refine lv_iinc (v := (x2 + 1)) (lv' := [(5, .int (x2 + 1)), (3, .long r12), (0, .ref (G 2 0)), (6, .int x7)]) hx hb dX3_mixedEnvelopes_69 hl (k := 2) rfl rfl (by decide) rfl (fun ls hl => ?_)
          refine lv_goto (tgt := 5) hx hb dX3_mixedEnvelopes_72 (by decide) ?_
          exact w4 r12 (x2 + 1) _ (lv_sub hl [2, 1, 0] rfl) h
        · replace h := h.2 c10
          refine lv_lload_n hx hb dX3_mixedEnvelopes_26 rfl (lv_at hl 1 rfl) ?_
          refine lv_aload_n hx hb dX3_mixedEnvelopes_27 rfl (lv_at hl 0 rfl) ?_
          refine va_get (D := D) (ci := 3) (v := .ref (G 0 0)) (C := RX3) (T := TX3) (N := 3) hx hb hts inT3 hown hK.k hP 0 rfl rfl 0 (by decide) (hts _ q_132) (fun _ h9 => h9) rfl dX3_mixedEnvelopes_28 ?_
          refine lv_iload hx hb dX3_mixedEnvelopes_31 (lv_at hl 2 rfl) ?_
          refine lv_iload hx hb dX3_mixedEnvelopes_33 (lv_at hl 3 rfl) ?_
          refine roVi (As := [.int x2, .int x7]) (rest := [.long x6]) F (c_X2_ofEnvelope l D cI cS cJ (G 0) (N_now u) H0 x2 x7 h) (cw_X3_145 hts (Nat.le_of_ble_eq_true rfl) (Nat.le_of_ble_eq_true rfl)) hK (neS hP) (recv (ci := 2) (k0 := 1) hK hP rfl rfl) rfl hl.1 rfl (Nat.le_of_ble_eq_true rfl) dX3_mixedEnvelopes_35 ⟨(Nat.le_of_ble_eq_true rfl), (Nat.le_of_ble_eq_true rfl)⟩ (fun r13 h => ?_)
          refine roSl (As := [.long x6, .int r13]) (rest := []) F (c_X3_mixed l D cI cS cJ H0 x6 r13 h) (cw_X3_212 hts (Nat.le_of_ble_eq_true rfl) (Nat.le_of_ble_eq_true rfl)) hK vP_nil rfl hl.1 rfl (Nat.le_of_ble_eq_true rfl) dX3_mixedEnvelopes_38 ⟨(Nat.le_of_ble_eq_true rfl), (Nat.le_of_ble_eq_true rfl)⟩ (fun r14 h => ?_)
          refine lv_lstore_n (lv' := [(3, .long r14), (0, .ref (G 2 0)), (5, .int x2), (6, .int x7)]) hx hb dX3_mixedEnvelopes_41 rfl hl (by decide) rfl (fun ls hl => ?_)
          refine lv_iinc (v := (x7 + 1)) (lv' := [(6, .int (x7 + 1)), (3, .long r14), (0, .ref (G 2 0)), (5, .int x2)]) hx hb dX3_mixedEnvelopes_42 hl (k := 3) rfl rfl (by decide) rfl (fun ls hl => ?_)
          refine lv_goto (tgt := 20) hx hb dX3_mixedEnvelopes_45 (by decide) ?_
          exact w9 r14 (x7 + 1) _ (lv_sub hl [2, 1, 3, 0] rfl) h
      · intro K8 w9 h
        exact w9 x1 (0 : Int32) _ (lv_sub hl [1, 2, 3, 0] rfl) h
  · intro K3 w4 h
    exact w4 p1 (0 : Int32) _ (lv_sub hl [2, 1, 0] rfl) h

def wp_X3_digest (u : Ne)  (post : Int64 → Prop) : Prop :=
  wp_X3_mixed (4726 : Int64) (S_roadCount (N_now u)) (fun r1 => wp_X3_mixed r1 (S_envelopeCount (N_now u)) (fun r2 => wp_X3_mixed r2 (S_answerGot (N_now u)) (fun r3 => wp_X3_mixedRow 5 (S_counts (N_now u)) r3 (fun r4 => wp_X3_mixedInns u r4 (fun r5 => wp_X3_mixedRoads u r5 (fun r6 => wp_X3_mixedEnvelopes u r6 (fun r7 => wp_X3_mixedRow 4 (S_letters (N_now u)) r7 (fun r8 => LP2 (fun (K11 : Int64 → Int32 → Prop) (x9 : Int64) (x10 : Int32) => ((3 : Int32) < x10 → post x9) ∧ (¬ (3 : Int32) < x10 → wp_X2_leastUsedInn (N_now u) x10 (fun r14 => wp_X3_mixed x9 r14 (fun r15 => K11 r15 (x10 + 1))))) r8 (1 : Int32)))))))))
set_option maxHeartbeats 4000000 in
set_option maxRecDepth 100000 in
theorem c_X3_digest (l : Launch) (D : va_G) (cI cS cJ : ClassId) (G : Nat → Nat → Nat) (u : Ne) (H0 : Heap)  {post : Int64 → Prop} (h : wp_X3_digest u post) : Met l yX3_digest (wsA yX3_digest cX3_digest 4 (some .long)) rm_X3_digest (va_Pc [.ref (G 2 0)] (roP D (tysA cI cS cJ) (neW cI cS G u) H0)) (va_Ql (fun r (_ : Unit) => post r) (fun _ t => t.heap = H0) nF) 0 0 nF := by
  refine mkROl (by decide +kernel) (Nat.le_of_ble_eq_true rfl) (fun {p e s m args below meth c Q ls} hx hb F hts hown hK hP hl hQ => ?_)
  have hown : s.vm.findClass RX3 = some m.cls := hown
  have F : CallFix p m c cX3_digest 4 s args wsT RX3 := F
  have hl : lv_has ls 4 [(0, .ref (G 2 0))] := hl
  unfold wp_X3_digest at h
  refine lv_ldc2 (v := (4726 : Int64)) hx hb hown (hts _ q_247) dX3_digest_0 ?_
  refine lv_lstore_n (lv' := [(1, .long (4726 : Int64)), (0, .ref (G 2 0))]) hx hb dX3_digest_3 rfl hl (by decide) rfl (fun ls hl => ?_)
  refine lv_lload_n hx hb dX3_digest_4 rfl (lv_at hl 0 rfl) ?_
  refine lv_aload_n hx hb dX3_digest_5 rfl (lv_at hl 1 rfl) ?_
  refine va_get (D := D) (ci := 3) (v := .ref (G 0 0)) (C := RX3) (T := TX3) (N := 3) hx hb hts inT3 hown hK.k hP 0 rfl rfl 0 (by decide) (hts _ q_132) (fun _ h9 => h9) rfl dX3_digest_6 ?_
  refine va_get (D := D) (ci := 2) (v := .int (S_roadCount (N_now u))) (C := RX2) (T := TX2) (N := 12) hx hb hts inT2 hown hK.k hP 1 rfl rfl 2 (by decide) (hts _ q_58) (fun _ h9 => h9) rfl dX3_digest_9 ?_
  refine roSl (As := [.long (4726 : Int64), .int (S_roadCount (N_now u))]) (rest := []) F (c_X3_mixed l D cI cS cJ H0 (4726 : Int64) (S_roadCount (N_now u)) h) (cw_X3_212 hts (Nat.le_of_ble_eq_true rfl) (Nat.le_of_ble_eq_true rfl)) hK vP_nil rfl hl.1 rfl (Nat.le_of_ble_eq_true rfl) dX3_digest_12 ⟨(Nat.le_of_ble_eq_true rfl), (Nat.le_of_ble_eq_true rfl)⟩ (fun r1 h => ?_)
  refine lv_lstore_n (lv' := [(1, .long r1), (0, .ref (G 2 0))]) hx hb dX3_digest_15 rfl hl (by decide) rfl (fun ls hl => ?_)
  refine lv_lload_n hx hb dX3_digest_16 rfl (lv_at hl 0 rfl) ?_
  refine lv_aload_n hx hb dX3_digest_17 rfl (lv_at hl 1 rfl) ?_
  refine va_get (D := D) (ci := 3) (v := .ref (G 0 0)) (C := RX3) (T := TX3) (N := 3) hx hb hts inT3 hown hK.k hP 0 rfl rfl 0 (by decide) (hts _ q_132) (fun _ h9 => h9) rfl dX3_digest_18 ?_
  refine va_get (D := D) (ci := 2) (v := .int (S_envelopeCount (N_now u))) (C := RX2) (T := TX2) (N := 12) hx hb hts inT2 hown hK.k hP 1 rfl rfl 6 (by decide) (hts _ q_64) (fun _ h9 => h9) rfl dX3_digest_21 ?_
  refine roSl (As := [.long r1, .int (S_envelopeCount (N_now u))]) (rest := []) F (c_X3_mixed l D cI cS cJ H0 r1 (S_envelopeCount (N_now u)) h) (cw_X3_212 hts (Nat.le_of_ble_eq_true rfl) (Nat.le_of_ble_eq_true rfl)) hK vP_nil rfl hl.1 rfl (Nat.le_of_ble_eq_true rfl) dX3_digest_24 ⟨(Nat.le_of_ble_eq_true rfl), (Nat.le_of_ble_eq_true rfl)⟩ (fun r2 h => ?_)
  refine lv_lstore_n (lv' := [(1, .long r2), (0, .ref (G 2 0))]) hx hb dX3_digest_27 rfl hl (by decide) rfl (fun ls hl => ?_)
  refine lv_lload_n hx hb dX3_digest_28 rfl (lv_at hl 0 rfl) ?_
  refine lv_aload_n hx hb dX3_digest_29 rfl (lv_at hl 1 rfl) ?_
  refine va_get (D := D) (ci := 3) (v := .ref (G 0 0)) (C := RX3) (T := TX3) (N := 3) hx hb hts inT3 hown hK.k hP 0 rfl rfl 0 (by decide) (hts _ q_132) (fun _ h9 => h9) rfl dX3_digest_30 ?_
  refine va_get (D := D) (ci := 2) (v := .int (S_answerGot (N_now u))) (C := RX2) (T := TX2) (N := 12) hx hb hts inT2 hown hK.k hP 1 rfl rfl 10 (by decide) (hts _ q_71) (fun _ h9 => h9) rfl dX3_digest_33 ?_
  refine roSl (As := [.long r2, .int (S_answerGot (N_now u))]) (rest := []) F (c_X3_mixed l D cI cS cJ H0 r2 (S_answerGot (N_now u)) h) (cw_X3_212 hts (Nat.le_of_ble_eq_true rfl) (Nat.le_of_ble_eq_true rfl)) hK vP_nil rfl hl.1 rfl (Nat.le_of_ble_eq_true rfl) dX3_digest_36 ⟨(Nat.le_of_ble_eq_true rfl), (Nat.le_of_ble_eq_true rfl)⟩ (fun r3 h => ?_)
  refine lv_lstore_n (lv' := [(1, .long r3), (0, .ref (G 2 0))]) hx hb dX3_digest_39 rfl hl (by decide) rfl (fun ls hl => ?_)
  refine lv_lload_n hx hb dX3_digest_40 rfl (lv_at hl 0 rfl) ?_
  refine lv_aload_n hx hb dX3_digest_41 rfl (lv_at hl 1 rfl) ?_
  refine va_get (D := D) (ci := 3) (v := .ref (G 0 0)) (C := RX3) (T := TX3) (N := 3) hx hb hts inT3 hown hK.k hP 0 rfl rfl 0 (by decide) (hts _ q_132) (fun _ h9 => h9) rfl dX3_digest_42 ?_
  refine va_get (D := D) (ci := 2) (v := .ref ((G 0) 8)) (C := RX2) (T := TX2) (N := 12) hx hb hts inT2 hown hK.k hP 1 rfl rfl 11 (by decide) (hts _ q_73) (fun _ h9 => h9) rfl dX3_digest_45 ?_
  refine roSl (As := [.long r3, .ref ((G 0) 8)]) (rest := []) F (c_X3_mixedRow l D cI cS cJ ((G 0) 8) 5 (S_counts (N_now u)) H0 r3 h) (cw_X3_216 hts (Nat.le_of_ble_eq_true rfl) (Nat.le_of_ble_eq_true rfl)) hK (vP_one hP 9 rfl) rfl hl.1 rfl (Nat.le_of_ble_eq_true rfl) dX3_digest_48 ⟨(Nat.le_of_ble_eq_true rfl), (Nat.le_of_ble_eq_true rfl)⟩ (fun r4 h => ?_)
  refine lv_lstore_n (lv' := [(1, .long r4), (0, .ref (G 2 0))]) hx hb dX3_digest_51 rfl hl (by decide) rfl (fun ls hl => ?_)
  refine lv_aload_n hx hb dX3_digest_52 rfl (lv_at hl 1 rfl) ?_
  refine lv_lload_n hx hb dX3_digest_53 rfl (lv_at hl 0 rfl) ?_
  refine roVl (As := [.long r4]) (rest := []) F (c_X3_mixedInns l D cI cS cJ G u H0 r4 h) (cw_X3_220 hts (Nat.le_of_ble_eq_true rfl) (Nat.le_of_ble_eq_true rfl)) hK hP (recv (ci := 3) (k0 := 0) hK hP rfl rfl) rfl hl.1 rfl (Nat.le_of_ble_eq_true rfl) dX3_digest_54 ⟨(Nat.le_of_ble_eq_true rfl), (Nat.le_of_ble_eq_true rfl)⟩ (fun r5 h => ?_)
  refine lv_lstore_n (lv' := [(1, .long r5), (0, .ref (G 2 0))]) hx hb dX3_digest_57 rfl hl (by decide) rfl (fun ls hl => ?_)
  refine lv_aload_n hx hb dX3_digest_58 rfl (lv_at hl 1 rfl) ?_
  refine lv_lload_n hx hb dX3_digest_59 rfl (lv_at hl 0 rfl) ?_
  refine roVl (As := [.long r5]) (rest := []) F (c_X3_mixedRoads l D cI cS cJ G u H0 r5 h) (cw_X3_224 hts (Nat.le_of_ble_eq_true rfl) (Nat.le_of_ble_eq_true rfl)) hK hP (recv (ci := 3) (k0 := 0) hK hP rfl rfl) rfl hl.1 rfl (Nat.le_of_ble_eq_true rfl) dX3_digest_60 ⟨(Nat.le_of_ble_eq_true rfl), (Nat.le_of_ble_eq_true rfl)⟩ (fun r6 h => ?_)
  refine lv_lstore_n (lv' := [(1, .long r6), (0, .ref (G 2 0))]) hx hb dX3_digest_63 rfl hl (by decide) rfl (fun ls hl => ?_)
  refine lv_aload_n hx hb dX3_digest_64 rfl (lv_at hl 1 rfl) ?_
  refine lv_lload_n hx hb dX3_digest_65 rfl (lv_at hl 0 rfl) ?_
  refine roVl (As := [.long r6]) (rest := []) F (c_X3_mixedEnvelopes l D cI cS cJ G u H0 r6 h) (cw_X3_227 hts (Nat.le_of_ble_eq_true rfl) (Nat.le_of_ble_eq_true rfl)) hK hP (recv (ci := 3) (k0 := 0) hK hP rfl rfl) rfl hl.1 rfl (Nat.le_of_ble_eq_true rfl) dX3_digest_66 ⟨(Nat.le_of_ble_eq_true rfl), (Nat.le_of_ble_eq_true rfl)⟩ (fun r7 h => ?_)
  refine lv_lstore_n (lv' := [(1, .long r7), (0, .ref (G 2 0))]) hx hb dX3_digest_69 rfl hl (by decide) rfl (fun ls hl => ?_)
  refine lv_lload_n hx hb dX3_digest_70 rfl (lv_at hl 0 rfl) ?_
  refine lv_aload_n hx hb dX3_digest_71 rfl (lv_at hl 1 rfl) ?_
  refine va_get (D := D) (ci := 3) (v := .ref (G 0 0)) (C := RX3) (T := TX3) (N := 3) hx hb hts inT3 hown hK.k hP 0 rfl rfl 0 (by decide) (hts _ q_132) (fun _ h9 => h9) rfl dX3_digest_72 ?_
  refine va_get (D := D) (ci := 2) (v := .ref ((G 0) 6)) (C := RX2) (T := TX2) (N := 12) hx hb hts inT2 hown hK.k hP 1 rfl rfl 8 (by decide) (hts _ q_67) (fun _ h9 => h9) rfl dX3_digest_75 ?_
  refine roSl (As := [.long r7, .ref ((G 0) 6)]) (rest := []) F (c_X3_mixedRow l D cI cS cJ ((G 0) 6) 4 (S_letters (N_now u)) H0 r7 h) (cw_X3_216 hts (Nat.le_of_ble_eq_true rfl) (Nat.le_of_ble_eq_true rfl)) hK (vP_one hP 7 rfl) rfl hl.1 rfl (Nat.le_of_ble_eq_true rfl) dX3_digest_78 ⟨(Nat.le_of_ble_eq_true rfl), (Nat.le_of_ble_eq_true rfl)⟩ (fun r8 h => ?_)
  refine lv_lstore_n (lv' := [(1, .long r8), (0, .ref (G 2 0))]) hx hb dX3_digest_81 rfl hl (by decide) rfl (fun ls hl => ?_)
  refine lv_iconst (v := (1 : Int32)) hx hb dX3_digest_82 (by decide) ?_
  refine lv_istore_n (lv' := [(3, .int (1 : Int32)), (1, .long r8), (0, .ref (G 2 0))]) hx hb dX3_digest_83 rfl hl (by decide) rfl (fun ls hl => ?_)
  refine lpu2 h (fun K11 : Int64 → Int32 → Prop => ∀ (x9 : Int64) (x10 : Int32) (ls : Array Slot), lv_has ls 4 [(0, .ref (G 2 0)), (1, .long x9), (3, .int x10)] → K11 x9 x10 → W p l e rm_X3_digest s m args below meth c H0 [] 0 0 Q (F0 m 84 ls [])) ?_ ?_ ?_
  · intro x9 x10 ls hl h
    exact h.elim
  · intro K11
    intro w12 x9 x10 ls hl h
    refine lv_iload_n hx hb dX3_digest_84 rfl (lv_at hl 2 rfl) ?_
    refine lv_iconst (v := (3 : Int32)) hx hb dX3_digest_85 (by decide) ?_
    refine lv_icmp_gt (tgt := 108) hx hb dX3_digest_86 (by decide) (fun c13 => ?_) (fun c13 => ?_)
    · replace h := h.1 c13
      refine lv_lload_n hx hb dX3_digest_108 rfl (lv_at hl 1 rfl) ?_
      exact hQ h dX3_digest_109
    · replace h := h.2 c13
      refine lv_lload_n hx hb dX3_digest_89 rfl (lv_at hl 1 rfl) ?_
      refine lv_aload_n hx hb dX3_digest_90 rfl (lv_at hl 0 rfl) ?_
      refine va_get (D := D) (ci := 3) (v := .ref (G 0 0)) (C := RX3) (T := TX3) (N := 3) hx hb hts inT3 hown hK.k hP 0 rfl rfl 0 (by decide) (hts _ q_132) (fun _ h9 => h9) rfl dX3_digest_91 ?_
      refine lv_iload_n hx hb dX3_digest_94 rfl (lv_at hl 2 rfl) ?_
      refine roVi (As := [.int x10]) (rest := [.long x9]) F (c_X2_leastUsedInn l D cI cS cJ (G 0) (N_now u) H0 x10 h) (cw_X3_169 hts (Nat.le_of_ble_eq_true rfl) (Nat.le_of_ble_eq_true rfl)) hK (neS hP) (recv (ci := 2) (k0 := 1) hK hP rfl rfl) rfl hl.1 rfl (Nat.le_of_ble_eq_true rfl) dX3_digest_95 ⟨(Nat.le_of_ble_eq_true rfl), (Nat.le_of_ble_eq_true rfl)⟩ (fun r14 h => ?_)
      refine roSl (As := [.long x9, .int r14]) (rest := []) F (c_X3_mixed l D cI cS cJ H0 x9 r14 h) (cw_X3_212 hts (Nat.le_of_ble_eq_true rfl) (Nat.le_of_ble_eq_true rfl)) hK vP_nil rfl hl.1 rfl (Nat.le_of_ble_eq_true rfl) dX3_digest_98 ⟨(Nat.le_of_ble_eq_true rfl), (Nat.le_of_ble_eq_true rfl)⟩ (fun r15 h => ?_)
      refine lv_lstore_n (lv' := [(1, .long r15), (0, .ref (G 2 0)), (3, .int x10)]) hx hb dX3_digest_101 rfl hl (by decide) rfl (fun ls hl => ?_)
      refine lv_iinc (v := (x10 + 1)) (lv' := [(3, .int (x10 + 1)), (1, .long r15), (0, .ref (G 2 0))]) hx hb dX3_digest_102 hl (k := 2) rfl rfl (by decide) rfl (fun ls hl => ?_)
      refine lv_goto (tgt := 84) hx hb dX3_digest_105 (by decide) ?_
      exact w12 r15 (x10 + 1) _ (lv_sub hl [2, 1, 0] rfl) h
  · intro K11 w12 h
    exact w12 r8 (1 : Int32) _ (lv_sub hl [2, 1, 0] rfl) h
end
section
/-! constructors; methods that answer longs and write -/
theorem arrI_eq {D : va_G} {cI cS cJ cA : ClassId} {s : State} (h : va_K D vwCl (tysA cI cS cJ ++ [(cA, .int)]) s) : cA = cI := by
  have h1 : s.vm.findClass ("[" ++ FieldType.int.toString) = some cI := (h.2 0 (cI, .int) rfl).2
  have h2 : s.vm.findClass ("[" ++ FieldType.int.toString) = some cA := (h.2 2 (cA, .int) rfl).2
  exact Option.some.inj (h2.symm.trans h1)
theorem arrS_eq {D : va_G} {cI cS cJ cA : ClassId} {s : State} (h : va_K D vwCl (tysA cI cS cJ ++ [(cA, .object RX2)]) s) : cA = cS := by
  obtain ⟨kA, comp, -, -, -, h1⟩ := (h.2 1 (cS, .object RX2) rfl).2
  obtain ⟨kB, comp2, -, -, -, h2⟩ := (h.2 2 (cA, .object RX2) rfl).2
  exact Option.some.inj (h2.symm.trans h1)
theorem mkRWl {l : Launch} {y : MethodName} {cc : ByteArray} {nL : Nat} {rm : Room} {D : va_G} {T : List (ClassId × FieldType)} {S : Type} {wc : va_W} {wf : S → va_W} {sz mc ms : Nat} {av : List Value} {post : Int64 → S → Prop} (hy : plainFor y = true) (hnl : (lg_sl av).length ≤ nL)
    (body : ∀ {p : Program} {e : Env} {s : State} {m : MethodId} {args : Array Value} {below : List Frame} {meth : Method} {c : Code} {Q : State → Prop} {ls : Array Slot} {A : Nat → Prop} {H0 H : Heap} {locs : List Loc}, p.tables.exec = Jvm.exec → c.code = cc → CallFix p m c cc nL s args wsT y.cls → (∀ w ∈ wsT, w.before args s = true) → s.vm.findClass y.cls = some m.cls → KK D T s → va_P D vwCl wc H → va_D A wc → va_S A H0 H locs → (∀ q, H0.size ≤ q → A q) → lv_has ls nL (lv_args 0 av) →
      (∀ {v : Int64} {u : S} {H : Heap} {locs : List Loc} {pc : Nat} {ls : Array Slot}, post v u → va_P D vwCl (wf u) H → va_D A (wf u) → va_S A H0 H locs → decode cc pc = .ok (.lreturn, 1) → W p l e rm s m args below meth c H locs mc ms Q (F0 m pc ls [.long v])) → W p l e rm s m args below meth c H locs 0 0 Q (F0 m 0 ls [])) :
    Met l y (wsA y cc nL (some .long)) rm (va_Pc av (rwP D T wc sz)) (va_Ql post (fun u t => va_P D vwCl (wf u) t.heap ∧ va_D (va_A wc sz) (wf u)) (va_A wc sz)) mc ms (va_A wc sz) := by
  refine va_MetF (cc := cc) (maxL := nL) (ret := some .long) hy rfl ?_
  intro p e s m args below meth c s₁ B hml hv
  obtain ⟨rfl, hsz, hP, hK, hD0⟩ := hv
  have hts : ∀ w ∈ wsT, w.before av.toArray s = true := fun w h => atoms_spec (ws := wsA y cc nL (some .long)) B.pre w (List.mem_cons_of_mem _ h)
  have hl := lv_entry av (n := nL) hnl
  rw [lg_entry_eq]
  subst hsz
  refine body (A := va_A wc s.heap.size) (H0 := s.heap) (H := s.heap) (locs := []) B.exec B.bytes ⟨B.exec, B.bytes, hml, findClass_of_methodNamed B.named, hts⟩ hts (findClass_of_methodNamed B.named) hK hP hD0.self va_S.rf (fun q h => Or.inr h) hl (fun {v u H locs pc ls} hpv hP1 hD1 hS hd => ?_)
  exact W.lret B.exec B.bytes B.returns (fun t ht hW => ⟨⟨v, u, rfl, hpv, by rw [ht]; exact hP1, hD1⟩, hS.F ht⟩) hS.2.2 hd B.notSynchronized
abbrev rm_X0_init : Room := { frames := 1, cells := 1, slots := 60, locals := 20 }
abbrev rm_X2_init : Room := { frames := 1, cells := 8, slots := 111, locals := 23 }
theorem q_25 : Cond.initialized RJ7 ∈ wsT := tw 25 (by decide +kernel) rfl
theorem q_42 : Cond.instanceMethod objectInit ∈ wsT := tw 42 (by decide +kernel) rfl
theorem q_43 : Cond.code objectInit ⟨#[0xb1]⟩ 1 none ∈ wsT := tw 43 (by decide +kernel) rfl
theorem q_49 : Cond.methodLink RX2 3 objectInit ∈ wsT := tw 49 (by decide +kernel) rfl
theorem q_50 : Cond.methodLink RX2 34 yJ7_fill_53178 ∈ wsT := tw 50 (by decide +kernel) rfl
theorem q_51 : Cond.static yJ7_fill_53178 ∈ wsT := tw 51 (by decide +kernel) rfl
theorem q_52 : Cond.code yJ7_fill_53178 cJ7_fill_53178 4 none ∈ wsT := tw 52 (by decide +kernel) rfl
theorem q_99 : Cond.arrayClass .int ∈ wsT := tw 99 (by decide +kernel) rfl
theorem q_125 : Cond.methodLink RX0 3 objectInit ∈ wsT := tw 125 (by decide +kernel) rfl
theorem q_126 : Cond.fieldLink RX0 9 "NestedEnvelopes$OrderText" "codes" "[I" ∈ wsT := tw 126 (by decide +kernel) rfl
theorem cw_X2_34 {R : Room} {s : State} {args : Array Value} (hts : ∀ w ∈ wsT, w.before args s = true) (hf : 0 + 1 ≤ R.frames) (hl : 8 + (4 + 11) + 0 ≤ R.locals) : CallB R s args RX2 34 yJ7_fill_53178 cJ7_fill_53178 4 none (wsA yJ7_fill_53178 cJ7_fill_53178 4 none) rm_J7_fill_53178 0 0 2 ∧ (Cond.static yJ7_fill_53178).before args s = true := cwAS 2 hts q_50 q_51 q_25 q_52 rfl rfl (by decide +kernel) ⟨hf, hl⟩
def wp_X0_init (post : Ot → Prop) : Prop :=
  post ((fun _ => 0), 0)
set_option maxHeartbeats 4000000 in
set_option maxRecDepth 100000 in
theorem c_X0_init (l : Launch) (D : va_G) (cI cS cJ : ClassId) (h0 : Nat) (sz : Nat) {post : Ot → Prop} (h : wp_X0_init post) : Met l yX0_init (wsA yX0_init cX0_init 1 none) rm_X0_init (va_Pc [.ref h0] (rwP D (tysA cI cS cJ) ([(h0, .inr (0, [.null, .int 0]))]) sz)) (va_Qv (fun q9 : (Nat → Nat) × Ot => q9.1 0 = h0 ∧ post q9.2) (fun q9 t => va_P D vwCl (otW cI q9.1 q9.2) t.heap ∧ va_D (va_A ([(h0, .inr (0, [.null, .int 0]))]) sz) (otW cI q9.1 q9.2)) (va_A ([(h0, .inr (0, [.null, .int 0]))]) sz)) 1 60 (va_A ([(h0, .inr (0, [.null, .int 0]))]) sz) := by
  refine mkRWv (S := (Nat → Nat) × Ot) (wf := fun q9 => otW cI q9.1 q9.2) (by decide +kernel) (Nat.le_of_ble_eq_true rfl) (fun {p e s m args below meth c Q ls A H0 H locs} hx hb F hts hown hin hK hP hD hS hA hl hQ => ?_)
  have hown : s.vm.findClass RX0 = some m.cls := hown
  have F : CallFix p m c cX0_init 1 s args wsT RX0 := F
  have hl : lv_has ls 1 [(0, .ref h0)] := hl
  unfold wp_X0_init at h
  refine lv_aload_n hx hb dX0_init_0 rfl (lv_at hl 0 rfl) ?_
  refine W.objInit hx hb hown (hts _ q_125) (hts _ q_42) (hts _ q_43) rfl (by rw [F.2.2.1]; exact hl.1) rfl dX0_init_1 (Nat.le_of_ble_eq_true rfl) (Nat.le_of_ble_eq_true rfl) ?_
  refine W.eq (g2 := F0 m 4 ls []) rfl ?_
  refine lv_aload_n hx hb dX0_init_4 rfl (lv_at hl 0 rfl) ?_
  refine lv_bipush (v := (60 : Int32)) hx hb dX0_init_5 (by decide) ?_
  refine va_newa (atype := .int) (ty := .int) (a0 := (60, .inl (fun _ => 0))) (N' := 60) hx hb (hts _ q_99) rfl hK.k hP hD hS hA (fun cA => rfl) (by decide) rfl (by decide) (Nat.le_of_ble_eq_true rfl) (Nat.le_of_ble_eq_true rfl) dX0_init_7 (fun q1 ck2 H k2 hP hD hS => ?_)
  rw [arrI_eq k2] at hP hD
  have hP : va_P D vwCl ([(h0, .inr (0, [.null, .int 0])), (q1, .inl (cI, 60, .inl (fun _ => 0)))]) H := hP
  have hD : va_D A ([(h0, .inr (0, [.null, .int 0])), (q1, .inl (cI, 60, .inl (fun _ => 0)))]) := hD
  refine va_putF (D := D) (ci := 0) (v := .ref q1) (ty := (.array .int)) (C := RX0) (T := TX0) (N := 2) hx hb hts inT0 tyX0 tyX0_ok nmX0 hown hK.k hP hD hS 0 rfl rfl 0 (by decide) (hts _ q_126) (fun _ h9 => h9) rfl (hin rfl) rfl (by decide +kernel) rfl rfl (Nat.le_of_ble_eq_true rfl) dX0_init_9 (fun H locs hP hD hS => ?_)
  have hP : va_P D vwCl ([(h0, .inr (0, [.ref q1, .int 0])), (q1, .inl (cI, 60, .inl (fun _ => 0)))]) H := hP
  have hD : va_D A ([(h0, .inr (0, [.ref q1, .int 0])), (q1, .inl (cI, 60, .inl (fun _ => 0)))]) := hD
  exact hQ (u := (fun k => ([h0, q1] : List Nat).getD k 0, ((fun _ => 0), 0))) ⟨rfl, h⟩ hP hD hS dX0_init_12

def wp_X2_init (post : St → Prop) : Prop :=
  LP2 (fun (K5 : Int32 → (Nat → Int32) → Prop) (x3 : Int32) (f4 : (Nat → Int32)) => ((8 : Int32) ≤ x3 → wp_J7_fill_53178 4 (fun _ => 0) (-1 : Int32) (fun f18 => wp_J7_fill_53178 4 (fun _ => 0) (-1 : Int32) (fun f21 => post ((255 : Int32), f4, 0, (fun _ => 0), (fun _ => 0), (fun _ => 0), 0, (fun _ => 0), f18, f21, (-1 : Int32), (fun _ => 0))))) ∧ (¬ (8 : Int32) ≤ x3 → (vp_in x3 8) ∧ (K5 (x3 + 1) (upd f4 (Int32.toNatClampNeg x3) ((1111 : Int32) * (x3 + (1 : Int32))))))) (0 : Int32) (fun _ => 0)
set_option maxHeartbeats 4000000 in
set_option maxRecDepth 100000 in
theorem c_X2_init (l : Launch) (D : va_G) (cI cS cJ : ClassId) (h0 : Nat) (sz : Nat) {post : St → Prop} (h : wp_X2_init post) : Met l yX2_init (wsA yX2_init cX2_init 2 none) rm_X2_init (va_Pc [.ref h0] (rwP D (tysA cI cS cJ) ([(h0, .inr (2, [.int 0, .null, .int 0, .null, .null, .null, .int 0, .null, .null, .null, .int 0, .null]))]) sz)) (va_Qv (fun q9 : (Nat → Nat) × St => q9.1 0 = h0 ∧ post q9.2) (fun q9 t => va_P D vwCl (stW cI q9.1 q9.2) t.heap ∧ va_D (va_A ([(h0, .inr (2, [.int 0, .null, .int 0, .null, .null, .null, .int 0, .null, .null, .null, .int 0, .null]))]) sz) (stW cI q9.1 q9.2)) (va_A ([(h0, .inr (2, [.int 0, .null, .int 0, .null, .null, .null, .int 0, .null, .null, .null, .int 0, .null]))]) sz)) 8 111 (va_A ([(h0, .inr (2, [.int 0, .null, .int 0, .null, .null, .null, .int 0, .null, .null, .null, .int 0, .null]))]) sz) := by
  refine mkRWv (S := (Nat → Nat) × St) (wf := fun q9 => stW cI q9.1 q9.2) (by decide +kernel) (Nat.le_of_ble_eq_true rfl) (fun {p e s m args below meth c Q ls A H0 H locs} hx hb F hts hown hin hK hP hD hS hA hl hQ => ?_)
  have hown : s.vm.findClass RX2 = some m.cls := hown
  have F : CallFix p m c cX2_init 2 s args wsT RX2 := F
  have hl : lv_has ls 2 [(0, .ref h0)] := hl
  unfold wp_X2_init at h
  refine lv_aload_n hx hb dX2_init_0 rfl (lv_at hl 0 rfl) ?_
  refine W.objInit hx hb hown (hts _ q_49) (hts _ q_42) (hts _ q_43) rfl (by rw [F.2.2.1]; exact hl.1) rfl dX2_init_1 (Nat.le_of_ble_eq_true rfl) (Nat.le_of_ble_eq_true rfl) ?_
  refine W.eq (g2 := F0 m 4 ls []) rfl ?_
  refine lv_aload_n hx hb dX2_init_4 rfl (lv_at hl 0 rfl) ?_
  refine lv_sipush (v := (255 : Int32)) hx hb dX2_init_5 (by decide) ?_
  refine va_put (D := D) (ci := 2) (v := .int (255 : Int32)) (ty := .int) (C := RX2) (T := TX2) (N := 12) hx hb hts inT2 tyX2 tyX2_ok nmX2 hown hK.k hP hD hS 0 rfl rfl 0 (by decide) (hts _ q_53) (fun _ h9 => h9) rfl (by decide +kernel) rfl rfl (Nat.le_of_ble_eq_true rfl) dX2_init_8 (fun H locs hP hD hS => ?_)
  have hP : va_P D vwCl ([(h0, .inr (2, [.int (255 : Int32), .null, .int 0, .null, .null, .null, .int 0, .null, .null, .null, .int 0, .null]))]) H := hP
  have hD : va_D A ([(h0, .inr (2, [.int (255 : Int32), .null, .int 0, .null, .null, .null, .int 0, .null, .null, .null, .int 0, .null]))]) := hD
  refine lv_aload_n hx hb dX2_init_11 rfl (lv_at hl 0 rfl) ?_
  refine lv_bipush (v := (8 : Int32)) hx hb dX2_init_12 (by decide) ?_
  refine va_newa (atype := .int) (ty := .int) (a0 := (8, .inl (fun _ => 0))) (N' := 8) hx hb (hts _ q_99) rfl hK.k hP hD hS hA (fun cA => rfl) (by decide) rfl (by decide) (Nat.le_of_ble_eq_true rfl) (Nat.le_of_ble_eq_true rfl) dX2_init_14 (fun q1 ck2 H k2 hP hD hS => ?_)
  rw [arrI_eq k2] at hP hD
  have hP : va_P D vwCl ([(h0, .inr (2, [.int (255 : Int32), .null, .int 0, .null, .null, .null, .int 0, .null, .null, .null, .int 0, .null])), (q1, .inl (cI, 8, .inl (fun _ => 0)))]) H := hP
  have hD : va_D A ([(h0, .inr (2, [.int (255 : Int32), .null, .int 0, .null, .null, .null, .int 0, .null, .null, .null, .int 0, .null])), (q1, .inl (cI, 8, .inl (fun _ => 0)))]) := hD
  refine va_putF (D := D) (ci := 2) (v := .ref q1) (ty := (.array .int)) (C := RX2) (T := TX2) (N := 12) hx hb hts inT2 tyX2 tyX2_ok nmX2 hown hK.k hP hD hS 0 rfl rfl 1 (by decide) (hts _ q_55) (fun _ h9 => h9) rfl (hin rfl) rfl (by decide +kernel) rfl rfl (Nat.le_of_ble_eq_true rfl) dX2_init_16 (fun H locs hP hD hS => ?_)
  have hP : va_P D vwCl ([(h0, .inr (2, [.int (255 : Int32), .ref q1, .int 0, .null, .null, .null, .int 0, .null, .null, .null, .int 0, .null])), (q1, .inl (cI, 8, .inl (fun _ => 0)))]) H := hP
  have hD : va_D A ([(h0, .inr (2, [.int (255 : Int32), .ref q1, .int 0, .null, .null, .null, .int 0, .null, .null, .null, .int 0, .null])), (q1, .inl (cI, 8, .inl (fun _ => 0)))]) := hD
  refine lv_iconst (v := (0 : Int32)) hx hb dX2_init_19 (by decide) ?_
  refine lv_istore_n (lv' := [(1, .int (0 : Int32)), (0, .ref h0)]) hx hb dX2_init_20 rfl hl (by decide) rfl (fun ls hl => ?_)
  refine lpu2 h (fun K5 : Int32 → (Nat → Int32) → Prop => ∀ (x3 : Int32) (f4 : (Nat → Int32)) (ls : Array Slot) (H : Heap) (locs : List Loc), lv_has ls 2 [(0, .ref h0), (1, .int x3)] → va_P D vwCl ([(h0, .inr (2, [.int (255 : Int32), .ref q1, .int 0, .null, .null, .null, .int 0, .null, .null, .null, .int 0, .null])), (q1, .inl (cI, 8, .inl f4))]) H → va_D A ([(h0, .inr (2, [.int (255 : Int32), .ref q1, .int 0, .null, .null, .null, .int 0, .null, .null, .null, .int 0, .null])), (q1, .inl (cI, 8, .inl f4))]) → va_S A H0 H locs → K5 x3 f4 → W p l e rm_X2_init s m args below meth c H locs (0 + 1) (0 + 8) Q (F0 m 21 ls [])) ?_ ?_ ?_
  · intro x3 f4 ls H locs hl hP hD hS h
    exact h.elim
  · intro K5
    intro w6 x3 f4 ls H locs hl hP hD hS h
    refine lv_iload_n hx hb dX2_init_21 rfl (lv_at hl 1 rfl) ?_
    refine lv_aload_n hx hb dX2_init_22 rfl (lv_at hl 0 rfl) ?_
    refine va_get (D := D) (ci := 2) (v := .ref q1) (C := RX2) (T := TX2) (N := 12) hx hb hts inT2 hown hK.k hP 0 rfl rfl 1 (by decide) (hts _ q_55) (fun _ h9 => h9) rfl dX2_init_23 ?_
    refine va_alen (v := (8 : Int32)) hx hb hK.k hP 1 0 rfl rfl rfl dX2_init_26 ?_
    refine lv_icmp_ge (tgt := 49) hx hb dX2_init_27 (by decide) (fun c7 => ?_) (fun c7 => ?_)
    · replace h := h.1 c7
      refine lv_aload_n hx hb dX2_init_49 rfl (lv_at hl 0 rfl) ?_
      refine lv_bipush (v := (18 : Int32)) hx hb dX2_init_50 (by decide) ?_
      refine va_newa (atype := .int) (ty := .int) (a0 := (18, .inl (fun _ => 0))) (N' := 18) hx hb (hts _ q_99) rfl hK.k hP hD hS hA (fun cA => rfl) (by decide) rfl (by decide) (Nat.le_of_ble_eq_true rfl) (Nat.le_of_ble_eq_true rfl) dX2_init_52 (fun q8 ck9 H k9 hP hD hS => ?_)
      rw [arrI_eq k9] at hP hD
      have hP : va_P D vwCl ([(h0, .inr (2, [.int (255 : Int32), .ref q1, .int 0, .null, .null, .null, .int 0, .null, .null, .null, .int 0, .null])), (q1, .inl (cI, 8, .inl f4)), (q8, .inl (cI, 18, .inl (fun _ => 0)))]) H := hP
      have hD : va_D A ([(h0, .inr (2, [.int (255 : Int32), .ref q1, .int 0, .null, .null, .null, .int 0, .null, .null, .null, .int 0, .null])), (q1, .inl (cI, 8, .inl f4)), (q8, .inl (cI, 18, .inl (fun _ => 0)))]) := hD
      refine va_putF (D := D) (ci := 2) (v := .ref q8) (ty := (.array .int)) (C := RX2) (T := TX2) (N := 12) hx hb hts inT2 tyX2 tyX2_ok nmX2 hown hK.k hP hD hS 0 rfl rfl 3 (by decide) (hts _ q_59) (fun _ h9 => h9) rfl (hin rfl) rfl (by decide +kernel) rfl rfl (Nat.le_of_ble_eq_true rfl) dX2_init_54 (fun H locs hP hD hS => ?_)
      have hP : va_P D vwCl ([(h0, .inr (2, [.int (255 : Int32), .ref q1, .int 0, .ref q8, .null, .null, .int 0, .null, .null, .null, .int 0, .null])), (q1, .inl (cI, 8, .inl f4)), (q8, .inl (cI, 18, .inl (fun _ => 0)))]) H := hP
      have hD : va_D A ([(h0, .inr (2, [.int (255 : Int32), .ref q1, .int 0, .ref q8, .null, .null, .int 0, .null, .null, .null, .int 0, .null])), (q1, .inl (cI, 8, .inl f4)), (q8, .inl (cI, 18, .inl (fun _ => 0)))]) := hD
      refine lv_aload_n hx hb dX2_init_57 rfl (lv_at hl 0 rfl) ?_
      refine lv_bipush (v := (18 : Int32)) hx hb dX2_init_58 (by decide) ?_
      refine va_newa (atype := .int) (ty := .int) (a0 := (18, .inl (fun _ => 0))) (N' := 18) hx hb (hts _ q_99) rfl hK.k hP hD hS hA (fun cA => rfl) (by decide) rfl (by decide) (Nat.le_of_ble_eq_true rfl) (Nat.le_of_ble_eq_true rfl) dX2_init_60 (fun q10 ck11 H k11 hP hD hS => ?_)
      rw [arrI_eq k11] at hP hD
      have hP : va_P D vwCl ([(h0, .inr (2, [.int (255 : Int32), .ref q1, .int 0, .ref q8, .null, .null, .int 0, .null, .null, .null, .int 0, .null])), (q1, .inl (cI, 8, .inl f4)), (q8, .inl (cI, 18, .inl (fun _ => 0))), (q10, .inl (cI, 18, .inl (fun _ => 0)))]) H := hP
      have hD : va_D A ([(h0, .inr (2, [.int (255 : Int32), .ref q1, .int 0, .ref q8, .null, .null, .int 0, .null, .null, .null, .int 0, .null])), (q1, .inl (cI, 8, .inl f4)), (q8, .inl (cI, 18, .inl (fun _ => 0))), (q10, .inl (cI, 18, .inl (fun _ => 0)))]) := hD
      refine va_putF (D := D) (ci := 2) (v := .ref q10) (ty := (.array .int)) (C := RX2) (T := TX2) (N := 12) hx hb hts inT2 tyX2 tyX2_ok nmX2 hown hK.k hP hD hS 0 rfl rfl 4 (by decide) (hts _ q_60) (fun _ h9 => h9) rfl (hin rfl) rfl (by decide +kernel) rfl rfl (Nat.le_of_ble_eq_true rfl) dX2_init_62 (fun H locs hP hD hS => ?_)
      have hP : va_P D vwCl ([(h0, .inr (2, [.int (255 : Int32), .ref q1, .int 0, .ref q8, .ref q10, .null, .int 0, .null, .null, .null, .int 0, .null])), (q1, .inl (cI, 8, .inl f4)), (q8, .inl (cI, 18, .inl (fun _ => 0))), (q10, .inl (cI, 18, .inl (fun _ => 0)))]) H := hP
      have hD : va_D A ([(h0, .inr (2, [.int (255 : Int32), .ref q1, .int 0, .ref q8, .ref q10, .null, .int 0, .null, .null, .null, .int 0, .null])), (q1, .inl (cI, 8, .inl f4)), (q8, .inl (cI, 18, .inl (fun _ => 0))), (q10, .inl (cI, 18, .inl (fun _ => 0)))]) := hD
      refine lv_aload_n hx hb dX2_init_65 rfl (lv_at hl 0 rfl) ?_
      refine lv_bipush (v := (6 : Int32)) hx hb dX2_init_66 (by decide) ?_
      refine va_newa (atype := .int) (ty := .int) (a0 := (6, .inl (fun _ => 0))) (N' := 6) hx hb (hts _ q_99) rfl hK.k hP hD hS hA (fun cA => rfl) (by decide) rfl (by decide) (Nat.le_of_ble_eq_true rfl) (Nat.le_of_ble_eq_true rfl) dX2_init_68 (fun q12 ck13 H k13 hP hD hS => ?_)
      rw [arrI_eq k13] at hP hD
      have hP : va_P D vwCl ([(h0, .inr (2, [.int (255 : Int32), .ref q1, .int 0, .ref q8, .ref q10, .null, .int 0, .null, .null, .null, .int 0, .null])), (q1, .inl (cI, 8, .inl f4)), (q8, .inl (cI, 18, .inl (fun _ => 0))), (q10, .inl (cI, 18, .inl (fun _ => 0))), (q12, .inl (cI, 6, .inl (fun _ => 0)))]) H := hP
      have hD : va_D A ([(h0, .inr (2, [.int (255 : Int32), .ref q1, .int 0, .ref q8, .ref q10, .null, .int 0, .null, .null, .null, .int 0, .null])), (q1, .inl (cI, 8, .inl f4)), (q8, .inl (cI, 18, .inl (fun _ => 0))), (q10, .inl (cI, 18, .inl (fun _ => 0))), (q12, .inl (cI, 6, .inl (fun _ => 0)))]) := hD
      refine va_putF (D := D) (ci := 2) (v := .ref q12) (ty := (.array .int)) (C := RX2) (T := TX2) (N := 12) hx hb hts inT2 tyX2 tyX2_ok nmX2 hown hK.k hP hD hS 0 rfl rfl 5 (by decide) (hts _ q_61) (fun _ h9 => h9) rfl (hin rfl) rfl (by decide +kernel) rfl rfl (Nat.le_of_ble_eq_true rfl) dX2_init_70 (fun H locs hP hD hS => ?_)
      have hP : va_P D vwCl ([(h0, .inr (2, [.int (255 : Int32), .ref q1, .int 0, .ref q8, .ref q10, .ref q12, .int 0, .null, .null, .null, .int 0, .null])), (q1, .inl (cI, 8, .inl f4)), (q8, .inl (cI, 18, .inl (fun _ => 0))), (q10, .inl (cI, 18, .inl (fun _ => 0))), (q12, .inl (cI, 6, .inl (fun _ => 0)))]) H := hP
      have hD : va_D A ([(h0, .inr (2, [.int (255 : Int32), .ref q1, .int 0, .ref q8, .ref q10, .ref q12, .int 0, .null, .null, .null, .int 0, .null])), (q1, .inl (cI, 8, .inl f4)), (q8, .inl (cI, 18, .inl (fun _ => 0))), (q10, .inl (cI, 18, .inl (fun _ => 0))), (q12, .inl (cI, 6, .inl (fun _ => 0)))]) := hD
      refine lv_aload_n hx hb dX2_init_73 rfl (lv_at hl 0 rfl) ?_
      refine lv_bipush (v := (48 : Int32)) hx hb dX2_init_74 (by decide) ?_
      refine va_newa (atype := .int) (ty := .int) (a0 := (48, .inl (fun _ => 0))) (N' := 48) hx hb (hts _ q_99) rfl hK.k hP hD hS hA (fun cA => rfl) (by decide) rfl (by decide) (Nat.le_of_ble_eq_true rfl) (Nat.le_of_ble_eq_true rfl) dX2_init_76 (fun q14 ck15 H k15 hP hD hS => ?_)
      rw [arrI_eq k15] at hP hD
      have hP : va_P D vwCl ([(h0, .inr (2, [.int (255 : Int32), .ref q1, .int 0, .ref q8, .ref q10, .ref q12, .int 0, .null, .null, .null, .int 0, .null])), (q1, .inl (cI, 8, .inl f4)), (q8, .inl (cI, 18, .inl (fun _ => 0))), (q10, .inl (cI, 18, .inl (fun _ => 0))), (q12, .inl (cI, 6, .inl (fun _ => 0))), (q14, .inl (cI, 48, .inl (fun _ => 0)))]) H := hP
      have hD : va_D A ([(h0, .inr (2, [.int (255 : Int32), .ref q1, .int 0, .ref q8, .ref q10, .ref q12, .int 0, .null, .null, .null, .int 0, .null])), (q1, .inl (cI, 8, .inl f4)), (q8, .inl (cI, 18, .inl (fun _ => 0))), (q10, .inl (cI, 18, .inl (fun _ => 0))), (q12, .inl (cI, 6, .inl (fun _ => 0))), (q14, .inl (cI, 48, .inl (fun _ => 0)))]) := hD
      refine va_putF (D := D) (ci := 2) (v := .ref q14) (ty := (.array .int)) (C := RX2) (T := TX2) (N := 12) hx hb hts inT2 tyX2 tyX2_ok nmX2 hown hK.k hP hD hS 0 rfl rfl 7 (by decide) (hts _ q_65) (fun _ h9 => h9) rfl (hin rfl) rfl (by decide +kernel) rfl rfl (Nat.le_of_ble_eq_true rfl) dX2_init_78 (fun H locs hP hD hS => ?_)
      have hP : va_P D vwCl ([(h0, .inr (2, [.int (255 : Int32), .ref q1, .int 0, .ref q8, .ref q10, .ref q12, .int 0, .ref q14, .null, .null, .int 0, .null])), (q1, .inl (cI, 8, .inl f4)), (q8, .inl (cI, 18, .inl (fun _ => 0))), (q10, .inl (cI, 18, .inl (fun _ => 0))), (q12, .inl (cI, 6, .inl (fun _ => 0))), (q14, .inl (cI, 48, .inl (fun _ => 0)))]) H := hP
      have hD : va_D A ([(h0, .inr (2, [.int (255 : Int32), .ref q1, .int 0, .ref q8, .ref q10, .ref q12, .int 0, .ref q14, .null, .null, .int 0, .null])), (q1, .inl (cI, 8, .inl f4)), (q8, .inl (cI, 18, .inl (fun _ => 0))), (q10, .inl (cI, 18, .inl (fun _ => 0))), (q12, .inl (cI, 6, .inl (fun _ => 0))), (q14, .inl (cI, 48, .inl (fun _ => 0)))]) := hD
      refine lv_aload_n hx hb dX2_init_81 rfl (lv_at hl 0 rfl) ?_
      refine lv_iconst (v := (4 : Int32)) hx hb dX2_init_82 (by decide) ?_
      refine va_newa (atype := .int) (ty := .int) (a0 := (4, .inl (fun _ => 0))) (N' := 4) hx hb (hts _ q_99) rfl hK.k hP hD hS hA (fun cA => rfl) (by decide) rfl (by decide) (Nat.le_of_ble_eq_true rfl) (Nat.le_of_ble_eq_true rfl) dX2_init_83 (fun q16 ck17 H k17 hP hD hS => ?_)
      rw [arrI_eq k17] at hP hD
      have hP : va_P D vwCl ([(h0, .inr (2, [.int (255 : Int32), .ref q1, .int 0, .ref q8, .ref q10, .ref q12, .int 0, .ref q14, .null, .null, .int 0, .null])), (q1, .inl (cI, 8, .inl f4)), (q8, .inl (cI, 18, .inl (fun _ => 0))), (q10, .inl (cI, 18, .inl (fun _ => 0))), (q12, .inl (cI, 6, .inl (fun _ => 0))), (q14, .inl (cI, 48, .inl (fun _ => 0))), (q16, .inl (cI, 4, .inl (fun _ => 0)))]) H := hP
      have hD : va_D A ([(h0, .inr (2, [.int (255 : Int32), .ref q1, .int 0, .ref q8, .ref q10, .ref q12, .int 0, .ref q14, .null, .null, .int 0, .null])), (q1, .inl (cI, 8, .inl f4)), (q8, .inl (cI, 18, .inl (fun _ => 0))), (q10, .inl (cI, 18, .inl (fun _ => 0))), (q12, .inl (cI, 6, .inl (fun _ => 0))), (q14, .inl (cI, 48, .inl (fun _ => 0))), (q16, .inl (cI, 4, .inl (fun _ => 0)))]) := hD
      refine va_putF (D := D) (ci := 2) (v := .ref q16) (ty := (.array .int)) (C := RX2) (T := TX2) (N := 12) hx hb hts inT2 tyX2 tyX2_ok nmX2 hown hK.k hP hD hS 0 rfl rfl 8 (by decide) (hts _ q_66) (fun _ h9 => h9) rfl (hin rfl) rfl (by decide +kernel) rfl rfl (Nat.le_of_ble_eq_true rfl) dX2_init_85 (fun H locs hP hD hS => ?_)
      have hP : va_P D vwCl ([(h0, .inr (2, [.int (255 : Int32), .ref q1, .int 0, .ref q8, .ref q10, .ref q12, .int 0, .ref q14, .ref q16, .null, .int 0, .null])), (q1, .inl (cI, 8, .inl f4)), (q8, .inl (cI, 18, .inl (fun _ => 0))), (q10, .inl (cI, 18, .inl (fun _ => 0))), (q12, .inl (cI, 6, .inl (fun _ => 0))), (q14, .inl (cI, 48, .inl (fun _ => 0))), (q16, .inl (cI, 4, .inl (fun _ => 0)))]) H := hP
      have hD : va_D A ([(h0, .inr (2, [.int (255 : Int32), .ref q1, .int 0, .ref q8, .ref q10, .ref q12, .int 0, .ref q14, .ref q16, .null, .int 0, .null])), (q1, .inl (cI, 8, .inl f4)), (q8, .inl (cI, 18, .inl (fun _ => 0))), (q10, .inl (cI, 18, .inl (fun _ => 0))), (q12, .inl (cI, 6, .inl (fun _ => 0))), (q14, .inl (cI, 48, .inl (fun _ => 0))), (q16, .inl (cI, 4, .inl (fun _ => 0)))]) := hD
      refine lv_aload_n hx hb dX2_init_88 rfl (lv_at hl 0 rfl) ?_
      refine va_get (D := D) (ci := 2) (v := .ref q16) (C := RX2) (T := TX2) (N := 12) hx hb hts inT2 hown hK.k hP 0 rfl rfl 8 (by decide) (hts _ q_66) (fun _ h9 => h9) rfl dX2_init_89 ?_
      refine lv_iconst (v := (-1 : Int32)) hx hb dX2_init_92 (by decide) ?_
      refine rwSv (wr := List.eraseIdx ([(h0, .inr (2, [.int (255 : Int32), .ref q1, .int 0, .ref q8, .ref q10, .ref q12, .int 0, .ref q14, .ref q16, .null, .int 0, .null])), (q1, .inl (cI, 8, .inl f4)), (q8, .inl (cI, 18, .inl (fun _ => 0))), (q10, .inl (cI, 18, .inl (fun _ => 0))), (q12, .inl (cI, 6, .inl (fun _ => 0))), (q14, .inl (cI, 48, .inl (fun _ => 0))), (q16, .inl (cI, 4, .inl (fun _ => 0)))]) 6) (wf := fun f1 => [(q16, .inl (cI, 4, .inl f1))]) (As := [.ref q16, .int (-1 : Int32)]) (rest := []) (perm_k _ 6 rfl) F (c_J7_fill_53178 l D cI cS cJ q16 4 (fun _ => 0) H.size (-1 : Int32) h) (cw_X2_34 hts (Nat.le_of_ble_eq_true rfl) (Nat.le_of_ble_eq_true rfl)) hK hP hD hS hA rfl hl.1 rfl (Nat.le_of_ble_eq_true rfl) dX2_init_93 ⟨(Nat.le_of_ble_eq_true rfl), (Nat.le_of_ble_eq_true rfl)⟩ (fun f18 H locs h hP hD hS => ?_)
      have hP : va_P D vwCl ([(h0, .inr (2, [.int (255 : Int32), .ref q1, .int 0, .ref q8, .ref q10, .ref q12, .int 0, .ref q14, .ref q16, .null, .int 0, .null])), (q1, .inl (cI, 8, .inl f4)), (q8, .inl (cI, 18, .inl (fun _ => 0))), (q10, .inl (cI, 18, .inl (fun _ => 0))), (q12, .inl (cI, 6, .inl (fun _ => 0))), (q14, .inl (cI, 48, .inl (fun _ => 0))), (q16, .inl (cI, 4, .inl f18))]) H := vP_set1 (k := 6) (ws := [(h0, .inr (2, [.int (255 : Int32), .ref q1, .int 0, .ref q8, .ref q10, .ref q12, .int 0, .ref q14, .ref q16, .null, .int 0, .null])), (q1, .inl (cI, 8, .inl f4)), (q8, .inl (cI, 18, .inl (fun _ => 0))), (q10, .inl (cI, 18, .inl (fun _ => 0))), (q12, .inl (cI, 6, .inl (fun _ => 0))), (q14, .inl (cI, 48, .inl (fun _ => 0))), (q16, .inl (cI, 4, .inl (fun _ => 0)))]) rfl hP
      have hD : va_D A ([(h0, .inr (2, [.int (255 : Int32), .ref q1, .int 0, .ref q8, .ref q10, .ref q12, .int 0, .ref q14, .ref q16, .null, .int 0, .null])), (q1, .inl (cI, 8, .inl f4)), (q8, .inl (cI, 18, .inl (fun _ => 0))), (q10, .inl (cI, 18, .inl (fun _ => 0))), (q12, .inl (cI, 6, .inl (fun _ => 0))), (q14, .inl (cI, 48, .inl (fun _ => 0))), (q16, .inl (cI, 4, .inl f18))]) := vD_set1 (k := 6) (ws := [(h0, .inr (2, [.int (255 : Int32), .ref q1, .int 0, .ref q8, .ref q10, .ref q12, .int 0, .ref q14, .ref q16, .null, .int 0, .null])), (q1, .inl (cI, 8, .inl f4)), (q8, .inl (cI, 18, .inl (fun _ => 0))), (q10, .inl (cI, 18, .inl (fun _ => 0))), (q12, .inl (cI, 6, .inl (fun _ => 0))), (q14, .inl (cI, 48, .inl (fun _ => 0))), (q16, .inl (cI, 4, .inl (fun _ => 0)))]) rfl hD
      refine lv_aload_n hx hb dX2_init_96 rfl (lv_at hl 0 rfl) ?_
      refine lv_iconst (v := (4 : Int32)) hx hb dX2_init_97 (by decide) ?_
      refine va_newa (atype := .int) (ty := .int) (a0 := (4, .inl (fun _ => 0))) (N' := 4) hx hb (hts _ q_99) rfl hK.k hP hD hS hA (fun cA => rfl) (by decide) rfl (by decide) (Nat.le_of_ble_eq_true rfl) (Nat.le_of_ble_eq_true rfl) dX2_init_98 (fun q19 ck20 H k20 hP hD hS => ?_)
      rw [arrI_eq k20] at hP hD
      have hP : va_P D vwCl ([(h0, .inr (2, [.int (255 : Int32), .ref q1, .int 0, .ref q8, .ref q10, .ref q12, .int 0, .ref q14, .ref q16, .null, .int 0, .null])), (q1, .inl (cI, 8, .inl f4)), (q8, .inl (cI, 18, .inl (fun _ => 0))), (q10, .inl (cI, 18, .inl (fun _ => 0))), (q12, .inl (cI, 6, .inl (fun _ => 0))), (q14, .inl (cI, 48, .inl (fun _ => 0))), (q16, .inl (cI, 4, .inl f18)), (q19, .inl (cI, 4, .inl (fun _ => 0)))]) H := hP
      have hD : va_D A ([(h0, .inr (2, [.int (255 : Int32), .ref q1, .int 0, .ref q8, .ref q10, .ref q12, .int 0, .ref q14, .ref q16, .null, .int 0, .null])), (q1, .inl (cI, 8, .inl f4)), (q8, .inl (cI, 18, .inl (fun _ => 0))), (q10, .inl (cI, 18, .inl (fun _ => 0))), (q12, .inl (cI, 6, .inl (fun _ => 0))), (q14, .inl (cI, 48, .inl (fun _ => 0))), (q16, .inl (cI, 4, .inl f18)), (q19, .inl (cI, 4, .inl (fun _ => 0)))]) := hD
      refine va_putF (D := D) (ci := 2) (v := .ref q19) (ty := (.array .int)) (C := RX2) (T := TX2) (N := 12) hx hb hts inT2 tyX2 tyX2_ok nmX2 hown hK.k hP hD hS 0 rfl rfl 9 (by decide) (hts _ q_68) (fun _ h9 => h9) rfl (hin rfl) rfl (by decide +kernel) rfl rfl (Nat.le_of_ble_eq_true rfl) dX2_init_100 (fun H locs hP hD hS => ?_)
      have hP : va_P D vwCl ([(h0, .inr (2, [.int (255 : Int32), .ref q1, .int 0, .ref q8, .ref q10, .ref q12, .int 0, .ref q14, .ref q16, .ref q19, .int 0, .null])), (q1, .inl (cI, 8, .inl f4)), (q8, .inl (cI, 18, .inl (fun _ => 0))), (q10, .inl (cI, 18, .inl (fun _ => 0))), (q12, .inl (cI, 6, .inl (fun _ => 0))), (q14, .inl (cI, 48, .inl (fun _ => 0))), (q16, .inl (cI, 4, .inl f18)), (q19, .inl (cI, 4, .inl (fun _ => 0)))]) H := hP
      have hD : va_D A ([(h0, .inr (2, [.int (255 : Int32), .ref q1, .int 0, .ref q8, .ref q10, .ref q12, .int 0, .ref q14, .ref q16, .ref q19, .int 0, .null])), (q1, .inl (cI, 8, .inl f4)), (q8, .inl (cI, 18, .inl (fun _ => 0))), (q10, .inl (cI, 18, .inl (fun _ => 0))), (q12, .inl (cI, 6, .inl (fun _ => 0))), (q14, .inl (cI, 48, .inl (fun _ => 0))), (q16, .inl (cI, 4, .inl f18)), (q19, .inl (cI, 4, .inl (fun _ => 0)))]) := hD
      refine lv_aload_n hx hb dX2_init_103 rfl (lv_at hl 0 rfl) ?_
      refine va_get (D := D) (ci := 2) (v := .ref q19) (C := RX2) (T := TX2) (N := 12) hx hb hts inT2 hown hK.k hP 0 rfl rfl 9 (by decide) (hts _ q_68) (fun _ h9 => h9) rfl dX2_init_104 ?_
      refine lv_iconst (v := (-1 : Int32)) hx hb dX2_init_107 (by decide) ?_
      refine rwSv (wr := List.eraseIdx ([(h0, .inr (2, [.int (255 : Int32), .ref q1, .int 0, .ref q8, .ref q10, .ref q12, .int 0, .ref q14, .ref q16, .ref q19, .int 0, .null])), (q1, .inl (cI, 8, .inl f4)), (q8, .inl (cI, 18, .inl (fun _ => 0))), (q10, .inl (cI, 18, .inl (fun _ => 0))), (q12, .inl (cI, 6, .inl (fun _ => 0))), (q14, .inl (cI, 48, .inl (fun _ => 0))), (q16, .inl (cI, 4, .inl f18)), (q19, .inl (cI, 4, .inl (fun _ => 0)))]) 7) (wf := fun f1 => [(q19, .inl (cI, 4, .inl f1))]) (As := [.ref q19, .int (-1 : Int32)]) (rest := []) (perm_k _ 7 rfl) F (c_J7_fill_53178 l D cI cS cJ q19 4 (fun _ => 0) H.size (-1 : Int32) h) (cw_X2_34 hts (Nat.le_of_ble_eq_true rfl) (Nat.le_of_ble_eq_true rfl)) hK hP hD hS hA rfl hl.1 rfl (Nat.le_of_ble_eq_true rfl) dX2_init_108 ⟨(Nat.le_of_ble_eq_true rfl), (Nat.le_of_ble_eq_true rfl)⟩ (fun f21 H locs h hP hD hS => ?_)
      have hP : va_P D vwCl ([(h0, .inr (2, [.int (255 : Int32), .ref q1, .int 0, .ref q8, .ref q10, .ref q12, .int 0, .ref q14, .ref q16, .ref q19, .int 0, .null])), (q1, .inl (cI, 8, .inl f4)), (q8, .inl (cI, 18, .inl (fun _ => 0))), (q10, .inl (cI, 18, .inl (fun _ => 0))), (q12, .inl (cI, 6, .inl (fun _ => 0))), (q14, .inl (cI, 48, .inl (fun _ => 0))), (q16, .inl (cI, 4, .inl f18)), (q19, .inl (cI, 4, .inl f21))]) H := vP_set1 (k := 7) (ws := [(h0, .inr (2, [.int (255 : Int32), .ref q1, .int 0, .ref q8, .ref q10, .ref q12, .int 0, .ref q14, .ref q16, .ref q19, .int 0, .null])), (q1, .inl (cI, 8, .inl f4)), (q8, .inl (cI, 18, .inl (fun _ => 0))), (q10, .inl (cI, 18, .inl (fun _ => 0))), (q12, .inl (cI, 6, .inl (fun _ => 0))), (q14, .inl (cI, 48, .inl (fun _ => 0))), (q16, .inl (cI, 4, .inl f18)), (q19, .inl (cI, 4, .inl (fun _ => 0)))]) rfl hP
      have hD : va_D A ([(h0, .inr (2, [.int (255 : Int32), .ref q1, .int 0, .ref q8, .ref q10, .ref q12, .int 0, .ref q14, .ref q16, .ref q19, .int 0, .null])), (q1, .inl (cI, 8, .inl f4)), (q8, .inl (cI, 18, .inl (fun _ => 0))), (q10, .inl (cI, 18, .inl (fun _ => 0))), (q12, .inl (cI, 6, .inl (fun _ => 0))), (q14, .inl (cI, 48, .inl (fun _ => 0))), (q16, .inl (cI, 4, .inl f18)), (q19, .inl (cI, 4, .inl f21))]) := vD_set1 (k := 7) (ws := [(h0, .inr (2, [.int (255 : Int32), .ref q1, .int 0, .ref q8, .ref q10, .ref q12, .int 0, .ref q14, .ref q16, .ref q19, .int 0, .null])), (q1, .inl (cI, 8, .inl f4)), (q8, .inl (cI, 18, .inl (fun _ => 0))), (q10, .inl (cI, 18, .inl (fun _ => 0))), (q12, .inl (cI, 6, .inl (fun _ => 0))), (q14, .inl (cI, 48, .inl (fun _ => 0))), (q16, .inl (cI, 4, .inl f18)), (q19, .inl (cI, 4, .inl (fun _ => 0)))]) rfl hD
      refine lv_aload_n hx hb dX2_init_111 rfl (lv_at hl 0 rfl) ?_
      refine lv_iconst (v := (-1 : Int32)) hx hb dX2_init_112 (by decide) ?_
      refine va_put (D := D) (ci := 2) (v := .int (-1 : Int32)) (ty := .int) (C := RX2) (T := TX2) (N := 12) hx hb hts inT2 tyX2 tyX2_ok nmX2 hown hK.k hP hD hS 0 rfl rfl 10 (by decide) (hts _ q_70) (fun _ h9 => h9) rfl (by decide +kernel) rfl rfl (Nat.le_of_ble_eq_true rfl) dX2_init_113 (fun H locs hP hD hS => ?_)
      have hP : va_P D vwCl ([(h0, .inr (2, [.int (255 : Int32), .ref q1, .int 0, .ref q8, .ref q10, .ref q12, .int 0, .ref q14, .ref q16, .ref q19, .int (-1 : Int32), .null])), (q1, .inl (cI, 8, .inl f4)), (q8, .inl (cI, 18, .inl (fun _ => 0))), (q10, .inl (cI, 18, .inl (fun _ => 0))), (q12, .inl (cI, 6, .inl (fun _ => 0))), (q14, .inl (cI, 48, .inl (fun _ => 0))), (q16, .inl (cI, 4, .inl f18)), (q19, .inl (cI, 4, .inl f21))]) H := hP
      have hD : va_D A ([(h0, .inr (2, [.int (255 : Int32), .ref q1, .int 0, .ref q8, .ref q10, .ref q12, .int 0, .ref q14, .ref q16, .ref q19, .int (-1 : Int32), .null])), (q1, .inl (cI, 8, .inl f4)), (q8, .inl (cI, 18, .inl (fun _ => 0))), (q10, .inl (cI, 18, .inl (fun _ => 0))), (q12, .inl (cI, 6, .inl (fun _ => 0))), (q14, .inl (cI, 48, .inl (fun _ => 0))), (q16, .inl (cI, 4, .inl f18)), (q19, .inl (cI, 4, .inl f21))]) := hD
      refine lv_aload_n hx hb dX2_init_116 rfl (lv_at hl 0 rfl) ?_
      refine lv_iconst (v := (5 : Int32)) hx hb dX2_init_117 (by decide) ?_
      refine va_newa (atype := .int) (ty := .int) (a0 := (5, .inl (fun _ => 0))) (N' := 5) hx hb (hts _ q_99) rfl hK.k hP hD hS hA (fun cA => rfl) (by decide) rfl (by decide) (Nat.le_of_ble_eq_true rfl) (Nat.le_of_ble_eq_true rfl) dX2_init_118 (fun q22 ck23 H k23 hP hD hS => ?_)
      rw [arrI_eq k23] at hP hD
      have hP : va_P D vwCl ([(h0, .inr (2, [.int (255 : Int32), .ref q1, .int 0, .ref q8, .ref q10, .ref q12, .int 0, .ref q14, .ref q16, .ref q19, .int (-1 : Int32), .null])), (q1, .inl (cI, 8, .inl f4)), (q8, .inl (cI, 18, .inl (fun _ => 0))), (q10, .inl (cI, 18, .inl (fun _ => 0))), (q12, .inl (cI, 6, .inl (fun _ => 0))), (q14, .inl (cI, 48, .inl (fun _ => 0))), (q16, .inl (cI, 4, .inl f18)), (q19, .inl (cI, 4, .inl f21)), (q22, .inl (cI, 5, .inl (fun _ => 0)))]) H := hP
      have hD : va_D A ([(h0, .inr (2, [.int (255 : Int32), .ref q1, .int 0, .ref q8, .ref q10, .ref q12, .int 0, .ref q14, .ref q16, .ref q19, .int (-1 : Int32), .null])), (q1, .inl (cI, 8, .inl f4)), (q8, .inl (cI, 18, .inl (fun _ => 0))), (q10, .inl (cI, 18, .inl (fun _ => 0))), (q12, .inl (cI, 6, .inl (fun _ => 0))), (q14, .inl (cI, 48, .inl (fun _ => 0))), (q16, .inl (cI, 4, .inl f18)), (q19, .inl (cI, 4, .inl f21)), (q22, .inl (cI, 5, .inl (fun _ => 0)))]) := hD
      refine va_putF (D := D) (ci := 2) (v := .ref q22) (ty := (.array .int)) (C := RX2) (T := TX2) (N := 12) hx hb hts inT2 tyX2 tyX2_ok nmX2 hown hK.k hP hD hS 0 rfl rfl 11 (by decide) (hts _ q_72) (fun _ h9 => h9) rfl (hin rfl) rfl (by decide +kernel) rfl rfl (Nat.le_of_ble_eq_true rfl) dX2_init_120 (fun H locs hP hD hS => ?_)
      have hP : va_P D vwCl ([(h0, .inr (2, [.int (255 : Int32), .ref q1, .int 0, .ref q8, .ref q10, .ref q12, .int 0, .ref q14, .ref q16, .ref q19, .int (-1 : Int32), .ref q22])), (q1, .inl (cI, 8, .inl f4)), (q8, .inl (cI, 18, .inl (fun _ => 0))), (q10, .inl (cI, 18, .inl (fun _ => 0))), (q12, .inl (cI, 6, .inl (fun _ => 0))), (q14, .inl (cI, 48, .inl (fun _ => 0))), (q16, .inl (cI, 4, .inl f18)), (q19, .inl (cI, 4, .inl f21)), (q22, .inl (cI, 5, .inl (fun _ => 0)))]) H := hP
      have hD : va_D A ([(h0, .inr (2, [.int (255 : Int32), .ref q1, .int 0, .ref q8, .ref q10, .ref q12, .int 0, .ref q14, .ref q16, .ref q19, .int (-1 : Int32), .ref q22])), (q1, .inl (cI, 8, .inl f4)), (q8, .inl (cI, 18, .inl (fun _ => 0))), (q10, .inl (cI, 18, .inl (fun _ => 0))), (q12, .inl (cI, 6, .inl (fun _ => 0))), (q14, .inl (cI, 48, .inl (fun _ => 0))), (q16, .inl (cI, 4, .inl f18)), (q19, .inl (cI, 4, .inl f21)), (q22, .inl (cI, 5, .inl (fun _ => 0)))]) := hD
      exact hQ (u := (fun k => ([h0, q1, q8, q10, q12, q14, q16, q19, q22] : List Nat).getD k 0, ((255 : Int32), f4, 0, (fun _ => 0), (fun _ => 0), (fun _ => 0), 0, (fun _ => 0), f18, f21, (-1 : Int32), (fun _ => 0)))) ⟨rfl, h⟩ hP hD hS dX2_init_123
    · replace h := h.2 c7
      refine lv_aload_n hx hb dX2_init_30 rfl (lv_at hl 0 rfl) ?_
      refine va_get (D := D) (ci := 2) (v := .ref q1) (C := RX2) (T := TX2) (N := 12) hx hb hts inT2 hown hK.k hP 0 rfl rfl 1 (by decide) (hts _ q_55) (fun _ h9 => h9) rfl dX2_init_31 ?_
      refine lv_iload_n hx hb dX2_init_34 rfl (lv_at hl 1 rfl) ?_
      refine lv_sipush (v := (1111 : Int32)) hx hb dX2_init_35 (by decide) ?_
      refine lv_iload_n hx hb dX2_init_38 rfl (lv_at hl 1 rfl) ?_
      refine lv_iconst (v := (1 : Int32)) hx hb dX2_init_39 (by decide) ?_
      refine lv_iadd hx hb dX2_init_40 ?_
      refine lv_imul hx hb dX2_init_41 ?_
      refine va_iast hx hb hK.k hP hD hS 1 0 rfl rfl h.1 dX2_init_42 (fun H locs hP hD hS => ?_)
      replace h := h.2
      have hP : va_P D vwCl ([(h0, .inr (2, [.int (255 : Int32), .ref q1, .int 0, .null, .null, .null, .int 0, .null, .null, .null, .int 0, .null])), (q1, .inl (cI, 8, .inl (upd f4 (Int32.toNatClampNeg x3) ((1111 : Int32) * (x3 + (1 : Int32))))))]) H := hP
      have hD : va_D A ([(h0, .inr (2, [.int (255 : Int32), .ref q1, .int 0, .null, .null, .null, .int 0, .null, .null, .null, .int 0, .null])), (q1, .inl (cI, 8, .inl (upd f4 (Int32.toNatClampNeg x3) ((1111 : Int32) * (x3 + (1 : Int32))))))]) := hD
      refine lv_iinc (v := (x3 + 1)) (lv' := [(1, .int (x3 + 1)), (0, .ref h0)]) hx hb dX2_init_43 hl (k := 1) rfl rfl (by decide) rfl (fun ls hl => ?_)
      refine lv_goto (tgt := 21) hx hb dX2_init_46 (by decide) ?_
      exact w6 (x3 + 1) (upd f4 (Int32.toNatClampNeg x3) ((1111 : Int32) * (x3 + (1 : Int32)))) _ _ _ (lv_sub hl [1, 0] rfl) hP hD hS h
  · intro K5 w6 h
    exact w6 (0 : Int32) (fun _ => 0) _ _ _ (lv_sub hl [1, 0] rfl) hP hD hS h
end
section
/-! the two constructors that make objects -/
section
variable {p : Program} {l : Launch} {e : Env} {R : Room} {s : State} {m : MethodId} {args : Array Value} {below : List Frame} {meth : Method} {c : Code} {H H0 : Heap} {locs : List Loc} {cells slots : Nat} {Q : State → Prop} {A : Nat → Prop} {D : va_G} {T : List (ClassId × FieldType)} {ws wc wr : va_W} {pc : Nat} {ls : Array Slot} {rest st0 : List Value}
variable {y : MethodName} {bytes cc : ByteArray} {maxL nL n index : Nat} {rm : Room} {own : String} {b : Addr} {As : List Value} {W9 : List Cond}
theorem rwIv {S : Type} {post : S → Prop} {wf : S → va_W} {mc ms : Nat} (hpm : ws.Perm (wc ++ wr)) (F : CallFix p m c cc nL s args wsT own) (hM : Met l y W9 rm (va_Pc (.ref b :: As) (rwP D T wc H.size)) (va_Qv post (fun u t => va_P D vwCl (wf u) t.heap ∧ va_D (va_A wc H.size) (wf u)) (va_A wc H.size)) mc ms (va_A wc H.size)) (cw : CallB R s args own index y bytes maxL none W9 rm mc ms n ∧ y.name = "<init>" ∧ (Cond.instanceMethod y).before args s = true)
    (hK : KK D T s) (hP : va_P D vwCl ws H) (hD : va_D A ws) (hS : va_S A H0 H locs) (hA : ∀ q, H0.size ≤ q → A q) (hn : As.length = n) (hsz : ls.size = nL) (hst : st0 = As.reverse ++ .ref b :: rest) (hW : (rest.map fun v => v.category).sum ≤ 8) (hdg : decode cc pc = .ok (.invokespecial index, 3)) (hf : cells + mc ≤ R.cells ∧ slots + ms ≤ R.slots)
    (kk : ∀ u H1 locs1, post u → va_P D vwCl (wf u ++ wr) H1 → va_D A (wf u ++ wr) → va_S A H0 H1 locs1 → W p l e R s m args below meth c H1 locs1 (cells + mc) (slots + ms) Q (F0 m (pc + 3) ls rest)) : W p l e R s m args below meth c H locs cells slots Q (F0 m pc ls st0) :=
  rw_kv (va_runI F hM cw (preRW hpm hK hP hD) rfl hn hsz hst (lv_room hW) hdg hf) hpm hP hD hS hA kk
end
theorem famW_congr {cI : ClassId} {A A2 : Nat → Nat → Nat} {S S2 : Nat → St} : ∀ (n : Nat), (∀ k, k < n → A k = A2 k ∧ S k = S2 k) → famW cI A S n = famW cI A2 S2 n
  | 0, _ => rfl
  | n + 1, h => by
    show famW cI A S n ++ stW cI (A n) (S n) = famW cI A2 S2 n ++ stW cI (A2 n) (S2 n)
    rw [famW_congr n (fun k hk => h k (by omega)), (h n (by omega)).1, (h n (by omega)).2]
abbrev dv2 : List Value := [.int 0, .null, .int 0, .null, .null, .null, .int 0, .null, .null, .null, .int 0, .null]
theorem dv2_ok : ∀ j, j < 12 → defaultValue (tyX2 j) = vp_V dv2 j := by
  intro j hj
  rcases (show j = 0 ∨ j = 1 ∨ j = 2 ∨ j = 3 ∨ j = 4 ∨ j = 5 ∨ j = 6 ∨ j = 7 ∨ j = 8 ∨ j = 9 ∨ j = 10 ∨ j = 11 by omega) with rfl | rfl | rfl | rfl | rfl | rfl | rfl | rfl | rfl | rfl | rfl | rfl <;> rfl
abbrev rm_X1_init : Room := { frames := 2, cells := 55, slots := 744, locals := 44 }
abbrev rm_X3_init : Room := { frames := 3, cells := 67, slots := 932, locals := 65 }
theorem q_27 : Cond.initialized RX0 ∈ wsT := tw 27 (by decide +kernel) rfl
theorem q_45 : Cond.instantiable RX2 12 ∈ wsT := tw 45 (by decide +kernel) rfl
theorem q_46 : Cond.methodLink RX3 9 yX2_init ∈ wsT := tw 46 (by decide +kernel) rfl
theorem q_47 : Cond.instanceMethod yX2_init ∈ wsT := tw 47 (by decide +kernel) rfl
theorem q_48 : Cond.code yX2_init cX2_init 2 none ∈ wsT := tw 48 (by decide +kernel) rfl
theorem q_102 : Cond.methodLink RX3 18 yX1_init ∈ wsT := tw 102 (by decide +kernel) rfl
theorem q_103 : Cond.instanceMethod yX1_init ∈ wsT := tw 103 (by decide +kernel) rfl
theorem q_104 : Cond.code yX1_init cX1_init 2 none ∈ wsT := tw 104 (by decide +kernel) rfl
theorem q_105 : Cond.methodLink RX1 3 objectInit ∈ wsT := tw 105 (by decide +kernel) rfl
theorem q_106 : Cond.classLink RX1 9 RX2 ∈ wsT := tw 106 (by decide +kernel) rfl
theorem q_108 : Cond.methodLink RX1 17 yX2_init ∈ wsT := tw 108 (by decide +kernel) rfl
theorem q_122 : Cond.methodLink RX3 25 yX0_init ∈ wsT := tw 122 (by decide +kernel) rfl
theorem q_123 : Cond.instanceMethod yX0_init ∈ wsT := tw 123 (by decide +kernel) rfl
theorem q_124 : Cond.code yX0_init cX0_init 1 none ∈ wsT := tw 124 (by decide +kernel) rfl

theorem ci_X1_17 {R : Room} {s : State} {args : Array Value} (hts : ∀ w ∈ wsT, w.before args s = true) (hf : 1 + 1 ≤ R.frames) (hl : 8 + (2 + 11) + 23 ≤ R.locals) : CallB R s args RX1 17 yX2_init cX2_init 2 none (wsA yX2_init cX2_init 2 none) rm_X2_init 8 111 0 ∧ yX2_init.name = "<init>" ∧ (Cond.instanceMethod yX2_init).before args s = true := cwI 0 hts (gA0 q_48) rfl rfl rfl (hts _ q_24) (hts _ q_108) (hts _ q_47) rfl (by decide +kernel) ⟨hf, hl⟩
theorem ci_X3_9 {R : Room} {s : State} {args : Array Value} (hts : ∀ w ∈ wsT, w.before args s = true) (hf : 1 + 1 ≤ R.frames) (hl : 8 + (2 + 11) + 23 ≤ R.locals) : CallB R s args RX3 9 yX2_init cX2_init 2 none (wsA yX2_init cX2_init 2 none) rm_X2_init 8 111 0 ∧ yX2_init.name = "<init>" ∧ (Cond.instanceMethod yX2_init).before args s = true := cwI 0 hts (gA0 q_48) rfl rfl rfl (hts _ q_24) (hts _ q_46) (hts _ q_47) rfl (by decide +kernel) ⟨hf, hl⟩
theorem ci_X3_18 {R : Room} {s : State} {args : Array Value} (hts : ∀ w ∈ wsT, w.before args s = true) (hf : 2 + 1 ≤ R.frames) (hl : 8 + (2 + 11) + 44 ≤ R.locals) : CallB R s args RX3 18 yX1_init cX1_init 2 none (wsA yX1_init cX1_init 2 none) rm_X1_init 55 744 0 ∧ yX1_init.name = "<init>" ∧ (Cond.instanceMethod yX1_init).before args s = true := cwI 0 hts (gA0 q_104) rfl rfl rfl (hts _ q_26) (hts _ q_102) (hts _ q_103) rfl (by decide +kernel) ⟨hf, hl⟩
theorem ci_X3_25 {R : Room} {s : State} {args : Array Value} (hts : ∀ w ∈ wsT, w.before args s = true) (hf : 1 + 1 ≤ R.frames) (hl : 8 + (1 + 11) + 20 ≤ R.locals) : CallB R s args RX3 25 yX0_init cX0_init 1 none (wsA yX0_init cX0_init 1 none) rm_X0_init 1 60 0 ∧ yX0_init.name = "<init>" ∧ (Cond.instanceMethod yX0_init).before args s = true := cwI 0 hts (gA0 q_124) rfl rfl rfl (hts _ q_27) (hts _ q_122) (hts _ q_123) rfl (by decide +kernel) ⟨hf, hl⟩
/-- the world while the row of saved States fills -/
abbrev x1W (cI cS : ClassId) (h0 q : Nat) (A : Nat → Nat → Nat) (S : Nat → St) (i : Nat) : va_W := [(h0, .inr (1, [.ref q, .int 0, .int 0])), (q, .inl (cS, 6, .inr (.inr (.inr (.inr (slF A i))))))] ++ famW cI A S i
set_option maxHeartbeats 4000000 in
set_option maxRecDepth 100000 in
theorem c_X1_init (l : Launch) (D : va_G) (cI cS cJ : ClassId) (h0 : Nat) (sz : Nat) (hw0 : wp_X2_init (fun _ => True)) {post : Sv → Prop} (h : ∀ S, post (S, 0, 0)) : Met l yX1_init (wsA yX1_init cX1_init 2 none) rm_X1_init (va_Pc [.ref h0] (fun U => rwP D (tysA cI cS cJ) [(h0, .inr (1, [.null, .int 0, .int 0]))] sz U ∧ va_AO RX2 U)) (va_Qv (fun r9 : (Nat × (Nat → Nat → Nat)) × Sv => post r9.2) (fun r9 t => va_P D vwCl (ssX cI cS h0 r9.1.1 r9.1.2 r9.2) t.heap ∧ va_D (va_A [(h0, .inr (1, [.null, .int 0, .int 0]))] sz) (ssX cI cS h0 r9.1.1 r9.1.2 r9.2)) (va_A [(h0, .inr (1, [.null, .int 0, .int 0]))] sz)) 55 744 (va_A [(h0, .inr (1, [.null, .int 0, .int 0]))] sz) := by
  refine va_MetF (cc := cX1_init) (maxL := 2) (ret := none) (by decide +kernel) rfl ?_
  intro p e s m args below meth c s₁ B hml hv
  obtain ⟨rfl, ⟨hsz, hP, hK, hD0⟩, hAO⟩ := hv
  have hts : ∀ w ∈ wsT, w.before ([.ref h0] : List Value).toArray s = true := fun w h => atoms_spec (ws := wsA yX1_init cX1_init 2 none) B.pre w (List.mem_cons_of_mem _ h)
  have hl := lv_entry [.ref h0] (n := 2) (Nat.le_of_ble_eq_true rfl)
  rw [lg_entry_eq]
  generalize (lg_sl ([.ref h0]) ++ List.replicate (2 - (lg_sl ([.ref h0])).length) Slot.unset).toArray = ls at hl ⊢
  subst hsz
  have hx := B.exec
  have hb := B.bytes
  have hown : s.vm.findClass RX1 = some m.cls := findClass_of_methodNamed B.named
  have F : CallFix p m c cX1_init 2 s ([.ref h0] : List Value).toArray wsT RX1 := ⟨hx, hb, hml, hown, hts⟩
  have hin : meth.name = "<init>" := (name_of_methodNamed B.named B.method).1
  have hl : lv_has ls 2 [(0, .ref h0)] := hl
  have hD := hD0.self (sz := s.heap.size)
  generalize hAe : va_A [(h0, .inr (1, [.null, .int 0, .int 0]))] s.heap.size = A at hD ⊢
  have hA : ∀ q : Nat, s.heap.size ≤ q → A q := fun q h => by rw [← hAe]; exact Or.inr h
  have hS : va_S A s.heap s.heap [] := va_S.rf
  refine lv_aload_n hx hb dX1_init_0 rfl (lv_at hl 0 rfl) ?_
  refine W.objInit hx hb hown (hts _ q_105) (hts _ q_42) (hts _ q_43) rfl (by rw [hml]; exact hl.1) rfl dX1_init_1 (Nat.le_of_ble_eq_true rfl) (Nat.le_of_ble_eq_true rfl) ?_
  refine W.eq (g2 := F0 m 4 ls []) rfl ?_
  refine lv_aload_n hx hb dX1_init_4 rfl (lv_at hl 0 rfl) ?_
  refine lv_bipush (v := (6 : Int32)) hx hb dX1_init_5 (by decide) ?_
  refine va_newq (N' := 6) hx hb hown (hts _ q_106) hAO hK.k hP hD hS hA (by decide) rfl (by decide) (Nat.le_of_ble_eq_true rfl) (Nat.le_of_ble_eq_true rfl) dX1_init_7 (fun q cq H hKq hP hD hS => ?_)
  rw [arrS_eq hKq] at hP hD
  refine va_putF (D := D) (ci := 1) (v := .ref q) (ty := .array (.object RX2)) (C := RX1) (T := TX1) (N := 3) hx hb hts inT1 tyX1 tyX1_ok nmX1 hown hK.k hP hD hS 0 rfl rfl 0 (by decide) (hts _ q_109) (fun _ h9 => h9) rfl hin rfl (by decide +kernel) rfl rfl (Nat.le_of_ble_eq_true rfl) dX1_init_10 (fun H locs hP hD hS => ?_)
  refine lv_iconst (v := (0 : Int32)) hx hb dX1_init_13 (by decide) ?_
  refine lv_istore_n (lv' := [(1, .int 0), (0, .ref h0)]) hx hb dX1_init_14 rfl hl (by decide) rfl (fun ls hl => ?_)
  have L : ∀ (n i : Nat), i + n = 6 → ∀ (A' : Nat → Nat → Nat) (S : Nat → St) (ls : Array Slot) (H : Heap) (locs : List Loc), lv_has ls 2 [(0, .ref h0), (1, .int (nI i))] → va_P D vwCl (x1W cI cS h0 q A' S i) H → va_D A (x1W cI cS h0 q A' S i) → va_S A s.heap H locs → W p l e rm_X1_init s m ([.ref h0] : List Value).toArray below meth c H locs (1 + 9 * i) (6 + 123 * i) (MQ below (va_Qv (fun r9 : (Nat × (Nat → Nat → Nat)) × Sv => post r9.2) (fun r9 t => va_P D vwCl (ssX cI cS h0 r9.1.1 r9.1.2 r9.2) t.heap ∧ va_D A (ssX cI cS h0 r9.1.1 r9.1.2 r9.2)) A) ([.ref h0] : List Value).toArray s 55 744 A) (F0 m 15 ls []) := by
    intro n
    induction n with
    | zero =>
      intro i hi A' S ls H locs hl hP hD hS
      obtain rfl : i = 6 := by omega
      refine lv_iload_n hx hb dX1_init_15 rfl (lv_at hl 1 rfl) ?_
      refine lv_aload_n hx hb dX1_init_16 rfl (lv_at hl 0 rfl) ?_
      refine va_get (D := D) (ci := 1) (v := .ref q) (C := RX1) (T := TX1) (N := 3) hx hb hts inT1 hown hK.k hP 0 rfl rfl 0 (by decide) (hts _ q_109) (fun _ h9 => h9) rfl dX1_init_17 ?_
      refine va_alen (v := nI 6) hx hb hK.k hP 1 1 rfl rfl rfl dX1_init_20 ?_
      refine lv_icmp_ge (tgt := 43) hx hb dX1_init_21 (by decide) (fun _ => ?_) (fun c1 => absurd (nI_le (Nat.le_refl 6) (by decide)) c1)
      exact W.vret hx hb B.returns (fun t ht hW => ⟨⟨((q, A'), (S, 0, 0)), rfl, h S, by rw [ht]; exact hP, hD⟩, hS.F ht⟩) hS.2.2 dX1_init_43 B.notSynchronized
    | succ n ih =>
      intro i hi A' S ls H locs hl hP hD hS
      have hi6 : i < 6 := by omega
      refine lv_iload_n hx hb dX1_init_15 rfl (lv_at hl 1 rfl) ?_
      refine lv_aload_n hx hb dX1_init_16 rfl (lv_at hl 0 rfl) ?_
      refine va_get (D := D) (ci := 1) (v := .ref q) (C := RX1) (T := TX1) (N := 3) hx hb hts inT1 hown hK.k hP 0 rfl rfl 0 (by decide) (hts _ q_109) (fun _ h9 => h9) rfl dX1_init_17 ?_
      refine va_alen (v := nI 6) hx hb hK.k hP 1 1 rfl rfl rfl dX1_init_20 ?_
      refine lv_icmp_ge (tgt := 43) hx hb dX1_init_21 (by decide) (fun c1 => absurd c1 (nI_ge hi6 (by decide))) (fun _ => ?_)
      refine lv_aload_n hx hb dX1_init_24 rfl (lv_at hl 0 rfl) ?_
      refine va_get (D := D) (ci := 1) (v := .ref q) (C := RX1) (T := TX1) (N := 3) hx hb hts inT1 hown hK.k hP 0 rfl rfl 0 (by decide) (hts _ q_109) (fun _ h9 => h9) rfl dX1_init_25 ?_
      refine lv_iload_n hx hb dX1_init_28 rfl (lv_at hl 1 rfl) ?_
      refine va_new (ci := 2) (fs := dv2) (C := RX2) (T := TX2) (N := 12) hx hb hts inT2 tyX2 tyX2_ok hown (hts _ q_106) (hts _ q_45) (hts _ q_24) hK.k hP hD hS hA rfl dv2_ok (show 1 + 9 * i + 1 ≤ 55 by omega) (show 6 + 123 * i + 12 ≤ 744 by omega) dX1_init_29 (fun q2 H hP hD hS => ?_)
      refine lv_dup hx hb dX1_init_32 rfl ?_
      refine rwIv (wc := [(q2, .inr (2, dv2))]) (wr := x1W cI cS h0 q A' S i) (As := []) (rest := [.ref q2, .int (nI i), .ref q]) List.perm_append_comm F (c_X2_init l D cI cS cJ q2 H.size hw0) (ci_X1_17 hts (Nat.le_of_ble_eq_true rfl) (Nat.le_of_ble_eq_true rfl)) hK hP hD hS hA rfl hl.1 rfl (Nat.le_of_ble_eq_true rfl) dX1_init_33 ⟨show 1 + 9 * i + 1 + 8 ≤ 55 by omega, show 6 + 123 * i + 12 + 111 ≤ 744 by omega⟩ (fun u H locs hu hP2 hD2 hS2 => ?_)
      obtain ⟨a, u⟩ := u
      obtain ⟨ha, -⟩ := hu
      have ha : a 0 = q2 := ha
      subst ha
      have hP : va_P D vwCl (stW cI a u ++ x1W cI cS h0 q A' S i) H := hP2
      have hD : va_D A (stW cI a u ++ x1W cI cS h0 q A' S i) := hD2
      have hS := hS2
      refine va_astq (r := (RX2, TX2, 12)) hx hb hK.k hP hD hS 10 1 0 2 rfl rfl rfl rfl (vp_in_nI hi6 (by decide)) dX1_init_36 (fun H locs hP hD hS => ?_)
      have er : va_up (slF A' i) (nI i).toNatClampNeg (some (a 0)) = slF (va_up A' i a) (i + 1) := by
        rw [nI_clamp (by omega)]
        funext k
        by_cases hk : k = i
        · subst hk
          rw [va_up_self]
          simp [slF, va_up_self]
        · rw [va_up_ne _ _ hk]
          simp only [slF, va_up_ne _ _ hk]
          by_cases h1 : k < i
          · rw [if_pos h1, if_pos (by omega)]
          · rw [if_neg h1, if_neg (by omega)]
      rw [er] at hP hD
      have ef : famW cI A' S i = famW cI (va_up A' i a) (va_up S i u) i := famW_congr i (fun k hk => ⟨(va_up_ne _ _ (by omega)).symm, (va_up_ne _ _ (by omega)).symm⟩)
      have hpm : (stW cI a u ++ (([(h0, .inr (1, [.ref q, .int 0, .int 0])), (q, .inl (cS, 6, .inr (.inr (.inr (.inr (slF (va_up A' i a) (i + 1)))))))] : va_W) ++ famW cI A' S i)).Perm (x1W cI cS h0 q (va_up A' i a) (va_up S i u) (i + 1)) := by
        refine List.Perm.trans (List.perm_append_comm) ?_
        rw [ef]
        show List.Perm _ (_ ++ (famW cI (va_up A' i a) (va_up S i u) i ++ stW cI (va_up A' i a i) (va_up S i u i)))
        rw [va_up_self, va_up_self, List.append_assoc]
      have hP : va_P D vwCl (x1W cI cS h0 q (va_up A' i a) (va_up S i u) (i + 1)) H := vP_perm hpm hP
      have hD : va_D A (x1W cI cS h0 q (va_up A' i a) (va_up S i u) (i + 1)) := vD_perm hpm hD
      refine lv_iinc (v := nI (i + 1)) (lv' := [(1, .int (nI (i + 1))), (0, .ref h0)]) hx hb dX1_init_37 hl (k := 1) rfl (nI_1 i) (by decide) rfl (fun ls hl => ?_)
      refine lv_goto (tgt := 15) hx hb dX1_init_40 (by decide) ?_
      refine W.widen (k := 1 + 9 * (i + 1)) (n := 6 + 123 * (i + 1)) (by omega) (by omega) ?_
      exact ih (i + 1) (by omega) _ _ ls H locs (lv_sub hl [1, 0] rfl) hP hD hS
  refine W.widen (k := 1 + 9 * 0) (n := 6 + 123 * 0) (by decide) (by decide) ?_
  have e0 : (fun _ => none : Nat → Option Nat) = slF (fun _ _ => 0) 0 := by funext k; simp [slF]
  exact L 6 0 rfl (fun _ _ => 0) (fun _ => (0, fun _ => 0, 0, fun _ => 0, fun _ => 0, fun _ => 0, 0, fun _ => 0, fun _ => 0, fun _ => 0, 0, fun _ => 0)) ls H locs (lv_sub hl [1, 0] rfl) (by rw [e0] at hP; exact hP) (by rw [e0] at hD; exact hD) hS
end
section
/-! the object is made -/
def mkG (a d : Nat → Nat) (h q r : Nat) (A : Nat → Nat → Nat) : Nat → Nat → Nat := fun i => match i with
  | 0 => a
  | 1 => d
  | 2 => fun j => match j with
    | 0 => h
    | 1 => q
    | _ => r
  | k + 3 => A k
theorem mkG_3 (a d : Nat → Nat) (h q r : Nat) (A : Nat → Nat → Nat) : (fun k => mkG a d h q r A (3 + k)) = A := by
  funext k
  rw [Nat.add_comm]
  rfl
theorem fs1_ok : ∀ j, j < 3 → defaultValue (tyX1 j) = vp_V [.null, .int 0, .int 0] j := by
  intro j hj
  rcases (show j = 0 ∨ j = 1 ∨ j = 2 by omega) with rfl | rfl | rfl <;> rfl
theorem fs0_ok : ∀ j, j < 2 → defaultValue (tyX0 j) = vp_V [.null, .int 0] j := by
  intro j hj
  rcases (show j = 0 ∨ j = 1 by omega) with rfl | rfl <;> rfl
theorem preAO {D : va_G} {T : List (ClassId × FieldType)} {ws wc wr : va_W} {s : State} {H : Heap} {A : Nat → Prop} {av : List Value} (hpm : ws.Perm (wc ++ wr)) (hK : KK D T s) (hAO : va_AO RX2 s) (hP : va_P D vwCl ws H) (hD : va_D A ws) : PreS s H (va_Pc av (fun U => rwP D T wc H.size U ∧ va_AO RX2 U)) av :=
  ⟨fun a U g mk q => ⟨q.1, ⟨q.2.1.1, q.2.1.2.1, KK.calling g mk a q.2.1.2.2.1, q.2.1.2.2.2⟩, va_AO.moved (u := U) (Vm.Alike.refl U.vm) q.2.2⟩, fun U hU hW => ⟨rfl, ((preRW (av := av) hpm hK hP hD).2 U hU hW).2, va_AO.moved hW.alike hAO⟩⟩
theorem q_41 : Cond.methodLink RX3 1 objectInit ∈ wsT := tw 41 (by decide +kernel) rfl
theorem q_44 : Cond.classLink RX3 7 RX2 ∈ wsT := tw 44 (by decide +kernel) rfl
theorem q_100 : Cond.classLink RX3 16 RX1 ∈ wsT := tw 100 (by decide +kernel) rfl
theorem q_101 : Cond.instantiable RX1 3 ∈ wsT := tw 101 (by decide +kernel) rfl
theorem q_120 : Cond.classLink RX3 23 RX0 ∈ wsT := tw 120 (by decide +kernel) rfl
theorem q_121 : Cond.instantiable RX0 2 ∈ wsT := tw 121 (by decide +kernel) rfl
theorem q_134 : Cond.fieldLink RX3 26 "NestedEnvelopes" "text" "LNestedEnvelopes$OrderText;" ∈ wsT := tw 134 (by decide +kernel) rfl

set_option maxHeartbeats 4000000 in
set_option maxRecDepth 100000 in
theorem c_X3_init (l : Launch) (D : va_G) (cI cS cJ : ClassId) (h0 : Nat) (sz : Nat) (hw0 : wp_X2_init (fun _ => True)) {post : Ne → Prop} (h : wp_X2_init (fun u => ∀ S, wp_X0_init (fun t => post (u, t, (S, 0, 0))))) : Met l yX3_init (wsA yX3_init cX3_init 1 none) rm_X3_init (va_Pc [.ref h0] (fun U => rwP D (tysA cI cS cJ) [(h0, .inr (3, [.null, .null, .null]))] sz U ∧ va_AO RX2 U)) (va_Qv (fun r9 : (Nat → Nat → Nat) × Ne => r9.1 2 0 = h0 ∧ post r9.2) (fun r9 t => va_P D vwCl (neW cI cS r9.1 r9.2) t.heap ∧ va_D (va_A [(h0, .inr (3, [.null, .null, .null]))] sz) (neW cI cS r9.1 r9.2)) (va_A [(h0, .inr (3, [.null, .null, .null]))] sz)) 67 932 (va_A [(h0, .inr (3, [.null, .null, .null]))] sz) := by
  refine va_MetF (cc := cX3_init) (maxL := 1) (ret := none) (by decide +kernel) rfl ?_
  intro p e s m args below meth c s₁ B hml hv
  obtain ⟨rfl, ⟨hsz, hP, hK, hD0⟩, hAO⟩ := hv
  have hts : ∀ w ∈ wsT, w.before ([.ref h0] : List Value).toArray s = true := fun w h => atoms_spec (ws := wsA yX3_init cX3_init 1 none) B.pre w (List.mem_cons_of_mem _ h)
  have hl := lv_entry [.ref h0] (n := 1) (Nat.le_of_ble_eq_true rfl)
  rw [lg_entry_eq]
  generalize (lg_sl ([.ref h0]) ++ List.replicate (1 - (lg_sl ([.ref h0])).length) Slot.unset).toArray = ls at hl ⊢
  subst hsz
  have hx := B.exec
  have hb := B.bytes
  have hown : s.vm.findClass RX3 = some m.cls := findClass_of_methodNamed B.named
  have F : CallFix p m c cX3_init 1 s ([.ref h0] : List Value).toArray wsT RX3 := ⟨hx, hb, hml, hown, hts⟩
  have hin : meth.name = "<init>" := (name_of_methodNamed B.named B.method).1
  have hl : lv_has ls 1 [(0, .ref h0)] := hl
  have hD := hD0.self (sz := s.heap.size)
  generalize hAe : va_A [(h0, .inr (3, [.null, .null, .null]))] s.heap.size = A at hD ⊢
  have hA : ∀ q : Nat, s.heap.size ≤ q → A q := fun q h => by rw [← hAe]; exact Or.inr h
  have hS : va_S A s.heap s.heap [] := va_S.rf
  refine lv_aload_n hx hb dX3_init_0 rfl (lv_at hl 0 rfl) ?_
  refine W.objInit hx hb hown (hts _ q_41) (hts _ q_42) (hts _ q_43) rfl (by rw [hml]; exact hl.1) rfl dX3_init_1 (Nat.le_of_ble_eq_true rfl) (Nat.le_of_ble_eq_true rfl) ?_
  refine W.eq (g2 := F0 m 4 ls []) rfl ?_
  refine lv_aload_n hx hb dX3_init_4 rfl (lv_at hl 0 rfl) ?_
  refine va_new (ci := 2) (fs := dv2) (C := RX2) (T := TX2) (N := 12) hx hb hts inT2 tyX2 tyX2_ok hown (hts _ q_44) (hts _ q_45) (hts _ q_24) hK.k hP hD hS hA rfl dv2_ok (Nat.le_of_ble_eq_true rfl) (Nat.le_of_ble_eq_true rfl) dX3_init_5 (fun q2 H hP hD hS => ?_)
  refine lv_dup hx hb dX3_init_8 rfl ?_
  refine rwIv (wc := [(q2, .inr (2, dv2))]) (wr := [(h0, .inr (3, [.null, .null, .null]))]) (As := []) (rest := [.ref q2, .ref h0]) List.perm_append_comm F (c_X2_init l D cI cS cJ q2 H.size h) (ci_X3_9 hts (Nat.le_of_ble_eq_true rfl) (Nat.le_of_ble_eq_true rfl)) hK hP hD hS hA rfl hl.1 rfl (Nat.le_of_ble_eq_true rfl) dX3_init_9 ⟨(Nat.le_of_ble_eq_true rfl), (Nat.le_of_ble_eq_true rfl)⟩ (fun u H locs hu hP2 hD2 hS2 => ?_)
  obtain ⟨a, u⟩ := u
  obtain ⟨ha, h⟩ := hu
  have ha : a 0 = q2 := ha
  subst ha
  have hP : va_P D vwCl (([(h0, .inr (3, [.null, .null, .null]))] : va_W) ++ stW cI a u) H := vP_perm List.perm_append_comm hP2
  have hD : va_D A (([(h0, .inr (3, [.null, .null, .null]))] : va_W) ++ stW cI a u) := vD_perm List.perm_append_comm hD2
  have hS := hS2
  refine va_putF (D := D) (ci := 3) (v := .ref (a 0)) (ty := .object RX2) (C := RX3) (T := TX3) (N := 3) hx hb hts inT3 tyX3 tyX3_ok nmX3 hown hK.k hP hD hS 0 rfl rfl 0 (by decide) (hts _ q_132) (fun _ h9 => h9) rfl hin rfl (by decide +kernel) rfl rfl (Nat.le_of_ble_eq_true rfl) dX3_init_12 (fun H locs hP hD hS => ?_)
  have hP : va_P D vwCl (([(h0, .inr (3, [.ref (a 0), .null, .null]))] : va_W) ++ stW cI a u) H := hP
  have hD : va_D A (([(h0, .inr (3, [.ref (a 0), .null, .null]))] : va_W) ++ stW cI a u) := hD
  refine lv_aload_n hx hb dX3_init_15 rfl (lv_at hl 0 rfl) ?_
  refine va_new (ci := 1) (fs := [.null, .int 0, .int 0]) (C := RX1) (T := TX1) (N := 3) hx hb hts inT1 tyX1 tyX1_ok hown (hts _ q_100) (hts _ q_101) (hts _ q_26) hK.k hP hD hS hA rfl fs1_ok (Nat.le_of_ble_eq_true rfl) (Nat.le_of_ble_eq_true rfl) dX3_init_16 (fun q3 H hP hD hS => ?_)
  refine lv_dup hx hb dX3_init_19 rfl ?_
  refine rw_kv (wc := [(q3, .inr (1, [.null, .int 0, .int 0]))]) (wr := ([(h0, .inr (3, [.ref (a 0), .null, .null]))] : va_W) ++ stW cI a u) (va_runI (As := []) (rest := [.ref q3, .ref h0]) F (c_X1_init l D cI cS cJ q3 H.size hw0 (post := fun v => wp_X0_init (fun t => post (u, t, v))) h) (ci_X3_18 hts (Nat.le_of_ble_eq_true rfl) (Nat.le_of_ble_eq_true rfl)) (preAO List.perm_append_comm hK hAO hP hD) rfl rfl hl.1 rfl (lv_room (Nat.le_of_ble_eq_true rfl)) dX3_init_20 ⟨(Nat.le_of_ble_eq_true rfl), (Nat.le_of_ble_eq_true rfl)⟩) List.perm_append_comm hP hD hS hA (fun v H locs hv hP2 hD2 hS2 => ?_)
  obtain ⟨⟨q, A'⟩, v⟩ := v
  have hv : wp_X0_init (fun t => post (u, t, v)) := hv
  have hP : va_P D vwCl ((([(h0, .inr (3, [.ref (a 0), .null, .null]))] : va_W) ++ stW cI a u) ++ ssX cI cS q3 q A' v) H := vP_perm List.perm_append_comm hP2
  have hD : va_D A ((([(h0, .inr (3, [.ref (a 0), .null, .null]))] : va_W) ++ stW cI a u) ++ ssX cI cS q3 q A' v) := vD_perm List.perm_append_comm hD2
  have hS := hS2
  refine va_putF (D := D) (ci := 3) (v := .ref q3) (ty := .object RX1) (C := RX3) (T := TX3) (N := 3) hx hb hts inT3 tyX3 tyX3_ok nmX3 hown hK.k hP hD hS 0 rfl rfl 1 (by decide) (hts _ q_133) (fun _ h9 => h9) rfl hin rfl (by decide +kernel) rfl rfl (Nat.le_of_ble_eq_true rfl) dX3_init_23 (fun H locs hP hD hS => ?_)
  have hP : va_P D vwCl ((([(h0, .inr (3, [.ref (a 0), .ref q3, .null]))] : va_W) ++ stW cI a u) ++ ssX cI cS q3 q A' v) H := hP
  have hD : va_D A ((([(h0, .inr (3, [.ref (a 0), .ref q3, .null]))] : va_W) ++ stW cI a u) ++ ssX cI cS q3 q A' v) := hD
  refine lv_aload_n hx hb dX3_init_26 rfl (lv_at hl 0 rfl) ?_
  refine va_new (ci := 0) (fs := [.null, .int 0]) (C := RX0) (T := TX0) (N := 2) hx hb hts inT0 tyX0 tyX0_ok hown (hts _ q_120) (hts _ q_121) (hts _ q_27) hK.k hP hD hS hA rfl fs0_ok (Nat.le_of_ble_eq_true rfl) (Nat.le_of_ble_eq_true rfl) dX3_init_27 (fun q4 H hP hD hS => ?_)
  refine lv_dup hx hb dX3_init_30 rfl ?_
  refine rwIv (wc := [(q4, .inr (0, [.null, .int 0]))]) (wr := (([(h0, .inr (3, [.ref (a 0), .ref q3, .null]))] : va_W) ++ stW cI a u) ++ ssX cI cS q3 q A' v) (As := []) (rest := [.ref q4, .ref h0]) List.perm_append_comm F (c_X0_init l D cI cS cJ q4 H.size hv) (ci_X3_25 hts (Nat.le_of_ble_eq_true rfl) (Nat.le_of_ble_eq_true rfl)) hK hP hD hS hA rfl hl.1 rfl (Nat.le_of_ble_eq_true rfl) dX3_init_31 ⟨(Nat.le_of_ble_eq_true rfl), (Nat.le_of_ble_eq_true rfl)⟩ (fun t H locs ht9 hP2 hD2 hS2 => ?_)
  obtain ⟨d, t⟩ := t
  obtain ⟨hd, h⟩ := ht9
  have hd : d 0 = q4 := hd
  have hP : va_P D vwCl (((([(h0, .inr (3, [.ref (a 0), .ref q3, .null]))] : va_W) ++ stW cI a u) ++ ssX cI cS q3 q A' v) ++ otW cI d t) H := vP_perm List.perm_append_comm hP2
  have hD : va_D A (((([(h0, .inr (3, [.ref (a 0), .ref q3, .null]))] : va_W) ++ stW cI a u) ++ ssX cI cS q3 q A' v) ++ otW cI d t) := vD_perm List.perm_append_comm hD2
  have hS := hS2
  refine va_putF (D := D) (ci := 3) (v := .ref q4) (ty := .object RX0) (C := RX3) (T := TX3) (N := 3) hx hb hts inT3 tyX3 tyX3_ok nmX3 hown hK.k hP hD hS 0 rfl rfl 2 (by decide) (hts _ q_134) (fun _ h9 => h9) rfl hin rfl (by decide +kernel) rfl rfl (Nat.le_of_ble_eq_true rfl) dX3_init_34 (fun H locs hP hD hS => ?_)
  have hpm : (((([(h0, .inr (3, [.ref (a 0), .ref q3, .ref q4]))] : va_W) ++ stW cI a u) ++ ssX cI cS q3 q A' v) ++ otW cI d t).Perm (neW cI cS (mkG a d h0 q3 q A') (u, t, v)) := by
    rw [← hd, List.append_assoc, List.append_assoc]
    refine List.Perm.append_left _ (List.Perm.append_left _ ?_)
    show List.Perm _ (otW cI d t ++ ssX cI cS q3 q (fun k => mkG a d h0 q3 q A' (3 + k)) v)
    rw [mkG_3]
    exact List.perm_append_comm
  have hP : va_P D vwCl (neW cI cS (mkG a d h0 q3 q A') (u, t, v)) H := vP_perm hpm hP
  have hD : va_D A (neW cI cS (mkG a d h0 q3 q A') (u, t, v)) := vD_perm hpm hD
  exact W.vret hx hb B.returns (fun t9 ht hW => ⟨⟨(mkG a d h0 q3 q A', (u, t, v)), rfl, ⟨rfl, h⟩, by rw [ht]; exact hP, hD⟩, hS.F ht⟩) hS.2.2 dX3_init_37 B.notSynchronized
end
